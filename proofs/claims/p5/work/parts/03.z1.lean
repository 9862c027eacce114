theorem dX0_init_0 : decode cX0_init 0 = .ok (.aload_n 0, 1) := by decide +kernel
theorem dX0_init_1 : decode cX0_init 1 = .ok (.invokespecial 1, 3) := by decide +kernel
theorem dX0_init_4 : decode cX0_init 4 = .ok (.return_, 1) := by decide +kernel
theorem dX1_init_0 : decode cX1_init 0 = .ok (.aload_n 0, 1) := by decide +kernel
theorem dX1_init_1 : decode cX1_init 1 = .ok (.invokespecial 3, 3) := by decide +kernel
theorem dX1_init_4 : decode cX1_init 4 = .ok (.aload_n 0, 1) := by decide +kernel
theorem dX1_init_5 : decode cX1_init 5 = .ok (.bipush 40, 2) := by decide +kernel
theorem dX1_init_7 : decode cX1_init 7 = .ok (.newarray .int, 2) := by decide +kernel
theorem dX1_init_9 : decode cX1_init 9 = .ok (.putfield 9, 3) := by decide +kernel
theorem dX1_init_12 : decode cX1_init 12 = .ok (.aload_n 0, 1) := by decide +kernel
theorem dX1_init_13 : decode cX1_init 13 = .ok (.bipush 8, 2) := by decide +kernel
theorem dX1_init_15 : decode cX1_init 15 = .ok (.newarray .int, 2) := by decide +kernel
theorem dX1_init_17 : decode cX1_init 17 = .ok (.putfield 15, 3) := by decide +kernel
theorem dX1_init_20 : decode cX1_init 20 = .ok (.aload_n 0, 1) := by decide +kernel
theorem dX1_init_21 : decode cX1_init 21 = .ok (.iconst 0, 1) := by decide +kernel
theorem dX1_init_22 : decode cX1_init 22 = .ok (.putfield 18, 3) := by decide +kernel
theorem dX1_init_25 : decode cX1_init 25 = .ok (.aload_n 0, 1) := by decide +kernel
theorem dX1_init_26 : decode cX1_init 26 = .ok (.iconst 0, 1) := by decide +kernel
theorem dX1_init_27 : decode cX1_init 27 = .ok (.putfield 22, 3) := by decide +kernel
theorem dX1_init_30 : decode cX1_init 30 = .ok (.aload_n 0, 1) := by decide +kernel
theorem dX1_init_31 : decode cX1_init 31 = .ok (.sipush 288, 3) := by decide +kernel
theorem dX1_init_34 : decode cX1_init 34 = .ok (.newarray .int, 2) := by decide +kernel
theorem dX1_init_36 : decode cX1_init 36 = .ok (.putfield 25, 3) := by decide +kernel
theorem dX1_init_39 : decode cX1_init 39 = .ok (.return_, 1) := by decide +kernel
theorem dX1_solve_0 : decode cX1_solve 0 = .ok (.aload_n 0, 1) := by decide +kernel
theorem dX1_solve_1 : decode cX1_solve 1 = .ok (.getfield 25, 3) := by decide +kernel
theorem dX1_solve_4 : decode cX1_solve 4 = .ok (.iconst 0, 1) := by decide +kernel
theorem dX1_solve_5 : decode cX1_solve 5 = .ok (.invokestatic 28, 3) := by decide +kernel
theorem dX1_solve_8 : decode cX1_solve 8 = .ok (.iload_n 1, 1) := by decide +kernel
theorem dX1_solve_9 : decode cX1_solve 9 = .ok (.iconst 1, 1) := by decide +kernel
theorem dX1_solve_10 : decode cX1_solve 10 = .ok (.isub, 1) := by decide +kernel
theorem dX1_solve_11 : decode cX1_solve 11 = .ok (.istore_n 3, 1) := by decide +kernel
theorem dX1_solve_12 : decode cX1_solve 12 = .ok (.iload_n 3, 1) := by decide +kernel
theorem dX1_solve_13 : decode cX1_solve 13 = .ok (.ifCond .lt 87, 3) := by decide +kernel
theorem dX1_solve_16 : decode cX1_solve 16 = .ok (.iconst 0, 1) := by decide +kernel
theorem dX1_solve_17 : decode cX1_solve 17 = .ok (.istore 4, 2) := by decide +kernel
theorem dX1_solve_19 : decode cX1_solve 19 = .ok (.iload 4, 2) := by decide +kernel
theorem dX1_solve_21 : decode cX1_solve 21 = .ok (.iconst 1, 1) := by decide +kernel
theorem dX1_solve_22 : decode cX1_solve 22 = .ok (.iload_n 2, 1) := by decide +kernel
theorem dX1_solve_23 : decode cX1_solve 23 = .ok (.ishl, 1) := by decide +kernel
theorem dX1_solve_24 : decode cX1_solve 24 = .ok (.if_icmp .ge 70, 3) := by decide +kernel
theorem dX1_solve_27 : decode cX1_solve 27 = .ok (.aload_n 0, 1) := by decide +kernel
theorem dX1_solve_28 : decode cX1_solve 28 = .ok (.getfield 25, 3) := by decide +kernel
theorem dX1_solve_31 : decode cX1_solve 31 = .ok (.iload_n 3, 1) := by decide +kernel
theorem dX1_solve_32 : decode cX1_solve 32 = .ok (.iconst 1, 1) := by decide +kernel
theorem dX1_solve_33 : decode cX1_solve 33 = .ok (.iadd, 1) := by decide +kernel
theorem dX1_solve_34 : decode cX1_solve 34 = .ok (.bipush 32, 2) := by decide +kernel
theorem dX1_solve_36 : decode cX1_solve 36 = .ok (.imul, 1) := by decide +kernel
theorem dX1_solve_37 : decode cX1_solve 37 = .ok (.iload 4, 2) := by decide +kernel
theorem dX1_solve_39 : decode cX1_solve 39 = .ok (.iadd, 1) := by decide +kernel
theorem dX1_solve_40 : decode cX1_solve 40 = .ok (.iaload, 1) := by decide +kernel
theorem dX1_solve_41 : decode cX1_solve 41 = .ok (.istore 5, 2) := by decide +kernel
theorem dX1_solve_43 : decode cX1_solve 43 = .ok (.iconst 0, 1) := by decide +kernel
theorem dX1_solve_44 : decode cX1_solve 44 = .ok (.istore 6, 2) := by decide +kernel
theorem dX1_solve_46 : decode cX1_solve 46 = .ok (.iload 6, 2) := by decide +kernel
theorem dX1_solve_48 : decode cX1_solve 48 = .ok (.iload_n 2, 1) := by decide +kernel
theorem dX1_solve_49 : decode cX1_solve 49 = .ok (.if_icmp .ge 25, 3) := by decide +kernel
theorem dX1_solve_52 : decode cX1_solve 52 = .ok (.iload 5, 2) := by decide +kernel
theorem dX1_solve_54 : decode cX1_solve 54 = .ok (.aload_n 0, 1) := by decide +kernel
theorem dX1_solve_55 : decode cX1_solve 55 = .ok (.iload_n 3, 1) := by decide +kernel
theorem dX1_solve_56 : decode cX1_solve 56 = .ok (.iload 6, 2) := by decide +kernel
theorem dX1_solve_58 : decode cX1_solve 58 = .ok (.iload 4, 2) := by decide +kernel
theorem dX1_solve_60 : decode cX1_solve 60 = .ok (.invokevirtual 34, 3) := by decide +kernel
theorem dX1_solve_63 : decode cX1_solve 63 = .ok (.invokestatic 38, 3) := by decide +kernel
theorem dX1_solve_66 : decode cX1_solve 66 = .ok (.istore 5, 2) := by decide +kernel
theorem dX1_solve_68 : decode cX1_solve 68 = .ok (.iinc 6 1, 3) := by decide +kernel
theorem dX1_solve_71 : decode cX1_solve 71 = .ok (.goto (-25), 3) := by decide +kernel
theorem dX1_solve_74 : decode cX1_solve 74 = .ok (.aload_n 0, 1) := by decide +kernel
theorem dX1_solve_75 : decode cX1_solve 75 = .ok (.getfield 25, 3) := by decide +kernel
theorem dX1_solve_78 : decode cX1_solve 78 = .ok (.iload_n 3, 1) := by decide +kernel
theorem dX1_solve_79 : decode cX1_solve 79 = .ok (.bipush 32, 2) := by decide +kernel
theorem dX1_solve_81 : decode cX1_solve 81 = .ok (.imul, 1) := by decide +kernel
theorem dX1_solve_82 : decode cX1_solve 82 = .ok (.iload 4, 2) := by decide +kernel
theorem dX1_solve_84 : decode cX1_solve 84 = .ok (.iadd, 1) := by decide +kernel
theorem dX1_solve_85 : decode cX1_solve 85 = .ok (.iload 5, 2) := by decide +kernel
theorem dX1_solve_87 : decode cX1_solve 87 = .ok (.iastore, 1) := by decide +kernel
theorem dX1_solve_88 : decode cX1_solve 88 = .ok (.iinc 4 1, 3) := by decide +kernel
theorem dX1_solve_91 : decode cX1_solve 91 = .ok (.goto (-72), 3) := by decide +kernel
theorem dX1_solve_94 : decode cX1_solve 94 = .ok (.iinc 3 (-1), 3) := by decide +kernel
theorem dX1_solve_97 : decode cX1_solve 97 = .ok (.goto (-85), 3) := by decide +kernel
theorem dX1_solve_100 : decode cX1_solve 100 = .ok (.aload_n 0, 1) := by decide +kernel
theorem dX1_solve_101 : decode cX1_solve 101 = .ok (.iload_n 1, 1) := by decide +kernel
theorem dX1_solve_102 : decode cX1_solve 102 = .ok (.iload_n 2, 1) := by decide +kernel
theorem dX1_solve_103 : decode cX1_solve 103 = .ok (.invokevirtual 44, 3) := by decide +kernel
theorem dX1_solve_106 : decode cX1_solve 106 = .ok (.return_, 1) := by decide +kernel
theorem dX1_worth_0 : decode cX1_worth 0 = .ok (.aload_n 0, 1) := by decide +kernel
theorem dX1_worth_1 : decode cX1_worth 1 = .ok (.getfield 9, 3) := by decide +kernel
theorem dX1_worth_4 : decode cX1_worth 4 = .ok (.iload_n 1, 1) := by decide +kernel
theorem dX1_worth_5 : decode cX1_worth 5 = .ok (.iconst 5, 1) := by decide +kernel
theorem dX1_worth_6 : decode cX1_worth 6 = .ok (.imul, 1) := by decide +kernel
theorem dX1_worth_7 : decode cX1_worth 7 = .ok (.iload_n 2, 1) := by decide +kernel
theorem dX1_worth_8 : decode cX1_worth 8 = .ok (.iadd, 1) := by decide +kernel
theorem dX1_worth_9 : decode cX1_worth 9 = .ok (.iaload, 1) := by decide +kernel
theorem dX1_worth_10 : decode cX1_worth 10 = .ok (.istore 4, 2) := by decide +kernel
theorem dX1_worth_12 : decode cX1_worth 12 = .ok (.iload 4, 2) := by decide +kernel
theorem dX1_worth_14 : decode cX1_worth 14 = .ok (.bipush (-2), 2) := by decide +kernel
theorem dX1_worth_16 : decode cX1_worth 16 = .ok (.if_icmp .eq 11, 3) := by decide +kernel
theorem dX1_worth_19 : decode cX1_worth 19 = .ok (.iload_n 3, 1) := by decide +kernel
theorem dX1_worth_20 : decode cX1_worth 20 = .ok (.iload_n 2, 1) := by decide +kernel
theorem dX1_worth_21 : decode cX1_worth 21 = .ok (.ishr, 1) := by decide +kernel
theorem dX1_worth_22 : decode cX1_worth 22 = .ok (.iconst 1, 1) := by decide +kernel
theorem dX1_worth_23 : decode cX1_worth 23 = .ok (.iand, 1) := by decide +kernel
theorem dX1_worth_24 : decode cX1_worth 24 = .ok (.ifCond .eq 6, 3) := by decide +kernel
theorem dX1_worth_27 : decode cX1_worth 27 = .ok (.bipush (-2), 2) := by decide +kernel
theorem dX1_worth_29 : decode cX1_worth 29 = .ok (.ireturn, 1) := by decide +kernel
theorem dX1_worth_30 : decode cX1_worth 30 = .ok (.ldc 48, 2) := by decide +kernel
theorem dX1_worth_32 : decode cX1_worth 32 = .ok (.iload 4, 2) := by decide +kernel
theorem dX1_worth_34 : decode cX1_worth 34 = .ok (.isub, 1) := by decide +kernel
theorem dX1_worth_35 : decode cX1_worth 35 = .ok (.aload_n 0, 1) := by decide +kernel
theorem dX1_worth_36 : decode cX1_worth 36 = .ok (.getfield 25, 3) := by decide +kernel
theorem dX1_worth_39 : decode cX1_worth 39 = .ok (.iload_n 1, 1) := by decide +kernel
theorem dX1_worth_40 : decode cX1_worth 40 = .ok (.iconst 1, 1) := by decide +kernel
theorem dX1_worth_41 : decode cX1_worth 41 = .ok (.iadd, 1) := by decide +kernel
theorem dX1_worth_42 : decode cX1_worth 42 = .ok (.bipush 32, 2) := by decide +kernel
theorem dX1_worth_44 : decode cX1_worth 44 = .ok (.imul, 1) := by decide +kernel
theorem dX1_worth_45 : decode cX1_worth 45 = .ok (.iload_n 3, 1) := by decide +kernel
theorem dX1_worth_46 : decode cX1_worth 46 = .ok (.iconst 1, 1) := by decide +kernel
theorem dX1_worth_47 : decode cX1_worth 47 = .ok (.iload_n 2, 1) := by decide +kernel
theorem dX1_worth_48 : decode cX1_worth 48 = .ok (.ishl, 1) := by decide +kernel
theorem dX1_worth_49 : decode cX1_worth 49 = .ok (.ior, 1) := by decide +kernel
theorem dX1_worth_50 : decode cX1_worth 50 = .ok (.iadd, 1) := by decide +kernel
theorem dX1_worth_51 : decode cX1_worth 51 = .ok (.iaload, 1) := by decide +kernel
theorem dX1_worth_52 : decode cX1_worth 52 = .ok (.iadd, 1) := by decide +kernel
theorem dX1_worth_53 : decode cX1_worth 53 = .ok (.ireturn, 1) := by decide +kernel
theorem dX1_choose_0 : decode cX1_choose 0 = .ok (.aload_n 0, 1) := by decide +kernel
theorem dX1_choose_1 : decode cX1_choose 1 = .ok (.iconst 0, 1) := by decide +kernel
theorem dX1_choose_2 : decode cX1_choose 2 = .ok (.putfield 18, 3) := by decide +kernel
theorem dX1_choose_5 : decode cX1_choose 5 = .ok (.aload_n 0, 1) := by decide +kernel
theorem dX1_choose_6 : decode cX1_choose 6 = .ok (.iconst 0, 1) := by decide +kernel
theorem dX1_choose_7 : decode cX1_choose 7 = .ok (.putfield 22, 3) := by decide +kernel
theorem dX1_choose_10 : decode cX1_choose 10 = .ok (.iconst 0, 1) := by decide +kernel
theorem dX1_choose_11 : decode cX1_choose 11 = .ok (.istore_n 3, 1) := by decide +kernel
theorem dX1_choose_12 : decode cX1_choose 12 = .ok (.iconst 0, 1) := by decide +kernel
theorem dX1_choose_13 : decode cX1_choose 13 = .ok (.istore 4, 2) := by decide +kernel
theorem dX1_choose_15 : decode cX1_choose 15 = .ok (.iload 4, 2) := by decide +kernel
theorem dX1_choose_17 : decode cX1_choose 17 = .ok (.iload_n 1, 1) := by decide +kernel
theorem dX1_choose_18 : decode cX1_choose 18 = .ok (.if_icmp .ge 73, 3) := by decide +kernel
theorem dX1_choose_21 : decode cX1_choose 21 = .ok (.aload_n 0, 1) := by decide +kernel
theorem dX1_choose_22 : decode cX1_choose 22 = .ok (.iload 4, 2) := by decide +kernel
theorem dX1_choose_24 : decode cX1_choose 24 = .ok (.iload_n 2, 1) := by decide +kernel
theorem dX1_choose_25 : decode cX1_choose 25 = .ok (.iload_n 3, 1) := by decide +kernel
theorem dX1_choose_26 : decode cX1_choose 26 = .ok (.invokevirtual 49, 3) := by decide +kernel
theorem dX1_choose_29 : decode cX1_choose 29 = .ok (.istore 5, 2) := by decide +kernel
theorem dX1_choose_31 : decode cX1_choose 31 = .ok (.aload_n 0, 1) := by decide +kernel
theorem dX1_choose_32 : decode cX1_choose 32 = .ok (.getfield 15, 3) := by decide +kernel
theorem dX1_choose_35 : decode cX1_choose 35 = .ok (.iload 4, 2) := by decide +kernel
theorem dX1_choose_37 : decode cX1_choose 37 = .ok (.iload 5, 2) := by decide +kernel
theorem dX1_choose_39 : decode cX1_choose 39 = .ok (.iastore, 1) := by decide +kernel
theorem dX1_choose_40 : decode cX1_choose 40 = .ok (.iload 5, 2) := by decide +kernel
theorem dX1_choose_42 : decode cX1_choose 42 = .ok (.bipush (-2), 2) := by decide +kernel
theorem dX1_choose_44 : decode cX1_choose 44 = .ok (.if_icmp .eq 41, 3) := by decide +kernel
theorem dX1_choose_47 : decode cX1_choose 47 = .ok (.aload_n 0, 1) := by decide +kernel
theorem dX1_choose_48 : decode cX1_choose 48 = .ok (.dup, 1) := by decide +kernel
theorem dX1_choose_49 : decode cX1_choose 49 = .ok (.getfield 18, 3) := by decide +kernel
theorem dX1_choose_52 : decode cX1_choose 52 = .ok (.iconst 1, 1) := by decide +kernel
theorem dX1_choose_53 : decode cX1_choose 53 = .ok (.iadd, 1) := by decide +kernel
theorem dX1_choose_54 : decode cX1_choose 54 = .ok (.putfield 18, 3) := by decide +kernel
theorem dX1_choose_57 : decode cX1_choose 57 = .ok (.aload_n 0, 1) := by decide +kernel
theorem dX1_choose_58 : decode cX1_choose 58 = .ok (.dup, 1) := by decide +kernel
theorem dX1_choose_59 : decode cX1_choose 59 = .ok (.getfield 22, 3) := by decide +kernel
theorem dX1_choose_62 : decode cX1_choose 62 = .ok (.aload_n 0, 1) := by decide +kernel
theorem dX1_choose_63 : decode cX1_choose 63 = .ok (.getfield 9, 3) := by decide +kernel
theorem dX1_choose_66 : decode cX1_choose 66 = .ok (.iload 4, 2) := by decide +kernel
theorem dX1_choose_68 : decode cX1_choose 68 = .ok (.iconst 5, 1) := by decide +kernel
theorem dX1_choose_69 : decode cX1_choose 69 = .ok (.imul, 1) := by decide +kernel
theorem dX1_choose_70 : decode cX1_choose 70 = .ok (.iload 5, 2) := by decide +kernel
theorem dX1_choose_72 : decode cX1_choose 72 = .ok (.iadd, 1) := by decide +kernel
theorem dX1_choose_73 : decode cX1_choose 73 = .ok (.iaload, 1) := by decide +kernel
theorem dX1_choose_74 : decode cX1_choose 74 = .ok (.iadd, 1) := by decide +kernel
theorem dX1_choose_75 : decode cX1_choose 75 = .ok (.putfield 22, 3) := by decide +kernel
theorem dX1_choose_78 : decode cX1_choose 78 = .ok (.iload_n 3, 1) := by decide +kernel
theorem dX1_choose_79 : decode cX1_choose 79 = .ok (.iconst 1, 1) := by decide +kernel
theorem dX1_choose_80 : decode cX1_choose 80 = .ok (.iload 5, 2) := by decide +kernel
theorem dX1_choose_82 : decode cX1_choose 82 = .ok (.ishl, 1) := by decide +kernel
theorem dX1_choose_83 : decode cX1_choose 83 = .ok (.ior, 1) := by decide +kernel
theorem dX1_choose_84 : decode cX1_choose 84 = .ok (.istore_n 3, 1) := by decide +kernel
theorem dX1_choose_85 : decode cX1_choose 85 = .ok (.iinc 4 1, 3) := by decide +kernel
theorem dX1_choose_88 : decode cX1_choose 88 = .ok (.goto (-73), 3) := by decide +kernel
theorem dX1_choose_91 : decode cX1_choose 91 = .ok (.return_, 1) := by decide +kernel
theorem dX1_firstBest_0 : decode cX1_firstBest 0 = .ok (.iconst 0, 1) := by decide +kernel
theorem dX1_firstBest_1 : decode cX1_firstBest 1 = .ok (.istore 4, 2) := by decide +kernel
theorem dX1_firstBest_3 : decode cX1_firstBest 3 = .ok (.iload 4, 2) := by decide +kernel
theorem dX1_firstBest_5 : decode cX1_firstBest 5 = .ok (.iload_n 2, 1) := by decide +kernel
theorem dX1_firstBest_6 : decode cX1_firstBest 6 = .ok (.if_icmp .ge 34, 3) := by decide +kernel
theorem dX1_firstBest_9 : decode cX1_firstBest 9 = .ok (.aload_n 0, 1) := by decide +kernel
theorem dX1_firstBest_10 : decode cX1_firstBest 10 = .ok (.iload_n 1, 1) := by decide +kernel
theorem dX1_firstBest_11 : decode cX1_firstBest 11 = .ok (.iload 4, 2) := by decide +kernel
theorem dX1_firstBest_13 : decode cX1_firstBest 13 = .ok (.iload_n 3, 1) := by decide +kernel
theorem dX1_firstBest_14 : decode cX1_firstBest 14 = .ok (.invokevirtual 34, 3) := by decide +kernel
theorem dX1_firstBest_17 : decode cX1_firstBest 17 = .ok (.aload_n 0, 1) := by decide +kernel
theorem dX1_firstBest_18 : decode cX1_firstBest 18 = .ok (.getfield 25, 3) := by decide +kernel
theorem dX1_firstBest_21 : decode cX1_firstBest 21 = .ok (.iload_n 1, 1) := by decide +kernel
theorem dX1_firstBest_22 : decode cX1_firstBest 22 = .ok (.bipush 32, 2) := by decide +kernel
theorem dX1_firstBest_24 : decode cX1_firstBest 24 = .ok (.imul, 1) := by decide +kernel
theorem dX1_firstBest_25 : decode cX1_firstBest 25 = .ok (.iload_n 3, 1) := by decide +kernel
theorem dX1_firstBest_26 : decode cX1_firstBest 26 = .ok (.iadd, 1) := by decide +kernel
theorem dX1_firstBest_27 : decode cX1_firstBest 27 = .ok (.iaload, 1) := by decide +kernel
theorem dX1_firstBest_28 : decode cX1_firstBest 28 = .ok (.if_icmp .ne 6, 3) := by decide +kernel
theorem dX1_firstBest_31 : decode cX1_firstBest 31 = .ok (.iload 4, 2) := by decide +kernel
theorem dX1_firstBest_33 : decode cX1_firstBest 33 = .ok (.ireturn, 1) := by decide +kernel
theorem dX1_firstBest_34 : decode cX1_firstBest 34 = .ok (.iinc 4 1, 3) := by decide +kernel
theorem dX1_firstBest_37 : decode cX1_firstBest 37 = .ok (.goto (-34), 3) := by decide +kernel
theorem dX1_firstBest_40 : decode cX1_firstBest 40 = .ok (.bipush (-2), 2) := by decide +kernel
theorem dX1_firstBest_42 : decode cX1_firstBest 42 = .ok (.ireturn, 1) := by decide +kernel
theorem dX2_init_0 : decode cX2_init 0 = .ok (.aload_n 0, 1) := by decide +kernel
theorem dX2_init_1 : decode cX2_init 1 = .ok (.invokespecial 3, 3) := by decide +kernel
theorem dX2_init_4 : decode cX2_init 4 = .ok (.aload_n 0, 1) := by decide +kernel
theorem dX2_init_5 : decode cX2_init 5 = .ok (.iconst 0, 1) := by decide +kernel
theorem dX2_init_6 : decode cX2_init 6 = .ok (.putfield 9, 3) := by decide +kernel
theorem dX2_init_9 : decode cX2_init 9 = .ok (.aload_n 0, 1) := by decide +kernel
theorem dX2_init_10 : decode cX2_init 10 = .ok (.iconst 0, 1) := by decide +kernel
theorem dX2_init_11 : decode cX2_init 11 = .ok (.putfield 15, 3) := by decide +kernel
theorem dX2_init_14 : decode cX2_init 14 = .ok (.aload_n 0, 1) := by decide +kernel
theorem dX2_init_15 : decode cX2_init 15 = .ok (.iconst 5, 1) := by decide +kernel
theorem dX2_init_16 : decode cX2_init 16 = .ok (.newarray .int, 2) := by decide +kernel
theorem dX2_init_18 : decode cX2_init 18 = .ok (.putfield 18, 3) := by decide +kernel
theorem dX2_init_21 : decode cX2_init 21 = .ok (.aload_n 0, 1) := by decide +kernel
theorem dX2_init_22 : decode cX2_init 22 = .ok (.iconst 5, 1) := by decide +kernel
theorem dX2_init_23 : decode cX2_init 23 = .ok (.newarray .int, 2) := by decide +kernel
theorem dX2_init_25 : decode cX2_init 25 = .ok (.putfield 22, 3) := by decide +kernel
theorem dX2_init_28 : decode cX2_init 28 = .ok (.aload_n 0, 1) := by decide +kernel
theorem dX2_init_29 : decode cX2_init 29 = .ok (.bipush 8, 2) := by decide +kernel
theorem dX2_init_31 : decode cX2_init 31 = .ok (.newarray .int, 2) := by decide +kernel
theorem dX2_init_33 : decode cX2_init 33 = .ok (.putfield 25, 3) := by decide +kernel
theorem dX2_init_36 : decode cX2_init 36 = .ok (.aload_n 0, 1) := by decide +kernel
theorem dX2_init_37 : decode cX2_init 37 = .ok (.bipush 8, 2) := by decide +kernel
theorem dX2_init_39 : decode cX2_init 39 = .ok (.newarray .int, 2) := by decide +kernel
theorem dX2_init_41 : decode cX2_init 41 = .ok (.putfield 28, 3) := by decide +kernel
theorem dX2_init_44 : decode cX2_init 44 = .ok (.aload_n 0, 1) := by decide +kernel
theorem dX2_init_45 : decode cX2_init 45 = .ok (.bipush 8, 2) := by decide +kernel
theorem dX2_init_47 : decode cX2_init 47 = .ok (.newarray .int, 2) := by decide +kernel
theorem dX2_init_49 : decode cX2_init 49 = .ok (.putfield 31, 3) := by decide +kernel
theorem dX2_init_52 : decode cX2_init 52 = .ok (.return_, 1) := by decide +kernel
theorem dX2_begin_0 : decode cX2_begin 0 = .ok (.aload_n 0, 1) := by decide +kernel
theorem dX2_begin_1 : decode cX2_begin 1 = .ok (.iconst 0, 1) := by decide +kernel
theorem dX2_begin_2 : decode cX2_begin 2 = .ok (.putfield 9, 3) := by decide +kernel
theorem dX2_begin_5 : decode cX2_begin 5 = .ok (.aload_n 0, 1) := by decide +kernel
theorem dX2_begin_6 : decode cX2_begin 6 = .ok (.iconst 0, 1) := by decide +kernel
theorem dX2_begin_7 : decode cX2_begin 7 = .ok (.putfield 15, 3) := by decide +kernel
theorem dX2_begin_10 : decode cX2_begin 10 = .ok (.iconst 0, 1) := by decide +kernel
theorem dX2_begin_11 : decode cX2_begin 11 = .ok (.istore_n 2, 1) := by decide +kernel
theorem dX2_begin_12 : decode cX2_begin 12 = .ok (.iload_n 2, 1) := by decide +kernel
theorem dX2_begin_13 : decode cX2_begin 13 = .ok (.aload_n 1, 1) := by decide +kernel
theorem dX2_begin_14 : decode cX2_begin 14 = .ok (.getfield 34, 3) := by decide +kernel
theorem dX2_begin_17 : decode cX2_begin 17 = .ok (.if_icmp .ge 31, 3) := by decide +kernel
theorem dX2_begin_20 : decode cX2_begin 20 = .ok (.aload_n 0, 1) := by decide +kernel
theorem dX2_begin_21 : decode cX2_begin 21 = .ok (.getfield 18, 3) := by decide +kernel
theorem dX2_begin_24 : decode cX2_begin 24 = .ok (.iload_n 2, 1) := by decide +kernel
theorem dX2_begin_25 : decode cX2_begin 25 = .ok (.aload_n 1, 1) := by decide +kernel
theorem dX2_begin_26 : decode cX2_begin 26 = .ok (.getfield 39, 3) := by decide +kernel
theorem dX2_begin_29 : decode cX2_begin 29 = .ok (.iload_n 2, 1) := by decide +kernel
theorem dX2_begin_30 : decode cX2_begin 30 = .ok (.aaload, 1) := by decide +kernel
theorem dX2_begin_31 : decode cX2_begin 31 = .ok (.getfield 43, 3) := by decide +kernel
theorem dX2_begin_34 : decode cX2_begin 34 = .ok (.iastore, 1) := by decide +kernel
theorem dX2_begin_35 : decode cX2_begin 35 = .ok (.aload_n 0, 1) := by decide +kernel
theorem dX2_begin_36 : decode cX2_begin 36 = .ok (.getfield 22, 3) := by decide +kernel
theorem dX2_begin_39 : decode cX2_begin 39 = .ok (.iload_n 2, 1) := by decide +kernel
theorem dX2_begin_40 : decode cX2_begin 40 = .ok (.iconst 0, 1) := by decide +kernel
theorem dX2_begin_41 : decode cX2_begin 41 = .ok (.iastore, 1) := by decide +kernel
theorem dX2_begin_42 : decode cX2_begin 42 = .ok (.iinc 2 1, 3) := by decide +kernel
theorem dX2_begin_45 : decode cX2_begin 45 = .ok (.goto (-33), 3) := by decide +kernel
theorem dX2_begin_48 : decode cX2_begin 48 = .ok (.iconst 0, 1) := by decide +kernel
theorem dX2_begin_49 : decode cX2_begin 49 = .ok (.istore_n 2, 1) := by decide +kernel
theorem dX2_begin_50 : decode cX2_begin 50 = .ok (.iload_n 2, 1) := by decide +kernel
theorem dX2_begin_51 : decode cX2_begin 51 = .ok (.aload_n 1, 1) := by decide +kernel
theorem dX2_begin_52 : decode cX2_begin 52 = .ok (.getfield 48, 3) := by decide +kernel
theorem dX2_begin_55 : decode cX2_begin 55 = .ok (.if_icmp .ge 45, 3) := by decide +kernel
theorem dX2_begin_58 : decode cX2_begin 58 = .ok (.aload_n 0, 1) := by decide +kernel
theorem dX2_begin_59 : decode cX2_begin 59 = .ok (.getfield 25, 3) := by decide +kernel
theorem dX2_begin_62 : decode cX2_begin 62 = .ok (.iload_n 2, 1) := by decide +kernel
theorem dX2_begin_63 : decode cX2_begin 63 = .ok (.bipush (-2), 2) := by decide +kernel
theorem dX2_begin_65 : decode cX2_begin 65 = .ok (.iastore, 1) := by decide +kernel
theorem dX2_begin_66 : decode cX2_begin 66 = .ok (.aload_n 0, 1) := by decide +kernel
theorem dX2_begin_67 : decode cX2_begin 67 = .ok (.getfield 28, 3) := by decide +kernel
theorem dX2_begin_70 : decode cX2_begin 70 = .ok (.iload_n 2, 1) := by decide +kernel
theorem dX2_begin_71 : decode cX2_begin 71 = .ok (.bipush (-2), 2) := by decide +kernel
theorem dX2_begin_73 : decode cX2_begin 73 = .ok (.iastore, 1) := by decide +kernel
theorem dX2_begin_74 : decode cX2_begin 74 = .ok (.aload_n 0, 1) := by decide +kernel
theorem dX2_begin_75 : decode cX2_begin 75 = .ok (.getfield 31, 3) := by decide +kernel
theorem dX2_begin_78 : decode cX2_begin 78 = .ok (.iload_n 2, 1) := by decide +kernel
theorem dX2_begin_79 : decode cX2_begin 79 = .ok (.aload_n 1, 1) := by decide +kernel
theorem dX2_begin_80 : decode cX2_begin 80 = .ok (.getfield 51, 3) := by decide +kernel
theorem dX2_begin_83 : decode cX2_begin 83 = .ok (.aload_n 1, 1) := by decide +kernel
theorem dX2_begin_84 : decode cX2_begin 84 = .ok (.getfield 54, 3) := by decide +kernel
theorem dX2_begin_87 : decode cX2_begin 87 = .ok (.iload_n 2, 1) := by decide +kernel
theorem dX2_begin_88 : decode cX2_begin 88 = .ok (.aaload, 1) := by decide +kernel
theorem dX2_begin_89 : decode cX2_begin 89 = .ok (.getfield 58, 3) := by decide +kernel
theorem dX2_begin_92 : decode cX2_begin 92 = .ok (.iaload, 1) := by decide +kernel
theorem dX2_begin_93 : decode cX2_begin 93 = .ok (.iastore, 1) := by decide +kernel
theorem dX2_begin_94 : decode cX2_begin 94 = .ok (.iinc 2 1, 3) := by decide +kernel
theorem dX2_begin_97 : decode cX2_begin 97 = .ok (.goto (-47), 3) := by decide +kernel
theorem dX2_begin_100 : decode cX2_begin 100 = .ok (.return_, 1) := by decide +kernel
theorem dX2_copyFrom_0 : decode cX2_copyFrom 0 = .ok (.aload_n 0, 1) := by decide +kernel
theorem dX2_copyFrom_1 : decode cX2_copyFrom 1 = .ok (.aload_n 1, 1) := by decide +kernel
theorem dX2_copyFrom_2 : decode cX2_copyFrom 2 = .ok (.getfield 9, 3) := by decide +kernel
theorem dX2_copyFrom_5 : decode cX2_copyFrom 5 = .ok (.putfield 9, 3) := by decide +kernel
theorem dX2_copyFrom_8 : decode cX2_copyFrom 8 = .ok (.aload_n 0, 1) := by decide +kernel
theorem dX2_copyFrom_9 : decode cX2_copyFrom 9 = .ok (.aload_n 1, 1) := by decide +kernel
theorem dX2_copyFrom_10 : decode cX2_copyFrom 10 = .ok (.getfield 15, 3) := by decide +kernel
theorem dX2_copyFrom_13 : decode cX2_copyFrom 13 = .ok (.putfield 15, 3) := by decide +kernel
theorem dX2_copyFrom_16 : decode cX2_copyFrom 16 = .ok (.aload_n 1, 1) := by decide +kernel
theorem dX2_copyFrom_17 : decode cX2_copyFrom 17 = .ok (.getfield 18, 3) := by decide +kernel
theorem dX2_copyFrom_20 : decode cX2_copyFrom 20 = .ok (.iconst 0, 1) := by decide +kernel
theorem dX2_copyFrom_21 : decode cX2_copyFrom 21 = .ok (.aload_n 0, 1) := by decide +kernel
theorem dX2_copyFrom_22 : decode cX2_copyFrom 22 = .ok (.getfield 18, 3) := by decide +kernel
theorem dX2_copyFrom_25 : decode cX2_copyFrom 25 = .ok (.iconst 0, 1) := by decide +kernel
theorem dX2_copyFrom_26 : decode cX2_copyFrom 26 = .ok (.iconst 5, 1) := by decide +kernel
theorem dX2_copyFrom_27 : decode cX2_copyFrom 27 = .ok (.invokestatic 63, 3) := by decide +kernel
theorem dX2_copyFrom_30 : decode cX2_copyFrom 30 = .ok (.aload_n 1, 1) := by decide +kernel
theorem dX2_copyFrom_31 : decode cX2_copyFrom 31 = .ok (.getfield 22, 3) := by decide +kernel
theorem dX2_copyFrom_34 : decode cX2_copyFrom 34 = .ok (.iconst 0, 1) := by decide +kernel
theorem dX2_copyFrom_35 : decode cX2_copyFrom 35 = .ok (.aload_n 0, 1) := by decide +kernel
theorem dX2_copyFrom_36 : decode cX2_copyFrom 36 = .ok (.getfield 22, 3) := by decide +kernel
theorem dX2_copyFrom_39 : decode cX2_copyFrom 39 = .ok (.iconst 0, 1) := by decide +kernel
theorem dX2_copyFrom_40 : decode cX2_copyFrom 40 = .ok (.iconst 5, 1) := by decide +kernel
theorem dX2_copyFrom_41 : decode cX2_copyFrom 41 = .ok (.invokestatic 63, 3) := by decide +kernel
theorem dX2_copyFrom_44 : decode cX2_copyFrom 44 = .ok (.aload_n 1, 1) := by decide +kernel
theorem dX2_copyFrom_45 : decode cX2_copyFrom 45 = .ok (.getfield 25, 3) := by decide +kernel
theorem dX2_copyFrom_48 : decode cX2_copyFrom 48 = .ok (.iconst 0, 1) := by decide +kernel
theorem dX2_copyFrom_49 : decode cX2_copyFrom 49 = .ok (.aload_n 0, 1) := by decide +kernel
theorem dX2_copyFrom_50 : decode cX2_copyFrom 50 = .ok (.getfield 25, 3) := by decide +kernel
theorem dX2_copyFrom_53 : decode cX2_copyFrom 53 = .ok (.iconst 0, 1) := by decide +kernel
theorem dX2_copyFrom_54 : decode cX2_copyFrom 54 = .ok (.bipush 8, 2) := by decide +kernel
theorem dX2_copyFrom_56 : decode cX2_copyFrom 56 = .ok (.invokestatic 63, 3) := by decide +kernel
theorem dX2_copyFrom_59 : decode cX2_copyFrom 59 = .ok (.aload_n 1, 1) := by decide +kernel
theorem dX2_copyFrom_60 : decode cX2_copyFrom 60 = .ok (.getfield 28, 3) := by decide +kernel
theorem dX2_copyFrom_63 : decode cX2_copyFrom 63 = .ok (.iconst 0, 1) := by decide +kernel
theorem dX2_copyFrom_64 : decode cX2_copyFrom 64 = .ok (.aload_n 0, 1) := by decide +kernel
theorem dX2_copyFrom_65 : decode cX2_copyFrom 65 = .ok (.getfield 28, 3) := by decide +kernel
theorem dX2_copyFrom_68 : decode cX2_copyFrom 68 = .ok (.iconst 0, 1) := by decide +kernel
theorem dX2_copyFrom_69 : decode cX2_copyFrom 69 = .ok (.bipush 8, 2) := by decide +kernel
theorem dX2_copyFrom_71 : decode cX2_copyFrom 71 = .ok (.invokestatic 63, 3) := by decide +kernel
theorem dX2_copyFrom_74 : decode cX2_copyFrom 74 = .ok (.aload_n 1, 1) := by decide +kernel
theorem dX2_copyFrom_75 : decode cX2_copyFrom 75 = .ok (.getfield 31, 3) := by decide +kernel
theorem dX2_copyFrom_78 : decode cX2_copyFrom 78 = .ok (.iconst 0, 1) := by decide +kernel
theorem dX2_copyFrom_79 : decode cX2_copyFrom 79 = .ok (.aload_n 0, 1) := by decide +kernel
theorem dX2_copyFrom_80 : decode cX2_copyFrom 80 = .ok (.getfield 31, 3) := by decide +kernel
theorem dX2_copyFrom_83 : decode cX2_copyFrom 83 = .ok (.iconst 0, 1) := by decide +kernel
theorem dX2_copyFrom_84 : decode cX2_copyFrom 84 = .ok (.bipush 8, 2) := by decide +kernel
theorem dX2_copyFrom_86 : decode cX2_copyFrom 86 = .ok (.invokestatic 63, 3) := by decide +kernel
theorem dX2_copyFrom_89 : decode cX2_copyFrom 89 = .ok (.return_, 1) := by decide +kernel
theorem dX2_isClosed_0 : decode cX2_isClosed 0 = .ok (.aload_n 0, 1) := by decide +kernel
theorem dX2_isClosed_1 : decode cX2_isClosed 1 = .ok (.getfield 15, 3) := by decide +kernel
theorem dX2_isClosed_4 : decode cX2_isClosed 4 = .ok (.iload_n 1, 1) := by decide +kernel
theorem dX2_isClosed_5 : decode cX2_isClosed 5 = .ok (.ishr, 1) := by decide +kernel
theorem dX2_isClosed_6 : decode cX2_isClosed 6 = .ok (.iconst 1, 1) := by decide +kernel
theorem dX2_isClosed_7 : decode cX2_isClosed 7 = .ok (.iand, 1) := by decide +kernel
theorem dX2_isClosed_8 : decode cX2_isClosed 8 = .ok (.ifCond .eq 7, 3) := by decide +kernel
theorem dX2_isClosed_11 : decode cX2_isClosed 11 = .ok (.iconst 1, 1) := by decide +kernel
theorem dX2_isClosed_12 : decode cX2_isClosed 12 = .ok (.goto 4, 3) := by decide +kernel
theorem dX2_isClosed_15 : decode cX2_isClosed 15 = .ok (.iconst 0, 1) := by decide +kernel
theorem dX2_isClosed_16 : decode cX2_isClosed 16 = .ok (.ireturn, 1) := by decide +kernel
theorem dX2_isSent_0 : decode cX2_isSent 0 = .ok (.aload_n 0, 1) := by decide +kernel
theorem dX2_isSent_1 : decode cX2_isSent 1 = .ok (.getfield 25, 3) := by decide +kernel
theorem dX2_isSent_4 : decode cX2_isSent 4 = .ok (.iload_n 1, 1) := by decide +kernel
theorem dX2_isSent_5 : decode cX2_isSent 5 = .ok (.iaload, 1) := by decide +kernel
theorem dX2_isSent_6 : decode cX2_isSent 6 = .ok (.bipush (-2), 2) := by decide +kernel
theorem dX2_isSent_8 : decode cX2_isSent 8 = .ok (.if_icmp .eq 7, 3) := by decide +kernel
theorem dX2_isSent_11 : decode cX2_isSent 11 = .ok (.iconst 1, 1) := by decide +kernel
theorem dX2_isSent_12 : decode cX2_isSent 12 = .ok (.goto 4, 3) := by decide +kernel
theorem dX2_isSent_15 : decode cX2_isSent 15 = .ok (.iconst 0, 1) := by decide +kernel
theorem dX2_isSent_16 : decode cX2_isSent 16 = .ok (.ireturn, 1) := by decide +kernel
theorem dX3_init_0 : decode cX3_init 0 = .ok (.aload_n 0, 1) := by decide +kernel
theorem dX3_init_1 : decode cX3_init 1 = .ok (.invokespecial 3, 3) := by decide +kernel
theorem dX3_init_4 : decode cX3_init 4 = .ok (.aload_n 0, 1) := by decide +kernel
theorem dX3_init_5 : decode cX3_init 5 = .ok (.bipush 7, 2) := by decide +kernel
theorem dX3_init_7 : decode cX3_init 7 = .ok (.newarray .int, 2) := by decide +kernel
theorem dX3_init_9 : decode cX3_init 9 = .ok (.putfield 9, 3) := by decide +kernel
theorem dX3_init_12 : decode cX3_init 12 = .ok (.aload_n 0, 1) := by decide +kernel
theorem dX3_init_13 : decode cX3_init 13 = .ok (.bipush 49, 2) := by decide +kernel
theorem dX3_init_15 : decode cX3_init 15 = .ok (.newarray .int, 2) := by decide +kernel
theorem dX3_init_17 : decode cX3_init 17 = .ok (.putfield 15, 3) := by decide +kernel
theorem dX3_init_20 : decode cX3_init 20 = .ok (.aload_n 0, 1) := by decide +kernel
theorem dX3_init_21 : decode cX3_init 21 = .ok (.sipush 896, 3) := by decide +kernel
theorem dX3_init_24 : decode cX3_init 24 = .ok (.newarray .int, 2) := by decide +kernel
theorem dX3_init_26 : decode cX3_init 26 = .ok (.putfield 18, 3) := by decide +kernel
theorem dX3_init_29 : decode cX3_init 29 = .ok (.aload_n 0, 1) := by decide +kernel
theorem dX3_init_30 : decode cX3_init 30 = .ok (.aload_n 1, 1) := by decide +kernel
theorem dX3_init_31 : decode cX3_init 31 = .ok (.putfield 21, 3) := by decide +kernel
theorem dX3_init_34 : decode cX3_init 34 = .ok (.return_, 1) := by decide +kernel
theorem dX3_fewestToWatch_0 : decode cX3_fewestToWatch 0 = .ok (.bipush (-2), 2) := by decide +kernel
theorem dX3_fewestToWatch_2 : decode cX3_fewestToWatch 2 = .ok (.istore 4, 2) := by decide +kernel
theorem dX3_fewestToWatch_4 : decode cX3_fewestToWatch 4 = .ok (.bipush 13, 2) := by decide +kernel
theorem dX3_fewestToWatch_6 : decode cX3_fewestToWatch 6 = .ok (.istore 5, 2) := by decide +kernel
theorem dX3_fewestToWatch_8 : decode cX3_fewestToWatch 8 = .ok (.iconst 0, 1) := by decide +kernel
theorem dX3_fewestToWatch_9 : decode cX3_fewestToWatch 9 = .ok (.istore 6, 2) := by decide +kernel
theorem dX3_fewestToWatch_11 : decode cX3_fewestToWatch 11 = .ok (.iload 6, 2) := by decide +kernel
theorem dX3_fewestToWatch_13 : decode cX3_fewestToWatch 13 = .ok (.iconst 1, 1) := by decide +kernel
theorem dX3_fewestToWatch_14 : decode cX3_fewestToWatch 14 = .ok (.aload_n 0, 1) := by decide +kernel
theorem dX3_fewestToWatch_15 : decode cX3_fewestToWatch 15 = .ok (.getfield 21, 3) := by decide +kernel
theorem dX3_fewestToWatch_18 : decode cX3_fewestToWatch 18 = .ok (.getfield 25, 3) := by decide +kernel
theorem dX3_fewestToWatch_21 : decode cX3_fewestToWatch 21 = .ok (.ishl, 1) := by decide +kernel
theorem dX3_fewestToWatch_22 : decode cX3_fewestToWatch 22 = .ok (.if_icmp .ge 75, 3) := by decide +kernel
theorem dX3_fewestToWatch_25 : decode cX3_fewestToWatch 25 = .ok (.iload 6, 2) := by decide +kernel
theorem dX3_fewestToWatch_27 : decode cX3_fewestToWatch 27 = .ok (.iload_n 1, 1) := by decide +kernel
theorem dX3_fewestToWatch_28 : decode cX3_fewestToWatch 28 = .ok (.ishr, 1) := by decide +kernel
theorem dX3_fewestToWatch_29 : decode cX3_fewestToWatch 29 = .ok (.iconst 1, 1) := by decide +kernel
theorem dX3_fewestToWatch_30 : decode cX3_fewestToWatch 30 = .ok (.iand, 1) := by decide +kernel
theorem dX3_fewestToWatch_31 : decode cX3_fewestToWatch 31 = .ok (.ifCond .eq 60, 3) := by decide +kernel
theorem dX3_fewestToWatch_34 : decode cX3_fewestToWatch 34 = .ok (.iload 6, 2) := by decide +kernel
theorem dX3_fewestToWatch_36 : decode cX3_fewestToWatch 36 = .ok (.iload_n 2, 1) := by decide +kernel
theorem dX3_fewestToWatch_37 : decode cX3_fewestToWatch 37 = .ok (.ishr, 1) := by decide +kernel
theorem dX3_fewestToWatch_38 : decode cX3_fewestToWatch 38 = .ok (.iconst 1, 1) := by decide +kernel
theorem dX3_fewestToWatch_39 : decode cX3_fewestToWatch 39 = .ok (.iand, 1) := by decide +kernel
theorem dX3_fewestToWatch_40 : decode cX3_fewestToWatch 40 = .ok (.ifCond .ne 51, 3) := by decide +kernel
theorem dX3_fewestToWatch_43 : decode cX3_fewestToWatch 43 = .ok (.aload_n 0, 1) := by decide +kernel
theorem dX3_fewestToWatch_44 : decode cX3_fewestToWatch 44 = .ok (.iload 6, 2) := by decide +kernel
theorem dX3_fewestToWatch_46 : decode cX3_fewestToWatch 46 = .ok (.invokevirtual 31, 3) := by decide +kernel
theorem dX3_fewestToWatch_49 : decode cX3_fewestToWatch 49 = .ok (.iload_n 3, 1) := by decide +kernel
theorem dX3_fewestToWatch_50 : decode cX3_fewestToWatch 50 = .ok (.iconst (-1), 1) := by decide +kernel
theorem dX3_fewestToWatch_51 : decode cX3_fewestToWatch 51 = .ok (.ixor, 1) := by decide +kernel
theorem dX3_fewestToWatch_52 : decode cX3_fewestToWatch 52 = .ok (.iand, 1) := by decide +kernel
theorem dX3_fewestToWatch_53 : decode cX3_fewestToWatch 53 = .ok (.istore 7, 2) := by decide +kernel
theorem dX3_fewestToWatch_55 : decode cX3_fewestToWatch 55 = .ok (.iload 7, 2) := by decide +kernel
theorem dX3_fewestToWatch_57 : decode cX3_fewestToWatch 57 = .ok (.invokestatic 35, 3) := by decide +kernel
theorem dX3_fewestToWatch_60 : decode cX3_fewestToWatch 60 = .ok (.istore 8, 2) := by decide +kernel
theorem dX3_fewestToWatch_62 : decode cX3_fewestToWatch 62 = .ok (.iload 8, 2) := by decide +kernel
theorem dX3_fewestToWatch_64 : decode cX3_fewestToWatch 64 = .ok (.iload 5, 2) := by decide +kernel
theorem dX3_fewestToWatch_66 : decode cX3_fewestToWatch 66 = .ok (.if_icmp .lt 17, 3) := by decide +kernel
theorem dX3_fewestToWatch_69 : decode cX3_fewestToWatch 69 = .ok (.iload 8, 2) := by decide +kernel
theorem dX3_fewestToWatch_71 : decode cX3_fewestToWatch 71 = .ok (.iload 5, 2) := by decide +kernel
theorem dX3_fewestToWatch_73 : decode cX3_fewestToWatch 73 = .ok (.if_icmp .ne 18, 3) := by decide +kernel
theorem dX3_fewestToWatch_76 : decode cX3_fewestToWatch 76 = .ok (.iload 7, 2) := by decide +kernel
theorem dX3_fewestToWatch_78 : decode cX3_fewestToWatch 78 = .ok (.iload 4, 2) := by decide +kernel
theorem dX3_fewestToWatch_80 : decode cX3_fewestToWatch 80 = .ok (.if_icmp .ge 11, 3) := by decide +kernel
theorem dX3_fewestToWatch_83 : decode cX3_fewestToWatch 83 = .ok (.iload 7, 2) := by decide +kernel
theorem dX3_fewestToWatch_85 : decode cX3_fewestToWatch 85 = .ok (.istore 4, 2) := by decide +kernel
theorem dX3_fewestToWatch_87 : decode cX3_fewestToWatch 87 = .ok (.iload 8, 2) := by decide +kernel
theorem dX3_fewestToWatch_89 : decode cX3_fewestToWatch 89 = .ok (.istore 5, 2) := by decide +kernel
theorem dX3_fewestToWatch_91 : decode cX3_fewestToWatch 91 = .ok (.iinc 6 1, 3) := by decide +kernel
theorem dX3_fewestToWatch_94 : decode cX3_fewestToWatch 94 = .ok (.goto (-83), 3) := by decide +kernel
theorem dX3_fewestToWatch_97 : decode cX3_fewestToWatch 97 = .ok (.iload 4, 2) := by decide +kernel
theorem dX3_fewestToWatch_99 : decode cX3_fewestToWatch 99 = .ok (.ireturn, 1) := by decide +kernel
theorem dX3_waysOutOf_0 : decode cX3_waysOutOf 0 = .ok (.iconst 0, 1) := by decide +kernel
theorem dX3_waysOutOf_1 : decode cX3_waysOutOf 1 = .ok (.istore_n 2, 1) := by decide +kernel
theorem dX3_waysOutOf_2 : decode cX3_waysOutOf 2 = .ok (.iconst 0, 1) := by decide +kernel
theorem dX3_waysOutOf_3 : decode cX3_waysOutOf 3 = .ok (.istore_n 3, 1) := by decide +kernel
theorem dX3_waysOutOf_4 : decode cX3_waysOutOf 4 = .ok (.iload_n 3, 1) := by decide +kernel
theorem dX3_waysOutOf_5 : decode cX3_waysOutOf 5 = .ok (.aload_n 0, 1) := by decide +kernel
theorem dX3_waysOutOf_6 : decode cX3_waysOutOf 6 = .ok (.getfield 21, 3) := by decide +kernel
theorem dX3_waysOutOf_9 : decode cX3_waysOutOf 9 = .ok (.getfield 40, 3) := by decide +kernel
theorem dX3_waysOutOf_12 : decode cX3_waysOutOf 12 = .ok (.if_icmp .ge 50, 3) := by decide +kernel
theorem dX3_waysOutOf_15 : decode cX3_waysOutOf 15 = .ok (.iload_n 1, 1) := by decide +kernel
theorem dX3_waysOutOf_16 : decode cX3_waysOutOf 16 = .ok (.aload_n 0, 1) := by decide +kernel
theorem dX3_waysOutOf_17 : decode cX3_waysOutOf 17 = .ok (.getfield 21, 3) := by decide +kernel
theorem dX3_waysOutOf_20 : decode cX3_waysOutOf 20 = .ok (.getfield 43, 3) := by decide +kernel
theorem dX3_waysOutOf_23 : decode cX3_waysOutOf 23 = .ok (.iload_n 3, 1) := by decide +kernel
theorem dX3_waysOutOf_24 : decode cX3_waysOutOf 24 = .ok (.aaload, 1) := by decide +kernel
theorem dX3_waysOutOf_25 : decode cX3_waysOutOf 25 = .ok (.getfield 47, 3) := by decide +kernel
theorem dX3_waysOutOf_28 : decode cX3_waysOutOf 28 = .ok (.ishr, 1) := by decide +kernel
theorem dX3_waysOutOf_29 : decode cX3_waysOutOf 29 = .ok (.iconst 1, 1) := by decide +kernel
theorem dX3_waysOutOf_30 : decode cX3_waysOutOf 30 = .ok (.iand, 1) := by decide +kernel
theorem dX3_waysOutOf_31 : decode cX3_waysOutOf 31 = .ok (.iload_n 1, 1) := by decide +kernel
theorem dX3_waysOutOf_32 : decode cX3_waysOutOf 32 = .ok (.aload_n 0, 1) := by decide +kernel
theorem dX3_waysOutOf_33 : decode cX3_waysOutOf 33 = .ok (.getfield 21, 3) := by decide +kernel
theorem dX3_waysOutOf_36 : decode cX3_waysOutOf 36 = .ok (.getfield 43, 3) := by decide +kernel
theorem dX3_waysOutOf_39 : decode cX3_waysOutOf 39 = .ok (.iload_n 3, 1) := by decide +kernel
theorem dX3_waysOutOf_40 : decode cX3_waysOutOf 40 = .ok (.aaload, 1) := by decide +kernel
theorem dX3_waysOutOf_41 : decode cX3_waysOutOf 41 = .ok (.getfield 52, 3) := by decide +kernel
theorem dX3_waysOutOf_44 : decode cX3_waysOutOf 44 = .ok (.ishr, 1) := by decide +kernel
theorem dX3_waysOutOf_45 : decode cX3_waysOutOf 45 = .ok (.iconst 1, 1) := by decide +kernel
theorem dX3_waysOutOf_46 : decode cX3_waysOutOf 46 = .ok (.iand, 1) := by decide +kernel
theorem dX3_waysOutOf_47 : decode cX3_waysOutOf 47 = .ok (.if_icmp .eq 9, 3) := by decide +kernel
theorem dX3_waysOutOf_50 : decode cX3_waysOutOf 50 = .ok (.iload_n 2, 1) := by decide +kernel
theorem dX3_waysOutOf_51 : decode cX3_waysOutOf 51 = .ok (.iconst 1, 1) := by decide +kernel
theorem dX3_waysOutOf_52 : decode cX3_waysOutOf 52 = .ok (.iload_n 3, 1) := by decide +kernel
theorem dX3_waysOutOf_53 : decode cX3_waysOutOf 53 = .ok (.ishl, 1) := by decide +kernel
theorem dX3_waysOutOf_54 : decode cX3_waysOutOf 54 = .ok (.ior, 1) := by decide +kernel
theorem dX3_waysOutOf_55 : decode cX3_waysOutOf 55 = .ok (.istore_n 2, 1) := by decide +kernel
theorem dX3_waysOutOf_56 : decode cX3_waysOutOf 56 = .ok (.iinc 3 1, 3) := by decide +kernel
theorem dX3_waysOutOf_59 : decode cX3_waysOutOf 59 = .ok (.goto (-55), 3) := by decide +kernel
theorem dX3_waysOutOf_62 : decode cX3_waysOutOf 62 = .ok (.iload_n 2, 1) := by decide +kernel
theorem dX3_waysOutOf_63 : decode cX3_waysOutOf 63 = .ok (.ireturn, 1) := by decide +kernel
theorem dX3_findRound_0 : decode cX3_findRound 0 = .ok (.aload_n 0, 1) := by decide +kernel
theorem dX3_findRound_1 : decode cX3_findRound 1 = .ok (.iload_n 2, 1) := by decide +kernel
theorem dX3_findRound_2 : decode cX3_findRound 2 = .ok (.invokevirtual 55, 3) := by decide +kernel
theorem dX3_findRound_5 : decode cX3_findRound 5 = .ok (.aload_n 0, 1) := by decide +kernel
theorem dX3_findRound_6 : decode cX3_findRound 6 = .ok (.invokevirtual 59, 3) := by decide +kernel
theorem dX3_findRound_9 : decode cX3_findRound 9 = .ok (.aload_n 0, 1) := by decide +kernel
theorem dX3_findRound_10 : decode cX3_findRound 10 = .ok (.getfield 18, 3) := by decide +kernel
theorem dX3_findRound_13 : decode cX3_findRound 13 = .ok (.iconst 1, 1) := by decide +kernel
theorem dX3_findRound_14 : decode cX3_findRound 14 = .ok (.iload_n 1, 1) := by decide +kernel
theorem dX3_findRound_15 : decode cX3_findRound 15 = .ok (.ishl, 1) := by decide +kernel
theorem dX3_findRound_16 : decode cX3_findRound 16 = .ok (.bipush 7, 2) := by decide +kernel
theorem dX3_findRound_18 : decode cX3_findRound 18 = .ok (.imul, 1) := by decide +kernel
theorem dX3_findRound_19 : decode cX3_findRound 19 = .ok (.iload_n 1, 1) := by decide +kernel
theorem dX3_findRound_20 : decode cX3_findRound 20 = .ok (.iadd, 1) := by decide +kernel
theorem dX3_findRound_21 : decode cX3_findRound 21 = .ok (.iaload, 1) := by decide +kernel
theorem dX3_findRound_22 : decode cX3_findRound 22 = .ok (.istore_n 3, 1) := by decide +kernel
theorem dX3_findRound_23 : decode cX3_findRound 23 = .ok (.iload_n 3, 1) := by decide +kernel
theorem dX3_findRound_24 : decode cX3_findRound 24 = .ok (.ldc 62, 2) := by decide +kernel
theorem dX3_findRound_26 : decode cX3_findRound 26 = .ok (.if_icmp .lt 6, 3) := by decide +kernel
theorem dX3_findRound_29 : decode cX3_findRound 29 = .ok (.bipush (-2), 2) := by decide +kernel
theorem dX3_findRound_31 : decode cX3_findRound 31 = .ok (.ireturn, 1) := by decide +kernel
theorem dX3_findRound_32 : decode cX3_findRound 32 = .ok (.iconst 1, 1) := by decide +kernel
theorem dX3_findRound_33 : decode cX3_findRound 33 = .ok (.iload_n 1, 1) := by decide +kernel
theorem dX3_findRound_34 : decode cX3_findRound 34 = .ok (.ishl, 1) := by decide +kernel
theorem dX3_findRound_35 : decode cX3_findRound 35 = .ok (.istore 4, 2) := by decide +kernel
theorem dX3_findRound_37 : decode cX3_findRound 37 = .ok (.aload_n 0, 1) := by decide +kernel
theorem dX3_findRound_38 : decode cX3_findRound 38 = .ok (.getfield 9, 3) := by decide +kernel
theorem dX3_findRound_41 : decode cX3_findRound 41 = .ok (.iconst 0, 1) := by decide +kernel
theorem dX3_findRound_42 : decode cX3_findRound 42 = .ok (.iload_n 1, 1) := by decide +kernel
theorem dX3_findRound_43 : decode cX3_findRound 43 = .ok (.iastore, 1) := by decide +kernel
theorem dX3_findRound_44 : decode cX3_findRound 44 = .ok (.iconst 1, 1) := by decide +kernel
theorem dX3_findRound_45 : decode cX3_findRound 45 = .ok (.istore 5, 2) := by decide +kernel
theorem dX3_findRound_47 : decode cX3_findRound 47 = .ok (.iload 5, 2) := by decide +kernel
theorem dX3_findRound_49 : decode cX3_findRound 49 = .ok (.aload_n 0, 1) := by decide +kernel
theorem dX3_findRound_50 : decode cX3_findRound 50 = .ok (.getfield 21, 3) := by decide +kernel
theorem dX3_findRound_53 : decode cX3_findRound 53 = .ok (.getfield 25, 3) := by decide +kernel
theorem dX3_findRound_56 : decode cX3_findRound 56 = .ok (.if_icmp .ge 45, 3) := by decide +kernel
theorem dX3_findRound_59 : decode cX3_findRound 59 = .ok (.aload_n 0, 1) := by decide +kernel
theorem dX3_findRound_60 : decode cX3_findRound 60 = .ok (.getfield 9, 3) := by decide +kernel
theorem dX3_findRound_63 : decode cX3_findRound 63 = .ok (.iload 5, 2) := by decide +kernel
theorem dX3_findRound_65 : decode cX3_findRound 65 = .ok (.aload_n 0, 1) := by decide +kernel
theorem dX3_findRound_66 : decode cX3_findRound 66 = .ok (.iload 4, 2) := by decide +kernel
theorem dX3_findRound_68 : decode cX3_findRound 68 = .ok (.aload_n 0, 1) := by decide +kernel
theorem dX3_findRound_69 : decode cX3_findRound 69 = .ok (.getfield 9, 3) := by decide +kernel
theorem dX3_findRound_72 : decode cX3_findRound 72 = .ok (.iload 5, 2) := by decide +kernel
theorem dX3_findRound_74 : decode cX3_findRound 74 = .ok (.iconst 1, 1) := by decide +kernel
theorem dX3_findRound_75 : decode cX3_findRound 75 = .ok (.isub, 1) := by decide +kernel
theorem dX3_findRound_76 : decode cX3_findRound 76 = .ok (.iaload, 1) := by decide +kernel
theorem dX3_findRound_77 : decode cX3_findRound 77 = .ok (.invokevirtual 63, 3) := by decide +kernel
theorem dX3_findRound_80 : decode cX3_findRound 80 = .ok (.iastore, 1) := by decide +kernel
theorem dX3_findRound_81 : decode cX3_findRound 81 = .ok (.iload 4, 2) := by decide +kernel
theorem dX3_findRound_83 : decode cX3_findRound 83 = .ok (.iconst 1, 1) := by decide +kernel
theorem dX3_findRound_84 : decode cX3_findRound 84 = .ok (.aload_n 0, 1) := by decide +kernel
theorem dX3_findRound_85 : decode cX3_findRound 85 = .ok (.getfield 9, 3) := by decide +kernel
theorem dX3_findRound_88 : decode cX3_findRound 88 = .ok (.iload 5, 2) := by decide +kernel
theorem dX3_findRound_90 : decode cX3_findRound 90 = .ok (.iaload, 1) := by decide +kernel
theorem dX3_findRound_91 : decode cX3_findRound 91 = .ok (.ishl, 1) := by decide +kernel
theorem dX3_findRound_92 : decode cX3_findRound 92 = .ok (.ior, 1) := by decide +kernel
theorem dX3_findRound_93 : decode cX3_findRound 93 = .ok (.istore 4, 2) := by decide +kernel
theorem dX3_findRound_95 : decode cX3_findRound 95 = .ok (.iinc 5 1, 3) := by decide +kernel
theorem dX3_findRound_98 : decode cX3_findRound 98 = .ok (.goto (-51), 3) := by decide +kernel
theorem dX3_findRound_101 : decode cX3_findRound 101 = .ok (.iload_n 3, 1) := by decide +kernel
theorem dX3_findRound_102 : decode cX3_findRound 102 = .ok (.ireturn, 1) := by decide +kernel
theorem dX3_findShortest_0 : decode cX3_findShortest 0 = .ok (.aload_n 0, 1) := by decide +kernel
theorem dX3_findShortest_1 : decode cX3_findShortest 1 = .ok (.getfield 15, 3) := by decide +kernel
theorem dX3_findShortest_4 : decode cX3_findShortest 4 = .ok (.ldc 62, 2) := by decide +kernel
theorem dX3_findShortest_6 : decode cX3_findShortest 6 = .ok (.invokestatic 67, 3) := by decide +kernel
theorem dX3_findShortest_9 : decode cX3_findShortest 9 = .ok (.iconst 0, 1) := by decide +kernel
theorem dX3_findShortest_10 : decode cX3_findShortest 10 = .ok (.istore_n 2, 1) := by decide +kernel
theorem dX3_findShortest_11 : decode cX3_findShortest 11 = .ok (.iload_n 2, 1) := by decide +kernel
theorem dX3_findShortest_12 : decode cX3_findShortest 12 = .ok (.aload_n 0, 1) := by decide +kernel
theorem dX3_findShortest_13 : decode cX3_findShortest 13 = .ok (.getfield 21, 3) := by decide +kernel
theorem dX3_findShortest_16 : decode cX3_findShortest 16 = .ok (.getfield 40, 3) := by decide +kernel
theorem dX3_findShortest_19 : decode cX3_findShortest 19 = .ok (.if_icmp .ge 107, 3) := by decide +kernel
theorem dX3_findShortest_22 : decode cX3_findShortest 22 = .ok (.iload_n 1, 1) := by decide +kernel
theorem dX3_findShortest_23 : decode cX3_findShortest 23 = .ok (.iload_n 2, 1) := by decide +kernel
theorem dX3_findShortest_24 : decode cX3_findShortest 24 = .ok (.ishr, 1) := by decide +kernel
theorem dX3_findShortest_25 : decode cX3_findShortest 25 = .ok (.iconst 1, 1) := by decide +kernel
theorem dX3_findShortest_26 : decode cX3_findShortest 26 = .ok (.iand, 1) := by decide +kernel
theorem dX3_findShortest_27 : decode cX3_findShortest 27 = .ok (.ifCond .ne 93, 3) := by decide +kernel
theorem dX3_findShortest_30 : decode cX3_findShortest 30 = .ok (.aload_n 0, 1) := by decide +kernel
theorem dX3_findShortest_31 : decode cX3_findShortest 31 = .ok (.getfield 15, 3) := by decide +kernel
theorem dX3_findShortest_34 : decode cX3_findShortest 34 = .ok (.aload_n 0, 1) := by decide +kernel
theorem dX3_findShortest_35 : decode cX3_findShortest 35 = .ok (.getfield 21, 3) := by decide +kernel
theorem dX3_findShortest_38 : decode cX3_findShortest 38 = .ok (.getfield 43, 3) := by decide +kernel
theorem dX3_findShortest_41 : decode cX3_findShortest 41 = .ok (.iload_n 2, 1) := by decide +kernel
theorem dX3_findShortest_42 : decode cX3_findShortest 42 = .ok (.aaload, 1) := by decide +kernel
theorem dX3_findShortest_43 : decode cX3_findShortest 43 = .ok (.getfield 47, 3) := by decide +kernel
theorem dX3_findShortest_46 : decode cX3_findShortest 46 = .ok (.bipush 7, 2) := by decide +kernel
theorem dX3_findShortest_48 : decode cX3_findShortest 48 = .ok (.imul, 1) := by decide +kernel
theorem dX3_findShortest_49 : decode cX3_findShortest 49 = .ok (.aload_n 0, 1) := by decide +kernel
theorem dX3_findShortest_50 : decode cX3_findShortest 50 = .ok (.getfield 21, 3) := by decide +kernel
theorem dX3_findShortest_53 : decode cX3_findShortest 53 = .ok (.getfield 43, 3) := by decide +kernel
theorem dX3_findShortest_56 : decode cX3_findShortest 56 = .ok (.iload_n 2, 1) := by decide +kernel
theorem dX3_findShortest_57 : decode cX3_findShortest 57 = .ok (.aaload, 1) := by decide +kernel
theorem dX3_findShortest_58 : decode cX3_findShortest 58 = .ok (.getfield 52, 3) := by decide +kernel
theorem dX3_findShortest_61 : decode cX3_findShortest 61 = .ok (.iadd, 1) := by decide +kernel
theorem dX3_findShortest_62 : decode cX3_findShortest 62 = .ok (.aload_n 0, 1) := by decide +kernel
theorem dX3_findShortest_63 : decode cX3_findShortest 63 = .ok (.getfield 21, 3) := by decide +kernel
theorem dX3_findShortest_66 : decode cX3_findShortest 66 = .ok (.getfield 43, 3) := by decide +kernel
theorem dX3_findShortest_69 : decode cX3_findShortest 69 = .ok (.iload_n 2, 1) := by decide +kernel
theorem dX3_findShortest_70 : decode cX3_findShortest 70 = .ok (.aaload, 1) := by decide +kernel
theorem dX3_findShortest_71 : decode cX3_findShortest 71 = .ok (.getfield 73, 3) := by decide +kernel
theorem dX3_findShortest_74 : decode cX3_findShortest 74 = .ok (.iastore, 1) := by decide +kernel
theorem dX3_findShortest_75 : decode cX3_findShortest 75 = .ok (.aload_n 0, 1) := by decide +kernel
theorem dX3_findShortest_76 : decode cX3_findShortest 76 = .ok (.getfield 15, 3) := by decide +kernel
theorem dX3_findShortest_79 : decode cX3_findShortest 79 = .ok (.aload_n 0, 1) := by decide +kernel
theorem dX3_findShortest_80 : decode cX3_findShortest 80 = .ok (.getfield 21, 3) := by decide +kernel
theorem dX3_findShortest_83 : decode cX3_findShortest 83 = .ok (.getfield 43, 3) := by decide +kernel
theorem dX3_findShortest_86 : decode cX3_findShortest 86 = .ok (.iload_n 2, 1) := by decide +kernel
theorem dX3_findShortest_87 : decode cX3_findShortest 87 = .ok (.aaload, 1) := by decide +kernel
theorem dX3_findShortest_88 : decode cX3_findShortest 88 = .ok (.getfield 52, 3) := by decide +kernel
theorem dX3_findShortest_91 : decode cX3_findShortest 91 = .ok (.bipush 7, 2) := by decide +kernel
theorem dX3_findShortest_93 : decode cX3_findShortest 93 = .ok (.imul, 1) := by decide +kernel
theorem dX3_findShortest_94 : decode cX3_findShortest 94 = .ok (.aload_n 0, 1) := by decide +kernel
theorem dX3_findShortest_95 : decode cX3_findShortest 95 = .ok (.getfield 21, 3) := by decide +kernel
theorem dX3_findShortest_98 : decode cX3_findShortest 98 = .ok (.getfield 43, 3) := by decide +kernel
theorem dX3_findShortest_101 : decode cX3_findShortest 101 = .ok (.iload_n 2, 1) := by decide +kernel
theorem dX3_findShortest_102 : decode cX3_findShortest 102 = .ok (.aaload, 1) := by decide +kernel
theorem dX3_findShortest_103 : decode cX3_findShortest 103 = .ok (.getfield 47, 3) := by decide +kernel
theorem dX3_findShortest_106 : decode cX3_findShortest 106 = .ok (.iadd, 1) := by decide +kernel
theorem dX3_findShortest_107 : decode cX3_findShortest 107 = .ok (.aload_n 0, 1) := by decide +kernel
theorem dX3_findShortest_108 : decode cX3_findShortest 108 = .ok (.getfield 21, 3) := by decide +kernel
theorem dX3_findShortest_111 : decode cX3_findShortest 111 = .ok (.getfield 43, 3) := by decide +kernel
theorem dX3_findShortest_114 : decode cX3_findShortest 114 = .ok (.iload_n 2, 1) := by decide +kernel
theorem dX3_findShortest_115 : decode cX3_findShortest 115 = .ok (.aaload, 1) := by decide +kernel
theorem dX3_findShortest_116 : decode cX3_findShortest 116 = .ok (.getfield 73, 3) := by decide +kernel
theorem dX3_findShortest_119 : decode cX3_findShortest 119 = .ok (.iastore, 1) := by decide +kernel
theorem dX3_findShortest_120 : decode cX3_findShortest 120 = .ok (.iinc 2 1, 3) := by decide +kernel
theorem dX3_findShortest_123 : decode cX3_findShortest 123 = .ok (.goto (-112), 3) := by decide +kernel
theorem dX3_findShortest_126 : decode cX3_findShortest 126 = .ok (.iconst 0, 1) := by decide +kernel
theorem dX3_findShortest_127 : decode cX3_findShortest 127 = .ok (.istore_n 2, 1) := by decide +kernel
theorem dX3_findShortest_128 : decode cX3_findShortest 128 = .ok (.iload_n 2, 1) := by decide +kernel
theorem dX3_findShortest_129 : decode cX3_findShortest 129 = .ok (.aload_n 0, 1) := by decide +kernel
theorem dX3_findShortest_130 : decode cX3_findShortest 130 = .ok (.getfield 21, 3) := by decide +kernel
theorem dX3_findShortest_133 : decode cX3_findShortest 133 = .ok (.getfield 25, 3) := by decide +kernel
theorem dX3_findShortest_136 : decode cX3_findShortest 136 = .ok (.if_icmp .ge 104, 3) := by decide +kernel
theorem dX3_findShortest_139 : decode cX3_findShortest 139 = .ok (.iconst 0, 1) := by decide +kernel
theorem dX3_findShortest_140 : decode cX3_findShortest 140 = .ok (.istore_n 3, 1) := by decide +kernel
theorem dX3_findShortest_141 : decode cX3_findShortest 141 = .ok (.iload_n 3, 1) := by decide +kernel
theorem dX3_findShortest_142 : decode cX3_findShortest 142 = .ok (.aload_n 0, 1) := by decide +kernel
theorem dX3_findShortest_143 : decode cX3_findShortest 143 = .ok (.getfield 21, 3) := by decide +kernel
theorem dX3_findShortest_146 : decode cX3_findShortest 146 = .ok (.getfield 25, 3) := by decide +kernel
theorem dX3_findShortest_149 : decode cX3_findShortest 149 = .ok (.if_icmp .ge 85, 3) := by decide +kernel
theorem dX3_findShortest_152 : decode cX3_findShortest 152 = .ok (.iconst 0, 1) := by decide +kernel
theorem dX3_findShortest_153 : decode cX3_findShortest 153 = .ok (.istore 4, 2) := by decide +kernel
theorem dX3_findShortest_155 : decode cX3_findShortest 155 = .ok (.iload 4, 2) := by decide +kernel
theorem dX3_findShortest_157 : decode cX3_findShortest 157 = .ok (.aload_n 0, 1) := by decide +kernel
theorem dX3_findShortest_158 : decode cX3_findShortest 158 = .ok (.getfield 21, 3) := by decide +kernel
theorem dX3_findShortest_161 : decode cX3_findShortest 161 = .ok (.getfield 25, 3) := by decide +kernel
theorem dX3_findShortest_164 : decode cX3_findShortest 164 = .ok (.if_icmp .ge 64, 3) := by decide +kernel
theorem dX3_findShortest_167 : decode cX3_findShortest 167 = .ok (.aload_n 0, 1) := by decide +kernel
theorem dX3_findShortest_168 : decode cX3_findShortest 168 = .ok (.getfield 15, 3) := by decide +kernel
theorem dX3_findShortest_171 : decode cX3_findShortest 171 = .ok (.iload_n 3, 1) := by decide +kernel
theorem dX3_findShortest_172 : decode cX3_findShortest 172 = .ok (.bipush 7, 2) := by decide +kernel
theorem dX3_findShortest_174 : decode cX3_findShortest 174 = .ok (.imul, 1) := by decide +kernel
theorem dX3_findShortest_175 : decode cX3_findShortest 175 = .ok (.iload_n 2, 1) := by decide +kernel
theorem dX3_findShortest_176 : decode cX3_findShortest 176 = .ok (.iadd, 1) := by decide +kernel
theorem dX3_findShortest_177 : decode cX3_findShortest 177 = .ok (.iaload, 1) := by decide +kernel
theorem dX3_findShortest_178 : decode cX3_findShortest 178 = .ok (.aload_n 0, 1) := by decide +kernel
theorem dX3_findShortest_179 : decode cX3_findShortest 179 = .ok (.getfield 15, 3) := by decide +kernel
theorem dX3_findShortest_182 : decode cX3_findShortest 182 = .ok (.iload_n 2, 1) := by decide +kernel
theorem dX3_findShortest_183 : decode cX3_findShortest 183 = .ok (.bipush 7, 2) := by decide +kernel
theorem dX3_findShortest_185 : decode cX3_findShortest 185 = .ok (.imul, 1) := by decide +kernel
theorem dX3_findShortest_186 : decode cX3_findShortest 186 = .ok (.iload 4, 2) := by decide +kernel
theorem dX3_findShortest_188 : decode cX3_findShortest 188 = .ok (.iadd, 1) := by decide +kernel
theorem dX3_findShortest_189 : decode cX3_findShortest 189 = .ok (.iaload, 1) := by decide +kernel
theorem dX3_findShortest_190 : decode cX3_findShortest 190 = .ok (.iadd, 1) := by decide +kernel
theorem dX3_findShortest_191 : decode cX3_findShortest 191 = .ok (.istore 5, 2) := by decide +kernel
theorem dX3_findShortest_193 : decode cX3_findShortest 193 = .ok (.aload_n 0, 1) := by decide +kernel
theorem dX3_findShortest_194 : decode cX3_findShortest 194 = .ok (.getfield 15, 3) := by decide +kernel
theorem dX3_findShortest_197 : decode cX3_findShortest 197 = .ok (.iload_n 3, 1) := by decide +kernel
theorem dX3_findShortest_198 : decode cX3_findShortest 198 = .ok (.bipush 7, 2) := by decide +kernel
theorem dX3_findShortest_200 : decode cX3_findShortest 200 = .ok (.imul, 1) := by decide +kernel
theorem dX3_findShortest_201 : decode cX3_findShortest 201 = .ok (.iload 4, 2) := by decide +kernel
theorem dX3_findShortest_203 : decode cX3_findShortest 203 = .ok (.iadd, 1) := by decide +kernel
theorem dX3_findShortest_204 : decode cX3_findShortest 204 = .ok (.aload_n 0, 1) := by decide +kernel
theorem dX3_findShortest_205 : decode cX3_findShortest 205 = .ok (.getfield 15, 3) := by decide +kernel
theorem dX3_findShortest_208 : decode cX3_findShortest 208 = .ok (.iload_n 3, 1) := by decide +kernel
theorem dX3_findShortest_209 : decode cX3_findShortest 209 = .ok (.bipush 7, 2) := by decide +kernel
theorem dX3_findShortest_211 : decode cX3_findShortest 211 = .ok (.imul, 1) := by decide +kernel
theorem dX3_findShortest_212 : decode cX3_findShortest 212 = .ok (.iload 4, 2) := by decide +kernel
theorem dX3_findShortest_214 : decode cX3_findShortest 214 = .ok (.iadd, 1) := by decide +kernel
theorem dX3_findShortest_215 : decode cX3_findShortest 215 = .ok (.iaload, 1) := by decide +kernel
theorem dX3_findShortest_216 : decode cX3_findShortest 216 = .ok (.iload 5, 2) := by decide +kernel
theorem dX3_findShortest_218 : decode cX3_findShortest 218 = .ok (.invokestatic 76, 3) := by decide +kernel
theorem dX3_findShortest_221 : decode cX3_findShortest 221 = .ok (.iastore, 1) := by decide +kernel
theorem dX3_findShortest_222 : decode cX3_findShortest 222 = .ok (.iinc 4 1, 3) := by decide +kernel
theorem dX3_findShortest_225 : decode cX3_findShortest 225 = .ok (.goto (-70), 3) := by decide +kernel
theorem dX3_findShortest_228 : decode cX3_findShortest 228 = .ok (.iinc 3 1, 3) := by decide +kernel
theorem dX3_findShortest_231 : decode cX3_findShortest 231 = .ok (.goto (-90), 3) := by decide +kernel
theorem dX3_findShortest_234 : decode cX3_findShortest 234 = .ok (.iinc 2 1, 3) := by decide +kernel
theorem dX3_findShortest_237 : decode cX3_findShortest 237 = .ok (.goto (-109), 3) := by decide +kernel
theorem dX3_findShortest_240 : decode cX3_findShortest 240 = .ok (.return_, 1) := by decide +kernel
theorem dX3_findRests_0 : decode cX3_findRests 0 = .ok (.iconst 1, 1) := by decide +kernel
theorem dX3_findRests_1 : decode cX3_findRests 1 = .ok (.aload_n 0, 1) := by decide +kernel
theorem dX3_findRests_2 : decode cX3_findRests 2 = .ok (.getfield 21, 3) := by decide +kernel
theorem dX3_findRests_5 : decode cX3_findRests 5 = .ok (.getfield 25, 3) := by decide +kernel
theorem dX3_findRests_8 : decode cX3_findRests 8 = .ok (.ishl, 1) := by decide +kernel
theorem dX3_findRests_9 : decode cX3_findRests 9 = .ok (.iconst 1, 1) := by decide +kernel
theorem dX3_findRests_10 : decode cX3_findRests 10 = .ok (.isub, 1) := by decide +kernel
theorem dX3_findRests_11 : decode cX3_findRests 11 = .ok (.istore_n 1, 1) := by decide +kernel
theorem dX3_findRests_12 : decode cX3_findRests 12 = .ok (.iload_n 1, 1) := by decide +kernel
theorem dX3_findRests_13 : decode cX3_findRests 13 = .ok (.istore_n 2, 1) := by decide +kernel
theorem dX3_findRests_14 : decode cX3_findRests 14 = .ok (.iload_n 2, 1) := by decide +kernel
theorem dX3_findRests_15 : decode cX3_findRests 15 = .ok (.ifCond .le 99, 3) := by decide +kernel
theorem dX3_findRests_18 : decode cX3_findRests 18 = .ok (.iconst 0, 1) := by decide +kernel
theorem dX3_findRests_19 : decode cX3_findRests 19 = .ok (.istore_n 3, 1) := by decide +kernel
theorem dX3_findRests_20 : decode cX3_findRests 20 = .ok (.iload_n 3, 1) := by decide +kernel
theorem dX3_findRests_21 : decode cX3_findRests 21 = .ok (.aload_n 0, 1) := by decide +kernel
theorem dX3_findRests_22 : decode cX3_findRests 22 = .ok (.getfield 21, 3) := by decide +kernel
theorem dX3_findRests_25 : decode cX3_findRests 25 = .ok (.getfield 25, 3) := by decide +kernel
theorem dX3_findRests_28 : decode cX3_findRests 28 = .ok (.if_icmp .ge 80, 3) := by decide +kernel
theorem dX3_findRests_31 : decode cX3_findRests 31 = .ok (.iload_n 2, 1) := by decide +kernel
theorem dX3_findRests_32 : decode cX3_findRests 32 = .ok (.iload_n 1, 1) := by decide +kernel
theorem dX3_findRests_33 : decode cX3_findRests 33 = .ok (.if_icmp .ne 7, 3) := by decide +kernel
theorem dX3_findRests_36 : decode cX3_findRests 36 = .ok (.iconst 0, 1) := by decide +kernel
theorem dX3_findRests_37 : decode cX3_findRests 37 = .ok (.goto 5, 3) := by decide +kernel
theorem dX3_findRests_40 : decode cX3_findRests 40 = .ok (.ldc 62, 2) := by decide +kernel
theorem dX3_findRests_42 : decode cX3_findRests 42 = .ok (.istore 4, 2) := by decide +kernel
theorem dX3_findRests_44 : decode cX3_findRests 44 = .ok (.iconst 0, 1) := by decide +kernel
theorem dX3_findRests_45 : decode cX3_findRests 45 = .ok (.istore 5, 2) := by decide +kernel
theorem dX3_findRests_47 : decode cX3_findRests 47 = .ok (.iload 5, 2) := by decide +kernel
theorem dX3_findRests_49 : decode cX3_findRests 49 = .ok (.aload_n 0, 1) := by decide +kernel
theorem dX3_findRests_50 : decode cX3_findRests 50 = .ok (.getfield 21, 3) := by decide +kernel
theorem dX3_findRests_53 : decode cX3_findRests 53 = .ok (.getfield 25, 3) := by decide +kernel
theorem dX3_findRests_56 : decode cX3_findRests 56 = .ok (.if_icmp .ge 33, 3) := by decide +kernel
theorem dX3_findRests_59 : decode cX3_findRests 59 = .ok (.iload_n 2, 1) := by decide +kernel
theorem dX3_findRests_60 : decode cX3_findRests 60 = .ok (.iload 5, 2) := by decide +kernel
theorem dX3_findRests_62 : decode cX3_findRests 62 = .ok (.ishr, 1) := by decide +kernel
theorem dX3_findRests_63 : decode cX3_findRests 63 = .ok (.iconst 1, 1) := by decide +kernel
theorem dX3_findRests_64 : decode cX3_findRests 64 = .ok (.iand, 1) := by decide +kernel
theorem dX3_findRests_65 : decode cX3_findRests 65 = .ok (.ifCond .ne 18, 3) := by decide +kernel
theorem dX3_findRests_68 : decode cX3_findRests 68 = .ok (.iload 4, 2) := by decide +kernel
theorem dX3_findRests_70 : decode cX3_findRests 70 = .ok (.aload_n 0, 1) := by decide +kernel
theorem dX3_findRests_71 : decode cX3_findRests 71 = .ok (.iload_n 2, 1) := by decide +kernel
theorem dX3_findRests_72 : decode cX3_findRests 72 = .ok (.iload_n 3, 1) := by decide +kernel
theorem dX3_findRests_73 : decode cX3_findRests 73 = .ok (.iload 5, 2) := by decide +kernel
theorem dX3_findRests_75 : decode cX3_findRests 75 = .ok (.invokevirtual 81, 3) := by decide +kernel
theorem dX3_findRests_78 : decode cX3_findRests 78 = .ok (.invokestatic 76, 3) := by decide +kernel
theorem dX3_findRests_81 : decode cX3_findRests 81 = .ok (.istore 4, 2) := by decide +kernel
theorem dX3_findRests_83 : decode cX3_findRests 83 = .ok (.iinc 5 1, 3) := by decide +kernel
theorem dX3_findRests_86 : decode cX3_findRests 86 = .ok (.goto (-39), 3) := by decide +kernel
theorem dX3_findRests_89 : decode cX3_findRests 89 = .ok (.aload_n 0, 1) := by decide +kernel
theorem dX3_findRests_90 : decode cX3_findRests 90 = .ok (.getfield 18, 3) := by decide +kernel
theorem dX3_findRests_93 : decode cX3_findRests 93 = .ok (.iload_n 2, 1) := by decide +kernel
theorem dX3_findRests_94 : decode cX3_findRests 94 = .ok (.bipush 7, 2) := by decide +kernel
theorem dX3_findRests_96 : decode cX3_findRests 96 = .ok (.imul, 1) := by decide +kernel
theorem dX3_findRests_97 : decode cX3_findRests 97 = .ok (.iload_n 3, 1) := by decide +kernel
theorem dX3_findRests_98 : decode cX3_findRests 98 = .ok (.iadd, 1) := by decide +kernel
theorem dX3_findRests_99 : decode cX3_findRests 99 = .ok (.iload 4, 2) := by decide +kernel
theorem dX3_findRests_101 : decode cX3_findRests 101 = .ok (.iastore, 1) := by decide +kernel
theorem dX3_findRests_102 : decode cX3_findRests 102 = .ok (.iinc 3 1, 3) := by decide +kernel
theorem dX3_findRests_105 : decode cX3_findRests 105 = .ok (.goto (-85), 3) := by decide +kernel
theorem dX3_findRests_108 : decode cX3_findRests 108 = .ok (.iinc 2 (-1), 3) := by decide +kernel
theorem dX3_findRests_111 : decode cX3_findRests 111 = .ok (.goto (-97), 3) := by decide +kernel
theorem dX3_findRests_114 : decode cX3_findRests 114 = .ok (.return_, 1) := by decide +kernel
theorem dX3_daysOver_0 : decode cX3_daysOver 0 = .ok (.aload_n 0, 1) := by decide +kernel
theorem dX3_daysOver_1 : decode cX3_daysOver 1 = .ok (.getfield 15, 3) := by decide +kernel
theorem dX3_daysOver_4 : decode cX3_daysOver 4 = .ok (.iload_n 2, 1) := by decide +kernel
theorem dX3_daysOver_5 : decode cX3_daysOver 5 = .ok (.bipush 7, 2) := by decide +kernel
theorem dX3_daysOver_7 : decode cX3_daysOver 7 = .ok (.imul, 1) := by decide +kernel
theorem dX3_daysOver_8 : decode cX3_daysOver 8 = .ok (.iload_n 3, 1) := by decide +kernel
theorem dX3_daysOver_9 : decode cX3_daysOver 9 = .ok (.iadd, 1) := by decide +kernel
theorem dX3_daysOver_10 : decode cX3_daysOver 10 = .ok (.iaload, 1) := by decide +kernel
theorem dX3_daysOver_11 : decode cX3_daysOver 11 = .ok (.aload_n 0, 1) := by decide +kernel
theorem dX3_daysOver_12 : decode cX3_daysOver 12 = .ok (.getfield 18, 3) := by decide +kernel
theorem dX3_daysOver_15 : decode cX3_daysOver 15 = .ok (.iload_n 1, 1) := by decide +kernel
theorem dX3_daysOver_16 : decode cX3_daysOver 16 = .ok (.iconst 1, 1) := by decide +kernel
theorem dX3_daysOver_17 : decode cX3_daysOver 17 = .ok (.iload_n 3, 1) := by decide +kernel
theorem dX3_daysOver_18 : decode cX3_daysOver 18 = .ok (.ishl, 1) := by decide +kernel
theorem dX3_daysOver_19 : decode cX3_daysOver 19 = .ok (.ior, 1) := by decide +kernel
theorem dX3_daysOver_20 : decode cX3_daysOver 20 = .ok (.bipush 7, 2) := by decide +kernel
theorem dX3_daysOver_22 : decode cX3_daysOver 22 = .ok (.imul, 1) := by decide +kernel
theorem dX3_daysOver_23 : decode cX3_daysOver 23 = .ok (.iload_n 3, 1) := by decide +kernel
theorem dX3_daysOver_24 : decode cX3_daysOver 24 = .ok (.iadd, 1) := by decide +kernel
theorem dX3_daysOver_25 : decode cX3_daysOver 25 = .ok (.iaload, 1) := by decide +kernel
theorem dX3_daysOver_26 : decode cX3_daysOver 26 = .ok (.iadd, 1) := by decide +kernel
theorem dX3_daysOver_27 : decode cX3_daysOver 27 = .ok (.ireturn, 1) := by decide +kernel
theorem dX3_nextOf_0 : decode cX3_nextOf 0 = .ok (.iconst 0, 1) := by decide +kernel
theorem dX3_nextOf_1 : decode cX3_nextOf 1 = .ok (.istore_n 3, 1) := by decide +kernel
theorem dX3_nextOf_2 : decode cX3_nextOf 2 = .ok (.iload_n 3, 1) := by decide +kernel
theorem dX3_nextOf_3 : decode cX3_nextOf 3 = .ok (.aload_n 0, 1) := by decide +kernel
theorem dX3_nextOf_4 : decode cX3_nextOf 4 = .ok (.getfield 21, 3) := by decide +kernel
theorem dX3_nextOf_7 : decode cX3_nextOf 7 = .ok (.getfield 25, 3) := by decide +kernel
theorem dX3_nextOf_10 : decode cX3_nextOf 10 = .ok (.if_icmp .ge 40, 3) := by decide +kernel
theorem dX3_nextOf_13 : decode cX3_nextOf 13 = .ok (.iload_n 1, 1) := by decide +kernel
theorem dX3_nextOf_14 : decode cX3_nextOf 14 = .ok (.iload_n 3, 1) := by decide +kernel
theorem dX3_nextOf_15 : decode cX3_nextOf 15 = .ok (.ishr, 1) := by decide +kernel
theorem dX3_nextOf_16 : decode cX3_nextOf 16 = .ok (.iconst 1, 1) := by decide +kernel
theorem dX3_nextOf_17 : decode cX3_nextOf 17 = .ok (.iand, 1) := by decide +kernel
theorem dX3_nextOf_18 : decode cX3_nextOf 18 = .ok (.ifCond .ne 26, 3) := by decide +kernel
theorem dX3_nextOf_21 : decode cX3_nextOf 21 = .ok (.aload_n 0, 1) := by decide +kernel
theorem dX3_nextOf_22 : decode cX3_nextOf 22 = .ok (.iload_n 1, 1) := by decide +kernel
theorem dX3_nextOf_23 : decode cX3_nextOf 23 = .ok (.iload_n 2, 1) := by decide +kernel
theorem dX3_nextOf_24 : decode cX3_nextOf 24 = .ok (.iload_n 3, 1) := by decide +kernel
theorem dX3_nextOf_25 : decode cX3_nextOf 25 = .ok (.invokevirtual 81, 3) := by decide +kernel
theorem dX3_nextOf_28 : decode cX3_nextOf 28 = .ok (.aload_n 0, 1) := by decide +kernel
theorem dX3_nextOf_29 : decode cX3_nextOf 29 = .ok (.getfield 18, 3) := by decide +kernel
theorem dX3_nextOf_32 : decode cX3_nextOf 32 = .ok (.iload_n 1, 1) := by decide +kernel
theorem dX3_nextOf_33 : decode cX3_nextOf 33 = .ok (.bipush 7, 2) := by decide +kernel
theorem dX3_nextOf_35 : decode cX3_nextOf 35 = .ok (.imul, 1) := by decide +kernel
theorem dX3_nextOf_36 : decode cX3_nextOf 36 = .ok (.iload_n 2, 1) := by decide +kernel
theorem dX3_nextOf_37 : decode cX3_nextOf 37 = .ok (.iadd, 1) := by decide +kernel
theorem dX3_nextOf_38 : decode cX3_nextOf 38 = .ok (.iaload, 1) := by decide +kernel
theorem dX3_nextOf_39 : decode cX3_nextOf 39 = .ok (.if_icmp .ne 5, 3) := by decide +kernel
theorem dX3_nextOf_42 : decode cX3_nextOf 42 = .ok (.iload_n 3, 1) := by decide +kernel
theorem dX3_nextOf_43 : decode cX3_nextOf 43 = .ok (.ireturn, 1) := by decide +kernel
theorem dX3_nextOf_44 : decode cX3_nextOf 44 = .ok (.iinc 3 1, 3) := by decide +kernel
theorem dX3_nextOf_47 : decode cX3_nextOf 47 = .ok (.goto (-45), 3) := by decide +kernel
theorem dX3_nextOf_50 : decode cX3_nextOf 50 = .ok (.iload_n 2, 1) := by decide +kernel
theorem dX3_nextOf_51 : decode cX3_nextOf 51 = .ok (.ireturn, 1) := by decide +kernel
theorem dX4_init_0 : decode cX4_init 0 = .ok (.aload_n 0, 1) := by decide +kernel
theorem dX4_init_1 : decode cX4_init 1 = .ok (.invokespecial 3, 3) := by decide +kernel
theorem dX4_init_4 : decode cX4_init 4 = .ok (.aload_n 0, 1) := by decide +kernel
theorem dX4_init_5 : decode cX4_init 5 = .ok (.bipush 7, 2) := by decide +kernel
theorem dX4_init_7 : decode cX4_init 7 = .ok (.newarray .int, 2) := by decide +kernel
theorem dX4_init_9 : decode cX4_init 9 = .ok (.putfield 9, 3) := by decide +kernel
theorem dX4_init_12 : decode cX4_init 12 = .ok (.aload_n 0, 1) := by decide +kernel
theorem dX4_init_13 : decode cX4_init 13 = .ok (.bipush 7, 2) := by decide +kernel
theorem dX4_init_15 : decode cX4_init 15 = .ok (.newarray .int, 2) := by decide +kernel
theorem dX4_init_17 : decode cX4_init 17 = .ok (.putfield 15, 3) := by decide +kernel
theorem dX4_init_20 : decode cX4_init 20 = .ok (.aload_n 0, 1) := by decide +kernel
theorem dX4_init_21 : decode cX4_init 21 = .ok (.bipush 12, 2) := by decide +kernel
theorem dX4_init_23 : decode cX4_init 23 = .ok (.anewarray 18, 3) := by decide +kernel
theorem dX4_init_26 : decode cX4_init 26 = .ok (.putfield 20, 3) := by decide +kernel
theorem dX4_init_29 : decode cX4_init 29 = .ok (.aload_n 0, 1) := by decide +kernel
theorem dX4_init_30 : decode cX4_init 30 = .ok (.iconst 5, 1) := by decide +kernel
theorem dX4_init_31 : decode cX4_init 31 = .ok (.anewarray 24, 3) := by decide +kernel
theorem dX4_init_34 : decode cX4_init 34 = .ok (.putfield 26, 3) := by decide +kernel
theorem dX4_init_37 : decode cX4_init 37 = .ok (.aload_n 0, 1) := by decide +kernel
theorem dX4_init_38 : decode cX4_init 38 = .ok (.bipush 8, 2) := by decide +kernel
theorem dX4_init_40 : decode cX4_init 40 = .ok (.anewarray 30, 3) := by decide +kernel
theorem dX4_init_43 : decode cX4_init 43 = .ok (.putfield 32, 3) := by decide +kernel
theorem dX4_init_46 : decode cX4_init 46 = .ok (.aload_n 0, 1) := by decide +kernel
theorem dX4_init_47 : decode cX4_init 47 = .ok (.bipush 8, 2) := by decide +kernel
theorem dX4_init_49 : decode cX4_init 49 = .ok (.anewarray 36, 3) := by decide +kernel
theorem dX4_init_52 : decode cX4_init 52 = .ok (.putfield 38, 3) := by decide +kernel
theorem dX4_init_55 : decode cX4_init 55 = .ok (.iconst 0, 1) := by decide +kernel
theorem dX4_init_56 : decode cX4_init 56 = .ok (.istore_n 1, 1) := by decide +kernel
theorem dX4_init_57 : decode cX4_init 57 = .ok (.iload_n 1, 1) := by decide +kernel
theorem dX4_init_58 : decode cX4_init 58 = .ok (.bipush 12, 2) := by decide +kernel
theorem dX4_init_60 : decode cX4_init 60 = .ok (.if_icmp .ge 22, 3) := by decide +kernel
theorem dX4_init_63 : decode cX4_init 63 = .ok (.aload_n 0, 1) := by decide +kernel
theorem dX4_init_64 : decode cX4_init 64 = .ok (.getfield 20, 3) := by decide +kernel
theorem dX4_init_67 : decode cX4_init 67 = .ok (.iload_n 1, 1) := by decide +kernel
theorem dX4_init_68 : decode cX4_init 68 = .ok (.new 18, 3) := by decide +kernel
theorem dX4_init_71 : decode cX4_init 71 = .ok (.dup, 1) := by decide +kernel
theorem dX4_init_72 : decode cX4_init 72 = .ok (.invokespecial 42, 3) := by decide +kernel
theorem dX4_init_75 : decode cX4_init 75 = .ok (.aastore, 1) := by decide +kernel
theorem dX4_init_76 : decode cX4_init 76 = .ok (.iinc 1 1, 3) := by decide +kernel
theorem dX4_init_79 : decode cX4_init 79 = .ok (.goto (-22), 3) := by decide +kernel
theorem dX4_init_82 : decode cX4_init 82 = .ok (.iconst 0, 1) := by decide +kernel
theorem dX4_init_83 : decode cX4_init 83 = .ok (.istore_n 1, 1) := by decide +kernel
theorem dX4_init_84 : decode cX4_init 84 = .ok (.iload_n 1, 1) := by decide +kernel
theorem dX4_init_85 : decode cX4_init 85 = .ok (.iconst 5, 1) := by decide +kernel
theorem dX4_init_86 : decode cX4_init 86 = .ok (.if_icmp .ge 22, 3) := by decide +kernel
theorem dX4_init_89 : decode cX4_init 89 = .ok (.aload_n 0, 1) := by decide +kernel
theorem dX4_init_90 : decode cX4_init 90 = .ok (.getfield 26, 3) := by decide +kernel
theorem dX4_init_93 : decode cX4_init 93 = .ok (.iload_n 1, 1) := by decide +kernel
theorem dX4_init_94 : decode cX4_init 94 = .ok (.new 24, 3) := by decide +kernel
theorem dX4_init_97 : decode cX4_init 97 = .ok (.dup, 1) := by decide +kernel
theorem dX4_init_98 : decode cX4_init 98 = .ok (.invokespecial 43, 3) := by decide +kernel
theorem dX4_init_101 : decode cX4_init 101 = .ok (.aastore, 1) := by decide +kernel
theorem dX4_init_102 : decode cX4_init 102 = .ok (.iinc 1 1, 3) := by decide +kernel
theorem dX4_init_105 : decode cX4_init 105 = .ok (.goto (-21), 3) := by decide +kernel
theorem dX4_init_108 : decode cX4_init 108 = .ok (.iconst 0, 1) := by decide +kernel
theorem dX4_init_109 : decode cX4_init 109 = .ok (.istore_n 1, 1) := by decide +kernel
theorem dX4_init_110 : decode cX4_init 110 = .ok (.iload_n 1, 1) := by decide +kernel
theorem dX4_init_111 : decode cX4_init 111 = .ok (.bipush 8, 2) := by decide +kernel
theorem dX4_init_113 : decode cX4_init 113 = .ok (.if_icmp .ge 22, 3) := by decide +kernel
theorem dX4_init_116 : decode cX4_init 116 = .ok (.aload_n 0, 1) := by decide +kernel
theorem dX4_init_117 : decode cX4_init 117 = .ok (.getfield 32, 3) := by decide +kernel
theorem dX4_init_120 : decode cX4_init 120 = .ok (.iload_n 1, 1) := by decide +kernel
theorem dX4_init_121 : decode cX4_init 121 = .ok (.new 30, 3) := by decide +kernel
theorem dX4_init_124 : decode cX4_init 124 = .ok (.dup, 1) := by decide +kernel
theorem dX4_init_125 : decode cX4_init 125 = .ok (.invokespecial 44, 3) := by decide +kernel
theorem dX4_init_128 : decode cX4_init 128 = .ok (.aastore, 1) := by decide +kernel
theorem dX4_init_129 : decode cX4_init 129 = .ok (.iinc 1 1, 3) := by decide +kernel
theorem dX4_init_132 : decode cX4_init 132 = .ok (.goto (-22), 3) := by decide +kernel
theorem dX4_init_135 : decode cX4_init 135 = .ok (.iconst 0, 1) := by decide +kernel
theorem dX4_init_136 : decode cX4_init 136 = .ok (.istore_n 1, 1) := by decide +kernel
theorem dX4_init_137 : decode cX4_init 137 = .ok (.iload_n 1, 1) := by decide +kernel
theorem dX4_init_138 : decode cX4_init 138 = .ok (.bipush 8, 2) := by decide +kernel
theorem dX4_init_140 : decode cX4_init 140 = .ok (.if_icmp .ge 22, 3) := by decide +kernel
theorem dX4_init_143 : decode cX4_init 143 = .ok (.aload_n 0, 1) := by decide +kernel
theorem dX4_init_144 : decode cX4_init 144 = .ok (.getfield 38, 3) := by decide +kernel
theorem dX4_init_147 : decode cX4_init 147 = .ok (.iload_n 1, 1) := by decide +kernel
theorem dX4_init_148 : decode cX4_init 148 = .ok (.new 36, 3) := by decide +kernel
theorem dX4_init_151 : decode cX4_init 151 = .ok (.dup, 1) := by decide +kernel
theorem dX4_init_152 : decode cX4_init 152 = .ok (.invokespecial 45, 3) := by decide +kernel
theorem dX4_init_155 : decode cX4_init 155 = .ok (.aastore, 1) := by decide +kernel
theorem dX4_init_156 : decode cX4_init 156 = .ok (.iinc 1 1, 3) := by decide +kernel
theorem dX4_init_159 : decode cX4_init 159 = .ok (.goto (-22), 3) := by decide +kernel
theorem dX4_init_162 : decode cX4_init 162 = .ok (.return_, 1) := by decide +kernel
theorem dX4_clear_0 : decode cX4_clear 0 = .ok (.aload_n 0, 1) := by decide +kernel
theorem dX4_clear_1 : decode cX4_clear 1 = .ok (.iconst 0, 1) := by decide +kernel
theorem dX4_clear_2 : decode cX4_clear 2 = .ok (.putfield 46, 3) := by decide +kernel
theorem dX4_clear_5 : decode cX4_clear 5 = .ok (.aload_n 0, 1) := by decide +kernel
theorem dX4_clear_6 : decode cX4_clear 6 = .ok (.iconst 0, 1) := by decide +kernel
theorem dX4_clear_7 : decode cX4_clear 7 = .ok (.putfield 50, 3) := by decide +kernel
theorem dX4_clear_10 : decode cX4_clear 10 = .ok (.aload_n 0, 1) := by decide +kernel
theorem dX4_clear_11 : decode cX4_clear 11 = .ok (.iconst 0, 1) := by decide +kernel
theorem dX4_clear_12 : decode cX4_clear 12 = .ok (.putfield 53, 3) := by decide +kernel
theorem dX4_clear_15 : decode cX4_clear 15 = .ok (.aload_n 0, 1) := by decide +kernel
theorem dX4_clear_16 : decode cX4_clear 16 = .ok (.iconst 0, 1) := by decide +kernel
theorem dX4_clear_17 : decode cX4_clear 17 = .ok (.putfield 56, 3) := by decide +kernel
theorem dX4_clear_20 : decode cX4_clear 20 = .ok (.aload_n 0, 1) := by decide +kernel
theorem dX4_clear_21 : decode cX4_clear 21 = .ok (.iconst 0, 1) := by decide +kernel
theorem dX4_clear_22 : decode cX4_clear 22 = .ok (.putfield 59, 3) := by decide +kernel
theorem dX4_clear_25 : decode cX4_clear 25 = .ok (.aload_n 0, 1) := by decide +kernel
theorem dX4_clear_26 : decode cX4_clear 26 = .ok (.iconst 0, 1) := by decide +kernel
theorem dX4_clear_27 : decode cX4_clear 27 = .ok (.putfield 62, 3) := by decide +kernel
theorem dX4_clear_30 : decode cX4_clear 30 = .ok (.aload_n 0, 1) := by decide +kernel
theorem dX4_clear_31 : decode cX4_clear 31 = .ok (.iconst 0, 1) := by decide +kernel
theorem dX4_clear_32 : decode cX4_clear 32 = .ok (.putfield 65, 3) := by decide +kernel
theorem dX4_clear_35 : decode cX4_clear 35 = .ok (.aload_n 0, 1) := by decide +kernel
theorem dX4_clear_36 : decode cX4_clear 36 = .ok (.iconst 0, 1) := by decide +kernel
theorem dX4_clear_37 : decode cX4_clear 37 = .ok (.putfield 68, 3) := by decide +kernel
theorem dX4_clear_40 : decode cX4_clear 40 = .ok (.aload_n 0, 1) := by decide +kernel
theorem dX4_clear_41 : decode cX4_clear 41 = .ok (.iconst 0, 1) := by decide +kernel
theorem dX4_clear_42 : decode cX4_clear 42 = .ok (.putfield 71, 3) := by decide +kernel
theorem dX4_clear_45 : decode cX4_clear 45 = .ok (.return_, 1) := by decide +kernel
theorem dX4_boxLength_0 : decode cX4_boxLength 0 = .ok (.aload_n 0, 1) := by decide +kernel
theorem dX4_boxLength_1 : decode cX4_boxLength 1 = .ok (.getfield 15, 3) := by decide +kernel
theorem dX4_boxLength_4 : decode cX4_boxLength 4 = .ok (.aload_n 0, 1) := by decide +kernel
theorem dX4_boxLength_5 : decode cX4_boxLength 5 = .ok (.getfield 32, 3) := by decide +kernel
theorem dX4_boxLength_8 : decode cX4_boxLength 8 = .ok (.iload_n 1, 1) := by decide +kernel
theorem dX4_boxLength_9 : decode cX4_boxLength 9 = .ok (.aaload, 1) := by decide +kernel
theorem dX4_boxLength_10 : decode cX4_boxLength 10 = .ok (.getfield 74, 3) := by decide +kernel
theorem dX4_boxLength_13 : decode cX4_boxLength 13 = .ok (.iaload, 1) := by decide +kernel
theorem dX4_boxLength_14 : decode cX4_boxLength 14 = .ok (.ireturn, 1) := by decide +kernel
theorem dX4_wayBetween_0 : decode cX4_wayBetween 0 = .ok (.iconst 0, 1) := by decide +kernel
theorem dX4_wayBetween_1 : decode cX4_wayBetween 1 = .ok (.istore_n 3, 1) := by decide +kernel
theorem dX4_wayBetween_2 : decode cX4_wayBetween 2 = .ok (.iload_n 3, 1) := by decide +kernel
theorem dX4_wayBetween_3 : decode cX4_wayBetween 3 = .ok (.aload_n 0, 1) := by decide +kernel
theorem dX4_wayBetween_4 : decode cX4_wayBetween 4 = .ok (.getfield 62, 3) := by decide +kernel
theorem dX4_wayBetween_7 : decode cX4_wayBetween 7 = .ok (.if_icmp .ge 75, 3) := by decide +kernel
theorem dX4_wayBetween_10 : decode cX4_wayBetween 10 = .ok (.aload_n 0, 1) := by decide +kernel
theorem dX4_wayBetween_11 : decode cX4_wayBetween 11 = .ok (.getfield 20, 3) := by decide +kernel
theorem dX4_wayBetween_14 : decode cX4_wayBetween 14 = .ok (.iload_n 3, 1) := by decide +kernel
theorem dX4_wayBetween_15 : decode cX4_wayBetween 15 = .ok (.aaload, 1) := by decide +kernel
theorem dX4_wayBetween_16 : decode cX4_wayBetween 16 = .ok (.getfield 77, 3) := by decide +kernel
theorem dX4_wayBetween_19 : decode cX4_wayBetween 19 = .ok (.iload_n 1, 1) := by decide +kernel
theorem dX4_wayBetween_20 : decode cX4_wayBetween 20 = .ok (.if_icmp .ne 20, 3) := by decide +kernel
theorem dX4_wayBetween_23 : decode cX4_wayBetween 23 = .ok (.aload_n 0, 1) := by decide +kernel
theorem dX4_wayBetween_24 : decode cX4_wayBetween 24 = .ok (.getfield 20, 3) := by decide +kernel
theorem dX4_wayBetween_27 : decode cX4_wayBetween 27 = .ok (.iload_n 3, 1) := by decide +kernel
theorem dX4_wayBetween_28 : decode cX4_wayBetween 28 = .ok (.aaload, 1) := by decide +kernel
theorem dX4_wayBetween_29 : decode cX4_wayBetween 29 = .ok (.getfield 80, 3) := by decide +kernel
theorem dX4_wayBetween_32 : decode cX4_wayBetween 32 = .ok (.iload_n 2, 1) := by decide +kernel
theorem dX4_wayBetween_33 : decode cX4_wayBetween 33 = .ok (.if_icmp .ne 7, 3) := by decide +kernel
theorem dX4_wayBetween_36 : decode cX4_wayBetween 36 = .ok (.iconst 1, 1) := by decide +kernel
theorem dX4_wayBetween_37 : decode cX4_wayBetween 37 = .ok (.goto 4, 3) := by decide +kernel
theorem dX4_wayBetween_40 : decode cX4_wayBetween 40 = .ok (.iconst 0, 1) := by decide +kernel
theorem dX4_wayBetween_41 : decode cX4_wayBetween 41 = .ok (.istore 4, 2) := by decide +kernel
theorem dX4_wayBetween_43 : decode cX4_wayBetween 43 = .ok (.iload 4, 2) := by decide +kernel
theorem dX4_wayBetween_45 : decode cX4_wayBetween 45 = .ok (.ifCond .ne 29, 3) := by decide +kernel
theorem dX4_wayBetween_48 : decode cX4_wayBetween 48 = .ok (.aload_n 0, 1) := by decide +kernel
theorem dX4_wayBetween_49 : decode cX4_wayBetween 49 = .ok (.getfield 20, 3) := by decide +kernel
theorem dX4_wayBetween_52 : decode cX4_wayBetween 52 = .ok (.iload_n 3, 1) := by decide +kernel
theorem dX4_wayBetween_53 : decode cX4_wayBetween 53 = .ok (.aaload, 1) := by decide +kernel
theorem dX4_wayBetween_54 : decode cX4_wayBetween 54 = .ok (.getfield 77, 3) := by decide +kernel
theorem dX4_wayBetween_57 : decode cX4_wayBetween 57 = .ok (.iload_n 2, 1) := by decide +kernel
theorem dX4_wayBetween_58 : decode cX4_wayBetween 58 = .ok (.if_icmp .ne 18, 3) := by decide +kernel
theorem dX4_wayBetween_61 : decode cX4_wayBetween 61 = .ok (.aload_n 0, 1) := by decide +kernel
theorem dX4_wayBetween_62 : decode cX4_wayBetween 62 = .ok (.getfield 20, 3) := by decide +kernel
theorem dX4_wayBetween_65 : decode cX4_wayBetween 65 = .ok (.iload_n 3, 1) := by decide +kernel
theorem dX4_wayBetween_66 : decode cX4_wayBetween 66 = .ok (.aaload, 1) := by decide +kernel
theorem dX4_wayBetween_67 : decode cX4_wayBetween 67 = .ok (.getfield 80, 3) := by decide +kernel
theorem dX4_wayBetween_70 : decode cX4_wayBetween 70 = .ok (.iload_n 1, 1) := by decide +kernel
theorem dX4_wayBetween_71 : decode cX4_wayBetween 71 = .ok (.if_icmp .ne 5, 3) := by decide +kernel
theorem dX4_wayBetween_74 : decode cX4_wayBetween 74 = .ok (.iload_n 3, 1) := by decide +kernel
theorem dX4_wayBetween_75 : decode cX4_wayBetween 75 = .ok (.ireturn, 1) := by decide +kernel
theorem dX4_wayBetween_76 : decode cX4_wayBetween 76 = .ok (.iinc 3 1, 3) := by decide +kernel
theorem dX4_wayBetween_79 : decode cX4_wayBetween 79 = .ok (.goto (-77), 3) := by decide +kernel
theorem dX4_wayBetween_82 : decode cX4_wayBetween 82 = .ok (.bipush (-2), 2) := by decide +kernel
theorem dX4_wayBetween_84 : decode cX4_wayBetween 84 = .ok (.ireturn, 1) := by decide +kernel
theorem dX4_hasSong_0 : decode cX4_hasSong 0 = .ok (.iconst 0, 1) := by decide +kernel
theorem dX4_hasSong_1 : decode cX4_hasSong 1 = .ok (.istore_n 3, 1) := by decide +kernel
theorem dX4_hasSong_2 : decode cX4_hasSong 2 = .ok (.iload_n 3, 1) := by decide +kernel
theorem dX4_hasSong_3 : decode cX4_hasSong 3 = .ok (.aload_n 0, 1) := by decide +kernel
theorem dX4_hasSong_4 : decode cX4_hasSong 4 = .ok (.getfield 59, 3) := by decide +kernel
theorem dX4_hasSong_7 : decode cX4_hasSong 7 = .ok (.if_icmp .ge 31, 3) := by decide +kernel
theorem dX4_hasSong_10 : decode cX4_hasSong 10 = .ok (.aload_n 0, 1) := by decide +kernel
theorem dX4_hasSong_11 : decode cX4_hasSong 11 = .ok (.getfield 9, 3) := by decide +kernel
theorem dX4_hasSong_14 : decode cX4_hasSong 14 = .ok (.iload_n 3, 1) := by decide +kernel
theorem dX4_hasSong_15 : decode cX4_hasSong 15 = .ok (.iaload, 1) := by decide +kernel
theorem dX4_hasSong_16 : decode cX4_hasSong 16 = .ok (.iload_n 1, 1) := by decide +kernel
theorem dX4_hasSong_17 : decode cX4_hasSong 17 = .ok (.if_icmp .ne 15, 3) := by decide +kernel
theorem dX4_hasSong_20 : decode cX4_hasSong 20 = .ok (.aload_n 0, 1) := by decide +kernel
theorem dX4_hasSong_21 : decode cX4_hasSong 21 = .ok (.getfield 15, 3) := by decide +kernel
theorem dX4_hasSong_24 : decode cX4_hasSong 24 = .ok (.iload_n 3, 1) := by decide +kernel
theorem dX4_hasSong_25 : decode cX4_hasSong 25 = .ok (.iaload, 1) := by decide +kernel
theorem dX4_hasSong_26 : decode cX4_hasSong 26 = .ok (.iload_n 2, 1) := by decide +kernel
theorem dX4_hasSong_27 : decode cX4_hasSong 27 = .ok (.if_icmp .ne 5, 3) := by decide +kernel
theorem dX4_hasSong_30 : decode cX4_hasSong 30 = .ok (.iconst 1, 1) := by decide +kernel
theorem dX4_hasSong_31 : decode cX4_hasSong 31 = .ok (.ireturn, 1) := by decide +kernel
theorem dX4_hasSong_32 : decode cX4_hasSong 32 = .ok (.iinc 3 1, 3) := by decide +kernel
theorem dX4_hasSong_35 : decode cX4_hasSong 35 = .ok (.goto (-33), 3) := by decide +kernel
theorem dX4_hasSong_38 : decode cX4_hasSong 38 = .ok (.iconst 0, 1) := by decide +kernel
theorem dX4_hasSong_39 : decode cX4_hasSong 39 = .ok (.ireturn, 1) := by decide +kernel
theorem dX4_lastSpoutOf_0 : decode cX4_lastSpoutOf 0 = .ok (.aload_n 0, 1) := by decide +kernel
theorem dX4_lastSpoutOf_1 : decode cX4_lastSpoutOf 1 = .ok (.getfield 71, 3) := by decide +kernel
theorem dX4_lastSpoutOf_4 : decode cX4_lastSpoutOf 4 = .ok (.iconst 1, 1) := by decide +kernel
theorem dX4_lastSpoutOf_5 : decode cX4_lastSpoutOf 5 = .ok (.isub, 1) := by decide +kernel
theorem dX4_lastSpoutOf_6 : decode cX4_lastSpoutOf 6 = .ok (.istore_n 2, 1) := by decide +kernel
theorem dX4_lastSpoutOf_7 : decode cX4_lastSpoutOf 7 = .ok (.iload_n 2, 1) := by decide +kernel
theorem dX4_lastSpoutOf_8 : decode cX4_lastSpoutOf 8 = .ok (.ifCond .lt 24, 3) := by decide +kernel
theorem dX4_lastSpoutOf_11 : decode cX4_lastSpoutOf 11 = .ok (.aload_n 0, 1) := by decide +kernel
theorem dX4_lastSpoutOf_12 : decode cX4_lastSpoutOf 12 = .ok (.getfield 38, 3) := by decide +kernel
theorem dX4_lastSpoutOf_15 : decode cX4_lastSpoutOf 15 = .ok (.iload_n 2, 1) := by decide +kernel
theorem dX4_lastSpoutOf_16 : decode cX4_lastSpoutOf 16 = .ok (.aaload, 1) := by decide +kernel
theorem dX4_lastSpoutOf_17 : decode cX4_lastSpoutOf 17 = .ok (.getfield 83, 3) := by decide +kernel
theorem dX4_lastSpoutOf_20 : decode cX4_lastSpoutOf 20 = .ok (.iload_n 1, 1) := by decide +kernel
theorem dX4_lastSpoutOf_21 : decode cX4_lastSpoutOf 21 = .ok (.if_icmp .ne 5, 3) := by decide +kernel
theorem dX4_lastSpoutOf_24 : decode cX4_lastSpoutOf 24 = .ok (.iload_n 2, 1) := by decide +kernel
theorem dX4_lastSpoutOf_25 : decode cX4_lastSpoutOf 25 = .ok (.ireturn, 1) := by decide +kernel
theorem dX4_lastSpoutOf_26 : decode cX4_lastSpoutOf 26 = .ok (.iinc 2 (-1), 3) := by decide +kernel
theorem dX4_lastSpoutOf_29 : decode cX4_lastSpoutOf 29 = .ok (.goto (-22), 3) := by decide +kernel
theorem dX4_lastSpoutOf_32 : decode cX4_lastSpoutOf 32 = .ok (.bipush (-2), 2) := by decide +kernel
theorem dX4_lastSpoutOf_34 : decode cX4_lastSpoutOf 34 = .ok (.ireturn, 1) := by decide +kernel
theorem dX5_init_0 : decode cX5_init 0 = .ok (.aload_n 0, 1) := by decide +kernel
theorem dX5_init_1 : decode cX5_init 1 = .ok (.invokespecial 3, 3) := by decide +kernel
theorem dX5_init_4 : decode cX5_init 4 = .ok (.aload_n 0, 1) := by decide +kernel
theorem dX5_init_5 : decode cX5_init 5 = .ok (.iconst 0, 1) := by decide +kernel
theorem dX5_init_6 : decode cX5_init 6 = .ok (.putfield 9, 3) := by decide +kernel
theorem dX5_init_9 : decode cX5_init 9 = .ok (.aload_n 0, 1) := by decide +kernel
theorem dX5_init_10 : decode cX5_init 10 = .ok (.iconst 0, 1) := by decide +kernel
theorem dX5_init_11 : decode cX5_init 11 = .ok (.putfield 15, 3) := by decide +kernel
theorem dX5_init_14 : decode cX5_init 14 = .ok (.aload_n 0, 1) := by decide +kernel
theorem dX5_init_15 : decode cX5_init 15 = .ok (.iconst 0, 1) := by decide +kernel
theorem dX5_init_16 : decode cX5_init 16 = .ok (.putfield 18, 3) := by decide +kernel
theorem dX5_init_19 : decode cX5_init 19 = .ok (.aload_n 0, 1) := by decide +kernel
theorem dX5_init_20 : decode cX5_init 20 = .ok (.iconst 0, 1) := by decide +kernel
theorem dX5_init_21 : decode cX5_init 21 = .ok (.putfield 21, 3) := by decide +kernel
theorem dX5_init_24 : decode cX5_init 24 = .ok (.aload_n 0, 1) := by decide +kernel
theorem dX5_init_25 : decode cX5_init 25 = .ok (.iconst 0, 1) := by decide +kernel
theorem dX5_init_26 : decode cX5_init 26 = .ok (.putfield 24, 3) := by decide +kernel
theorem dX5_init_29 : decode cX5_init 29 = .ok (.aload_n 0, 1) := by decide +kernel
theorem dX5_init_30 : decode cX5_init 30 = .ok (.bipush 20, 2) := by decide +kernel
theorem dX5_init_32 : decode cX5_init 32 = .ok (.newarray .long, 2) := by decide +kernel
theorem dX5_init_34 : decode cX5_init 34 = .ok (.putfield 27, 3) := by decide +kernel
theorem dX5_init_37 : decode cX5_init 37 = .ok (.aload_n 0, 1) := by decide +kernel
theorem dX5_init_38 : decode cX5_init 38 = .ok (.bipush 20, 2) := by decide +kernel
theorem dX5_init_40 : decode cX5_init 40 = .ok (.newarray .int, 2) := by decide +kernel
theorem dX5_init_42 : decode cX5_init 42 = .ok (.putfield 31, 3) := by decide +kernel
theorem dX5_init_45 : decode cX5_init 45 = .ok (.aload_n 0, 1) := by decide +kernel
theorem dX5_init_46 : decode cX5_init 46 = .ok (.bipush 20, 2) := by decide +kernel
theorem dX5_init_48 : decode cX5_init 48 = .ok (.newarray .int, 2) := by decide +kernel
theorem dX5_init_50 : decode cX5_init 50 = .ok (.putfield 35, 3) := by decide +kernel
theorem dX5_init_53 : decode cX5_init 53 = .ok (.aload_n 0, 1) := by decide +kernel
theorem dX5_init_54 : decode cX5_init 54 = .ok (.iconst 0, 1) := by decide +kernel
theorem dX5_init_55 : decode cX5_init 55 = .ok (.putfield 38, 3) := by decide +kernel
theorem dX5_init_58 : decode cX5_init 58 = .ok (.aload_n 0, 1) := by decide +kernel
theorem dX5_init_59 : decode cX5_init 59 = .ok (.iconst 0, 1) := by decide +kernel
theorem dX5_init_60 : decode cX5_init 60 = .ok (.putfield 41, 3) := by decide +kernel
theorem dX5_init_63 : decode cX5_init 63 = .ok (.aload_n 0, 1) := by decide +kernel
theorem dX5_init_64 : decode cX5_init 64 = .ok (.iconst (-1), 1) := by decide +kernel
theorem dX5_init_65 : decode cX5_init 65 = .ok (.putfield 44, 3) := by decide +kernel
theorem dX5_init_68 : decode cX5_init 68 = .ok (.aload_n 0, 1) := by decide +kernel
theorem dX5_init_69 : decode cX5_init 69 = .ok (.aload_n 1, 1) := by decide +kernel
theorem dX5_init_70 : decode cX5_init 70 = .ok (.putfield 47, 3) := by decide +kernel
theorem dX5_init_73 : decode cX5_init 73 = .ok (.aload_n 0, 1) := by decide +kernel
theorem dX5_init_74 : decode cX5_init 74 = .ok (.aload_n 2, 1) := by decide +kernel
theorem dX5_init_75 : decode cX5_init 75 = .ok (.putfield 51, 3) := by decide +kernel
theorem dX5_init_78 : decode cX5_init 78 = .ok (.return_, 1) := by decide +kernel
theorem dX5_readPost_0 : decode cX5_readPost 0 = .ok (.aload_n 0, 1) := by decide +kernel
theorem dX5_readPost_1 : decode cX5_readPost 1 = .ok (.aload_n 2, 1) := by decide +kernel
theorem dX5_readPost_2 : decode cX5_readPost 2 = .ok (.putfield 51, 3) := by decide +kernel
theorem dX5_readPost_5 : decode cX5_readPost 5 = .ok (.aload_n 0, 1) := by decide +kernel
theorem dX5_readPost_6 : decode cX5_readPost 6 = .ok (.getfield 51, 3) := by decide +kernel
theorem dX5_readPost_9 : decode cX5_readPost 9 = .ok (.invokevirtual 55, 3) := by decide +kernel
theorem dX5_readPost_12 : decode cX5_readPost 12 = .ok (.aload_n 0, 1) := by decide +kernel
theorem dX5_readPost_13 : decode cX5_readPost 13 = .ok (.iload_n 1, 1) := by decide +kernel
theorem dX5_readPost_14 : decode cX5_readPost 14 = .ok (.aload_n 0, 1) := by decide +kernel
theorem dX5_readPost_15 : decode cX5_readPost 15 = .ok (.getfield 47, 3) := by decide +kernel
theorem dX5_readPost_18 : decode cX5_readPost 18 = .ok (.arraylength, 1) := by decide +kernel
theorem dX5_readPost_19 : decode cX5_readPost 19 = .ok (.invokestatic 60, 3) := by decide +kernel
theorem dX5_readPost_22 : decode cX5_readPost 22 = .ok (.putfield 9, 3) := by decide +kernel
theorem dX5_readPost_25 : decode cX5_readPost 25 = .ok (.aload_n 0, 1) := by decide +kernel
theorem dX5_readPost_26 : decode cX5_readPost 26 = .ok (.iconst 0, 1) := by decide +kernel
theorem dX5_readPost_27 : decode cX5_readPost 27 = .ok (.putfield 15, 3) := by decide +kernel
theorem dX5_readPost_30 : decode cX5_readPost 30 = .ok (.aload_n 0, 1) := by decide +kernel
theorem dX5_readPost_31 : decode cX5_readPost 31 = .ok (.iconst 0, 1) := by decide +kernel
theorem dX5_readPost_32 : decode cX5_readPost 32 = .ok (.putfield 38, 3) := by decide +kernel
theorem dX5_readPost_35 : decode cX5_readPost 35 = .ok (.aload_n 0, 1) := by decide +kernel
theorem dX5_readPost_36 : decode cX5_readPost 36 = .ok (.iconst 0, 1) := by decide +kernel
theorem dX5_readPost_37 : decode cX5_readPost 37 = .ok (.putfield 41, 3) := by decide +kernel
theorem dX5_readPost_40 : decode cX5_readPost 40 = .ok (.aload_n 0, 1) := by decide +kernel
theorem dX5_readPost_41 : decode cX5_readPost 41 = .ok (.iconst (-1), 1) := by decide +kernel
theorem dX5_readPost_42 : decode cX5_readPost 42 = .ok (.putfield 44, 3) := by decide +kernel
theorem dX5_readPost_45 : decode cX5_readPost 45 = .ok (.iconst 0, 1) := by decide +kernel
theorem dX5_readPost_46 : decode cX5_readPost 46 = .ok (.istore_n 3, 1) := by decide +kernel
theorem dX5_readPost_47 : decode cX5_readPost 47 = .ok (.iload_n 3, 1) := by decide +kernel
theorem dX5_readPost_48 : decode cX5_readPost 48 = .ok (.aload_n 0, 1) := by decide +kernel
theorem dX5_readPost_49 : decode cX5_readPost 49 = .ok (.getfield 9, 3) := by decide +kernel
theorem dX5_readPost_52 : decode cX5_readPost 52 = .ok (.if_icmp .gt 68, 3) := by decide +kernel
theorem dX5_readPost_55 : decode cX5_readPost 55 = .ok (.aload_n 0, 1) := by decide +kernel
theorem dX5_readPost_56 : decode cX5_readPost 56 = .ok (.invokevirtual 66, 3) := by decide +kernel
theorem dX5_readPost_59 : decode cX5_readPost 59 = .ok (.ifCond .ne 5, 3) := by decide +kernel
theorem dX5_readPost_62 : decode cX5_readPost 62 = .ok (.iconst 0, 1) := by decide +kernel
theorem dX5_readPost_63 : decode cX5_readPost 63 = .ok (.ireturn, 1) := by decide +kernel
theorem dX5_readPost_64 : decode cX5_readPost 64 = .ok (.aload_n 0, 1) := by decide +kernel
theorem dX5_readPost_65 : decode cX5_readPost 65 = .ok (.invokevirtual 70, 3) := by decide +kernel
theorem dX5_readPost_68 : decode cX5_readPost 68 = .ok (.aload_n 0, 1) := by decide +kernel
theorem dX5_readPost_69 : decode cX5_readPost 69 = .ok (.getfield 18, 3) := by decide +kernel
theorem dX5_readPost_72 : decode cX5_readPost 72 = .ok (.ifCond .ne 28, 3) := by decide +kernel
theorem dX5_readPost_75 : decode cX5_readPost 75 = .ok (.aload_n 0, 1) := by decide +kernel
theorem dX5_readPost_76 : decode cX5_readPost 76 = .ok (.getfield 51, 3) := by decide +kernel
theorem dX5_readPost_79 : decode cX5_readPost 79 = .ok (.getfield 73, 3) := by decide +kernel
theorem dX5_readPost_82 : decode cX5_readPost 82 = .ok (.ifCond .gt 12, 3) := by decide +kernel
theorem dX5_readPost_85 : decode cX5_readPost 85 = .ok (.aload_n 0, 1) := by decide +kernel
theorem dX5_readPost_86 : decode cX5_readPost 86 = .ok (.bipush 6, 2) := by decide +kernel
theorem dX5_readPost_88 : decode cX5_readPost 88 = .ok (.invokevirtual 76, 3) := by decide +kernel
theorem dX5_readPost_91 : decode cX5_readPost 91 = .ok (.ifCond .eq 7, 3) := by decide +kernel
theorem dX5_readPost_94 : decode cX5_readPost 94 = .ok (.iconst 1, 1) := by decide +kernel
theorem dX5_readPost_95 : decode cX5_readPost 95 = .ok (.goto 4, 3) := by decide +kernel
theorem dX5_readPost_98 : decode cX5_readPost 98 = .ok (.iconst 0, 1) := by decide +kernel
theorem dX5_readPost_99 : decode cX5_readPost 99 = .ok (.ireturn, 1) := by decide +kernel
theorem dX5_readPost_100 : decode cX5_readPost 100 = .ok (.aload_n 0, 1) := by decide +kernel
theorem dX5_readPost_101 : decode cX5_readPost 101 = .ok (.getfield 18, 3) := by decide +kernel
theorem dX5_readPost_104 : decode cX5_readPost 104 = .ok (.iconst 3, 1) := by decide +kernel
theorem dX5_readPost_105 : decode cX5_readPost 105 = .ok (.if_icmp .eq 9, 3) := by decide +kernel
theorem dX5_readPost_108 : decode cX5_readPost 108 = .ok (.aload_n 0, 1) := by decide +kernel
theorem dX5_readPost_109 : decode cX5_readPost 109 = .ok (.iconst 1, 1) := by decide +kernel
theorem dX5_readPost_110 : decode cX5_readPost 110 = .ok (.invokevirtual 76, 3) := by decide +kernel
theorem dX5_readPost_113 : decode cX5_readPost 113 = .ok (.ireturn, 1) := by decide +kernel
theorem dX5_readPost_114 : decode cX5_readPost 114 = .ok (.iinc 3 1, 3) := by decide +kernel
theorem dX5_readPost_117 : decode cX5_readPost 117 = .ok (.goto (-70), 3) := by decide +kernel
theorem dX5_readPost_120 : decode cX5_readPost 120 = .ok (.aload_n 0, 1) := by decide +kernel
theorem dX5_readPost_121 : decode cX5_readPost 121 = .ok (.iconst 1, 1) := by decide +kernel
theorem dX5_readPost_122 : decode cX5_readPost 122 = .ok (.invokevirtual 76, 3) := by decide +kernel
theorem dX5_readPost_125 : decode cX5_readPost 125 = .ok (.ireturn, 1) := by decide +kernel
theorem dX5_faulty_0 : decode cX5_faulty 0 = .ok (.aload_n 0, 1) := by decide +kernel
theorem dX5_faulty_1 : decode cX5_faulty 1 = .ok (.iload_n 1, 1) := by decide +kernel
theorem dX5_faulty_2 : decode cX5_faulty 2 = .ok (.putfield 41, 3) := by decide +kernel
theorem dX5_faulty_5 : decode cX5_faulty 5 = .ok (.aload_n 0, 1) := by decide +kernel
theorem dX5_faulty_6 : decode cX5_faulty 6 = .ok (.aload_n 0, 1) := by decide +kernel
theorem dX5_faulty_7 : decode cX5_faulty 7 = .ok (.getfield 21, 3) := by decide +kernel
theorem dX5_faulty_10 : decode cX5_faulty 10 = .ok (.putfield 44, 3) := by decide +kernel
theorem dX5_faulty_13 : decode cX5_faulty 13 = .ok (.iconst 0, 1) := by decide +kernel
theorem dX5_faulty_14 : decode cX5_faulty 14 = .ok (.ireturn, 1) := by decide +kernel
theorem dX5_readLine_0 : decode cX5_readLine 0 = .ok (.aload_n 0, 1) := by decide +kernel
theorem dX5_readLine_1 : decode cX5_readLine 1 = .ok (.invokevirtual 70, 3) := by decide +kernel
theorem dX5_readLine_4 : decode cX5_readLine 4 = .ok (.aload_n 0, 1) := by decide +kernel
theorem dX5_readLine_5 : decode cX5_readLine 5 = .ok (.invokevirtual 80, 3) := by decide +kernel
theorem dX5_readLine_8 : decode cX5_readLine 8 = .ok (.istore_n 1, 1) := by decide +kernel
theorem dX5_readLine_9 : decode cX5_readLine 9 = .ok (.iload_n 1, 1) := by decide +kernel
theorem dX5_readLine_10 : decode cX5_readLine 10 = .ok (.bipush (-2), 2) := by decide +kernel
theorem dX5_readLine_12 : decode cX5_readLine 12 = .ok (.if_icmp .ne 9, 3) := by decide +kernel
theorem dX5_readLine_15 : decode cX5_readLine 15 = .ok (.aload_n 0, 1) := by decide +kernel
theorem dX5_readLine_16 : decode cX5_readLine 16 = .ok (.iconst 1, 1) := by decide +kernel
theorem dX5_readLine_17 : decode cX5_readLine 17 = .ok (.invokevirtual 76, 3) := by decide +kernel
theorem dX5_readLine_20 : decode cX5_readLine 20 = .ok (.ireturn, 1) := by decide +kernel
theorem dX5_readLine_21 : decode cX5_readLine 21 = .ok (.aload_n 0, 1) := by decide +kernel
theorem dX5_readLine_22 : decode cX5_readLine 22 = .ok (.getfield 51, 3) := by decide +kernel
theorem dX5_readLine_25 : decode cX5_readLine 25 = .ok (.getfield 84, 3) := by decide +kernel
theorem dX5_readLine_28 : decode cX5_readLine 28 = .ok (.ifCond .le 7, 3) := by decide +kernel
theorem dX5_readLine_31 : decode cX5_readLine 31 = .ok (.iconst 1, 1) := by decide +kernel
theorem dX5_readLine_32 : decode cX5_readLine 32 = .ok (.goto 4, 3) := by decide +kernel
theorem dX5_readLine_35 : decode cX5_readLine 35 = .ok (.iconst 0, 1) := by decide +kernel
theorem dX5_readLine_36 : decode cX5_readLine 36 = .ok (.istore_n 2, 1) := by decide +kernel
theorem dX5_readLine_37 : decode cX5_readLine 37 = .ok (.iload_n 1, 1) := by decide +kernel
theorem dX5_readLine_38 : decode cX5_readLine 38 = .ok (.ifCond .ne 20, 3) := by decide +kernel
theorem dX5_readLine_41 : decode cX5_readLine 41 = .ok (.iload_n 2, 1) := by decide +kernel
theorem dX5_readLine_42 : decode cX5_readLine 42 = .ok (.ifCond .eq 11, 3) := by decide +kernel
theorem dX5_readLine_45 : decode cX5_readLine 45 = .ok (.aload_n 0, 1) := by decide +kernel
theorem dX5_readLine_46 : decode cX5_readLine 46 = .ok (.iconst 3, 1) := by decide +kernel
theorem dX5_readLine_47 : decode cX5_readLine 47 = .ok (.invokevirtual 76, 3) := by decide +kernel
theorem dX5_readLine_50 : decode cX5_readLine 50 = .ok (.goto 7, 3) := by decide +kernel
theorem dX5_readLine_53 : decode cX5_readLine 53 = .ok (.aload_n 0, 1) := by decide +kernel
theorem dX5_readLine_54 : decode cX5_readLine 54 = .ok (.invokevirtual 87, 3) := by decide +kernel
theorem dX5_readLine_57 : decode cX5_readLine 57 = .ok (.ireturn, 1) := by decide +kernel
theorem dX5_readLine_58 : decode cX5_readLine 58 = .ok (.iload_n 2, 1) := by decide +kernel
theorem dX5_readLine_59 : decode cX5_readLine 59 = .ok (.ifCond .ne 10, 3) := by decide +kernel
theorem dX5_readLine_62 : decode cX5_readLine 62 = .ok (.aload_n 0, 1) := by decide +kernel
theorem dX5_readLine_63 : decode cX5_readLine 63 = .ok (.bipush 6, 2) := by decide +kernel
theorem dX5_readLine_65 : decode cX5_readLine 65 = .ok (.invokevirtual 76, 3) := by decide +kernel
theorem dX5_readLine_68 : decode cX5_readLine 68 = .ok (.ireturn, 1) := by decide +kernel
theorem dX5_readLine_69 : decode cX5_readLine 69 = .ok (.iload_n 1, 1) := by decide +kernel
theorem dX5_readLine_70 : decode cX5_readLine 70 = .ok (.tableswitch 174 1 4 #[30, 55, 95, 134], 30) := by decide +kernel
theorem dX5_readLine_100 : decode cX5_readLine 100 = .ok (.aload_n 0, 1) := by decide +kernel
theorem dX5_readLine_101 : decode cX5_readLine 101 = .ok (.getfield 51, 3) := by decide +kernel
theorem dX5_readLine_104 : decode cX5_readLine 104 = .ok (.getfield 73, 3) := by decide +kernel
theorem dX5_readLine_107 : decode cX5_readLine 107 = .ok (.bipush 7, 2) := by decide +kernel
theorem dX5_readLine_109 : decode cX5_readLine 109 = .ok (.if_icmp .ge 10, 3) := by decide +kernel
theorem dX5_readLine_112 : decode cX5_readLine 112 = .ok (.aload_n 0, 1) := by decide +kernel
theorem dX5_readLine_113 : decode cX5_readLine 113 = .ok (.invokevirtual 90, 3) := by decide +kernel
theorem dX5_readLine_116 : decode cX5_readLine 116 = .ok (.goto 8, 3) := by decide +kernel
theorem dX5_readLine_119 : decode cX5_readLine 119 = .ok (.aload_n 0, 1) := by decide +kernel
theorem dX5_readLine_120 : decode cX5_readLine 120 = .ok (.iconst 5, 1) := by decide +kernel
theorem dX5_readLine_121 : decode cX5_readLine 121 = .ok (.invokevirtual 76, 3) := by decide +kernel
theorem dX5_readLine_124 : decode cX5_readLine 124 = .ok (.ireturn, 1) := by decide +kernel
theorem dX5_readLine_125 : decode cX5_readLine 125 = .ok (.aload_n 0, 1) := by decide +kernel
theorem dX5_readLine_126 : decode cX5_readLine 126 = .ok (.getfield 51, 3) := by decide +kernel
theorem dX5_readLine_129 : decode cX5_readLine 129 = .ok (.getfield 93, 3) := by decide +kernel
theorem dX5_readLine_132 : decode cX5_readLine 132 = .ok (.bipush 12, 2) := by decide +kernel
theorem dX5_readLine_134 : decode cX5_readLine 134 = .ok (.if_icmp .ge 25, 3) := by decide +kernel
theorem dX5_readLine_137 : decode cX5_readLine 137 = .ok (.aload_n 0, 1) := by decide +kernel
theorem dX5_readLine_138 : decode cX5_readLine 138 = .ok (.aload_n 0, 1) := by decide +kernel
theorem dX5_readLine_139 : decode cX5_readLine 139 = .ok (.getfield 51, 3) := by decide +kernel
theorem dX5_readLine_142 : decode cX5_readLine 142 = .ok (.getfield 96, 3) := by decide +kernel
theorem dX5_readLine_145 : decode cX5_readLine 145 = .ok (.aload_n 0, 1) := by decide +kernel
theorem dX5_readLine_146 : decode cX5_readLine 146 = .ok (.getfield 51, 3) := by decide +kernel
theorem dX5_readLine_149 : decode cX5_readLine 149 = .ok (.getfield 93, 3) := by decide +kernel
theorem dX5_readLine_152 : decode cX5_readLine 152 = .ok (.aaload, 1) := by decide +kernel
theorem dX5_readLine_153 : decode cX5_readLine 153 = .ok (.invokevirtual 100, 3) := by decide +kernel
theorem dX5_readLine_156 : decode cX5_readLine 156 = .ok (.goto 8, 3) := by decide +kernel
theorem dX5_readLine_159 : decode cX5_readLine 159 = .ok (.aload_n 0, 1) := by decide +kernel
theorem dX5_readLine_160 : decode cX5_readLine 160 = .ok (.iconst 5, 1) := by decide +kernel
theorem dX5_readLine_161 : decode cX5_readLine 161 = .ok (.invokevirtual 76, 3) := by decide +kernel
theorem dX5_readLine_164 : decode cX5_readLine 164 = .ok (.ireturn, 1) := by decide +kernel
theorem dX5_readLine_165 : decode cX5_readLine 165 = .ok (.aload_n 0, 1) := by decide +kernel
theorem dX5_readLine_166 : decode cX5_readLine 166 = .ok (.getfield 51, 3) := by decide +kernel
theorem dX5_readLine_169 : decode cX5_readLine 169 = .ok (.getfield 104, 3) := by decide +kernel
theorem dX5_readLine_172 : decode cX5_readLine 172 = .ok (.iconst 5, 1) := by decide +kernel
theorem dX5_readLine_173 : decode cX5_readLine 173 = .ok (.if_icmp .ge 25, 3) := by decide +kernel
theorem dX5_readLine_176 : decode cX5_readLine 176 = .ok (.aload_n 0, 1) := by decide +kernel
theorem dX5_readLine_177 : decode cX5_readLine 177 = .ok (.aload_n 0, 1) := by decide +kernel
theorem dX5_readLine_178 : decode cX5_readLine 178 = .ok (.getfield 51, 3) := by decide +kernel
theorem dX5_readLine_181 : decode cX5_readLine 181 = .ok (.getfield 107, 3) := by decide +kernel
theorem dX5_readLine_184 : decode cX5_readLine 184 = .ok (.aload_n 0, 1) := by decide +kernel
theorem dX5_readLine_185 : decode cX5_readLine 185 = .ok (.getfield 51, 3) := by decide +kernel
theorem dX5_readLine_188 : decode cX5_readLine 188 = .ok (.getfield 104, 3) := by decide +kernel
theorem dX5_readLine_191 : decode cX5_readLine 191 = .ok (.aaload, 1) := by decide +kernel
theorem dX5_readLine_192 : decode cX5_readLine 192 = .ok (.invokevirtual 111, 3) := by decide +kernel
theorem dX5_readLine_195 : decode cX5_readLine 195 = .ok (.goto 8, 3) := by decide +kernel
theorem dX5_readLine_198 : decode cX5_readLine 198 = .ok (.aload_n 0, 1) := by decide +kernel
theorem dX5_readLine_199 : decode cX5_readLine 199 = .ok (.iconst 5, 1) := by decide +kernel
theorem dX5_readLine_200 : decode cX5_readLine 200 = .ok (.invokevirtual 76, 3) := by decide +kernel
theorem dX5_readLine_203 : decode cX5_readLine 203 = .ok (.ireturn, 1) := by decide +kernel
theorem dX5_readLine_204 : decode cX5_readLine 204 = .ok (.aload_n 0, 1) := by decide +kernel
theorem dX5_readLine_205 : decode cX5_readLine 205 = .ok (.getfield 51, 3) := by decide +kernel
theorem dX5_readLine_208 : decode cX5_readLine 208 = .ok (.getfield 115, 3) := by decide +kernel
theorem dX5_readLine_211 : decode cX5_readLine 211 = .ok (.bipush 8, 2) := by decide +kernel
theorem dX5_readLine_213 : decode cX5_readLine 213 = .ok (.if_icmp .ge 25, 3) := by decide +kernel
theorem dX5_readLine_216 : decode cX5_readLine 216 = .ok (.aload_n 0, 1) := by decide +kernel
theorem dX5_readLine_217 : decode cX5_readLine 217 = .ok (.aload_n 0, 1) := by decide +kernel
theorem dX5_readLine_218 : decode cX5_readLine 218 = .ok (.getfield 51, 3) := by decide +kernel
theorem dX5_readLine_221 : decode cX5_readLine 221 = .ok (.getfield 118, 3) := by decide +kernel
theorem dX5_readLine_224 : decode cX5_readLine 224 = .ok (.aload_n 0, 1) := by decide +kernel
theorem dX5_readLine_225 : decode cX5_readLine 225 = .ok (.getfield 51, 3) := by decide +kernel
theorem dX5_readLine_228 : decode cX5_readLine 228 = .ok (.getfield 115, 3) := by decide +kernel
theorem dX5_readLine_231 : decode cX5_readLine 231 = .ok (.aaload, 1) := by decide +kernel
theorem dX5_readLine_232 : decode cX5_readLine 232 = .ok (.invokevirtual 122, 3) := by decide +kernel
theorem dX5_readLine_235 : decode cX5_readLine 235 = .ok (.goto 8, 3) := by decide +kernel
theorem dX5_readLine_238 : decode cX5_readLine 238 = .ok (.aload_n 0, 1) := by decide +kernel
theorem dX5_readLine_239 : decode cX5_readLine 239 = .ok (.iconst 5, 1) := by decide +kernel
theorem dX5_readLine_240 : decode cX5_readLine 240 = .ok (.invokevirtual 76, 3) := by decide +kernel
theorem dX5_readLine_243 : decode cX5_readLine 243 = .ok (.ireturn, 1) := by decide +kernel
theorem dX5_readLine_244 : decode cX5_readLine 244 = .ok (.aload_n 0, 1) := by decide +kernel
theorem dX5_readLine_245 : decode cX5_readLine 245 = .ok (.getfield 51, 3) := by decide +kernel
theorem dX5_readLine_248 : decode cX5_readLine 248 = .ok (.getfield 126, 3) := by decide +kernel
theorem dX5_readLine_251 : decode cX5_readLine 251 = .ok (.bipush 8, 2) := by decide +kernel
theorem dX5_readLine_253 : decode cX5_readLine 253 = .ok (.if_icmp .ge 25, 3) := by decide +kernel
theorem dX5_readLine_256 : decode cX5_readLine 256 = .ok (.aload_n 0, 1) := by decide +kernel
theorem dX5_readLine_257 : decode cX5_readLine 257 = .ok (.aload_n 0, 1) := by decide +kernel
theorem dX5_readLine_258 : decode cX5_readLine 258 = .ok (.getfield 51, 3) := by decide +kernel
theorem dX5_readLine_261 : decode cX5_readLine 261 = .ok (.getfield 129, 3) := by decide +kernel
theorem dX5_readLine_264 : decode cX5_readLine 264 = .ok (.aload_n 0, 1) := by decide +kernel
theorem dX5_readLine_265 : decode cX5_readLine 265 = .ok (.getfield 51, 3) := by decide +kernel
theorem dX5_readLine_268 : decode cX5_readLine 268 = .ok (.getfield 126, 3) := by decide +kernel
theorem dX5_readLine_271 : decode cX5_readLine 271 = .ok (.aaload, 1) := by decide +kernel
theorem dX5_readLine_272 : decode cX5_readLine 272 = .ok (.invokevirtual 133, 3) := by decide +kernel
theorem dX5_readLine_275 : decode cX5_readLine 275 = .ok (.goto 8, 3) := by decide +kernel
theorem dX5_readLine_278 : decode cX5_readLine 278 = .ok (.aload_n 0, 1) := by decide +kernel
theorem dX5_readLine_279 : decode cX5_readLine 279 = .ok (.iconst 5, 1) := by decide +kernel
theorem dX5_readLine_280 : decode cX5_readLine 280 = .ok (.invokevirtual 76, 3) := by decide +kernel
theorem dX5_readLine_283 : decode cX5_readLine 283 = .ok (.ireturn, 1) := by decide +kernel
theorem dX5_readHead_0 : decode cX5_readHead 0 = .ok (.aload_n 0, 1) := by decide +kernel
theorem dX5_readHead_1 : decode cX5_readHead 1 = .ok (.ldc 137, 2) := by decide +kernel
theorem dX5_readHead_3 : decode cX5_readHead 3 = .ok (.invokevirtual 138, 3) := by decide +kernel
theorem dX5_readHead_6 : decode cX5_readHead 6 = .ok (.ifCond .eq 12, 3) := by decide +kernel
theorem dX5_readHead_9 : decode cX5_readHead 9 = .ok (.aload_n 0, 1) := by decide +kernel
theorem dX5_readHead_10 : decode cX5_readHead 10 = .ok (.iconst 2, 1) := by decide +kernel
theorem dX5_readHead_11 : decode cX5_readHead 11 = .ok (.iconst 4, 1) := by decide +kernel
theorem dX5_readHead_12 : decode cX5_readHead 12 = .ok (.invokevirtual 142, 3) := by decide +kernel
theorem dX5_readHead_15 : decode cX5_readHead 15 = .ok (.ifCond .ne 5, 3) := by decide +kernel
theorem dX5_readHead_18 : decode cX5_readHead 18 = .ok (.iconst 0, 1) := by decide +kernel
theorem dX5_readHead_19 : decode cX5_readHead 19 = .ok (.ireturn, 1) := by decide +kernel
theorem dX5_readHead_20 : decode cX5_readHead 20 = .ok (.aload_n 0, 1) := by decide +kernel
theorem dX5_readHead_21 : decode cX5_readHead 21 = .ok (.getfield 51, 3) := by decide +kernel
theorem dX5_readHead_24 : decode cX5_readHead 24 = .ok (.aload_n 0, 1) := by decide +kernel
theorem dX5_readHead_25 : decode cX5_readHead 25 = .ok (.getfield 24, 3) := by decide +kernel
theorem dX5_readHead_28 : decode cX5_readHead 28 = .ok (.putfield 84, 3) := by decide +kernel
theorem dX5_readHead_31 : decode cX5_readHead 31 = .ok (.aload_n 0, 1) := by decide +kernel
theorem dX5_readHead_32 : decode cX5_readHead 32 = .ok (.ldc 146, 2) := by decide +kernel
theorem dX5_readHead_34 : decode cX5_readHead 34 = .ok (.invokevirtual 138, 3) := by decide +kernel
theorem dX5_readHead_37 : decode cX5_readHead 37 = .ok (.ifCond .eq 12, 3) := by decide +kernel
theorem dX5_readHead_40 : decode cX5_readHead 40 = .ok (.aload_n 0, 1) := by decide +kernel
theorem dX5_readHead_41 : decode cX5_readHead 41 = .ok (.iconst 0, 1) := by decide +kernel
theorem dX5_readHead_42 : decode cX5_readHead 42 = .ok (.iconst 3, 1) := by decide +kernel
theorem dX5_readHead_43 : decode cX5_readHead 43 = .ok (.invokevirtual 142, 3) := by decide +kernel
theorem dX5_readHead_46 : decode cX5_readHead 46 = .ok (.ifCond .ne 5, 3) := by decide +kernel
theorem dX5_readHead_49 : decode cX5_readHead 49 = .ok (.iconst 0, 1) := by decide +kernel
theorem dX5_readHead_50 : decode cX5_readHead 50 = .ok (.ireturn, 1) := by decide +kernel
theorem dX5_readHead_51 : decode cX5_readHead 51 = .ok (.aload_n 0, 1) := by decide +kernel
theorem dX5_readHead_52 : decode cX5_readHead 52 = .ok (.getfield 51, 3) := by decide +kernel
theorem dX5_readHead_55 : decode cX5_readHead 55 = .ok (.aload_n 0, 1) := by decide +kernel
theorem dX5_readHead_56 : decode cX5_readHead 56 = .ok (.getfield 24, 3) := by decide +kernel
theorem dX5_readHead_59 : decode cX5_readHead 59 = .ok (.putfield 148, 3) := by decide +kernel
theorem dX5_readHead_62 : decode cX5_readHead 62 = .ok (.aload_n 0, 1) := by decide +kernel
theorem dX5_readHead_63 : decode cX5_readHead 63 = .ok (.ldc 150, 2) := by decide +kernel
theorem dX5_readHead_65 : decode cX5_readHead 65 = .ok (.invokevirtual 138, 3) := by decide +kernel
theorem dX5_readHead_68 : decode cX5_readHead 68 = .ok (.ifCond .eq 13, 3) := by decide +kernel
theorem dX5_readHead_71 : decode cX5_readHead 71 = .ok (.aload_n 0, 1) := by decide +kernel
theorem dX5_readHead_72 : decode cX5_readHead 72 = .ok (.iconst 0, 1) := by decide +kernel
theorem dX5_readHead_73 : decode cX5_readHead 73 = .ok (.bipush 50, 2) := by decide +kernel
theorem dX5_readHead_75 : decode cX5_readHead 75 = .ok (.invokevirtual 142, 3) := by decide +kernel
theorem dX5_readHead_78 : decode cX5_readHead 78 = .ok (.ifCond .ne 5, 3) := by decide +kernel
theorem dX5_readHead_81 : decode cX5_readHead 81 = .ok (.iconst 0, 1) := by decide +kernel
theorem dX5_readHead_82 : decode cX5_readHead 82 = .ok (.ireturn, 1) := by decide +kernel
theorem dX5_readHead_83 : decode cX5_readHead 83 = .ok (.aload_n 0, 1) := by decide +kernel
theorem dX5_readHead_84 : decode cX5_readHead 84 = .ok (.getfield 51, 3) := by decide +kernel
theorem dX5_readHead_87 : decode cX5_readHead 87 = .ok (.aload_n 0, 1) := by decide +kernel
theorem dX5_readHead_88 : decode cX5_readHead 88 = .ok (.getfield 24, 3) := by decide +kernel
theorem dX5_readHead_91 : decode cX5_readHead 91 = .ok (.putfield 152, 3) := by decide +kernel
theorem dX5_readHead_94 : decode cX5_readHead 94 = .ok (.aload_n 0, 1) := by decide +kernel
theorem dX5_readHead_95 : decode cX5_readHead 95 = .ok (.ldc 154, 2) := by decide +kernel
theorem dX5_readHead_97 : decode cX5_readHead 97 = .ok (.invokevirtual 138, 3) := by decide +kernel
theorem dX5_readHead_100 : decode cX5_readHead 100 = .ok (.ifCond .eq 13, 3) := by decide +kernel
theorem dX5_readHead_103 : decode cX5_readHead 103 = .ok (.aload_n 0, 1) := by decide +kernel
theorem dX5_readHead_104 : decode cX5_readHead 104 = .ok (.iconst 0, 1) := by decide +kernel
theorem dX5_readHead_105 : decode cX5_readHead 105 = .ok (.bipush 100, 2) := by decide +kernel
theorem dX5_readHead_107 : decode cX5_readHead 107 = .ok (.invokevirtual 142, 3) := by decide +kernel
theorem dX5_readHead_110 : decode cX5_readHead 110 = .ok (.ifCond .ne 5, 3) := by decide +kernel
theorem dX5_readHead_113 : decode cX5_readHead 113 = .ok (.iconst 0, 1) := by decide +kernel
theorem dX5_readHead_114 : decode cX5_readHead 114 = .ok (.ireturn, 1) := by decide +kernel
theorem dX5_readHead_115 : decode cX5_readHead 115 = .ok (.aload_n 0, 1) := by decide +kernel
theorem dX5_readHead_116 : decode cX5_readHead 116 = .ok (.getfield 51, 3) := by decide +kernel
theorem dX5_readHead_119 : decode cX5_readHead 119 = .ok (.aload_n 0, 1) := by decide +kernel
theorem dX5_readHead_120 : decode cX5_readHead 120 = .ok (.getfield 24, 3) := by decide +kernel
theorem dX5_readHead_123 : decode cX5_readHead 123 = .ok (.putfield 156, 3) := by decide +kernel
theorem dX5_readHead_126 : decode cX5_readHead 126 = .ok (.iconst 1, 1) := by decide +kernel
theorem dX5_readHead_127 : decode cX5_readHead 127 = .ok (.ireturn, 1) := by decide +kernel
theorem dX5_readIsland_0 : decode cX5_readIsland 0 = .ok (.aload_n 0, 1) := by decide +kernel
theorem dX5_readIsland_1 : decode cX5_readIsland 1 = .ok (.iconst 1, 1) := by decide +kernel
theorem dX5_readIsland_2 : decode cX5_readIsland 2 = .ok (.aload_n 0, 1) := by decide +kernel
theorem dX5_readIsland_3 : decode cX5_readIsland 3 = .ok (.getfield 51, 3) := by decide +kernel
theorem dX5_readIsland_6 : decode cX5_readIsland 6 = .ok (.getfield 73, 3) := by decide +kernel
theorem dX5_readIsland_9 : decode cX5_readIsland 9 = .ok (.invokevirtual 158, 3) := by decide +kernel
theorem dX5_readIsland_12 : decode cX5_readIsland 12 = .ok (.ifCond .ne 5, 3) := by decide +kernel
theorem dX5_readIsland_15 : decode cX5_readIsland 15 = .ok (.iconst 0, 1) := by decide +kernel
theorem dX5_readIsland_16 : decode cX5_readIsland 16 = .ok (.ireturn, 1) := by decide +kernel
theorem dX5_readIsland_17 : decode cX5_readIsland 17 = .ok (.aload_n 0, 1) := by decide +kernel
theorem dX5_readIsland_18 : decode cX5_readIsland 18 = .ok (.invokevirtual 70, 3) := by decide +kernel
theorem dX5_readIsland_21 : decode cX5_readIsland 21 = .ok (.aload_n 0, 1) := by decide +kernel
theorem dX5_readIsland_22 : decode cX5_readIsland 22 = .ok (.getfield 18, 3) := by decide +kernel
theorem dX5_readIsland_25 : decode cX5_readIsland 25 = .ok (.iconst 1, 1) := by decide +kernel
theorem dX5_readIsland_26 : decode cX5_readIsland 26 = .ok (.if_icmp .eq 9, 3) := by decide +kernel
theorem dX5_readIsland_29 : decode cX5_readIsland 29 = .ok (.aload_n 0, 1) := by decide +kernel
theorem dX5_readIsland_30 : decode cX5_readIsland 30 = .ok (.iconst 1, 1) := by decide +kernel
theorem dX5_readIsland_31 : decode cX5_readIsland 31 = .ok (.invokevirtual 76, 3) := by decide +kernel
theorem dX5_readIsland_34 : decode cX5_readIsland 34 = .ok (.ireturn, 1) := by decide +kernel
theorem dX5_readIsland_35 : decode cX5_readIsland 35 = .ok (.aload_n 0, 1) := by decide +kernel
theorem dX5_readIsland_36 : decode cX5_readIsland 36 = .ok (.getfield 15, 3) := by decide +kernel
theorem dX5_readIsland_39 : decode cX5_readIsland 39 = .ok (.aload_n 0, 1) := by decide +kernel
theorem dX5_readIsland_40 : decode cX5_readIsland 40 = .ok (.getfield 21, 3) := by decide +kernel
theorem dX5_readIsland_43 : decode cX5_readIsland 43 = .ok (.isub, 1) := by decide +kernel
theorem dX5_readIsland_44 : decode cX5_readIsland 44 = .ok (.istore_n 1, 1) := by decide +kernel
theorem dX5_readIsland_45 : decode cX5_readIsland 45 = .ok (.aload_n 0, 1) := by decide +kernel
theorem dX5_readIsland_46 : decode cX5_readIsland 46 = .ok (.invokevirtual 161, 3) := by decide +kernel
theorem dX5_readIsland_49 : decode cX5_readIsland 49 = .ok (.istore_n 2, 1) := by decide +kernel
theorem dX5_readIsland_50 : decode cX5_readIsland 50 = .ok (.iload_n 2, 1) := by decide +kernel
theorem dX5_readIsland_51 : decode cX5_readIsland 51 = .ok (.bipush (-2), 2) := by decide +kernel
theorem dX5_readIsland_53 : decode cX5_readIsland 53 = .ok (.if_icmp .ne 10, 3) := by decide +kernel
theorem dX5_readIsland_56 : decode cX5_readIsland 56 = .ok (.aload_n 0, 1) := by decide +kernel
theorem dX5_readIsland_57 : decode cX5_readIsland 57 = .ok (.bipush 7, 2) := by decide +kernel
theorem dX5_readIsland_59 : decode cX5_readIsland 59 = .ok (.invokevirtual 76, 3) := by decide +kernel
theorem dX5_readIsland_62 : decode cX5_readIsland 62 = .ok (.ireturn, 1) := by decide +kernel
theorem dX5_readIsland_63 : decode cX5_readIsland 63 = .ok (.aload_n 0, 1) := by decide +kernel
theorem dX5_readIsland_64 : decode cX5_readIsland 64 = .ok (.getfield 51, 3) := by decide +kernel
theorem dX5_readIsland_67 : decode cX5_readIsland 67 = .ok (.iload_n 2, 1) := by decide +kernel
theorem dX5_readIsland_68 : decode cX5_readIsland 68 = .ok (.iload_n 1, 1) := by decide +kernel
theorem dX5_readIsland_69 : decode cX5_readIsland 69 = .ok (.invokevirtual 164, 3) := by decide +kernel
theorem dX5_readIsland_72 : decode cX5_readIsland 72 = .ok (.ifCond .eq 9, 3) := by decide +kernel
theorem dX5_readIsland_75 : decode cX5_readIsland 75 = .ok (.aload_n 0, 1) := by decide +kernel
theorem dX5_readIsland_76 : decode cX5_readIsland 76 = .ok (.iconst 3, 1) := by decide +kernel
theorem dX5_readIsland_77 : decode cX5_readIsland 77 = .ok (.invokevirtual 76, 3) := by decide +kernel
theorem dX5_readIsland_80 : decode cX5_readIsland 80 = .ok (.ireturn, 1) := by decide +kernel
theorem dX5_readIsland_81 : decode cX5_readIsland 81 = .ok (.aload_n 0, 1) := by decide +kernel
theorem dX5_readIsland_82 : decode cX5_readIsland 82 = .ok (.getfield 51, 3) := by decide +kernel
theorem dX5_readIsland_85 : decode cX5_readIsland 85 = .ok (.getfield 167, 3) := by decide +kernel
theorem dX5_readIsland_88 : decode cX5_readIsland 88 = .ok (.aload_n 0, 1) := by decide +kernel
theorem dX5_readIsland_89 : decode cX5_readIsland 89 = .ok (.getfield 51, 3) := by decide +kernel
theorem dX5_readIsland_92 : decode cX5_readIsland 92 = .ok (.getfield 73, 3) := by decide +kernel
theorem dX5_readIsland_95 : decode cX5_readIsland 95 = .ok (.iload_n 2, 1) := by decide +kernel
theorem dX5_readIsland_96 : decode cX5_readIsland 96 = .ok (.iastore, 1) := by decide +kernel
theorem dX5_readIsland_97 : decode cX5_readIsland 97 = .ok (.aload_n 0, 1) := by decide +kernel
theorem dX5_readIsland_98 : decode cX5_readIsland 98 = .ok (.getfield 51, 3) := by decide +kernel
theorem dX5_readIsland_101 : decode cX5_readIsland 101 = .ok (.getfield 170, 3) := by decide +kernel
theorem dX5_readIsland_104 : decode cX5_readIsland 104 = .ok (.aload_n 0, 1) := by decide +kernel
theorem dX5_readIsland_105 : decode cX5_readIsland 105 = .ok (.getfield 51, 3) := by decide +kernel
theorem dX5_readIsland_108 : decode cX5_readIsland 108 = .ok (.getfield 73, 3) := by decide +kernel
theorem dX5_readIsland_111 : decode cX5_readIsland 111 = .ok (.iload_n 1, 1) := by decide +kernel
theorem dX5_readIsland_112 : decode cX5_readIsland 112 = .ok (.iastore, 1) := by decide +kernel
theorem dX5_readIsland_113 : decode cX5_readIsland 113 = .ok (.aload_n 0, 1) := by decide +kernel
theorem dX5_readIsland_114 : decode cX5_readIsland 114 = .ok (.getfield 51, 3) := by decide +kernel
theorem dX5_readIsland_117 : decode cX5_readIsland 117 = .ok (.dup, 1) := by decide +kernel
theorem dX5_readIsland_118 : decode cX5_readIsland 118 = .ok (.getfield 73, 3) := by decide +kernel
theorem dX5_readIsland_121 : decode cX5_readIsland 121 = .ok (.iconst 1, 1) := by decide +kernel
theorem dX5_readIsland_122 : decode cX5_readIsland 122 = .ok (.iadd, 1) := by decide +kernel
theorem dX5_readIsland_123 : decode cX5_readIsland 123 = .ok (.putfield 73, 3) := by decide +kernel
theorem dX5_readIsland_126 : decode cX5_readIsland 126 = .ok (.iconst 1, 1) := by decide +kernel
theorem dX5_readIsland_127 : decode cX5_readIsland 127 = .ok (.ireturn, 1) := by decide +kernel
theorem dX5_readWay_0 : decode cX5_readWay 0 = .ok (.aload_n 0, 1) := by decide +kernel
theorem dX5_readWay_1 : decode cX5_readWay 1 = .ok (.iconst 1, 1) := by decide +kernel
theorem dX5_readWay_2 : decode cX5_readWay 2 = .ok (.invokevirtual 173, 3) := by decide +kernel
theorem dX5_readWay_5 : decode cX5_readWay 5 = .ok (.ifCond .ne 5, 3) := by decide +kernel
theorem dX5_readWay_8 : decode cX5_readWay 8 = .ok (.iconst 0, 1) := by decide +kernel
theorem dX5_readWay_9 : decode cX5_readWay 9 = .ok (.ireturn, 1) := by decide +kernel
theorem dX5_readWay_10 : decode cX5_readWay 10 = .ok (.aload_n 1, 1) := by decide +kernel
theorem dX5_readWay_11 : decode cX5_readWay 11 = .ok (.aload_n 0, 1) := by decide +kernel
theorem dX5_readWay_12 : decode cX5_readWay 12 = .ok (.getfield 24, 3) := by decide +kernel
theorem dX5_readWay_15 : decode cX5_readWay 15 = .ok (.putfield 176, 3) := by decide +kernel
theorem dX5_readWay_18 : decode cX5_readWay 18 = .ok (.aload_n 0, 1) := by decide +kernel
theorem dX5_readWay_19 : decode cX5_readWay 19 = .ok (.iconst 1, 1) := by decide +kernel
theorem dX5_readWay_20 : decode cX5_readWay 20 = .ok (.invokevirtual 173, 3) := by decide +kernel
theorem dX5_readWay_23 : decode cX5_readWay 23 = .ok (.ifCond .ne 5, 3) := by decide +kernel
theorem dX5_readWay_26 : decode cX5_readWay 26 = .ok (.iconst 0, 1) := by decide +kernel
theorem dX5_readWay_27 : decode cX5_readWay 27 = .ok (.ireturn, 1) := by decide +kernel
theorem dX5_readWay_28 : decode cX5_readWay 28 = .ok (.aload_n 1, 1) := by decide +kernel
theorem dX5_readWay_29 : decode cX5_readWay 29 = .ok (.aload_n 0, 1) := by decide +kernel
theorem dX5_readWay_30 : decode cX5_readWay 30 = .ok (.getfield 24, 3) := by decide +kernel
theorem dX5_readWay_33 : decode cX5_readWay 33 = .ok (.putfield 181, 3) := by decide +kernel
theorem dX5_readWay_36 : decode cX5_readWay 36 = .ok (.aload_n 1, 1) := by decide +kernel
theorem dX5_readWay_37 : decode cX5_readWay 37 = .ok (.getfield 176, 3) := by decide +kernel
theorem dX5_readWay_40 : decode cX5_readWay 40 = .ok (.aload_n 1, 1) := by decide +kernel
theorem dX5_readWay_41 : decode cX5_readWay 41 = .ok (.getfield 181, 3) := by decide +kernel
theorem dX5_readWay_44 : decode cX5_readWay 44 = .ok (.if_icmp .eq 23, 3) := by decide +kernel
theorem dX5_readWay_47 : decode cX5_readWay 47 = .ok (.aload_n 0, 1) := by decide +kernel
theorem dX5_readWay_48 : decode cX5_readWay 48 = .ok (.getfield 51, 3) := by decide +kernel
theorem dX5_readWay_51 : decode cX5_readWay 51 = .ok (.aload_n 1, 1) := by decide +kernel
theorem dX5_readWay_52 : decode cX5_readWay 52 = .ok (.getfield 176, 3) := by decide +kernel
theorem dX5_readWay_55 : decode cX5_readWay 55 = .ok (.aload_n 1, 1) := by decide +kernel
theorem dX5_readWay_56 : decode cX5_readWay 56 = .ok (.getfield 181, 3) := by decide +kernel
theorem dX5_readWay_59 : decode cX5_readWay 59 = .ok (.invokevirtual 184, 3) := by decide +kernel
theorem dX5_readWay_62 : decode cX5_readWay 62 = .ok (.bipush (-2), 2) := by decide +kernel
theorem dX5_readWay_64 : decode cX5_readWay 64 = .ok (.if_icmp .eq 9, 3) := by decide +kernel
theorem dX5_readWay_67 : decode cX5_readWay 67 = .ok (.aload_n 0, 1) := by decide +kernel
theorem dX5_readWay_68 : decode cX5_readWay 68 = .ok (.iconst 3, 1) := by decide +kernel
theorem dX5_readWay_69 : decode cX5_readWay 69 = .ok (.invokevirtual 76, 3) := by decide +kernel
theorem dX5_readWay_72 : decode cX5_readWay 72 = .ok (.ireturn, 1) := by decide +kernel
theorem dX5_readWay_73 : decode cX5_readWay 73 = .ok (.aload_n 0, 1) := by decide +kernel
theorem dX5_readWay_74 : decode cX5_readWay 74 = .ok (.ldc 187, 2) := by decide +kernel
theorem dX5_readWay_76 : decode cX5_readWay 76 = .ok (.invokevirtual 138, 3) := by decide +kernel
theorem dX5_readWay_79 : decode cX5_readWay 79 = .ok (.ifCond .eq 13, 3) := by decide +kernel
theorem dX5_readWay_82 : decode cX5_readWay 82 = .ok (.aload_n 0, 1) := by decide +kernel
theorem dX5_readWay_83 : decode cX5_readWay 83 = .ok (.iconst 1, 1) := by decide +kernel
theorem dX5_readWay_84 : decode cX5_readWay 84 = .ok (.bipush 99, 2) := by decide +kernel
theorem dX5_readWay_86 : decode cX5_readWay 86 = .ok (.invokevirtual 142, 3) := by decide +kernel
theorem dX5_readWay_89 : decode cX5_readWay 89 = .ok (.ifCond .ne 5, 3) := by decide +kernel
theorem dX5_readWay_92 : decode cX5_readWay 92 = .ok (.iconst 0, 1) := by decide +kernel
theorem dX5_readWay_93 : decode cX5_readWay 93 = .ok (.ireturn, 1) := by decide +kernel
theorem dX5_readWay_94 : decode cX5_readWay 94 = .ok (.aload_n 1, 1) := by decide +kernel
theorem dX5_readWay_95 : decode cX5_readWay 95 = .ok (.aload_n 0, 1) := by decide +kernel
theorem dX5_readWay_96 : decode cX5_readWay 96 = .ok (.getfield 24, 3) := by decide +kernel
theorem dX5_readWay_99 : decode cX5_readWay 99 = .ok (.putfield 189, 3) := by decide +kernel
theorem dX5_readWay_102 : decode cX5_readWay 102 = .ok (.aload_n 0, 1) := by decide +kernel
theorem dX5_readWay_103 : decode cX5_readWay 103 = .ok (.ldc 191, 2) := by decide +kernel
theorem dX5_readWay_105 : decode cX5_readWay 105 = .ok (.invokevirtual 138, 3) := by decide +kernel
theorem dX5_readWay_108 : decode cX5_readWay 108 = .ok (.ifCond .eq 13, 3) := by decide +kernel
theorem dX5_readWay_111 : decode cX5_readWay 111 = .ok (.aload_n 0, 1) := by decide +kernel
theorem dX5_readWay_112 : decode cX5_readWay 112 = .ok (.iconst 1, 1) := by decide +kernel
theorem dX5_readWay_113 : decode cX5_readWay 113 = .ok (.bipush 15, 2) := by decide +kernel
theorem dX5_readWay_115 : decode cX5_readWay 115 = .ok (.invokevirtual 142, 3) := by decide +kernel
theorem dX5_readWay_118 : decode cX5_readWay 118 = .ok (.ifCond .ne 5, 3) := by decide +kernel
theorem dX5_readWay_121 : decode cX5_readWay 121 = .ok (.iconst 0, 1) := by decide +kernel
theorem dX5_readWay_122 : decode cX5_readWay 122 = .ok (.ireturn, 1) := by decide +kernel
theorem dX5_readWay_123 : decode cX5_readWay 123 = .ok (.aload_n 1, 1) := by decide +kernel
theorem dX5_readWay_124 : decode cX5_readWay 124 = .ok (.aload_n 0, 1) := by decide +kernel
theorem dX5_readWay_125 : decode cX5_readWay 125 = .ok (.getfield 24, 3) := by decide +kernel
theorem dX5_readWay_128 : decode cX5_readWay 128 = .ok (.putfield 193, 3) := by decide +kernel
theorem dX5_readWay_131 : decode cX5_readWay 131 = .ok (.aload_n 0, 1) := by decide +kernel
theorem dX5_readWay_132 : decode cX5_readWay 132 = .ok (.getfield 51, 3) := by decide +kernel
theorem dX5_readWay_135 : decode cX5_readWay 135 = .ok (.dup, 1) := by decide +kernel
theorem dX5_readWay_136 : decode cX5_readWay 136 = .ok (.getfield 93, 3) := by decide +kernel
theorem dX5_readWay_139 : decode cX5_readWay 139 = .ok (.iconst 1, 1) := by decide +kernel
theorem dX5_readWay_140 : decode cX5_readWay 140 = .ok (.iadd, 1) := by decide +kernel
theorem dX5_readWay_141 : decode cX5_readWay 141 = .ok (.putfield 93, 3) := by decide +kernel
theorem dX5_readWay_144 : decode cX5_readWay 144 = .ok (.iconst 1, 1) := by decide +kernel
theorem dX5_readWay_145 : decode cX5_readWay 145 = .ok (.ireturn, 1) := by decide +kernel
theorem dX5_readWhale_0 : decode cX5_readWhale 0 = .ok (.aload_n 0, 1) := by decide +kernel
theorem dX5_readWhale_1 : decode cX5_readWhale 1 = .ok (.iconst 3, 1) := by decide +kernel
theorem dX5_readWhale_2 : decode cX5_readWhale 2 = .ok (.aload_n 0, 1) := by decide +kernel
theorem dX5_readWhale_3 : decode cX5_readWhale 3 = .ok (.getfield 51, 3) := by decide +kernel
theorem dX5_readWhale_6 : decode cX5_readWhale 6 = .ok (.getfield 104, 3) := by decide +kernel
theorem dX5_readWhale_9 : decode cX5_readWhale 9 = .ok (.invokevirtual 158, 3) := by decide +kernel
theorem dX5_readWhale_12 : decode cX5_readWhale 12 = .ok (.ifCond .ne 5, 3) := by decide +kernel
theorem dX5_readWhale_15 : decode cX5_readWhale 15 = .ok (.iconst 0, 1) := by decide +kernel
theorem dX5_readWhale_16 : decode cX5_readWhale 16 = .ok (.ireturn, 1) := by decide +kernel
theorem dX5_readWhale_17 : decode cX5_readWhale 17 = .ok (.aload_n 0, 1) := by decide +kernel
theorem dX5_readWhale_18 : decode cX5_readWhale 18 = .ok (.invokevirtual 70, 3) := by decide +kernel
theorem dX5_readWhale_21 : decode cX5_readWhale 21 = .ok (.aload_n 1, 1) := by decide +kernel
theorem dX5_readWhale_22 : decode cX5_readWhale 22 = .ok (.aload_n 0, 1) := by decide +kernel
theorem dX5_readWhale_23 : decode cX5_readWhale 23 = .ok (.invokevirtual 195, 3) := by decide +kernel
theorem dX5_readWhale_26 : decode cX5_readWhale 26 = .ok (.putfield 198, 3) := by decide +kernel
theorem dX5_readWhale_29 : decode cX5_readWhale 29 = .ok (.aload_n 1, 1) := by decide +kernel
theorem dX5_readWhale_30 : decode cX5_readWhale 30 = .ok (.getfield 198, 3) := by decide +kernel
theorem dX5_readWhale_33 : decode cX5_readWhale 33 = .ok (.bipush (-2), 2) := by decide +kernel
theorem dX5_readWhale_35 : decode cX5_readWhale 35 = .ok (.if_icmp .ne 9, 3) := by decide +kernel
theorem dX5_readWhale_38 : decode cX5_readWhale 38 = .ok (.aload_n 0, 1) := by decide +kernel
theorem dX5_readWhale_39 : decode cX5_readWhale 39 = .ok (.iconst 1, 1) := by decide +kernel
theorem dX5_readWhale_40 : decode cX5_readWhale 40 = .ok (.invokevirtual 76, 3) := by decide +kernel
theorem dX5_readWhale_43 : decode cX5_readWhale 43 = .ok (.ireturn, 1) := by decide +kernel
theorem dX5_readWhale_44 : decode cX5_readWhale 44 = .ok (.aload_n 0, 1) := by decide +kernel
theorem dX5_readWhale_45 : decode cX5_readWhale 45 = .ok (.ldc 203, 2) := by decide +kernel
theorem dX5_readWhale_47 : decode cX5_readWhale 47 = .ok (.invokevirtual 138, 3) := by decide +kernel
theorem dX5_readWhale_50 : decode cX5_readWhale 50 = .ok (.ifCond .eq 11, 3) := by decide +kernel
theorem dX5_readWhale_53 : decode cX5_readWhale 53 = .ok (.aload_n 0, 1) := by decide +kernel
theorem dX5_readWhale_54 : decode cX5_readWhale 54 = .ok (.iconst 1, 1) := by decide +kernel
theorem dX5_readWhale_55 : decode cX5_readWhale 55 = .ok (.invokevirtual 173, 3) := by decide +kernel
theorem dX5_readWhale_58 : decode cX5_readWhale 58 = .ok (.ifCond .ne 5, 3) := by decide +kernel
theorem dX5_readWhale_61 : decode cX5_readWhale 61 = .ok (.iconst 0, 1) := by decide +kernel
theorem dX5_readWhale_62 : decode cX5_readWhale 62 = .ok (.ireturn, 1) := by decide +kernel
theorem dX5_readWhale_63 : decode cX5_readWhale 63 = .ok (.aload_n 1, 1) := by decide +kernel
theorem dX5_readWhale_64 : decode cX5_readWhale 64 = .ok (.aload_n 0, 1) := by decide +kernel
theorem dX5_readWhale_65 : decode cX5_readWhale 65 = .ok (.getfield 24, 3) := by decide +kernel
theorem dX5_readWhale_68 : decode cX5_readWhale 68 = .ok (.putfield 204, 3) := by decide +kernel
theorem dX5_readWhale_71 : decode cX5_readWhale 71 = .ok (.aload_n 0, 1) := by decide +kernel
theorem dX5_readWhale_72 : decode cX5_readWhale 72 = .ok (.ldc 207, 2) := by decide +kernel
theorem dX5_readWhale_74 : decode cX5_readWhale 74 = .ok (.invokevirtual 138, 3) := by decide +kernel
theorem dX5_readWhale_77 : decode cX5_readWhale 77 = .ok (.ifCond .eq 13, 3) := by decide +kernel
theorem dX5_readWhale_80 : decode cX5_readWhale 80 = .ok (.aload_n 0, 1) := by decide +kernel
theorem dX5_readWhale_81 : decode cX5_readWhale 81 = .ok (.iconst 0, 1) := by decide +kernel
theorem dX5_readWhale_82 : decode cX5_readWhale 82 = .ok (.bipush 99, 2) := by decide +kernel
theorem dX5_readWhale_84 : decode cX5_readWhale 84 = .ok (.invokevirtual 142, 3) := by decide +kernel
theorem dX5_readWhale_87 : decode cX5_readWhale 87 = .ok (.ifCond .ne 5, 3) := by decide +kernel
theorem dX5_readWhale_90 : decode cX5_readWhale 90 = .ok (.iconst 0, 1) := by decide +kernel
theorem dX5_readWhale_91 : decode cX5_readWhale 91 = .ok (.ireturn, 1) := by decide +kernel
theorem dX5_readWhale_92 : decode cX5_readWhale 92 = .ok (.aload_n 1, 1) := by decide +kernel
theorem dX5_readWhale_93 : decode cX5_readWhale 93 = .ok (.aload_n 0, 1) := by decide +kernel
theorem dX5_readWhale_94 : decode cX5_readWhale 94 = .ok (.getfield 24, 3) := by decide +kernel
theorem dX5_readWhale_97 : decode cX5_readWhale 97 = .ok (.putfield 209, 3) := by decide +kernel
theorem dX5_readWhale_100 : decode cX5_readWhale 100 = .ok (.aload_n 0, 1) := by decide +kernel
theorem dX5_readWhale_101 : decode cX5_readWhale 101 = .ok (.ldc 211, 2) := by decide +kernel
theorem dX5_readWhale_103 : decode cX5_readWhale 103 = .ok (.invokevirtual 138, 3) := by decide +kernel
theorem dX5_readWhale_106 : decode cX5_readWhale 106 = .ok (.ifCond .eq 13, 3) := by decide +kernel
theorem dX5_readWhale_109 : decode cX5_readWhale 109 = .ok (.aload_n 0, 1) := by decide +kernel
theorem dX5_readWhale_110 : decode cX5_readWhale 110 = .ok (.iconst 0, 1) := by decide +kernel
theorem dX5_readWhale_111 : decode cX5_readWhale 111 = .ok (.bipush 99, 2) := by decide +kernel
theorem dX5_readWhale_113 : decode cX5_readWhale 113 = .ok (.invokevirtual 142, 3) := by decide +kernel
theorem dX5_readWhale_116 : decode cX5_readWhale 116 = .ok (.ifCond .ne 5, 3) := by decide +kernel
theorem dX5_readWhale_119 : decode cX5_readWhale 119 = .ok (.iconst 0, 1) := by decide +kernel
theorem dX5_readWhale_120 : decode cX5_readWhale 120 = .ok (.ireturn, 1) := by decide +kernel
theorem dX5_readWhale_121 : decode cX5_readWhale 121 = .ok (.aload_n 1, 1) := by decide +kernel
theorem dX5_readWhale_122 : decode cX5_readWhale 122 = .ok (.aload_n 0, 1) := by decide +kernel
theorem dX5_readWhale_123 : decode cX5_readWhale 123 = .ok (.getfield 24, 3) := by decide +kernel
theorem dX5_readWhale_126 : decode cX5_readWhale 126 = .ok (.putfield 213, 3) := by decide +kernel
theorem dX5_readWhale_129 : decode cX5_readWhale 129 = .ok (.aload_n 0, 1) := by decide +kernel
theorem dX5_readWhale_130 : decode cX5_readWhale 130 = .ok (.getfield 51, 3) := by decide +kernel
theorem dX5_readWhale_133 : decode cX5_readWhale 133 = .ok (.dup, 1) := by decide +kernel
theorem dX5_readWhale_134 : decode cX5_readWhale 134 = .ok (.getfield 104, 3) := by decide +kernel
theorem dX5_readWhale_137 : decode cX5_readWhale 137 = .ok (.iconst 1, 1) := by decide +kernel
theorem dX5_readWhale_138 : decode cX5_readWhale 138 = .ok (.iadd, 1) := by decide +kernel
theorem dX5_readWhale_139 : decode cX5_readWhale 139 = .ok (.putfield 104, 3) := by decide +kernel
theorem dX5_readWhale_142 : decode cX5_readWhale 142 = .ok (.iconst 1, 1) := by decide +kernel
theorem dX5_readWhale_143 : decode cX5_readWhale 143 = .ok (.ireturn, 1) := by decide +kernel
theorem dX5_readBox_0 : decode cX5_readBox 0 = .ok (.aload_n 0, 1) := by decide +kernel
theorem dX5_readBox_1 : decode cX5_readBox 1 = .ok (.iconst 4, 1) := by decide +kernel
theorem dX5_readBox_2 : decode cX5_readBox 2 = .ok (.aload_n 0, 1) := by decide +kernel
theorem dX5_readBox_3 : decode cX5_readBox 3 = .ok (.getfield 51, 3) := by decide +kernel
theorem dX5_readBox_6 : decode cX5_readBox 6 = .ok (.getfield 115, 3) := by decide +kernel
theorem dX5_readBox_9 : decode cX5_readBox 9 = .ok (.invokevirtual 158, 3) := by decide +kernel
theorem dX5_readBox_12 : decode cX5_readBox 12 = .ok (.ifCond .eq 20, 3) := by decide +kernel
theorem dX5_readBox_15 : decode cX5_readBox 15 = .ok (.aload_n 0, 1) := by decide +kernel
theorem dX5_readBox_16 : decode cX5_readBox 16 = .ok (.ldc 215, 2) := by decide +kernel
theorem dX5_readBox_18 : decode cX5_readBox 18 = .ok (.invokevirtual 138, 3) := by decide +kernel
theorem dX5_readBox_21 : decode cX5_readBox 21 = .ok (.ifCond .eq 11, 3) := by decide +kernel
theorem dX5_readBox_24 : decode cX5_readBox 24 = .ok (.aload_n 0, 1) := by decide +kernel
theorem dX5_readBox_25 : decode cX5_readBox 25 = .ok (.iconst 1, 1) := by decide +kernel
theorem dX5_readBox_26 : decode cX5_readBox 26 = .ok (.invokevirtual 173, 3) := by decide +kernel
theorem dX5_readBox_29 : decode cX5_readBox 29 = .ok (.ifCond .ne 5, 3) := by decide +kernel
theorem dX5_readBox_32 : decode cX5_readBox 32 = .ok (.iconst 0, 1) := by decide +kernel
theorem dX5_readBox_33 : decode cX5_readBox 33 = .ok (.ireturn, 1) := by decide +kernel
theorem dX5_readBox_34 : decode cX5_readBox 34 = .ok (.aload_n 1, 1) := by decide +kernel
theorem dX5_readBox_35 : decode cX5_readBox 35 = .ok (.aload_n 0, 1) := by decide +kernel
theorem dX5_readBox_36 : decode cX5_readBox 36 = .ok (.getfield 24, 3) := by decide +kernel
theorem dX5_readBox_39 : decode cX5_readBox 39 = .ok (.putfield 217, 3) := by decide +kernel
theorem dX5_readBox_42 : decode cX5_readBox 42 = .ok (.aload_n 0, 1) := by decide +kernel
theorem dX5_readBox_43 : decode cX5_readBox 43 = .ok (.ldc 221, 2) := by decide +kernel
theorem dX5_readBox_45 : decode cX5_readBox 45 = .ok (.invokevirtual 138, 3) := by decide +kernel
theorem dX5_readBox_48 : decode cX5_readBox 48 = .ok (.ifCond .eq 11, 3) := by decide +kernel
theorem dX5_readBox_51 : decode cX5_readBox 51 = .ok (.aload_n 0, 1) := by decide +kernel
theorem dX5_readBox_52 : decode cX5_readBox 52 = .ok (.iconst 1, 1) := by decide +kernel
theorem dX5_readBox_53 : decode cX5_readBox 53 = .ok (.invokevirtual 173, 3) := by decide +kernel
theorem dX5_readBox_56 : decode cX5_readBox 56 = .ok (.ifCond .ne 5, 3) := by decide +kernel
theorem dX5_readBox_59 : decode cX5_readBox 59 = .ok (.iconst 0, 1) := by decide +kernel
theorem dX5_readBox_60 : decode cX5_readBox 60 = .ok (.ireturn, 1) := by decide +kernel
theorem dX5_readBox_61 : decode cX5_readBox 61 = .ok (.aload_n 1, 1) := by decide +kernel
theorem dX5_readBox_62 : decode cX5_readBox 62 = .ok (.aload_n 0, 1) := by decide +kernel
theorem dX5_readBox_63 : decode cX5_readBox 63 = .ok (.getfield 24, 3) := by decide +kernel
theorem dX5_readBox_66 : decode cX5_readBox 66 = .ok (.putfield 223, 3) := by decide +kernel
theorem dX5_readBox_69 : decode cX5_readBox 69 = .ok (.aload_n 0, 1) := by decide +kernel
theorem dX5_readBox_70 : decode cX5_readBox 70 = .ok (.ldc 225, 2) := by decide +kernel
theorem dX5_readBox_72 : decode cX5_readBox 72 = .ok (.invokevirtual 138, 3) := by decide +kernel
theorem dX5_readBox_75 : decode cX5_readBox 75 = .ok (.ifCond .eq 13, 3) := by decide +kernel
theorem dX5_readBox_78 : decode cX5_readBox 78 = .ok (.aload_n 0, 1) := by decide +kernel
theorem dX5_readBox_79 : decode cX5_readBox 79 = .ok (.iconst 1, 1) := by decide +kernel
theorem dX5_readBox_80 : decode cX5_readBox 80 = .ok (.bipush 99, 2) := by decide +kernel
theorem dX5_readBox_82 : decode cX5_readBox 82 = .ok (.invokevirtual 142, 3) := by decide +kernel
theorem dX5_readBox_85 : decode cX5_readBox 85 = .ok (.ifCond .ne 5, 3) := by decide +kernel
theorem dX5_readBox_88 : decode cX5_readBox 88 = .ok (.iconst 0, 1) := by decide +kernel
theorem dX5_readBox_89 : decode cX5_readBox 89 = .ok (.ireturn, 1) := by decide +kernel
theorem dX5_readBox_90 : decode cX5_readBox 90 = .ok (.aload_n 1, 1) := by decide +kernel
theorem dX5_readBox_91 : decode cX5_readBox 91 = .ok (.aload_n 0, 1) := by decide +kernel
theorem dX5_readBox_92 : decode cX5_readBox 92 = .ok (.getfield 24, 3) := by decide +kernel
theorem dX5_readBox_95 : decode cX5_readBox 95 = .ok (.putfield 227, 3) := by decide +kernel
theorem dX5_readBox_98 : decode cX5_readBox 98 = .ok (.aload_n 0, 1) := by decide +kernel
theorem dX5_readBox_99 : decode cX5_readBox 99 = .ok (.ldc 229, 2) := by decide +kernel
theorem dX5_readBox_101 : decode cX5_readBox 101 = .ok (.invokevirtual 138, 3) := by decide +kernel
theorem dX5_readBox_104 : decode cX5_readBox 104 = .ok (.ifCond .eq 14, 3) := by decide +kernel
theorem dX5_readBox_107 : decode cX5_readBox 107 = .ok (.aload_n 0, 1) := by decide +kernel
theorem dX5_readBox_108 : decode cX5_readBox 108 = .ok (.iconst 0, 1) := by decide +kernel
theorem dX5_readBox_109 : decode cX5_readBox 109 = .ok (.sipush 9999, 3) := by decide +kernel
theorem dX5_readBox_112 : decode cX5_readBox 112 = .ok (.invokevirtual 142, 3) := by decide +kernel
theorem dX5_readBox_115 : decode cX5_readBox 115 = .ok (.ifCond .ne 5, 3) := by decide +kernel
theorem dX5_readBox_118 : decode cX5_readBox 118 = .ok (.iconst 0, 1) := by decide +kernel
theorem dX5_readBox_119 : decode cX5_readBox 119 = .ok (.ireturn, 1) := by decide +kernel
theorem dX5_readBox_120 : decode cX5_readBox 120 = .ok (.aload_n 1, 1) := by decide +kernel
theorem dX5_readBox_121 : decode cX5_readBox 121 = .ok (.aload_n 0, 1) := by decide +kernel
theorem dX5_readBox_122 : decode cX5_readBox 122 = .ok (.getfield 24, 3) := by decide +kernel
theorem dX5_readBox_125 : decode cX5_readBox 125 = .ok (.putfield 231, 3) := by decide +kernel
theorem dX5_readBox_128 : decode cX5_readBox 128 = .ok (.aload_n 0, 1) := by decide +kernel
theorem dX5_readBox_129 : decode cX5_readBox 129 = .ok (.getfield 51, 3) := by decide +kernel
theorem dX5_readBox_132 : decode cX5_readBox 132 = .ok (.dup, 1) := by decide +kernel
theorem dX5_readBox_133 : decode cX5_readBox 133 = .ok (.getfield 115, 3) := by decide +kernel
theorem dX5_readBox_136 : decode cX5_readBox 136 = .ok (.iconst 1, 1) := by decide +kernel
theorem dX5_readBox_137 : decode cX5_readBox 137 = .ok (.iadd, 1) := by decide +kernel
theorem dX5_readBox_138 : decode cX5_readBox 138 = .ok (.putfield 115, 3) := by decide +kernel
theorem dX5_readBox_141 : decode cX5_readBox 141 = .ok (.iconst 1, 1) := by decide +kernel
theorem dX5_readBox_142 : decode cX5_readBox 142 = .ok (.ireturn, 1) := by decide +kernel
theorem dX5_readSpout_0 : decode cX5_readSpout 0 = .ok (.aload_n 0, 1) := by decide +kernel
theorem dX5_readSpout_1 : decode cX5_readSpout 1 = .ok (.iconst 3, 1) := by decide +kernel
theorem dX5_readSpout_2 : decode cX5_readSpout 2 = .ok (.invokevirtual 173, 3) := by decide +kernel
theorem dX5_readSpout_5 : decode cX5_readSpout 5 = .ok (.ifCond .ne 5, 3) := by decide +kernel
theorem dX5_readSpout_8 : decode cX5_readSpout 8 = .ok (.iconst 0, 1) := by decide +kernel
theorem dX5_readSpout_9 : decode cX5_readSpout 9 = .ok (.ireturn, 1) := by decide +kernel
theorem dX5_readSpout_10 : decode cX5_readSpout 10 = .ok (.aload_n 1, 1) := by decide +kernel
theorem dX5_readSpout_11 : decode cX5_readSpout 11 = .ok (.aload_n 0, 1) := by decide +kernel
theorem dX5_readSpout_12 : decode cX5_readSpout 12 = .ok (.getfield 24, 3) := by decide +kernel
theorem dX5_readSpout_15 : decode cX5_readSpout 15 = .ok (.putfield 233, 3) := by decide +kernel
theorem dX5_readSpout_18 : decode cX5_readSpout 18 = .ok (.aload_n 0, 1) := by decide +kernel
theorem dX5_readSpout_19 : decode cX5_readSpout 19 = .ok (.iconst 1, 1) := by decide +kernel
theorem dX5_readSpout_20 : decode cX5_readSpout 20 = .ok (.invokevirtual 173, 3) := by decide +kernel
theorem dX5_readSpout_23 : decode cX5_readSpout 23 = .ok (.ifCond .ne 5, 3) := by decide +kernel
theorem dX5_readSpout_26 : decode cX5_readSpout 26 = .ok (.iconst 0, 1) := by decide +kernel
theorem dX5_readSpout_27 : decode cX5_readSpout 27 = .ok (.ireturn, 1) := by decide +kernel
theorem dX5_readSpout_28 : decode cX5_readSpout 28 = .ok (.aload_n 1, 1) := by decide +kernel
theorem dX5_readSpout_29 : decode cX5_readSpout 29 = .ok (.aload_n 0, 1) := by decide +kernel
theorem dX5_readSpout_30 : decode cX5_readSpout 30 = .ok (.getfield 24, 3) := by decide +kernel
theorem dX5_readSpout_33 : decode cX5_readSpout 33 = .ok (.putfield 237, 3) := by decide +kernel
theorem dX5_readSpout_36 : decode cX5_readSpout 36 = .ok (.aload_n 0, 1) := by decide +kernel
theorem dX5_readSpout_37 : decode cX5_readSpout 37 = .ok (.getfield 51, 3) := by decide +kernel
theorem dX5_readSpout_40 : decode cX5_readSpout 40 = .ok (.aload_n 1, 1) := by decide +kernel
theorem dX5_readSpout_41 : decode cX5_readSpout 41 = .ok (.getfield 233, 3) := by decide +kernel
theorem dX5_readSpout_44 : decode cX5_readSpout 44 = .ok (.invokevirtual 240, 3) := by decide +kernel
theorem dX5_readSpout_47 : decode cX5_readSpout 47 = .ok (.istore_n 2, 1) := by decide +kernel
theorem dX5_readSpout_48 : decode cX5_readSpout 48 = .ok (.iload_n 2, 1) := by decide +kernel
theorem dX5_readSpout_49 : decode cX5_readSpout 49 = .ok (.bipush (-2), 2) := by decide +kernel
theorem dX5_readSpout_51 : decode cX5_readSpout 51 = .ok (.if_icmp .ne 7, 3) := by decide +kernel
theorem dX5_readSpout_54 : decode cX5_readSpout 54 = .ok (.iconst 0, 1) := by decide +kernel
theorem dX5_readSpout_55 : decode cX5_readSpout 55 = .ok (.goto 17, 3) := by decide +kernel
theorem dX5_readSpout_58 : decode cX5_readSpout 58 = .ok (.aload_n 0, 1) := by decide +kernel
theorem dX5_readSpout_59 : decode cX5_readSpout 59 = .ok (.getfield 51, 3) := by decide +kernel
theorem dX5_readSpout_62 : decode cX5_readSpout 62 = .ok (.getfield 129, 3) := by decide +kernel
theorem dX5_readSpout_65 : decode cX5_readSpout 65 = .ok (.iload_n 2, 1) := by decide +kernel
theorem dX5_readSpout_66 : decode cX5_readSpout 66 = .ok (.aaload, 1) := by decide +kernel
theorem dX5_readSpout_67 : decode cX5_readSpout 67 = .ok (.getfield 244, 3) := by decide +kernel
theorem dX5_readSpout_70 : decode cX5_readSpout 70 = .ok (.iconst 1, 1) := by decide +kernel
theorem dX5_readSpout_71 : decode cX5_readSpout 71 = .ok (.iadd, 1) := by decide +kernel
theorem dX5_readSpout_72 : decode cX5_readSpout 72 = .ok (.istore_n 3, 1) := by decide +kernel
theorem dX5_readSpout_73 : decode cX5_readSpout 73 = .ok (.aload_n 0, 1) := by decide +kernel
theorem dX5_readSpout_74 : decode cX5_readSpout 74 = .ok (.ldc 229, 2) := by decide +kernel
theorem dX5_readSpout_76 : decode cX5_readSpout 76 = .ok (.invokevirtual 138, 3) := by decide +kernel
theorem dX5_readSpout_79 : decode cX5_readSpout 79 = .ok (.ifCond .eq 14, 3) := by decide +kernel
theorem dX5_readSpout_82 : decode cX5_readSpout 82 = .ok (.aload_n 0, 1) := by decide +kernel
theorem dX5_readSpout_83 : decode cX5_readSpout 83 = .ok (.iload_n 3, 1) := by decide +kernel
theorem dX5_readSpout_84 : decode cX5_readSpout 84 = .ok (.sipush 9999, 3) := by decide +kernel
theorem dX5_readSpout_87 : decode cX5_readSpout 87 = .ok (.invokevirtual 142, 3) := by decide +kernel
theorem dX5_readSpout_90 : decode cX5_readSpout 90 = .ok (.ifCond .ne 5, 3) := by decide +kernel
theorem dX5_readSpout_93 : decode cX5_readSpout 93 = .ok (.iconst 0, 1) := by decide +kernel
theorem dX5_readSpout_94 : decode cX5_readSpout 94 = .ok (.ireturn, 1) := by decide +kernel
theorem dX5_readSpout_95 : decode cX5_readSpout 95 = .ok (.aload_n 1, 1) := by decide +kernel
theorem dX5_readSpout_96 : decode cX5_readSpout 96 = .ok (.aload_n 0, 1) := by decide +kernel
theorem dX5_readSpout_97 : decode cX5_readSpout 97 = .ok (.getfield 24, 3) := by decide +kernel
theorem dX5_readSpout_100 : decode cX5_readSpout 100 = .ok (.putfield 244, 3) := by decide +kernel
theorem dX5_readSpout_103 : decode cX5_readSpout 103 = .ok (.aload_n 0, 1) := by decide +kernel
theorem dX5_readSpout_104 : decode cX5_readSpout 104 = .ok (.getfield 51, 3) := by decide +kernel
theorem dX5_readSpout_107 : decode cX5_readSpout 107 = .ok (.dup, 1) := by decide +kernel
theorem dX5_readSpout_108 : decode cX5_readSpout 108 = .ok (.getfield 126, 3) := by decide +kernel
theorem dX5_readSpout_111 : decode cX5_readSpout 111 = .ok (.iconst 1, 1) := by decide +kernel
theorem dX5_readSpout_112 : decode cX5_readSpout 112 = .ok (.iadd, 1) := by decide +kernel
theorem dX5_readSpout_113 : decode cX5_readSpout 113 = .ok (.putfield 126, 3) := by decide +kernel
theorem dX5_readSpout_116 : decode cX5_readSpout 116 = .ok (.iconst 1, 1) := by decide +kernel
theorem dX5_readSpout_117 : decode cX5_readSpout 117 = .ok (.ireturn, 1) := by decide +kernel
theorem dX5_word_0 : decode cX5_word 0 = .ok (.aload_n 0, 1) := by decide +kernel
theorem dX5_word_1 : decode cX5_word 1 = .ok (.invokevirtual 70, 3) := by decide +kernel
theorem dX5_word_4 : decode cX5_word 4 = .ok (.aload_n 0, 1) := by decide +kernel
theorem dX5_word_5 : decode cX5_word 5 = .ok (.aload_n 1, 1) := by decide +kernel
theorem dX5_word_6 : decode cX5_word 6 = .ok (.invokevirtual 245, 3) := by decide +kernel
theorem dX5_word_9 : decode cX5_word 9 = .ok (.ifCond .ne 11, 3) := by decide +kernel
theorem dX5_word_12 : decode cX5_word 12 = .ok (.aload_n 0, 1) := by decide +kernel
theorem dX5_word_13 : decode cX5_word 13 = .ok (.iconst 1, 1) := by decide +kernel
theorem dX5_word_14 : decode cX5_word 14 = .ok (.invokevirtual 76, 3) := by decide +kernel
theorem dX5_word_17 : decode cX5_word 17 = .ok (.ifCond .eq 7, 3) := by decide +kernel
theorem dX5_word_20 : decode cX5_word 20 = .ok (.iconst 1, 1) := by decide +kernel
theorem dX5_word_21 : decode cX5_word 21 = .ok (.goto 4, 3) := by decide +kernel
theorem dX5_word_24 : decode cX5_word 24 = .ok (.iconst 0, 1) := by decide +kernel
theorem dX5_word_25 : decode cX5_word 25 = .ok (.ireturn, 1) := by decide +kernel
theorem dX5_whole_0 : decode cX5_whole 0 = .ok (.aload_n 0, 1) := by decide +kernel
theorem dX5_whole_1 : decode cX5_whole 1 = .ok (.invokevirtual 70, 3) := by decide +kernel
theorem dX5_whole_4 : decode cX5_whole 4 = .ok (.aload_n 0, 1) := by decide +kernel
theorem dX5_whole_5 : decode cX5_whole 5 = .ok (.getfield 18, 3) := by decide +kernel
theorem dX5_whole_8 : decode cX5_whole 8 = .ok (.iconst 2, 1) := by decide +kernel
theorem dX5_whole_9 : decode cX5_whole 9 = .ok (.if_icmp .eq 9, 3) := by decide +kernel
theorem dX5_whole_12 : decode cX5_whole 12 = .ok (.aload_n 0, 1) := by decide +kernel
theorem dX5_whole_13 : decode cX5_whole 13 = .ok (.iconst 1, 1) := by decide +kernel
theorem dX5_whole_14 : decode cX5_whole 14 = .ok (.invokevirtual 76, 3) := by decide +kernel
theorem dX5_whole_17 : decode cX5_whole 17 = .ok (.ireturn, 1) := by decide +kernel
theorem dX5_whole_18 : decode cX5_whole 18 = .ok (.aload_n 0, 1) := by decide +kernel
theorem dX5_whole_19 : decode cX5_whole 19 = .ok (.iconst 0, 1) := by decide +kernel
theorem dX5_whole_20 : decode cX5_whole 20 = .ok (.putfield 24, 3) := by decide +kernel
theorem dX5_whole_23 : decode cX5_whole 23 = .ok (.aload_n 0, 1) := by decide +kernel
theorem dX5_whole_24 : decode cX5_whole 24 = .ok (.getfield 21, 3) := by decide +kernel
theorem dX5_whole_27 : decode cX5_whole 27 = .ok (.istore_n 3, 1) := by decide +kernel
theorem dX5_whole_28 : decode cX5_whole 28 = .ok (.iload_n 3, 1) := by decide +kernel
theorem dX5_whole_29 : decode cX5_whole 29 = .ok (.aload_n 0, 1) := by decide +kernel
theorem dX5_whole_30 : decode cX5_whole 30 = .ok (.getfield 15, 3) := by decide +kernel
theorem dX5_whole_33 : decode cX5_whole 33 = .ok (.if_icmp .ge 30, 3) := by decide +kernel
theorem dX5_whole_36 : decode cX5_whole 36 = .ok (.aload_n 0, 1) := by decide +kernel
theorem dX5_whole_37 : decode cX5_whole 37 = .ok (.aload_n 0, 1) := by decide +kernel
theorem dX5_whole_38 : decode cX5_whole 38 = .ok (.getfield 24, 3) := by decide +kernel
theorem dX5_whole_41 : decode cX5_whole 41 = .ok (.bipush 10, 2) := by decide +kernel
theorem dX5_whole_43 : decode cX5_whole 43 = .ok (.imul, 1) := by decide +kernel
theorem dX5_whole_44 : decode cX5_whole 44 = .ok (.aload_n 0, 1) := by decide +kernel
theorem dX5_whole_45 : decode cX5_whole 45 = .ok (.getfield 47, 3) := by decide +kernel
theorem dX5_whole_48 : decode cX5_whole 48 = .ok (.iload_n 3, 1) := by decide +kernel
theorem dX5_whole_49 : decode cX5_whole 49 = .ok (.baload, 1) := by decide +kernel
theorem dX5_whole_50 : decode cX5_whole 50 = .ok (.bipush 48, 2) := by decide +kernel
theorem dX5_whole_52 : decode cX5_whole 52 = .ok (.isub, 1) := by decide +kernel
theorem dX5_whole_53 : decode cX5_whole 53 = .ok (.iadd, 1) := by decide +kernel
theorem dX5_whole_54 : decode cX5_whole 54 = .ok (.putfield 24, 3) := by decide +kernel
theorem dX5_whole_57 : decode cX5_whole 57 = .ok (.iinc 3 1, 3) := by decide +kernel
theorem dX5_whole_60 : decode cX5_whole 60 = .ok (.goto (-32), 3) := by decide +kernel
theorem dX5_whole_63 : decode cX5_whole 63 = .ok (.aload_n 0, 1) := by decide +kernel
theorem dX5_whole_64 : decode cX5_whole 64 = .ok (.getfield 24, 3) := by decide +kernel
theorem dX5_whole_67 : decode cX5_whole 67 = .ok (.iload_n 1, 1) := by decide +kernel
theorem dX5_whole_68 : decode cX5_whole 68 = .ok (.if_icmp .lt 11, 3) := by decide +kernel
theorem dX5_whole_71 : decode cX5_whole 71 = .ok (.aload_n 0, 1) := by decide +kernel
theorem dX5_whole_72 : decode cX5_whole 72 = .ok (.getfield 24, 3) := by decide +kernel
theorem dX5_whole_75 : decode cX5_whole 75 = .ok (.iload_n 2, 1) := by decide +kernel
theorem dX5_whole_76 : decode cX5_whole 76 = .ok (.if_icmp .le 11, 3) := by decide +kernel
theorem dX5_whole_79 : decode cX5_whole 79 = .ok (.aload_n 0, 1) := by decide +kernel
theorem dX5_whole_80 : decode cX5_whole 80 = .ok (.iconst 4, 1) := by decide +kernel
theorem dX5_whole_81 : decode cX5_whole 81 = .ok (.invokevirtual 76, 3) := by decide +kernel
theorem dX5_whole_84 : decode cX5_whole 84 = .ok (.ifCond .eq 7, 3) := by decide +kernel
theorem dX5_whole_87 : decode cX5_whole 87 = .ok (.iconst 1, 1) := by decide +kernel
theorem dX5_whole_88 : decode cX5_whole 88 = .ok (.goto 4, 3) := by decide +kernel
theorem dX5_whole_91 : decode cX5_whole 91 = .ok (.iconst 0, 1) := by decide +kernel
theorem dX5_whole_92 : decode cX5_whole 92 = .ok (.ireturn, 1) := by decide +kernel
theorem dX5_newName_0 : decode cX5_newName 0 = .ok (.aload_n 0, 1) := by decide +kernel
theorem dX5_newName_1 : decode cX5_newName 1 = .ok (.invokevirtual 70, 3) := by decide +kernel
theorem dX5_newName_4 : decode cX5_newName 4 = .ok (.aload_n 0, 1) := by decide +kernel
theorem dX5_newName_5 : decode cX5_newName 5 = .ok (.getfield 18, 3) := by decide +kernel
theorem dX5_newName_8 : decode cX5_newName 8 = .ok (.iconst 1, 1) := by decide +kernel
theorem dX5_newName_9 : decode cX5_newName 9 = .ok (.if_icmp .ne 12, 3) := by decide +kernel
theorem dX5_newName_12 : decode cX5_newName 12 = .ok (.aload_n 0, 1) := by decide +kernel
theorem dX5_newName_13 : decode cX5_newName 13 = .ok (.invokevirtual 80, 3) := by decide +kernel
theorem dX5_newName_16 : decode cX5_newName 16 = .ok (.bipush (-2), 2) := by decide +kernel
theorem dX5_newName_18 : decode cX5_newName 18 = .ok (.if_icmp .eq 9, 3) := by decide +kernel
theorem dX5_newName_21 : decode cX5_newName 21 = .ok (.aload_n 0, 1) := by decide +kernel
theorem dX5_newName_22 : decode cX5_newName 22 = .ok (.iconst 1, 1) := by decide +kernel
theorem dX5_newName_23 : decode cX5_newName 23 = .ok (.invokevirtual 76, 3) := by decide +kernel
theorem dX5_newName_26 : decode cX5_newName 26 = .ok (.ireturn, 1) := by decide +kernel
theorem dX5_newName_27 : decode cX5_newName 27 = .ok (.aload_n 0, 1) := by decide +kernel
theorem dX5_newName_28 : decode cX5_newName 28 = .ok (.invokevirtual 248, 3) := by decide +kernel
theorem dX5_newName_31 : decode cX5_newName 31 = .ok (.bipush (-2), 2) := by decide +kernel
theorem dX5_newName_33 : decode cX5_newName 33 = .ok (.if_icmp .ne 12, 3) := by decide +kernel
theorem dX5_newName_36 : decode cX5_newName 36 = .ok (.aload_n 0, 1) := by decide +kernel
theorem dX5_newName_37 : decode cX5_newName 37 = .ok (.getfield 38, 3) := by decide +kernel
theorem dX5_newName_40 : decode cX5_newName 40 = .ok (.bipush 20, 2) := by decide +kernel
theorem dX5_newName_42 : decode cX5_newName 42 = .ok (.if_icmp .lt 9, 3) := by decide +kernel
theorem dX5_newName_45 : decode cX5_newName 45 = .ok (.aload_n 0, 1) := by decide +kernel
theorem dX5_newName_46 : decode cX5_newName 46 = .ok (.iconst 3, 1) := by decide +kernel
theorem dX5_newName_47 : decode cX5_newName 47 = .ok (.invokevirtual 76, 3) := by decide +kernel
theorem dX5_newName_50 : decode cX5_newName 50 = .ok (.ireturn, 1) := by decide +kernel
theorem dX5_newName_51 : decode cX5_newName 51 = .ok (.aload_n 0, 1) := by decide +kernel
theorem dX5_newName_52 : decode cX5_newName 52 = .ok (.getfield 27, 3) := by decide +kernel
theorem dX5_newName_55 : decode cX5_newName 55 = .ok (.aload_n 0, 1) := by decide +kernel
theorem dX5_newName_56 : decode cX5_newName 56 = .ok (.getfield 38, 3) := by decide +kernel
theorem dX5_newName_59 : decode cX5_newName 59 = .ok (.aload_n 0, 1) := by decide +kernel
theorem dX5_newName_60 : decode cX5_newName 60 = .ok (.invokevirtual 251, 3) := by decide +kernel
theorem dX5_newName_63 : decode cX5_newName 63 = .ok (.lastore, 1) := by decide +kernel
theorem dX5_newName_64 : decode cX5_newName 64 = .ok (.aload_n 0, 1) := by decide +kernel
theorem dX5_newName_65 : decode cX5_newName 65 = .ok (.getfield 31, 3) := by decide +kernel
theorem dX5_newName_68 : decode cX5_newName 68 = .ok (.aload_n 0, 1) := by decide +kernel
theorem dX5_newName_69 : decode cX5_newName 69 = .ok (.getfield 38, 3) := by decide +kernel
theorem dX5_newName_72 : decode cX5_newName 72 = .ok (.iload_n 1, 1) := by decide +kernel
theorem dX5_newName_73 : decode cX5_newName 73 = .ok (.iastore, 1) := by decide +kernel
theorem dX5_newName_74 : decode cX5_newName 74 = .ok (.aload_n 0, 1) := by decide +kernel
theorem dX5_newName_75 : decode cX5_newName 75 = .ok (.getfield 35, 3) := by decide +kernel
theorem dX5_newName_78 : decode cX5_newName 78 = .ok (.aload_n 0, 1) := by decide +kernel
theorem dX5_newName_79 : decode cX5_newName 79 = .ok (.getfield 38, 3) := by decide +kernel
theorem dX5_newName_82 : decode cX5_newName 82 = .ok (.iload_n 2, 1) := by decide +kernel
theorem dX5_newName_83 : decode cX5_newName 83 = .ok (.iastore, 1) := by decide +kernel
theorem dX5_newName_84 : decode cX5_newName 84 = .ok (.aload_n 0, 1) := by decide +kernel
theorem dX5_newName_85 : decode cX5_newName 85 = .ok (.dup, 1) := by decide +kernel
theorem dX5_newName_86 : decode cX5_newName 86 = .ok (.getfield 38, 3) := by decide +kernel
theorem dX5_newName_89 : decode cX5_newName 89 = .ok (.iconst 1, 1) := by decide +kernel
theorem dX5_newName_90 : decode cX5_newName 90 = .ok (.iadd, 1) := by decide +kernel
theorem dX5_newName_91 : decode cX5_newName 91 = .ok (.putfield 38, 3) := by decide +kernel
theorem dX5_newName_94 : decode cX5_newName 94 = .ok (.iconst 1, 1) := by decide +kernel
theorem dX5_newName_95 : decode cX5_newName 95 = .ok (.ireturn, 1) := by decide +kernel
theorem dX5_toldName_0 : decode cX5_toldName 0 = .ok (.aload_n 0, 1) := by decide +kernel
theorem dX5_toldName_1 : decode cX5_toldName 1 = .ok (.invokevirtual 70, 3) := by decide +kernel
theorem dX5_toldName_4 : decode cX5_toldName 4 = .ok (.aload_n 0, 1) := by decide +kernel
theorem dX5_toldName_5 : decode cX5_toldName 5 = .ok (.getfield 18, 3) := by decide +kernel
theorem dX5_toldName_8 : decode cX5_toldName 8 = .ok (.iconst 1, 1) := by decide +kernel
theorem dX5_toldName_9 : decode cX5_toldName 9 = .ok (.if_icmp .ne 12, 3) := by decide +kernel
theorem dX5_toldName_12 : decode cX5_toldName 12 = .ok (.aload_n 0, 1) := by decide +kernel
theorem dX5_toldName_13 : decode cX5_toldName 13 = .ok (.invokevirtual 80, 3) := by decide +kernel
theorem dX5_toldName_16 : decode cX5_toldName 16 = .ok (.bipush (-2), 2) := by decide +kernel
theorem dX5_toldName_18 : decode cX5_toldName 18 = .ok (.if_icmp .eq 9, 3) := by decide +kernel
theorem dX5_toldName_21 : decode cX5_toldName 21 = .ok (.aload_n 0, 1) := by decide +kernel
theorem dX5_toldName_22 : decode cX5_toldName 22 = .ok (.iconst 1, 1) := by decide +kernel
theorem dX5_toldName_23 : decode cX5_toldName 23 = .ok (.invokevirtual 76, 3) := by decide +kernel
theorem dX5_toldName_26 : decode cX5_toldName 26 = .ok (.ireturn, 1) := by decide +kernel
theorem dX5_toldName_27 : decode cX5_toldName 27 = .ok (.aload_n 0, 1) := by decide +kernel
theorem dX5_toldName_28 : decode cX5_toldName 28 = .ok (.invokevirtual 248, 3) := by decide +kernel
theorem dX5_toldName_31 : decode cX5_toldName 31 = .ok (.istore_n 2, 1) := by decide +kernel
theorem dX5_toldName_32 : decode cX5_toldName 32 = .ok (.iload_n 2, 1) := by decide +kernel
theorem dX5_toldName_33 : decode cX5_toldName 33 = .ok (.bipush (-2), 2) := by decide +kernel
theorem dX5_toldName_35 : decode cX5_toldName 35 = .ok (.if_icmp .eq 13, 3) := by decide +kernel
theorem dX5_toldName_38 : decode cX5_toldName 38 = .ok (.aload_n 0, 1) := by decide +kernel
theorem dX5_toldName_39 : decode cX5_toldName 39 = .ok (.getfield 31, 3) := by decide +kernel
theorem dX5_toldName_42 : decode cX5_toldName 42 = .ok (.iload_n 2, 1) := by decide +kernel
theorem dX5_toldName_43 : decode cX5_toldName 43 = .ok (.iaload, 1) := by decide +kernel
theorem dX5_toldName_44 : decode cX5_toldName 44 = .ok (.iload_n 1, 1) := by decide +kernel
theorem dX5_toldName_45 : decode cX5_toldName 45 = .ok (.if_icmp .eq 9, 3) := by decide +kernel
theorem dX5_toldName_48 : decode cX5_toldName 48 = .ok (.aload_n 0, 1) := by decide +kernel
theorem dX5_toldName_49 : decode cX5_toldName 49 = .ok (.iconst 2, 1) := by decide +kernel
theorem dX5_toldName_50 : decode cX5_toldName 50 = .ok (.invokevirtual 76, 3) := by decide +kernel
theorem dX5_toldName_53 : decode cX5_toldName 53 = .ok (.ireturn, 1) := by decide +kernel
theorem dX5_toldName_54 : decode cX5_toldName 54 = .ok (.aload_n 0, 1) := by decide +kernel
theorem dX5_toldName_55 : decode cX5_toldName 55 = .ok (.aload_n 0, 1) := by decide +kernel
theorem dX5_toldName_56 : decode cX5_toldName 56 = .ok (.getfield 35, 3) := by decide +kernel
theorem dX5_toldName_59 : decode cX5_toldName 59 = .ok (.iload_n 2, 1) := by decide +kernel
theorem dX5_toldName_60 : decode cX5_toldName 60 = .ok (.iaload, 1) := by decide +kernel
theorem dX5_toldName_61 : decode cX5_toldName 61 = .ok (.putfield 24, 3) := by decide +kernel
theorem dX5_toldName_64 : decode cX5_toldName 64 = .ok (.iconst 1, 1) := by decide +kernel
theorem dX5_toldName_65 : decode cX5_toldName 65 = .ok (.ireturn, 1) := by decide +kernel
theorem dX5_nameOfToken_0 : decode cX5_nameOfToken 0 = .ok (.aload_n 0, 1) := by decide +kernel
theorem dX5_nameOfToken_1 : decode cX5_nameOfToken 1 = .ok (.invokevirtual 251, 3) := by decide +kernel
theorem dX5_nameOfToken_4 : decode cX5_nameOfToken 4 = .ok (.lstore_n 1, 1) := by decide +kernel
theorem dX5_nameOfToken_5 : decode cX5_nameOfToken 5 = .ok (.iconst 0, 1) := by decide +kernel
theorem dX5_nameOfToken_6 : decode cX5_nameOfToken 6 = .ok (.istore_n 3, 1) := by decide +kernel
theorem dX5_nameOfToken_7 : decode cX5_nameOfToken 7 = .ok (.iload_n 3, 1) := by decide +kernel
theorem dX5_nameOfToken_8 : decode cX5_nameOfToken 8 = .ok (.aload_n 0, 1) := by decide +kernel
theorem dX5_nameOfToken_9 : decode cX5_nameOfToken 9 = .ok (.getfield 38, 3) := by decide +kernel
theorem dX5_nameOfToken_12 : decode cX5_nameOfToken 12 = .ok (.if_icmp .ge 22, 3) := by decide +kernel
theorem dX5_nameOfToken_15 : decode cX5_nameOfToken 15 = .ok (.aload_n 0, 1) := by decide +kernel
theorem dX5_nameOfToken_16 : decode cX5_nameOfToken 16 = .ok (.getfield 27, 3) := by decide +kernel
theorem dX5_nameOfToken_19 : decode cX5_nameOfToken 19 = .ok (.iload_n 3, 1) := by decide +kernel
theorem dX5_nameOfToken_20 : decode cX5_nameOfToken 20 = .ok (.laload, 1) := by decide +kernel
theorem dX5_nameOfToken_21 : decode cX5_nameOfToken 21 = .ok (.lload_n 1, 1) := by decide +kernel
theorem dX5_nameOfToken_22 : decode cX5_nameOfToken 22 = .ok (.lcmp, 1) := by decide +kernel
theorem dX5_nameOfToken_23 : decode cX5_nameOfToken 23 = .ok (.ifCond .ne 5, 3) := by decide +kernel
theorem dX5_nameOfToken_26 : decode cX5_nameOfToken 26 = .ok (.iload_n 3, 1) := by decide +kernel
theorem dX5_nameOfToken_27 : decode cX5_nameOfToken 27 = .ok (.ireturn, 1) := by decide +kernel
theorem dX5_nameOfToken_28 : decode cX5_nameOfToken 28 = .ok (.iinc 3 1, 3) := by decide +kernel
theorem dX5_nameOfToken_31 : decode cX5_nameOfToken 31 = .ok (.goto (-24), 3) := by decide +kernel
theorem dX5_nameOfToken_34 : decode cX5_nameOfToken 34 = .ok (.bipush (-2), 2) := by decide +kernel
theorem dX5_nameOfToken_36 : decode cX5_nameOfToken 36 = .ok (.ireturn, 1) := by decide +kernel
theorem dX5_letters_0 : decode cX5_letters 0 = .ok (.lconst 0, 1) := by decide +kernel
theorem dX5_letters_1 : decode cX5_letters 1 = .ok (.lstore_n 1, 1) := by decide +kernel
theorem dX5_letters_2 : decode cX5_letters 2 = .ok (.aload_n 0, 1) := by decide +kernel
theorem dX5_letters_3 : decode cX5_letters 3 = .ok (.getfield 21, 3) := by decide +kernel
theorem dX5_letters_6 : decode cX5_letters 6 = .ok (.istore_n 3, 1) := by decide +kernel
theorem dX5_letters_7 : decode cX5_letters 7 = .ok (.iload_n 3, 1) := by decide +kernel
theorem dX5_letters_8 : decode cX5_letters 8 = .ok (.aload_n 0, 1) := by decide +kernel
theorem dX5_letters_9 : decode cX5_letters 9 = .ok (.getfield 15, 3) := by decide +kernel
theorem dX5_letters_12 : decode cX5_letters 12 = .ok (.if_icmp .ge 26, 3) := by decide +kernel
theorem dX5_letters_15 : decode cX5_letters 15 = .ok (.lload_n 1, 1) := by decide +kernel
theorem dX5_letters_16 : decode cX5_letters 16 = .ok (.iconst 5, 1) := by decide +kernel
theorem dX5_letters_17 : decode cX5_letters 17 = .ok (.lshl, 1) := by decide +kernel
theorem dX5_letters_18 : decode cX5_letters 18 = .ok (.aload_n 0, 1) := by decide +kernel
theorem dX5_letters_19 : decode cX5_letters 19 = .ok (.getfield 47, 3) := by decide +kernel
theorem dX5_letters_22 : decode cX5_letters 22 = .ok (.iload_n 3, 1) := by decide +kernel
theorem dX5_letters_23 : decode cX5_letters 23 = .ok (.baload, 1) := by decide +kernel
theorem dX5_letters_24 : decode cX5_letters 24 = .ok (.bipush 97, 2) := by decide +kernel
theorem dX5_letters_26 : decode cX5_letters 26 = .ok (.isub, 1) := by decide +kernel
theorem dX5_letters_27 : decode cX5_letters 27 = .ok (.iconst 1, 1) := by decide +kernel
theorem dX5_letters_28 : decode cX5_letters 28 = .ok (.iadd, 1) := by decide +kernel
theorem dX5_letters_29 : decode cX5_letters 29 = .ok (.i2l, 1) := by decide +kernel
theorem dX5_letters_30 : decode cX5_letters 30 = .ok (.lor, 1) := by decide +kernel
theorem dX5_letters_31 : decode cX5_letters 31 = .ok (.lstore_n 1, 1) := by decide +kernel
theorem dX5_letters_32 : decode cX5_letters 32 = .ok (.iinc 3 1, 3) := by decide +kernel
theorem dX5_letters_35 : decode cX5_letters 35 = .ok (.goto (-28), 3) := by decide +kernel
theorem dX5_letters_38 : decode cX5_letters 38 = .ok (.lload_n 1, 1) := by decide +kernel
theorem dX5_letters_39 : decode cX5_letters 39 = .ok (.lreturn, 1) := by decide +kernel
theorem dX5_songOfToken_0 : decode cX5_songOfToken 0 = .ok (.aload_n 0, 1) := by decide +kernel
theorem dX5_songOfToken_1 : decode cX5_songOfToken 1 = .ok (.getfield 15, 3) := by decide +kernel
theorem dX5_songOfToken_4 : decode cX5_songOfToken 4 = .ok (.aload_n 0, 1) := by decide +kernel
theorem dX5_songOfToken_5 : decode cX5_songOfToken 5 = .ok (.getfield 21, 3) := by decide +kernel
theorem dX5_songOfToken_8 : decode cX5_songOfToken 8 = .ok (.isub, 1) := by decide +kernel
theorem dX5_songOfToken_9 : decode cX5_songOfToken 9 = .ok (.istore_n 1, 1) := by decide +kernel
theorem dX5_songOfToken_10 : decode cX5_songOfToken 10 = .ok (.iload_n 1, 1) := by decide +kernel
theorem dX5_songOfToken_11 : decode cX5_songOfToken 11 = .ok (.iconst 2, 1) := by decide +kernel
theorem dX5_songOfToken_12 : decode cX5_songOfToken 12 = .ok (.if_icmp .lt 9, 3) := by decide +kernel
theorem dX5_songOfToken_15 : decode cX5_songOfToken 15 = .ok (.iload_n 1, 1) := by decide +kernel
theorem dX5_songOfToken_16 : decode cX5_songOfToken 16 = .ok (.bipush 6, 2) := by decide +kernel
theorem dX5_songOfToken_18 : decode cX5_songOfToken 18 = .ok (.if_icmp .le 6, 3) := by decide +kernel
theorem dX5_songOfToken_21 : decode cX5_songOfToken 21 = .ok (.bipush (-2), 2) := by decide +kernel
theorem dX5_songOfToken_23 : decode cX5_songOfToken 23 = .ok (.ireturn, 1) := by decide +kernel
theorem dX5_songOfToken_24 : decode cX5_songOfToken 24 = .ok (.iconst 0, 1) := by decide +kernel
theorem dX5_songOfToken_25 : decode cX5_songOfToken 25 = .ok (.istore_n 2, 1) := by decide +kernel
theorem dX5_songOfToken_26 : decode cX5_songOfToken 26 = .ok (.aload_n 0, 1) := by decide +kernel
theorem dX5_songOfToken_27 : decode cX5_songOfToken 27 = .ok (.getfield 21, 3) := by decide +kernel
theorem dX5_songOfToken_30 : decode cX5_songOfToken 30 = .ok (.istore_n 3, 1) := by decide +kernel
theorem dX5_songOfToken_31 : decode cX5_songOfToken 31 = .ok (.iload_n 3, 1) := by decide +kernel
theorem dX5_songOfToken_32 : decode cX5_songOfToken 32 = .ok (.aload_n 0, 1) := by decide +kernel
theorem dX5_songOfToken_33 : decode cX5_songOfToken 33 = .ok (.getfield 15, 3) := by decide +kernel
theorem dX5_songOfToken_36 : decode cX5_songOfToken 36 = .ok (.if_icmp .ge 42, 3) := by decide +kernel
theorem dX5_songOfToken_39 : decode cX5_songOfToken 39 = .ok (.aload_n 0, 1) := by decide +kernel
theorem dX5_songOfToken_40 : decode cX5_songOfToken 40 = .ok (.getfield 47, 3) := by decide +kernel
theorem dX5_songOfToken_43 : decode cX5_songOfToken 43 = .ok (.iload_n 3, 1) := by decide +kernel
theorem dX5_songOfToken_44 : decode cX5_songOfToken 44 = .ok (.baload, 1) := by decide +kernel
theorem dX5_songOfToken_45 : decode cX5_songOfToken 45 = .ok (.bipush 97, 2) := by decide +kernel
theorem dX5_songOfToken_47 : decode cX5_songOfToken 47 = .ok (.isub, 1) := by decide +kernel
theorem dX5_songOfToken_48 : decode cX5_songOfToken 48 = .ok (.istore 4, 2) := by decide +kernel
theorem dX5_songOfToken_50 : decode cX5_songOfToken 50 = .ok (.iload 4, 2) := by decide +kernel
theorem dX5_songOfToken_52 : decode cX5_songOfToken 52 = .ok (.aload_n 0, 1) := by decide +kernel
theorem dX5_songOfToken_53 : decode cX5_songOfToken 53 = .ok (.getfield 51, 3) := by decide +kernel
theorem dX5_songOfToken_56 : decode cX5_songOfToken 56 = .ok (.getfield 84, 3) := by decide +kernel
theorem dX5_songOfToken_59 : decode cX5_songOfToken 59 = .ok (.if_icmp .lt 6, 3) := by decide +kernel
theorem dX5_songOfToken_62 : decode cX5_songOfToken 62 = .ok (.bipush (-2), 2) := by decide +kernel
theorem dX5_songOfToken_64 : decode cX5_songOfToken 64 = .ok (.ireturn, 1) := by decide +kernel
theorem dX5_songOfToken_65 : decode cX5_songOfToken 65 = .ok (.iload_n 2, 1) := by decide +kernel
theorem dX5_songOfToken_66 : decode cX5_songOfToken 66 = .ok (.iconst 2, 1) := by decide +kernel
theorem dX5_songOfToken_67 : decode cX5_songOfToken 67 = .ok (.ishl, 1) := by decide +kernel
theorem dX5_songOfToken_68 : decode cX5_songOfToken 68 = .ok (.iload 4, 2) := by decide +kernel
theorem dX5_songOfToken_70 : decode cX5_songOfToken 70 = .ok (.ior, 1) := by decide +kernel
theorem dX5_songOfToken_71 : decode cX5_songOfToken 71 = .ok (.istore_n 2, 1) := by decide +kernel
theorem dX5_songOfToken_72 : decode cX5_songOfToken 72 = .ok (.iinc 3 1, 3) := by decide +kernel
theorem dX5_songOfToken_75 : decode cX5_songOfToken 75 = .ok (.goto (-44), 3) := by decide +kernel
theorem dX5_songOfToken_78 : decode cX5_songOfToken 78 = .ok (.iload_n 2, 1) := by decide +kernel
theorem dX5_songOfToken_79 : decode cX5_songOfToken 79 = .ok (.ireturn, 1) := by decide +kernel
theorem dX5_kindOfToken_0 : decode cX5_kindOfToken 0 = .ok (.aload_n 0, 1) := by decide +kernel
theorem dX5_kindOfToken_1 : decode cX5_kindOfToken 1 = .ok (.ldc 255, 2) := by decide +kernel
theorem dX5_kindOfToken_3 : decode cX5_kindOfToken 3 = .ok (.invokevirtual 245, 3) := by decide +kernel
theorem dX5_kindOfToken_6 : decode cX5_kindOfToken 6 = .ok (.ifCond .eq 5, 3) := by decide +kernel
theorem dX5_kindOfToken_9 : decode cX5_kindOfToken 9 = .ok (.iconst 0, 1) := by decide +kernel
theorem dX5_kindOfToken_10 : decode cX5_kindOfToken 10 = .ok (.ireturn, 1) := by decide +kernel
theorem dX5_kindOfToken_11 : decode cX5_kindOfToken 11 = .ok (.aload_n 0, 1) := by decide +kernel
theorem dX5_kindOfToken_12 : decode cX5_kindOfToken 12 = .ok (.ldc_w 257, 3) := by decide +kernel
theorem dX5_kindOfToken_15 : decode cX5_kindOfToken 15 = .ok (.invokevirtual 245, 3) := by decide +kernel
theorem dX5_kindOfToken_18 : decode cX5_kindOfToken 18 = .ok (.ifCond .eq 5, 3) := by decide +kernel
theorem dX5_kindOfToken_21 : decode cX5_kindOfToken 21 = .ok (.iconst 1, 1) := by decide +kernel
theorem dX5_kindOfToken_22 : decode cX5_kindOfToken 22 = .ok (.ireturn, 1) := by decide +kernel
theorem dX5_kindOfToken_23 : decode cX5_kindOfToken 23 = .ok (.aload_n 0, 1) := by decide +kernel
theorem dX5_kindOfToken_24 : decode cX5_kindOfToken 24 = .ok (.ldc_w 259, 3) := by decide +kernel
theorem dX5_kindOfToken_27 : decode cX5_kindOfToken 27 = .ok (.invokevirtual 245, 3) := by decide +kernel
theorem dX5_kindOfToken_30 : decode cX5_kindOfToken 30 = .ok (.ifCond .eq 5, 3) := by decide +kernel
theorem dX5_kindOfToken_33 : decode cX5_kindOfToken 33 = .ok (.iconst 2, 1) := by decide +kernel
theorem dX5_kindOfToken_34 : decode cX5_kindOfToken 34 = .ok (.ireturn, 1) := by decide +kernel
theorem dX5_kindOfToken_35 : decode cX5_kindOfToken 35 = .ok (.aload_n 0, 1) := by decide +kernel
theorem dX5_kindOfToken_36 : decode cX5_kindOfToken 36 = .ok (.ldc_w 261, 3) := by decide +kernel
theorem dX5_kindOfToken_39 : decode cX5_kindOfToken 39 = .ok (.invokevirtual 245, 3) := by decide +kernel
theorem dX5_kindOfToken_42 : decode cX5_kindOfToken 42 = .ok (.ifCond .eq 7, 3) := by decide +kernel
theorem dX5_kindOfToken_45 : decode cX5_kindOfToken 45 = .ok (.iconst 3, 1) := by decide +kernel
theorem dX5_kindOfToken_46 : decode cX5_kindOfToken 46 = .ok (.goto 5, 3) := by decide +kernel
theorem dX5_kindOfToken_49 : decode cX5_kindOfToken 49 = .ok (.bipush (-2), 2) := by decide +kernel
theorem dX5_kindOfToken_51 : decode cX5_kindOfToken 51 = .ok (.ireturn, 1) := by decide +kernel
theorem dX5_sortOfLine_0 : decode cX5_sortOfLine 0 = .ok (.aload_n 0, 1) := by decide +kernel
theorem dX5_sortOfLine_1 : decode cX5_sortOfLine 1 = .ok (.ldc_w 263, 3) := by decide +kernel
theorem dX5_sortOfLine_4 : decode cX5_sortOfLine 4 = .ok (.invokevirtual 245, 3) := by decide +kernel
theorem dX5_sortOfLine_7 : decode cX5_sortOfLine 7 = .ok (.ifCond .eq 5, 3) := by decide +kernel
theorem dX5_sortOfLine_10 : decode cX5_sortOfLine 10 = .ok (.iconst 0, 1) := by decide +kernel
theorem dX5_sortOfLine_11 : decode cX5_sortOfLine 11 = .ok (.ireturn, 1) := by decide +kernel
theorem dX5_sortOfLine_12 : decode cX5_sortOfLine 12 = .ok (.aload_n 0, 1) := by decide +kernel
theorem dX5_sortOfLine_13 : decode cX5_sortOfLine 13 = .ok (.ldc_w 264, 3) := by decide +kernel
theorem dX5_sortOfLine_16 : decode cX5_sortOfLine 16 = .ok (.invokevirtual 245, 3) := by decide +kernel
theorem dX5_sortOfLine_19 : decode cX5_sortOfLine 19 = .ok (.ifCond .eq 5, 3) := by decide +kernel
theorem dX5_sortOfLine_22 : decode cX5_sortOfLine 22 = .ok (.iconst 1, 1) := by decide +kernel
theorem dX5_sortOfLine_23 : decode cX5_sortOfLine 23 = .ok (.ireturn, 1) := by decide +kernel
theorem dX5_sortOfLine_24 : decode cX5_sortOfLine 24 = .ok (.aload_n 0, 1) := by decide +kernel
theorem dX5_sortOfLine_25 : decode cX5_sortOfLine 25 = .ok (.ldc_w 265, 3) := by decide +kernel
theorem dX5_sortOfLine_28 : decode cX5_sortOfLine 28 = .ok (.invokevirtual 245, 3) := by decide +kernel
theorem dX5_sortOfLine_31 : decode cX5_sortOfLine 31 = .ok (.ifCond .eq 5, 3) := by decide +kernel
theorem dX5_sortOfLine_34 : decode cX5_sortOfLine 34 = .ok (.iconst 2, 1) := by decide +kernel
theorem dX5_sortOfLine_35 : decode cX5_sortOfLine 35 = .ok (.ireturn, 1) := by decide +kernel
theorem dX5_sortOfLine_36 : decode cX5_sortOfLine 36 = .ok (.aload_n 0, 1) := by decide +kernel
theorem dX5_sortOfLine_37 : decode cX5_sortOfLine 37 = .ok (.ldc_w 266, 3) := by decide +kernel
theorem dX5_sortOfLine_40 : decode cX5_sortOfLine 40 = .ok (.invokevirtual 245, 3) := by decide +kernel
theorem dX5_sortOfLine_43 : decode cX5_sortOfLine 43 = .ok (.ifCond .eq 5, 3) := by decide +kernel
theorem dX5_sortOfLine_46 : decode cX5_sortOfLine 46 = .ok (.iconst 3, 1) := by decide +kernel
theorem dX5_sortOfLine_47 : decode cX5_sortOfLine 47 = .ok (.ireturn, 1) := by decide +kernel
theorem dX5_sortOfLine_48 : decode cX5_sortOfLine 48 = .ok (.aload_n 0, 1) := by decide +kernel
theorem dX5_sortOfLine_49 : decode cX5_sortOfLine 49 = .ok (.ldc_w 267, 3) := by decide +kernel
theorem dX5_sortOfLine_52 : decode cX5_sortOfLine 52 = .ok (.invokevirtual 245, 3) := by decide +kernel
theorem dX5_sortOfLine_55 : decode cX5_sortOfLine 55 = .ok (.ifCond .eq 5, 3) := by decide +kernel
theorem dX5_sortOfLine_58 : decode cX5_sortOfLine 58 = .ok (.iconst 4, 1) := by decide +kernel
theorem dX5_sortOfLine_59 : decode cX5_sortOfLine 59 = .ok (.ireturn, 1) := by decide +kernel
theorem dX5_sortOfLine_60 : decode cX5_sortOfLine 60 = .ok (.aload_n 0, 1) := by decide +kernel
theorem dX5_sortOfLine_61 : decode cX5_sortOfLine 61 = .ok (.ldc_w 268, 3) := by decide +kernel
theorem dX5_sortOfLine_64 : decode cX5_sortOfLine 64 = .ok (.invokevirtual 245, 3) := by decide +kernel
theorem dX5_sortOfLine_67 : decode cX5_sortOfLine 67 = .ok (.ifCond .eq 7, 3) := by decide +kernel
theorem dX5_sortOfLine_70 : decode cX5_sortOfLine 70 = .ok (.iconst 5, 1) := by decide +kernel
theorem dX5_sortOfLine_71 : decode cX5_sortOfLine 71 = .ok (.goto 5, 3) := by decide +kernel
theorem dX5_sortOfLine_74 : decode cX5_sortOfLine 74 = .ok (.bipush (-2), 2) := by decide +kernel
theorem dX5_sortOfLine_76 : decode cX5_sortOfLine 76 = .ok (.ireturn, 1) := by decide +kernel
theorem dX5_isToken_0 : decode cX5_isToken 0 = .ok (.aload_n 0, 1) := by decide +kernel
theorem dX5_isToken_1 : decode cX5_isToken 1 = .ok (.getfield 18, 3) := by decide +kernel
theorem dX5_isToken_4 : decode cX5_isToken 4 = .ok (.iconst 1, 1) := by decide +kernel
theorem dX5_isToken_5 : decode cX5_isToken 5 = .ok (.if_icmp .ne 19, 3) := by decide +kernel
theorem dX5_isToken_8 : decode cX5_isToken 8 = .ok (.aload_n 0, 1) := by decide +kernel
theorem dX5_isToken_9 : decode cX5_isToken 9 = .ok (.getfield 15, 3) := by decide +kernel
theorem dX5_isToken_12 : decode cX5_isToken 12 = .ok (.aload_n 0, 1) := by decide +kernel
theorem dX5_isToken_13 : decode cX5_isToken 13 = .ok (.getfield 21, 3) := by decide +kernel
theorem dX5_isToken_16 : decode cX5_isToken 16 = .ok (.isub, 1) := by decide +kernel
theorem dX5_isToken_17 : decode cX5_isToken 17 = .ok (.aload_n 1, 1) := by decide +kernel
theorem dX5_isToken_18 : decode cX5_isToken 18 = .ok (.invokevirtual 269, 3) := by decide +kernel
theorem dX5_isToken_21 : decode cX5_isToken 21 = .ok (.if_icmp .eq 5, 3) := by decide +kernel
theorem dX5_isToken_24 : decode cX5_isToken 24 = .ok (.iconst 0, 1) := by decide +kernel
theorem dX5_isToken_25 : decode cX5_isToken 25 = .ok (.ireturn, 1) := by decide +kernel
theorem dX5_isToken_26 : decode cX5_isToken 26 = .ok (.iconst 0, 1) := by decide +kernel
theorem dX5_isToken_27 : decode cX5_isToken 27 = .ok (.istore_n 2, 1) := by decide +kernel
theorem dX5_isToken_28 : decode cX5_isToken 28 = .ok (.iload_n 2, 1) := by decide +kernel
theorem dX5_isToken_29 : decode cX5_isToken 29 = .ok (.aload_n 1, 1) := by decide +kernel
theorem dX5_isToken_30 : decode cX5_isToken 30 = .ok (.invokevirtual 269, 3) := by decide +kernel
theorem dX5_isToken_33 : decode cX5_isToken 33 = .ok (.if_icmp .ge 30, 3) := by decide +kernel
theorem dX5_isToken_36 : decode cX5_isToken 36 = .ok (.aload_n 0, 1) := by decide +kernel
theorem dX5_isToken_37 : decode cX5_isToken 37 = .ok (.getfield 47, 3) := by decide +kernel
theorem dX5_isToken_40 : decode cX5_isToken 40 = .ok (.aload_n 0, 1) := by decide +kernel
theorem dX5_isToken_41 : decode cX5_isToken 41 = .ok (.getfield 21, 3) := by decide +kernel
theorem dX5_isToken_44 : decode cX5_isToken 44 = .ok (.iload_n 2, 1) := by decide +kernel
theorem dX5_isToken_45 : decode cX5_isToken 45 = .ok (.iadd, 1) := by decide +kernel
theorem dX5_isToken_46 : decode cX5_isToken 46 = .ok (.baload, 1) := by decide +kernel
theorem dX5_isToken_47 : decode cX5_isToken 47 = .ok (.aload_n 1, 1) := by decide +kernel
theorem dX5_isToken_48 : decode cX5_isToken 48 = .ok (.iload_n 2, 1) := by decide +kernel
theorem dX5_isToken_49 : decode cX5_isToken 49 = .ok (.invokevirtual 274, 3) := by decide +kernel
theorem dX5_isToken_52 : decode cX5_isToken 52 = .ok (.if_icmp .eq 5, 3) := by decide +kernel
theorem dX5_isToken_55 : decode cX5_isToken 55 = .ok (.iconst 0, 1) := by decide +kernel
theorem dX5_isToken_56 : decode cX5_isToken 56 = .ok (.ireturn, 1) := by decide +kernel
theorem dX5_isToken_57 : decode cX5_isToken 57 = .ok (.iinc 2 1, 3) := by decide +kernel
theorem dX5_isToken_60 : decode cX5_isToken 60 = .ok (.goto (-32), 3) := by decide +kernel
theorem dX5_isToken_63 : decode cX5_isToken 63 = .ok (.iconst 1, 1) := by decide +kernel
theorem dX5_isToken_64 : decode cX5_isToken 64 = .ok (.ireturn, 1) := by decide +kernel
theorem dX5_nextToken_0 : decode cX5_nextToken 0 = .ok (.aload_n 0, 1) := by decide +kernel
theorem dX5_nextToken_1 : decode cX5_nextToken 1 = .ok (.getfield 15, 3) := by decide +kernel
theorem dX5_nextToken_4 : decode cX5_nextToken 4 = .ok (.aload_n 0, 1) := by decide +kernel
theorem dX5_nextToken_5 : decode cX5_nextToken 5 = .ok (.getfield 9, 3) := by decide +kernel
theorem dX5_nextToken_8 : decode cX5_nextToken 8 = .ok (.if_icmp .ge 30, 3) := by decide +kernel
theorem dX5_nextToken_11 : decode cX5_nextToken 11 = .ok (.aload_n 0, 1) := by decide +kernel
theorem dX5_nextToken_12 : decode cX5_nextToken 12 = .ok (.getfield 47, 3) := by decide +kernel
theorem dX5_nextToken_15 : decode cX5_nextToken 15 = .ok (.aload_n 0, 1) := by decide +kernel
theorem dX5_nextToken_16 : decode cX5_nextToken 16 = .ok (.getfield 15, 3) := by decide +kernel
theorem dX5_nextToken_19 : decode cX5_nextToken 19 = .ok (.baload, 1) := by decide +kernel
theorem dX5_nextToken_20 : decode cX5_nextToken 20 = .ok (.bipush 32, 2) := by decide +kernel
theorem dX5_nextToken_22 : decode cX5_nextToken 22 = .ok (.if_icmp .ne 16, 3) := by decide +kernel
theorem dX5_nextToken_25 : decode cX5_nextToken 25 = .ok (.aload_n 0, 1) := by decide +kernel
theorem dX5_nextToken_26 : decode cX5_nextToken 26 = .ok (.dup, 1) := by decide +kernel
theorem dX5_nextToken_27 : decode cX5_nextToken 27 = .ok (.getfield 15, 3) := by decide +kernel
theorem dX5_nextToken_30 : decode cX5_nextToken 30 = .ok (.iconst 1, 1) := by decide +kernel
theorem dX5_nextToken_31 : decode cX5_nextToken 31 = .ok (.iadd, 1) := by decide +kernel
theorem dX5_nextToken_32 : decode cX5_nextToken 32 = .ok (.putfield 15, 3) := by decide +kernel
theorem dX5_nextToken_35 : decode cX5_nextToken 35 = .ok (.goto (-35), 3) := by decide +kernel
theorem dX5_nextToken_38 : decode cX5_nextToken 38 = .ok (.aload_n 0, 1) := by decide +kernel
theorem dX5_nextToken_39 : decode cX5_nextToken 39 = .ok (.aload_n 0, 1) := by decide +kernel
theorem dX5_nextToken_40 : decode cX5_nextToken 40 = .ok (.getfield 15, 3) := by decide +kernel
theorem dX5_nextToken_43 : decode cX5_nextToken 43 = .ok (.putfield 21, 3) := by decide +kernel
theorem dX5_nextToken_46 : decode cX5_nextToken 46 = .ok (.aload_n 0, 1) := by decide +kernel
theorem dX5_nextToken_47 : decode cX5_nextToken 47 = .ok (.getfield 15, 3) := by decide +kernel
theorem dX5_nextToken_50 : decode cX5_nextToken 50 = .ok (.aload_n 0, 1) := by decide +kernel
theorem dX5_nextToken_51 : decode cX5_nextToken 51 = .ok (.getfield 9, 3) := by decide +kernel
theorem dX5_nextToken_54 : decode cX5_nextToken 54 = .ok (.if_icmp .lt 11, 3) := by decide +kernel
theorem dX5_nextToken_57 : decode cX5_nextToken 57 = .ok (.aload_n 0, 1) := by decide +kernel
theorem dX5_nextToken_58 : decode cX5_nextToken 58 = .ok (.iconst 0, 1) := by decide +kernel
theorem dX5_nextToken_59 : decode cX5_nextToken 59 = .ok (.putfield 18, 3) := by decide +kernel
theorem dX5_nextToken_62 : decode cX5_nextToken 62 = .ok (.goto 113, 3) := by decide +kernel
theorem dX5_nextToken_65 : decode cX5_nextToken 65 = .ok (.aload_n 0, 1) := by decide +kernel
theorem dX5_nextToken_66 : decode cX5_nextToken 66 = .ok (.getfield 47, 3) := by decide +kernel
theorem dX5_nextToken_69 : decode cX5_nextToken 69 = .ok (.aload_n 0, 1) := by decide +kernel
theorem dX5_nextToken_70 : decode cX5_nextToken 70 = .ok (.getfield 15, 3) := by decide +kernel
theorem dX5_nextToken_73 : decode cX5_nextToken 73 = .ok (.baload, 1) := by decide +kernel
theorem dX5_nextToken_74 : decode cX5_nextToken 74 = .ok (.bipush 59, 2) := by decide +kernel
theorem dX5_nextToken_76 : decode cX5_nextToken 76 = .ok (.if_icmp .ne 21, 3) := by decide +kernel
theorem dX5_nextToken_79 : decode cX5_nextToken 79 = .ok (.aload_n 0, 1) := by decide +kernel
theorem dX5_nextToken_80 : decode cX5_nextToken 80 = .ok (.dup, 1) := by decide +kernel
theorem dX5_nextToken_81 : decode cX5_nextToken 81 = .ok (.getfield 15, 3) := by decide +kernel
theorem dX5_nextToken_84 : decode cX5_nextToken 84 = .ok (.iconst 1, 1) := by decide +kernel
theorem dX5_nextToken_85 : decode cX5_nextToken 85 = .ok (.iadd, 1) := by decide +kernel
theorem dX5_nextToken_86 : decode cX5_nextToken 86 = .ok (.putfield 15, 3) := by decide +kernel
theorem dX5_nextToken_89 : decode cX5_nextToken 89 = .ok (.aload_n 0, 1) := by decide +kernel
theorem dX5_nextToken_90 : decode cX5_nextToken 90 = .ok (.iconst 3, 1) := by decide +kernel
theorem dX5_nextToken_91 : decode cX5_nextToken 91 = .ok (.putfield 18, 3) := by decide +kernel
theorem dX5_nextToken_94 : decode cX5_nextToken 94 = .ok (.goto 81, 3) := by decide +kernel
theorem dX5_nextToken_97 : decode cX5_nextToken 97 = .ok (.aload_n 0, 1) := by decide +kernel
theorem dX5_nextToken_98 : decode cX5_nextToken 98 = .ok (.bipush 97, 2) := by decide +kernel
theorem dX5_nextToken_100 : decode cX5_nextToken 100 = .ok (.bipush 122, 2) := by decide +kernel
theorem dX5_nextToken_102 : decode cX5_nextToken 102 = .ok (.invokevirtual 278, 3) := by decide +kernel
theorem dX5_nextToken_105 : decode cX5_nextToken 105 = .ok (.ifCond .eq 29, 3) := by decide +kernel
theorem dX5_nextToken_108 : decode cX5_nextToken 108 = .ok (.aload_n 0, 1) := by decide +kernel
theorem dX5_nextToken_109 : decode cX5_nextToken 109 = .ok (.aload_n 0, 1) := by decide +kernel
theorem dX5_nextToken_110 : decode cX5_nextToken 110 = .ok (.getfield 15, 3) := by decide +kernel
theorem dX5_nextToken_113 : decode cX5_nextToken 113 = .ok (.aload_n 0, 1) := by decide +kernel
theorem dX5_nextToken_114 : decode cX5_nextToken 114 = .ok (.getfield 21, 3) := by decide +kernel
theorem dX5_nextToken_117 : decode cX5_nextToken 117 = .ok (.isub, 1) := by decide +kernel
theorem dX5_nextToken_118 : decode cX5_nextToken 118 = .ok (.bipush 8, 2) := by decide +kernel
theorem dX5_nextToken_120 : decode cX5_nextToken 120 = .ok (.if_icmp .gt 7, 3) := by decide +kernel
theorem dX5_nextToken_123 : decode cX5_nextToken 123 = .ok (.iconst 1, 1) := by decide +kernel
theorem dX5_nextToken_124 : decode cX5_nextToken 124 = .ok (.goto 4, 3) := by decide +kernel
theorem dX5_nextToken_127 : decode cX5_nextToken 127 = .ok (.iconst 4, 1) := by decide +kernel
theorem dX5_nextToken_128 : decode cX5_nextToken 128 = .ok (.putfield 18, 3) := by decide +kernel
theorem dX5_nextToken_131 : decode cX5_nextToken 131 = .ok (.goto 44, 3) := by decide +kernel
theorem dX5_nextToken_134 : decode cX5_nextToken 134 = .ok (.aload_n 0, 1) := by decide +kernel
theorem dX5_nextToken_135 : decode cX5_nextToken 135 = .ok (.bipush 48, 2) := by decide +kernel
theorem dX5_nextToken_137 : decode cX5_nextToken 137 = .ok (.bipush 57, 2) := by decide +kernel
theorem dX5_nextToken_139 : decode cX5_nextToken 139 = .ok (.invokevirtual 278, 3) := by decide +kernel
theorem dX5_nextToken_142 : decode cX5_nextToken 142 = .ok (.ifCond .eq 28, 3) := by decide +kernel
theorem dX5_nextToken_145 : decode cX5_nextToken 145 = .ok (.aload_n 0, 1) := by decide +kernel
theorem dX5_nextToken_146 : decode cX5_nextToken 146 = .ok (.aload_n 0, 1) := by decide +kernel
theorem dX5_nextToken_147 : decode cX5_nextToken 147 = .ok (.getfield 15, 3) := by decide +kernel
theorem dX5_nextToken_150 : decode cX5_nextToken 150 = .ok (.aload_n 0, 1) := by decide +kernel
theorem dX5_nextToken_151 : decode cX5_nextToken 151 = .ok (.getfield 21, 3) := by decide +kernel
theorem dX5_nextToken_154 : decode cX5_nextToken 154 = .ok (.isub, 1) := by decide +kernel
theorem dX5_nextToken_155 : decode cX5_nextToken 155 = .ok (.iconst 4, 1) := by decide +kernel
theorem dX5_nextToken_156 : decode cX5_nextToken 156 = .ok (.if_icmp .gt 7, 3) := by decide +kernel
theorem dX5_nextToken_159 : decode cX5_nextToken 159 = .ok (.iconst 2, 1) := by decide +kernel
theorem dX5_nextToken_160 : decode cX5_nextToken 160 = .ok (.goto 4, 3) := by decide +kernel
theorem dX5_nextToken_163 : decode cX5_nextToken 163 = .ok (.iconst 4, 1) := by decide +kernel
theorem dX5_nextToken_164 : decode cX5_nextToken 164 = .ok (.putfield 18, 3) := by decide +kernel
theorem dX5_nextToken_167 : decode cX5_nextToken 167 = .ok (.goto 8, 3) := by decide +kernel
theorem dX5_nextToken_170 : decode cX5_nextToken 170 = .ok (.aload_n 0, 1) := by decide +kernel
theorem dX5_nextToken_171 : decode cX5_nextToken 171 = .ok (.iconst 4, 1) := by decide +kernel
theorem dX5_nextToken_172 : decode cX5_nextToken 172 = .ok (.putfield 18, 3) := by decide +kernel
theorem dX5_nextToken_175 : decode cX5_nextToken 175 = .ok (.return_, 1) := by decide +kernel
theorem dX5_passAll_0 : decode cX5_passAll 0 = .ok (.aload_n 0, 1) := by decide +kernel
theorem dX5_passAll_1 : decode cX5_passAll 1 = .ok (.getfield 15, 3) := by decide +kernel
theorem dX5_passAll_4 : decode cX5_passAll 4 = .ok (.aload_n 0, 1) := by decide +kernel
theorem dX5_passAll_5 : decode cX5_passAll 5 = .ok (.getfield 9, 3) := by decide +kernel
theorem dX5_passAll_8 : decode cX5_passAll 8 = .ok (.if_icmp .ge 42, 3) := by decide +kernel
theorem dX5_passAll_11 : decode cX5_passAll 11 = .ok (.aload_n 0, 1) := by decide +kernel
theorem dX5_passAll_12 : decode cX5_passAll 12 = .ok (.getfield 47, 3) := by decide +kernel
theorem dX5_passAll_15 : decode cX5_passAll 15 = .ok (.aload_n 0, 1) := by decide +kernel
theorem dX5_passAll_16 : decode cX5_passAll 16 = .ok (.getfield 15, 3) := by decide +kernel
theorem dX5_passAll_19 : decode cX5_passAll 19 = .ok (.baload, 1) := by decide +kernel
theorem dX5_passAll_20 : decode cX5_passAll 20 = .ok (.iload_n 1, 1) := by decide +kernel
theorem dX5_passAll_21 : decode cX5_passAll 21 = .ok (.if_icmp .lt 29, 3) := by decide +kernel
theorem dX5_passAll_24 : decode cX5_passAll 24 = .ok (.aload_n 0, 1) := by decide +kernel
theorem dX5_passAll_25 : decode cX5_passAll 25 = .ok (.getfield 47, 3) := by decide +kernel
theorem dX5_passAll_28 : decode cX5_passAll 28 = .ok (.aload_n 0, 1) := by decide +kernel
theorem dX5_passAll_29 : decode cX5_passAll 29 = .ok (.getfield 15, 3) := by decide +kernel
theorem dX5_passAll_32 : decode cX5_passAll 32 = .ok (.baload, 1) := by decide +kernel
theorem dX5_passAll_33 : decode cX5_passAll 33 = .ok (.iload_n 2, 1) := by decide +kernel
theorem dX5_passAll_34 : decode cX5_passAll 34 = .ok (.if_icmp .gt 16, 3) := by decide +kernel
theorem dX5_passAll_37 : decode cX5_passAll 37 = .ok (.aload_n 0, 1) := by decide +kernel
theorem dX5_passAll_38 : decode cX5_passAll 38 = .ok (.dup, 1) := by decide +kernel
theorem dX5_passAll_39 : decode cX5_passAll 39 = .ok (.getfield 15, 3) := by decide +kernel
theorem dX5_passAll_42 : decode cX5_passAll 42 = .ok (.iconst 1, 1) := by decide +kernel
theorem dX5_passAll_43 : decode cX5_passAll 43 = .ok (.iadd, 1) := by decide +kernel
theorem dX5_passAll_44 : decode cX5_passAll 44 = .ok (.putfield 15, 3) := by decide +kernel
theorem dX5_passAll_47 : decode cX5_passAll 47 = .ok (.goto (-47), 3) := by decide +kernel
theorem dX5_passAll_50 : decode cX5_passAll 50 = .ok (.aload_n 0, 1) := by decide +kernel
theorem dX5_passAll_51 : decode cX5_passAll 51 = .ok (.getfield 15, 3) := by decide +kernel
theorem dX5_passAll_54 : decode cX5_passAll 54 = .ok (.aload_n 0, 1) := by decide +kernel
theorem dX5_passAll_55 : decode cX5_passAll 55 = .ok (.getfield 21, 3) := by decide +kernel
theorem dX5_passAll_58 : decode cX5_passAll 58 = .ok (.if_icmp .le 7, 3) := by decide +kernel
theorem dX5_passAll_61 : decode cX5_passAll 61 = .ok (.iconst 1, 1) := by decide +kernel
theorem dX5_passAll_62 : decode cX5_passAll 62 = .ok (.goto 4, 3) := by decide +kernel
theorem dX5_passAll_65 : decode cX5_passAll 65 = .ok (.iconst 0, 1) := by decide +kernel
theorem dX5_passAll_66 : decode cX5_passAll 66 = .ok (.ireturn, 1) := by decide +kernel
theorem dX6_init_0 : decode cX6_init 0 = .ok (.aload_n 0, 1) := by decide +kernel
theorem dX6_init_1 : decode cX6_init 1 = .ok (.invokespecial 3, 3) := by decide +kernel
theorem dX6_init_4 : decode cX6_init 4 = .ok (.aload_n 0, 1) := by decide +kernel
theorem dX6_init_5 : decode cX6_init 5 = .ok (.bipush 7, 2) := by decide +kernel
theorem dX6_init_7 : decode cX6_init 7 = .ok (.newarray .int, 2) := by decide +kernel
theorem dX6_init_9 : decode cX6_init 9 = .ok (.putfield 9, 3) := by decide +kernel
theorem dX6_init_12 : decode cX6_init 12 = .ok (.aload_n 0, 1) := by decide +kernel
theorem dX6_init_13 : decode cX6_init 13 = .ok (.bipush (-2), 2) := by decide +kernel
theorem dX6_init_15 : decode cX6_init 15 = .ok (.putfield 15, 3) := by decide +kernel
theorem dX6_init_18 : decode cX6_init 18 = .ok (.aload_n 0, 1) := by decide +kernel
theorem dX6_init_19 : decode cX6_init 19 = .ok (.iconst 0, 1) := by decide +kernel
theorem dX6_init_20 : decode cX6_init 20 = .ok (.putfield 19, 3) := by decide +kernel
theorem dX6_init_23 : decode cX6_init 23 = .ok (.aload_n 0, 1) := by decide +kernel
theorem dX6_init_24 : decode cX6_init 24 = .ok (.iconst 0, 1) := by decide +kernel
theorem dX6_init_25 : decode cX6_init 25 = .ok (.putfield 22, 3) := by decide +kernel
theorem dX6_init_28 : decode cX6_init 28 = .ok (.aload_n 0, 1) := by decide +kernel
theorem dX6_init_29 : decode cX6_init 29 = .ok (.aload_n 1, 1) := by decide +kernel
theorem dX6_init_30 : decode cX6_init 30 = .ok (.putfield 25, 3) := by decide +kernel
theorem dX6_init_33 : decode cX6_init 33 = .ok (.aload_n 0, 1) := by decide +kernel
theorem dX6_init_34 : decode cX6_init 34 = .ok (.aload_n 2, 1) := by decide +kernel
theorem dX6_init_35 : decode cX6_init 35 = .ok (.putfield 29, 3) := by decide +kernel
theorem dX6_init_38 : decode cX6_init 38 = .ok (.aload_n 0, 1) := by decide +kernel
theorem dX6_init_39 : decode cX6_init 39 = .ok (.aload_n 3, 1) := by decide +kernel
theorem dX6_init_40 : decode cX6_init 40 = .ok (.putfield 33, 3) := by decide +kernel
theorem dX6_init_43 : decode cX6_init 43 = .ok (.return_, 1) := by decide +kernel
theorem dX6_dayOfLeaving_0 : decode cX6_dayOfLeaving 0 = .ok (.iload_n 1, 1) := by decide +kernel
theorem dX6_dayOfLeaving_1 : decode cX6_dayOfLeaving 1 = .ok (.iconst 3, 1) := by decide +kernel
theorem dX6_dayOfLeaving_2 : decode cX6_dayOfLeaving 2 = .ok (.if_icmp .ne 5, 3) := by decide +kernel
theorem dX6_dayOfLeaving_5 : decode cX6_dayOfLeaving 5 = .ok (.iload_n 3, 1) := by decide +kernel
theorem dX6_dayOfLeaving_6 : decode cX6_dayOfLeaving 6 = .ok (.ireturn, 1) := by decide +kernel
theorem dX6_dayOfLeaving_7 : decode cX6_dayOfLeaving 7 = .ok (.iload_n 3, 1) := by decide +kernel
theorem dX6_dayOfLeaving_8 : decode cX6_dayOfLeaving 8 = .ok (.bipush 90, 2) := by decide +kernel
theorem dX6_dayOfLeaving_10 : decode cX6_dayOfLeaving 10 = .ok (.idiv, 1) := by decide +kernel
theorem dX6_dayOfLeaving_11 : decode cX6_dayOfLeaving 11 = .ok (.istore 4, 2) := by decide +kernel
theorem dX6_dayOfLeaving_13 : decode cX6_dayOfLeaving 13 = .ok (.iconst 0, 1) := by decide +kernel
theorem dX6_dayOfLeaving_14 : decode cX6_dayOfLeaving 14 = .ok (.istore 5, 2) := by decide +kernel
theorem dX6_dayOfLeaving_16 : decode cX6_dayOfLeaving 16 = .ok (.iload 5, 2) := by decide +kernel
theorem dX6_dayOfLeaving_18 : decode cX6_dayOfLeaving 18 = .ok (.iconst 4, 1) := by decide +kernel
theorem dX6_dayOfLeaving_19 : decode cX6_dayOfLeaving 19 = .ok (.if_icmp .ge 41, 3) := by decide +kernel
theorem dX6_dayOfLeaving_22 : decode cX6_dayOfLeaving 22 = .ok (.iload_n 2, 1) := by decide +kernel
theorem dX6_dayOfLeaving_23 : decode cX6_dayOfLeaving 23 = .ok (.iload 4, 2) := by decide +kernel
theorem dX6_dayOfLeaving_25 : decode cX6_dayOfLeaving 25 = .ok (.iload 5, 2) := by decide +kernel
theorem dX6_dayOfLeaving_27 : decode cX6_dayOfLeaving 27 = .ok (.iadd, 1) := by decide +kernel
theorem dX6_dayOfLeaving_28 : decode cX6_dayOfLeaving 28 = .ok (.iconst 4, 1) := by decide +kernel
theorem dX6_dayOfLeaving_29 : decode cX6_dayOfLeaving 29 = .ok (.irem, 1) := by decide +kernel
theorem dX6_dayOfLeaving_30 : decode cX6_dayOfLeaving 30 = .ok (.ishr, 1) := by decide +kernel
theorem dX6_dayOfLeaving_31 : decode cX6_dayOfLeaving 31 = .ok (.iconst 1, 1) := by decide +kernel
theorem dX6_dayOfLeaving_32 : decode cX6_dayOfLeaving 32 = .ok (.iand, 1) := by decide +kernel
theorem dX6_dayOfLeaving_33 : decode cX6_dayOfLeaving 33 = .ok (.ifCond .eq 21, 3) := by decide +kernel
theorem dX6_dayOfLeaving_36 : decode cX6_dayOfLeaving 36 = .ok (.iload 5, 2) := by decide +kernel
theorem dX6_dayOfLeaving_38 : decode cX6_dayOfLeaving 38 = .ok (.ifCond .ne 7, 3) := by decide +kernel
theorem dX6_dayOfLeaving_41 : decode cX6_dayOfLeaving 41 = .ok (.iload_n 3, 1) := by decide +kernel
theorem dX6_dayOfLeaving_42 : decode cX6_dayOfLeaving 42 = .ok (.goto 11, 3) := by decide +kernel
theorem dX6_dayOfLeaving_45 : decode cX6_dayOfLeaving 45 = .ok (.iload 4, 2) := by decide +kernel
theorem dX6_dayOfLeaving_47 : decode cX6_dayOfLeaving 47 = .ok (.iload 5, 2) := by decide +kernel
theorem dX6_dayOfLeaving_49 : decode cX6_dayOfLeaving 49 = .ok (.iadd, 1) := by decide +kernel
theorem dX6_dayOfLeaving_50 : decode cX6_dayOfLeaving 50 = .ok (.bipush 90, 2) := by decide +kernel
theorem dX6_dayOfLeaving_52 : decode cX6_dayOfLeaving 52 = .ok (.imul, 1) := by decide +kernel
theorem dX6_dayOfLeaving_53 : decode cX6_dayOfLeaving 53 = .ok (.ireturn, 1) := by decide +kernel
theorem dX6_dayOfLeaving_54 : decode cX6_dayOfLeaving 54 = .ok (.iinc 5 1, 3) := by decide +kernel
theorem dX6_dayOfLeaving_57 : decode cX6_dayOfLeaving 57 = .ok (.goto (-41), 3) := by decide +kernel
theorem dX6_dayOfLeaving_60 : decode cX6_dayOfLeaving 60 = .ok (.iload_n 3, 1) := by decide +kernel
theorem dX6_dayOfLeaving_61 : decode cX6_dayOfLeaving 61 = .ok (.ireturn, 1) := by decide +kernel
theorem dX6_findFirstDays_0 : decode cX6_findFirstDays 0 = .ok (.aload_n 0, 1) := by decide +kernel
theorem dX6_findFirstDays_1 : decode cX6_findFirstDays 1 = .ok (.getfield 9, 3) := by decide +kernel
theorem dX6_findFirstDays_4 : decode cX6_findFirstDays 4 = .ok (.ldc 37, 2) := by decide +kernel
theorem dX6_findFirstDays_6 : decode cX6_findFirstDays 6 = .ok (.invokestatic 38, 3) := by decide +kernel
theorem dX6_findFirstDays_9 : decode cX6_findFirstDays 9 = .ok (.aload_n 0, 1) := by decide +kernel
theorem dX6_findFirstDays_10 : decode cX6_findFirstDays 10 = .ok (.getfield 9, 3) := by decide +kernel
theorem dX6_findFirstDays_13 : decode cX6_findFirstDays 13 = .ok (.iload_n 2, 1) := by decide +kernel
theorem dX6_findFirstDays_14 : decode cX6_findFirstDays 14 = .ok (.iload_n 3, 1) := by decide +kernel
theorem dX6_findFirstDays_15 : decode cX6_findFirstDays 15 = .ok (.iastore, 1) := by decide +kernel
theorem dX6_findFirstDays_16 : decode cX6_findFirstDays 16 = .ok (.iload_n 1, 1) := by decide +kernel
theorem dX6_findFirstDays_17 : decode cX6_findFirstDays 17 = .ok (.ifCond .ne 7, 3) := by decide +kernel
theorem dX6_findFirstDays_20 : decode cX6_findFirstDays 20 = .ok (.iconst 1, 1) := by decide +kernel
theorem dX6_findFirstDays_21 : decode cX6_findFirstDays 21 = .ok (.goto 10, 3) := by decide +kernel
theorem dX6_findFirstDays_24 : decode cX6_findFirstDays 24 = .ok (.aload_n 0, 1) := by decide +kernel
theorem dX6_findFirstDays_25 : decode cX6_findFirstDays 25 = .ok (.getfield 25, 3) := by decide +kernel
theorem dX6_findFirstDays_28 : decode cX6_findFirstDays 28 = .ok (.getfield 44, 3) := by decide +kernel
theorem dX6_findFirstDays_31 : decode cX6_findFirstDays 31 = .ok (.istore 4, 2) := by decide +kernel
theorem dX6_findFirstDays_33 : decode cX6_findFirstDays 33 = .ok (.iconst 1, 1) := by decide +kernel
theorem dX6_findFirstDays_34 : decode cX6_findFirstDays 34 = .ok (.istore 5, 2) := by decide +kernel
theorem dX6_findFirstDays_36 : decode cX6_findFirstDays 36 = .ok (.iconst 0, 1) := by decide +kernel
theorem dX6_findFirstDays_37 : decode cX6_findFirstDays 37 = .ok (.istore 6, 2) := by decide +kernel
theorem dX6_findFirstDays_39 : decode cX6_findFirstDays 39 = .ok (.iload 6, 2) := by decide +kernel
theorem dX6_findFirstDays_41 : decode cX6_findFirstDays 41 = .ok (.iload 4, 2) := by decide +kernel
theorem dX6_findFirstDays_43 : decode cX6_findFirstDays 43 = .ok (.if_icmp .ge 148, 3) := by decide +kernel
theorem dX6_findFirstDays_46 : decode cX6_findFirstDays 46 = .ok (.iload 5, 2) := by decide +kernel
theorem dX6_findFirstDays_48 : decode cX6_findFirstDays 48 = .ok (.ifCond .eq 143, 3) := by decide +kernel
theorem dX6_findFirstDays_51 : decode cX6_findFirstDays 51 = .ok (.iconst 0, 1) := by decide +kernel
theorem dX6_findFirstDays_52 : decode cX6_findFirstDays 52 = .ok (.istore 5, 2) := by decide +kernel
theorem dX6_findFirstDays_54 : decode cX6_findFirstDays 54 = .ok (.iconst 0, 1) := by decide +kernel
theorem dX6_findFirstDays_55 : decode cX6_findFirstDays 55 = .ok (.istore 7, 2) := by decide +kernel
theorem dX6_findFirstDays_57 : decode cX6_findFirstDays 57 = .ok (.iload 7, 2) := by decide +kernel
theorem dX6_findFirstDays_59 : decode cX6_findFirstDays 59 = .ok (.aload_n 0, 1) := by decide +kernel
theorem dX6_findFirstDays_60 : decode cX6_findFirstDays 60 = .ok (.getfield 25, 3) := by decide +kernel
theorem dX6_findFirstDays_63 : decode cX6_findFirstDays 63 = .ok (.getfield 49, 3) := by decide +kernel
theorem dX6_findFirstDays_66 : decode cX6_findFirstDays 66 = .ok (.if_icmp .ge 119, 3) := by decide +kernel
theorem dX6_findFirstDays_69 : decode cX6_findFirstDays 69 = .ok (.aload_n 0, 1) := by decide +kernel
theorem dX6_findFirstDays_70 : decode cX6_findFirstDays 70 = .ok (.getfield 25, 3) := by decide +kernel
theorem dX6_findFirstDays_73 : decode cX6_findFirstDays 73 = .ok (.getfield 52, 3) := by decide +kernel
theorem dX6_findFirstDays_76 : decode cX6_findFirstDays 76 = .ok (.iload 7, 2) := by decide +kernel
theorem dX6_findFirstDays_78 : decode cX6_findFirstDays 78 = .ok (.aaload, 1) := by decide +kernel
theorem dX6_findFirstDays_79 : decode cX6_findFirstDays 79 = .ok (.astore 8, 2) := by decide +kernel
theorem dX6_findFirstDays_81 : decode cX6_findFirstDays 81 = .ok (.iload_n 1, 1) := by decide +kernel
theorem dX6_findFirstDays_82 : decode cX6_findFirstDays 82 = .ok (.ifCond .ne 25, 3) := by decide +kernel
theorem dX6_findFirstDays_85 : decode cX6_findFirstDays 85 = .ok (.aload 8, 2) := by decide +kernel
theorem dX6_findFirstDays_87 : decode cX6_findFirstDays 87 = .ok (.getfield 56, 3) := by decide +kernel
theorem dX6_findFirstDays_90 : decode cX6_findFirstDays 90 = .ok (.iload_n 2, 1) := by decide +kernel
theorem dX6_findFirstDays_91 : decode cX6_findFirstDays 91 = .ok (.if_icmp .eq 16, 3) := by decide +kernel
theorem dX6_findFirstDays_94 : decode cX6_findFirstDays 94 = .ok (.aload 8, 2) := by decide +kernel
theorem dX6_findFirstDays_96 : decode cX6_findFirstDays 96 = .ok (.getfield 61, 3) := by decide +kernel
theorem dX6_findFirstDays_99 : decode cX6_findFirstDays 99 = .ok (.iload_n 2, 1) := by decide +kernel
theorem dX6_findFirstDays_100 : decode cX6_findFirstDays 100 = .ok (.if_icmp .eq 7, 3) := by decide +kernel
theorem dX6_findFirstDays_103 : decode cX6_findFirstDays 103 = .ok (.iconst 1, 1) := by decide +kernel
theorem dX6_findFirstDays_104 : decode cX6_findFirstDays 104 = .ok (.goto 4, 3) := by decide +kernel
theorem dX6_findFirstDays_107 : decode cX6_findFirstDays 107 = .ok (.iconst 0, 1) := by decide +kernel
theorem dX6_findFirstDays_108 : decode cX6_findFirstDays 108 = .ok (.istore 9, 2) := by decide +kernel
theorem dX6_findFirstDays_110 : decode cX6_findFirstDays 110 = .ok (.iload 9, 2) := by decide +kernel
theorem dX6_findFirstDays_112 : decode cX6_findFirstDays 112 = .ok (.ifCond .ne 67, 3) := by decide +kernel
theorem dX6_findFirstDays_115 : decode cX6_findFirstDays 115 = .ok (.aload_n 0, 1) := by decide +kernel
theorem dX6_findFirstDays_116 : decode cX6_findFirstDays 116 = .ok (.getfield 29, 3) := by decide +kernel
theorem dX6_findFirstDays_119 : decode cX6_findFirstDays 119 = .ok (.iload 7, 2) := by decide +kernel
theorem dX6_findFirstDays_121 : decode cX6_findFirstDays 121 = .ok (.invokevirtual 64, 3) := by decide +kernel
theorem dX6_findFirstDays_124 : decode cX6_findFirstDays 124 = .ok (.ifCond .ne 55, 3) := by decide +kernel
theorem dX6_findFirstDays_127 : decode cX6_findFirstDays 127 = .ok (.aload_n 0, 1) := by decide +kernel
theorem dX6_findFirstDays_128 : decode cX6_findFirstDays 128 = .ok (.iload_n 1, 1) := by decide +kernel
theorem dX6_findFirstDays_129 : decode cX6_findFirstDays 129 = .ok (.aload 8, 2) := by decide +kernel
theorem dX6_findFirstDays_131 : decode cX6_findFirstDays 131 = .ok (.aload 8, 2) := by decide +kernel
theorem dX6_findFirstDays_133 : decode cX6_findFirstDays 133 = .ok (.getfield 56, 3) := by decide +kernel
theorem dX6_findFirstDays_136 : decode cX6_findFirstDays 136 = .ok (.aload 8, 2) := by decide +kernel
theorem dX6_findFirstDays_138 : decode cX6_findFirstDays 138 = .ok (.getfield 61, 3) := by decide +kernel
theorem dX6_findFirstDays_141 : decode cX6_findFirstDays 141 = .ok (.invokevirtual 70, 3) := by decide +kernel
theorem dX6_findFirstDays_144 : decode cX6_findFirstDays 144 = .ok (.ifCond .ne 28, 3) := by decide +kernel
theorem dX6_findFirstDays_147 : decode cX6_findFirstDays 147 = .ok (.aload_n 0, 1) := by decide +kernel
theorem dX6_findFirstDays_148 : decode cX6_findFirstDays 148 = .ok (.iload_n 1, 1) := by decide +kernel
theorem dX6_findFirstDays_149 : decode cX6_findFirstDays 149 = .ok (.aload 8, 2) := by decide +kernel
theorem dX6_findFirstDays_151 : decode cX6_findFirstDays 151 = .ok (.aload 8, 2) := by decide +kernel
theorem dX6_findFirstDays_153 : decode cX6_findFirstDays 153 = .ok (.getfield 61, 3) := by decide +kernel
theorem dX6_findFirstDays_156 : decode cX6_findFirstDays 156 = .ok (.aload 8, 2) := by decide +kernel
theorem dX6_findFirstDays_158 : decode cX6_findFirstDays 158 = .ok (.getfield 56, 3) := by decide +kernel
theorem dX6_findFirstDays_161 : decode cX6_findFirstDays 161 = .ok (.invokevirtual 70, 3) := by decide +kernel
theorem dX6_findFirstDays_164 : decode cX6_findFirstDays 164 = .ok (.ifCond .ne 8, 3) := by decide +kernel
theorem dX6_findFirstDays_167 : decode cX6_findFirstDays 167 = .ok (.iload 5, 2) := by decide +kernel
theorem dX6_findFirstDays_169 : decode cX6_findFirstDays 169 = .ok (.ifCond .eq 7, 3) := by decide +kernel
theorem dX6_findFirstDays_172 : decode cX6_findFirstDays 172 = .ok (.iconst 1, 1) := by decide +kernel
theorem dX6_findFirstDays_173 : decode cX6_findFirstDays 173 = .ok (.goto 4, 3) := by decide +kernel
theorem dX6_findFirstDays_176 : decode cX6_findFirstDays 176 = .ok (.iconst 0, 1) := by decide +kernel
theorem dX6_findFirstDays_177 : decode cX6_findFirstDays 177 = .ok (.istore 5, 2) := by decide +kernel
theorem dX6_findFirstDays_179 : decode cX6_findFirstDays 179 = .ok (.iinc 7 1, 3) := by decide +kernel
theorem dX6_findFirstDays_182 : decode cX6_findFirstDays 182 = .ok (.goto (-125), 3) := by decide +kernel
theorem dX6_findFirstDays_185 : decode cX6_findFirstDays 185 = .ok (.iinc 6 1, 3) := by decide +kernel
theorem dX6_findFirstDays_188 : decode cX6_findFirstDays 188 = .ok (.goto (-149), 3) := by decide +kernel
theorem dX6_findFirstDays_191 : decode cX6_findFirstDays 191 = .ok (.return_, 1) := by decide +kernel
theorem dX6_goes_0 : decode cX6_goes 0 = .ok (.aload_n 0, 1) := by decide +kernel
theorem dX6_goes_1 : decode cX6_goes 1 = .ok (.getfield 9, 3) := by decide +kernel
theorem dX6_goes_4 : decode cX6_goes 4 = .ok (.iload_n 3, 1) := by decide +kernel
theorem dX6_goes_5 : decode cX6_goes 5 = .ok (.iaload, 1) := by decide +kernel
theorem dX6_goes_6 : decode cX6_goes 6 = .ok (.ldc 37, 2) := by decide +kernel
theorem dX6_goes_8 : decode cX6_goes 8 = .ok (.if_icmp .ne 5, 3) := by decide +kernel
theorem dX6_goes_11 : decode cX6_goes 11 = .ok (.iconst 0, 1) := by decide +kernel
theorem dX6_goes_12 : decode cX6_goes 12 = .ok (.ireturn, 1) := by decide +kernel
theorem dX6_goes_13 : decode cX6_goes 13 = .ok (.iload_n 1, 1) := by decide +kernel
theorem dX6_goes_14 : decode cX6_goes 14 = .ok (.iconst 2, 1) := by decide +kernel
theorem dX6_goes_15 : decode cX6_goes 15 = .ok (.if_icmp .ne 12, 3) := by decide +kernel
theorem dX6_goes_18 : decode cX6_goes 18 = .ok (.iconst 2, 1) := by decide +kernel
theorem dX6_goes_19 : decode cX6_goes 19 = .ok (.aload_n 2, 1) := by decide +kernel
theorem dX6_goes_20 : decode cX6_goes 20 = .ok (.getfield 74, 3) := by decide +kernel
theorem dX6_goes_23 : decode cX6_goes 23 = .ok (.imul, 1) := by decide +kernel
theorem dX6_goes_24 : decode cX6_goes 24 = .ok (.goto 7, 3) := by decide +kernel
theorem dX6_goes_27 : decode cX6_goes 27 = .ok (.aload_n 2, 1) := by decide +kernel
theorem dX6_goes_28 : decode cX6_goes 28 = .ok (.getfield 74, 3) := by decide +kernel
theorem dX6_goes_31 : decode cX6_goes 31 = .ok (.istore 5, 2) := by decide +kernel
theorem dX6_goes_33 : decode cX6_goes 33 = .ok (.aload_n 0, 1) := by decide +kernel
theorem dX6_goes_34 : decode cX6_goes 34 = .ok (.iload_n 1, 1) := by decide +kernel
theorem dX6_goes_35 : decode cX6_goes 35 = .ok (.aload_n 2, 1) := by decide +kernel
theorem dX6_goes_36 : decode cX6_goes 36 = .ok (.getfield 77, 3) := by decide +kernel
theorem dX6_goes_39 : decode cX6_goes 39 = .ok (.aload_n 0, 1) := by decide +kernel
theorem dX6_goes_40 : decode cX6_goes 40 = .ok (.getfield 9, 3) := by decide +kernel
theorem dX6_goes_43 : decode cX6_goes 43 = .ok (.iload_n 3, 1) := by decide +kernel
theorem dX6_goes_44 : decode cX6_goes 44 = .ok (.iaload, 1) := by decide +kernel
theorem dX6_goes_45 : decode cX6_goes 45 = .ok (.invokevirtual 80, 3) := by decide +kernel
theorem dX6_goes_48 : decode cX6_goes 48 = .ok (.iload 5, 2) := by decide +kernel
theorem dX6_goes_50 : decode cX6_goes 50 = .ok (.iadd, 1) := by decide +kernel
theorem dX6_goes_51 : decode cX6_goes 51 = .ok (.istore 6, 2) := by decide +kernel
theorem dX6_goes_53 : decode cX6_goes 53 = .ok (.iload 6, 2) := by decide +kernel
theorem dX6_goes_55 : decode cX6_goes 55 = .ok (.aload_n 0, 1) := by decide +kernel
theorem dX6_goes_56 : decode cX6_goes 56 = .ok (.getfield 9, 3) := by decide +kernel
theorem dX6_goes_59 : decode cX6_goes 59 = .ok (.iload 4, 2) := by decide +kernel
theorem dX6_goes_61 : decode cX6_goes 61 = .ok (.iaload, 1) := by decide +kernel
theorem dX6_goes_62 : decode cX6_goes 62 = .ok (.if_icmp .lt 5, 3) := by decide +kernel
theorem dX6_goes_65 : decode cX6_goes 65 = .ok (.iconst 0, 1) := by decide +kernel
theorem dX6_goes_66 : decode cX6_goes 66 = .ok (.ireturn, 1) := by decide +kernel
theorem dX6_goes_67 : decode cX6_goes 67 = .ok (.aload_n 0, 1) := by decide +kernel
theorem dX6_goes_68 : decode cX6_goes 68 = .ok (.getfield 9, 3) := by decide +kernel
theorem dX6_goes_71 : decode cX6_goes 71 = .ok (.iload 4, 2) := by decide +kernel
theorem dX6_goes_73 : decode cX6_goes 73 = .ok (.iload 6, 2) := by decide +kernel
theorem dX6_goes_75 : decode cX6_goes 75 = .ok (.iastore, 1) := by decide +kernel
theorem dX6_goes_76 : decode cX6_goes 76 = .ok (.iconst 1, 1) := by decide +kernel
theorem dX6_goes_77 : decode cX6_goes 77 = .ok (.ireturn, 1) := by decide +kernel
theorem dX6_firstDayAt_0 : decode cX6_firstDayAt 0 = .ok (.aload_n 0, 1) := by decide +kernel
theorem dX6_firstDayAt_1 : decode cX6_firstDayAt 1 = .ok (.iload_n 1, 1) := by decide +kernel
theorem dX6_firstDayAt_2 : decode cX6_firstDayAt 2 = .ok (.iload_n 2, 1) := by decide +kernel
theorem dX6_firstDayAt_3 : decode cX6_firstDayAt 3 = .ok (.iload 4, 2) := by decide +kernel
theorem dX6_firstDayAt_5 : decode cX6_firstDayAt 5 = .ok (.invokevirtual 84, 3) := by decide +kernel
theorem dX6_firstDayAt_8 : decode cX6_firstDayAt 8 = .ok (.aload_n 0, 1) := by decide +kernel
theorem dX6_firstDayAt_9 : decode cX6_firstDayAt 9 = .ok (.getfield 9, 3) := by decide +kernel
theorem dX6_firstDayAt_12 : decode cX6_firstDayAt 12 = .ok (.iload_n 3, 1) := by decide +kernel
theorem dX6_firstDayAt_13 : decode cX6_firstDayAt 13 = .ok (.iaload, 1) := by decide +kernel
theorem dX6_firstDayAt_14 : decode cX6_firstDayAt 14 = .ok (.ldc 37, 2) := by decide +kernel
theorem dX6_firstDayAt_16 : decode cX6_firstDayAt 16 = .ok (.if_icmp .ne 8, 3) := by decide +kernel
theorem dX6_firstDayAt_19 : decode cX6_firstDayAt 19 = .ok (.bipush (-2), 2) := by decide +kernel
theorem dX6_firstDayAt_21 : decode cX6_firstDayAt 21 = .ok (.goto 9, 3) := by decide +kernel
theorem dX6_firstDayAt_24 : decode cX6_firstDayAt 24 = .ok (.aload_n 0, 1) := by decide +kernel
theorem dX6_firstDayAt_25 : decode cX6_firstDayAt 25 = .ok (.getfield 9, 3) := by decide +kernel
theorem dX6_firstDayAt_28 : decode cX6_firstDayAt 28 = .ok (.iload_n 3, 1) := by decide +kernel
theorem dX6_firstDayAt_29 : decode cX6_firstDayAt 29 = .ok (.iaload, 1) := by decide +kernel
theorem dX6_firstDayAt_30 : decode cX6_firstDayAt 30 = .ok (.ireturn, 1) := by decide +kernel
theorem dX6_dayOfBringing_0 : decode cX6_dayOfBringing 0 = .ok (.aload_n 0, 1) := by decide +kernel
theorem dX6_dayOfBringing_1 : decode cX6_dayOfBringing 1 = .ok (.getfield 25, 3) := by decide +kernel
theorem dX6_dayOfBringing_4 : decode cX6_dayOfBringing 4 = .ok (.getfield 88, 3) := by decide +kernel
theorem dX6_dayOfBringing_7 : decode cX6_dayOfBringing 7 = .ok (.iload_n 1, 1) := by decide +kernel
theorem dX6_dayOfBringing_8 : decode cX6_dayOfBringing 8 = .ok (.aaload, 1) := by decide +kernel
theorem dX6_dayOfBringing_9 : decode cX6_dayOfBringing 9 = .ok (.astore_n 3, 1) := by decide +kernel
theorem dX6_dayOfBringing_10 : decode cX6_dayOfBringing 10 = .ok (.aload_n 0, 1) := by decide +kernel
theorem dX6_dayOfBringing_11 : decode cX6_dayOfBringing 11 = .ok (.getfield 25, 3) := by decide +kernel
theorem dX6_dayOfBringing_14 : decode cX6_dayOfBringing 14 = .ok (.getfield 92, 3) := by decide +kernel
theorem dX6_dayOfBringing_17 : decode cX6_dayOfBringing 17 = .ok (.iload_n 2, 1) := by decide +kernel
theorem dX6_dayOfBringing_18 : decode cX6_dayOfBringing 18 = .ok (.aaload, 1) := by decide +kernel
theorem dX6_dayOfBringing_19 : decode cX6_dayOfBringing 19 = .ok (.astore 4, 2) := by decide +kernel
theorem dX6_dayOfBringing_21 : decode cX6_dayOfBringing 21 = .ok (.aload_n 0, 1) := by decide +kernel
theorem dX6_dayOfBringing_22 : decode cX6_dayOfBringing 22 = .ok (.getfield 29, 3) := by decide +kernel
theorem dX6_dayOfBringing_25 : decode cX6_dayOfBringing 25 = .ok (.iload_n 2, 1) := by decide +kernel
theorem dX6_dayOfBringing_26 : decode cX6_dayOfBringing 26 = .ok (.invokevirtual 96, 3) := by decide +kernel
theorem dX6_dayOfBringing_29 : decode cX6_dayOfBringing 29 = .ok (.ifCond .ne 19, 3) := by decide +kernel
theorem dX6_dayOfBringing_32 : decode cX6_dayOfBringing 32 = .ok (.aload 4, 2) := by decide +kernel
theorem dX6_dayOfBringing_34 : decode cX6_dayOfBringing 34 = .ok (.getfield 99, 3) := by decide +kernel
theorem dX6_dayOfBringing_37 : decode cX6_dayOfBringing 37 = .ok (.getstatic 104, 3) := by decide +kernel
theorem dX6_dayOfBringing_40 : decode cX6_dayOfBringing 40 = .ok (.aload_n 3, 1) := by decide +kernel
theorem dX6_dayOfBringing_41 : decode cX6_dayOfBringing 41 = .ok (.getfield 107, 3) := by decide +kernel
theorem dX6_dayOfBringing_44 : decode cX6_dayOfBringing 44 = .ok (.iaload, 1) := by decide +kernel
theorem dX6_dayOfBringing_45 : decode cX6_dayOfBringing 45 = .ok (.if_icmp .le 6, 3) := by decide +kernel
theorem dX6_dayOfBringing_48 : decode cX6_dayOfBringing 48 = .ok (.bipush (-2), 2) := by decide +kernel
theorem dX6_dayOfBringing_50 : decode cX6_dayOfBringing 50 = .ok (.ireturn, 1) := by decide +kernel
theorem dX6_dayOfBringing_51 : decode cX6_dayOfBringing 51 = .ok (.aload_n 0, 1) := by decide +kernel
theorem dX6_dayOfBringing_52 : decode cX6_dayOfBringing 52 = .ok (.aload_n 0, 1) := by decide +kernel
theorem dX6_dayOfBringing_53 : decode cX6_dayOfBringing 53 = .ok (.getfield 33, 3) := by decide +kernel
theorem dX6_dayOfBringing_56 : decode cX6_dayOfBringing 56 = .ok (.aload_n 0, 1) := by decide +kernel
theorem dX6_dayOfBringing_57 : decode cX6_dayOfBringing 57 = .ok (.getfield 29, 3) := by decide +kernel
theorem dX6_dayOfBringing_60 : decode cX6_dayOfBringing 60 = .ok (.getfield 112, 3) := by decide +kernel
theorem dX6_dayOfBringing_63 : decode cX6_dayOfBringing 63 = .ok (.iload_n 2, 1) := by decide +kernel
theorem dX6_dayOfBringing_64 : decode cX6_dayOfBringing 64 = .ok (.iaload, 1) := by decide +kernel
theorem dX6_dayOfBringing_65 : decode cX6_dayOfBringing 65 = .ok (.aload_n 0, 1) := by decide +kernel
theorem dX6_dayOfBringing_66 : decode cX6_dayOfBringing 66 = .ok (.getfield 25, 3) := by decide +kernel
theorem dX6_dayOfBringing_69 : decode cX6_dayOfBringing 69 = .ok (.iload_n 2, 1) := by decide +kernel
theorem dX6_dayOfBringing_70 : decode cX6_dayOfBringing 70 = .ok (.invokevirtual 115, 3) := by decide +kernel
theorem dX6_dayOfBringing_73 : decode cX6_dayOfBringing 73 = .ok (.aload_n 0, 1) := by decide +kernel
theorem dX6_dayOfBringing_74 : decode cX6_dayOfBringing 74 = .ok (.getfield 29, 3) := by decide +kernel
theorem dX6_dayOfBringing_77 : decode cX6_dayOfBringing 77 = .ok (.getfield 119, 3) := by decide +kernel
theorem dX6_dayOfBringing_80 : decode cX6_dayOfBringing 80 = .ok (.invokevirtual 122, 3) := by decide +kernel
theorem dX6_dayOfBringing_83 : decode cX6_dayOfBringing 83 = .ok (.putfield 15, 3) := by decide +kernel
theorem dX6_dayOfBringing_86 : decode cX6_dayOfBringing 86 = .ok (.aload_n 0, 1) := by decide +kernel
theorem dX6_dayOfBringing_87 : decode cX6_dayOfBringing 87 = .ok (.getfield 15, 3) := by decide +kernel
theorem dX6_dayOfBringing_90 : decode cX6_dayOfBringing 90 = .ok (.bipush (-2), 2) := by decide +kernel
theorem dX6_dayOfBringing_92 : decode cX6_dayOfBringing 92 = .ok (.if_icmp .ne 6, 3) := by decide +kernel
theorem dX6_dayOfBringing_95 : decode cX6_dayOfBringing 95 = .ok (.bipush (-2), 2) := by decide +kernel
theorem dX6_dayOfBringing_97 : decode cX6_dayOfBringing 97 = .ok (.ireturn, 1) := by decide +kernel
theorem dX6_dayOfBringing_98 : decode cX6_dayOfBringing 98 = .ok (.aload_n 0, 1) := by decide +kernel
theorem dX6_dayOfBringing_99 : decode cX6_dayOfBringing 99 = .ok (.aload_n 3, 1) := by decide +kernel
theorem dX6_dayOfBringing_100 : decode cX6_dayOfBringing 100 = .ok (.getfield 107, 3) := by decide +kernel
theorem dX6_dayOfBringing_103 : decode cX6_dayOfBringing 103 = .ok (.aload_n 0, 1) := by decide +kernel
theorem dX6_dayOfBringing_104 : decode cX6_dayOfBringing 104 = .ok (.getfield 29, 3) := by decide +kernel
theorem dX6_dayOfBringing_107 : decode cX6_dayOfBringing 107 = .ok (.getfield 127, 3) := by decide +kernel
theorem dX6_dayOfBringing_110 : decode cX6_dayOfBringing 110 = .ok (.iload_n 1, 1) := by decide +kernel
theorem dX6_dayOfBringing_111 : decode cX6_dayOfBringing 111 = .ok (.iaload, 1) := by decide +kernel
theorem dX6_dayOfBringing_112 : decode cX6_dayOfBringing 112 = .ok (.aload 4, 2) := by decide +kernel
theorem dX6_dayOfBringing_114 : decode cX6_dayOfBringing 114 = .ok (.getfield 130, 3) := by decide +kernel
theorem dX6_dayOfBringing_117 : decode cX6_dayOfBringing 117 = .ok (.aload_n 0, 1) := by decide +kernel
theorem dX6_dayOfBringing_118 : decode cX6_dayOfBringing 118 = .ok (.getfield 29, 3) := by decide +kernel
theorem dX6_dayOfBringing_121 : decode cX6_dayOfBringing 121 = .ok (.getfield 133, 3) := by decide +kernel
theorem dX6_dayOfBringing_124 : decode cX6_dayOfBringing 124 = .ok (.iload_n 1, 1) := by decide +kernel
theorem dX6_dayOfBringing_125 : decode cX6_dayOfBringing 125 = .ok (.iaload, 1) := by decide +kernel
theorem dX6_dayOfBringing_126 : decode cX6_dayOfBringing 126 = .ok (.invokevirtual 136, 3) := by decide +kernel
theorem dX6_dayOfBringing_129 : decode cX6_dayOfBringing 129 = .ok (.istore 5, 2) := by decide +kernel
theorem dX6_dayOfBringing_131 : decode cX6_dayOfBringing 131 = .ok (.iload 5, 2) := by decide +kernel
theorem dX6_dayOfBringing_133 : decode cX6_dayOfBringing 133 = .ok (.bipush (-2), 2) := by decide +kernel
theorem dX6_dayOfBringing_135 : decode cX6_dayOfBringing 135 = .ok (.if_icmp .ne 6, 3) := by decide +kernel
theorem dX6_dayOfBringing_138 : decode cX6_dayOfBringing 138 = .ok (.bipush (-2), 2) := by decide +kernel
theorem dX6_dayOfBringing_140 : decode cX6_dayOfBringing 140 = .ok (.ireturn, 1) := by decide +kernel
theorem dX6_dayOfBringing_141 : decode cX6_dayOfBringing 141 = .ok (.aload_n 0, 1) := by decide +kernel
theorem dX6_dayOfBringing_142 : decode cX6_dayOfBringing 142 = .ok (.iload 5, 2) := by decide +kernel
theorem dX6_dayOfBringing_144 : decode cX6_dayOfBringing 144 = .ok (.aload 4, 2) := by decide +kernel
theorem dX6_dayOfBringing_146 : decode cX6_dayOfBringing 146 = .ok (.getfield 140, 3) := by decide +kernel
theorem dX6_dayOfBringing_149 : decode cX6_dayOfBringing 149 = .ok (.invokestatic 143, 3) := by decide +kernel
theorem dX6_dayOfBringing_152 : decode cX6_dayOfBringing 152 = .ok (.putfield 19, 3) := by decide +kernel
theorem dX6_dayOfBringing_155 : decode cX6_dayOfBringing 155 = .ok (.aload_n 0, 1) := by decide +kernel
theorem dX6_dayOfBringing_156 : decode cX6_dayOfBringing 156 = .ok (.aload_n 0, 1) := by decide +kernel
theorem dX6_dayOfBringing_157 : decode cX6_dayOfBringing 157 = .ok (.aload_n 3, 1) := by decide +kernel
theorem dX6_dayOfBringing_158 : decode cX6_dayOfBringing 158 = .ok (.getfield 107, 3) := by decide +kernel
theorem dX6_dayOfBringing_161 : decode cX6_dayOfBringing 161 = .ok (.aload 4, 2) := by decide +kernel
theorem dX6_dayOfBringing_163 : decode cX6_dayOfBringing 163 = .ok (.getfield 130, 3) := by decide +kernel
theorem dX6_dayOfBringing_166 : decode cX6_dayOfBringing 166 = .ok (.aload_n 0, 1) := by decide +kernel
theorem dX6_dayOfBringing_167 : decode cX6_dayOfBringing 167 = .ok (.getfield 15, 3) := by decide +kernel
theorem dX6_dayOfBringing_170 : decode cX6_dayOfBringing 170 = .ok (.aload_n 0, 1) := by decide +kernel
theorem dX6_dayOfBringing_171 : decode cX6_dayOfBringing 171 = .ok (.getfield 19, 3) := by decide +kernel
theorem dX6_dayOfBringing_174 : decode cX6_dayOfBringing 174 = .ok (.invokevirtual 136, 3) := by decide +kernel
theorem dX6_dayOfBringing_177 : decode cX6_dayOfBringing 177 = .ok (.putfield 22, 3) := by decide +kernel
theorem dX6_dayOfBringing_180 : decode cX6_dayOfBringing 180 = .ok (.aload_n 0, 1) := by decide +kernel
theorem dX6_dayOfBringing_181 : decode cX6_dayOfBringing 181 = .ok (.getfield 22, 3) := by decide +kernel
theorem dX6_dayOfBringing_184 : decode cX6_dayOfBringing 184 = .ok (.bipush (-2), 2) := by decide +kernel
theorem dX6_dayOfBringing_186 : decode cX6_dayOfBringing 186 = .ok (.if_icmp .ne 8, 3) := by decide +kernel
theorem dX6_dayOfBringing_189 : decode cX6_dayOfBringing 189 = .ok (.bipush (-2), 2) := by decide +kernel
theorem dX6_dayOfBringing_191 : decode cX6_dayOfBringing 191 = .ok (.goto 12, 3) := by decide +kernel
theorem dX6_dayOfBringing_194 : decode cX6_dayOfBringing 194 = .ok (.aload_n 0, 1) := by decide +kernel
theorem dX6_dayOfBringing_195 : decode cX6_dayOfBringing 195 = .ok (.getfield 22, 3) := by decide +kernel
theorem dX6_dayOfBringing_198 : decode cX6_dayOfBringing 198 = .ok (.aload_n 3, 1) := by decide +kernel
theorem dX6_dayOfBringing_199 : decode cX6_dayOfBringing 199 = .ok (.getfield 149, 3) := by decide +kernel
theorem dX6_dayOfBringing_202 : decode cX6_dayOfBringing 202 = .ok (.iadd, 1) := by decide +kernel
theorem dX6_dayOfBringing_203 : decode cX6_dayOfBringing 203 = .ok (.ireturn, 1) := by decide +kernel
theorem dX6_soonestBringer_0 : decode cX6_soonestBringer 0 = .ok (.bipush (-2), 2) := by decide +kernel
theorem dX6_soonestBringer_2 : decode cX6_soonestBringer 2 = .ok (.istore_n 2, 1) := by decide +kernel
theorem dX6_soonestBringer_3 : decode cX6_soonestBringer 3 = .ok (.iconst 0, 1) := by decide +kernel
theorem dX6_soonestBringer_4 : decode cX6_soonestBringer 4 = .ok (.istore_n 3, 1) := by decide +kernel
theorem dX6_soonestBringer_5 : decode cX6_soonestBringer 5 = .ok (.iconst 0, 1) := by decide +kernel
theorem dX6_soonestBringer_6 : decode cX6_soonestBringer 6 = .ok (.istore 4, 2) := by decide +kernel
theorem dX6_soonestBringer_8 : decode cX6_soonestBringer 8 = .ok (.iload 4, 2) := by decide +kernel
theorem dX6_soonestBringer_10 : decode cX6_soonestBringer 10 = .ok (.aload_n 0, 1) := by decide +kernel
theorem dX6_soonestBringer_11 : decode cX6_soonestBringer 11 = .ok (.getfield 25, 3) := by decide +kernel
theorem dX6_soonestBringer_14 : decode cX6_soonestBringer 14 = .ok (.getfield 152, 3) := by decide +kernel
theorem dX6_soonestBringer_17 : decode cX6_soonestBringer 17 = .ok (.if_icmp .ge 43, 3) := by decide +kernel
theorem dX6_soonestBringer_20 : decode cX6_soonestBringer 20 = .ok (.aload_n 0, 1) := by decide +kernel
theorem dX6_soonestBringer_21 : decode cX6_soonestBringer 21 = .ok (.iload 4, 2) := by decide +kernel
theorem dX6_soonestBringer_23 : decode cX6_soonestBringer 23 = .ok (.iload_n 1, 1) := by decide +kernel
theorem dX6_soonestBringer_24 : decode cX6_soonestBringer 24 = .ok (.invokevirtual 155, 3) := by decide +kernel
theorem dX6_soonestBringer_27 : decode cX6_soonestBringer 27 = .ok (.istore 5, 2) := by decide +kernel
theorem dX6_soonestBringer_29 : decode cX6_soonestBringer 29 = .ok (.iload 5, 2) := by decide +kernel
theorem dX6_soonestBringer_31 : decode cX6_soonestBringer 31 = .ok (.bipush (-2), 2) := by decide +kernel
theorem dX6_soonestBringer_33 : decode cX6_soonestBringer 33 = .ok (.if_icmp .eq 21, 3) := by decide +kernel
theorem dX6_soonestBringer_36 : decode cX6_soonestBringer 36 = .ok (.iload_n 2, 1) := by decide +kernel
theorem dX6_soonestBringer_37 : decode cX6_soonestBringer 37 = .ok (.bipush (-2), 2) := by decide +kernel
theorem dX6_soonestBringer_39 : decode cX6_soonestBringer 39 = .ok (.if_icmp .eq 9, 3) := by decide +kernel
theorem dX6_soonestBringer_42 : decode cX6_soonestBringer 42 = .ok (.iload 5, 2) := by decide +kernel
theorem dX6_soonestBringer_44 : decode cX6_soonestBringer 44 = .ok (.iload_n 3, 1) := by decide +kernel
theorem dX6_soonestBringer_45 : decode cX6_soonestBringer 45 = .ok (.if_icmp .ge 9, 3) := by decide +kernel
theorem dX6_soonestBringer_48 : decode cX6_soonestBringer 48 = .ok (.iload 4, 2) := by decide +kernel
theorem dX6_soonestBringer_50 : decode cX6_soonestBringer 50 = .ok (.istore_n 2, 1) := by decide +kernel
theorem dX6_soonestBringer_51 : decode cX6_soonestBringer 51 = .ok (.iload 5, 2) := by decide +kernel
theorem dX6_soonestBringer_53 : decode cX6_soonestBringer 53 = .ok (.istore_n 3, 1) := by decide +kernel
theorem dX6_soonestBringer_54 : decode cX6_soonestBringer 54 = .ok (.iinc 4 1, 3) := by decide +kernel
theorem dX6_soonestBringer_57 : decode cX6_soonestBringer 57 = .ok (.goto (-49), 3) := by decide +kernel
theorem dX6_soonestBringer_60 : decode cX6_soonestBringer 60 = .ok (.iload_n 2, 1) := by decide +kernel
theorem dX6_soonestBringer_61 : decode cX6_soonestBringer 61 = .ok (.ireturn, 1) := by decide +kernel
theorem dX6_surestBringer_0 : decode cX6_surestBringer 0 = .ok (.bipush (-2), 2) := by decide +kernel
theorem dX6_surestBringer_2 : decode cX6_surestBringer 2 = .ok (.istore_n 3, 1) := by decide +kernel
theorem dX6_surestBringer_3 : decode cX6_surestBringer 3 = .ok (.iconst 0, 1) := by decide +kernel
theorem dX6_surestBringer_4 : decode cX6_surestBringer 4 = .ok (.istore 4, 2) := by decide +kernel
theorem dX6_surestBringer_6 : decode cX6_surestBringer 6 = .ok (.iload 4, 2) := by decide +kernel
theorem dX6_surestBringer_8 : decode cX6_surestBringer 8 = .ok (.aload_n 0, 1) := by decide +kernel
theorem dX6_surestBringer_9 : decode cX6_surestBringer 9 = .ok (.getfield 25, 3) := by decide +kernel
theorem dX6_surestBringer_12 : decode cX6_surestBringer 12 = .ok (.getfield 152, 3) := by decide +kernel
theorem dX6_surestBringer_15 : decode cX6_surestBringer 15 = .ok (.if_icmp .ge 76, 3) := by decide +kernel
theorem dX6_surestBringer_18 : decode cX6_surestBringer 18 = .ok (.iload_n 3, 1) := by decide +kernel
theorem dX6_surestBringer_19 : decode cX6_surestBringer 19 = .ok (.bipush (-2), 2) := by decide +kernel
theorem dX6_surestBringer_21 : decode cX6_surestBringer 21 = .ok (.if_icmp .eq 31, 3) := by decide +kernel
theorem dX6_surestBringer_24 : decode cX6_surestBringer 24 = .ok (.aload_n 0, 1) := by decide +kernel
theorem dX6_surestBringer_25 : decode cX6_surestBringer 25 = .ok (.getfield 25, 3) := by decide +kernel
theorem dX6_surestBringer_28 : decode cX6_surestBringer 28 = .ok (.getfield 88, 3) := by decide +kernel
theorem dX6_surestBringer_31 : decode cX6_surestBringer 31 = .ok (.iload 4, 2) := by decide +kernel
theorem dX6_surestBringer_33 : decode cX6_surestBringer 33 = .ok (.aaload, 1) := by decide +kernel
theorem dX6_surestBringer_34 : decode cX6_surestBringer 34 = .ok (.getfield 158, 3) := by decide +kernel
theorem dX6_surestBringer_37 : decode cX6_surestBringer 37 = .ok (.aload_n 0, 1) := by decide +kernel
theorem dX6_surestBringer_38 : decode cX6_surestBringer 38 = .ok (.getfield 25, 3) := by decide +kernel
theorem dX6_surestBringer_41 : decode cX6_surestBringer 41 = .ok (.getfield 88, 3) := by decide +kernel
theorem dX6_surestBringer_44 : decode cX6_surestBringer 44 = .ok (.iload_n 3, 1) := by decide +kernel
theorem dX6_surestBringer_45 : decode cX6_surestBringer 45 = .ok (.aaload, 1) := by decide +kernel
theorem dX6_surestBringer_46 : decode cX6_surestBringer 46 = .ok (.getfield 158, 3) := by decide +kernel
theorem dX6_surestBringer_49 : decode cX6_surestBringer 49 = .ok (.if_icmp .ge 7, 3) := by decide +kernel
theorem dX6_surestBringer_52 : decode cX6_surestBringer 52 = .ok (.iconst 1, 1) := by decide +kernel
theorem dX6_surestBringer_53 : decode cX6_surestBringer 53 = .ok (.goto 4, 3) := by decide +kernel
theorem dX6_surestBringer_56 : decode cX6_surestBringer 56 = .ok (.iconst 0, 1) := by decide +kernel
theorem dX6_surestBringer_57 : decode cX6_surestBringer 57 = .ok (.istore 5, 2) := by decide +kernel
theorem dX6_surestBringer_59 : decode cX6_surestBringer 59 = .ok (.iload 4, 2) := by decide +kernel
theorem dX6_surestBringer_61 : decode cX6_surestBringer 61 = .ok (.iload_n 2, 1) := by decide +kernel
theorem dX6_surestBringer_62 : decode cX6_surestBringer 62 = .ok (.if_icmp .eq 23, 3) := by decide +kernel
theorem dX6_surestBringer_65 : decode cX6_surestBringer 65 = .ok (.iload 5, 2) := by decide +kernel
theorem dX6_surestBringer_67 : decode cX6_surestBringer 67 = .ok (.ifCond .eq 18, 3) := by decide +kernel
theorem dX6_surestBringer_70 : decode cX6_surestBringer 70 = .ok (.aload_n 0, 1) := by decide +kernel
theorem dX6_surestBringer_71 : decode cX6_surestBringer 71 = .ok (.iload 4, 2) := by decide +kernel
theorem dX6_surestBringer_73 : decode cX6_surestBringer 73 = .ok (.iload_n 1, 1) := by decide +kernel
theorem dX6_surestBringer_74 : decode cX6_surestBringer 74 = .ok (.invokevirtual 155, 3) := by decide +kernel
theorem dX6_surestBringer_77 : decode cX6_surestBringer 77 = .ok (.bipush (-2), 2) := by decide +kernel
theorem dX6_surestBringer_79 : decode cX6_surestBringer 79 = .ok (.if_icmp .eq 6, 3) := by decide +kernel
theorem dX6_surestBringer_82 : decode cX6_surestBringer 82 = .ok (.iload 4, 2) := by decide +kernel
theorem dX6_surestBringer_84 : decode cX6_surestBringer 84 = .ok (.istore_n 3, 1) := by decide +kernel
theorem dX6_surestBringer_85 : decode cX6_surestBringer 85 = .ok (.iinc 4 1, 3) := by decide +kernel
theorem dX6_surestBringer_88 : decode cX6_surestBringer 88 = .ok (.goto (-82), 3) := by decide +kernel
theorem dX6_surestBringer_91 : decode cX6_surestBringer 91 = .ok (.iload_n 3, 1) := by decide +kernel
theorem dX6_surestBringer_92 : decode cX6_surestBringer 92 = .ok (.ireturn, 1) := by decide +kernel
theorem dX6_bringersBy_0 : decode cX6_bringersBy 0 = .ok (.iconst 0, 1) := by decide +kernel
theorem dX6_bringersBy_1 : decode cX6_bringersBy 1 = .ok (.istore_n 3, 1) := by decide +kernel
theorem dX6_bringersBy_2 : decode cX6_bringersBy 2 = .ok (.iconst 0, 1) := by decide +kernel
theorem dX6_bringersBy_3 : decode cX6_bringersBy 3 = .ok (.istore 4, 2) := by decide +kernel
theorem dX6_bringersBy_5 : decode cX6_bringersBy 5 = .ok (.iload 4, 2) := by decide +kernel
theorem dX6_bringersBy_7 : decode cX6_bringersBy 7 = .ok (.aload_n 0, 1) := by decide +kernel
theorem dX6_bringersBy_8 : decode cX6_bringersBy 8 = .ok (.getfield 25, 3) := by decide +kernel
theorem dX6_bringersBy_11 : decode cX6_bringersBy 11 = .ok (.getfield 152, 3) := by decide +kernel
theorem dX6_bringersBy_14 : decode cX6_bringersBy 14 = .ok (.if_icmp .ge 38, 3) := by decide +kernel
theorem dX6_bringersBy_17 : decode cX6_bringersBy 17 = .ok (.aload_n 0, 1) := by decide +kernel
theorem dX6_bringersBy_18 : decode cX6_bringersBy 18 = .ok (.iload 4, 2) := by decide +kernel
theorem dX6_bringersBy_20 : decode cX6_bringersBy 20 = .ok (.iload_n 1, 1) := by decide +kernel
theorem dX6_bringersBy_21 : decode cX6_bringersBy 21 = .ok (.invokevirtual 155, 3) := by decide +kernel
theorem dX6_bringersBy_24 : decode cX6_bringersBy 24 = .ok (.istore 5, 2) := by decide +kernel
theorem dX6_bringersBy_26 : decode cX6_bringersBy 26 = .ok (.iload 5, 2) := by decide +kernel
theorem dX6_bringersBy_28 : decode cX6_bringersBy 28 = .ok (.bipush (-2), 2) := by decide +kernel
theorem dX6_bringersBy_30 : decode cX6_bringersBy 30 = .ok (.if_icmp .eq 16, 3) := by decide +kernel
theorem dX6_bringersBy_33 : decode cX6_bringersBy 33 = .ok (.iload 5, 2) := by decide +kernel
theorem dX6_bringersBy_35 : decode cX6_bringersBy 35 = .ok (.iload_n 2, 1) := by decide +kernel
theorem dX6_bringersBy_36 : decode cX6_bringersBy 36 = .ok (.if_icmp .gt 10, 3) := by decide +kernel
theorem dX6_bringersBy_39 : decode cX6_bringersBy 39 = .ok (.iload_n 3, 1) := by decide +kernel
theorem dX6_bringersBy_40 : decode cX6_bringersBy 40 = .ok (.iconst 1, 1) := by decide +kernel
theorem dX6_bringersBy_41 : decode cX6_bringersBy 41 = .ok (.iload 4, 2) := by decide +kernel
theorem dX6_bringersBy_43 : decode cX6_bringersBy 43 = .ok (.ishl, 1) := by decide +kernel
theorem dX6_bringersBy_44 : decode cX6_bringersBy 44 = .ok (.ior, 1) := by decide +kernel
theorem dX6_bringersBy_45 : decode cX6_bringersBy 45 = .ok (.istore_n 3, 1) := by decide +kernel
theorem dX6_bringersBy_46 : decode cX6_bringersBy 46 = .ok (.iinc 4 1, 3) := by decide +kernel
theorem dX6_bringersBy_49 : decode cX6_bringersBy 49 = .ok (.goto (-44), 3) := by decide +kernel
theorem dX6_bringersBy_52 : decode cX6_bringersBy 52 = .ok (.iload_n 3, 1) := by decide +kernel
theorem dX6_bringersBy_53 : decode cX6_bringersBy 53 = .ok (.ireturn, 1) := by decide +kernel
theorem dX6_dayOfMeeting_0 : decode cX6_dayOfMeeting 0 = .ok (.aload_n 0, 1) := by decide +kernel
theorem dX6_dayOfMeeting_1 : decode cX6_dayOfMeeting 1 = .ok (.iload_n 2, 1) := by decide +kernel
theorem dX6_dayOfMeeting_2 : decode cX6_dayOfMeeting 2 = .ok (.iload_n 1, 1) := by decide +kernel
theorem dX6_dayOfMeeting_3 : decode cX6_dayOfMeeting 3 = .ok (.invokevirtual 155, 3) := by decide +kernel
theorem dX6_dayOfMeeting_6 : decode cX6_dayOfMeeting 6 = .ok (.bipush (-2), 2) := by decide +kernel
theorem dX6_dayOfMeeting_8 : decode cX6_dayOfMeeting 8 = .ok (.if_icmp .eq 22, 3) := by decide +kernel
theorem dX6_dayOfMeeting_11 : decode cX6_dayOfMeeting 11 = .ok (.aload_n 0, 1) := by decide +kernel
theorem dX6_dayOfMeeting_12 : decode cX6_dayOfMeeting 12 = .ok (.getfield 15, 3) := by decide +kernel
theorem dX6_dayOfMeeting_15 : decode cX6_dayOfMeeting 15 = .ok (.aload_n 0, 1) := by decide +kernel
theorem dX6_dayOfMeeting_16 : decode cX6_dayOfMeeting 16 = .ok (.getfield 25, 3) := by decide +kernel
theorem dX6_dayOfMeeting_19 : decode cX6_dayOfMeeting 19 = .ok (.getfield 92, 3) := by decide +kernel
theorem dX6_dayOfMeeting_22 : decode cX6_dayOfMeeting 22 = .ok (.iload_n 3, 1) := by decide +kernel
theorem dX6_dayOfMeeting_23 : decode cX6_dayOfMeeting 23 = .ok (.aaload, 1) := by decide +kernel
theorem dX6_dayOfMeeting_24 : decode cX6_dayOfMeeting 24 = .ok (.getfield 130, 3) := by decide +kernel
theorem dX6_dayOfMeeting_27 : decode cX6_dayOfMeeting 27 = .ok (.if_icmp .eq 6, 3) := by decide +kernel
theorem dX6_dayOfMeeting_30 : decode cX6_dayOfMeeting 30 = .ok (.bipush (-2), 2) := by decide +kernel
theorem dX6_dayOfMeeting_32 : decode cX6_dayOfMeeting 32 = .ok (.ireturn, 1) := by decide +kernel
theorem dX6_dayOfMeeting_33 : decode cX6_dayOfMeeting 33 = .ok (.aload_n 0, 1) := by decide +kernel
theorem dX6_dayOfMeeting_34 : decode cX6_dayOfMeeting 34 = .ok (.getfield 19, 3) := by decide +kernel
theorem dX6_dayOfMeeting_37 : decode cX6_dayOfMeeting 37 = .ok (.istore 5, 2) := by decide +kernel
theorem dX6_dayOfMeeting_39 : decode cX6_dayOfMeeting 39 = .ok (.aload_n 0, 1) := by decide +kernel
theorem dX6_dayOfMeeting_40 : decode cX6_dayOfMeeting 40 = .ok (.getfield 22, 3) := by decide +kernel
theorem dX6_dayOfMeeting_43 : decode cX6_dayOfMeeting 43 = .ok (.istore 6, 2) := by decide +kernel
theorem dX6_dayOfMeeting_45 : decode cX6_dayOfMeeting 45 = .ok (.aload_n 0, 1) := by decide +kernel
theorem dX6_dayOfMeeting_46 : decode cX6_dayOfMeeting 46 = .ok (.iload 4, 2) := by decide +kernel
theorem dX6_dayOfMeeting_48 : decode cX6_dayOfMeeting 48 = .ok (.iload_n 3, 1) := by decide +kernel
theorem dX6_dayOfMeeting_49 : decode cX6_dayOfMeeting 49 = .ok (.invokevirtual 155, 3) := by decide +kernel
theorem dX6_dayOfMeeting_52 : decode cX6_dayOfMeeting 52 = .ok (.bipush (-2), 2) := by decide +kernel
theorem dX6_dayOfMeeting_54 : decode cX6_dayOfMeeting 54 = .ok (.if_icmp .eq 22, 3) := by decide +kernel
theorem dX6_dayOfMeeting_57 : decode cX6_dayOfMeeting 57 = .ok (.aload_n 0, 1) := by decide +kernel
theorem dX6_dayOfMeeting_58 : decode cX6_dayOfMeeting 58 = .ok (.getfield 15, 3) := by decide +kernel
theorem dX6_dayOfMeeting_61 : decode cX6_dayOfMeeting 61 = .ok (.aload_n 0, 1) := by decide +kernel
theorem dX6_dayOfMeeting_62 : decode cX6_dayOfMeeting 62 = .ok (.getfield 25, 3) := by decide +kernel
theorem dX6_dayOfMeeting_65 : decode cX6_dayOfMeeting 65 = .ok (.getfield 92, 3) := by decide +kernel
theorem dX6_dayOfMeeting_68 : decode cX6_dayOfMeeting 68 = .ok (.iload_n 1, 1) := by decide +kernel
theorem dX6_dayOfMeeting_69 : decode cX6_dayOfMeeting 69 = .ok (.aaload, 1) := by decide +kernel
theorem dX6_dayOfMeeting_70 : decode cX6_dayOfMeeting 70 = .ok (.getfield 130, 3) := by decide +kernel
theorem dX6_dayOfMeeting_73 : decode cX6_dayOfMeeting 73 = .ok (.if_icmp .eq 6, 3) := by decide +kernel
theorem dX6_dayOfMeeting_76 : decode cX6_dayOfMeeting 76 = .ok (.bipush (-2), 2) := by decide +kernel
theorem dX6_dayOfMeeting_78 : decode cX6_dayOfMeeting 78 = .ok (.ireturn, 1) := by decide +kernel
theorem dX6_dayOfMeeting_79 : decode cX6_dayOfMeeting 79 = .ok (.iload 5, 2) := by decide +kernel
theorem dX6_dayOfMeeting_81 : decode cX6_dayOfMeeting 81 = .ok (.aload_n 0, 1) := by decide +kernel
theorem dX6_dayOfMeeting_82 : decode cX6_dayOfMeeting 82 = .ok (.getfield 19, 3) := by decide +kernel
theorem dX6_dayOfMeeting_85 : decode cX6_dayOfMeeting 85 = .ok (.invokestatic 143, 3) := by decide +kernel
theorem dX6_dayOfMeeting_88 : decode cX6_dayOfMeeting 88 = .ok (.istore 7, 2) := by decide +kernel
theorem dX6_dayOfMeeting_90 : decode cX6_dayOfMeeting 90 = .ok (.iload 7, 2) := by decide +kernel
theorem dX6_dayOfMeeting_92 : decode cX6_dayOfMeeting 92 = .ok (.iload 6, 2) := by decide +kernel
theorem dX6_dayOfMeeting_94 : decode cX6_dayOfMeeting 94 = .ok (.aload_n 0, 1) := by decide +kernel
theorem dX6_dayOfMeeting_95 : decode cX6_dayOfMeeting 95 = .ok (.getfield 22, 3) := by decide +kernel
theorem dX6_dayOfMeeting_98 : decode cX6_dayOfMeeting 98 = .ok (.invokestatic 161, 3) := by decide +kernel
theorem dX6_dayOfMeeting_101 : decode cX6_dayOfMeeting 101 = .ok (.if_icmp .ge 8, 3) := by decide +kernel
theorem dX6_dayOfMeeting_104 : decode cX6_dayOfMeeting 104 = .ok (.iload 7, 2) := by decide +kernel
theorem dX6_dayOfMeeting_106 : decode cX6_dayOfMeeting 106 = .ok (.goto 5, 3) := by decide +kernel
theorem dX6_dayOfMeeting_109 : decode cX6_dayOfMeeting 109 = .ok (.bipush (-2), 2) := by decide +kernel
theorem dX6_dayOfMeeting_111 : decode cX6_dayOfMeeting 111 = .ok (.ireturn, 1) := by decide +kernel
theorem dX6_fittingWhales_0 : decode cX6_fittingWhales 0 = .ok (.iconst 0, 1) := by decide +kernel
theorem dX6_fittingWhales_1 : decode cX6_fittingWhales 1 = .ok (.istore_n 1, 1) := by decide +kernel
theorem dX6_fittingWhales_2 : decode cX6_fittingWhales 2 = .ok (.iconst 0, 1) := by decide +kernel
theorem dX6_fittingWhales_3 : decode cX6_fittingWhales 3 = .ok (.istore_n 2, 1) := by decide +kernel
theorem dX6_fittingWhales_4 : decode cX6_fittingWhales 4 = .ok (.iload_n 2, 1) := by decide +kernel
theorem dX6_fittingWhales_5 : decode cX6_fittingWhales 5 = .ok (.aload_n 0, 1) := by decide +kernel
theorem dX6_fittingWhales_6 : decode cX6_fittingWhales 6 = .ok (.getfield 25, 3) := by decide +kernel
theorem dX6_fittingWhales_9 : decode cX6_fittingWhales 9 = .ok (.getfield 152, 3) := by decide +kernel
theorem dX6_fittingWhales_12 : decode cX6_fittingWhales 12 = .ok (.if_icmp .ge 23, 3) := by decide +kernel
theorem dX6_fittingWhales_15 : decode cX6_fittingWhales 15 = .ok (.aload_n 0, 1) := by decide +kernel
theorem dX6_fittingWhales_16 : decode cX6_fittingWhales 16 = .ok (.iload_n 2, 1) := by decide +kernel
theorem dX6_fittingWhales_17 : decode cX6_fittingWhales 17 = .ok (.invokevirtual 164, 3) := by decide +kernel
theorem dX6_fittingWhales_20 : decode cX6_fittingWhales 20 = .ok (.ifCond .eq 9, 3) := by decide +kernel
theorem dX6_fittingWhales_23 : decode cX6_fittingWhales 23 = .ok (.iload_n 1, 1) := by decide +kernel
theorem dX6_fittingWhales_24 : decode cX6_fittingWhales 24 = .ok (.iconst 1, 1) := by decide +kernel
theorem dX6_fittingWhales_25 : decode cX6_fittingWhales 25 = .ok (.iload_n 2, 1) := by decide +kernel
theorem dX6_fittingWhales_26 : decode cX6_fittingWhales 26 = .ok (.ishl, 1) := by decide +kernel
theorem dX6_fittingWhales_27 : decode cX6_fittingWhales 27 = .ok (.ior, 1) := by decide +kernel
theorem dX6_fittingWhales_28 : decode cX6_fittingWhales 28 = .ok (.istore_n 1, 1) := by decide +kernel
theorem dX6_fittingWhales_29 : decode cX6_fittingWhales 29 = .ok (.iinc 2 1, 3) := by decide +kernel
theorem dX6_fittingWhales_32 : decode cX6_fittingWhales 32 = .ok (.goto (-28), 3) := by decide +kernel
theorem dX6_fittingWhales_35 : decode cX6_fittingWhales 35 = .ok (.iload_n 1, 1) := by decide +kernel
theorem dX6_fittingWhales_36 : decode cX6_fittingWhales 36 = .ok (.ireturn, 1) := by decide +kernel
theorem dX6_isFitting_0 : decode cX6_isFitting 0 = .ok (.aload_n 0, 1) := by decide +kernel
theorem dX6_isFitting_1 : decode cX6_isFitting 1 = .ok (.getfield 25, 3) := by decide +kernel
theorem dX6_isFitting_4 : decode cX6_isFitting 4 = .ok (.getfield 88, 3) := by decide +kernel
theorem dX6_isFitting_7 : decode cX6_isFitting 7 = .ok (.iload_n 1, 1) := by decide +kernel
theorem dX6_isFitting_8 : decode cX6_isFitting 8 = .ok (.aaload, 1) := by decide +kernel
theorem dX6_isFitting_9 : decode cX6_isFitting 9 = .ok (.getfield 167, 3) := by decide +kernel
theorem dX6_isFitting_12 : decode cX6_isFitting 12 = .ok (.istore_n 2, 1) := by decide +kernel
theorem dX6_isFitting_13 : decode cX6_isFitting 13 = .ok (.iconst 0, 1) := by decide +kernel
theorem dX6_isFitting_14 : decode cX6_isFitting 14 = .ok (.istore_n 3, 1) := by decide +kernel
theorem dX6_isFitting_15 : decode cX6_isFitting 15 = .ok (.iconst 0, 1) := by decide +kernel
theorem dX6_isFitting_16 : decode cX6_isFitting 16 = .ok (.istore 4, 2) := by decide +kernel
theorem dX6_isFitting_18 : decode cX6_isFitting 18 = .ok (.iload 4, 2) := by decide +kernel
theorem dX6_isFitting_20 : decode cX6_isFitting 20 = .ok (.aload_n 0, 1) := by decide +kernel
theorem dX6_isFitting_21 : decode cX6_isFitting 21 = .ok (.getfield 25, 3) := by decide +kernel
theorem dX6_isFitting_24 : decode cX6_isFitting 24 = .ok (.getfield 170, 3) := by decide +kernel
theorem dX6_isFitting_27 : decode cX6_isFitting 27 = .ok (.if_icmp .ge 80, 3) := by decide +kernel
theorem dX6_isFitting_30 : decode cX6_isFitting 30 = .ok (.aload_n 0, 1) := by decide +kernel
theorem dX6_isFitting_31 : decode cX6_isFitting 31 = .ok (.getfield 25, 3) := by decide +kernel
theorem dX6_isFitting_34 : decode cX6_isFitting 34 = .ok (.getfield 173, 3) := by decide +kernel
theorem dX6_isFitting_37 : decode cX6_isFitting 37 = .ok (.iload 4, 2) := by decide +kernel
theorem dX6_isFitting_39 : decode cX6_isFitting 39 = .ok (.aaload, 1) := by decide +kernel
theorem dX6_isFitting_40 : decode cX6_isFitting 40 = .ok (.astore 5, 2) := by decide +kernel
theorem dX6_isFitting_42 : decode cX6_isFitting 42 = .ok (.aload 5, 2) := by decide +kernel
theorem dX6_isFitting_44 : decode cX6_isFitting 44 = .ok (.getfield 177, 3) := by decide +kernel
theorem dX6_isFitting_47 : decode cX6_isFitting 47 = .ok (.iload_n 1, 1) := by decide +kernel
theorem dX6_isFitting_48 : decode cX6_isFitting 48 = .ok (.if_icmp .ne 53, 3) := by decide +kernel
theorem dX6_isFitting_51 : decode cX6_isFitting 51 = .ok (.aload_n 0, 1) := by decide +kernel
theorem dX6_isFitting_52 : decode cX6_isFitting 52 = .ok (.aload_n 0, 1) := by decide +kernel
theorem dX6_isFitting_53 : decode cX6_isFitting 53 = .ok (.getfield 25, 3) := by decide +kernel
theorem dX6_isFitting_56 : decode cX6_isFitting 56 = .ok (.getfield 88, 3) := by decide +kernel
theorem dX6_isFitting_59 : decode cX6_isFitting 59 = .ok (.iload_n 1, 1) := by decide +kernel
theorem dX6_isFitting_60 : decode cX6_isFitting 60 = .ok (.aaload, 1) := by decide +kernel
theorem dX6_isFitting_61 : decode cX6_isFitting 61 = .ok (.getfield 107, 3) := by decide +kernel
theorem dX6_isFitting_64 : decode cX6_isFitting 64 = .ok (.iload_n 2, 1) := by decide +kernel
theorem dX6_isFitting_65 : decode cX6_isFitting 65 = .ok (.iload_n 3, 1) := by decide +kernel
theorem dX6_isFitting_66 : decode cX6_isFitting 66 = .ok (.invokevirtual 84, 3) := by decide +kernel
theorem dX6_isFitting_69 : decode cX6_isFitting 69 = .ok (.aload_n 0, 1) := by decide +kernel
theorem dX6_isFitting_70 : decode cX6_isFitting 70 = .ok (.getfield 9, 3) := by decide +kernel
theorem dX6_isFitting_73 : decode cX6_isFitting 73 = .ok (.aload 5, 2) := by decide +kernel
theorem dX6_isFitting_75 : decode cX6_isFitting 75 = .ok (.getfield 181, 3) := by decide +kernel
theorem dX6_isFitting_78 : decode cX6_isFitting 78 = .ok (.iaload, 1) := by decide +kernel
theorem dX6_isFitting_79 : decode cX6_isFitting 79 = .ok (.aload 5, 2) := by decide +kernel
theorem dX6_isFitting_81 : decode cX6_isFitting 81 = .ok (.getfield 184, 3) := by decide +kernel
theorem dX6_isFitting_84 : decode cX6_isFitting 84 = .ok (.if_icmp .le 5, 3) := by decide +kernel
theorem dX6_isFitting_87 : decode cX6_isFitting 87 = .ok (.iconst 0, 1) := by decide +kernel
theorem dX6_isFitting_88 : decode cX6_isFitting 88 = .ok (.ireturn, 1) := by decide +kernel
theorem dX6_isFitting_89 : decode cX6_isFitting 89 = .ok (.aload 5, 2) := by decide +kernel
theorem dX6_isFitting_91 : decode cX6_isFitting 91 = .ok (.getfield 181, 3) := by decide +kernel
theorem dX6_isFitting_94 : decode cX6_isFitting 94 = .ok (.istore_n 2, 1) := by decide +kernel
theorem dX6_isFitting_95 : decode cX6_isFitting 95 = .ok (.aload 5, 2) := by decide +kernel
theorem dX6_isFitting_97 : decode cX6_isFitting 97 = .ok (.getfield 184, 3) := by decide +kernel
theorem dX6_isFitting_100 : decode cX6_isFitting 100 = .ok (.istore_n 3, 1) := by decide +kernel
theorem dX6_isFitting_101 : decode cX6_isFitting 101 = .ok (.iinc 4 1, 3) := by decide +kernel
theorem dX6_isFitting_104 : decode cX6_isFitting 104 = .ok (.goto (-86), 3) := by decide +kernel
theorem dX6_isFitting_107 : decode cX6_isFitting 107 = .ok (.iconst 1, 1) := by decide +kernel
theorem dX6_isFitting_108 : decode cX6_isFitting 108 = .ok (.ireturn, 1) := by decide +kernel
theorem dX6_islandsReached_0 : decode cX6_islandsReached 0 = .ok (.aload_n 0, 1) := by decide +kernel
