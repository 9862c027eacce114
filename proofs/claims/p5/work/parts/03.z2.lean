theorem dX6_islandsReached_1 : decode cX6_islandsReached 1 = .ok (.getfield 25, 3) := by decide +kernel
theorem dX6_islandsReached_4 : decode cX6_islandsReached 4 = .ok (.iload_n 1, 1) := by decide +kernel
theorem dX6_islandsReached_5 : decode cX6_islandsReached 5 = .ok (.invokevirtual 185, 3) := by decide +kernel
theorem dX6_islandsReached_8 : decode cX6_islandsReached 8 = .ok (.istore_n 3, 1) := by decide +kernel
theorem dX6_islandsReached_9 : decode cX6_islandsReached 9 = .ok (.iload_n 3, 1) := by decide +kernel
theorem dX6_islandsReached_10 : decode cX6_islandsReached 10 = .ok (.bipush (-2), 2) := by decide +kernel
theorem dX6_islandsReached_12 : decode cX6_islandsReached 12 = .ok (.if_icmp .ne 18, 3) := by decide +kernel
theorem dX6_islandsReached_15 : decode cX6_islandsReached 15 = .ok (.aload_n 0, 1) := by decide +kernel
theorem dX6_islandsReached_16 : decode cX6_islandsReached 16 = .ok (.getfield 25, 3) := by decide +kernel
theorem dX6_islandsReached_19 : decode cX6_islandsReached 19 = .ok (.getfield 88, 3) := by decide +kernel
theorem dX6_islandsReached_22 : decode cX6_islandsReached 22 = .ok (.iload_n 1, 1) := by decide +kernel
theorem dX6_islandsReached_23 : decode cX6_islandsReached 23 = .ok (.aaload, 1) := by decide +kernel
theorem dX6_islandsReached_24 : decode cX6_islandsReached 24 = .ok (.getfield 167, 3) := by decide +kernel
theorem dX6_islandsReached_27 : decode cX6_islandsReached 27 = .ok (.goto 15, 3) := by decide +kernel
theorem dX6_islandsReached_30 : decode cX6_islandsReached 30 = .ok (.aload_n 0, 1) := by decide +kernel
theorem dX6_islandsReached_31 : decode cX6_islandsReached 31 = .ok (.getfield 25, 3) := by decide +kernel
theorem dX6_islandsReached_34 : decode cX6_islandsReached 34 = .ok (.getfield 173, 3) := by decide +kernel
theorem dX6_islandsReached_37 : decode cX6_islandsReached 37 = .ok (.iload_n 3, 1) := by decide +kernel
theorem dX6_islandsReached_38 : decode cX6_islandsReached 38 = .ok (.aaload, 1) := by decide +kernel
theorem dX6_islandsReached_39 : decode cX6_islandsReached 39 = .ok (.getfield 181, 3) := by decide +kernel
theorem dX6_islandsReached_42 : decode cX6_islandsReached 42 = .ok (.istore 4, 2) := by decide +kernel
theorem dX6_islandsReached_44 : decode cX6_islandsReached 44 = .ok (.aload_n 0, 1) := by decide +kernel
theorem dX6_islandsReached_45 : decode cX6_islandsReached 45 = .ok (.aload_n 0, 1) := by decide +kernel
theorem dX6_islandsReached_46 : decode cX6_islandsReached 46 = .ok (.getfield 25, 3) := by decide +kernel
theorem dX6_islandsReached_49 : decode cX6_islandsReached 49 = .ok (.getfield 88, 3) := by decide +kernel
theorem dX6_islandsReached_52 : decode cX6_islandsReached 52 = .ok (.iload_n 1, 1) := by decide +kernel
theorem dX6_islandsReached_53 : decode cX6_islandsReached 53 = .ok (.aaload, 1) := by decide +kernel
theorem dX6_islandsReached_54 : decode cX6_islandsReached 54 = .ok (.getfield 107, 3) := by decide +kernel
theorem dX6_islandsReached_57 : decode cX6_islandsReached 57 = .ok (.iload 4, 2) := by decide +kernel
theorem dX6_islandsReached_59 : decode cX6_islandsReached 59 = .ok (.iload_n 3, 1) := by decide +kernel
theorem dX6_islandsReached_60 : decode cX6_islandsReached 60 = .ok (.bipush (-2), 2) := by decide +kernel
theorem dX6_islandsReached_62 : decode cX6_islandsReached 62 = .ok (.if_icmp .ne 7, 3) := by decide +kernel
theorem dX6_islandsReached_65 : decode cX6_islandsReached 65 = .ok (.iconst 0, 1) := by decide +kernel
theorem dX6_islandsReached_66 : decode cX6_islandsReached 66 = .ok (.goto 15, 3) := by decide +kernel
theorem dX6_islandsReached_69 : decode cX6_islandsReached 69 = .ok (.aload_n 0, 1) := by decide +kernel
theorem dX6_islandsReached_70 : decode cX6_islandsReached 70 = .ok (.getfield 25, 3) := by decide +kernel
theorem dX6_islandsReached_73 : decode cX6_islandsReached 73 = .ok (.getfield 173, 3) := by decide +kernel
theorem dX6_islandsReached_76 : decode cX6_islandsReached 76 = .ok (.iload_n 3, 1) := by decide +kernel
theorem dX6_islandsReached_77 : decode cX6_islandsReached 77 = .ok (.aaload, 1) := by decide +kernel
theorem dX6_islandsReached_78 : decode cX6_islandsReached 78 = .ok (.getfield 184, 3) := by decide +kernel
theorem dX6_islandsReached_81 : decode cX6_islandsReached 81 = .ok (.invokevirtual 84, 3) := by decide +kernel
theorem dX6_islandsReached_84 : decode cX6_islandsReached 84 = .ok (.iconst 0, 1) := by decide +kernel
theorem dX6_islandsReached_85 : decode cX6_islandsReached 85 = .ok (.istore 5, 2) := by decide +kernel
theorem dX6_islandsReached_87 : decode cX6_islandsReached 87 = .ok (.iconst 0, 1) := by decide +kernel
theorem dX6_islandsReached_88 : decode cX6_islandsReached 88 = .ok (.istore 6, 2) := by decide +kernel
theorem dX6_islandsReached_90 : decode cX6_islandsReached 90 = .ok (.iload 6, 2) := by decide +kernel
theorem dX6_islandsReached_92 : decode cX6_islandsReached 92 = .ok (.aload_n 0, 1) := by decide +kernel
theorem dX6_islandsReached_93 : decode cX6_islandsReached 93 = .ok (.getfield 25, 3) := by decide +kernel
theorem dX6_islandsReached_96 : decode cX6_islandsReached 96 = .ok (.getfield 44, 3) := by decide +kernel
theorem dX6_islandsReached_99 : decode cX6_islandsReached 99 = .ok (.if_icmp .ge 29, 3) := by decide +kernel
theorem dX6_islandsReached_102 : decode cX6_islandsReached 102 = .ok (.aload_n 0, 1) := by decide +kernel
theorem dX6_islandsReached_103 : decode cX6_islandsReached 103 = .ok (.getfield 9, 3) := by decide +kernel
theorem dX6_islandsReached_106 : decode cX6_islandsReached 106 = .ok (.iload 6, 2) := by decide +kernel
theorem dX6_islandsReached_108 : decode cX6_islandsReached 108 = .ok (.iaload, 1) := by decide +kernel
theorem dX6_islandsReached_109 : decode cX6_islandsReached 109 = .ok (.iload_n 2, 1) := by decide +kernel
theorem dX6_islandsReached_110 : decode cX6_islandsReached 110 = .ok (.if_icmp .gt 12, 3) := by decide +kernel
theorem dX6_islandsReached_113 : decode cX6_islandsReached 113 = .ok (.iload 5, 2) := by decide +kernel
theorem dX6_islandsReached_115 : decode cX6_islandsReached 115 = .ok (.iconst 1, 1) := by decide +kernel
theorem dX6_islandsReached_116 : decode cX6_islandsReached 116 = .ok (.iload 6, 2) := by decide +kernel
theorem dX6_islandsReached_118 : decode cX6_islandsReached 118 = .ok (.ishl, 1) := by decide +kernel
theorem dX6_islandsReached_119 : decode cX6_islandsReached 119 = .ok (.ior, 1) := by decide +kernel
theorem dX6_islandsReached_120 : decode cX6_islandsReached 120 = .ok (.istore 5, 2) := by decide +kernel
theorem dX6_islandsReached_122 : decode cX6_islandsReached 122 = .ok (.iinc 6 1, 3) := by decide +kernel
theorem dX6_islandsReached_125 : decode cX6_islandsReached 125 = .ok (.goto (-35), 3) := by decide +kernel
theorem dX6_islandsReached_128 : decode cX6_islandsReached 128 = .ok (.iload 5, 2) := by decide +kernel
theorem dX6_islandsReached_130 : decode cX6_islandsReached 130 = .ok (.ireturn, 1) := by decide +kernel
theorem dX6_bestPier_0 : decode cX6_bestPier 0 = .ok (.aload_n 0, 1) := by decide +kernel
theorem dX6_bestPier_1 : decode cX6_bestPier 1 = .ok (.invokevirtual 188, 3) := by decide +kernel
theorem dX6_bestPier_4 : decode cX6_bestPier 4 = .ok (.invokestatic 192, 3) := by decide +kernel
theorem dX6_bestPier_7 : decode cX6_bestPier 7 = .ok (.istore_n 2, 1) := by decide +kernel
theorem dX6_bestPier_8 : decode cX6_bestPier 8 = .ok (.bipush (-2), 2) := by decide +kernel
theorem dX6_bestPier_10 : decode cX6_bestPier 10 = .ok (.istore_n 3, 1) := by decide +kernel
theorem dX6_bestPier_11 : decode cX6_bestPier 11 = .ok (.iconst 0, 1) := by decide +kernel
theorem dX6_bestPier_12 : decode cX6_bestPier 12 = .ok (.istore 4, 2) := by decide +kernel
theorem dX6_bestPier_14 : decode cX6_bestPier 14 = .ok (.iconst 0, 1) := by decide +kernel
theorem dX6_bestPier_15 : decode cX6_bestPier 15 = .ok (.istore 5, 2) := by decide +kernel
theorem dX6_bestPier_17 : decode cX6_bestPier 17 = .ok (.iload 5, 2) := by decide +kernel
theorem dX6_bestPier_19 : decode cX6_bestPier 19 = .ok (.aload_n 0, 1) := by decide +kernel
theorem dX6_bestPier_20 : decode cX6_bestPier 20 = .ok (.getfield 25, 3) := by decide +kernel
theorem dX6_bestPier_23 : decode cX6_bestPier 23 = .ok (.getfield 44, 3) := by decide +kernel
theorem dX6_bestPier_26 : decode cX6_bestPier 26 = .ok (.if_icmp .ge 45, 3) := by decide +kernel
theorem dX6_bestPier_29 : decode cX6_bestPier 29 = .ok (.iconst 2, 1) := by decide +kernel
theorem dX6_bestPier_30 : decode cX6_bestPier 30 = .ok (.aload_n 0, 1) := by decide +kernel
theorem dX6_bestPier_31 : decode cX6_bestPier 31 = .ok (.iload 5, 2) := by decide +kernel
theorem dX6_bestPier_33 : decode cX6_bestPier 33 = .ok (.iload_n 1, 1) := by decide +kernel
theorem dX6_bestPier_34 : decode cX6_bestPier 34 = .ok (.invokevirtual 197, 3) := by decide +kernel
theorem dX6_bestPier_37 : decode cX6_bestPier 37 = .ok (.imul, 1) := by decide +kernel
theorem dX6_bestPier_38 : decode cX6_bestPier 38 = .ok (.iload_n 2, 1) := by decide +kernel
theorem dX6_bestPier_39 : decode cX6_bestPier 39 = .ok (.isub, 1) := by decide +kernel
theorem dX6_bestPier_40 : decode cX6_bestPier 40 = .ok (.invokestatic 200, 3) := by decide +kernel
theorem dX6_bestPier_43 : decode cX6_bestPier 43 = .ok (.istore 6, 2) := by decide +kernel
theorem dX6_bestPier_45 : decode cX6_bestPier 45 = .ok (.iload_n 3, 1) := by decide +kernel
theorem dX6_bestPier_46 : decode cX6_bestPier 46 = .ok (.bipush (-2), 2) := by decide +kernel
theorem dX6_bestPier_48 : decode cX6_bestPier 48 = .ok (.if_icmp .eq 10, 3) := by decide +kernel
theorem dX6_bestPier_51 : decode cX6_bestPier 51 = .ok (.iload 6, 2) := by decide +kernel
theorem dX6_bestPier_53 : decode cX6_bestPier 53 = .ok (.iload 4, 2) := by decide +kernel
theorem dX6_bestPier_55 : decode cX6_bestPier 55 = .ok (.if_icmp .ge 10, 3) := by decide +kernel
theorem dX6_bestPier_58 : decode cX6_bestPier 58 = .ok (.iload 5, 2) := by decide +kernel
theorem dX6_bestPier_60 : decode cX6_bestPier 60 = .ok (.istore_n 3, 1) := by decide +kernel
theorem dX6_bestPier_61 : decode cX6_bestPier 61 = .ok (.iload 6, 2) := by decide +kernel
theorem dX6_bestPier_63 : decode cX6_bestPier 63 = .ok (.istore 4, 2) := by decide +kernel
theorem dX6_bestPier_65 : decode cX6_bestPier 65 = .ok (.iinc 5 1, 3) := by decide +kernel
theorem dX6_bestPier_68 : decode cX6_bestPier 68 = .ok (.goto (-51), 3) := by decide +kernel
theorem dX6_bestPier_71 : decode cX6_bestPier 71 = .ok (.iload_n 3, 1) := by decide +kernel
theorem dX6_bestPier_72 : decode cX6_bestPier 72 = .ok (.ireturn, 1) := by decide +kernel
theorem dX6_whalesReaching_0 : decode cX6_whalesReaching 0 = .ok (.iconst 0, 1) := by decide +kernel
theorem dX6_whalesReaching_1 : decode cX6_whalesReaching 1 = .ok (.istore_n 3, 1) := by decide +kernel
theorem dX6_whalesReaching_2 : decode cX6_whalesReaching 2 = .ok (.iconst 0, 1) := by decide +kernel
theorem dX6_whalesReaching_3 : decode cX6_whalesReaching 3 = .ok (.istore 4, 2) := by decide +kernel
theorem dX6_whalesReaching_5 : decode cX6_whalesReaching 5 = .ok (.iload 4, 2) := by decide +kernel
theorem dX6_whalesReaching_7 : decode cX6_whalesReaching 7 = .ok (.aload_n 0, 1) := by decide +kernel
theorem dX6_whalesReaching_8 : decode cX6_whalesReaching 8 = .ok (.getfield 25, 3) := by decide +kernel
theorem dX6_whalesReaching_11 : decode cX6_whalesReaching 11 = .ok (.getfield 152, 3) := by decide +kernel
theorem dX6_whalesReaching_14 : decode cX6_whalesReaching 14 = .ok (.if_icmp .ge 23, 3) := by decide +kernel
theorem dX6_whalesReaching_17 : decode cX6_whalesReaching 17 = .ok (.iload_n 3, 1) := by decide +kernel
theorem dX6_whalesReaching_18 : decode cX6_whalesReaching 18 = .ok (.aload_n 0, 1) := by decide +kernel
theorem dX6_whalesReaching_19 : decode cX6_whalesReaching 19 = .ok (.iload 4, 2) := by decide +kernel
theorem dX6_whalesReaching_21 : decode cX6_whalesReaching 21 = .ok (.iload_n 2, 1) := by decide +kernel
theorem dX6_whalesReaching_22 : decode cX6_whalesReaching 22 = .ok (.invokevirtual 203, 3) := by decide +kernel
theorem dX6_whalesReaching_25 : decode cX6_whalesReaching 25 = .ok (.iload_n 1, 1) := by decide +kernel
theorem dX6_whalesReaching_26 : decode cX6_whalesReaching 26 = .ok (.ishr, 1) := by decide +kernel
theorem dX6_whalesReaching_27 : decode cX6_whalesReaching 27 = .ok (.iconst 1, 1) := by decide +kernel
theorem dX6_whalesReaching_28 : decode cX6_whalesReaching 28 = .ok (.iand, 1) := by decide +kernel
theorem dX6_whalesReaching_29 : decode cX6_whalesReaching 29 = .ok (.iadd, 1) := by decide +kernel
theorem dX6_whalesReaching_30 : decode cX6_whalesReaching 30 = .ok (.istore_n 3, 1) := by decide +kernel
theorem dX6_whalesReaching_31 : decode cX6_whalesReaching 31 = .ok (.iinc 4 1, 3) := by decide +kernel
theorem dX6_whalesReaching_34 : decode cX6_whalesReaching 34 = .ok (.goto (-29), 3) := by decide +kernel
theorem dX6_whalesReaching_37 : decode cX6_whalesReaching 37 = .ok (.iload_n 3, 1) := by decide +kernel
theorem dX6_whalesReaching_38 : decode cX6_whalesReaching 38 = .ok (.ireturn, 1) := by decide +kernel
theorem dX7_init_0 : decode cX7_init 0 = .ok (.aload_n 0, 1) := by decide +kernel
theorem dX7_init_1 : decode cX7_init 1 = .ok (.invokespecial 3, 3) := by decide +kernel
theorem dX7_init_4 : decode cX7_init 4 = .ok (.aload_n 0, 1) := by decide +kernel
theorem dX7_init_5 : decode cX7_init 5 = .ok (.iconst 0, 1) := by decide +kernel
theorem dX7_init_6 : decode cX7_init 6 = .ok (.putfield 9, 3) := by decide +kernel
theorem dX7_init_9 : decode cX7_init 9 = .ok (.aload_n 0, 1) := by decide +kernel
theorem dX7_init_10 : decode cX7_init 10 = .ok (.iconst 0, 1) := by decide +kernel
theorem dX7_init_11 : decode cX7_init 11 = .ok (.putfield 15, 3) := by decide +kernel
theorem dX7_init_14 : decode cX7_init 14 = .ok (.aload_n 0, 1) := by decide +kernel
theorem dX7_init_15 : decode cX7_init 15 = .ok (.iconst 0, 1) := by decide +kernel
theorem dX7_init_16 : decode cX7_init 16 = .ok (.putfield 18, 3) := by decide +kernel
theorem dX7_init_19 : decode cX7_init 19 = .ok (.aload_n 0, 1) := by decide +kernel
theorem dX7_init_20 : decode cX7_init 20 = .ok (.bipush (-2), 2) := by decide +kernel
theorem dX7_init_22 : decode cX7_init 22 = .ok (.putfield 21, 3) := by decide +kernel
theorem dX7_init_25 : decode cX7_init 25 = .ok (.aload_n 0, 1) := by decide +kernel
theorem dX7_init_26 : decode cX7_init 26 = .ok (.sipush 1031, 3) := by decide +kernel
theorem dX7_init_29 : decode cX7_init 29 = .ok (.newarray .int, 2) := by decide +kernel
theorem dX7_init_31 : decode cX7_init 31 = .ok (.putfield 24, 3) := by decide +kernel
theorem dX7_init_34 : decode cX7_init 34 = .ok (.aload_n 0, 1) := by decide +kernel
theorem dX7_init_35 : decode cX7_init 35 = .ok (.aload_n 1, 1) := by decide +kernel
theorem dX7_init_36 : decode cX7_init 36 = .ok (.putfield 28, 3) := by decide +kernel
theorem dX7_init_39 : decode cX7_init 39 = .ok (.return_, 1) := by decide +kernel
theorem dX7_fallIn_0 : decode cX7_fallIn 0 = .ok (.aload_n 0, 1) := by decide +kernel
theorem dX7_fallIn_1 : decode cX7_fallIn 1 = .ok (.getfield 28, 3) := by decide +kernel
theorem dX7_fallIn_4 : decode cX7_fallIn 4 = .ok (.getfield 32, 3) := by decide +kernel
theorem dX7_fallIn_7 : decode cX7_fallIn 7 = .ok (.ifCond .le 33, 3) := by decide +kernel
theorem dX7_fallIn_10 : decode cX7_fallIn 10 = .ok (.aload_n 0, 1) := by decide +kernel
theorem dX7_fallIn_11 : decode cX7_fallIn 11 = .ok (.getfield 28, 3) := by decide +kernel
theorem dX7_fallIn_14 : decode cX7_fallIn 14 = .ok (.getfield 37, 3) := by decide +kernel
theorem dX7_fallIn_17 : decode cX7_fallIn 17 = .ok (.ifCond .le 23, 3) := by decide +kernel
theorem dX7_fallIn_20 : decode cX7_fallIn 20 = .ok (.iload_n 1, 1) := by decide +kernel
theorem dX7_fallIn_21 : decode cX7_fallIn 21 = .ok (.aload_n 0, 1) := by decide +kernel
theorem dX7_fallIn_22 : decode cX7_fallIn 22 = .ok (.getfield 28, 3) := by decide +kernel
theorem dX7_fallIn_25 : decode cX7_fallIn 25 = .ok (.getfield 32, 3) := by decide +kernel
theorem dX7_fallIn_28 : decode cX7_fallIn 28 = .ok (.idiv, 1) := by decide +kernel
theorem dX7_fallIn_29 : decode cX7_fallIn 29 = .ok (.aload_n 0, 1) := by decide +kernel
theorem dX7_fallIn_30 : decode cX7_fallIn 30 = .ok (.getfield 28, 3) := by decide +kernel
theorem dX7_fallIn_33 : decode cX7_fallIn 33 = .ok (.getfield 37, 3) := by decide +kernel
theorem dX7_fallIn_36 : decode cX7_fallIn 36 = .ok (.irem, 1) := by decide +kernel
theorem dX7_fallIn_37 : decode cX7_fallIn 37 = .ok (.goto 4, 3) := by decide +kernel
theorem dX7_fallIn_40 : decode cX7_fallIn 40 = .ok (.iconst 0, 1) := by decide +kernel
theorem dX7_fallIn_41 : decode cX7_fallIn 41 = .ok (.ireturn, 1) := by decide +kernel
theorem dX7_raised_0 : decode cX7_raised 0 = .ok (.iload_n 3, 1) := by decide +kernel
theorem dX7_raised_1 : decode cX7_raised 1 = .ok (.ifCond .eq 13, 3) := by decide +kernel
theorem dX7_raised_4 : decode cX7_raised 4 = .ok (.aload_n 0, 1) := by decide +kernel
theorem dX7_raised_5 : decode cX7_raised 5 = .ok (.getfield 28, 3) := by decide +kernel
theorem dX7_raised_8 : decode cX7_raised 8 = .ok (.getfield 37, 3) := by decide +kernel
theorem dX7_raised_11 : decode cX7_raised 11 = .ok (.ifCond .gt 5, 3) := by decide +kernel
theorem dX7_raised_14 : decode cX7_raised 14 = .ok (.iload_n 1, 1) := by decide +kernel
theorem dX7_raised_15 : decode cX7_raised 15 = .ok (.ireturn, 1) := by decide +kernel
theorem dX7_raised_16 : decode cX7_raised 16 = .ok (.iconst 0, 1) := by decide +kernel
theorem dX7_raised_17 : decode cX7_raised 17 = .ok (.istore 4, 2) := by decide +kernel
theorem dX7_raised_19 : decode cX7_raised 19 = .ok (.iconst 0, 1) := by decide +kernel
theorem dX7_raised_20 : decode cX7_raised 20 = .ok (.istore 5, 2) := by decide +kernel
theorem dX7_raised_22 : decode cX7_raised 22 = .ok (.iload 5, 2) := by decide +kernel
theorem dX7_raised_24 : decode cX7_raised 24 = .ok (.iload_n 2, 1) := by decide +kernel
theorem dX7_raised_25 : decode cX7_raised 25 = .ok (.if_icmp .ge 33, 3) := by decide +kernel
theorem dX7_raised_28 : decode cX7_raised 28 = .ok (.iload 4, 2) := by decide +kernel
theorem dX7_raised_30 : decode cX7_raised 30 = .ok (.iconst 2, 1) := by decide +kernel
theorem dX7_raised_31 : decode cX7_raised 31 = .ok (.ishl, 1) := by decide +kernel
theorem dX7_raised_32 : decode cX7_raised 32 = .ok (.iload_n 1, 1) := by decide +kernel
theorem dX7_raised_33 : decode cX7_raised 33 = .ok (.iload_n 2, 1) := by decide +kernel
theorem dX7_raised_34 : decode cX7_raised 34 = .ok (.iload 5, 2) := by decide +kernel
theorem dX7_raised_36 : decode cX7_raised 36 = .ok (.invokestatic 40, 3) := by decide +kernel
theorem dX7_raised_39 : decode cX7_raised 39 = .ok (.iload_n 3, 1) := by decide +kernel
theorem dX7_raised_40 : decode cX7_raised 40 = .ok (.iadd, 1) := by decide +kernel
theorem dX7_raised_41 : decode cX7_raised 41 = .ok (.aload_n 0, 1) := by decide +kernel
theorem dX7_raised_42 : decode cX7_raised 42 = .ok (.getfield 28, 3) := by decide +kernel
theorem dX7_raised_45 : decode cX7_raised 45 = .ok (.getfield 37, 3) := by decide +kernel
theorem dX7_raised_48 : decode cX7_raised 48 = .ok (.irem, 1) := by decide +kernel
theorem dX7_raised_49 : decode cX7_raised 49 = .ok (.ior, 1) := by decide +kernel
theorem dX7_raised_50 : decode cX7_raised 50 = .ok (.istore 4, 2) := by decide +kernel
theorem dX7_raised_52 : decode cX7_raised 52 = .ok (.iinc 5 1, 3) := by decide +kernel
theorem dX7_raised_55 : decode cX7_raised 55 = .ok (.goto (-33), 3) := by decide +kernel
theorem dX7_raised_58 : decode cX7_raised 58 = .ok (.iload 4, 2) := by decide +kernel
theorem dX7_raised_60 : decode cX7_raised 60 = .ok (.ireturn, 1) := by decide +kernel
theorem dX7_songIn_0 : decode cX7_songIn 0 = .ok (.aload_n 0, 1) := by decide +kernel
theorem dX7_songIn_1 : decode cX7_songIn 1 = .ok (.aload_n 0, 1) := by decide +kernel
theorem dX7_songIn_2 : decode cX7_songIn 2 = .ok (.getfield 28, 3) := by decide +kernel
theorem dX7_songIn_5 : decode cX7_songIn 5 = .ok (.getfield 44, 3) := by decide +kernel
theorem dX7_songIn_8 : decode cX7_songIn 8 = .ok (.iload_n 1, 1) := by decide +kernel
theorem dX7_songIn_9 : decode cX7_songIn 9 = .ok (.iaload, 1) := by decide +kernel
theorem dX7_songIn_10 : decode cX7_songIn 10 = .ok (.aload_n 0, 1) := by decide +kernel
theorem dX7_songIn_11 : decode cX7_songIn 11 = .ok (.getfield 28, 3) := by decide +kernel
theorem dX7_songIn_14 : decode cX7_songIn 14 = .ok (.getfield 47, 3) := by decide +kernel
theorem dX7_songIn_17 : decode cX7_songIn 17 = .ok (.iload_n 1, 1) := by decide +kernel
theorem dX7_songIn_18 : decode cX7_songIn 18 = .ok (.iaload, 1) := by decide +kernel
theorem dX7_songIn_19 : decode cX7_songIn 19 = .ok (.aload_n 0, 1) := by decide +kernel
theorem dX7_songIn_20 : decode cX7_songIn 20 = .ok (.getfield 28, 3) := by decide +kernel
theorem dX7_songIn_23 : decode cX7_songIn 23 = .ok (.getfield 37, 3) := by decide +kernel
theorem dX7_songIn_26 : decode cX7_songIn 26 = .ok (.aload_n 0, 1) := by decide +kernel
theorem dX7_songIn_27 : decode cX7_songIn 27 = .ok (.iload_n 2, 1) := by decide +kernel
theorem dX7_songIn_28 : decode cX7_songIn 28 = .ok (.invokevirtual 50, 3) := by decide +kernel
theorem dX7_songIn_31 : decode cX7_songIn 31 = .ok (.isub, 1) := by decide +kernel
theorem dX7_songIn_32 : decode cX7_songIn 32 = .ok (.invokevirtual 54, 3) := by decide +kernel
theorem dX7_songIn_35 : decode cX7_songIn 35 = .ok (.ireturn, 1) := by decide +kernel
theorem dX7_hearerOf_0 : decode cX7_hearerOf 0 = .ok (.aload_n 0, 1) := by decide +kernel
theorem dX7_hearerOf_1 : decode cX7_hearerOf 1 = .ok (.iload_n 1, 1) := by decide +kernel
theorem dX7_hearerOf_2 : decode cX7_hearerOf 2 = .ok (.iload_n 2, 1) := by decide +kernel
theorem dX7_hearerOf_3 : decode cX7_hearerOf 3 = .ok (.aload_n 0, 1) := by decide +kernel
theorem dX7_hearerOf_4 : decode cX7_hearerOf 4 = .ok (.iload_n 3, 1) := by decide +kernel
theorem dX7_hearerOf_5 : decode cX7_hearerOf 5 = .ok (.invokevirtual 50, 3) := by decide +kernel
theorem dX7_hearerOf_8 : decode cX7_hearerOf 8 = .ok (.invokevirtual 54, 3) := by decide +kernel
theorem dX7_hearerOf_11 : decode cX7_hearerOf 11 = .ok (.istore 4, 2) := by decide +kernel
theorem dX7_hearerOf_13 : decode cX7_hearerOf 13 = .ok (.bipush (-2), 2) := by decide +kernel
theorem dX7_hearerOf_15 : decode cX7_hearerOf 15 = .ok (.istore 5, 2) := by decide +kernel
theorem dX7_hearerOf_17 : decode cX7_hearerOf 17 = .ok (.aload_n 0, 1) := by decide +kernel
theorem dX7_hearerOf_18 : decode cX7_hearerOf 18 = .ok (.iload_n 2, 1) := by decide +kernel
theorem dX7_hearerOf_19 : decode cX7_hearerOf 19 = .ok (.iconst 1, 1) := by decide +kernel
theorem dX7_hearerOf_20 : decode cX7_hearerOf 20 = .ok (.iadd, 1) := by decide +kernel
theorem dX7_hearerOf_21 : decode cX7_hearerOf 21 = .ok (.putfield 15, 3) := by decide +kernel
theorem dX7_hearerOf_24 : decode cX7_hearerOf 24 = .ok (.aload_n 0, 1) := by decide +kernel
theorem dX7_hearerOf_25 : decode cX7_hearerOf 25 = .ok (.iconst 0, 1) := by decide +kernel
theorem dX7_hearerOf_26 : decode cX7_hearerOf 26 = .ok (.putfield 18, 3) := by decide +kernel
theorem dX7_hearerOf_29 : decode cX7_hearerOf 29 = .ok (.iconst 0, 1) := by decide +kernel
theorem dX7_hearerOf_30 : decode cX7_hearerOf 30 = .ok (.istore 6, 2) := by decide +kernel
theorem dX7_hearerOf_32 : decode cX7_hearerOf 32 = .ok (.iload 6, 2) := by decide +kernel
theorem dX7_hearerOf_34 : decode cX7_hearerOf 34 = .ok (.aload_n 0, 1) := by decide +kernel
theorem dX7_hearerOf_35 : decode cX7_hearerOf 35 = .ok (.getfield 28, 3) := by decide +kernel
theorem dX7_hearerOf_38 : decode cX7_hearerOf 38 = .ok (.getfield 57, 3) := by decide +kernel
theorem dX7_hearerOf_41 : decode cX7_hearerOf 41 = .ok (.if_icmp .ge 83, 3) := by decide +kernel
theorem dX7_hearerOf_44 : decode cX7_hearerOf 44 = .ok (.aload_n 0, 1) := by decide +kernel
theorem dX7_hearerOf_45 : decode cX7_hearerOf 45 = .ok (.getfield 28, 3) := by decide +kernel
theorem dX7_hearerOf_48 : decode cX7_hearerOf 48 = .ok (.getfield 47, 3) := by decide +kernel
theorem dX7_hearerOf_51 : decode cX7_hearerOf 51 = .ok (.iload 6, 2) := by decide +kernel
theorem dX7_hearerOf_53 : decode cX7_hearerOf 53 = .ok (.iaload, 1) := by decide +kernel
theorem dX7_hearerOf_54 : decode cX7_hearerOf 54 = .ok (.iload_n 2, 1) := by decide +kernel
theorem dX7_hearerOf_55 : decode cX7_hearerOf 55 = .ok (.if_icmp .ne 63, 3) := by decide +kernel
theorem dX7_hearerOf_58 : decode cX7_hearerOf 58 = .ok (.iload 4, 2) := by decide +kernel
theorem dX7_hearerOf_60 : decode cX7_hearerOf 60 = .ok (.aload_n 0, 1) := by decide +kernel
theorem dX7_hearerOf_61 : decode cX7_hearerOf 61 = .ok (.getfield 28, 3) := by decide +kernel
theorem dX7_hearerOf_64 : decode cX7_hearerOf 64 = .ok (.getfield 44, 3) := by decide +kernel
theorem dX7_hearerOf_67 : decode cX7_hearerOf 67 = .ok (.iload 6, 2) := by decide +kernel
theorem dX7_hearerOf_69 : decode cX7_hearerOf 69 = .ok (.iaload, 1) := by decide +kernel
theorem dX7_hearerOf_70 : decode cX7_hearerOf 70 = .ok (.invokestatic 60, 3) := by decide +kernel
theorem dX7_hearerOf_73 : decode cX7_hearerOf 73 = .ok (.istore 7, 2) := by decide +kernel
theorem dX7_hearerOf_75 : decode cX7_hearerOf 75 = .ok (.iload 7, 2) := by decide +kernel
theorem dX7_hearerOf_77 : decode cX7_hearerOf 77 = .ok (.aload_n 0, 1) := by decide +kernel
theorem dX7_hearerOf_78 : decode cX7_hearerOf 78 = .ok (.getfield 15, 3) := by decide +kernel
theorem dX7_hearerOf_81 : decode cX7_hearerOf 81 = .ok (.if_icmp .ge 18, 3) := by decide +kernel
theorem dX7_hearerOf_84 : decode cX7_hearerOf 84 = .ok (.aload_n 0, 1) := by decide +kernel
theorem dX7_hearerOf_85 : decode cX7_hearerOf 85 = .ok (.iload 7, 2) := by decide +kernel
theorem dX7_hearerOf_87 : decode cX7_hearerOf 87 = .ok (.putfield 15, 3) := by decide +kernel
theorem dX7_hearerOf_90 : decode cX7_hearerOf 90 = .ok (.aload_n 0, 1) := by decide +kernel
theorem dX7_hearerOf_91 : decode cX7_hearerOf 91 = .ok (.iconst 0, 1) := by decide +kernel
theorem dX7_hearerOf_92 : decode cX7_hearerOf 92 = .ok (.putfield 18, 3) := by decide +kernel
theorem dX7_hearerOf_95 : decode cX7_hearerOf 95 = .ok (.iload 6, 2) := by decide +kernel
theorem dX7_hearerOf_97 : decode cX7_hearerOf 97 = .ok (.istore 5, 2) := by decide +kernel
theorem dX7_hearerOf_99 : decode cX7_hearerOf 99 = .ok (.iload 7, 2) := by decide +kernel
theorem dX7_hearerOf_101 : decode cX7_hearerOf 101 = .ok (.aload_n 0, 1) := by decide +kernel
theorem dX7_hearerOf_102 : decode cX7_hearerOf 102 = .ok (.getfield 15, 3) := by decide +kernel
theorem dX7_hearerOf_105 : decode cX7_hearerOf 105 = .ok (.if_icmp .ne 13, 3) := by decide +kernel
theorem dX7_hearerOf_108 : decode cX7_hearerOf 108 = .ok (.aload_n 0, 1) := by decide +kernel
theorem dX7_hearerOf_109 : decode cX7_hearerOf 109 = .ok (.dup, 1) := by decide +kernel
theorem dX7_hearerOf_110 : decode cX7_hearerOf 110 = .ok (.getfield 18, 3) := by decide +kernel
theorem dX7_hearerOf_113 : decode cX7_hearerOf 113 = .ok (.iconst 1, 1) := by decide +kernel
theorem dX7_hearerOf_114 : decode cX7_hearerOf 114 = .ok (.iadd, 1) := by decide +kernel
theorem dX7_hearerOf_115 : decode cX7_hearerOf 115 = .ok (.putfield 18, 3) := by decide +kernel
theorem dX7_hearerOf_118 : decode cX7_hearerOf 118 = .ok (.iinc 6 1, 3) := by decide +kernel
theorem dX7_hearerOf_121 : decode cX7_hearerOf 121 = .ok (.goto (-89), 3) := by decide +kernel
theorem dX7_hearerOf_124 : decode cX7_hearerOf 124 = .ok (.aload_n 0, 1) := by decide +kernel
theorem dX7_hearerOf_125 : decode cX7_hearerOf 125 = .ok (.getfield 18, 3) := by decide +kernel
theorem dX7_hearerOf_128 : decode cX7_hearerOf 128 = .ok (.iconst 1, 1) := by decide +kernel
theorem dX7_hearerOf_129 : decode cX7_hearerOf 129 = .ok (.if_icmp .ne 22, 3) := by decide +kernel
theorem dX7_hearerOf_132 : decode cX7_hearerOf 132 = .ok (.aload_n 0, 1) := by decide +kernel
theorem dX7_hearerOf_133 : decode cX7_hearerOf 133 = .ok (.getfield 15, 3) := by decide +kernel
theorem dX7_hearerOf_136 : decode cX7_hearerOf 136 = .ok (.aload_n 0, 1) := by decide +kernel
theorem dX7_hearerOf_137 : decode cX7_hearerOf 137 = .ok (.getfield 28, 3) := by decide +kernel
theorem dX7_hearerOf_140 : decode cX7_hearerOf 140 = .ok (.getfield 64, 3) := by decide +kernel
theorem dX7_hearerOf_143 : decode cX7_hearerOf 143 = .ok (.if_icmp .gt 8, 3) := by decide +kernel
theorem dX7_hearerOf_146 : decode cX7_hearerOf 146 = .ok (.iload 5, 2) := by decide +kernel
theorem dX7_hearerOf_148 : decode cX7_hearerOf 148 = .ok (.goto 5, 3) := by decide +kernel
theorem dX7_hearerOf_151 : decode cX7_hearerOf 151 = .ok (.bipush (-2), 2) := by decide +kernel
theorem dX7_hearerOf_153 : decode cX7_hearerOf 153 = .ok (.ireturn, 1) := by decide +kernel
theorem dX7_apartness_0 : decode cX7_apartness 0 = .ok (.aload_n 0, 1) := by decide +kernel
theorem dX7_apartness_1 : decode cX7_apartness 1 = .ok (.getfield 28, 3) := by decide +kernel
theorem dX7_apartness_4 : decode cX7_apartness 4 = .ok (.getfield 47, 3) := by decide +kernel
theorem dX7_apartness_7 : decode cX7_apartness 7 = .ok (.iload_n 1, 1) := by decide +kernel
theorem dX7_apartness_8 : decode cX7_apartness 8 = .ok (.iaload, 1) := by decide +kernel
theorem dX7_apartness_9 : decode cX7_apartness 9 = .ok (.aload_n 0, 1) := by decide +kernel
theorem dX7_apartness_10 : decode cX7_apartness 10 = .ok (.getfield 28, 3) := by decide +kernel
theorem dX7_apartness_13 : decode cX7_apartness 13 = .ok (.getfield 47, 3) := by decide +kernel
theorem dX7_apartness_16 : decode cX7_apartness 16 = .ok (.iload_n 2, 1) := by decide +kernel
theorem dX7_apartness_17 : decode cX7_apartness 17 = .ok (.iaload, 1) := by decide +kernel
theorem dX7_apartness_18 : decode cX7_apartness 18 = .ok (.if_icmp .ne 27, 3) := by decide +kernel
theorem dX7_apartness_21 : decode cX7_apartness 21 = .ok (.aload_n 0, 1) := by decide +kernel
theorem dX7_apartness_22 : decode cX7_apartness 22 = .ok (.getfield 28, 3) := by decide +kernel
theorem dX7_apartness_25 : decode cX7_apartness 25 = .ok (.getfield 44, 3) := by decide +kernel
theorem dX7_apartness_28 : decode cX7_apartness 28 = .ok (.iload_n 1, 1) := by decide +kernel
theorem dX7_apartness_29 : decode cX7_apartness 29 = .ok (.iaload, 1) := by decide +kernel
theorem dX7_apartness_30 : decode cX7_apartness 30 = .ok (.aload_n 0, 1) := by decide +kernel
theorem dX7_apartness_31 : decode cX7_apartness 31 = .ok (.getfield 28, 3) := by decide +kernel
theorem dX7_apartness_34 : decode cX7_apartness 34 = .ok (.getfield 44, 3) := by decide +kernel
theorem dX7_apartness_37 : decode cX7_apartness 37 = .ok (.iload_n 2, 1) := by decide +kernel
theorem dX7_apartness_38 : decode cX7_apartness 38 = .ok (.iaload, 1) := by decide +kernel
theorem dX7_apartness_39 : decode cX7_apartness 39 = .ok (.invokestatic 60, 3) := by decide +kernel
theorem dX7_apartness_42 : decode cX7_apartness 42 = .ok (.goto 5, 3) := by decide +kernel
theorem dX7_apartness_45 : decode cX7_apartness 45 = .ok (.bipush (-2), 2) := by decide +kernel
theorem dX7_apartness_47 : decode cX7_apartness 47 = .ok (.ireturn, 1) := by decide +kernel
theorem dX7_bearable_0 : decode cX7_bearable 0 = .ok (.bipush (-2), 2) := by decide +kernel
theorem dX7_bearable_2 : decode cX7_bearable 2 = .ok (.istore_n 1, 1) := by decide +kernel
theorem dX7_bearable_3 : decode cX7_bearable 3 = .ok (.iconst 0, 1) := by decide +kernel
theorem dX7_bearable_4 : decode cX7_bearable 4 = .ok (.istore_n 2, 1) := by decide +kernel
theorem dX7_bearable_5 : decode cX7_bearable 5 = .ok (.iload_n 2, 1) := by decide +kernel
theorem dX7_bearable_6 : decode cX7_bearable 6 = .ok (.aload_n 0, 1) := by decide +kernel
theorem dX7_bearable_7 : decode cX7_bearable 7 = .ok (.getfield 28, 3) := by decide +kernel
theorem dX7_bearable_10 : decode cX7_bearable 10 = .ok (.getfield 57, 3) := by decide +kernel
theorem dX7_bearable_13 : decode cX7_bearable 13 = .ok (.if_icmp .ge 60, 3) := by decide +kernel
theorem dX7_bearable_16 : decode cX7_bearable 16 = .ok (.iconst 0, 1) := by decide +kernel
theorem dX7_bearable_17 : decode cX7_bearable 17 = .ok (.istore_n 3, 1) := by decide +kernel
theorem dX7_bearable_18 : decode cX7_bearable 18 = .ok (.iload_n 3, 1) := by decide +kernel
theorem dX7_bearable_19 : decode cX7_bearable 19 = .ok (.iload_n 2, 1) := by decide +kernel
theorem dX7_bearable_20 : decode cX7_bearable 20 = .ok (.if_icmp .ge 47, 3) := by decide +kernel
theorem dX7_bearable_23 : decode cX7_bearable 23 = .ok (.aload_n 0, 1) := by decide +kernel
theorem dX7_bearable_24 : decode cX7_bearable 24 = .ok (.iload_n 2, 1) := by decide +kernel
theorem dX7_bearable_25 : decode cX7_bearable 25 = .ok (.iload_n 3, 1) := by decide +kernel
theorem dX7_bearable_26 : decode cX7_bearable 26 = .ok (.invokevirtual 67, 3) := by decide +kernel
theorem dX7_bearable_29 : decode cX7_bearable 29 = .ok (.istore 4, 2) := by decide +kernel
theorem dX7_bearable_31 : decode cX7_bearable 31 = .ok (.iload 4, 2) := by decide +kernel
theorem dX7_bearable_33 : decode cX7_bearable 33 = .ok (.bipush (-2), 2) := by decide +kernel
theorem dX7_bearable_35 : decode cX7_bearable 35 = .ok (.if_icmp .eq 26, 3) := by decide +kernel
theorem dX7_bearable_38 : decode cX7_bearable 38 = .ok (.iload_n 1, 1) := by decide +kernel
theorem dX7_bearable_39 : decode cX7_bearable 39 = .ok (.bipush (-2), 2) := by decide +kernel
theorem dX7_bearable_41 : decode cX7_bearable 41 = .ok (.if_icmp .eq 13, 3) := by decide +kernel
theorem dX7_bearable_44 : decode cX7_bearable 44 = .ok (.iload 4, 2) := by decide +kernel
theorem dX7_bearable_46 : decode cX7_bearable 46 = .ok (.iconst 1, 1) := by decide +kernel
theorem dX7_bearable_47 : decode cX7_bearable 47 = .ok (.isub, 1) := by decide +kernel
theorem dX7_bearable_48 : decode cX7_bearable 48 = .ok (.iconst 2, 1) := by decide +kernel
theorem dX7_bearable_49 : decode cX7_bearable 49 = .ok (.idiv, 1) := by decide +kernel
theorem dX7_bearable_50 : decode cX7_bearable 50 = .ok (.iload_n 1, 1) := by decide +kernel
theorem dX7_bearable_51 : decode cX7_bearable 51 = .ok (.if_icmp .ge 10, 3) := by decide +kernel
theorem dX7_bearable_54 : decode cX7_bearable 54 = .ok (.iload 4, 2) := by decide +kernel
theorem dX7_bearable_56 : decode cX7_bearable 56 = .ok (.iconst 1, 1) := by decide +kernel
theorem dX7_bearable_57 : decode cX7_bearable 57 = .ok (.isub, 1) := by decide +kernel
theorem dX7_bearable_58 : decode cX7_bearable 58 = .ok (.iconst 2, 1) := by decide +kernel
theorem dX7_bearable_59 : decode cX7_bearable 59 = .ok (.idiv, 1) := by decide +kernel
theorem dX7_bearable_60 : decode cX7_bearable 60 = .ok (.istore_n 1, 1) := by decide +kernel
theorem dX7_bearable_61 : decode cX7_bearable 61 = .ok (.iinc 3 1, 3) := by decide +kernel
theorem dX7_bearable_64 : decode cX7_bearable 64 = .ok (.goto (-46), 3) := by decide +kernel
theorem dX7_bearable_67 : decode cX7_bearable 67 = .ok (.iinc 2 1, 3) := by decide +kernel
theorem dX7_bearable_70 : decode cX7_bearable 70 = .ok (.goto (-65), 3) := by decide +kernel
theorem dX7_bearable_73 : decode cX7_bearable 73 = .ok (.iload_n 1, 1) := by decide +kernel
theorem dX7_bearable_74 : decode cX7_bearable 74 = .ok (.ireturn, 1) := by decide +kernel
theorem dX7_mixedPairs_0 : decode cX7_mixedPairs 0 = .ok (.iconst 0, 1) := by decide +kernel
theorem dX7_mixedPairs_1 : decode cX7_mixedPairs 1 = .ok (.istore_n 1, 1) := by decide +kernel
theorem dX7_mixedPairs_2 : decode cX7_mixedPairs 2 = .ok (.iconst 0, 1) := by decide +kernel
theorem dX7_mixedPairs_3 : decode cX7_mixedPairs 3 = .ok (.istore_n 2, 1) := by decide +kernel
theorem dX7_mixedPairs_4 : decode cX7_mixedPairs 4 = .ok (.iload_n 2, 1) := by decide +kernel
theorem dX7_mixedPairs_5 : decode cX7_mixedPairs 5 = .ok (.aload_n 0, 1) := by decide +kernel
theorem dX7_mixedPairs_6 : decode cX7_mixedPairs 6 = .ok (.getfield 28, 3) := by decide +kernel
theorem dX7_mixedPairs_9 : decode cX7_mixedPairs 9 = .ok (.getfield 57, 3) := by decide +kernel
theorem dX7_mixedPairs_12 : decode cX7_mixedPairs 12 = .ok (.if_icmp .ge 54, 3) := by decide +kernel
theorem dX7_mixedPairs_15 : decode cX7_mixedPairs 15 = .ok (.iconst 0, 1) := by decide +kernel
theorem dX7_mixedPairs_16 : decode cX7_mixedPairs 16 = .ok (.istore_n 3, 1) := by decide +kernel
theorem dX7_mixedPairs_17 : decode cX7_mixedPairs 17 = .ok (.iload_n 3, 1) := by decide +kernel
theorem dX7_mixedPairs_18 : decode cX7_mixedPairs 18 = .ok (.iload_n 2, 1) := by decide +kernel
theorem dX7_mixedPairs_19 : decode cX7_mixedPairs 19 = .ok (.if_icmp .ge 41, 3) := by decide +kernel
theorem dX7_mixedPairs_22 : decode cX7_mixedPairs 22 = .ok (.aload_n 0, 1) := by decide +kernel
theorem dX7_mixedPairs_23 : decode cX7_mixedPairs 23 = .ok (.iload_n 2, 1) := by decide +kernel
theorem dX7_mixedPairs_24 : decode cX7_mixedPairs 24 = .ok (.iload_n 3, 1) := by decide +kernel
theorem dX7_mixedPairs_25 : decode cX7_mixedPairs 25 = .ok (.invokevirtual 67, 3) := by decide +kernel
theorem dX7_mixedPairs_28 : decode cX7_mixedPairs 28 = .ok (.istore 4, 2) := by decide +kernel
theorem dX7_mixedPairs_30 : decode cX7_mixedPairs 30 = .ok (.iload 4, 2) := by decide +kernel
theorem dX7_mixedPairs_32 : decode cX7_mixedPairs 32 = .ok (.bipush (-2), 2) := by decide +kernel
theorem dX7_mixedPairs_34 : decode cX7_mixedPairs 34 = .ok (.if_icmp .eq 20, 3) := by decide +kernel
theorem dX7_mixedPairs_37 : decode cX7_mixedPairs 37 = .ok (.iload 4, 2) := by decide +kernel
theorem dX7_mixedPairs_39 : decode cX7_mixedPairs 39 = .ok (.iconst 2, 1) := by decide +kernel
theorem dX7_mixedPairs_40 : decode cX7_mixedPairs 40 = .ok (.aload_n 0, 1) := by decide +kernel
theorem dX7_mixedPairs_41 : decode cX7_mixedPairs 41 = .ok (.getfield 28, 3) := by decide +kernel
theorem dX7_mixedPairs_44 : decode cX7_mixedPairs 44 = .ok (.getfield 64, 3) := by decide +kernel
theorem dX7_mixedPairs_47 : decode cX7_mixedPairs 47 = .ok (.imul, 1) := by decide +kernel
theorem dX7_mixedPairs_48 : decode cX7_mixedPairs 48 = .ok (.if_icmp .gt 6, 3) := by decide +kernel
theorem dX7_mixedPairs_51 : decode cX7_mixedPairs 51 = .ok (.iinc 1 1, 3) := by decide +kernel
theorem dX7_mixedPairs_54 : decode cX7_mixedPairs 54 = .ok (.iinc 3 1, 3) := by decide +kernel
theorem dX7_mixedPairs_57 : decode cX7_mixedPairs 57 = .ok (.goto (-40), 3) := by decide +kernel
theorem dX7_mixedPairs_60 : decode cX7_mixedPairs 60 = .ok (.iinc 2 1, 3) := by decide +kernel
theorem dX7_mixedPairs_63 : decode cX7_mixedPairs 63 = .ok (.goto (-59), 3) := by decide +kernel
theorem dX7_mixedPairs_66 : decode cX7_mixedPairs 66 = .ok (.iload_n 1, 1) := by decide +kernel
theorem dX7_mixedPairs_67 : decode cX7_mixedPairs 67 = .ok (.ireturn, 1) := by decide +kernel
theorem dX7_findNew_0 : decode cX7_findNew 0 = .ok (.aload_n 0, 1) := by decide +kernel
theorem dX7_findNew_1 : decode cX7_findNew 1 = .ok (.iload_n 1, 1) := by decide +kernel
theorem dX7_findNew_2 : decode cX7_findNew 2 = .ok (.iload_n 3, 1) := by decide +kernel
theorem dX7_findNew_3 : decode cX7_findNew 3 = .ok (.invokevirtual 70, 3) := by decide +kernel
theorem dX7_findNew_6 : decode cX7_findNew 6 = .ok (.istore 5, 2) := by decide +kernel
theorem dX7_findNew_8 : decode cX7_findNew 8 = .ok (.iload 5, 2) := by decide +kernel
theorem dX7_findNew_10 : decode cX7_findNew 10 = .ok (.istore 6, 2) := by decide +kernel
theorem dX7_findNew_12 : decode cX7_findNew 12 = .ok (.iconst 0, 1) := by decide +kernel
theorem dX7_findNew_13 : decode cX7_findNew 13 = .ok (.istore 7, 2) := by decide +kernel
theorem dX7_findNew_15 : decode cX7_findNew 15 = .ok (.aload_n 0, 1) := by decide +kernel
theorem dX7_findNew_16 : decode cX7_findNew 16 = .ok (.bipush (-2), 2) := by decide +kernel
theorem dX7_findNew_18 : decode cX7_findNew 18 = .ok (.putfield 21, 3) := by decide +kernel
theorem dX7_findNew_21 : decode cX7_findNew 21 = .ok (.iconst 0, 1) := by decide +kernel
theorem dX7_findNew_22 : decode cX7_findNew 22 = .ok (.istore 8, 2) := by decide +kernel
theorem dX7_findNew_24 : decode cX7_findNew 24 = .ok (.iload 8, 2) := by decide +kernel
theorem dX7_findNew_26 : decode cX7_findNew 26 = .ok (.iconst 1, 1) := by decide +kernel
theorem dX7_findNew_27 : decode cX7_findNew 27 = .ok (.iconst 2, 1) := by decide +kernel
theorem dX7_findNew_28 : decode cX7_findNew 28 = .ok (.iload_n 1, 1) := by decide +kernel
theorem dX7_findNew_29 : decode cX7_findNew 29 = .ok (.imul, 1) := by decide +kernel
theorem dX7_findNew_30 : decode cX7_findNew 30 = .ok (.ishl, 1) := by decide +kernel
theorem dX7_findNew_31 : decode cX7_findNew 31 = .ok (.if_icmp .ge 88, 3) := by decide +kernel
theorem dX7_findNew_34 : decode cX7_findNew 34 = .ok (.iload 6, 2) := by decide +kernel
theorem dX7_findNew_36 : decode cX7_findNew 36 = .ok (.iload 5, 2) := by decide +kernel
theorem dX7_findNew_38 : decode cX7_findNew 38 = .ok (.isub, 1) := by decide +kernel
theorem dX7_findNew_39 : decode cX7_findNew 39 = .ok (.iload 4, 2) := by decide +kernel
theorem dX7_findNew_41 : decode cX7_findNew 41 = .ok (.if_icmp .ge 78, 3) := by decide +kernel
theorem dX7_findNew_44 : decode cX7_findNew 44 = .ok (.aload_n 0, 1) := by decide +kernel
theorem dX7_findNew_45 : decode cX7_findNew 45 = .ok (.iload 8, 2) := by decide +kernel
theorem dX7_findNew_47 : decode cX7_findNew 47 = .ok (.iload_n 1, 1) := by decide +kernel
theorem dX7_findNew_48 : decode cX7_findNew 48 = .ok (.invokevirtual 73, 3) := by decide +kernel
theorem dX7_findNew_51 : decode cX7_findNew 51 = .ok (.ifCond .eq 62, 3) := by decide +kernel
theorem dX7_findNew_54 : decode cX7_findNew 54 = .ok (.aload_n 0, 1) := by decide +kernel
theorem dX7_findNew_55 : decode cX7_findNew 55 = .ok (.iload 8, 2) := by decide +kernel
theorem dX7_findNew_57 : decode cX7_findNew 57 = .ok (.iload_n 2, 1) := by decide +kernel
theorem dX7_findNew_58 : decode cX7_findNew 58 = .ok (.iload_n 2, 1) := by decide +kernel
theorem dX7_findNew_59 : decode cX7_findNew 59 = .ok (.iconst 1, 1) := by decide +kernel
theorem dX7_findNew_60 : decode cX7_findNew 60 = .ok (.if_icmp .ne 8, 3) := by decide +kernel
theorem dX7_findNew_63 : decode cX7_findNew 63 = .ok (.iload 5, 2) := by decide +kernel
theorem dX7_findNew_65 : decode cX7_findNew 65 = .ok (.goto 5, 3) := by decide +kernel
theorem dX7_findNew_68 : decode cX7_findNew 68 = .ok (.iload 6, 2) := by decide +kernel
theorem dX7_findNew_70 : decode cX7_findNew 70 = .ok (.invokevirtual 77, 3) := by decide +kernel
theorem dX7_findNew_73 : decode cX7_findNew 73 = .ok (.ifCond .eq 37, 3) := by decide +kernel
theorem dX7_findNew_76 : decode cX7_findNew 76 = .ok (.aload_n 0, 1) := by decide +kernel
theorem dX7_findNew_77 : decode cX7_findNew 77 = .ok (.getfield 24, 3) := by decide +kernel
theorem dX7_findNew_80 : decode cX7_findNew 80 = .ok (.iload 6, 2) := by decide +kernel
theorem dX7_findNew_82 : decode cX7_findNew 82 = .ok (.iload 8, 2) := by decide +kernel
theorem dX7_findNew_84 : decode cX7_findNew 84 = .ok (.iastore, 1) := by decide +kernel
theorem dX7_findNew_85 : decode cX7_findNew 85 = .ok (.iinc 6 1, 3) := by decide +kernel
theorem dX7_findNew_88 : decode cX7_findNew 88 = .ok (.aload_n 0, 1) := by decide +kernel
theorem dX7_findNew_89 : decode cX7_findNew 89 = .ok (.aload_n 0, 1) := by decide +kernel
theorem dX7_findNew_90 : decode cX7_findNew 90 = .ok (.getfield 21, 3) := by decide +kernel
theorem dX7_findNew_93 : decode cX7_findNew 93 = .ok (.bipush (-2), 2) := by decide +kernel
theorem dX7_findNew_95 : decode cX7_findNew 95 = .ok (.if_icmp .ne 8, 3) := by decide +kernel
theorem dX7_findNew_98 : decode cX7_findNew 98 = .ok (.iload 7, 2) := by decide +kernel
theorem dX7_findNew_100 : decode cX7_findNew 100 = .ok (.goto 7, 3) := by decide +kernel
theorem dX7_findNew_103 : decode cX7_findNew 103 = .ok (.aload_n 0, 1) := by decide +kernel
theorem dX7_findNew_104 : decode cX7_findNew 104 = .ok (.getfield 21, 3) := by decide +kernel
theorem dX7_findNew_107 : decode cX7_findNew 107 = .ok (.putfield 21, 3) := by decide +kernel
theorem dX7_findNew_110 : decode cX7_findNew 110 = .ok (.iinc 7 1, 3) := by decide +kernel
theorem dX7_findNew_113 : decode cX7_findNew 113 = .ok (.iinc 8 1, 3) := by decide +kernel
theorem dX7_findNew_116 : decode cX7_findNew 116 = .ok (.goto (-92), 3) := by decide +kernel
theorem dX7_findNew_119 : decode cX7_findNew 119 = .ok (.iload 6, 2) := by decide +kernel
theorem dX7_findNew_121 : decode cX7_findNew 121 = .ok (.iload 5, 2) := by decide +kernel
theorem dX7_findNew_123 : decode cX7_findNew 123 = .ok (.isub, 1) := by decide +kernel
theorem dX7_findNew_124 : decode cX7_findNew 124 = .ok (.ireturn, 1) := by decide +kernel
theorem dX7_keepSongsOf_0 : decode cX7_keepSongsOf 0 = .ok (.iconst 0, 1) := by decide +kernel
theorem dX7_keepSongsOf_1 : decode cX7_keepSongsOf 1 = .ok (.istore_n 3, 1) := by decide +kernel
theorem dX7_keepSongsOf_2 : decode cX7_keepSongsOf 2 = .ok (.iconst 0, 1) := by decide +kernel
theorem dX7_keepSongsOf_3 : decode cX7_keepSongsOf 3 = .ok (.istore 4, 2) := by decide +kernel
theorem dX7_keepSongsOf_5 : decode cX7_keepSongsOf 5 = .ok (.iload 4, 2) := by decide +kernel
theorem dX7_keepSongsOf_7 : decode cX7_keepSongsOf 7 = .ok (.aload_n 0, 1) := by decide +kernel
theorem dX7_keepSongsOf_8 : decode cX7_keepSongsOf 8 = .ok (.getfield 28, 3) := by decide +kernel
theorem dX7_keepSongsOf_11 : decode cX7_keepSongsOf 11 = .ok (.getfield 57, 3) := by decide +kernel
theorem dX7_keepSongsOf_14 : decode cX7_keepSongsOf 14 = .ok (.if_icmp .ge 39, 3) := by decide +kernel
theorem dX7_keepSongsOf_17 : decode cX7_keepSongsOf 17 = .ok (.aload_n 0, 1) := by decide +kernel
theorem dX7_keepSongsOf_18 : decode cX7_keepSongsOf 18 = .ok (.getfield 28, 3) := by decide +kernel
theorem dX7_keepSongsOf_21 : decode cX7_keepSongsOf 21 = .ok (.getfield 47, 3) := by decide +kernel
theorem dX7_keepSongsOf_24 : decode cX7_keepSongsOf 24 = .ok (.iload 4, 2) := by decide +kernel
theorem dX7_keepSongsOf_26 : decode cX7_keepSongsOf 26 = .ok (.iaload, 1) := by decide +kernel
theorem dX7_keepSongsOf_27 : decode cX7_keepSongsOf 27 = .ok (.iload_n 1, 1) := by decide +kernel
theorem dX7_keepSongsOf_28 : decode cX7_keepSongsOf 28 = .ok (.if_icmp .ne 19, 3) := by decide +kernel
theorem dX7_keepSongsOf_31 : decode cX7_keepSongsOf 31 = .ok (.aload_n 0, 1) := by decide +kernel
theorem dX7_keepSongsOf_32 : decode cX7_keepSongsOf 32 = .ok (.getfield 24, 3) := by decide +kernel
theorem dX7_keepSongsOf_35 : decode cX7_keepSongsOf 35 = .ok (.iload_n 3, 1) := by decide +kernel
theorem dX7_keepSongsOf_36 : decode cX7_keepSongsOf 36 = .ok (.aload_n 0, 1) := by decide +kernel
theorem dX7_keepSongsOf_37 : decode cX7_keepSongsOf 37 = .ok (.iload 4, 2) := by decide +kernel
theorem dX7_keepSongsOf_39 : decode cX7_keepSongsOf 39 = .ok (.iload_n 2, 1) := by decide +kernel
theorem dX7_keepSongsOf_40 : decode cX7_keepSongsOf 40 = .ok (.invokevirtual 81, 3) := by decide +kernel
theorem dX7_keepSongsOf_43 : decode cX7_keepSongsOf 43 = .ok (.iastore, 1) := by decide +kernel
theorem dX7_keepSongsOf_44 : decode cX7_keepSongsOf 44 = .ok (.iinc 3 1, 3) := by decide +kernel
theorem dX7_keepSongsOf_47 : decode cX7_keepSongsOf 47 = .ok (.iinc 4 1, 3) := by decide +kernel
theorem dX7_keepSongsOf_50 : decode cX7_keepSongsOf 50 = .ok (.goto (-45), 3) := by decide +kernel
theorem dX7_keepSongsOf_53 : decode cX7_keepSongsOf 53 = .ok (.iload_n 3, 1) := by decide +kernel
theorem dX7_keepSongsOf_54 : decode cX7_keepSongsOf 54 = .ok (.ireturn, 1) := by decide +kernel
theorem dX7_isOfNotes_0 : decode cX7_isOfNotes 0 = .ok (.iconst 0, 1) := by decide +kernel
theorem dX7_isOfNotes_1 : decode cX7_isOfNotes 1 = .ok (.istore_n 3, 1) := by decide +kernel
theorem dX7_isOfNotes_2 : decode cX7_isOfNotes 2 = .ok (.iload_n 3, 1) := by decide +kernel
theorem dX7_isOfNotes_3 : decode cX7_isOfNotes 3 = .ok (.iload_n 2, 1) := by decide +kernel
theorem dX7_isOfNotes_4 : decode cX7_isOfNotes 4 = .ok (.if_icmp .ge 27, 3) := by decide +kernel
theorem dX7_isOfNotes_7 : decode cX7_isOfNotes 7 = .ok (.iload_n 1, 1) := by decide +kernel
theorem dX7_isOfNotes_8 : decode cX7_isOfNotes 8 = .ok (.iload_n 2, 1) := by decide +kernel
theorem dX7_isOfNotes_9 : decode cX7_isOfNotes 9 = .ok (.iload_n 3, 1) := by decide +kernel
theorem dX7_isOfNotes_10 : decode cX7_isOfNotes 10 = .ok (.invokestatic 40, 3) := by decide +kernel
theorem dX7_isOfNotes_13 : decode cX7_isOfNotes 13 = .ok (.aload_n 0, 1) := by decide +kernel
theorem dX7_isOfNotes_14 : decode cX7_isOfNotes 14 = .ok (.getfield 28, 3) := by decide +kernel
theorem dX7_isOfNotes_17 : decode cX7_isOfNotes 17 = .ok (.getfield 37, 3) := by decide +kernel
theorem dX7_isOfNotes_20 : decode cX7_isOfNotes 20 = .ok (.if_icmp .lt 5, 3) := by decide +kernel
theorem dX7_isOfNotes_23 : decode cX7_isOfNotes 23 = .ok (.iconst 0, 1) := by decide +kernel
theorem dX7_isOfNotes_24 : decode cX7_isOfNotes 24 = .ok (.ireturn, 1) := by decide +kernel
theorem dX7_isOfNotes_25 : decode cX7_isOfNotes 25 = .ok (.iinc 3 1, 3) := by decide +kernel
theorem dX7_isOfNotes_28 : decode cX7_isOfNotes 28 = .ok (.goto (-26), 3) := by decide +kernel
theorem dX7_isOfNotes_31 : decode cX7_isOfNotes 31 = .ok (.iconst 1, 1) := by decide +kernel
theorem dX7_isOfNotes_32 : decode cX7_isOfNotes 32 = .ok (.ireturn, 1) := by decide +kernel
theorem dX7_isFarFromKept_0 : decode cX7_isFarFromKept 0 = .ok (.iconst 0, 1) := by decide +kernel
theorem dX7_isFarFromKept_1 : decode cX7_isFarFromKept 1 = .ok (.istore 4, 2) := by decide +kernel
theorem dX7_isFarFromKept_3 : decode cX7_isFarFromKept 3 = .ok (.iload 4, 2) := by decide +kernel
theorem dX7_isFarFromKept_5 : decode cX7_isFarFromKept 5 = .ok (.iload_n 3, 1) := by decide +kernel
theorem dX7_isFarFromKept_6 : decode cX7_isFarFromKept 6 = .ok (.if_icmp .ge 26, 3) := by decide +kernel
theorem dX7_isFarFromKept_9 : decode cX7_isFarFromKept 9 = .ok (.iload_n 1, 1) := by decide +kernel
theorem dX7_isFarFromKept_10 : decode cX7_isFarFromKept 10 = .ok (.aload_n 0, 1) := by decide +kernel
theorem dX7_isFarFromKept_11 : decode cX7_isFarFromKept 11 = .ok (.getfield 24, 3) := by decide +kernel
theorem dX7_isFarFromKept_14 : decode cX7_isFarFromKept 14 = .ok (.iload 4, 2) := by decide +kernel
theorem dX7_isFarFromKept_16 : decode cX7_isFarFromKept 16 = .ok (.iaload, 1) := by decide +kernel
theorem dX7_isFarFromKept_17 : decode cX7_isFarFromKept 17 = .ok (.invokestatic 60, 3) := by decide +kernel
theorem dX7_isFarFromKept_20 : decode cX7_isFarFromKept 20 = .ok (.iload_n 2, 1) := by decide +kernel
theorem dX7_isFarFromKept_21 : decode cX7_isFarFromKept 21 = .ok (.if_icmp .ge 5, 3) := by decide +kernel
theorem dX7_isFarFromKept_24 : decode cX7_isFarFromKept 24 = .ok (.iconst 0, 1) := by decide +kernel
theorem dX7_isFarFromKept_25 : decode cX7_isFarFromKept 25 = .ok (.ireturn, 1) := by decide +kernel
theorem dX7_isFarFromKept_26 : decode cX7_isFarFromKept 26 = .ok (.iinc 4 1, 3) := by decide +kernel
theorem dX7_isFarFromKept_29 : decode cX7_isFarFromKept 29 = .ok (.goto (-26), 3) := by decide +kernel
theorem dX7_isFarFromKept_32 : decode cX7_isFarFromKept 32 = .ok (.iconst 1, 1) := by decide +kernel
theorem dX7_isFarFromKept_33 : decode cX7_isFarFromKept 33 = .ok (.ireturn, 1) := by decide +kernel
theorem dX7_draw_0 : decode cX7_draw 0 = .ok (.aload_n 0, 1) := by decide +kernel
theorem dX7_draw_1 : decode cX7_draw 1 = .ok (.bipush 75, 2) := by decide +kernel
theorem dX7_draw_3 : decode cX7_draw 3 = .ok (.aload_n 0, 1) := by decide +kernel
theorem dX7_draw_4 : decode cX7_draw 4 = .ok (.getfield 9, 3) := by decide +kernel
theorem dX7_draw_7 : decode cX7_draw 7 = .ok (.imul, 1) := by decide +kernel
theorem dX7_draw_8 : decode cX7_draw 8 = .ok (.bipush 74, 2) := by decide +kernel
theorem dX7_draw_10 : decode cX7_draw 10 = .ok (.iadd, 1) := by decide +kernel
theorem dX7_draw_11 : decode cX7_draw 11 = .ok (.ldc 84, 2) := by decide +kernel
theorem dX7_draw_13 : decode cX7_draw 13 = .ok (.irem, 1) := by decide +kernel
theorem dX7_draw_14 : decode cX7_draw 14 = .ok (.putfield 9, 3) := by decide +kernel
theorem dX7_draw_17 : decode cX7_draw 17 = .ok (.aload_n 0, 1) := by decide +kernel
theorem dX7_draw_18 : decode cX7_draw 18 = .ok (.getfield 9, 3) := by decide +kernel
theorem dX7_draw_21 : decode cX7_draw 21 = .ok (.ireturn, 1) := by decide +kernel
theorem dX7_slipped_0 : decode cX7_slipped 0 = .ok (.aload_n 0, 1) := by decide +kernel
theorem dX7_slipped_1 : decode cX7_slipped 1 = .ok (.invokevirtual 85, 3) := by decide +kernel
theorem dX7_slipped_4 : decode cX7_slipped 4 = .ok (.bipush 100, 2) := by decide +kernel
theorem dX7_slipped_6 : decode cX7_slipped 6 = .ok (.irem, 1) := by decide +kernel
theorem dX7_slipped_7 : decode cX7_slipped 7 = .ok (.aload_n 0, 1) := by decide +kernel
theorem dX7_slipped_8 : decode cX7_slipped 8 = .ok (.getfield 28, 3) := by decide +kernel
theorem dX7_slipped_11 : decode cX7_slipped 11 = .ok (.getfield 89, 3) := by decide +kernel
theorem dX7_slipped_14 : decode cX7_slipped 14 = .ok (.if_icmp .ge 17, 3) := by decide +kernel
theorem dX7_slipped_17 : decode cX7_slipped 17 = .ok (.iload_n 2, 1) := by decide +kernel
theorem dX7_slipped_18 : decode cX7_slipped 18 = .ok (.ifCond .le 13, 3) := by decide +kernel
theorem dX7_slipped_21 : decode cX7_slipped 21 = .ok (.aload_n 0, 1) := by decide +kernel
theorem dX7_slipped_22 : decode cX7_slipped 22 = .ok (.getfield 28, 3) := by decide +kernel
theorem dX7_slipped_25 : decode cX7_slipped 25 = .ok (.getfield 37, 3) := by decide +kernel
theorem dX7_slipped_28 : decode cX7_slipped 28 = .ok (.ifCond .gt 5, 3) := by decide +kernel
theorem dX7_slipped_31 : decode cX7_slipped 31 = .ok (.iload_n 1, 1) := by decide +kernel
theorem dX7_slipped_32 : decode cX7_slipped 32 = .ok (.ireturn, 1) := by decide +kernel
theorem dX7_slipped_33 : decode cX7_slipped 33 = .ok (.aload_n 0, 1) := by decide +kernel
theorem dX7_slipped_34 : decode cX7_slipped 34 = .ok (.invokevirtual 85, 3) := by decide +kernel
theorem dX7_slipped_37 : decode cX7_slipped 37 = .ok (.iload_n 2, 1) := by decide +kernel
theorem dX7_slipped_38 : decode cX7_slipped 38 = .ok (.irem, 1) := by decide +kernel
theorem dX7_slipped_39 : decode cX7_slipped 39 = .ok (.istore_n 3, 1) := by decide +kernel
theorem dX7_slipped_40 : decode cX7_slipped 40 = .ok (.iload_n 1, 1) := by decide +kernel
theorem dX7_slipped_41 : decode cX7_slipped 41 = .ok (.iload_n 2, 1) := by decide +kernel
theorem dX7_slipped_42 : decode cX7_slipped 42 = .ok (.iload_n 3, 1) := by decide +kernel
theorem dX7_slipped_43 : decode cX7_slipped 43 = .ok (.aload_n 0, 1) := by decide +kernel
theorem dX7_slipped_44 : decode cX7_slipped 44 = .ok (.invokevirtual 85, 3) := by decide +kernel
theorem dX7_slipped_47 : decode cX7_slipped 47 = .ok (.aload_n 0, 1) := by decide +kernel
theorem dX7_slipped_48 : decode cX7_slipped 48 = .ok (.getfield 28, 3) := by decide +kernel
theorem dX7_slipped_51 : decode cX7_slipped 51 = .ok (.getfield 37, 3) := by decide +kernel
theorem dX7_slipped_54 : decode cX7_slipped 54 = .ok (.irem, 1) := by decide +kernel
theorem dX7_slipped_55 : decode cX7_slipped 55 = .ok (.invokestatic 92, 3) := by decide +kernel
theorem dX7_slipped_58 : decode cX7_slipped 58 = .ok (.ireturn, 1) := by decide +kernel
theorem dX8_init_0 : decode cX8_init 0 = .ok (.aload_n 0, 1) := by decide +kernel
theorem dX8_init_1 : decode cX8_init 1 = .ok (.invokespecial 1, 3) := by decide +kernel
theorem dX8_init_4 : decode cX8_init 4 = .ok (.return_, 1) := by decide +kernel
theorem dX9_init_0 : decode cX9_init 0 = .ok (.aload_n 0, 1) := by decide +kernel
theorem dX9_init_1 : decode cX9_init 1 = .ok (.invokespecial 1, 3) := by decide +kernel
theorem dX9_init_4 : decode cX9_init 4 = .ok (.return_, 1) := by decide +kernel
theorem dX10_init_0 : decode cX10_init 0 = .ok (.aload_n 0, 1) := by decide +kernel
theorem dX10_init_1 : decode cX10_init 1 = .ok (.invokespecial 1, 3) := by decide +kernel
theorem dX10_init_4 : decode cX10_init 4 = .ok (.return_, 1) := by decide +kernel
theorem dX11_init_0 : decode cX11_init 0 = .ok (.aload_n 0, 1) := by decide +kernel
theorem dX11_init_1 : decode cX11_init 1 = .ok (.invokespecial 1, 3) := by decide +kernel
theorem dX11_init_4 : decode cX11_init 4 = .ok (.aload_n 0, 1) := by decide +kernel
theorem dX11_init_5 : decode cX11_init 5 = .ok (.sipush 1000, 3) := by decide +kernel
theorem dX11_init_8 : decode cX11_init 8 = .ok (.newarray .byte, 2) := by decide +kernel
theorem dX11_init_10 : decode cX11_init 10 = .ok (.putfield 9, 3) := by decide +kernel
theorem dX11_init_13 : decode cX11_init 13 = .ok (.aload_n 0, 1) := by decide +kernel
theorem dX11_init_14 : decode cX11_init 14 = .ok (.iconst 0, 1) := by decide +kernel
theorem dX11_init_15 : decode cX11_init 15 = .ok (.putfield 13, 3) := by decide +kernel
theorem dX11_init_18 : decode cX11_init 18 = .ok (.aload_n 0, 1) := by decide +kernel
theorem dX11_init_19 : decode cX11_init 19 = .ok (.iconst 0, 1) := by decide +kernel
theorem dX11_init_20 : decode cX11_init 20 = .ok (.putfield 17, 3) := by decide +kernel
theorem dX11_init_23 : decode cX11_init 23 = .ok (.aload_n 0, 1) := by decide +kernel
theorem dX11_init_24 : decode cX11_init 24 = .ok (.new 20, 3) := by decide +kernel
theorem dX11_init_27 : decode cX11_init 27 = .ok (.dup, 1) := by decide +kernel
theorem dX11_init_28 : decode cX11_init 28 = .ok (.invokespecial 22, 3) := by decide +kernel
theorem dX11_init_31 : decode cX11_init 31 = .ok (.putfield 23, 3) := by decide +kernel
theorem dX11_init_34 : decode cX11_init 34 = .ok (.aload_n 0, 1) := by decide +kernel
theorem dX11_init_35 : decode cX11_init 35 = .ok (.new 20, 3) := by decide +kernel
theorem dX11_init_38 : decode cX11_init 38 = .ok (.dup, 1) := by decide +kernel
theorem dX11_init_39 : decode cX11_init 39 = .ok (.invokespecial 22, 3) := by decide +kernel
theorem dX11_init_42 : decode cX11_init 42 = .ok (.putfield 27, 3) := by decide +kernel
theorem dX11_init_45 : decode cX11_init 45 = .ok (.aload_n 0, 1) := by decide +kernel
theorem dX11_init_46 : decode cX11_init 46 = .ok (.new 30, 3) := by decide +kernel
theorem dX11_init_49 : decode cX11_init 49 = .ok (.dup, 1) := by decide +kernel
theorem dX11_init_50 : decode cX11_init 50 = .ok (.aload_n 0, 1) := by decide +kernel
theorem dX11_init_51 : decode cX11_init 51 = .ok (.getfield 9, 3) := by decide +kernel
theorem dX11_init_54 : decode cX11_init 54 = .ok (.aload_n 0, 1) := by decide +kernel
theorem dX11_init_55 : decode cX11_init 55 = .ok (.getfield 27, 3) := by decide +kernel
theorem dX11_init_58 : decode cX11_init 58 = .ok (.invokespecial 32, 3) := by decide +kernel
theorem dX11_init_61 : decode cX11_init 61 = .ok (.putfield 35, 3) := by decide +kernel
theorem dX11_init_64 : decode cX11_init 64 = .ok (.aload_n 0, 1) := by decide +kernel
theorem dX11_init_65 : decode cX11_init 65 = .ok (.new 39, 3) := by decide +kernel
theorem dX11_init_68 : decode cX11_init 68 = .ok (.dup, 1) := by decide +kernel
theorem dX11_init_69 : decode cX11_init 69 = .ok (.invokespecial 41, 3) := by decide +kernel
theorem dX11_init_72 : decode cX11_init 72 = .ok (.putfield 42, 3) := by decide +kernel
theorem dX11_init_75 : decode cX11_init 75 = .ok (.aload_n 0, 1) := by decide +kernel
theorem dX11_init_76 : decode cX11_init 76 = .ok (.new 46, 3) := by decide +kernel
theorem dX11_init_79 : decode cX11_init 79 = .ok (.dup, 1) := by decide +kernel
theorem dX11_init_80 : decode cX11_init 80 = .ok (.aload_n 0, 1) := by decide +kernel
theorem dX11_init_81 : decode cX11_init 81 = .ok (.getfield 23, 3) := by decide +kernel
theorem dX11_init_84 : decode cX11_init 84 = .ok (.invokespecial 48, 3) := by decide +kernel
theorem dX11_init_87 : decode cX11_init 87 = .ok (.putfield 51, 3) := by decide +kernel
theorem dX11_init_90 : decode cX11_init 90 = .ok (.aload_n 0, 1) := by decide +kernel
theorem dX11_init_91 : decode cX11_init 91 = .ok (.new 55, 3) := by decide +kernel
theorem dX11_init_94 : decode cX11_init 94 = .ok (.dup, 1) := by decide +kernel
theorem dX11_init_95 : decode cX11_init 95 = .ok (.aload_n 0, 1) := by decide +kernel
theorem dX11_init_96 : decode cX11_init 96 = .ok (.getfield 23, 3) := by decide +kernel
theorem dX11_init_99 : decode cX11_init 99 = .ok (.aload_n 0, 1) := by decide +kernel
theorem dX11_init_100 : decode cX11_init 100 = .ok (.getfield 42, 3) := by decide +kernel
theorem dX11_init_103 : decode cX11_init 103 = .ok (.aload_n 0, 1) := by decide +kernel
theorem dX11_init_104 : decode cX11_init 104 = .ok (.getfield 51, 3) := by decide +kernel
theorem dX11_init_107 : decode cX11_init 107 = .ok (.invokespecial 57, 3) := by decide +kernel
theorem dX11_init_110 : decode cX11_init 110 = .ok (.putfield 60, 3) := by decide +kernel
theorem dX11_init_113 : decode cX11_init 113 = .ok (.aload_n 0, 1) := by decide +kernel
theorem dX11_init_114 : decode cX11_init 114 = .ok (.new 64, 3) := by decide +kernel
theorem dX11_init_117 : decode cX11_init 117 = .ok (.dup, 1) := by decide +kernel
theorem dX11_init_118 : decode cX11_init 118 = .ok (.aload_n 0, 1) := by decide +kernel
theorem dX11_init_119 : decode cX11_init 119 = .ok (.getfield 23, 3) := by decide +kernel
theorem dX11_init_122 : decode cX11_init 122 = .ok (.invokespecial 66, 3) := by decide +kernel
theorem dX11_init_125 : decode cX11_init 125 = .ok (.putfield 67, 3) := by decide +kernel
theorem dX11_init_128 : decode cX11_init 128 = .ok (.aload_n 0, 1) := by decide +kernel
theorem dX11_init_129 : decode cX11_init 129 = .ok (.new 71, 3) := by decide +kernel
theorem dX11_init_132 : decode cX11_init 132 = .ok (.dup, 1) := by decide +kernel
theorem dX11_init_133 : decode cX11_init 133 = .ok (.invokespecial 73, 3) := by decide +kernel
theorem dX11_init_136 : decode cX11_init 136 = .ok (.putfield 74, 3) := by decide +kernel
theorem dX11_init_139 : decode cX11_init 139 = .ok (.aload_n 0, 1) := by decide +kernel
theorem dX11_init_140 : decode cX11_init 140 = .ok (.bipush 12, 2) := by decide +kernel
theorem dX11_init_142 : decode cX11_init 142 = .ok (.anewarray 39, 3) := by decide +kernel
theorem dX11_init_145 : decode cX11_init 145 = .ok (.putfield 78, 3) := by decide +kernel
theorem dX11_init_148 : decode cX11_init 148 = .ok (.aload_n 0, 1) := by decide +kernel
theorem dX11_init_149 : decode cX11_init 149 = .ok (.iconst 0, 1) := by decide +kernel
theorem dX11_init_150 : decode cX11_init 150 = .ok (.putfield 82, 3) := by decide +kernel
theorem dX11_init_153 : decode cX11_init 153 = .ok (.aload_n 0, 1) := by decide +kernel
theorem dX11_init_154 : decode cX11_init 154 = .ok (.iconst 0, 1) := by decide +kernel
theorem dX11_init_155 : decode cX11_init 155 = .ok (.putfield 85, 3) := by decide +kernel
theorem dX11_init_158 : decode cX11_init 158 = .ok (.aload_n 0, 1) := by decide +kernel
theorem dX11_init_159 : decode cX11_init 159 = .ok (.iconst 3, 1) := by decide +kernel
theorem dX11_init_160 : decode cX11_init 160 = .ok (.anewarray 39, 3) := by decide +kernel
theorem dX11_init_163 : decode cX11_init 163 = .ok (.putfield 88, 3) := by decide +kernel
theorem dX11_init_166 : decode cX11_init 166 = .ok (.aload_n 0, 1) := by decide +kernel
theorem dX11_init_167 : decode cX11_init 167 = .ok (.iconst 0, 1) := by decide +kernel
theorem dX11_init_168 : decode cX11_init 168 = .ok (.putfield 91, 3) := by decide +kernel
theorem dX11_init_171 : decode cX11_init 171 = .ok (.iconst 0, 1) := by decide +kernel
theorem dX11_init_172 : decode cX11_init 172 = .ok (.istore_n 1, 1) := by decide +kernel
theorem dX11_init_173 : decode cX11_init 173 = .ok (.iload_n 1, 1) := by decide +kernel
theorem dX11_init_174 : decode cX11_init 174 = .ok (.bipush 12, 2) := by decide +kernel
theorem dX11_init_176 : decode cX11_init 176 = .ok (.if_icmp .ge 22, 3) := by decide +kernel
theorem dX11_init_179 : decode cX11_init 179 = .ok (.aload_n 0, 1) := by decide +kernel
theorem dX11_init_180 : decode cX11_init 180 = .ok (.getfield 78, 3) := by decide +kernel
theorem dX11_init_183 : decode cX11_init 183 = .ok (.iload_n 1, 1) := by decide +kernel
theorem dX11_init_184 : decode cX11_init 184 = .ok (.new 39, 3) := by decide +kernel
theorem dX11_init_187 : decode cX11_init 187 = .ok (.dup, 1) := by decide +kernel
theorem dX11_init_188 : decode cX11_init 188 = .ok (.invokespecial 41, 3) := by decide +kernel
theorem dX11_init_191 : decode cX11_init 191 = .ok (.aastore, 1) := by decide +kernel
theorem dX11_init_192 : decode cX11_init 192 = .ok (.iinc 1 1, 3) := by decide +kernel
theorem dX11_init_195 : decode cX11_init 195 = .ok (.goto (-22), 3) := by decide +kernel
theorem dX11_init_198 : decode cX11_init 198 = .ok (.iconst 0, 1) := by decide +kernel
theorem dX11_init_199 : decode cX11_init 199 = .ok (.istore_n 1, 1) := by decide +kernel
theorem dX11_init_200 : decode cX11_init 200 = .ok (.iload_n 1, 1) := by decide +kernel
theorem dX11_init_201 : decode cX11_init 201 = .ok (.iconst 3, 1) := by decide +kernel
theorem dX11_init_202 : decode cX11_init 202 = .ok (.if_icmp .ge 22, 3) := by decide +kernel
theorem dX11_init_205 : decode cX11_init 205 = .ok (.aload_n 0, 1) := by decide +kernel
theorem dX11_init_206 : decode cX11_init 206 = .ok (.getfield 88, 3) := by decide +kernel
theorem dX11_init_209 : decode cX11_init 209 = .ok (.iload_n 1, 1) := by decide +kernel
theorem dX11_init_210 : decode cX11_init 210 = .ok (.new 39, 3) := by decide +kernel
theorem dX11_init_213 : decode cX11_init 213 = .ok (.dup, 1) := by decide +kernel
theorem dX11_init_214 : decode cX11_init 214 = .ok (.invokespecial 41, 3) := by decide +kernel
theorem dX11_init_217 : decode cX11_init 217 = .ok (.aastore, 1) := by decide +kernel
theorem dX11_init_218 : decode cX11_init 218 = .ok (.iinc 1 1, 3) := by decide +kernel
theorem dX11_init_221 : decode cX11_init 221 = .ok (.goto (-21), 3) := by decide +kernel
theorem dX11_init_224 : decode cX11_init 224 = .ok (.return_, 1) := by decide +kernel
theorem dX11_feed_0 : decode cX11_feed 0 = .ok (.aload_n 0, 1) := by decide +kernel
theorem dX11_feed_1 : decode cX11_feed 1 = .ok (.getfield 13, 3) := by decide +kernel
theorem dX11_feed_4 : decode cX11_feed 4 = .ok (.sipush 980, 3) := by decide +kernel
theorem dX11_feed_7 : decode cX11_feed 7 = .ok (.if_icmp .le 5, 3) := by decide +kernel
theorem dX11_feed_10 : decode cX11_feed 10 = .ok (.iconst (-1), 1) := by decide +kernel
theorem dX11_feed_11 : decode cX11_feed 11 = .ok (.ireturn, 1) := by decide +kernel
theorem dX11_feed_12 : decode cX11_feed 12 = .ok (.aload_n 0, 1) := by decide +kernel
theorem dX11_feed_13 : decode cX11_feed 13 = .ok (.iload_n 1, 1) := by decide +kernel
theorem dX11_feed_14 : decode cX11_feed 14 = .ok (.invokevirtual 94, 3) := by decide +kernel
theorem dX11_feed_17 : decode cX11_feed 17 = .ok (.aload_n 0, 1) := by decide +kernel
theorem dX11_feed_18 : decode cX11_feed 18 = .ok (.iload_n 2, 1) := by decide +kernel
theorem dX11_feed_19 : decode cX11_feed 19 = .ok (.invokevirtual 94, 3) := by decide +kernel
theorem dX11_feed_22 : decode cX11_feed 22 = .ok (.aload_n 0, 1) := by decide +kernel
theorem dX11_feed_23 : decode cX11_feed 23 = .ok (.iload_n 3, 1) := by decide +kernel
theorem dX11_feed_24 : decode cX11_feed 24 = .ok (.invokevirtual 94, 3) := by decide +kernel
theorem dX11_feed_27 : decode cX11_feed 27 = .ok (.aload_n 0, 1) := by decide +kernel
theorem dX11_feed_28 : decode cX11_feed 28 = .ok (.iload 4, 2) := by decide +kernel
theorem dX11_feed_30 : decode cX11_feed 30 = .ok (.invokevirtual 94, 3) := by decide +kernel
theorem dX11_feed_33 : decode cX11_feed 33 = .ok (.aload_n 0, 1) := by decide +kernel
theorem dX11_feed_34 : decode cX11_feed 34 = .ok (.iload 5, 2) := by decide +kernel
theorem dX11_feed_36 : decode cX11_feed 36 = .ok (.invokevirtual 94, 3) := by decide +kernel
theorem dX11_feed_39 : decode cX11_feed 39 = .ok (.aload_n 0, 1) := by decide +kernel
theorem dX11_feed_40 : decode cX11_feed 40 = .ok (.getfield 13, 3) := by decide +kernel
theorem dX11_feed_43 : decode cX11_feed 43 = .ok (.ireturn, 1) := by decide +kernel
theorem dX11_post_0 : decode cX11_post 0 = .ok (.iload_n 1, 1) := by decide +kernel
theorem dX11_post_1 : decode cX11_post 1 = .ok (.ifCond .lt 11, 3) := by decide +kernel
theorem dX11_post_4 : decode cX11_post 4 = .ok (.iload_n 1, 1) := by decide +kernel
theorem dX11_post_5 : decode cX11_post 5 = .ok (.aload_n 0, 1) := by decide +kernel
theorem dX11_post_6 : decode cX11_post 6 = .ok (.getfield 13, 3) := by decide +kernel
theorem dX11_post_9 : decode cX11_post 9 = .ok (.if_icmp .le 9, 3) := by decide +kernel
theorem dX11_post_12 : decode cX11_post 12 = .ok (.aload_n 0, 1) := by decide +kernel
theorem dX11_post_13 : decode cX11_post 13 = .ok (.iconst 2, 1) := by decide +kernel
theorem dX11_post_14 : decode cX11_post 14 = .ok (.invokevirtual 98, 3) := by decide +kernel
theorem dX11_post_17 : decode cX11_post 17 = .ok (.ireturn, 1) := by decide +kernel
theorem dX11_post_18 : decode cX11_post 18 = .ok (.aload_n 0, 1) := by decide +kernel
theorem dX11_post_19 : decode cX11_post 19 = .ok (.iconst 0, 1) := by decide +kernel
theorem dX11_post_20 : decode cX11_post 20 = .ok (.putfield 13, 3) := by decide +kernel
theorem dX11_post_23 : decode cX11_post 23 = .ok (.aload_n 0, 1) := by decide +kernel
theorem dX11_post_24 : decode cX11_post 24 = .ok (.getfield 35, 3) := by decide +kernel
theorem dX11_post_27 : decode cX11_post 27 = .ok (.iload_n 1, 1) := by decide +kernel
theorem dX11_post_28 : decode cX11_post 28 = .ok (.aload_n 0, 1) := by decide +kernel
theorem dX11_post_29 : decode cX11_post 29 = .ok (.getfield 27, 3) := by decide +kernel
theorem dX11_post_32 : decode cX11_post 32 = .ok (.invokevirtual 102, 3) := by decide +kernel
theorem dX11_post_35 : decode cX11_post 35 = .ok (.ifCond .ne 9, 3) := by decide +kernel
theorem dX11_post_38 : decode cX11_post 38 = .ok (.aload_n 0, 1) := by decide +kernel
theorem dX11_post_39 : decode cX11_post 39 = .ok (.iconst 4, 1) := by decide +kernel
theorem dX11_post_40 : decode cX11_post 40 = .ok (.invokevirtual 98, 3) := by decide +kernel
theorem dX11_post_43 : decode cX11_post 43 = .ok (.ireturn, 1) := by decide +kernel
theorem dX11_post_44 : decode cX11_post 44 = .ok (.aload_n 0, 1) := by decide +kernel
theorem dX11_post_45 : decode cX11_post 45 = .ok (.invokevirtual 106, 3) := by decide +kernel
theorem dX11_post_48 : decode cX11_post 48 = .ok (.aload_n 0, 1) := by decide +kernel
theorem dX11_post_49 : decode cX11_post 49 = .ok (.aload_n 0, 1) := by decide +kernel
theorem dX11_post_50 : decode cX11_post 50 = .ok (.getfield 23, 3) := by decide +kernel
theorem dX11_post_53 : decode cX11_post 53 = .ok (.getfield 109, 3) := by decide +kernel
theorem dX11_post_56 : decode cX11_post 56 = .ok (.invokevirtual 112, 3) := by decide +kernel
theorem dX11_post_59 : decode cX11_post 59 = .ok (.ireturn, 1) := by decide +kernel
theorem dX11_fault_0 : decode cX11_fault 0 = .ok (.aload_n 0, 1) := by decide +kernel
theorem dX11_fault_1 : decode cX11_fault 1 = .ok (.getfield 35, 3) := by decide +kernel
theorem dX11_fault_4 : decode cX11_fault 4 = .ok (.getfield 115, 3) := by decide +kernel
theorem dX11_fault_7 : decode cX11_fault 7 = .ok (.ireturn, 1) := by decide +kernel
theorem dX11_where_0 : decode cX11_where 0 = .ok (.aload_n 0, 1) := by decide +kernel
theorem dX11_where_1 : decode cX11_where 1 = .ok (.getfield 17, 3) := by decide +kernel
theorem dX11_where_4 : decode cX11_where 4 = .ok (.iconst 4, 1) := by decide +kernel
theorem dX11_where_5 : decode cX11_where 5 = .ok (.if_icmp .ne 13, 3) := by decide +kernel
theorem dX11_where_8 : decode cX11_where 8 = .ok (.aload_n 0, 1) := by decide +kernel
theorem dX11_where_9 : decode cX11_where 9 = .ok (.getfield 35, 3) := by decide +kernel
theorem dX11_where_12 : decode cX11_where 12 = .ok (.getfield 118, 3) := by decide +kernel
theorem dX11_where_15 : decode cX11_where 15 = .ok (.goto 4, 3) := by decide +kernel
theorem dX11_where_18 : decode cX11_where 18 = .ok (.iconst (-1), 1) := by decide +kernel
theorem dX11_where_19 : decode cX11_where 19 = .ok (.ireturn, 1) := by decide +kernel
theorem dX11_whale_0 : decode cX11_whale 0 = .ok (.aload_n 0, 1) := by decide +kernel
theorem dX11_whale_1 : decode cX11_whale 1 = .ok (.iload_n 1, 1) := by decide +kernel
theorem dX11_whale_2 : decode cX11_whale 2 = .ok (.invokevirtual 121, 3) := by decide +kernel
theorem dX11_whale_5 : decode cX11_whale 5 = .ok (.ifCond .ne 9, 3) := by decide +kernel
theorem dX11_whale_8 : decode cX11_whale 8 = .ok (.aload_n 0, 1) := by decide +kernel
theorem dX11_whale_9 : decode cX11_whale 9 = .ok (.iconst 1, 1) := by decide +kernel
theorem dX11_whale_10 : decode cX11_whale 10 = .ok (.invokevirtual 98, 3) := by decide +kernel
theorem dX11_whale_13 : decode cX11_whale 13 = .ok (.ireturn, 1) := by decide +kernel
theorem dX11_whale_14 : decode cX11_whale 14 = .ok (.iload_n 2, 1) := by decide +kernel
theorem dX11_whale_15 : decode cX11_whale 15 = .ok (.tableswitch 112 0 4 #[33, 50, 64, 78, 95], 33) := by decide +kernel
theorem dX11_whale_48 : decode cX11_whale 48 = .ok (.aload_n 0, 1) := by decide +kernel
theorem dX11_whale_49 : decode cX11_whale 49 = .ok (.aload_n 0, 1) := by decide +kernel
theorem dX11_whale_50 : decode cX11_whale 50 = .ok (.getfield 23, 3) := by decide +kernel
theorem dX11_whale_53 : decode cX11_whale 53 = .ok (.getfield 125, 3) := by decide +kernel
theorem dX11_whale_56 : decode cX11_whale 56 = .ok (.iload_n 1, 1) := by decide +kernel
theorem dX11_whale_57 : decode cX11_whale 57 = .ok (.aaload, 1) := by decide +kernel
theorem dX11_whale_58 : decode cX11_whale 58 = .ok (.getfield 129, 3) := by decide +kernel
theorem dX11_whale_61 : decode cX11_whale 61 = .ok (.invokevirtual 112, 3) := by decide +kernel
theorem dX11_whale_64 : decode cX11_whale 64 = .ok (.ireturn, 1) := by decide +kernel
theorem dX11_whale_65 : decode cX11_whale 65 = .ok (.aload_n 0, 1) := by decide +kernel
theorem dX11_whale_66 : decode cX11_whale 66 = .ok (.aload_n 0, 1) := by decide +kernel
theorem dX11_whale_67 : decode cX11_whale 67 = .ok (.getfield 42, 3) := by decide +kernel
theorem dX11_whale_70 : decode cX11_whale 70 = .ok (.getfield 134, 3) := by decide +kernel
theorem dX11_whale_73 : decode cX11_whale 73 = .ok (.iload_n 1, 1) := by decide +kernel
theorem dX11_whale_74 : decode cX11_whale 74 = .ok (.iaload, 1) := by decide +kernel
theorem dX11_whale_75 : decode cX11_whale 75 = .ok (.invokevirtual 112, 3) := by decide +kernel
theorem dX11_whale_78 : decode cX11_whale 78 = .ok (.ireturn, 1) := by decide +kernel
theorem dX11_whale_79 : decode cX11_whale 79 = .ok (.aload_n 0, 1) := by decide +kernel
theorem dX11_whale_80 : decode cX11_whale 80 = .ok (.aload_n 0, 1) := by decide +kernel
theorem dX11_whale_81 : decode cX11_whale 81 = .ok (.getfield 42, 3) := by decide +kernel
theorem dX11_whale_84 : decode cX11_whale 84 = .ok (.getfield 138, 3) := by decide +kernel
theorem dX11_whale_87 : decode cX11_whale 87 = .ok (.iload_n 1, 1) := by decide +kernel
theorem dX11_whale_88 : decode cX11_whale 88 = .ok (.iaload, 1) := by decide +kernel
theorem dX11_whale_89 : decode cX11_whale 89 = .ok (.invokevirtual 112, 3) := by decide +kernel
theorem dX11_whale_92 : decode cX11_whale 92 = .ok (.ireturn, 1) := by decide +kernel
theorem dX11_whale_93 : decode cX11_whale 93 = .ok (.aload_n 0, 1) := by decide +kernel
theorem dX11_whale_94 : decode cX11_whale 94 = .ok (.aload_n 0, 1) := by decide +kernel
theorem dX11_whale_95 : decode cX11_whale 95 = .ok (.getfield 23, 3) := by decide +kernel
theorem dX11_whale_98 : decode cX11_whale 98 = .ok (.getfield 125, 3) := by decide +kernel
theorem dX11_whale_101 : decode cX11_whale 101 = .ok (.iload_n 1, 1) := by decide +kernel
theorem dX11_whale_102 : decode cX11_whale 102 = .ok (.aaload, 1) := by decide +kernel
theorem dX11_whale_103 : decode cX11_whale 103 = .ok (.getfield 141, 3) := by decide +kernel
theorem dX11_whale_106 : decode cX11_whale 106 = .ok (.invokevirtual 112, 3) := by decide +kernel
theorem dX11_whale_109 : decode cX11_whale 109 = .ok (.ireturn, 1) := by decide +kernel
theorem dX11_whale_110 : decode cX11_whale 110 = .ok (.aload_n 0, 1) := by decide +kernel
theorem dX11_whale_111 : decode cX11_whale 111 = .ok (.aload_n 0, 1) := by decide +kernel
theorem dX11_whale_112 : decode cX11_whale 112 = .ok (.getfield 23, 3) := by decide +kernel
theorem dX11_whale_115 : decode cX11_whale 115 = .ok (.getfield 125, 3) := by decide +kernel
theorem dX11_whale_118 : decode cX11_whale 118 = .ok (.iload_n 1, 1) := by decide +kernel
theorem dX11_whale_119 : decode cX11_whale 119 = .ok (.aaload, 1) := by decide +kernel
theorem dX11_whale_120 : decode cX11_whale 120 = .ok (.getfield 144, 3) := by decide +kernel
theorem dX11_whale_123 : decode cX11_whale 123 = .ok (.invokevirtual 112, 3) := by decide +kernel
theorem dX11_whale_126 : decode cX11_whale 126 = .ok (.ireturn, 1) := by decide +kernel
theorem dX11_whale_127 : decode cX11_whale 127 = .ok (.aload_n 0, 1) := by decide +kernel
theorem dX11_whale_128 : decode cX11_whale 128 = .ok (.iconst 1, 1) := by decide +kernel
theorem dX11_whale_129 : decode cX11_whale 129 = .ok (.invokevirtual 98, 3) := by decide +kernel
theorem dX11_whale_132 : decode cX11_whale 132 = .ok (.ireturn, 1) := by decide +kernel
theorem dX11_box_0 : decode cX11_box 0 = .ok (.aload_n 0, 1) := by decide +kernel
theorem dX11_box_1 : decode cX11_box 1 = .ok (.iload_n 1, 1) := by decide +kernel
theorem dX11_box_2 : decode cX11_box 2 = .ok (.invokevirtual 147, 3) := by decide +kernel
theorem dX11_box_5 : decode cX11_box 5 = .ok (.ifCond .ne 9, 3) := by decide +kernel
theorem dX11_box_8 : decode cX11_box 8 = .ok (.aload_n 0, 1) := by decide +kernel
theorem dX11_box_9 : decode cX11_box 9 = .ok (.iconst 1, 1) := by decide +kernel
theorem dX11_box_10 : decode cX11_box 10 = .ok (.invokevirtual 98, 3) := by decide +kernel
theorem dX11_box_13 : decode cX11_box 13 = .ok (.ireturn, 1) := by decide +kernel
theorem dX11_box_14 : decode cX11_box 14 = .ok (.iload_n 2, 1) := by decide +kernel
theorem dX11_box_15 : decode cX11_box 15 = .ok (.tableswitch 133 0 5 #[37, 54, 71, 88, 105, 119], 37) := by decide +kernel
theorem dX11_box_52 : decode cX11_box 52 = .ok (.aload_n 0, 1) := by decide +kernel
theorem dX11_box_53 : decode cX11_box 53 = .ok (.aload_n 0, 1) := by decide +kernel
theorem dX11_box_54 : decode cX11_box 54 = .ok (.getfield 23, 3) := by decide +kernel
theorem dX11_box_57 : decode cX11_box 57 = .ok (.getfield 150, 3) := by decide +kernel
theorem dX11_box_60 : decode cX11_box 60 = .ok (.iload_n 1, 1) := by decide +kernel
theorem dX11_box_61 : decode cX11_box 61 = .ok (.aaload, 1) := by decide +kernel
theorem dX11_box_62 : decode cX11_box 62 = .ok (.getfield 154, 3) := by decide +kernel
theorem dX11_box_65 : decode cX11_box 65 = .ok (.invokevirtual 112, 3) := by decide +kernel
theorem dX11_box_68 : decode cX11_box 68 = .ok (.ireturn, 1) := by decide +kernel
theorem dX11_box_69 : decode cX11_box 69 = .ok (.aload_n 0, 1) := by decide +kernel
theorem dX11_box_70 : decode cX11_box 70 = .ok (.aload_n 0, 1) := by decide +kernel
theorem dX11_box_71 : decode cX11_box 71 = .ok (.getfield 23, 3) := by decide +kernel
theorem dX11_box_74 : decode cX11_box 74 = .ok (.getfield 150, 3) := by decide +kernel
theorem dX11_box_77 : decode cX11_box 77 = .ok (.iload_n 1, 1) := by decide +kernel
theorem dX11_box_78 : decode cX11_box 78 = .ok (.aaload, 1) := by decide +kernel
theorem dX11_box_79 : decode cX11_box 79 = .ok (.getfield 159, 3) := by decide +kernel
theorem dX11_box_82 : decode cX11_box 82 = .ok (.invokevirtual 112, 3) := by decide +kernel
theorem dX11_box_85 : decode cX11_box 85 = .ok (.ireturn, 1) := by decide +kernel
theorem dX11_box_86 : decode cX11_box 86 = .ok (.aload_n 0, 1) := by decide +kernel
theorem dX11_box_87 : decode cX11_box 87 = .ok (.aload_n 0, 1) := by decide +kernel
theorem dX11_box_88 : decode cX11_box 88 = .ok (.getfield 23, 3) := by decide +kernel
theorem dX11_box_91 : decode cX11_box 91 = .ok (.getfield 150, 3) := by decide +kernel
theorem dX11_box_94 : decode cX11_box 94 = .ok (.iload_n 1, 1) := by decide +kernel
theorem dX11_box_95 : decode cX11_box 95 = .ok (.aaload, 1) := by decide +kernel
theorem dX11_box_96 : decode cX11_box 96 = .ok (.getfield 162, 3) := by decide +kernel
theorem dX11_box_99 : decode cX11_box 99 = .ok (.invokevirtual 112, 3) := by decide +kernel
theorem dX11_box_102 : decode cX11_box 102 = .ok (.ireturn, 1) := by decide +kernel
theorem dX11_box_103 : decode cX11_box 103 = .ok (.aload_n 0, 1) := by decide +kernel
theorem dX11_box_104 : decode cX11_box 104 = .ok (.aload_n 0, 1) := by decide +kernel
theorem dX11_box_105 : decode cX11_box 105 = .ok (.getfield 23, 3) := by decide +kernel
theorem dX11_box_108 : decode cX11_box 108 = .ok (.getfield 150, 3) := by decide +kernel
theorem dX11_box_111 : decode cX11_box 111 = .ok (.iload_n 1, 1) := by decide +kernel
theorem dX11_box_112 : decode cX11_box 112 = .ok (.aaload, 1) := by decide +kernel
theorem dX11_box_113 : decode cX11_box 113 = .ok (.getfield 165, 3) := by decide +kernel
theorem dX11_box_116 : decode cX11_box 116 = .ok (.invokevirtual 112, 3) := by decide +kernel
theorem dX11_box_119 : decode cX11_box 119 = .ok (.ireturn, 1) := by decide +kernel
theorem dX11_box_120 : decode cX11_box 120 = .ok (.aload_n 0, 1) := by decide +kernel
theorem dX11_box_121 : decode cX11_box 121 = .ok (.aload_n 0, 1) := by decide +kernel
theorem dX11_box_122 : decode cX11_box 122 = .ok (.getfield 42, 3) := by decide +kernel
theorem dX11_box_125 : decode cX11_box 125 = .ok (.getfield 168, 3) := by decide +kernel
theorem dX11_box_128 : decode cX11_box 128 = .ok (.iload_n 1, 1) := by decide +kernel
theorem dX11_box_129 : decode cX11_box 129 = .ok (.iaload, 1) := by decide +kernel
theorem dX11_box_130 : decode cX11_box 130 = .ok (.invokevirtual 112, 3) := by decide +kernel
theorem dX11_box_133 : decode cX11_box 133 = .ok (.ireturn, 1) := by decide +kernel
theorem dX11_box_134 : decode cX11_box 134 = .ok (.aload_n 0, 1) := by decide +kernel
theorem dX11_box_135 : decode cX11_box 135 = .ok (.aload_n 0, 1) := by decide +kernel
theorem dX11_box_136 : decode cX11_box 136 = .ok (.getfield 42, 3) := by decide +kernel
theorem dX11_box_139 : decode cX11_box 139 = .ok (.getfield 171, 3) := by decide +kernel
theorem dX11_box_142 : decode cX11_box 142 = .ok (.iload_n 1, 1) := by decide +kernel
theorem dX11_box_143 : decode cX11_box 143 = .ok (.iaload, 1) := by decide +kernel
theorem dX11_box_144 : decode cX11_box 144 = .ok (.invokevirtual 112, 3) := by decide +kernel
theorem dX11_box_147 : decode cX11_box 147 = .ok (.ireturn, 1) := by decide +kernel
theorem dX11_box_148 : decode cX11_box 148 = .ok (.aload_n 0, 1) := by decide +kernel
theorem dX11_box_149 : decode cX11_box 149 = .ok (.iconst 1, 1) := by decide +kernel
theorem dX11_box_150 : decode cX11_box 150 = .ok (.invokevirtual 98, 3) := by decide +kernel
theorem dX11_box_153 : decode cX11_box 153 = .ok (.ireturn, 1) := by decide +kernel
theorem dX11_length_0 : decode cX11_length 0 = .ok (.aload_n 0, 1) := by decide +kernel
theorem dX11_length_1 : decode cX11_length 1 = .ok (.iload_n 1, 1) := by decide +kernel
theorem dX11_length_2 : decode cX11_length 2 = .ok (.invokevirtual 174, 3) := by decide +kernel
theorem dX11_length_5 : decode cX11_length 5 = .ok (.ifCond .eq 19, 3) := by decide +kernel
theorem dX11_length_8 : decode cX11_length 8 = .ok (.aload_n 0, 1) := by decide +kernel
theorem dX11_length_9 : decode cX11_length 9 = .ok (.aload_n 0, 1) := by decide +kernel
theorem dX11_length_10 : decode cX11_length 10 = .ok (.getfield 23, 3) := by decide +kernel
theorem dX11_length_13 : decode cX11_length 13 = .ok (.getfield 177, 3) := by decide +kernel
theorem dX11_length_16 : decode cX11_length 16 = .ok (.iload_n 1, 1) := by decide +kernel
theorem dX11_length_17 : decode cX11_length 17 = .ok (.iaload, 1) := by decide +kernel
theorem dX11_length_18 : decode cX11_length 18 = .ok (.invokevirtual 112, 3) := by decide +kernel
theorem dX11_length_21 : decode cX11_length 21 = .ok (.goto 8, 3) := by decide +kernel
theorem dX11_length_24 : decode cX11_length 24 = .ok (.aload_n 0, 1) := by decide +kernel
theorem dX11_length_25 : decode cX11_length 25 = .ok (.iconst 1, 1) := by decide +kernel
theorem dX11_length_26 : decode cX11_length 26 = .ok (.invokevirtual 98, 3) := by decide +kernel
theorem dX11_length_29 : decode cX11_length 29 = .ok (.ireturn, 1) := by decide +kernel
theorem dX11_note_0 : decode cX11_note 0 = .ok (.aload_n 0, 1) := by decide +kernel
theorem dX11_note_1 : decode cX11_note 1 = .ok (.iload_n 1, 1) := by decide +kernel
theorem dX11_note_2 : decode cX11_note 2 = .ok (.invokevirtual 174, 3) := by decide +kernel
theorem dX11_note_5 : decode cX11_note 5 = .ok (.ifCond .eq 20, 3) := by decide +kernel
theorem dX11_note_8 : decode cX11_note 8 = .ok (.iload_n 2, 1) := by decide +kernel
theorem dX11_note_9 : decode cX11_note 9 = .ok (.ifCond .lt 16, 3) := by decide +kernel
theorem dX11_note_12 : decode cX11_note 12 = .ok (.iload_n 2, 1) := by decide +kernel
theorem dX11_note_13 : decode cX11_note 13 = .ok (.aload_n 0, 1) := by decide +kernel
theorem dX11_note_14 : decode cX11_note 14 = .ok (.getfield 23, 3) := by decide +kernel
theorem dX11_note_17 : decode cX11_note 17 = .ok (.getfield 177, 3) := by decide +kernel
theorem dX11_note_20 : decode cX11_note 20 = .ok (.iload_n 1, 1) := by decide +kernel
theorem dX11_note_21 : decode cX11_note 21 = .ok (.iaload, 1) := by decide +kernel
theorem dX11_note_22 : decode cX11_note 22 = .ok (.if_icmp .lt 9, 3) := by decide +kernel
theorem dX11_note_25 : decode cX11_note 25 = .ok (.aload_n 0, 1) := by decide +kernel
theorem dX11_note_26 : decode cX11_note 26 = .ok (.iconst 1, 1) := by decide +kernel
theorem dX11_note_27 : decode cX11_note 27 = .ok (.invokevirtual 98, 3) := by decide +kernel
theorem dX11_note_30 : decode cX11_note 30 = .ok (.ireturn, 1) := by decide +kernel
theorem dX11_note_31 : decode cX11_note 31 = .ok (.aload_n 0, 1) := by decide +kernel
theorem dX11_note_32 : decode cX11_note 32 = .ok (.aload_n 0, 1) := by decide +kernel
theorem dX11_note_33 : decode cX11_note 33 = .ok (.getfield 51, 3) := by decide +kernel
theorem dX11_note_36 : decode cX11_note 36 = .ok (.iload_n 1, 1) := by decide +kernel
theorem dX11_note_37 : decode cX11_note 37 = .ok (.aload_n 0, 1) := by decide +kernel
theorem dX11_note_38 : decode cX11_note 38 = .ok (.getfield 42, 3) := by decide +kernel
theorem dX11_note_41 : decode cX11_note 41 = .ok (.getfield 180, 3) := by decide +kernel
theorem dX11_note_44 : decode cX11_note 44 = .ok (.invokevirtual 183, 3) := by decide +kernel
theorem dX11_note_47 : decode cX11_note 47 = .ok (.aload_n 0, 1) := by decide +kernel
theorem dX11_note_48 : decode cX11_note 48 = .ok (.getfield 23, 3) := by decide +kernel
theorem dX11_note_51 : decode cX11_note 51 = .ok (.getfield 177, 3) := by decide +kernel
theorem dX11_note_54 : decode cX11_note 54 = .ok (.iload_n 1, 1) := by decide +kernel
theorem dX11_note_55 : decode cX11_note 55 = .ok (.iaload, 1) := by decide +kernel
theorem dX11_note_56 : decode cX11_note 56 = .ok (.iload_n 2, 1) := by decide +kernel
theorem dX11_note_57 : decode cX11_note 57 = .ok (.invokestatic 187, 3) := by decide +kernel
theorem dX11_note_60 : decode cX11_note 60 = .ok (.invokevirtual 112, 3) := by decide +kernel
theorem dX11_note_63 : decode cX11_note 63 = .ok (.ireturn, 1) := by decide +kernel
theorem dX11_sung_0 : decode cX11_sung 0 = .ok (.aload_n 0, 1) := by decide +kernel
theorem dX11_sung_1 : decode cX11_sung 1 = .ok (.iload_n 1, 1) := by decide +kernel
theorem dX11_sung_2 : decode cX11_sung 2 = .ok (.iload_n 2, 1) := by decide +kernel
theorem dX11_sung_3 : decode cX11_sung 3 = .ok (.invokevirtual 191, 3) := by decide +kernel
theorem dX11_sung_6 : decode cX11_sung 6 = .ok (.ifCond .ne 9, 3) := by decide +kernel
theorem dX11_sung_9 : decode cX11_sung 9 = .ok (.aload_n 0, 1) := by decide +kernel
theorem dX11_sung_10 : decode cX11_sung 10 = .ok (.iconst 1, 1) := by decide +kernel
theorem dX11_sung_11 : decode cX11_sung 11 = .ok (.invokevirtual 98, 3) := by decide +kernel
theorem dX11_sung_14 : decode cX11_sung 14 = .ok (.ireturn, 1) := by decide +kernel
theorem dX11_sung_15 : decode cX11_sung 15 = .ok (.aload_n 0, 1) := by decide +kernel
theorem dX11_sung_16 : decode cX11_sung 16 = .ok (.aload_n 0, 1) := by decide +kernel
theorem dX11_sung_17 : decode cX11_sung 17 = .ok (.getfield 42, 3) := by decide +kernel
theorem dX11_sung_20 : decode cX11_sung 20 = .ok (.getfield 195, 3) := by decide +kernel
theorem dX11_sung_23 : decode cX11_sung 23 = .ok (.iload_n 1, 1) := by decide +kernel
theorem dX11_sung_24 : decode cX11_sung 24 = .ok (.iaload, 1) := by decide +kernel
theorem dX11_sung_25 : decode cX11_sung 25 = .ok (.aload_n 0, 1) := by decide +kernel
theorem dX11_sung_26 : decode cX11_sung 26 = .ok (.getfield 23, 3) := by decide +kernel
theorem dX11_sung_29 : decode cX11_sung 29 = .ok (.iload_n 1, 1) := by decide +kernel
theorem dX11_sung_30 : decode cX11_sung 30 = .ok (.invokevirtual 198, 3) := by decide +kernel
theorem dX11_sung_33 : decode cX11_sung 33 = .ok (.iload_n 2, 1) := by decide +kernel
theorem dX11_sung_34 : decode cX11_sung 34 = .ok (.invokestatic 187, 3) := by decide +kernel
theorem dX11_sung_37 : decode cX11_sung 37 = .ok (.invokevirtual 112, 3) := by decide +kernel
theorem dX11_sung_40 : decode cX11_sung 40 = .ok (.ireturn, 1) := by decide +kernel
theorem dX11_heard_0 : decode cX11_heard 0 = .ok (.aload_n 0, 1) := by decide +kernel
theorem dX11_heard_1 : decode cX11_heard 1 = .ok (.iload_n 1, 1) := by decide +kernel
theorem dX11_heard_2 : decode cX11_heard 2 = .ok (.invokevirtual 147, 3) := by decide +kernel
theorem dX11_heard_5 : decode cX11_heard 5 = .ok (.ifCond .eq 22, 3) := by decide +kernel
theorem dX11_heard_8 : decode cX11_heard 8 = .ok (.aload_n 0, 1) := by decide +kernel
theorem dX11_heard_9 : decode cX11_heard 9 = .ok (.aload_n 0, 1) := by decide +kernel
theorem dX11_heard_10 : decode cX11_heard 10 = .ok (.iload_n 1, 1) := by decide +kernel
theorem dX11_heard_11 : decode cX11_heard 11 = .ok (.aload_n 0, 1) := by decide +kernel
theorem dX11_heard_12 : decode cX11_heard 12 = .ok (.getfield 42, 3) := by decide +kernel
theorem dX11_heard_15 : decode cX11_heard 15 = .ok (.getfield 180, 3) := by decide +kernel
theorem dX11_heard_18 : decode cX11_heard 18 = .ok (.invokevirtual 201, 3) := by decide +kernel
theorem dX11_heard_21 : decode cX11_heard 21 = .ok (.invokevirtual 112, 3) := by decide +kernel
theorem dX11_heard_24 : decode cX11_heard 24 = .ok (.goto 8, 3) := by decide +kernel
theorem dX11_heard_27 : decode cX11_heard 27 = .ok (.aload_n 0, 1) := by decide +kernel
theorem dX11_heard_28 : decode cX11_heard 28 = .ok (.iconst 1, 1) := by decide +kernel
theorem dX11_heard_29 : decode cX11_heard 29 = .ok (.invokevirtual 98, 3) := by decide +kernel
theorem dX11_heard_32 : decode cX11_heard 32 = .ok (.ireturn, 1) := by decide +kernel
theorem dX11_way_0 : decode cX11_way 0 = .ok (.aload_n 0, 1) := by decide +kernel
theorem dX11_way_1 : decode cX11_way 1 = .ok (.iload_n 1, 1) := by decide +kernel
theorem dX11_way_2 : decode cX11_way 2 = .ok (.iload_n 2, 1) := by decide +kernel
theorem dX11_way_3 : decode cX11_way 3 = .ok (.invokevirtual 204, 3) := by decide +kernel
theorem dX11_way_6 : decode cX11_way 6 = .ok (.ifCond .ne 9, 3) := by decide +kernel
theorem dX11_way_9 : decode cX11_way 9 = .ok (.aload_n 0, 1) := by decide +kernel
theorem dX11_way_10 : decode cX11_way 10 = .ok (.iconst 1, 1) := by decide +kernel
theorem dX11_way_11 : decode cX11_way 11 = .ok (.invokevirtual 98, 3) := by decide +kernel
theorem dX11_way_14 : decode cX11_way 14 = .ok (.ireturn, 1) := by decide +kernel
theorem dX11_way_15 : decode cX11_way 15 = .ok (.aload_n 0, 1) := by decide +kernel
theorem dX11_way_16 : decode cX11_way 16 = .ok (.getfield 23, 3) := by decide +kernel
theorem dX11_way_19 : decode cX11_way 19 = .ok (.iload_n 1, 1) := by decide +kernel
theorem dX11_way_20 : decode cX11_way 20 = .ok (.iload_n 2, 1) := by decide +kernel
theorem dX11_way_21 : decode cX11_way 21 = .ok (.invokevirtual 207, 3) := by decide +kernel
theorem dX11_way_24 : decode cX11_way 24 = .ok (.istore_n 3, 1) := by decide +kernel
theorem dX11_way_25 : decode cX11_way 25 = .ok (.iload_n 3, 1) := by decide +kernel
theorem dX11_way_26 : decode cX11_way 26 = .ok (.bipush (-2), 2) := by decide +kernel
theorem dX11_way_28 : decode cX11_way 28 = .ok (.if_icmp .eq 14, 3) := by decide +kernel
theorem dX11_way_31 : decode cX11_way 31 = .ok (.aload_n 0, 1) := by decide +kernel
theorem dX11_way_32 : decode cX11_way 32 = .ok (.getfield 42, 3) := by decide +kernel
theorem dX11_way_35 : decode cX11_way 35 = .ok (.iload_n 3, 1) := by decide +kernel
theorem dX11_way_36 : decode cX11_way 36 = .ok (.invokevirtual 210, 3) := by decide +kernel
theorem dX11_way_39 : decode cX11_way 39 = .ok (.ifCond .eq 10, 3) := by decide +kernel
theorem dX11_way_42 : decode cX11_way 42 = .ok (.aload_n 0, 1) := by decide +kernel
theorem dX11_way_43 : decode cX11_way 43 = .ok (.bipush (-2), 2) := by decide +kernel
theorem dX11_way_45 : decode cX11_way 45 = .ok (.invokevirtual 112, 3) := by decide +kernel
theorem dX11_way_48 : decode cX11_way 48 = .ok (.ireturn, 1) := by decide +kernel
theorem dX11_way_49 : decode cX11_way 49 = .ok (.aload_n 0, 1) := by decide +kernel
theorem dX11_way_50 : decode cX11_way 50 = .ok (.aload_n 0, 1) := by decide +kernel
theorem dX11_way_51 : decode cX11_way 51 = .ok (.getfield 23, 3) := by decide +kernel
theorem dX11_way_54 : decode cX11_way 54 = .ok (.getfield 213, 3) := by decide +kernel
theorem dX11_way_57 : decode cX11_way 57 = .ok (.iload_n 3, 1) := by decide +kernel
theorem dX11_way_58 : decode cX11_way 58 = .ok (.aaload, 1) := by decide +kernel
theorem dX11_way_59 : decode cX11_way 59 = .ok (.getfield 217, 3) := by decide +kernel
theorem dX11_way_62 : decode cX11_way 62 = .ok (.invokevirtual 112, 3) := by decide +kernel
theorem dX11_way_65 : decode cX11_way 65 = .ok (.ireturn, 1) := by decide +kernel
theorem dX11_season_0 : decode cX11_season 0 = .ok (.aload_n 0, 1) := by decide +kernel
theorem dX11_season_1 : decode cX11_season 1 = .ok (.invokevirtual 222, 3) := by decide +kernel
theorem dX11_season_4 : decode cX11_season 4 = .ok (.ifCond .ne 9, 3) := by decide +kernel
theorem dX11_season_7 : decode cX11_season 7 = .ok (.aload_n 0, 1) := by decide +kernel
theorem dX11_season_8 : decode cX11_season 8 = .ok (.iconst 1, 1) := by decide +kernel
theorem dX11_season_9 : decode cX11_season 9 = .ok (.invokevirtual 98, 3) := by decide +kernel
theorem dX11_season_12 : decode cX11_season 12 = .ok (.ireturn, 1) := by decide +kernel
theorem dX11_season_13 : decode cX11_season 13 = .ok (.iload_n 1, 1) := by decide +kernel
theorem dX11_season_14 : decode cX11_season 14 = .ok (.ldc 226, 2) := by decide +kernel
theorem dX11_season_16 : decode cX11_season 16 = .ok (.invokestatic 227, 3) := by decide +kernel
theorem dX11_season_19 : decode cX11_season 19 = .ok (.ifCond .ne 9, 3) := by decide +kernel
theorem dX11_season_22 : decode cX11_season 22 = .ok (.aload_n 0, 1) := by decide +kernel
theorem dX11_season_23 : decode cX11_season 23 = .ok (.iconst 2, 1) := by decide +kernel
theorem dX11_season_24 : decode cX11_season 24 = .ok (.invokevirtual 98, 3) := by decide +kernel
theorem dX11_season_27 : decode cX11_season 27 = .ok (.ireturn, 1) := by decide +kernel
theorem dX11_season_28 : decode cX11_season 28 = .ok (.aload_n 0, 1) := by decide +kernel
theorem dX11_season_29 : decode cX11_season 29 = .ok (.iload_n 1, 1) := by decide +kernel
theorem dX11_season_30 : decode cX11_season 30 = .ok (.bipush 90, 2) := by decide +kernel
theorem dX11_season_32 : decode cX11_season 32 = .ok (.idiv, 1) := by decide +kernel
theorem dX11_season_33 : decode cX11_season 33 = .ok (.iconst 4, 1) := by decide +kernel
theorem dX11_season_34 : decode cX11_season 34 = .ok (.irem, 1) := by decide +kernel
theorem dX11_season_35 : decode cX11_season 35 = .ok (.invokevirtual 112, 3) := by decide +kernel
theorem dX11_season_38 : decode cX11_season 38 = .ok (.ireturn, 1) := by decide +kernel
theorem dX11_sets_0 : decode cX11_sets 0 = .ok (.aload_n 0, 1) := by decide +kernel
theorem dX11_sets_1 : decode cX11_sets 1 = .ok (.iload_n 1, 1) := by decide +kernel
theorem dX11_sets_2 : decode cX11_sets 2 = .ok (.invokevirtual 121, 3) := by decide +kernel
theorem dX11_sets_5 : decode cX11_sets 5 = .ok (.ifCond .eq 11, 3) := by decide +kernel
theorem dX11_sets_8 : decode cX11_sets 8 = .ok (.aload_n 0, 1) := by decide +kernel
theorem dX11_sets_9 : decode cX11_sets 9 = .ok (.iload_n 2, 1) := by decide +kernel
theorem dX11_sets_10 : decode cX11_sets 10 = .ok (.invokevirtual 230, 3) := by decide +kernel
theorem dX11_sets_13 : decode cX11_sets 13 = .ok (.ifCond .ne 9, 3) := by decide +kernel
theorem dX11_sets_16 : decode cX11_sets 16 = .ok (.aload_n 0, 1) := by decide +kernel
theorem dX11_sets_17 : decode cX11_sets 17 = .ok (.iconst 1, 1) := by decide +kernel
theorem dX11_sets_18 : decode cX11_sets 18 = .ok (.invokevirtual 98, 3) := by decide +kernel
theorem dX11_sets_21 : decode cX11_sets 21 = .ok (.ireturn, 1) := by decide +kernel
theorem dX11_sets_22 : decode cX11_sets 22 = .ok (.iload_n 3, 1) := by decide +kernel
theorem dX11_sets_23 : decode cX11_sets 23 = .ok (.sipush 9999, 3) := by decide +kernel
theorem dX11_sets_26 : decode cX11_sets 26 = .ok (.invokestatic 227, 3) := by decide +kernel
theorem dX11_sets_29 : decode cX11_sets 29 = .ok (.ifCond .ne 9, 3) := by decide +kernel
theorem dX11_sets_32 : decode cX11_sets 32 = .ok (.aload_n 0, 1) := by decide +kernel
theorem dX11_sets_33 : decode cX11_sets 33 = .ok (.iconst 2, 1) := by decide +kernel
theorem dX11_sets_34 : decode cX11_sets 34 = .ok (.invokevirtual 98, 3) := by decide +kernel
theorem dX11_sets_37 : decode cX11_sets 37 = .ok (.ireturn, 1) := by decide +kernel
theorem dX11_sets_38 : decode cX11_sets 38 = .ok (.aload_n 0, 1) := by decide +kernel
theorem dX11_sets_39 : decode cX11_sets 39 = .ok (.getfield 42, 3) := by decide +kernel
theorem dX11_sets_42 : decode cX11_sets 42 = .ok (.iload_n 2, 1) := by decide +kernel
theorem dX11_sets_43 : decode cX11_sets 43 = .ok (.invokevirtual 210, 3) := by decide +kernel
theorem dX11_sets_46 : decode cX11_sets 46 = .ok (.ifCond .eq 10, 3) := by decide +kernel
theorem dX11_sets_49 : decode cX11_sets 49 = .ok (.aload_n 0, 1) := by decide +kernel
theorem dX11_sets_50 : decode cX11_sets 50 = .ok (.bipush (-2), 2) := by decide +kernel
theorem dX11_sets_52 : decode cX11_sets 52 = .ok (.invokevirtual 112, 3) := by decide +kernel
theorem dX11_sets_55 : decode cX11_sets 55 = .ok (.ireturn, 1) := by decide +kernel
theorem dX11_sets_56 : decode cX11_sets 56 = .ok (.aload_n 0, 1) := by decide +kernel
theorem dX11_sets_57 : decode cX11_sets 57 = .ok (.aload_n 0, 1) := by decide +kernel
theorem dX11_sets_58 : decode cX11_sets 58 = .ok (.getfield 60, 3) := by decide +kernel
theorem dX11_sets_61 : decode cX11_sets 61 = .ok (.aload_n 0, 1) := by decide +kernel
theorem dX11_sets_62 : decode cX11_sets 62 = .ok (.getfield 23, 3) := by decide +kernel
theorem dX11_sets_65 : decode cX11_sets 65 = .ok (.getfield 125, 3) := by decide +kernel
theorem dX11_sets_68 : decode cX11_sets 68 = .ok (.iload_n 1, 1) := by decide +kernel
theorem dX11_sets_69 : decode cX11_sets 69 = .ok (.aaload, 1) := by decide +kernel
theorem dX11_sets_70 : decode cX11_sets 70 = .ok (.getfield 129, 3) := by decide +kernel
theorem dX11_sets_73 : decode cX11_sets 73 = .ok (.aload_n 0, 1) := by decide +kernel
theorem dX11_sets_74 : decode cX11_sets 74 = .ok (.getfield 23, 3) := by decide +kernel
theorem dX11_sets_77 : decode cX11_sets 77 = .ok (.getfield 213, 3) := by decide +kernel
theorem dX11_sets_80 : decode cX11_sets 80 = .ok (.iload_n 2, 1) := by decide +kernel
theorem dX11_sets_81 : decode cX11_sets 81 = .ok (.aaload, 1) := by decide +kernel
theorem dX11_sets_82 : decode cX11_sets 82 = .ok (.getfield 233, 3) := by decide +kernel
theorem dX11_sets_85 : decode cX11_sets 85 = .ok (.iload_n 3, 1) := by decide +kernel
theorem dX11_sets_86 : decode cX11_sets 86 = .ok (.invokevirtual 236, 3) := by decide +kernel
theorem dX11_sets_89 : decode cX11_sets 89 = .ok (.invokevirtual 112, 3) := by decide +kernel
theorem dX11_sets_92 : decode cX11_sets 92 = .ok (.ireturn, 1) := by decide +kernel
theorem dX11_sent_0 : decode cX11_sent 0 = .ok (.aload_n 0, 1) := by decide +kernel
theorem dX11_sent_1 : decode cX11_sent 1 = .ok (.invokevirtual 222, 3) := by decide +kernel
theorem dX11_sent_4 : decode cX11_sent 4 = .ok (.ifCond .eq 12, 3) := by decide +kernel
theorem dX11_sent_7 : decode cX11_sent 7 = .ok (.iload_n 1, 1) := by decide +kernel
theorem dX11_sent_8 : decode cX11_sent 8 = .ok (.ifCond .lt 8, 3) := by decide +kernel
theorem dX11_sent_11 : decode cX11_sent 11 = .ok (.iload_n 1, 1) := by decide +kernel
theorem dX11_sent_12 : decode cX11_sent 12 = .ok (.iconst 2, 1) := by decide +kernel
theorem dX11_sent_13 : decode cX11_sent 13 = .ok (.if_icmp .le 9, 3) := by decide +kernel
theorem dX11_sent_16 : decode cX11_sent 16 = .ok (.aload_n 0, 1) := by decide +kernel
theorem dX11_sent_17 : decode cX11_sent 17 = .ok (.iconst 1, 1) := by decide +kernel
theorem dX11_sent_18 : decode cX11_sent 18 = .ok (.invokevirtual 98, 3) := by decide +kernel
theorem dX11_sent_21 : decode cX11_sent 21 = .ok (.ireturn, 1) := by decide +kernel
theorem dX11_sent_22 : decode cX11_sent 22 = .ok (.iconst 0, 1) := by decide +kernel
theorem dX11_sent_23 : decode cX11_sent 23 = .ok (.istore_n 2, 1) := by decide +kernel
theorem dX11_sent_24 : decode cX11_sent 24 = .ok (.iconst 0, 1) := by decide +kernel
theorem dX11_sent_25 : decode cX11_sent 25 = .ok (.istore_n 3, 1) := by decide +kernel
theorem dX11_sent_26 : decode cX11_sent 26 = .ok (.iload_n 3, 1) := by decide +kernel
theorem dX11_sent_27 : decode cX11_sent 27 = .ok (.aload_n 0, 1) := by decide +kernel
theorem dX11_sent_28 : decode cX11_sent 28 = .ok (.getfield 23, 3) := by decide +kernel
theorem dX11_sent_31 : decode cX11_sent 31 = .ok (.getfield 239, 3) := by decide +kernel
theorem dX11_sent_34 : decode cX11_sent 34 = .ok (.if_icmp .ge 29, 3) := by decide +kernel
theorem dX11_sent_37 : decode cX11_sent 37 = .ok (.aload_n 0, 1) := by decide +kernel
theorem dX11_sent_38 : decode cX11_sent 38 = .ok (.getfield 42, 3) := by decide +kernel
theorem dX11_sent_41 : decode cX11_sent 41 = .ok (.iload_n 3, 1) := by decide +kernel
theorem dX11_sent_42 : decode cX11_sent 42 = .ok (.invokevirtual 242, 3) := by decide +kernel
theorem dX11_sent_45 : decode cX11_sent 45 = .ok (.ifCond .eq 12, 3) := by decide +kernel
theorem dX11_sent_48 : decode cX11_sent 48 = .ok (.iload_n 2, 1) := by decide +kernel
theorem dX11_sent_49 : decode cX11_sent 49 = .ok (.aload_n 0, 1) := by decide +kernel
theorem dX11_sent_50 : decode cX11_sent 50 = .ok (.iload_n 3, 1) := by decide +kernel
theorem dX11_sent_51 : decode cX11_sent 51 = .ok (.iload_n 1, 1) := by decide +kernel
theorem dX11_sent_52 : decode cX11_sent 52 = .ok (.invokevirtual 245, 3) := by decide +kernel
theorem dX11_sent_55 : decode cX11_sent 55 = .ok (.iadd, 1) := by decide +kernel
theorem dX11_sent_56 : decode cX11_sent 56 = .ok (.istore_n 2, 1) := by decide +kernel
theorem dX11_sent_57 : decode cX11_sent 57 = .ok (.iinc 3 1, 3) := by decide +kernel
theorem dX11_sent_60 : decode cX11_sent 60 = .ok (.goto (-34), 3) := by decide +kernel
theorem dX11_sent_63 : decode cX11_sent 63 = .ok (.aload_n 0, 1) := by decide +kernel
theorem dX11_sent_64 : decode cX11_sent 64 = .ok (.iload_n 2, 1) := by decide +kernel
theorem dX11_sent_65 : decode cX11_sent 65 = .ok (.invokevirtual 112, 3) := by decide +kernel
theorem dX11_sent_68 : decode cX11_sent 68 = .ok (.ireturn, 1) := by decide +kernel
theorem dX11_apart_0 : decode cX11_apart 0 = .ok (.aload_n 0, 1) := by decide +kernel
theorem dX11_apart_1 : decode cX11_apart 1 = .ok (.iload_n 1, 1) := by decide +kernel
theorem dX11_apart_2 : decode cX11_apart 2 = .ok (.invokevirtual 174, 3) := by decide +kernel
theorem dX11_apart_5 : decode cX11_apart 5 = .ok (.ifCond .eq 27, 3) := by decide +kernel
theorem dX11_apart_8 : decode cX11_apart 8 = .ok (.aload_n 0, 1) := by decide +kernel
theorem dX11_apart_9 : decode cX11_apart 9 = .ok (.iload_n 2, 1) := by decide +kernel
theorem dX11_apart_10 : decode cX11_apart 10 = .ok (.invokevirtual 174, 3) := by decide +kernel
theorem dX11_apart_13 : decode cX11_apart 13 = .ok (.ifCond .eq 19, 3) := by decide +kernel
theorem dX11_apart_16 : decode cX11_apart 16 = .ok (.aload_n 0, 1) := by decide +kernel
theorem dX11_apart_17 : decode cX11_apart 17 = .ok (.aload_n 0, 1) := by decide +kernel
theorem dX11_apart_18 : decode cX11_apart 18 = .ok (.getfield 51, 3) := by decide +kernel
theorem dX11_apart_21 : decode cX11_apart 21 = .ok (.iload_n 1, 1) := by decide +kernel
theorem dX11_apart_22 : decode cX11_apart 22 = .ok (.iload_n 2, 1) := by decide +kernel
theorem dX11_apart_23 : decode cX11_apart 23 = .ok (.invokevirtual 248, 3) := by decide +kernel
theorem dX11_apart_26 : decode cX11_apart 26 = .ok (.invokevirtual 112, 3) := by decide +kernel
theorem dX11_apart_29 : decode cX11_apart 29 = .ok (.goto 8, 3) := by decide +kernel
theorem dX11_apart_32 : decode cX11_apart 32 = .ok (.aload_n 0, 1) := by decide +kernel
theorem dX11_apart_33 : decode cX11_apart 33 = .ok (.iconst 1, 1) := by decide +kernel
theorem dX11_apart_34 : decode cX11_apart 34 = .ok (.invokevirtual 98, 3) := by decide +kernel
theorem dX11_apart_37 : decode cX11_apart 37 = .ok (.ireturn, 1) := by decide +kernel
theorem dX11_bear_0 : decode cX11_bear 0 = .ok (.aload_n 0, 1) := by decide +kernel
theorem dX11_bear_1 : decode cX11_bear 1 = .ok (.invokevirtual 222, 3) := by decide +kernel
theorem dX11_bear_4 : decode cX11_bear 4 = .ok (.ifCond .eq 17, 3) := by decide +kernel
theorem dX11_bear_7 : decode cX11_bear 7 = .ok (.aload_n 0, 1) := by decide +kernel
theorem dX11_bear_8 : decode cX11_bear 8 = .ok (.aload_n 0, 1) := by decide +kernel
theorem dX11_bear_9 : decode cX11_bear 9 = .ok (.getfield 51, 3) := by decide +kernel
theorem dX11_bear_12 : decode cX11_bear 12 = .ok (.invokevirtual 251, 3) := by decide +kernel
theorem dX11_bear_15 : decode cX11_bear 15 = .ok (.invokevirtual 112, 3) := by decide +kernel
theorem dX11_bear_18 : decode cX11_bear 18 = .ok (.goto 8, 3) := by decide +kernel
theorem dX11_bear_21 : decode cX11_bear 21 = .ok (.aload_n 0, 1) := by decide +kernel
theorem dX11_bear_22 : decode cX11_bear 22 = .ok (.iconst 1, 1) := by decide +kernel
theorem dX11_bear_23 : decode cX11_bear 23 = .ok (.invokevirtual 98, 3) := by decide +kernel
theorem dX11_bear_26 : decode cX11_bear 26 = .ok (.ireturn, 1) := by decide +kernel
theorem dX11_mixed_0 : decode cX11_mixed 0 = .ok (.aload_n 0, 1) := by decide +kernel
theorem dX11_mixed_1 : decode cX11_mixed 1 = .ok (.invokevirtual 222, 3) := by decide +kernel
theorem dX11_mixed_4 : decode cX11_mixed 4 = .ok (.ifCond .eq 17, 3) := by decide +kernel
theorem dX11_mixed_7 : decode cX11_mixed 7 = .ok (.aload_n 0, 1) := by decide +kernel
theorem dX11_mixed_8 : decode cX11_mixed 8 = .ok (.aload_n 0, 1) := by decide +kernel
theorem dX11_mixed_9 : decode cX11_mixed 9 = .ok (.getfield 51, 3) := by decide +kernel
theorem dX11_mixed_12 : decode cX11_mixed 12 = .ok (.invokevirtual 255, 3) := by decide +kernel
theorem dX11_mixed_15 : decode cX11_mixed 15 = .ok (.invokevirtual 112, 3) := by decide +kernel
theorem dX11_mixed_18 : decode cX11_mixed 18 = .ok (.goto 8, 3) := by decide +kernel
theorem dX11_mixed_21 : decode cX11_mixed 21 = .ok (.aload_n 0, 1) := by decide +kernel
theorem dX11_mixed_22 : decode cX11_mixed 22 = .ok (.iconst 1, 1) := by decide +kernel
theorem dX11_mixed_23 : decode cX11_mixed 23 = .ok (.invokevirtual 98, 3) := by decide +kernel
theorem dX11_mixed_26 : decode cX11_mixed 26 = .ok (.ireturn, 1) := by decide +kernel
theorem dX11_fresh_0 : decode cX11_fresh 0 = .ok (.aload_n 0, 1) := by decide +kernel
theorem dX11_fresh_1 : decode cX11_fresh 1 = .ok (.iload_n 1, 1) := by decide +kernel
theorem dX11_fresh_2 : decode cX11_fresh 2 = .ok (.iload_n 2, 1) := by decide +kernel
theorem dX11_fresh_3 : decode cX11_fresh 3 = .ok (.invokevirtual 258, 3) := by decide +kernel
theorem dX11_fresh_6 : decode cX11_fresh 6 = .ok (.istore_n 3, 1) := by decide +kernel
theorem dX11_fresh_7 : decode cX11_fresh 7 = .ok (.iload_n 3, 1) := by decide +kernel
theorem dX11_fresh_8 : decode cX11_fresh 8 = .ok (.ifCond .eq 9, 3) := by decide +kernel
theorem dX11_fresh_11 : decode cX11_fresh 11 = .ok (.aload_n 0, 1) := by decide +kernel
theorem dX11_fresh_12 : decode cX11_fresh 12 = .ok (.iload_n 3, 1) := by decide +kernel
theorem dX11_fresh_13 : decode cX11_fresh 13 = .ok (.invokevirtual 98, 3) := by decide +kernel
theorem dX11_fresh_16 : decode cX11_fresh 16 = .ok (.ireturn, 1) := by decide +kernel
theorem dX11_fresh_17 : decode cX11_fresh 17 = .ok (.aload_n 0, 1) := by decide +kernel
theorem dX11_fresh_18 : decode cX11_fresh 18 = .ok (.getfield 51, 3) := by decide +kernel
theorem dX11_fresh_21 : decode cX11_fresh 21 = .ok (.iload_n 1, 1) := by decide +kernel
theorem dX11_fresh_22 : decode cX11_fresh 22 = .ok (.iload_n 2, 1) := by decide +kernel
theorem dX11_fresh_23 : decode cX11_fresh 23 = .ok (.aload_n 0, 1) := by decide +kernel
theorem dX11_fresh_24 : decode cX11_fresh 24 = .ok (.getfield 42, 3) := by decide +kernel
theorem dX11_fresh_27 : decode cX11_fresh 27 = .ok (.getfield 180, 3) := by decide +kernel
theorem dX11_fresh_30 : decode cX11_fresh 30 = .ok (.iconst 1, 1) := by decide +kernel
theorem dX11_fresh_31 : decode cX11_fresh 31 = .ok (.invokevirtual 261, 3) := by decide +kernel
theorem dX11_fresh_34 : decode cX11_fresh 34 = .ok (.pop, 1) := by decide +kernel
theorem dX11_fresh_35 : decode cX11_fresh 35 = .ok (.aload_n 0, 1) := by decide +kernel
theorem dX11_fresh_36 : decode cX11_fresh 36 = .ok (.aload_n 0, 1) := by decide +kernel
theorem dX11_fresh_37 : decode cX11_fresh 37 = .ok (.getfield 51, 3) := by decide +kernel
theorem dX11_fresh_40 : decode cX11_fresh 40 = .ok (.getfield 265, 3) := by decide +kernel
theorem dX11_fresh_43 : decode cX11_fresh 43 = .ok (.invokevirtual 112, 3) := by decide +kernel
theorem dX11_fresh_46 : decode cX11_fresh 46 = .ok (.ireturn, 1) := by decide +kernel
theorem dX11_byTurns_0 : decode cX11_byTurns 0 = .ok (.aload_n 0, 1) := by decide +kernel
theorem dX11_byTurns_1 : decode cX11_byTurns 1 = .ok (.iload_n 1, 1) := by decide +kernel
theorem dX11_byTurns_2 : decode cX11_byTurns 2 = .ok (.iload_n 2, 1) := by decide +kernel
theorem dX11_byTurns_3 : decode cX11_byTurns 3 = .ok (.invokevirtual 258, 3) := by decide +kernel
theorem dX11_byTurns_6 : decode cX11_byTurns 6 = .ok (.istore_n 3, 1) := by decide +kernel
theorem dX11_byTurns_7 : decode cX11_byTurns 7 = .ok (.iload_n 3, 1) := by decide +kernel
theorem dX11_byTurns_8 : decode cX11_byTurns 8 = .ok (.ifCond .eq 9, 3) := by decide +kernel
theorem dX11_byTurns_11 : decode cX11_byTurns 11 = .ok (.aload_n 0, 1) := by decide +kernel
theorem dX11_byTurns_12 : decode cX11_byTurns 12 = .ok (.iload_n 3, 1) := by decide +kernel
theorem dX11_byTurns_13 : decode cX11_byTurns 13 = .ok (.invokevirtual 98, 3) := by decide +kernel
theorem dX11_byTurns_16 : decode cX11_byTurns 16 = .ok (.ireturn, 1) := by decide +kernel
theorem dX11_byTurns_17 : decode cX11_byTurns 17 = .ok (.aload_n 0, 1) := by decide +kernel
theorem dX11_byTurns_18 : decode cX11_byTurns 18 = .ok (.aload_n 0, 1) := by decide +kernel
theorem dX11_byTurns_19 : decode cX11_byTurns 19 = .ok (.getfield 51, 3) := by decide +kernel
theorem dX11_byTurns_22 : decode cX11_byTurns 22 = .ok (.iload_n 1, 1) := by decide +kernel
theorem dX11_byTurns_23 : decode cX11_byTurns 23 = .ok (.iload_n 2, 1) := by decide +kernel
theorem dX11_byTurns_24 : decode cX11_byTurns 24 = .ok (.aload_n 0, 1) := by decide +kernel
theorem dX11_byTurns_25 : decode cX11_byTurns 25 = .ok (.getfield 42, 3) := by decide +kernel
theorem dX11_byTurns_28 : decode cX11_byTurns 28 = .ok (.getfield 180, 3) := by decide +kernel
theorem dX11_byTurns_31 : decode cX11_byTurns 31 = .ok (.sipush 1024, 3) := by decide +kernel
theorem dX11_byTurns_34 : decode cX11_byTurns 34 = .ok (.invokevirtual 261, 3) := by decide +kernel
theorem dX11_byTurns_37 : decode cX11_byTurns 37 = .ok (.invokevirtual 112, 3) := by decide +kernel
theorem dX11_byTurns_40 : decode cX11_byTurns 40 = .ok (.ireturn, 1) := by decide +kernel
theorem dX11_near_0 : decode cX11_near 0 = .ok (.aload_n 0, 1) := by decide +kernel
theorem dX11_near_1 : decode cX11_near 1 = .ok (.iload_n 1, 1) := by decide +kernel
theorem dX11_near_2 : decode cX11_near 2 = .ok (.invokevirtual 147, 3) := by decide +kernel
theorem dX11_near_5 : decode cX11_near 5 = .ok (.ifCond .ne 9, 3) := by decide +kernel
theorem dX11_near_8 : decode cX11_near 8 = .ok (.aload_n 0, 1) := by decide +kernel
theorem dX11_near_9 : decode cX11_near 9 = .ok (.iconst 1, 1) := by decide +kernel
theorem dX11_near_10 : decode cX11_near 10 = .ok (.invokevirtual 98, 3) := by decide +kernel
theorem dX11_near_13 : decode cX11_near 13 = .ok (.ireturn, 1) := by decide +kernel
theorem dX11_near_14 : decode cX11_near 14 = .ok (.aload_n 0, 1) := by decide +kernel
theorem dX11_near_15 : decode cX11_near 15 = .ok (.iload_n 1, 1) := by decide +kernel
theorem dX11_near_16 : decode cX11_near 16 = .ok (.aload_n 0, 1) := by decide +kernel
theorem dX11_near_17 : decode cX11_near 17 = .ok (.getfield 42, 3) := by decide +kernel
theorem dX11_near_20 : decode cX11_near 20 = .ok (.getfield 180, 3) := by decide +kernel
theorem dX11_near_23 : decode cX11_near 23 = .ok (.invokevirtual 201, 3) := by decide +kernel
theorem dX11_near_26 : decode cX11_near 26 = .ok (.pop, 1) := by decide +kernel
theorem dX11_near_27 : decode cX11_near 27 = .ok (.aload_n 0, 1) := by decide +kernel
theorem dX11_near_28 : decode cX11_near 28 = .ok (.aload_n 0, 1) := by decide +kernel
theorem dX11_near_29 : decode cX11_near 29 = .ok (.getfield 51, 3) := by decide +kernel
theorem dX11_near_32 : decode cX11_near 32 = .ok (.getfield 268, 3) := by decide +kernel
theorem dX11_near_35 : decode cX11_near 35 = .ok (.invokevirtual 112, 3) := by decide +kernel
theorem dX11_near_38 : decode cX11_near 38 = .ok (.ireturn, 1) := by decide +kernel
theorem dX11_asNear_0 : decode cX11_asNear 0 = .ok (.aload_n 0, 1) := by decide +kernel
theorem dX11_asNear_1 : decode cX11_asNear 1 = .ok (.iload_n 1, 1) := by decide +kernel
theorem dX11_asNear_2 : decode cX11_asNear 2 = .ok (.invokevirtual 147, 3) := by decide +kernel
theorem dX11_asNear_5 : decode cX11_asNear 5 = .ok (.ifCond .ne 9, 3) := by decide +kernel
theorem dX11_asNear_8 : decode cX11_asNear 8 = .ok (.aload_n 0, 1) := by decide +kernel
theorem dX11_asNear_9 : decode cX11_asNear 9 = .ok (.iconst 1, 1) := by decide +kernel
theorem dX11_asNear_10 : decode cX11_asNear 10 = .ok (.invokevirtual 98, 3) := by decide +kernel
theorem dX11_asNear_13 : decode cX11_asNear 13 = .ok (.ireturn, 1) := by decide +kernel
theorem dX11_asNear_14 : decode cX11_asNear 14 = .ok (.aload_n 0, 1) := by decide +kernel
theorem dX11_asNear_15 : decode cX11_asNear 15 = .ok (.iload_n 1, 1) := by decide +kernel
theorem dX11_asNear_16 : decode cX11_asNear 16 = .ok (.aload_n 0, 1) := by decide +kernel
theorem dX11_asNear_17 : decode cX11_asNear 17 = .ok (.getfield 42, 3) := by decide +kernel
theorem dX11_asNear_20 : decode cX11_asNear 20 = .ok (.getfield 180, 3) := by decide +kernel
theorem dX11_asNear_23 : decode cX11_asNear 23 = .ok (.invokevirtual 201, 3) := by decide +kernel
theorem dX11_asNear_26 : decode cX11_asNear 26 = .ok (.pop, 1) := by decide +kernel
theorem dX11_asNear_27 : decode cX11_asNear 27 = .ok (.aload_n 0, 1) := by decide +kernel
theorem dX11_asNear_28 : decode cX11_asNear 28 = .ok (.aload_n 0, 1) := by decide +kernel
theorem dX11_asNear_29 : decode cX11_asNear 29 = .ok (.getfield 51, 3) := by decide +kernel
theorem dX11_asNear_32 : decode cX11_asNear 32 = .ok (.getfield 271, 3) := by decide +kernel
theorem dX11_asNear_35 : decode cX11_asNear 35 = .ok (.invokevirtual 112, 3) := by decide +kernel
theorem dX11_asNear_38 : decode cX11_asNear 38 = .ok (.ireturn, 1) := by decide +kernel
theorem dX11_heardIn_0 : decode cX11_heardIn 0 = .ok (.aload_n 0, 1) := by decide +kernel
theorem dX11_heardIn_1 : decode cX11_heardIn 1 = .ok (.iload_n 1, 1) := by decide +kernel
theorem dX11_heardIn_2 : decode cX11_heardIn 2 = .ok (.invokevirtual 147, 3) := by decide +kernel
theorem dX11_heardIn_5 : decode cX11_heardIn 5 = .ok (.ifCond .ne 9, 3) := by decide +kernel
theorem dX11_heardIn_8 : decode cX11_heardIn 8 = .ok (.aload_n 0, 1) := by decide +kernel
theorem dX11_heardIn_9 : decode cX11_heardIn 9 = .ok (.iconst 1, 1) := by decide +kernel
theorem dX11_heardIn_10 : decode cX11_heardIn 10 = .ok (.invokevirtual 98, 3) := by decide +kernel
theorem dX11_heardIn_13 : decode cX11_heardIn 13 = .ok (.ireturn, 1) := by decide +kernel
theorem dX11_heardIn_14 : decode cX11_heardIn 14 = .ok (.iload_n 2, 1) := by decide +kernel
theorem dX11_heardIn_15 : decode cX11_heardIn 15 = .ok (.bipush 99, 2) := by decide +kernel
theorem dX11_heardIn_17 : decode cX11_heardIn 17 = .ok (.invokestatic 227, 3) := by decide +kernel
theorem dX11_heardIn_20 : decode cX11_heardIn 20 = .ok (.ifCond .ne 9, 3) := by decide +kernel
theorem dX11_heardIn_23 : decode cX11_heardIn 23 = .ok (.aload_n 0, 1) := by decide +kernel
theorem dX11_heardIn_24 : decode cX11_heardIn 24 = .ok (.iconst 2, 1) := by decide +kernel
theorem dX11_heardIn_25 : decode cX11_heardIn 25 = .ok (.invokevirtual 98, 3) := by decide +kernel
theorem dX11_heardIn_28 : decode cX11_heardIn 28 = .ok (.ireturn, 1) := by decide +kernel
theorem dX11_heardIn_29 : decode cX11_heardIn 29 = .ok (.aload_n 0, 1) := by decide +kernel
theorem dX11_heardIn_30 : decode cX11_heardIn 30 = .ok (.aload_n 0, 1) := by decide +kernel
theorem dX11_heardIn_31 : decode cX11_heardIn 31 = .ok (.iload_n 1, 1) := by decide +kernel
theorem dX11_heardIn_32 : decode cX11_heardIn 32 = .ok (.aload_n 0, 1) := by decide +kernel
theorem dX11_heardIn_33 : decode cX11_heardIn 33 = .ok (.getfield 42, 3) := by decide +kernel
theorem dX11_heardIn_36 : decode cX11_heardIn 36 = .ok (.getfield 180, 3) := by decide +kernel
theorem dX11_heardIn_39 : decode cX11_heardIn 39 = .ok (.iload_n 2, 1) := by decide +kernel
theorem dX11_heardIn_40 : decode cX11_heardIn 40 = .ok (.iadd, 1) := by decide +kernel
theorem dX11_heardIn_41 : decode cX11_heardIn 41 = .ok (.invokevirtual 201, 3) := by decide +kernel
theorem dX11_heardIn_44 : decode cX11_heardIn 44 = .ok (.invokevirtual 112, 3) := by decide +kernel
theorem dX11_heardIn_47 : decode cX11_heardIn 47 = .ok (.ireturn, 1) := by decide +kernel
theorem dX11_strange_0 : decode cX11_strange 0 = .ok (.aload_n 0, 1) := by decide +kernel
theorem dX11_strange_1 : decode cX11_strange 1 = .ok (.iload_n 1, 1) := by decide +kernel
theorem dX11_strange_2 : decode cX11_strange 2 = .ok (.invokevirtual 174, 3) := by decide +kernel
theorem dX11_strange_5 : decode cX11_strange 5 = .ok (.ifCond .ne 9, 3) := by decide +kernel
theorem dX11_strange_8 : decode cX11_strange 8 = .ok (.aload_n 0, 1) := by decide +kernel
theorem dX11_strange_9 : decode cX11_strange 9 = .ok (.iconst 1, 1) := by decide +kernel
theorem dX11_strange_10 : decode cX11_strange 10 = .ok (.invokevirtual 98, 3) := by decide +kernel
theorem dX11_strange_13 : decode cX11_strange 13 = .ok (.ireturn, 1) := by decide +kernel
theorem dX11_strange_14 : decode cX11_strange 14 = .ok (.iconst 0, 1) := by decide +kernel
theorem dX11_strange_15 : decode cX11_strange 15 = .ok (.istore_n 2, 1) := by decide +kernel
theorem dX11_strange_16 : decode cX11_strange 16 = .ok (.iload_n 2, 1) := by decide +kernel
theorem dX11_strange_17 : decode cX11_strange 17 = .ok (.bipush 99, 2) := by decide +kernel
theorem dX11_strange_19 : decode cX11_strange 19 = .ok (.if_icmp .gt 53, 3) := by decide +kernel
theorem dX11_strange_22 : decode cX11_strange 22 = .ok (.aload_n 0, 1) := by decide +kernel
theorem dX11_strange_23 : decode cX11_strange 23 = .ok (.getfield 51, 3) := by decide +kernel
theorem dX11_strange_26 : decode cX11_strange 26 = .ok (.aload_n 0, 1) := by decide +kernel
theorem dX11_strange_27 : decode cX11_strange 27 = .ok (.getfield 23, 3) := by decide +kernel
theorem dX11_strange_30 : decode cX11_strange 30 = .ok (.getfield 274, 3) := by decide +kernel
theorem dX11_strange_33 : decode cX11_strange 33 = .ok (.iload_n 1, 1) := by decide +kernel
theorem dX11_strange_34 : decode cX11_strange 34 = .ok (.iaload, 1) := by decide +kernel
theorem dX11_strange_35 : decode cX11_strange 35 = .ok (.aload_n 0, 1) := by decide +kernel
theorem dX11_strange_36 : decode cX11_strange 36 = .ok (.getfield 23, 3) := by decide +kernel
theorem dX11_strange_39 : decode cX11_strange 39 = .ok (.getfield 177, 3) := by decide +kernel
theorem dX11_strange_42 : decode cX11_strange 42 = .ok (.iload_n 1, 1) := by decide +kernel
theorem dX11_strange_43 : decode cX11_strange 43 = .ok (.iaload, 1) := by decide +kernel
theorem dX11_strange_44 : decode cX11_strange 44 = .ok (.aload_n 0, 1) := by decide +kernel
theorem dX11_strange_45 : decode cX11_strange 45 = .ok (.getfield 42, 3) := by decide +kernel
theorem dX11_strange_48 : decode cX11_strange 48 = .ok (.getfield 180, 3) := by decide +kernel
theorem dX11_strange_51 : decode cX11_strange 51 = .ok (.iload_n 2, 1) := by decide +kernel
theorem dX11_strange_52 : decode cX11_strange 52 = .ok (.iadd, 1) := by decide +kernel
theorem dX11_strange_53 : decode cX11_strange 53 = .ok (.invokevirtual 277, 3) := by decide +kernel
theorem dX11_strange_56 : decode cX11_strange 56 = .ok (.iload_n 1, 1) := by decide +kernel
theorem dX11_strange_57 : decode cX11_strange 57 = .ok (.if_icmp .eq 9, 3) := by decide +kernel
theorem dX11_strange_60 : decode cX11_strange 60 = .ok (.aload_n 0, 1) := by decide +kernel
theorem dX11_strange_61 : decode cX11_strange 61 = .ok (.iload_n 2, 1) := by decide +kernel
theorem dX11_strange_62 : decode cX11_strange 62 = .ok (.invokevirtual 112, 3) := by decide +kernel
theorem dX11_strange_65 : decode cX11_strange 65 = .ok (.ireturn, 1) := by decide +kernel
theorem dX11_strange_66 : decode cX11_strange 66 = .ok (.iinc 2 1, 3) := by decide +kernel
theorem dX11_strange_69 : decode cX11_strange 69 = .ok (.goto (-53), 3) := by decide +kernel
theorem dX11_strange_72 : decode cX11_strange 72 = .ok (.aload_n 0, 1) := by decide +kernel
theorem dX11_strange_73 : decode cX11_strange 73 = .ok (.bipush (-2), 2) := by decide +kernel
theorem dX11_strange_75 : decode cX11_strange 75 = .ok (.invokevirtual 112, 3) := by decide +kernel
theorem dX11_strange_78 : decode cX11_strange 78 = .ok (.ireturn, 1) := by decide +kernel
theorem dX11_arrival_0 : decode cX11_arrival 0 = .ok (.aload_n 0, 1) := by decide +kernel
theorem dX11_arrival_1 : decode cX11_arrival 1 = .ok (.iload_n 1, 1) := by decide +kernel
theorem dX11_arrival_2 : decode cX11_arrival 2 = .ok (.invokevirtual 121, 3) := by decide +kernel
theorem dX11_arrival_5 : decode cX11_arrival 5 = .ok (.ifCond .eq 19, 3) := by decide +kernel
theorem dX11_arrival_8 : decode cX11_arrival 8 = .ok (.aload_n 0, 1) := by decide +kernel
theorem dX11_arrival_9 : decode cX11_arrival 9 = .ok (.iload_n 2, 1) := by decide +kernel
theorem dX11_arrival_10 : decode cX11_arrival 10 = .ok (.invokevirtual 174, 3) := by decide +kernel
theorem dX11_arrival_13 : decode cX11_arrival 13 = .ok (.ifCond .eq 11, 3) := by decide +kernel
theorem dX11_arrival_16 : decode cX11_arrival 16 = .ok (.aload_n 0, 1) := by decide +kernel
theorem dX11_arrival_17 : decode cX11_arrival 17 = .ok (.iload_n 3, 1) := by decide +kernel
theorem dX11_arrival_18 : decode cX11_arrival 18 = .ok (.invokevirtual 174, 3) := by decide +kernel
theorem dX11_arrival_21 : decode cX11_arrival 21 = .ok (.ifCond .ne 9, 3) := by decide +kernel
theorem dX11_arrival_24 : decode cX11_arrival 24 = .ok (.aload_n 0, 1) := by decide +kernel
theorem dX11_arrival_25 : decode cX11_arrival 25 = .ok (.iconst 1, 1) := by decide +kernel
theorem dX11_arrival_26 : decode cX11_arrival 26 = .ok (.invokevirtual 98, 3) := by decide +kernel
theorem dX11_arrival_29 : decode cX11_arrival 29 = .ok (.ireturn, 1) := by decide +kernel
theorem dX11_arrival_30 : decode cX11_arrival 30 = .ok (.iload 4, 2) := by decide +kernel
theorem dX11_arrival_32 : decode cX11_arrival 32 = .ok (.sipush 9999, 3) := by decide +kernel
theorem dX11_arrival_35 : decode cX11_arrival 35 = .ok (.invokestatic 227, 3) := by decide +kernel
theorem dX11_arrival_38 : decode cX11_arrival 38 = .ok (.ifCond .ne 9, 3) := by decide +kernel
theorem dX11_arrival_41 : decode cX11_arrival 41 = .ok (.aload_n 0, 1) := by decide +kernel
theorem dX11_arrival_42 : decode cX11_arrival 42 = .ok (.iconst 2, 1) := by decide +kernel
theorem dX11_arrival_43 : decode cX11_arrival 43 = .ok (.invokevirtual 98, 3) := by decide +kernel
theorem dX11_arrival_46 : decode cX11_arrival 46 = .ok (.ireturn, 1) := by decide +kernel
theorem dX11_arrival_47 : decode cX11_arrival 47 = .ok (.aload_n 0, 1) := by decide +kernel
theorem dX11_arrival_48 : decode cX11_arrival 48 = .ok (.aload_n 0, 1) := by decide +kernel
theorem dX11_arrival_49 : decode cX11_arrival 49 = .ok (.getfield 60, 3) := by decide +kernel
theorem dX11_arrival_52 : decode cX11_arrival 52 = .ok (.aload_n 0, 1) := by decide +kernel
theorem dX11_arrival_53 : decode cX11_arrival 53 = .ok (.getfield 23, 3) := by decide +kernel
theorem dX11_arrival_56 : decode cX11_arrival 56 = .ok (.getfield 125, 3) := by decide +kernel
theorem dX11_arrival_59 : decode cX11_arrival 59 = .ok (.iload_n 1, 1) := by decide +kernel
theorem dX11_arrival_60 : decode cX11_arrival 60 = .ok (.aaload, 1) := by decide +kernel
theorem dX11_arrival_61 : decode cX11_arrival 61 = .ok (.getfield 129, 3) := by decide +kernel
theorem dX11_arrival_64 : decode cX11_arrival 64 = .ok (.iload_n 2, 1) := by decide +kernel
theorem dX11_arrival_65 : decode cX11_arrival 65 = .ok (.iload_n 3, 1) := by decide +kernel
theorem dX11_arrival_66 : decode cX11_arrival 66 = .ok (.iload 4, 2) := by decide +kernel
theorem dX11_arrival_68 : decode cX11_arrival 68 = .ok (.invokevirtual 280, 3) := by decide +kernel
theorem dX11_arrival_71 : decode cX11_arrival 71 = .ok (.invokevirtual 112, 3) := by decide +kernel
theorem dX11_arrival_74 : decode cX11_arrival 74 = .ok (.ireturn, 1) := by decide +kernel
theorem dX11_brings_0 : decode cX11_brings 0 = .ok (.aload_n 0, 1) := by decide +kernel
theorem dX11_brings_1 : decode cX11_brings 1 = .ok (.iload_n 1, 1) := by decide +kernel
theorem dX11_brings_2 : decode cX11_brings 2 = .ok (.invokevirtual 121, 3) := by decide +kernel
theorem dX11_brings_5 : decode cX11_brings 5 = .ok (.ifCond .eq 27, 3) := by decide +kernel
theorem dX11_brings_8 : decode cX11_brings 8 = .ok (.aload_n 0, 1) := by decide +kernel
theorem dX11_brings_9 : decode cX11_brings 9 = .ok (.iload_n 2, 1) := by decide +kernel
theorem dX11_brings_10 : decode cX11_brings 10 = .ok (.invokevirtual 147, 3) := by decide +kernel
theorem dX11_brings_13 : decode cX11_brings 13 = .ok (.ifCond .eq 19, 3) := by decide +kernel
theorem dX11_brings_16 : decode cX11_brings 16 = .ok (.aload_n 0, 1) := by decide +kernel
theorem dX11_brings_17 : decode cX11_brings 17 = .ok (.aload_n 0, 1) := by decide +kernel
theorem dX11_brings_18 : decode cX11_brings 18 = .ok (.getfield 60, 3) := by decide +kernel
theorem dX11_brings_21 : decode cX11_brings 21 = .ok (.iload_n 1, 1) := by decide +kernel
theorem dX11_brings_22 : decode cX11_brings 22 = .ok (.iload_n 2, 1) := by decide +kernel
theorem dX11_brings_23 : decode cX11_brings 23 = .ok (.invokevirtual 283, 3) := by decide +kernel
theorem dX11_brings_26 : decode cX11_brings 26 = .ok (.invokevirtual 112, 3) := by decide +kernel
theorem dX11_brings_29 : decode cX11_brings 29 = .ok (.goto 8, 3) := by decide +kernel
theorem dX11_brings_32 : decode cX11_brings 32 = .ok (.aload_n 0, 1) := by decide +kernel
theorem dX11_brings_33 : decode cX11_brings 33 = .ok (.iconst 1, 1) := by decide +kernel
theorem dX11_brings_34 : decode cX11_brings 34 = .ok (.invokevirtual 98, 3) := by decide +kernel
theorem dX11_brings_37 : decode cX11_brings 37 = .ok (.ireturn, 1) := by decide +kernel
theorem dX11_soonest_0 : decode cX11_soonest 0 = .ok (.aload_n 0, 1) := by decide +kernel
theorem dX11_soonest_1 : decode cX11_soonest 1 = .ok (.iload_n 1, 1) := by decide +kernel
theorem dX11_soonest_2 : decode cX11_soonest 2 = .ok (.invokevirtual 147, 3) := by decide +kernel
theorem dX11_soonest_5 : decode cX11_soonest 5 = .ok (.ifCond .eq 18, 3) := by decide +kernel
theorem dX11_soonest_8 : decode cX11_soonest 8 = .ok (.aload_n 0, 1) := by decide +kernel
theorem dX11_soonest_9 : decode cX11_soonest 9 = .ok (.aload_n 0, 1) := by decide +kernel
theorem dX11_soonest_10 : decode cX11_soonest 10 = .ok (.getfield 60, 3) := by decide +kernel
theorem dX11_soonest_13 : decode cX11_soonest 13 = .ok (.iload_n 1, 1) := by decide +kernel
theorem dX11_soonest_14 : decode cX11_soonest 14 = .ok (.invokevirtual 286, 3) := by decide +kernel
theorem dX11_soonest_17 : decode cX11_soonest 17 = .ok (.invokevirtual 112, 3) := by decide +kernel
theorem dX11_soonest_20 : decode cX11_soonest 20 = .ok (.goto 8, 3) := by decide +kernel
theorem dX11_soonest_23 : decode cX11_soonest 23 = .ok (.aload_n 0, 1) := by decide +kernel
theorem dX11_soonest_24 : decode cX11_soonest 24 = .ok (.iconst 1, 1) := by decide +kernel
theorem dX11_soonest_25 : decode cX11_soonest 25 = .ok (.invokevirtual 98, 3) := by decide +kernel
theorem dX11_soonest_28 : decode cX11_soonest 28 = .ok (.ireturn, 1) := by decide +kernel
theorem dX11_surest_0 : decode cX11_surest 0 = .ok (.aload_n 0, 1) := by decide +kernel
theorem dX11_surest_1 : decode cX11_surest 1 = .ok (.iload_n 1, 1) := by decide +kernel
theorem dX11_surest_2 : decode cX11_surest 2 = .ok (.invokevirtual 147, 3) := by decide +kernel
theorem dX11_surest_5 : decode cX11_surest 5 = .ok (.ifCond .eq 20, 3) := by decide +kernel
theorem dX11_surest_8 : decode cX11_surest 8 = .ok (.aload_n 0, 1) := by decide +kernel
theorem dX11_surest_9 : decode cX11_surest 9 = .ok (.aload_n 0, 1) := by decide +kernel
theorem dX11_surest_10 : decode cX11_surest 10 = .ok (.getfield 60, 3) := by decide +kernel
theorem dX11_surest_13 : decode cX11_surest 13 = .ok (.iload_n 1, 1) := by decide +kernel
theorem dX11_surest_14 : decode cX11_surest 14 = .ok (.bipush (-2), 2) := by decide +kernel
theorem dX11_surest_16 : decode cX11_surest 16 = .ok (.invokevirtual 289, 3) := by decide +kernel
theorem dX11_surest_19 : decode cX11_surest 19 = .ok (.invokevirtual 112, 3) := by decide +kernel
theorem dX11_surest_22 : decode cX11_surest 22 = .ok (.goto 8, 3) := by decide +kernel
theorem dX11_surest_25 : decode cX11_surest 25 = .ok (.aload_n 0, 1) := by decide +kernel
theorem dX11_surest_26 : decode cX11_surest 26 = .ok (.iconst 1, 1) := by decide +kernel
theorem dX11_surest_27 : decode cX11_surest 27 = .ok (.invokevirtual 98, 3) := by decide +kernel
theorem dX11_surest_30 : decode cX11_surest 30 = .ok (.ireturn, 1) := by decide +kernel
theorem dX11_by_0 : decode cX11_by 0 = .ok (.aload_n 0, 1) := by decide +kernel
theorem dX11_by_1 : decode cX11_by 1 = .ok (.iload_n 1, 1) := by decide +kernel
theorem dX11_by_2 : decode cX11_by 2 = .ok (.invokevirtual 147, 3) := by decide +kernel
theorem dX11_by_5 : decode cX11_by 5 = .ok (.ifCond .ne 9, 3) := by decide +kernel
theorem dX11_by_8 : decode cX11_by 8 = .ok (.aload_n 0, 1) := by decide +kernel
theorem dX11_by_9 : decode cX11_by 9 = .ok (.iconst 1, 1) := by decide +kernel
theorem dX11_by_10 : decode cX11_by 10 = .ok (.invokevirtual 98, 3) := by decide +kernel
theorem dX11_by_13 : decode cX11_by 13 = .ok (.ireturn, 1) := by decide +kernel
theorem dX11_by_14 : decode cX11_by 14 = .ok (.iload_n 2, 1) := by decide +kernel
theorem dX11_by_15 : decode cX11_by 15 = .ok (.ldc 226, 2) := by decide +kernel
theorem dX11_by_17 : decode cX11_by 17 = .ok (.invokestatic 227, 3) := by decide +kernel
theorem dX11_by_20 : decode cX11_by 20 = .ok (.ifCond .ne 9, 3) := by decide +kernel
theorem dX11_by_23 : decode cX11_by 23 = .ok (.aload_n 0, 1) := by decide +kernel
theorem dX11_by_24 : decode cX11_by 24 = .ok (.iconst 2, 1) := by decide +kernel
theorem dX11_by_25 : decode cX11_by 25 = .ok (.invokevirtual 98, 3) := by decide +kernel
theorem dX11_by_28 : decode cX11_by 28 = .ok (.ireturn, 1) := by decide +kernel
theorem dX11_by_29 : decode cX11_by 29 = .ok (.aload_n 0, 1) := by decide +kernel
theorem dX11_by_30 : decode cX11_by 30 = .ok (.aload_n 0, 1) := by decide +kernel
theorem dX11_by_31 : decode cX11_by 31 = .ok (.getfield 60, 3) := by decide +kernel
theorem dX11_by_34 : decode cX11_by 34 = .ok (.iload_n 1, 1) := by decide +kernel
theorem dX11_by_35 : decode cX11_by 35 = .ok (.iload_n 2, 1) := by decide +kernel
theorem dX11_by_36 : decode cX11_by 36 = .ok (.invokevirtual 292, 3) := by decide +kernel
theorem dX11_by_39 : decode cX11_by 39 = .ok (.invokevirtual 112, 3) := by decide +kernel
theorem dX11_by_42 : decode cX11_by 42 = .ok (.ireturn, 1) := by decide +kernel
theorem dX11_registered_0 : decode cX11_registered 0 = .ok (.aload_n 0, 1) := by decide +kernel
theorem dX11_registered_1 : decode cX11_registered 1 = .ok (.iload_n 1, 1) := by decide +kernel
theorem dX11_registered_2 : decode cX11_registered 2 = .ok (.invokevirtual 147, 3) := by decide +kernel
theorem dX11_registered_5 : decode cX11_registered 5 = .ok (.ifCond .ne 10, 3) := by decide +kernel
theorem dX11_registered_8 : decode cX11_registered 8 = .ok (.aload_n 0, 1) := by decide +kernel
theorem dX11_registered_9 : decode cX11_registered 9 = .ok (.iconst 1, 1) := by decide +kernel
theorem dX11_registered_10 : decode cX11_registered 10 = .ok (.invokevirtual 98, 3) := by decide +kernel
theorem dX11_registered_13 : decode cX11_registered 13 = .ok (.i2l, 1) := by decide +kernel
theorem dX11_registered_14 : decode cX11_registered 14 = .ok (.lreturn, 1) := by decide +kernel
theorem dX11_registered_15 : decode cX11_registered 15 = .ok (.aload_n 0, 1) := by decide +kernel
theorem dX11_registered_16 : decode cX11_registered 16 = .ok (.getfield 60, 3) := by decide +kernel
theorem dX11_registered_19 : decode cX11_registered 19 = .ok (.iload_n 1, 1) := by decide +kernel
theorem dX11_registered_20 : decode cX11_registered 20 = .ok (.bipush (-2), 2) := by decide +kernel
theorem dX11_registered_22 : decode cX11_registered 22 = .ok (.invokevirtual 289, 3) := by decide +kernel
theorem dX11_registered_25 : decode cX11_registered 25 = .ok (.istore_n 3, 1) := by decide +kernel
theorem dX11_registered_26 : decode cX11_registered 26 = .ok (.iload_n 3, 1) := by decide +kernel
theorem dX11_registered_27 : decode cX11_registered 27 = .ok (.bipush (-2), 2) := by decide +kernel
theorem dX11_registered_29 : decode cX11_registered 29 = .ok (.if_icmp .ne 11, 3) := by decide +kernel
theorem dX11_registered_32 : decode cX11_registered 32 = .ok (.aload_n 0, 1) := by decide +kernel
theorem dX11_registered_33 : decode cX11_registered 33 = .ok (.bipush 6, 2) := by decide +kernel
theorem dX11_registered_35 : decode cX11_registered 35 = .ok (.invokevirtual 98, 3) := by decide +kernel
theorem dX11_registered_38 : decode cX11_registered 38 = .ok (.i2l, 1) := by decide +kernel
theorem dX11_registered_39 : decode cX11_registered 39 = .ok (.lreturn, 1) := by decide +kernel
theorem dX11_registered_40 : decode cX11_registered 40 = .ok (.aload_n 0, 1) := by decide +kernel
theorem dX11_registered_41 : decode cX11_registered 41 = .ok (.getfield 23, 3) := by decide +kernel
theorem dX11_registered_44 : decode cX11_registered 44 = .ok (.getfield 125, 3) := by decide +kernel
theorem dX11_registered_47 : decode cX11_registered 47 = .ok (.iload_n 3, 1) := by decide +kernel
theorem dX11_registered_48 : decode cX11_registered 48 = .ok (.aaload, 1) := by decide +kernel
theorem dX11_registered_49 : decode cX11_registered 49 = .ok (.getfield 144, 3) := by decide +kernel
theorem dX11_registered_52 : decode cX11_registered 52 = .ok (.istore 4, 2) := by decide +kernel
theorem dX11_registered_54 : decode cX11_registered 54 = .ok (.bipush 100, 2) := by decide +kernel
theorem dX11_registered_56 : decode cX11_registered 56 = .ok (.istore 5, 2) := by decide +kernel
theorem dX11_registered_58 : decode cX11_registered 58 = .ok (.aload_n 0, 1) := by decide +kernel
theorem dX11_registered_59 : decode cX11_registered 59 = .ok (.getfield 60, 3) := by decide +kernel
theorem dX11_registered_62 : decode cX11_registered 62 = .ok (.iload_n 1, 1) := by decide +kernel
theorem dX11_registered_63 : decode cX11_registered 63 = .ok (.iload_n 3, 1) := by decide +kernel
theorem dX11_registered_64 : decode cX11_registered 64 = .ok (.invokevirtual 289, 3) := by decide +kernel
theorem dX11_registered_67 : decode cX11_registered 67 = .ok (.istore 6, 2) := by decide +kernel
theorem dX11_registered_69 : decode cX11_registered 69 = .ok (.iload 6, 2) := by decide +kernel
theorem dX11_registered_71 : decode cX11_registered 71 = .ok (.bipush (-2), 2) := by decide +kernel
theorem dX11_registered_73 : decode cX11_registered 73 = .ok (.if_icmp .eq 28, 3) := by decide +kernel
theorem dX11_registered_76 : decode cX11_registered 76 = .ok (.iload 4, 2) := by decide +kernel
theorem dX11_registered_78 : decode cX11_registered 78 = .ok (.aload_n 0, 1) := by decide +kernel
theorem dX11_registered_79 : decode cX11_registered 79 = .ok (.getfield 23, 3) := by decide +kernel
theorem dX11_registered_82 : decode cX11_registered 82 = .ok (.getfield 125, 3) := by decide +kernel
theorem dX11_registered_85 : decode cX11_registered 85 = .ok (.iload 6, 2) := by decide +kernel
theorem dX11_registered_87 : decode cX11_registered 87 = .ok (.aaload, 1) := by decide +kernel
theorem dX11_registered_88 : decode cX11_registered 88 = .ok (.getfield 144, 3) := by decide +kernel
theorem dX11_registered_91 : decode cX11_registered 91 = .ok (.imul, 1) := by decide +kernel
theorem dX11_registered_92 : decode cX11_registered 92 = .ok (.istore 4, 2) := by decide +kernel
theorem dX11_registered_94 : decode cX11_registered 94 = .ok (.iload 5, 2) := by decide +kernel
theorem dX11_registered_96 : decode cX11_registered 96 = .ok (.bipush 100, 2) := by decide +kernel
theorem dX11_registered_98 : decode cX11_registered 98 = .ok (.imul, 1) := by decide +kernel
theorem dX11_registered_99 : decode cX11_registered 99 = .ok (.istore 5, 2) := by decide +kernel
theorem dX11_registered_101 : decode cX11_registered 101 = .ok (.iload 5, 2) := by decide +kernel
theorem dX11_registered_103 : decode cX11_registered 103 = .ok (.iload 5, 2) := by decide +kernel
theorem dX11_registered_105 : decode cX11_registered 105 = .ok (.iload 4, 2) := by decide +kernel
theorem dX11_registered_107 : decode cX11_registered 107 = .ok (.isub, 1) := by decide +kernel
theorem dX11_registered_108 : decode cX11_registered 108 = .ok (.invokestatic 295, 3) := by decide +kernel
theorem dX11_registered_111 : decode cX11_registered 111 = .ok (.istore 7, 2) := by decide +kernel
theorem dX11_registered_113 : decode cX11_registered 113 = .ok (.aload_n 0, 1) := by decide +kernel
theorem dX11_registered_114 : decode cX11_registered 114 = .ok (.iload_n 2, 1) := by decide +kernel
theorem dX11_registered_115 : decode cX11_registered 115 = .ok (.ifCond .eq 8, 3) := by decide +kernel
theorem dX11_registered_118 : decode cX11_registered 118 = .ok (.iload 5, 2) := by decide +kernel
theorem dX11_registered_120 : decode cX11_registered 120 = .ok (.goto 8, 3) := by decide +kernel
theorem dX11_registered_123 : decode cX11_registered 123 = .ok (.iload 5, 2) := by decide +kernel
theorem dX11_registered_125 : decode cX11_registered 125 = .ok (.iload 4, 2) := by decide +kernel
theorem dX11_registered_127 : decode cX11_registered 127 = .ok (.isub, 1) := by decide +kernel
theorem dX11_registered_128 : decode cX11_registered 128 = .ok (.iload 7, 2) := by decide +kernel
theorem dX11_registered_130 : decode cX11_registered 130 = .ok (.idiv, 1) := by decide +kernel
theorem dX11_registered_131 : decode cX11_registered 131 = .ok (.invokevirtual 112, 3) := by decide +kernel
theorem dX11_registered_134 : decode cX11_registered 134 = .ok (.i2l, 1) := by decide +kernel
theorem dX11_registered_135 : decode cX11_registered 135 = .ok (.lreturn, 1) := by decide +kernel
theorem dX11_match_0 : decode cX11_match 0 = .ok (.aload_n 0, 1) := by decide +kernel
theorem dX11_match_1 : decode cX11_match 1 = .ok (.invokevirtual 222, 3) := by decide +kernel
theorem dX11_match_4 : decode cX11_match 4 = .ok (.ifCond .ne 9, 3) := by decide +kernel
theorem dX11_match_7 : decode cX11_match 7 = .ok (.aload_n 0, 1) := by decide +kernel
theorem dX11_match_8 : decode cX11_match 8 = .ok (.iconst 1, 1) := by decide +kernel
theorem dX11_match_9 : decode cX11_match 9 = .ok (.invokevirtual 98, 3) := by decide +kernel
theorem dX11_match_12 : decode cX11_match 12 = .ok (.ireturn, 1) := by decide +kernel
theorem dX11_match_13 : decode cX11_match 13 = .ok (.aload_n 0, 1) := by decide +kernel
theorem dX11_match_14 : decode cX11_match 14 = .ok (.invokevirtual 298, 3) := by decide +kernel
theorem dX11_match_17 : decode cX11_match 17 = .ok (.aload_n 0, 1) := by decide +kernel
theorem dX11_match_18 : decode cX11_match 18 = .ok (.aload_n 0, 1) := by decide +kernel
theorem dX11_match_19 : decode cX11_match 19 = .ok (.getfield 74, 3) := by decide +kernel
theorem dX11_match_22 : decode cX11_match 22 = .ok (.getfield 301, 3) := by decide +kernel
theorem dX11_match_25 : decode cX11_match 25 = .ok (.invokevirtual 112, 3) := by decide +kernel
theorem dX11_match_28 : decode cX11_match 28 = .ok (.ireturn, 1) := by decide +kernel
theorem dX11_matchDays_0 : decode cX11_matchDays 0 = .ok (.aload_n 0, 1) := by decide +kernel
theorem dX11_matchDays_1 : decode cX11_matchDays 1 = .ok (.invokevirtual 222, 3) := by decide +kernel
theorem dX11_matchDays_4 : decode cX11_matchDays 4 = .ok (.ifCond .ne 9, 3) := by decide +kernel
theorem dX11_matchDays_7 : decode cX11_matchDays 7 = .ok (.aload_n 0, 1) := by decide +kernel
theorem dX11_matchDays_8 : decode cX11_matchDays 8 = .ok (.iconst 1, 1) := by decide +kernel
theorem dX11_matchDays_9 : decode cX11_matchDays 9 = .ok (.invokevirtual 98, 3) := by decide +kernel
theorem dX11_matchDays_12 : decode cX11_matchDays 12 = .ok (.ireturn, 1) := by decide +kernel
theorem dX11_matchDays_13 : decode cX11_matchDays 13 = .ok (.aload_n 0, 1) := by decide +kernel
theorem dX11_matchDays_14 : decode cX11_matchDays 14 = .ok (.invokevirtual 298, 3) := by decide +kernel
theorem dX11_matchDays_17 : decode cX11_matchDays 17 = .ok (.aload_n 0, 1) := by decide +kernel
theorem dX11_matchDays_18 : decode cX11_matchDays 18 = .ok (.aload_n 0, 1) := by decide +kernel
theorem dX11_matchDays_19 : decode cX11_matchDays 19 = .ok (.getfield 74, 3) := by decide +kernel
theorem dX11_matchDays_22 : decode cX11_matchDays 22 = .ok (.getfield 304, 3) := by decide +kernel
theorem dX11_matchDays_25 : decode cX11_matchDays 25 = .ok (.invokevirtual 112, 3) := by decide +kernel
theorem dX11_matchDays_28 : decode cX11_matchDays 28 = .ok (.ireturn, 1) := by decide +kernel
theorem dX11_matchOf_0 : decode cX11_matchOf 0 = .ok (.aload_n 0, 1) := by decide +kernel
theorem dX11_matchOf_1 : decode cX11_matchOf 1 = .ok (.iload_n 1, 1) := by decide +kernel
theorem dX11_matchOf_2 : decode cX11_matchOf 2 = .ok (.invokevirtual 147, 3) := by decide +kernel
theorem dX11_matchOf_5 : decode cX11_matchOf 5 = .ok (.ifCond .ne 9, 3) := by decide +kernel
theorem dX11_matchOf_8 : decode cX11_matchOf 8 = .ok (.aload_n 0, 1) := by decide +kernel
theorem dX11_matchOf_9 : decode cX11_matchOf 9 = .ok (.iconst 1, 1) := by decide +kernel
theorem dX11_matchOf_10 : decode cX11_matchOf 10 = .ok (.invokevirtual 98, 3) := by decide +kernel
theorem dX11_matchOf_13 : decode cX11_matchOf 13 = .ok (.ireturn, 1) := by decide +kernel
theorem dX11_matchOf_14 : decode cX11_matchOf 14 = .ok (.aload_n 0, 1) := by decide +kernel
theorem dX11_matchOf_15 : decode cX11_matchOf 15 = .ok (.invokevirtual 298, 3) := by decide +kernel
theorem dX11_matchOf_18 : decode cX11_matchOf 18 = .ok (.aload_n 0, 1) := by decide +kernel
theorem dX11_matchOf_19 : decode cX11_matchOf 19 = .ok (.aload_n 0, 1) := by decide +kernel
theorem dX11_matchOf_20 : decode cX11_matchOf 20 = .ok (.getfield 74, 3) := by decide +kernel
theorem dX11_matchOf_23 : decode cX11_matchOf 23 = .ok (.getfield 307, 3) := by decide +kernel
theorem dX11_matchOf_26 : decode cX11_matchOf 26 = .ok (.iload_n 1, 1) := by decide +kernel
theorem dX11_matchOf_27 : decode cX11_matchOf 27 = .ok (.iaload, 1) := by decide +kernel
theorem dX11_matchOf_28 : decode cX11_matchOf 28 = .ok (.invokevirtual 112, 3) := by decide +kernel
theorem dX11_matchOf_31 : decode cX11_matchOf 31 = .ok (.ireturn, 1) := by decide +kernel
theorem dX11_meet_0 : decode cX11_meet 0 = .ok (.aload_n 0, 1) := by decide +kernel
theorem dX11_meet_1 : decode cX11_meet 1 = .ok (.iload_n 1, 1) := by decide +kernel
theorem dX11_meet_2 : decode cX11_meet 2 = .ok (.invokevirtual 147, 3) := by decide +kernel
theorem dX11_meet_5 : decode cX11_meet 5 = .ok (.ifCond .eq 39, 3) := by decide +kernel
theorem dX11_meet_8 : decode cX11_meet 8 = .ok (.aload_n 0, 1) := by decide +kernel
theorem dX11_meet_9 : decode cX11_meet 9 = .ok (.iload_n 3, 1) := by decide +kernel
theorem dX11_meet_10 : decode cX11_meet 10 = .ok (.invokevirtual 147, 3) := by decide +kernel
theorem dX11_meet_13 : decode cX11_meet 13 = .ok (.ifCond .eq 31, 3) := by decide +kernel
theorem dX11_meet_16 : decode cX11_meet 16 = .ok (.aload_n 0, 1) := by decide +kernel
theorem dX11_meet_17 : decode cX11_meet 17 = .ok (.iload_n 2, 1) := by decide +kernel
theorem dX11_meet_18 : decode cX11_meet 18 = .ok (.invokevirtual 121, 3) := by decide +kernel
theorem dX11_meet_21 : decode cX11_meet 21 = .ok (.ifCond .eq 23, 3) := by decide +kernel
theorem dX11_meet_24 : decode cX11_meet 24 = .ok (.aload_n 0, 1) := by decide +kernel
theorem dX11_meet_25 : decode cX11_meet 25 = .ok (.iload 4, 2) := by decide +kernel
theorem dX11_meet_27 : decode cX11_meet 27 = .ok (.invokevirtual 121, 3) := by decide +kernel
theorem dX11_meet_30 : decode cX11_meet 30 = .ok (.ifCond .eq 14, 3) := by decide +kernel
theorem dX11_meet_33 : decode cX11_meet 33 = .ok (.iload_n 1, 1) := by decide +kernel
theorem dX11_meet_34 : decode cX11_meet 34 = .ok (.iload_n 3, 1) := by decide +kernel
theorem dX11_meet_35 : decode cX11_meet 35 = .ok (.if_icmp .eq 9, 3) := by decide +kernel
theorem dX11_meet_38 : decode cX11_meet 38 = .ok (.iload_n 2, 1) := by decide +kernel
theorem dX11_meet_39 : decode cX11_meet 39 = .ok (.iload 4, 2) := by decide +kernel
theorem dX11_meet_41 : decode cX11_meet 41 = .ok (.if_icmp .ne 9, 3) := by decide +kernel
theorem dX11_meet_44 : decode cX11_meet 44 = .ok (.aload_n 0, 1) := by decide +kernel
theorem dX11_meet_45 : decode cX11_meet 45 = .ok (.iconst 1, 1) := by decide +kernel
theorem dX11_meet_46 : decode cX11_meet 46 = .ok (.invokevirtual 98, 3) := by decide +kernel
theorem dX11_meet_49 : decode cX11_meet 49 = .ok (.ireturn, 1) := by decide +kernel
theorem dX11_meet_50 : decode cX11_meet 50 = .ok (.aload_n 0, 1) := by decide +kernel
theorem dX11_meet_51 : decode cX11_meet 51 = .ok (.aload_n 0, 1) := by decide +kernel
theorem dX11_meet_52 : decode cX11_meet 52 = .ok (.getfield 60, 3) := by decide +kernel
theorem dX11_meet_55 : decode cX11_meet 55 = .ok (.iload_n 1, 1) := by decide +kernel
theorem dX11_meet_56 : decode cX11_meet 56 = .ok (.iload_n 2, 1) := by decide +kernel
theorem dX11_meet_57 : decode cX11_meet 57 = .ok (.iload_n 3, 1) := by decide +kernel
theorem dX11_meet_58 : decode cX11_meet 58 = .ok (.iload 4, 2) := by decide +kernel
theorem dX11_meet_60 : decode cX11_meet 60 = .ok (.invokevirtual 310, 3) := by decide +kernel
theorem dX11_meet_63 : decode cX11_meet 63 = .ok (.invokevirtual 112, 3) := by decide +kernel
theorem dX11_meet_66 : decode cX11_meet 66 = .ok (.ireturn, 1) := by decide +kernel
theorem dX11_fits_0 : decode cX11_fits 0 = .ok (.aload_n 0, 1) := by decide +kernel
theorem dX11_fits_1 : decode cX11_fits 1 = .ok (.invokevirtual 222, 3) := by decide +kernel
theorem dX11_fits_4 : decode cX11_fits 4 = .ok (.ifCond .eq 17, 3) := by decide +kernel
theorem dX11_fits_7 : decode cX11_fits 7 = .ok (.aload_n 0, 1) := by decide +kernel
theorem dX11_fits_8 : decode cX11_fits 8 = .ok (.aload_n 0, 1) := by decide +kernel
theorem dX11_fits_9 : decode cX11_fits 9 = .ok (.getfield 60, 3) := by decide +kernel
theorem dX11_fits_12 : decode cX11_fits 12 = .ok (.invokevirtual 313, 3) := by decide +kernel
theorem dX11_fits_15 : decode cX11_fits 15 = .ok (.invokevirtual 112, 3) := by decide +kernel
theorem dX11_fits_18 : decode cX11_fits 18 = .ok (.goto 8, 3) := by decide +kernel
theorem dX11_fits_21 : decode cX11_fits 21 = .ok (.aload_n 0, 1) := by decide +kernel
theorem dX11_fits_22 : decode cX11_fits 22 = .ok (.iconst 1, 1) := by decide +kernel
theorem dX11_fits_23 : decode cX11_fits 23 = .ok (.invokevirtual 98, 3) := by decide +kernel
theorem dX11_fits_26 : decode cX11_fits 26 = .ok (.ireturn, 1) := by decide +kernel
theorem dX11_reach_0 : decode cX11_reach 0 = .ok (.aload_n 0, 1) := by decide +kernel
theorem dX11_reach_1 : decode cX11_reach 1 = .ok (.iload_n 1, 1) := by decide +kernel
theorem dX11_reach_2 : decode cX11_reach 2 = .ok (.invokevirtual 121, 3) := by decide +kernel
theorem dX11_reach_5 : decode cX11_reach 5 = .ok (.ifCond .ne 9, 3) := by decide +kernel
theorem dX11_reach_8 : decode cX11_reach 8 = .ok (.aload_n 0, 1) := by decide +kernel
theorem dX11_reach_9 : decode cX11_reach 9 = .ok (.iconst 1, 1) := by decide +kernel
theorem dX11_reach_10 : decode cX11_reach 10 = .ok (.invokevirtual 98, 3) := by decide +kernel
theorem dX11_reach_13 : decode cX11_reach 13 = .ok (.ireturn, 1) := by decide +kernel
theorem dX11_reach_14 : decode cX11_reach 14 = .ok (.iload_n 2, 1) := by decide +kernel
theorem dX11_reach_15 : decode cX11_reach 15 = .ok (.ldc 226, 2) := by decide +kernel
theorem dX11_reach_17 : decode cX11_reach 17 = .ok (.invokestatic 227, 3) := by decide +kernel
theorem dX11_reach_20 : decode cX11_reach 20 = .ok (.ifCond .ne 9, 3) := by decide +kernel
theorem dX11_reach_23 : decode cX11_reach 23 = .ok (.aload_n 0, 1) := by decide +kernel
theorem dX11_reach_24 : decode cX11_reach 24 = .ok (.iconst 2, 1) := by decide +kernel
theorem dX11_reach_25 : decode cX11_reach 25 = .ok (.invokevirtual 98, 3) := by decide +kernel
theorem dX11_reach_28 : decode cX11_reach 28 = .ok (.ireturn, 1) := by decide +kernel
theorem dX11_reach_29 : decode cX11_reach 29 = .ok (.aload_n 0, 1) := by decide +kernel
theorem dX11_reach_30 : decode cX11_reach 30 = .ok (.aload_n 0, 1) := by decide +kernel
theorem dX11_reach_31 : decode cX11_reach 31 = .ok (.getfield 60, 3) := by decide +kernel
theorem dX11_reach_34 : decode cX11_reach 34 = .ok (.iload_n 1, 1) := by decide +kernel
theorem dX11_reach_35 : decode cX11_reach 35 = .ok (.iload_n 2, 1) := by decide +kernel
theorem dX11_reach_36 : decode cX11_reach 36 = .ok (.invokevirtual 316, 3) := by decide +kernel
theorem dX11_reach_39 : decode cX11_reach 39 = .ok (.invokevirtual 112, 3) := by decide +kernel
theorem dX11_reach_42 : decode cX11_reach 42 = .ok (.ireturn, 1) := by decide +kernel
theorem dX11_pier_0 : decode cX11_pier 0 = .ok (.aload_n 0, 1) := by decide +kernel
theorem dX11_pier_1 : decode cX11_pier 1 = .ok (.invokevirtual 222, 3) := by decide +kernel
theorem dX11_pier_4 : decode cX11_pier 4 = .ok (.ifCond .ne 9, 3) := by decide +kernel
theorem dX11_pier_7 : decode cX11_pier 7 = .ok (.aload_n 0, 1) := by decide +kernel
theorem dX11_pier_8 : decode cX11_pier 8 = .ok (.iconst 1, 1) := by decide +kernel
theorem dX11_pier_9 : decode cX11_pier 9 = .ok (.invokevirtual 98, 3) := by decide +kernel
theorem dX11_pier_12 : decode cX11_pier 12 = .ok (.ireturn, 1) := by decide +kernel
theorem dX11_pier_13 : decode cX11_pier 13 = .ok (.iload_n 1, 1) := by decide +kernel
theorem dX11_pier_14 : decode cX11_pier 14 = .ok (.ldc 226, 2) := by decide +kernel
theorem dX11_pier_16 : decode cX11_pier 16 = .ok (.invokestatic 227, 3) := by decide +kernel
theorem dX11_pier_19 : decode cX11_pier 19 = .ok (.ifCond .ne 9, 3) := by decide +kernel
theorem dX11_pier_22 : decode cX11_pier 22 = .ok (.aload_n 0, 1) := by decide +kernel
theorem dX11_pier_23 : decode cX11_pier 23 = .ok (.iconst 2, 1) := by decide +kernel
theorem dX11_pier_24 : decode cX11_pier 24 = .ok (.invokevirtual 98, 3) := by decide +kernel
theorem dX11_pier_27 : decode cX11_pier 27 = .ok (.ireturn, 1) := by decide +kernel
theorem dX11_pier_28 : decode cX11_pier 28 = .ok (.aload_n 0, 1) := by decide +kernel
theorem dX11_pier_29 : decode cX11_pier 29 = .ok (.aload_n 0, 1) := by decide +kernel
theorem dX11_pier_30 : decode cX11_pier 30 = .ok (.getfield 60, 3) := by decide +kernel
theorem dX11_pier_33 : decode cX11_pier 33 = .ok (.iload_n 1, 1) := by decide +kernel
theorem dX11_pier_34 : decode cX11_pier 34 = .ok (.invokevirtual 319, 3) := by decide +kernel
theorem dX11_pier_37 : decode cX11_pier 37 = .ok (.invokevirtual 112, 3) := by decide +kernel
theorem dX11_pier_40 : decode cX11_pier 40 = .ok (.ireturn, 1) := by decide +kernel
theorem dX11_watch_0 : decode cX11_watch 0 = .ok (.aload_n 0, 1) := by decide +kernel
theorem dX11_watch_1 : decode cX11_watch 1 = .ok (.iload_n 1, 1) := by decide +kernel
theorem dX11_watch_2 : decode cX11_watch 2 = .ok (.iload_n 2, 1) := by decide +kernel
theorem dX11_watch_3 : decode cX11_watch 3 = .ok (.invokevirtual 204, 3) := by decide +kernel
theorem dX11_watch_6 : decode cX11_watch 6 = .ok (.ifCond .eq 26, 3) := by decide +kernel
theorem dX11_watch_9 : decode cX11_watch 9 = .ok (.aload_n 0, 1) := by decide +kernel
theorem dX11_watch_10 : decode cX11_watch 10 = .ok (.aload_n 0, 1) := by decide +kernel
theorem dX11_watch_11 : decode cX11_watch 11 = .ok (.getfield 67, 3) := by decide +kernel
theorem dX11_watch_14 : decode cX11_watch 14 = .ok (.iload_n 1, 1) := by decide +kernel
theorem dX11_watch_15 : decode cX11_watch 15 = .ok (.iload_n 2, 1) := by decide +kernel
theorem dX11_watch_16 : decode cX11_watch 16 = .ok (.aload_n 0, 1) := by decide +kernel
theorem dX11_watch_17 : decode cX11_watch 17 = .ok (.getfield 42, 3) := by decide +kernel
theorem dX11_watch_20 : decode cX11_watch 20 = .ok (.getfield 322, 3) := by decide +kernel
theorem dX11_watch_23 : decode cX11_watch 23 = .ok (.invokevirtual 325, 3) := by decide +kernel
theorem dX11_watch_26 : decode cX11_watch 26 = .ok (.invokevirtual 112, 3) := by decide +kernel
theorem dX11_watch_29 : decode cX11_watch 29 = .ok (.goto 8, 3) := by decide +kernel
theorem dX11_watch_32 : decode cX11_watch 32 = .ok (.aload_n 0, 1) := by decide +kernel
theorem dX11_watch_33 : decode cX11_watch 33 = .ok (.iconst 1, 1) := by decide +kernel
theorem dX11_watch_34 : decode cX11_watch 34 = .ok (.invokevirtual 98, 3) := by decide +kernel
theorem dX11_watch_37 : decode cX11_watch 37 = .ok (.ireturn, 1) := by decide +kernel
theorem dX11_round_0 : decode cX11_round 0 = .ok (.aload_n 0, 1) := by decide +kernel
theorem dX11_round_1 : decode cX11_round 1 = .ok (.iload_n 1, 1) := by decide +kernel
theorem dX11_round_2 : decode cX11_round 2 = .ok (.invokevirtual 174, 3) := by decide +kernel
theorem dX11_round_5 : decode cX11_round 5 = .ok (.ifCond .eq 25, 3) := by decide +kernel
theorem dX11_round_8 : decode cX11_round 8 = .ok (.aload_n 0, 1) := by decide +kernel
theorem dX11_round_9 : decode cX11_round 9 = .ok (.aload_n 0, 1) := by decide +kernel
theorem dX11_round_10 : decode cX11_round 10 = .ok (.getfield 67, 3) := by decide +kernel
theorem dX11_round_13 : decode cX11_round 13 = .ok (.iload_n 1, 1) := by decide +kernel
theorem dX11_round_14 : decode cX11_round 14 = .ok (.aload_n 0, 1) := by decide +kernel
theorem dX11_round_15 : decode cX11_round 15 = .ok (.getfield 42, 3) := by decide +kernel
theorem dX11_round_18 : decode cX11_round 18 = .ok (.getfield 322, 3) := by decide +kernel
theorem dX11_round_21 : decode cX11_round 21 = .ok (.invokevirtual 328, 3) := by decide +kernel
theorem dX11_round_24 : decode cX11_round 24 = .ok (.invokevirtual 112, 3) := by decide +kernel
theorem dX11_round_27 : decode cX11_round 27 = .ok (.goto 8, 3) := by decide +kernel
theorem dX11_round_30 : decode cX11_round 30 = .ok (.aload_n 0, 1) := by decide +kernel
theorem dX11_round_31 : decode cX11_round 31 = .ok (.iconst 1, 1) := by decide +kernel
theorem dX11_round_32 : decode cX11_round 32 = .ok (.invokevirtual 98, 3) := by decide +kernel
theorem dX11_round_35 : decode cX11_round 35 = .ok (.ireturn, 1) := by decide +kernel
theorem dX11_roundAt_0 : decode cX11_roundAt 0 = .ok (.aload_n 0, 1) := by decide +kernel
theorem dX11_roundAt_1 : decode cX11_roundAt 1 = .ok (.iload_n 1, 1) := by decide +kernel
theorem dX11_roundAt_2 : decode cX11_roundAt 2 = .ok (.invokevirtual 174, 3) := by decide +kernel
theorem dX11_roundAt_5 : decode cX11_roundAt 5 = .ok (.ifCond .eq 11, 3) := by decide +kernel
theorem dX11_roundAt_8 : decode cX11_roundAt 8 = .ok (.aload_n 0, 1) := by decide +kernel
theorem dX11_roundAt_9 : decode cX11_roundAt 9 = .ok (.iload_n 2, 1) := by decide +kernel
theorem dX11_roundAt_10 : decode cX11_roundAt 10 = .ok (.invokevirtual 174, 3) := by decide +kernel
theorem dX11_roundAt_13 : decode cX11_roundAt 13 = .ok (.ifCond .ne 9, 3) := by decide +kernel
theorem dX11_roundAt_16 : decode cX11_roundAt 16 = .ok (.aload_n 0, 1) := by decide +kernel
theorem dX11_roundAt_17 : decode cX11_roundAt 17 = .ok (.iconst 1, 1) := by decide +kernel
theorem dX11_roundAt_18 : decode cX11_roundAt 18 = .ok (.invokevirtual 98, 3) := by decide +kernel
theorem dX11_roundAt_21 : decode cX11_roundAt 21 = .ok (.ireturn, 1) := by decide +kernel
theorem dX11_roundAt_22 : decode cX11_roundAt 22 = .ok (.aload_n 0, 1) := by decide +kernel
theorem dX11_roundAt_23 : decode cX11_roundAt 23 = .ok (.getfield 67, 3) := by decide +kernel
theorem dX11_roundAt_26 : decode cX11_roundAt 26 = .ok (.iload_n 1, 1) := by decide +kernel
theorem dX11_roundAt_27 : decode cX11_roundAt 27 = .ok (.aload_n 0, 1) := by decide +kernel
theorem dX11_roundAt_28 : decode cX11_roundAt 28 = .ok (.getfield 42, 3) := by decide +kernel
theorem dX11_roundAt_31 : decode cX11_roundAt 31 = .ok (.getfield 322, 3) := by decide +kernel
theorem dX11_roundAt_34 : decode cX11_roundAt 34 = .ok (.invokevirtual 328, 3) := by decide +kernel
theorem dX11_roundAt_37 : decode cX11_roundAt 37 = .ok (.bipush (-2), 2) := by decide +kernel
theorem dX11_roundAt_39 : decode cX11_roundAt 39 = .ok (.if_icmp .ne 10, 3) := by decide +kernel
theorem dX11_roundAt_42 : decode cX11_roundAt 42 = .ok (.aload_n 0, 1) := by decide +kernel
theorem dX11_roundAt_43 : decode cX11_roundAt 43 = .ok (.bipush 6, 2) := by decide +kernel
theorem dX11_roundAt_45 : decode cX11_roundAt 45 = .ok (.invokevirtual 98, 3) := by decide +kernel
theorem dX11_roundAt_48 : decode cX11_roundAt 48 = .ok (.ireturn, 1) := by decide +kernel
theorem dX11_roundAt_49 : decode cX11_roundAt 49 = .ok (.aload_n 0, 1) := by decide +kernel
theorem dX11_roundAt_50 : decode cX11_roundAt 50 = .ok (.aload_n 0, 1) := by decide +kernel
theorem dX11_roundAt_51 : decode cX11_roundAt 51 = .ok (.getfield 67, 3) := by decide +kernel
theorem dX11_roundAt_54 : decode cX11_roundAt 54 = .ok (.getfield 331, 3) := by decide +kernel
theorem dX11_roundAt_57 : decode cX11_roundAt 57 = .ok (.iload_n 2, 1) := by decide +kernel
theorem dX11_roundAt_58 : decode cX11_roundAt 58 = .ok (.iaload, 1) := by decide +kernel
theorem dX11_roundAt_59 : decode cX11_roundAt 59 = .ok (.invokevirtual 112, 3) := by decide +kernel
theorem dX11_roundAt_62 : decode cX11_roundAt 62 = .ok (.ireturn, 1) := by decide +kernel
theorem dX11_decade_0 : decode cX11_decade 0 = .ok (.aload_n 0, 1) := by decide +kernel
theorem dX11_decade_1 : decode cX11_decade 1 = .ok (.invokevirtual 222, 3) := by decide +kernel
theorem dX11_decade_4 : decode cX11_decade 4 = .ok (.ifCond .ne 9, 3) := by decide +kernel
theorem dX11_decade_7 : decode cX11_decade 7 = .ok (.aload_n 0, 1) := by decide +kernel
theorem dX11_decade_8 : decode cX11_decade 8 = .ok (.iconst 1, 1) := by decide +kernel
theorem dX11_decade_9 : decode cX11_decade 9 = .ok (.invokevirtual 98, 3) := by decide +kernel
theorem dX11_decade_12 : decode cX11_decade 12 = .ok (.ireturn, 1) := by decide +kernel
theorem dX11_decade_13 : decode cX11_decade 13 = .ok (.iload_n 1, 1) := by decide +kernel
theorem dX11_decade_14 : decode cX11_decade 14 = .ok (.ldc_w 334, 3) := by decide +kernel
theorem dX11_decade_17 : decode cX11_decade 17 = .ok (.invokestatic 227, 3) := by decide +kernel
theorem dX11_decade_20 : decode cX11_decade 20 = .ok (.ifCond .eq 12, 3) := by decide +kernel
theorem dX11_decade_23 : decode cX11_decade 23 = .ok (.iload_n 2, 1) := by decide +kernel
theorem dX11_decade_24 : decode cX11_decade 24 = .ok (.bipush 50, 2) := by decide +kernel
theorem dX11_decade_26 : decode cX11_decade 26 = .ok (.invokestatic 227, 3) := by decide +kernel
theorem dX11_decade_29 : decode cX11_decade 29 = .ok (.ifCond .ne 9, 3) := by decide +kernel
theorem dX11_decade_32 : decode cX11_decade 32 = .ok (.aload_n 0, 1) := by decide +kernel
theorem dX11_decade_33 : decode cX11_decade 33 = .ok (.iconst 2, 1) := by decide +kernel
theorem dX11_decade_34 : decode cX11_decade 34 = .ok (.invokevirtual 98, 3) := by decide +kernel
theorem dX11_decade_37 : decode cX11_decade 37 = .ok (.ireturn, 1) := by decide +kernel
theorem dX11_decade_38 : decode cX11_decade 38 = .ok (.aload_n 0, 1) := by decide +kernel
theorem dX11_decade_39 : decode cX11_decade 39 = .ok (.getfield 51, 3) := by decide +kernel
theorem dX11_decade_42 : decode cX11_decade 42 = .ok (.iload_n 1, 1) := by decide +kernel
theorem dX11_decade_43 : decode cX11_decade 43 = .ok (.putfield 335, 3) := by decide +kernel
theorem dX11_decade_46 : decode cX11_decade 46 = .ok (.iconst 0, 1) := by decide +kernel
theorem dX11_decade_47 : decode cX11_decade 47 = .ok (.istore_n 3, 1) := by decide +kernel
theorem dX11_decade_48 : decode cX11_decade 48 = .ok (.iconst 0, 1) := by decide +kernel
theorem dX11_decade_49 : decode cX11_decade 49 = .ok (.istore 4, 2) := by decide +kernel
theorem dX11_decade_51 : decode cX11_decade 51 = .ok (.iload 4, 2) := by decide +kernel
theorem dX11_decade_53 : decode cX11_decade 53 = .ok (.iload_n 2, 1) := by decide +kernel
theorem dX11_decade_54 : decode cX11_decade 54 = .ok (.if_icmp .ge 26, 3) := by decide +kernel
theorem dX11_decade_57 : decode cX11_decade 57 = .ok (.iload_n 3, 1) := by decide +kernel
theorem dX11_decade_58 : decode cX11_decade 58 = .ok (.aload_n 0, 1) := by decide +kernel
theorem dX11_decade_59 : decode cX11_decade 59 = .ok (.aload_n 0, 1) := by decide +kernel
theorem dX11_decade_60 : decode cX11_decade 60 = .ok (.getfield 42, 3) := by decide +kernel
theorem dX11_decade_63 : decode cX11_decade 63 = .ok (.getfield 180, 3) := by decide +kernel
theorem dX11_decade_66 : decode cX11_decade 66 = .ok (.iload 4, 2) := by decide +kernel
theorem dX11_decade_68 : decode cX11_decade 68 = .ok (.iadd, 1) := by decide +kernel
theorem dX11_decade_69 : decode cX11_decade 69 = .ok (.invokevirtual 338, 3) := by decide +kernel
theorem dX11_decade_72 : decode cX11_decade 72 = .ok (.iadd, 1) := by decide +kernel
theorem dX11_decade_73 : decode cX11_decade 73 = .ok (.istore_n 3, 1) := by decide +kernel
theorem dX11_decade_74 : decode cX11_decade 74 = .ok (.iinc 4 1, 3) := by decide +kernel
theorem dX11_decade_77 : decode cX11_decade 77 = .ok (.goto (-26), 3) := by decide +kernel
theorem dX11_decade_80 : decode cX11_decade 80 = .ok (.aload_n 0, 1) := by decide +kernel
theorem dX11_decade_81 : decode cX11_decade 81 = .ok (.iload_n 3, 1) := by decide +kernel
theorem dX11_decade_82 : decode cX11_decade 82 = .ok (.invokevirtual 112, 3) := by decide +kernel
theorem dX11_decade_85 : decode cX11_decade 85 = .ok (.ireturn, 1) := by decide +kernel
theorem dX11_send_0 : decode cX11_send 0 = .ok (.aload_n 0, 1) := by decide +kernel
theorem dX11_send_1 : decode cX11_send 1 = .ok (.iload_n 1, 1) := by decide +kernel
theorem dX11_send_2 : decode cX11_send 2 = .ok (.invokevirtual 121, 3) := by decide +kernel
theorem dX11_send_5 : decode cX11_send 5 = .ok (.ifCond .eq 11, 3) := by decide +kernel
theorem dX11_send_8 : decode cX11_send 8 = .ok (.aload_n 0, 1) := by decide +kernel
theorem dX11_send_9 : decode cX11_send 9 = .ok (.iload_n 2, 1) := by decide +kernel
theorem dX11_send_10 : decode cX11_send 10 = .ok (.invokevirtual 147, 3) := by decide +kernel
theorem dX11_send_13 : decode cX11_send 13 = .ok (.ifCond .ne 9, 3) := by decide +kernel
theorem dX11_send_16 : decode cX11_send 16 = .ok (.aload_n 0, 1) := by decide +kernel
theorem dX11_send_17 : decode cX11_send 17 = .ok (.iconst 1, 1) := by decide +kernel
theorem dX11_send_18 : decode cX11_send 18 = .ok (.invokevirtual 98, 3) := by decide +kernel
theorem dX11_send_21 : decode cX11_send 21 = .ok (.ireturn, 1) := by decide +kernel
theorem dX11_send_22 : decode cX11_send 22 = .ok (.aload_n 0, 1) := by decide +kernel
theorem dX11_send_23 : decode cX11_send 23 = .ok (.getfield 60, 3) := by decide +kernel
theorem dX11_send_26 : decode cX11_send 26 = .ok (.iload_n 1, 1) := by decide +kernel
theorem dX11_send_27 : decode cX11_send 27 = .ok (.iload_n 2, 1) := by decide +kernel
theorem dX11_send_28 : decode cX11_send 28 = .ok (.invokevirtual 283, 3) := by decide +kernel
theorem dX11_send_31 : decode cX11_send 31 = .ok (.istore_n 3, 1) := by decide +kernel
theorem dX11_send_32 : decode cX11_send 32 = .ok (.iload_n 3, 1) := by decide +kernel
theorem dX11_send_33 : decode cX11_send 33 = .ok (.bipush (-2), 2) := by decide +kernel
theorem dX11_send_35 : decode cX11_send 35 = .ok (.if_icmp .ne 9, 3) := by decide +kernel
theorem dX11_send_38 : decode cX11_send 38 = .ok (.aload_n 0, 1) := by decide +kernel
theorem dX11_send_39 : decode cX11_send 39 = .ok (.iconst 5, 1) := by decide +kernel
theorem dX11_send_40 : decode cX11_send 40 = .ok (.invokevirtual 98, 3) := by decide +kernel
theorem dX11_send_43 : decode cX11_send 43 = .ok (.ireturn, 1) := by decide +kernel
theorem dX11_send_44 : decode cX11_send 44 = .ok (.aload_n 0, 1) := by decide +kernel
theorem dX11_send_45 : decode cX11_send 45 = .ok (.invokevirtual 341, 3) := by decide +kernel
theorem dX11_send_48 : decode cX11_send 48 = .ok (.aload_n 0, 1) := by decide +kernel
theorem dX11_send_49 : decode cX11_send 49 = .ok (.getfield 42, 3) := by decide +kernel
theorem dX11_send_52 : decode cX11_send 52 = .ok (.getfield 134, 3) := by decide +kernel
theorem dX11_send_55 : decode cX11_send 55 = .ok (.iload_n 1, 1) := by decide +kernel
theorem dX11_send_56 : decode cX11_send 56 = .ok (.aload_n 0, 1) := by decide +kernel
theorem dX11_send_57 : decode cX11_send 57 = .ok (.getfield 60, 3) := by decide +kernel
theorem dX11_send_60 : decode cX11_send 60 = .ok (.getfield 344, 3) := by decide +kernel
theorem dX11_send_63 : decode cX11_send 63 = .ok (.iastore, 1) := by decide +kernel
theorem dX11_send_64 : decode cX11_send 64 = .ok (.aload_n 0, 1) := by decide +kernel
theorem dX11_send_65 : decode cX11_send 65 = .ok (.getfield 42, 3) := by decide +kernel
theorem dX11_send_68 : decode cX11_send 68 = .ok (.getfield 138, 3) := by decide +kernel
theorem dX11_send_71 : decode cX11_send 71 = .ok (.iload_n 1, 1) := by decide +kernel
theorem dX11_send_72 : decode cX11_send 72 = .ok (.iload_n 3, 1) := by decide +kernel
theorem dX11_send_73 : decode cX11_send 73 = .ok (.iastore, 1) := by decide +kernel
theorem dX11_send_74 : decode cX11_send 74 = .ok (.aload_n 0, 1) := by decide +kernel
theorem dX11_send_75 : decode cX11_send 75 = .ok (.getfield 42, 3) := by decide +kernel
theorem dX11_send_78 : decode cX11_send 78 = .ok (.getfield 168, 3) := by decide +kernel
theorem dX11_send_81 : decode cX11_send 81 = .ok (.iload_n 2, 1) := by decide +kernel
theorem dX11_send_82 : decode cX11_send 82 = .ok (.iload_n 3, 1) := by decide +kernel
theorem dX11_send_83 : decode cX11_send 83 = .ok (.iastore, 1) := by decide +kernel
theorem dX11_send_84 : decode cX11_send 84 = .ok (.aload_n 0, 1) := by decide +kernel
theorem dX11_send_85 : decode cX11_send 85 = .ok (.getfield 42, 3) := by decide +kernel
theorem dX11_send_88 : decode cX11_send 88 = .ok (.getfield 171, 3) := by decide +kernel
theorem dX11_send_91 : decode cX11_send 91 = .ok (.iload_n 2, 1) := by decide +kernel
theorem dX11_send_92 : decode cX11_send 92 = .ok (.aload_n 0, 1) := by decide +kernel
theorem dX11_send_93 : decode cX11_send 93 = .ok (.getfield 60, 3) := by decide +kernel
theorem dX11_send_96 : decode cX11_send 96 = .ok (.getfield 344, 3) := by decide +kernel
theorem dX11_send_99 : decode cX11_send 99 = .ok (.iastore, 1) := by decide +kernel
theorem dX11_send_100 : decode cX11_send 100 = .ok (.aload_n 0, 1) := by decide +kernel
theorem dX11_send_101 : decode cX11_send 101 = .ok (.iload_n 3, 1) := by decide +kernel
theorem dX11_send_102 : decode cX11_send 102 = .ok (.invokevirtual 112, 3) := by decide +kernel
theorem dX11_send_105 : decode cX11_send 105 = .ok (.ireturn, 1) := by decide +kernel
theorem dX11_tune_0 : decode cX11_tune 0 = .ok (.aload_n 0, 1) := by decide +kernel
theorem dX11_tune_1 : decode cX11_tune 1 = .ok (.iload_n 1, 1) := by decide +kernel
theorem dX11_tune_2 : decode cX11_tune 2 = .ok (.iload_n 2, 1) := by decide +kernel
theorem dX11_tune_3 : decode cX11_tune 3 = .ok (.invokevirtual 191, 3) := by decide +kernel
theorem dX11_tune_6 : decode cX11_tune 6 = .ok (.ifCond .ne 9, 3) := by decide +kernel
theorem dX11_tune_9 : decode cX11_tune 9 = .ok (.aload_n 0, 1) := by decide +kernel
theorem dX11_tune_10 : decode cX11_tune 10 = .ok (.iconst 1, 1) := by decide +kernel
theorem dX11_tune_11 : decode cX11_tune 11 = .ok (.invokevirtual 347, 3) := by decide +kernel
theorem dX11_tune_14 : decode cX11_tune 14 = .ok (.ireturn, 1) := by decide +kernel
theorem dX11_tune_15 : decode cX11_tune 15 = .ok (.iload_n 3, 1) := by decide +kernel
theorem dX11_tune_16 : decode cX11_tune 16 = .ok (.aload_n 0, 1) := by decide +kernel
theorem dX11_tune_17 : decode cX11_tune 17 = .ok (.getfield 23, 3) := by decide +kernel
theorem dX11_tune_20 : decode cX11_tune 20 = .ok (.getfield 350, 3) := by decide +kernel
theorem dX11_tune_23 : decode cX11_tune 23 = .ok (.iconst 1, 1) := by decide +kernel
theorem dX11_tune_24 : decode cX11_tune 24 = .ok (.isub, 1) := by decide +kernel
theorem dX11_tune_25 : decode cX11_tune 25 = .ok (.invokestatic 227, 3) := by decide +kernel
theorem dX11_tune_28 : decode cX11_tune 28 = .ok (.ifCond .ne 9, 3) := by decide +kernel
theorem dX11_tune_31 : decode cX11_tune 31 = .ok (.aload_n 0, 1) := by decide +kernel
theorem dX11_tune_32 : decode cX11_tune 32 = .ok (.iconst 2, 1) := by decide +kernel
theorem dX11_tune_33 : decode cX11_tune 33 = .ok (.invokevirtual 347, 3) := by decide +kernel
theorem dX11_tune_36 : decode cX11_tune 36 = .ok (.ireturn, 1) := by decide +kernel
theorem dX11_tune_37 : decode cX11_tune 37 = .ok (.aload_n 0, 1) := by decide +kernel
theorem dX11_tune_38 : decode cX11_tune 38 = .ok (.getfield 42, 3) := by decide +kernel
theorem dX11_tune_41 : decode cX11_tune 41 = .ok (.getfield 195, 3) := by decide +kernel
theorem dX11_tune_44 : decode cX11_tune 44 = .ok (.iload_n 1, 1) := by decide +kernel
theorem dX11_tune_45 : decode cX11_tune 45 = .ok (.iaload, 1) := by decide +kernel
theorem dX11_tune_46 : decode cX11_tune 46 = .ok (.aload_n 0, 1) := by decide +kernel
theorem dX11_tune_47 : decode cX11_tune 47 = .ok (.getfield 23, 3) := by decide +kernel
theorem dX11_tune_50 : decode cX11_tune 50 = .ok (.iload_n 1, 1) := by decide +kernel
theorem dX11_tune_51 : decode cX11_tune 51 = .ok (.invokevirtual 198, 3) := by decide +kernel
theorem dX11_tune_54 : decode cX11_tune 54 = .ok (.iload_n 2, 1) := by decide +kernel
theorem dX11_tune_55 : decode cX11_tune 55 = .ok (.iload_n 3, 1) := by decide +kernel
theorem dX11_tune_56 : decode cX11_tune 56 = .ok (.invokestatic 353, 3) := by decide +kernel
theorem dX11_tune_59 : decode cX11_tune 59 = .ok (.istore 4, 2) := by decide +kernel
theorem dX11_tune_61 : decode cX11_tune 61 = .ok (.aload_n 0, 1) := by decide +kernel
theorem dX11_tune_62 : decode cX11_tune 62 = .ok (.getfield 42, 3) := by decide +kernel
theorem dX11_tune_65 : decode cX11_tune 65 = .ok (.iload_n 1, 1) := by decide +kernel
theorem dX11_tune_66 : decode cX11_tune 66 = .ok (.invokevirtual 242, 3) := by decide +kernel
theorem dX11_tune_69 : decode cX11_tune 69 = .ok (.ifCond .ne 17, 3) := by decide +kernel
theorem dX11_tune_72 : decode cX11_tune 72 = .ok (.iload 4, 2) := by decide +kernel
theorem dX11_tune_74 : decode cX11_tune 74 = .ok (.aload_n 0, 1) := by decide +kernel
theorem dX11_tune_75 : decode cX11_tune 75 = .ok (.getfield 42, 3) := by decide +kernel
theorem dX11_tune_78 : decode cX11_tune 78 = .ok (.getfield 195, 3) := by decide +kernel
theorem dX11_tune_81 : decode cX11_tune 81 = .ok (.iload_n 1, 1) := by decide +kernel
theorem dX11_tune_82 : decode cX11_tune 82 = .ok (.iaload, 1) := by decide +kernel
theorem dX11_tune_83 : decode cX11_tune 83 = .ok (.if_icmp .ne 9, 3) := by decide +kernel
theorem dX11_tune_86 : decode cX11_tune 86 = .ok (.aload_n 0, 1) := by decide +kernel
theorem dX11_tune_87 : decode cX11_tune 87 = .ok (.iconst 5, 1) := by decide +kernel
theorem dX11_tune_88 : decode cX11_tune 88 = .ok (.invokevirtual 347, 3) := by decide +kernel
theorem dX11_tune_91 : decode cX11_tune 91 = .ok (.ireturn, 1) := by decide +kernel
theorem dX11_tune_92 : decode cX11_tune 92 = .ok (.aload_n 0, 1) := by decide +kernel
theorem dX11_tune_93 : decode cX11_tune 93 = .ok (.invokevirtual 341, 3) := by decide +kernel
theorem dX11_tune_96 : decode cX11_tune 96 = .ok (.aload_n 0, 1) := by decide +kernel
theorem dX11_tune_97 : decode cX11_tune 97 = .ok (.getfield 42, 3) := by decide +kernel
theorem dX11_tune_100 : decode cX11_tune 100 = .ok (.getfield 195, 3) := by decide +kernel
theorem dX11_tune_103 : decode cX11_tune 103 = .ok (.iload_n 1, 1) := by decide +kernel
theorem dX11_tune_104 : decode cX11_tune 104 = .ok (.iload 4, 2) := by decide +kernel
theorem dX11_tune_106 : decode cX11_tune 106 = .ok (.iastore, 1) := by decide +kernel
theorem dX11_tune_107 : decode cX11_tune 107 = .ok (.aload_n 0, 1) := by decide +kernel
theorem dX11_tune_108 : decode cX11_tune 108 = .ok (.invokevirtual 356, 3) := by decide +kernel
theorem dX11_tune_111 : decode cX11_tune 111 = .ok (.ireturn, 1) := by decide +kernel
theorem dX11_years_0 : decode cX11_years 0 = .ok (.aload_n 0, 1) := by decide +kernel
theorem dX11_years_1 : decode cX11_years 1 = .ok (.invokevirtual 222, 3) := by decide +kernel
theorem dX11_years_4 : decode cX11_years 4 = .ok (.ifCond .ne 9, 3) := by decide +kernel
theorem dX11_years_7 : decode cX11_years 7 = .ok (.aload_n 0, 1) := by decide +kernel
theorem dX11_years_8 : decode cX11_years 8 = .ok (.iconst 1, 1) := by decide +kernel
theorem dX11_years_9 : decode cX11_years 9 = .ok (.invokevirtual 98, 3) := by decide +kernel
theorem dX11_years_12 : decode cX11_years 12 = .ok (.ireturn, 1) := by decide +kernel
theorem dX11_years_13 : decode cX11_years 13 = .ok (.iload_n 1, 1) := by decide +kernel
theorem dX11_years_14 : decode cX11_years 14 = .ok (.iconst 1, 1) := by decide +kernel
theorem dX11_years_15 : decode cX11_years 15 = .ok (.if_icmp .lt 9, 3) := by decide +kernel
theorem dX11_years_18 : decode cX11_years 18 = .ok (.iload_n 1, 1) := by decide +kernel
theorem dX11_years_19 : decode cX11_years 19 = .ok (.bipush 99, 2) := by decide +kernel
theorem dX11_years_21 : decode cX11_years 21 = .ok (.if_icmp .le 9, 3) := by decide +kernel
theorem dX11_years_24 : decode cX11_years 24 = .ok (.aload_n 0, 1) := by decide +kernel
theorem dX11_years_25 : decode cX11_years 25 = .ok (.iconst 2, 1) := by decide +kernel
theorem dX11_years_26 : decode cX11_years 26 = .ok (.invokevirtual 98, 3) := by decide +kernel
theorem dX11_years_29 : decode cX11_years 29 = .ok (.ireturn, 1) := by decide +kernel
theorem dX11_years_30 : decode cX11_years 30 = .ok (.aload_n 0, 1) := by decide +kernel
theorem dX11_years_31 : decode cX11_years 31 = .ok (.getfield 42, 3) := by decide +kernel
theorem dX11_years_34 : decode cX11_years 34 = .ok (.getfield 180, 3) := by decide +kernel
theorem dX11_years_37 : decode cX11_years 37 = .ok (.iload_n 1, 1) := by decide +kernel
theorem dX11_years_38 : decode cX11_years 38 = .ok (.iadd, 1) := by decide +kernel
theorem dX11_years_39 : decode cX11_years 39 = .ok (.sipush 9999, 3) := by decide +kernel
theorem dX11_years_42 : decode cX11_years 42 = .ok (.if_icmp .le 9, 3) := by decide +kernel
theorem dX11_years_45 : decode cX11_years 45 = .ok (.aload_n 0, 1) := by decide +kernel
theorem dX11_years_46 : decode cX11_years 46 = .ok (.iconst 3, 1) := by decide +kernel
theorem dX11_years_47 : decode cX11_years 47 = .ok (.invokevirtual 98, 3) := by decide +kernel
theorem dX11_years_50 : decode cX11_years 50 = .ok (.ireturn, 1) := by decide +kernel
theorem dX11_years_51 : decode cX11_years 51 = .ok (.aload_n 0, 1) := by decide +kernel
theorem dX11_years_52 : decode cX11_years 52 = .ok (.invokevirtual 341, 3) := by decide +kernel
theorem dX11_years_55 : decode cX11_years 55 = .ok (.aload_n 0, 1) := by decide +kernel
theorem dX11_years_56 : decode cX11_years 56 = .ok (.getfield 42, 3) := by decide +kernel
theorem dX11_years_59 : decode cX11_years 59 = .ok (.dup, 1) := by decide +kernel
theorem dX11_years_60 : decode cX11_years 60 = .ok (.getfield 180, 3) := by decide +kernel
theorem dX11_years_63 : decode cX11_years 63 = .ok (.iload_n 1, 1) := by decide +kernel
theorem dX11_years_64 : decode cX11_years 64 = .ok (.iadd, 1) := by decide +kernel
theorem dX11_years_65 : decode cX11_years 65 = .ok (.putfield 180, 3) := by decide +kernel
theorem dX11_years_68 : decode cX11_years 68 = .ok (.aload_n 0, 1) := by decide +kernel
theorem dX11_years_69 : decode cX11_years 69 = .ok (.aload_n 0, 1) := by decide +kernel
theorem dX11_years_70 : decode cX11_years 70 = .ok (.getfield 42, 3) := by decide +kernel
theorem dX11_years_73 : decode cX11_years 73 = .ok (.getfield 180, 3) := by decide +kernel
theorem dX11_years_76 : decode cX11_years 76 = .ok (.invokevirtual 112, 3) := by decide +kernel
theorem dX11_years_79 : decode cX11_years 79 = .ok (.ireturn, 1) := by decide +kernel
theorem dX11_close_0 : decode cX11_close 0 = .ok (.aload_n 0, 1) := by decide +kernel
theorem dX11_close_1 : decode cX11_close 1 = .ok (.iload_n 1, 1) := by decide +kernel
theorem dX11_close_2 : decode cX11_close 2 = .ok (.invokevirtual 230, 3) := by decide +kernel
theorem dX11_close_5 : decode cX11_close 5 = .ok (.ifCond .ne 9, 3) := by decide +kernel
theorem dX11_close_8 : decode cX11_close 8 = .ok (.aload_n 0, 1) := by decide +kernel
theorem dX11_close_9 : decode cX11_close 9 = .ok (.iconst 1, 1) := by decide +kernel
theorem dX11_close_10 : decode cX11_close 10 = .ok (.invokevirtual 347, 3) := by decide +kernel
theorem dX11_close_13 : decode cX11_close 13 = .ok (.ireturn, 1) := by decide +kernel
theorem dX11_close_14 : decode cX11_close 14 = .ok (.aload_n 0, 1) := by decide +kernel
theorem dX11_close_15 : decode cX11_close 15 = .ok (.getfield 42, 3) := by decide +kernel
theorem dX11_close_18 : decode cX11_close 18 = .ok (.iload_n 1, 1) := by decide +kernel
theorem dX11_close_19 : decode cX11_close 19 = .ok (.invokevirtual 210, 3) := by decide +kernel
theorem dX11_close_22 : decode cX11_close 22 = .ok (.iload_n 2, 1) := by decide +kernel
theorem dX11_close_23 : decode cX11_close 23 = .ok (.if_icmp .ne 9, 3) := by decide +kernel
theorem dX11_close_26 : decode cX11_close 26 = .ok (.aload_n 0, 1) := by decide +kernel
theorem dX11_close_27 : decode cX11_close 27 = .ok (.iconst 5, 1) := by decide +kernel
theorem dX11_close_28 : decode cX11_close 28 = .ok (.invokevirtual 347, 3) := by decide +kernel
theorem dX11_close_31 : decode cX11_close 31 = .ok (.ireturn, 1) := by decide +kernel
theorem dX11_close_32 : decode cX11_close 32 = .ok (.aload_n 0, 1) := by decide +kernel
theorem dX11_close_33 : decode cX11_close 33 = .ok (.invokevirtual 341, 3) := by decide +kernel
theorem dX11_close_36 : decode cX11_close 36 = .ok (.aload_n 0, 1) := by decide +kernel
theorem dX11_close_37 : decode cX11_close 37 = .ok (.getfield 42, 3) := by decide +kernel
theorem dX11_close_40 : decode cX11_close 40 = .ok (.dup, 1) := by decide +kernel
theorem dX11_close_41 : decode cX11_close 41 = .ok (.getfield 322, 3) := by decide +kernel
theorem dX11_close_44 : decode cX11_close 44 = .ok (.iconst 1, 1) := by decide +kernel
theorem dX11_close_45 : decode cX11_close 45 = .ok (.iload_n 1, 1) := by decide +kernel
theorem dX11_close_46 : decode cX11_close 46 = .ok (.ishl, 1) := by decide +kernel
theorem dX11_close_47 : decode cX11_close 47 = .ok (.ixor, 1) := by decide +kernel
theorem dX11_close_48 : decode cX11_close 48 = .ok (.putfield 322, 3) := by decide +kernel
theorem dX11_close_51 : decode cX11_close 51 = .ok (.aload_n 0, 1) := by decide +kernel
theorem dX11_close_52 : decode cX11_close 52 = .ok (.invokevirtual 356, 3) := by decide +kernel
theorem dX11_close_55 : decode cX11_close 55 = .ok (.ireturn, 1) := by decide +kernel
theorem dX11_undo_0 : decode cX11_undo 0 = .ok (.aload_n 0, 1) := by decide +kernel
theorem dX11_undo_1 : decode cX11_undo 1 = .ok (.getfield 85, 3) := by decide +kernel
theorem dX11_undo_4 : decode cX11_undo 4 = .ok (.ifCond .ne 10, 3) := by decide +kernel
theorem dX11_undo_7 : decode cX11_undo 7 = .ok (.aload_n 0, 1) := by decide +kernel
theorem dX11_undo_8 : decode cX11_undo 8 = .ok (.bipush 6, 2) := by decide +kernel
theorem dX11_undo_10 : decode cX11_undo 10 = .ok (.invokevirtual 347, 3) := by decide +kernel
theorem dX11_undo_13 : decode cX11_undo 13 = .ok (.ireturn, 1) := by decide +kernel
theorem dX11_undo_14 : decode cX11_undo 14 = .ok (.aload_n 0, 1) := by decide +kernel
theorem dX11_undo_15 : decode cX11_undo 15 = .ok (.getfield 42, 3) := by decide +kernel
theorem dX11_undo_18 : decode cX11_undo 18 = .ok (.aload_n 0, 1) := by decide +kernel
theorem dX11_undo_19 : decode cX11_undo 19 = .ok (.getfield 78, 3) := by decide +kernel
theorem dX11_undo_22 : decode cX11_undo 22 = .ok (.aload_n 0, 1) := by decide +kernel
theorem dX11_undo_23 : decode cX11_undo 23 = .ok (.getfield 82, 3) := by decide +kernel
theorem dX11_undo_26 : decode cX11_undo 26 = .ok (.aaload, 1) := by decide +kernel
theorem dX11_undo_27 : decode cX11_undo 27 = .ok (.invokevirtual 359, 3) := by decide +kernel
theorem dX11_undo_30 : decode cX11_undo 30 = .ok (.aload_n 0, 1) := by decide +kernel
theorem dX11_undo_31 : decode cX11_undo 31 = .ok (.aload_n 0, 1) := by decide +kernel
theorem dX11_undo_32 : decode cX11_undo 32 = .ok (.getfield 82, 3) := by decide +kernel
theorem dX11_undo_35 : decode cX11_undo 35 = .ok (.bipush 12, 2) := by decide +kernel
theorem dX11_undo_37 : decode cX11_undo 37 = .ok (.iadd, 1) := by decide +kernel
theorem dX11_undo_38 : decode cX11_undo 38 = .ok (.iconst 1, 1) := by decide +kernel
theorem dX11_undo_39 : decode cX11_undo 39 = .ok (.isub, 1) := by decide +kernel
theorem dX11_undo_40 : decode cX11_undo 40 = .ok (.bipush 12, 2) := by decide +kernel
theorem dX11_undo_42 : decode cX11_undo 42 = .ok (.irem, 1) := by decide +kernel
theorem dX11_undo_43 : decode cX11_undo 43 = .ok (.putfield 82, 3) := by decide +kernel
theorem dX11_undo_46 : decode cX11_undo 46 = .ok (.aload_n 0, 1) := by decide +kernel
theorem dX11_undo_47 : decode cX11_undo 47 = .ok (.dup, 1) := by decide +kernel
theorem dX11_undo_48 : decode cX11_undo 48 = .ok (.getfield 85, 3) := by decide +kernel
theorem dX11_undo_51 : decode cX11_undo 51 = .ok (.iconst 1, 1) := by decide +kernel
theorem dX11_undo_52 : decode cX11_undo 52 = .ok (.isub, 1) := by decide +kernel
theorem dX11_undo_53 : decode cX11_undo 53 = .ok (.putfield 85, 3) := by decide +kernel
theorem dX11_undo_56 : decode cX11_undo 56 = .ok (.aload_n 0, 1) := by decide +kernel
theorem dX11_undo_57 : decode cX11_undo 57 = .ok (.invokevirtual 356, 3) := by decide +kernel
theorem dX11_undo_60 : decode cX11_undo 60 = .ok (.ireturn, 1) := by decide +kernel
theorem dX11_image_0 : decode cX11_image 0 = .ok (.aload_n 0, 1) := by decide +kernel
theorem dX11_image_1 : decode cX11_image 1 = .ok (.invokevirtual 222, 3) := by decide +kernel
theorem dX11_image_4 : decode cX11_image 4 = .ok (.ifCond .ne 9, 3) := by decide +kernel
theorem dX11_image_7 : decode cX11_image 7 = .ok (.aload_n 0, 1) := by decide +kernel
theorem dX11_image_8 : decode cX11_image 8 = .ok (.iconst 1, 1) := by decide +kernel
theorem dX11_image_9 : decode cX11_image 9 = .ok (.invokevirtual 98, 3) := by decide +kernel
theorem dX11_image_12 : decode cX11_image 12 = .ok (.ireturn, 1) := by decide +kernel
theorem dX11_image_13 : decode cX11_image 13 = .ok (.aload_n 0, 1) := by decide +kernel
theorem dX11_image_14 : decode cX11_image 14 = .ok (.getfield 91, 3) := by decide +kernel
theorem dX11_image_17 : decode cX11_image 17 = .ok (.iconst 3, 1) := by decide +kernel
theorem dX11_image_18 : decode cX11_image 18 = .ok (.if_icmp .lt 9, 3) := by decide +kernel
theorem dX11_image_21 : decode cX11_image 21 = .ok (.aload_n 0, 1) := by decide +kernel
theorem dX11_image_22 : decode cX11_image 22 = .ok (.iconst 3, 1) := by decide +kernel
theorem dX11_image_23 : decode cX11_image 23 = .ok (.invokevirtual 98, 3) := by decide +kernel
theorem dX11_image_26 : decode cX11_image 26 = .ok (.ireturn, 1) := by decide +kernel
theorem dX11_image_27 : decode cX11_image 27 = .ok (.aload_n 0, 1) := by decide +kernel
theorem dX11_image_28 : decode cX11_image 28 = .ok (.getfield 88, 3) := by decide +kernel
theorem dX11_image_31 : decode cX11_image 31 = .ok (.aload_n 0, 1) := by decide +kernel
theorem dX11_image_32 : decode cX11_image 32 = .ok (.getfield 91, 3) := by decide +kernel
theorem dX11_image_35 : decode cX11_image 35 = .ok (.aaload, 1) := by decide +kernel
theorem dX11_image_36 : decode cX11_image 36 = .ok (.aload_n 0, 1) := by decide +kernel
theorem dX11_image_37 : decode cX11_image 37 = .ok (.getfield 42, 3) := by decide +kernel
theorem dX11_image_40 : decode cX11_image 40 = .ok (.invokevirtual 359, 3) := by decide +kernel
theorem dX11_image_43 : decode cX11_image 43 = .ok (.aload_n 0, 1) := by decide +kernel
theorem dX11_image_44 : decode cX11_image 44 = .ok (.dup, 1) := by decide +kernel
theorem dX11_image_45 : decode cX11_image 45 = .ok (.getfield 91, 3) := by decide +kernel
theorem dX11_image_48 : decode cX11_image 48 = .ok (.iconst 1, 1) := by decide +kernel
theorem dX11_image_49 : decode cX11_image 49 = .ok (.iadd, 1) := by decide +kernel
theorem dX11_image_50 : decode cX11_image 50 = .ok (.putfield 91, 3) := by decide +kernel
theorem dX11_image_53 : decode cX11_image 53 = .ok (.aload_n 0, 1) := by decide +kernel
theorem dX11_image_54 : decode cX11_image 54 = .ok (.aload_n 0, 1) := by decide +kernel
theorem dX11_image_55 : decode cX11_image 55 = .ok (.getfield 91, 3) := by decide +kernel
theorem dX11_image_58 : decode cX11_image 58 = .ok (.iconst 1, 1) := by decide +kernel
theorem dX11_image_59 : decode cX11_image 59 = .ok (.isub, 1) := by decide +kernel
theorem dX11_image_60 : decode cX11_image 60 = .ok (.invokevirtual 112, 3) := by decide +kernel
theorem dX11_image_63 : decode cX11_image 63 = .ok (.ireturn, 1) := by decide +kernel
theorem dX11_back_0 : decode cX11_back 0 = .ok (.iload_n 1, 1) := by decide +kernel
theorem dX11_back_1 : decode cX11_back 1 = .ok (.ifCond .lt 11, 3) := by decide +kernel
theorem dX11_back_4 : decode cX11_back 4 = .ok (.iload_n 1, 1) := by decide +kernel
theorem dX11_back_5 : decode cX11_back 5 = .ok (.aload_n 0, 1) := by decide +kernel
theorem dX11_back_6 : decode cX11_back 6 = .ok (.getfield 91, 3) := by decide +kernel
theorem dX11_back_9 : decode cX11_back 9 = .ok (.if_icmp .lt 9, 3) := by decide +kernel
theorem dX11_back_12 : decode cX11_back 12 = .ok (.aload_n 0, 1) := by decide +kernel
theorem dX11_back_13 : decode cX11_back 13 = .ok (.iconst 1, 1) := by decide +kernel
theorem dX11_back_14 : decode cX11_back 14 = .ok (.invokevirtual 347, 3) := by decide +kernel
theorem dX11_back_17 : decode cX11_back 17 = .ok (.ireturn, 1) := by decide +kernel
theorem dX11_back_18 : decode cX11_back 18 = .ok (.aload_n 0, 1) := by decide +kernel
theorem dX11_back_19 : decode cX11_back 19 = .ok (.getfield 42, 3) := by decide +kernel
theorem dX11_back_22 : decode cX11_back 22 = .ok (.aload_n 0, 1) := by decide +kernel
theorem dX11_back_23 : decode cX11_back 23 = .ok (.getfield 88, 3) := by decide +kernel
theorem dX11_back_26 : decode cX11_back 26 = .ok (.iload_n 1, 1) := by decide +kernel
theorem dX11_back_27 : decode cX11_back 27 = .ok (.aaload, 1) := by decide +kernel
theorem dX11_back_28 : decode cX11_back 28 = .ok (.invokevirtual 359, 3) := by decide +kernel
theorem dX11_back_31 : decode cX11_back 31 = .ok (.aload_n 0, 1) := by decide +kernel
theorem dX11_back_32 : decode cX11_back 32 = .ok (.iconst 0, 1) := by decide +kernel
theorem dX11_back_33 : decode cX11_back 33 = .ok (.putfield 85, 3) := by decide +kernel
theorem dX11_back_36 : decode cX11_back 36 = .ok (.aload_n 0, 1) := by decide +kernel
theorem dX11_back_37 : decode cX11_back 37 = .ok (.invokevirtual 356, 3) := by decide +kernel
theorem dX11_back_40 : decode cX11_back 40 = .ok (.ireturn, 1) := by decide +kernel
theorem dX11_led_0 : decode cX11_led 0 = .ok (.iload_n 1, 1) := by decide +kernel
theorem dX11_led_1 : decode cX11_led 1 = .ok (.istore_n 2, 1) := by decide +kernel
theorem dX11_led_2 : decode cX11_led 2 = .ok (.iconst 0, 1) := by decide +kernel
theorem dX11_led_3 : decode cX11_led 3 = .ok (.istore_n 3, 1) := by decide +kernel
theorem dX11_led_4 : decode cX11_led 4 = .ok (.iload_n 3, 1) := by decide +kernel
theorem dX11_led_5 : decode cX11_led 5 = .ok (.aload_n 0, 1) := by decide +kernel
theorem dX11_led_6 : decode cX11_led 6 = .ok (.getfield 23, 3) := by decide +kernel
theorem dX11_led_9 : decode cX11_led 9 = .ok (.getfield 239, 3) := by decide +kernel
theorem dX11_led_12 : decode cX11_led 12 = .ok (.if_icmp .ge 33, 3) := by decide +kernel
theorem dX11_led_15 : decode cX11_led 15 = .ok (.iload_n 2, 1) := by decide +kernel
theorem dX11_led_16 : decode cX11_led 16 = .ok (.ifCond .lt 29, 3) := by decide +kernel
theorem dX11_led_19 : decode cX11_led 19 = .ok (.aload_n 0, 1) := by decide +kernel
theorem dX11_led_20 : decode cX11_led 20 = .ok (.getfield 42, 3) := by decide +kernel
theorem dX11_led_23 : decode cX11_led 23 = .ok (.iload_n 3, 1) := by decide +kernel
theorem dX11_led_24 : decode cX11_led 24 = .ok (.invokevirtual 242, 3) := by decide +kernel
theorem dX11_led_27 : decode cX11_led 27 = .ok (.ifCond .ne 12, 3) := by decide +kernel
theorem dX11_led_30 : decode cX11_led 30 = .ok (.iload_n 2, 1) := by decide +kernel
theorem dX11_led_31 : decode cX11_led 31 = .ok (.ifCond .ne 5, 3) := by decide +kernel
theorem dX11_led_34 : decode cX11_led 34 = .ok (.iload_n 3, 1) := by decide +kernel
theorem dX11_led_35 : decode cX11_led 35 = .ok (.ireturn, 1) := by decide +kernel
theorem dX11_led_36 : decode cX11_led 36 = .ok (.iinc 2 (-1), 3) := by decide +kernel
theorem dX11_led_39 : decode cX11_led 39 = .ok (.iinc 3 1, 3) := by decide +kernel
theorem dX11_led_42 : decode cX11_led 42 = .ok (.goto (-38), 3) := by decide +kernel
theorem dX11_led_45 : decode cX11_led 45 = .ok (.new 363, 3) := by decide +kernel
theorem dX11_led_48 : decode cX11_led 48 = .ok (.dup, 1) := by decide +kernel
theorem dX11_led_49 : decode cX11_led 49 = .ok (.ldc_w 365, 3) := by decide +kernel
theorem dX11_led_52 : decode cX11_led 52 = .ok (.invokespecial 367, 3) := by decide +kernel
theorem dX11_led_55 : decode cX11_led 55 = .ok (.athrow, 1) := by decide +kernel
theorem dX11_size_0 : decode cX11_size 0 = .ok (.iload_n 1, 1) := by decide +kernel
theorem dX11_size_1 : decode cX11_size 1 = .ok (.tableswitch 162 0 12 #[67, 75, 83, 91, 99, 107, 115, 123, 131, 139, 147, 152, 157], 67) := by decide +kernel
theorem dX11_size_68 : decode cX11_size 68 = .ok (.aload_n 0, 1) := by decide +kernel
theorem dX11_size_69 : decode cX11_size 69 = .ok (.getfield 23, 3) := by decide +kernel
theorem dX11_size_72 : decode cX11_size 72 = .ok (.getfield 350, 3) := by decide +kernel
theorem dX11_size_75 : decode cX11_size 75 = .ok (.ireturn, 1) := by decide +kernel
theorem dX11_size_76 : decode cX11_size 76 = .ok (.aload_n 0, 1) := by decide +kernel
theorem dX11_size_77 : decode cX11_size 77 = .ok (.getfield 23, 3) := by decide +kernel
theorem dX11_size_80 : decode cX11_size 80 = .ok (.getfield 370, 3) := by decide +kernel
theorem dX11_size_83 : decode cX11_size 83 = .ok (.ireturn, 1) := by decide +kernel
theorem dX11_size_84 : decode cX11_size 84 = .ok (.aload_n 0, 1) := by decide +kernel
theorem dX11_size_85 : decode cX11_size 85 = .ok (.getfield 23, 3) := by decide +kernel
theorem dX11_size_88 : decode cX11_size 88 = .ok (.getfield 373, 3) := by decide +kernel
theorem dX11_size_91 : decode cX11_size 91 = .ok (.ireturn, 1) := by decide +kernel
theorem dX11_size_92 : decode cX11_size 92 = .ok (.aload_n 0, 1) := by decide +kernel
theorem dX11_size_93 : decode cX11_size 93 = .ok (.getfield 23, 3) := by decide +kernel
theorem dX11_size_96 : decode cX11_size 96 = .ok (.getfield 376, 3) := by decide +kernel
theorem dX11_size_99 : decode cX11_size 99 = .ok (.ireturn, 1) := by decide +kernel
theorem dX11_size_100 : decode cX11_size 100 = .ok (.aload_n 0, 1) := by decide +kernel
theorem dX11_size_101 : decode cX11_size 101 = .ok (.getfield 23, 3) := by decide +kernel
theorem dX11_size_104 : decode cX11_size 104 = .ok (.getfield 109, 3) := by decide +kernel
theorem dX11_size_107 : decode cX11_size 107 = .ok (.ireturn, 1) := by decide +kernel
theorem dX11_size_108 : decode cX11_size 108 = .ok (.aload_n 0, 1) := by decide +kernel
theorem dX11_size_109 : decode cX11_size 109 = .ok (.getfield 23, 3) := by decide +kernel
theorem dX11_size_112 : decode cX11_size 112 = .ok (.getfield 379, 3) := by decide +kernel
theorem dX11_size_115 : decode cX11_size 115 = .ok (.ireturn, 1) := by decide +kernel
theorem dX11_size_116 : decode cX11_size 116 = .ok (.aload_n 0, 1) := by decide +kernel
theorem dX11_size_117 : decode cX11_size 117 = .ok (.getfield 23, 3) := by decide +kernel
theorem dX11_size_120 : decode cX11_size 120 = .ok (.getfield 382, 3) := by decide +kernel
theorem dX11_size_123 : decode cX11_size 123 = .ok (.ireturn, 1) := by decide +kernel
theorem dX11_size_124 : decode cX11_size 124 = .ok (.aload_n 0, 1) := by decide +kernel
theorem dX11_size_125 : decode cX11_size 125 = .ok (.getfield 23, 3) := by decide +kernel
theorem dX11_size_128 : decode cX11_size 128 = .ok (.getfield 239, 3) := by decide +kernel
theorem dX11_size_131 : decode cX11_size 131 = .ok (.ireturn, 1) := by decide +kernel
theorem dX11_size_132 : decode cX11_size 132 = .ok (.aload_n 0, 1) := by decide +kernel
theorem dX11_size_133 : decode cX11_size 133 = .ok (.getfield 23, 3) := by decide +kernel
theorem dX11_size_136 : decode cX11_size 136 = .ok (.getfield 385, 3) := by decide +kernel
theorem dX11_size_139 : decode cX11_size 139 = .ok (.ireturn, 1) := by decide +kernel
theorem dX11_size_140 : decode cX11_size 140 = .ok (.aload_n 0, 1) := by decide +kernel
theorem dX11_size_141 : decode cX11_size 141 = .ok (.getfield 42, 3) := by decide +kernel
theorem dX11_size_144 : decode cX11_size 144 = .ok (.getfield 180, 3) := by decide +kernel
theorem dX11_size_147 : decode cX11_size 147 = .ok (.ireturn, 1) := by decide +kernel
theorem dX11_size_148 : decode cX11_size 148 = .ok (.aload_n 0, 1) := by decide +kernel
theorem dX11_size_149 : decode cX11_size 149 = .ok (.getfield 85, 3) := by decide +kernel
theorem dX11_size_152 : decode cX11_size 152 = .ok (.ireturn, 1) := by decide +kernel
theorem dX11_size_153 : decode cX11_size 153 = .ok (.aload_n 0, 1) := by decide +kernel
theorem dX11_size_154 : decode cX11_size 154 = .ok (.getfield 91, 3) := by decide +kernel
theorem dX11_size_157 : decode cX11_size 157 = .ok (.ireturn, 1) := by decide +kernel
theorem dX11_size_158 : decode cX11_size 158 = .ok (.aload_n 0, 1) := by decide +kernel
theorem dX11_size_159 : decode cX11_size 159 = .ok (.getfield 13, 3) := by decide +kernel
theorem dX11_size_162 : decode cX11_size 162 = .ok (.ireturn, 1) := by decide +kernel
theorem dX11_size_163 : decode cX11_size 163 = .ok (.iconst (-1), 1) := by decide +kernel
theorem dX11_size_164 : decode cX11_size 164 = .ok (.ireturn, 1) := by decide +kernel
theorem dX11_trouble_0 : decode cX11_trouble 0 = .ok (.aload_n 0, 1) := by decide +kernel
theorem dX11_trouble_1 : decode cX11_trouble 1 = .ok (.getfield 17, 3) := by decide +kernel
theorem dX11_trouble_4 : decode cX11_trouble 4 = .ok (.ireturn, 1) := by decide +kernel
theorem dX11_granted_0 : decode cX11_granted 0 = .ok (.aload_n 0, 1) := by decide +kernel
theorem dX11_granted_1 : decode cX11_granted 1 = .ok (.iconst 0, 1) := by decide +kernel
theorem dX11_granted_2 : decode cX11_granted 2 = .ok (.putfield 17, 3) := by decide +kernel
theorem dX11_granted_5 : decode cX11_granted 5 = .ok (.iload_n 1, 1) := by decide +kernel
theorem dX11_granted_6 : decode cX11_granted 6 = .ok (.ireturn, 1) := by decide +kernel
theorem dX11_refused_0 : decode cX11_refused 0 = .ok (.aload_n 0, 1) := by decide +kernel
theorem dX11_refused_1 : decode cX11_refused 1 = .ok (.iload_n 1, 1) := by decide +kernel
theorem dX11_refused_2 : decode cX11_refused 2 = .ok (.putfield 17, 3) := by decide +kernel
theorem dX11_refused_5 : decode cX11_refused 5 = .ok (.iconst (-1), 1) := by decide +kernel
theorem dX11_refused_6 : decode cX11_refused 6 = .ok (.ireturn, 1) := by decide +kernel
theorem dX11_hasGranted_0 : decode cX11_hasGranted 0 = .ok (.aload_n 0, 1) := by decide +kernel
theorem dX11_hasGranted_1 : decode cX11_hasGranted 1 = .ok (.iconst 0, 1) := by decide +kernel
theorem dX11_hasGranted_2 : decode cX11_hasGranted 2 = .ok (.putfield 17, 3) := by decide +kernel
theorem dX11_hasGranted_5 : decode cX11_hasGranted 5 = .ok (.iconst 1, 1) := by decide +kernel
theorem dX11_hasGranted_6 : decode cX11_hasGranted 6 = .ok (.ireturn, 1) := by decide +kernel
theorem dX11_hasRefused_0 : decode cX11_hasRefused 0 = .ok (.aload_n 0, 1) := by decide +kernel
theorem dX11_hasRefused_1 : decode cX11_hasRefused 1 = .ok (.iload_n 1, 1) := by decide +kernel
theorem dX11_hasRefused_2 : decode cX11_hasRefused 2 = .ok (.putfield 17, 3) := by decide +kernel
theorem dX11_hasRefused_5 : decode cX11_hasRefused 5 = .ok (.iconst 0, 1) := by decide +kernel
theorem dX11_hasRefused_6 : decode cX11_hasRefused 6 = .ok (.ireturn, 1) := by decide +kernel
theorem dX11_hasPost_0 : decode cX11_hasPost 0 = .ok (.aload_n 0, 1) := by decide +kernel
theorem dX11_hasPost_1 : decode cX11_hasPost 1 = .ok (.getfield 23, 3) := by decide +kernel
theorem dX11_hasPost_4 : decode cX11_hasPost 4 = .ok (.getfield 109, 3) := by decide +kernel
theorem dX11_hasPost_7 : decode cX11_hasPost 7 = .ok (.ifCond .le 7, 3) := by decide +kernel
theorem dX11_hasPost_10 : decode cX11_hasPost 10 = .ok (.iconst 1, 1) := by decide +kernel
theorem dX11_hasPost_11 : decode cX11_hasPost 11 = .ok (.goto 4, 3) := by decide +kernel
theorem dX11_hasPost_14 : decode cX11_hasPost 14 = .ok (.iconst 0, 1) := by decide +kernel
theorem dX11_hasPost_15 : decode cX11_hasPost 15 = .ok (.ireturn, 1) := by decide +kernel
theorem dX11_isIsland_0 : decode cX11_isIsland 0 = .ok (.iload_n 1, 1) := by decide +kernel
theorem dX11_isIsland_1 : decode cX11_isIsland 1 = .ok (.ifCond .lt 18, 3) := by decide +kernel
theorem dX11_isIsland_4 : decode cX11_isIsland 4 = .ok (.iload_n 1, 1) := by decide +kernel
theorem dX11_isIsland_5 : decode cX11_isIsland 5 = .ok (.aload_n 0, 1) := by decide +kernel
theorem dX11_isIsland_6 : decode cX11_isIsland 6 = .ok (.getfield 23, 3) := by decide +kernel
theorem dX11_isIsland_9 : decode cX11_isIsland 9 = .ok (.getfield 109, 3) := by decide +kernel
theorem dX11_isIsland_12 : decode cX11_isIsland 12 = .ok (.if_icmp .ge 7, 3) := by decide +kernel
theorem dX11_isIsland_15 : decode cX11_isIsland 15 = .ok (.iconst 1, 1) := by decide +kernel
theorem dX11_isIsland_16 : decode cX11_isIsland 16 = .ok (.goto 4, 3) := by decide +kernel
theorem dX11_isIsland_19 : decode cX11_isIsland 19 = .ok (.iconst 0, 1) := by decide +kernel
theorem dX11_isIsland_20 : decode cX11_isIsland 20 = .ok (.ireturn, 1) := by decide +kernel
theorem dX11_areTwoIslands_0 : decode cX11_areTwoIslands 0 = .ok (.aload_n 0, 1) := by decide +kernel
theorem dX11_areTwoIslands_1 : decode cX11_areTwoIslands 1 = .ok (.iload_n 1, 1) := by decide +kernel
theorem dX11_areTwoIslands_2 : decode cX11_areTwoIslands 2 = .ok (.invokevirtual 174, 3) := by decide +kernel
theorem dX11_areTwoIslands_5 : decode cX11_areTwoIslands 5 = .ok (.ifCond .eq 20, 3) := by decide +kernel
theorem dX11_areTwoIslands_8 : decode cX11_areTwoIslands 8 = .ok (.aload_n 0, 1) := by decide +kernel
theorem dX11_areTwoIslands_9 : decode cX11_areTwoIslands 9 = .ok (.iload_n 2, 1) := by decide +kernel
theorem dX11_areTwoIslands_10 : decode cX11_areTwoIslands 10 = .ok (.invokevirtual 174, 3) := by decide +kernel
theorem dX11_areTwoIslands_13 : decode cX11_areTwoIslands 13 = .ok (.ifCond .eq 12, 3) := by decide +kernel
theorem dX11_areTwoIslands_16 : decode cX11_areTwoIslands 16 = .ok (.iload_n 1, 1) := by decide +kernel
theorem dX11_areTwoIslands_17 : decode cX11_areTwoIslands 17 = .ok (.iload_n 2, 1) := by decide +kernel
theorem dX11_areTwoIslands_18 : decode cX11_areTwoIslands 18 = .ok (.if_icmp .eq 7, 3) := by decide +kernel
theorem dX11_areTwoIslands_21 : decode cX11_areTwoIslands 21 = .ok (.iconst 1, 1) := by decide +kernel
theorem dX11_areTwoIslands_22 : decode cX11_areTwoIslands 22 = .ok (.goto 4, 3) := by decide +kernel
theorem dX11_areTwoIslands_25 : decode cX11_areTwoIslands 25 = .ok (.iconst 0, 1) := by decide +kernel
theorem dX11_areTwoIslands_26 : decode cX11_areTwoIslands 26 = .ok (.ireturn, 1) := by decide +kernel
theorem dX11_isWay_0 : decode cX11_isWay 0 = .ok (.iload_n 1, 1) := by decide +kernel
theorem dX11_isWay_1 : decode cX11_isWay 1 = .ok (.ifCond .lt 18, 3) := by decide +kernel
theorem dX11_isWay_4 : decode cX11_isWay 4 = .ok (.iload_n 1, 1) := by decide +kernel
theorem dX11_isWay_5 : decode cX11_isWay 5 = .ok (.aload_n 0, 1) := by decide +kernel
theorem dX11_isWay_6 : decode cX11_isWay 6 = .ok (.getfield 23, 3) := by decide +kernel
theorem dX11_isWay_9 : decode cX11_isWay 9 = .ok (.getfield 379, 3) := by decide +kernel
theorem dX11_isWay_12 : decode cX11_isWay 12 = .ok (.if_icmp .ge 7, 3) := by decide +kernel
theorem dX11_isWay_15 : decode cX11_isWay 15 = .ok (.iconst 1, 1) := by decide +kernel
theorem dX11_isWay_16 : decode cX11_isWay 16 = .ok (.goto 4, 3) := by decide +kernel
theorem dX11_isWay_19 : decode cX11_isWay 19 = .ok (.iconst 0, 1) := by decide +kernel
theorem dX11_isWay_20 : decode cX11_isWay 20 = .ok (.ireturn, 1) := by decide +kernel
theorem dX11_isWhale_0 : decode cX11_isWhale 0 = .ok (.iload_n 1, 1) := by decide +kernel
theorem dX11_isWhale_1 : decode cX11_isWhale 1 = .ok (.ifCond .lt 18, 3) := by decide +kernel
theorem dX11_isWhale_4 : decode cX11_isWhale 4 = .ok (.iload_n 1, 1) := by decide +kernel
theorem dX11_isWhale_5 : decode cX11_isWhale 5 = .ok (.aload_n 0, 1) := by decide +kernel
theorem dX11_isWhale_6 : decode cX11_isWhale 6 = .ok (.getfield 23, 3) := by decide +kernel
theorem dX11_isWhale_9 : decode cX11_isWhale 9 = .ok (.getfield 382, 3) := by decide +kernel
theorem dX11_isWhale_12 : decode cX11_isWhale 12 = .ok (.if_icmp .ge 7, 3) := by decide +kernel
theorem dX11_isWhale_15 : decode cX11_isWhale 15 = .ok (.iconst 1, 1) := by decide +kernel
theorem dX11_isWhale_16 : decode cX11_isWhale 16 = .ok (.goto 4, 3) := by decide +kernel
theorem dX11_isWhale_19 : decode cX11_isWhale 19 = .ok (.iconst 0, 1) := by decide +kernel
theorem dX11_isWhale_20 : decode cX11_isWhale 20 = .ok (.ireturn, 1) := by decide +kernel
theorem dX11_isBox_0 : decode cX11_isBox 0 = .ok (.iload_n 1, 1) := by decide +kernel
theorem dX11_isBox_1 : decode cX11_isBox 1 = .ok (.ifCond .lt 18, 3) := by decide +kernel
theorem dX11_isBox_4 : decode cX11_isBox 4 = .ok (.iload_n 1, 1) := by decide +kernel
theorem dX11_isBox_5 : decode cX11_isBox 5 = .ok (.aload_n 0, 1) := by decide +kernel
theorem dX11_isBox_6 : decode cX11_isBox 6 = .ok (.getfield 23, 3) := by decide +kernel
theorem dX11_isBox_9 : decode cX11_isBox 9 = .ok (.getfield 239, 3) := by decide +kernel
theorem dX11_isBox_12 : decode cX11_isBox 12 = .ok (.if_icmp .ge 7, 3) := by decide +kernel
theorem dX11_isBox_15 : decode cX11_isBox 15 = .ok (.iconst 1, 1) := by decide +kernel
theorem dX11_isBox_16 : decode cX11_isBox 16 = .ok (.goto 4, 3) := by decide +kernel
theorem dX11_isBox_19 : decode cX11_isBox 19 = .ok (.iconst 0, 1) := by decide +kernel
theorem dX11_isBox_20 : decode cX11_isBox 20 = .ok (.ireturn, 1) := by decide +kernel
theorem dX11_isNoteOfBox_0 : decode cX11_isNoteOfBox 0 = .ok (.aload_n 0, 1) := by decide +kernel
theorem dX11_isNoteOfBox_1 : decode cX11_isNoteOfBox 1 = .ok (.iload_n 1, 1) := by decide +kernel
theorem dX11_isNoteOfBox_2 : decode cX11_isNoteOfBox 2 = .ok (.invokevirtual 147, 3) := by decide +kernel
theorem dX11_isNoteOfBox_5 : decode cX11_isNoteOfBox 5 = .ok (.ifCond .eq 23, 3) := by decide +kernel
theorem dX11_isNoteOfBox_8 : decode cX11_isNoteOfBox 8 = .ok (.iload_n 2, 1) := by decide +kernel
theorem dX11_isNoteOfBox_9 : decode cX11_isNoteOfBox 9 = .ok (.ifCond .lt 19, 3) := by decide +kernel
theorem dX11_isNoteOfBox_12 : decode cX11_isNoteOfBox 12 = .ok (.iload_n 2, 1) := by decide +kernel
theorem dX11_isNoteOfBox_13 : decode cX11_isNoteOfBox 13 = .ok (.aload_n 0, 1) := by decide +kernel
theorem dX11_isNoteOfBox_14 : decode cX11_isNoteOfBox 14 = .ok (.getfield 23, 3) := by decide +kernel
theorem dX11_isNoteOfBox_17 : decode cX11_isNoteOfBox 17 = .ok (.iload_n 1, 1) := by decide +kernel
theorem dX11_isNoteOfBox_18 : decode cX11_isNoteOfBox 18 = .ok (.invokevirtual 198, 3) := by decide +kernel
theorem dX11_isNoteOfBox_21 : decode cX11_isNoteOfBox 21 = .ok (.if_icmp .ge 7, 3) := by decide +kernel
theorem dX11_isNoteOfBox_24 : decode cX11_isNoteOfBox 24 = .ok (.iconst 1, 1) := by decide +kernel
theorem dX11_isNoteOfBox_25 : decode cX11_isNoteOfBox 25 = .ok (.goto 4, 3) := by decide +kernel
theorem dX11_isNoteOfBox_28 : decode cX11_isNoteOfBox 28 = .ok (.iconst 0, 1) := by decide +kernel
theorem dX11_isNoteOfBox_29 : decode cX11_isNoteOfBox 29 = .ok (.ireturn, 1) := by decide +kernel
theorem dX11_isWithin_0 : decode cX11_isWithin 0 = .ok (.iload_n 0, 1) := by decide +kernel
theorem dX11_isWithin_1 : decode cX11_isWithin 1 = .ok (.ifCond .lt 12, 3) := by decide +kernel
theorem dX11_isWithin_4 : decode cX11_isWithin 4 = .ok (.iload_n 0, 1) := by decide +kernel
theorem dX11_isWithin_5 : decode cX11_isWithin 5 = .ok (.iload_n 1, 1) := by decide +kernel
theorem dX11_isWithin_6 : decode cX11_isWithin 6 = .ok (.if_icmp .gt 7, 3) := by decide +kernel
theorem dX11_isWithin_9 : decode cX11_isWithin 9 = .ok (.iconst 1, 1) := by decide +kernel
theorem dX11_isWithin_10 : decode cX11_isWithin 10 = .ok (.goto 4, 3) := by decide +kernel
theorem dX11_isWithin_13 : decode cX11_isWithin 13 = .ok (.iconst 0, 1) := by decide +kernel
theorem dX11_isWithin_14 : decode cX11_isWithin 14 = .ok (.ireturn, 1) := by decide +kernel
theorem dX11_refusalOfNewSong_0 : decode cX11_refusalOfNewSong 0 = .ok (.aload_n 0, 1) := by decide +kernel
theorem dX11_refusalOfNewSong_1 : decode cX11_refusalOfNewSong 1 = .ok (.invokevirtual 222, 3) := by decide +kernel
theorem dX11_refusalOfNewSong_4 : decode cX11_refusalOfNewSong 4 = .ok (.ifCond .ne 5, 3) := by decide +kernel
theorem dX11_refusalOfNewSong_7 : decode cX11_refusalOfNewSong 7 = .ok (.iconst 1, 1) := by decide +kernel
theorem dX11_refusalOfNewSong_8 : decode cX11_refusalOfNewSong 8 = .ok (.ireturn, 1) := by decide +kernel
theorem dX11_refusalOfNewSong_9 : decode cX11_refusalOfNewSong 9 = .ok (.iload_n 1, 1) := by decide +kernel
theorem dX11_refusalOfNewSong_10 : decode cX11_refusalOfNewSong 10 = .ok (.iconst 2, 1) := by decide +kernel
theorem dX11_refusalOfNewSong_11 : decode cX11_refusalOfNewSong 11 = .ok (.if_icmp .lt 22, 3) := by decide +kernel
theorem dX11_refusalOfNewSong_14 : decode cX11_refusalOfNewSong 14 = .ok (.iload_n 1, 1) := by decide +kernel
theorem dX11_refusalOfNewSong_15 : decode cX11_refusalOfNewSong 15 = .ok (.iconst 5, 1) := by decide +kernel
theorem dX11_refusalOfNewSong_16 : decode cX11_refusalOfNewSong 16 = .ok (.if_icmp .gt 17, 3) := by decide +kernel
theorem dX11_refusalOfNewSong_19 : decode cX11_refusalOfNewSong 19 = .ok (.iload_n 2, 1) := by decide +kernel
theorem dX11_refusalOfNewSong_20 : decode cX11_refusalOfNewSong 20 = .ok (.iconst 1, 1) := by decide +kernel
theorem dX11_refusalOfNewSong_21 : decode cX11_refusalOfNewSong 21 = .ok (.if_icmp .lt 12, 3) := by decide +kernel
theorem dX11_refusalOfNewSong_24 : decode cX11_refusalOfNewSong 24 = .ok (.iload_n 2, 1) := by decide +kernel
theorem dX11_refusalOfNewSong_25 : decode cX11_refusalOfNewSong 25 = .ok (.iconst 5, 1) := by decide +kernel
theorem dX11_refusalOfNewSong_26 : decode cX11_refusalOfNewSong 26 = .ok (.if_icmp .gt 7, 3) := by decide +kernel
theorem dX11_refusalOfNewSong_29 : decode cX11_refusalOfNewSong 29 = .ok (.iconst 1, 1) := by decide +kernel
theorem dX11_refusalOfNewSong_30 : decode cX11_refusalOfNewSong 30 = .ok (.goto 4, 3) := by decide +kernel
theorem dX11_refusalOfNewSong_33 : decode cX11_refusalOfNewSong 33 = .ok (.iconst 0, 1) := by decide +kernel
theorem dX11_refusalOfNewSong_34 : decode cX11_refusalOfNewSong 34 = .ok (.istore_n 3, 1) := by decide +kernel
theorem dX11_refusalOfNewSong_35 : decode cX11_refusalOfNewSong 35 = .ok (.iload_n 3, 1) := by decide +kernel
theorem dX11_refusalOfNewSong_36 : decode cX11_refusalOfNewSong 36 = .ok (.ifCond .eq 7, 3) := by decide +kernel
theorem dX11_refusalOfNewSong_39 : decode cX11_refusalOfNewSong 39 = .ok (.iconst 0, 1) := by decide +kernel
theorem dX11_refusalOfNewSong_40 : decode cX11_refusalOfNewSong 40 = .ok (.goto 4, 3) := by decide +kernel
theorem dX11_refusalOfNewSong_43 : decode cX11_refusalOfNewSong 43 = .ok (.iconst 2, 1) := by decide +kernel
theorem dX11_refusalOfNewSong_44 : decode cX11_refusalOfNewSong 44 = .ok (.ireturn, 1) := by decide +kernel
theorem dX11_appendBytes_0 : decode cX11_appendBytes 0 = .ok (.bipush 24, 2) := by decide +kernel
theorem dX11_appendBytes_2 : decode cX11_appendBytes 2 = .ok (.istore_n 2, 1) := by decide +kernel
theorem dX11_appendBytes_3 : decode cX11_appendBytes 3 = .ok (.iload_n 2, 1) := by decide +kernel
theorem dX11_appendBytes_4 : decode cX11_appendBytes 4 = .ok (.ifCond .lt 32, 3) := by decide +kernel
theorem dX11_appendBytes_7 : decode cX11_appendBytes 7 = .ok (.aload_n 0, 1) := by decide +kernel
theorem dX11_appendBytes_8 : decode cX11_appendBytes 8 = .ok (.getfield 9, 3) := by decide +kernel
theorem dX11_appendBytes_11 : decode cX11_appendBytes 11 = .ok (.aload_n 0, 1) := by decide +kernel
theorem dX11_appendBytes_12 : decode cX11_appendBytes 12 = .ok (.getfield 13, 3) := by decide +kernel
theorem dX11_appendBytes_15 : decode cX11_appendBytes 15 = .ok (.iload_n 1, 1) := by decide +kernel
theorem dX11_appendBytes_16 : decode cX11_appendBytes 16 = .ok (.iload_n 2, 1) := by decide +kernel
theorem dX11_appendBytes_17 : decode cX11_appendBytes 17 = .ok (.ishr, 1) := by decide +kernel
theorem dX11_appendBytes_18 : decode cX11_appendBytes 18 = .ok (.i2b, 1) := by decide +kernel
theorem dX11_appendBytes_19 : decode cX11_appendBytes 19 = .ok (.bastore, 1) := by decide +kernel
theorem dX11_appendBytes_20 : decode cX11_appendBytes 20 = .ok (.aload_n 0, 1) := by decide +kernel
theorem dX11_appendBytes_21 : decode cX11_appendBytes 21 = .ok (.dup, 1) := by decide +kernel
theorem dX11_appendBytes_22 : decode cX11_appendBytes 22 = .ok (.getfield 13, 3) := by decide +kernel
theorem dX11_appendBytes_25 : decode cX11_appendBytes 25 = .ok (.iconst 1, 1) := by decide +kernel
theorem dX11_appendBytes_26 : decode cX11_appendBytes 26 = .ok (.iadd, 1) := by decide +kernel
theorem dX11_appendBytes_27 : decode cX11_appendBytes 27 = .ok (.putfield 13, 3) := by decide +kernel
theorem dX11_appendBytes_30 : decode cX11_appendBytes 30 = .ok (.iinc 2 (-8), 3) := by decide +kernel
theorem dX11_appendBytes_33 : decode cX11_appendBytes 33 = .ok (.goto (-30), 3) := by decide +kernel
theorem dX11_appendBytes_36 : decode cX11_appendBytes 36 = .ok (.return_, 1) := by decide +kernel
theorem dX11_takeDraft_0 : decode cX11_takeDraft 0 = .ok (.aload_n 0, 1) := by decide +kernel
theorem dX11_takeDraft_1 : decode cX11_takeDraft 1 = .ok (.getfield 23, 3) := by decide +kernel
theorem dX11_takeDraft_4 : decode cX11_takeDraft 4 = .ok (.astore_n 1, 1) := by decide +kernel
theorem dX11_takeDraft_5 : decode cX11_takeDraft 5 = .ok (.aload_n 0, 1) := by decide +kernel
theorem dX11_takeDraft_6 : decode cX11_takeDraft 6 = .ok (.aload_n 0, 1) := by decide +kernel
theorem dX11_takeDraft_7 : decode cX11_takeDraft 7 = .ok (.getfield 27, 3) := by decide +kernel
theorem dX11_takeDraft_10 : decode cX11_takeDraft 10 = .ok (.putfield 23, 3) := by decide +kernel
theorem dX11_takeDraft_13 : decode cX11_takeDraft 13 = .ok (.aload_n 0, 1) := by decide +kernel
theorem dX11_takeDraft_14 : decode cX11_takeDraft 14 = .ok (.aload_n 1, 1) := by decide +kernel
theorem dX11_takeDraft_15 : decode cX11_takeDraft 15 = .ok (.putfield 27, 3) := by decide +kernel
theorem dX11_takeDraft_18 : decode cX11_takeDraft 18 = .ok (.aload_n 0, 1) := by decide +kernel
theorem dX11_takeDraft_19 : decode cX11_takeDraft 19 = .ok (.getfield 51, 3) := by decide +kernel
theorem dX11_takeDraft_22 : decode cX11_takeDraft 22 = .ok (.aload_n 0, 1) := by decide +kernel
theorem dX11_takeDraft_23 : decode cX11_takeDraft 23 = .ok (.getfield 23, 3) := by decide +kernel
theorem dX11_takeDraft_26 : decode cX11_takeDraft 26 = .ok (.putfield 388, 3) := by decide +kernel
theorem dX11_takeDraft_29 : decode cX11_takeDraft 29 = .ok (.aload_n 0, 1) := by decide +kernel
theorem dX11_takeDraft_30 : decode cX11_takeDraft 30 = .ok (.getfield 60, 3) := by decide +kernel
theorem dX11_takeDraft_33 : decode cX11_takeDraft 33 = .ok (.aload_n 0, 1) := by decide +kernel
theorem dX11_takeDraft_34 : decode cX11_takeDraft 34 = .ok (.getfield 23, 3) := by decide +kernel
theorem dX11_takeDraft_37 : decode cX11_takeDraft 37 = .ok (.putfield 389, 3) := by decide +kernel
theorem dX11_takeDraft_40 : decode cX11_takeDraft 40 = .ok (.aload_n 0, 1) := by decide +kernel
theorem dX11_takeDraft_41 : decode cX11_takeDraft 41 = .ok (.getfield 67, 3) := by decide +kernel
theorem dX11_takeDraft_44 : decode cX11_takeDraft 44 = .ok (.aload_n 0, 1) := by decide +kernel
theorem dX11_takeDraft_45 : decode cX11_takeDraft 45 = .ok (.getfield 23, 3) := by decide +kernel
theorem dX11_takeDraft_48 : decode cX11_takeDraft 48 = .ok (.putfield 390, 3) := by decide +kernel
theorem dX11_takeDraft_51 : decode cX11_takeDraft 51 = .ok (.aload_n 0, 1) := by decide +kernel
theorem dX11_takeDraft_52 : decode cX11_takeDraft 52 = .ok (.getfield 42, 3) := by decide +kernel
theorem dX11_takeDraft_55 : decode cX11_takeDraft 55 = .ok (.aload_n 0, 1) := by decide +kernel
theorem dX11_takeDraft_56 : decode cX11_takeDraft 56 = .ok (.getfield 23, 3) := by decide +kernel
theorem dX11_takeDraft_59 : decode cX11_takeDraft 59 = .ok (.invokevirtual 391, 3) := by decide +kernel
theorem dX11_takeDraft_62 : decode cX11_takeDraft 62 = .ok (.aload_n 0, 1) := by decide +kernel
theorem dX11_takeDraft_63 : decode cX11_takeDraft 63 = .ok (.iconst 0, 1) := by decide +kernel
theorem dX11_takeDraft_64 : decode cX11_takeDraft 64 = .ok (.putfield 85, 3) := by decide +kernel
theorem dX11_takeDraft_67 : decode cX11_takeDraft 67 = .ok (.aload_n 0, 1) := by decide +kernel
theorem dX11_takeDraft_68 : decode cX11_takeDraft 68 = .ok (.iconst 0, 1) := by decide +kernel
theorem dX11_takeDraft_69 : decode cX11_takeDraft 69 = .ok (.putfield 91, 3) := by decide +kernel
theorem dX11_takeDraft_72 : decode cX11_takeDraft 72 = .ok (.return_, 1) := by decide +kernel
theorem dX11_keepForUndo_0 : decode cX11_keepForUndo 0 = .ok (.aload_n 0, 1) := by decide +kernel
theorem dX11_keepForUndo_1 : decode cX11_keepForUndo 1 = .ok (.aload_n 0, 1) := by decide +kernel
theorem dX11_keepForUndo_2 : decode cX11_keepForUndo 2 = .ok (.getfield 82, 3) := by decide +kernel
theorem dX11_keepForUndo_5 : decode cX11_keepForUndo 5 = .ok (.iconst 1, 1) := by decide +kernel
theorem dX11_keepForUndo_6 : decode cX11_keepForUndo 6 = .ok (.iadd, 1) := by decide +kernel
theorem dX11_keepForUndo_7 : decode cX11_keepForUndo 7 = .ok (.bipush 12, 2) := by decide +kernel
theorem dX11_keepForUndo_9 : decode cX11_keepForUndo 9 = .ok (.irem, 1) := by decide +kernel
theorem dX11_keepForUndo_10 : decode cX11_keepForUndo 10 = .ok (.putfield 82, 3) := by decide +kernel
theorem dX11_keepForUndo_13 : decode cX11_keepForUndo 13 = .ok (.aload_n 0, 1) := by decide +kernel
theorem dX11_keepForUndo_14 : decode cX11_keepForUndo 14 = .ok (.getfield 78, 3) := by decide +kernel
theorem dX11_keepForUndo_17 : decode cX11_keepForUndo 17 = .ok (.aload_n 0, 1) := by decide +kernel
theorem dX11_keepForUndo_18 : decode cX11_keepForUndo 18 = .ok (.getfield 82, 3) := by decide +kernel
theorem dX11_keepForUndo_21 : decode cX11_keepForUndo 21 = .ok (.aaload, 1) := by decide +kernel
theorem dX11_keepForUndo_22 : decode cX11_keepForUndo 22 = .ok (.aload_n 0, 1) := by decide +kernel
theorem dX11_keepForUndo_23 : decode cX11_keepForUndo 23 = .ok (.getfield 42, 3) := by decide +kernel
theorem dX11_keepForUndo_26 : decode cX11_keepForUndo 26 = .ok (.invokevirtual 359, 3) := by decide +kernel
theorem dX11_keepForUndo_29 : decode cX11_keepForUndo 29 = .ok (.aload_n 0, 1) := by decide +kernel
theorem dX11_keepForUndo_30 : decode cX11_keepForUndo 30 = .ok (.aload_n 0, 1) := by decide +kernel
theorem dX11_keepForUndo_31 : decode cX11_keepForUndo 31 = .ok (.getfield 85, 3) := by decide +kernel
theorem dX11_keepForUndo_34 : decode cX11_keepForUndo 34 = .ok (.iconst 1, 1) := by decide +kernel
theorem dX11_keepForUndo_35 : decode cX11_keepForUndo 35 = .ok (.iadd, 1) := by decide +kernel
theorem dX11_keepForUndo_36 : decode cX11_keepForUndo 36 = .ok (.bipush 12, 2) := by decide +kernel
theorem dX11_keepForUndo_38 : decode cX11_keepForUndo 38 = .ok (.invokestatic 394, 3) := by decide +kernel
theorem dX11_keepForUndo_41 : decode cX11_keepForUndo 41 = .ok (.putfield 85, 3) := by decide +kernel
theorem dX11_keepForUndo_44 : decode cX11_keepForUndo 44 = .ok (.return_, 1) := by decide +kernel
theorem dX11_hearerIn_0 : decode cX11_hearerIn 0 = .ok (.aload_n 0, 1) := by decide +kernel
theorem dX11_hearerIn_1 : decode cX11_hearerIn 1 = .ok (.getfield 51, 3) := by decide +kernel
theorem dX11_hearerIn_4 : decode cX11_hearerIn 4 = .ok (.aload_n 0, 1) := by decide +kernel
theorem dX11_hearerIn_5 : decode cX11_hearerIn 5 = .ok (.getfield 42, 3) := by decide +kernel
theorem dX11_hearerIn_8 : decode cX11_hearerIn 8 = .ok (.getfield 195, 3) := by decide +kernel
theorem dX11_hearerIn_11 : decode cX11_hearerIn 11 = .ok (.iload_n 1, 1) := by decide +kernel
theorem dX11_hearerIn_12 : decode cX11_hearerIn 12 = .ok (.iaload, 1) := by decide +kernel
theorem dX11_hearerIn_13 : decode cX11_hearerIn 13 = .ok (.aload_n 0, 1) := by decide +kernel
theorem dX11_hearerIn_14 : decode cX11_hearerIn 14 = .ok (.getfield 23, 3) := by decide +kernel
theorem dX11_hearerIn_17 : decode cX11_hearerIn 17 = .ok (.iload_n 1, 1) := by decide +kernel
theorem dX11_hearerIn_18 : decode cX11_hearerIn 18 = .ok (.invokevirtual 198, 3) := by decide +kernel
theorem dX11_hearerIn_21 : decode cX11_hearerIn 21 = .ok (.iload_n 2, 1) := by decide +kernel
theorem dX11_hearerIn_22 : decode cX11_hearerIn 22 = .ok (.invokevirtual 277, 3) := by decide +kernel
theorem dX11_hearerIn_25 : decode cX11_hearerIn 25 = .ok (.ireturn, 1) := by decide +kernel
theorem dX11_sentPart_0 : decode cX11_sentPart 0 = .ok (.iload_n 2, 1) := by decide +kernel
theorem dX11_sentPart_1 : decode cX11_sentPart 1 = .ok (.ifCond .ne 5, 3) := by decide +kernel
theorem dX11_sentPart_4 : decode cX11_sentPart 4 = .ok (.iconst 1, 1) := by decide +kernel
theorem dX11_sentPart_5 : decode cX11_sentPart 5 = .ok (.ireturn, 1) := by decide +kernel
theorem dX11_sentPart_6 : decode cX11_sentPart 6 = .ok (.iload_n 2, 1) := by decide +kernel
theorem dX11_sentPart_7 : decode cX11_sentPart 7 = .ok (.iconst 1, 1) := by decide +kernel
theorem dX11_sentPart_8 : decode cX11_sentPart 8 = .ok (.if_icmp .ne 33, 3) := by decide +kernel
theorem dX11_sentPart_11 : decode cX11_sentPart 11 = .ok (.aload_n 0, 1) := by decide +kernel
theorem dX11_sentPart_12 : decode cX11_sentPart 12 = .ok (.getfield 42, 3) := by decide +kernel
theorem dX11_sentPart_15 : decode cX11_sentPart 15 = .ok (.getfield 171, 3) := by decide +kernel
theorem dX11_sentPart_18 : decode cX11_sentPart 18 = .ok (.iload_n 1, 1) := by decide +kernel
theorem dX11_sentPart_19 : decode cX11_sentPart 19 = .ok (.iaload, 1) := by decide +kernel
theorem dX11_sentPart_20 : decode cX11_sentPart 20 = .ok (.aload_n 0, 1) := by decide +kernel
theorem dX11_sentPart_21 : decode cX11_sentPart 21 = .ok (.getfield 23, 3) := by decide +kernel
theorem dX11_sentPart_24 : decode cX11_sentPart 24 = .ok (.getfield 150, 3) := by decide +kernel
theorem dX11_sentPart_27 : decode cX11_sentPart 27 = .ok (.iload_n 1, 1) := by decide +kernel
theorem dX11_sentPart_28 : decode cX11_sentPart 28 = .ok (.aaload, 1) := by decide +kernel
theorem dX11_sentPart_29 : decode cX11_sentPart 29 = .ok (.getfield 159, 3) := by decide +kernel
theorem dX11_sentPart_32 : decode cX11_sentPart 32 = .ok (.if_icmp .ne 7, 3) := by decide +kernel
theorem dX11_sentPart_35 : decode cX11_sentPart 35 = .ok (.iconst 1, 1) := by decide +kernel
theorem dX11_sentPart_36 : decode cX11_sentPart 36 = .ok (.goto 4, 3) := by decide +kernel
theorem dX11_sentPart_39 : decode cX11_sentPart 39 = .ok (.iconst 0, 1) := by decide +kernel
theorem dX11_sentPart_40 : decode cX11_sentPart 40 = .ok (.ireturn, 1) := by decide +kernel
theorem dX11_sentPart_41 : decode cX11_sentPart 41 = .ok (.aload_n 0, 1) := by decide +kernel
theorem dX11_sentPart_42 : decode cX11_sentPart 42 = .ok (.getfield 42, 3) := by decide +kernel
theorem dX11_sentPart_45 : decode cX11_sentPart 45 = .ok (.getfield 168, 3) := by decide +kernel
theorem dX11_sentPart_48 : decode cX11_sentPart 48 = .ok (.iload_n 1, 1) := by decide +kernel
theorem dX11_sentPart_49 : decode cX11_sentPart 49 = .ok (.iaload, 1) := by decide +kernel
theorem dX11_sentPart_50 : decode cX11_sentPart 50 = .ok (.aload_n 0, 1) := by decide +kernel
theorem dX11_sentPart_51 : decode cX11_sentPart 51 = .ok (.getfield 23, 3) := by decide +kernel
theorem dX11_sentPart_54 : decode cX11_sentPart 54 = .ok (.getfield 150, 3) := by decide +kernel
theorem dX11_sentPart_57 : decode cX11_sentPart 57 = .ok (.iload_n 1, 1) := by decide +kernel
theorem dX11_sentPart_58 : decode cX11_sentPart 58 = .ok (.aaload, 1) := by decide +kernel
theorem dX11_sentPart_59 : decode cX11_sentPart 59 = .ok (.getfield 165, 3) := by decide +kernel
theorem dX11_sentPart_62 : decode cX11_sentPart 62 = .ok (.isub, 1) := by decide +kernel
theorem dX11_sentPart_63 : decode cX11_sentPart 63 = .ok (.ireturn, 1) := by decide +kernel
theorem dX11_heardWithSlips_0 : decode cX11_heardWithSlips 0 = .ok (.iconst 0, 1) := by decide +kernel
theorem dX11_heardWithSlips_1 : decode cX11_heardWithSlips 1 = .ok (.istore_n 2, 1) := by decide +kernel
theorem dX11_heardWithSlips_2 : decode cX11_heardWithSlips 2 = .ok (.iconst 0, 1) := by decide +kernel
theorem dX11_heardWithSlips_3 : decode cX11_heardWithSlips 3 = .ok (.istore_n 3, 1) := by decide +kernel
theorem dX11_heardWithSlips_4 : decode cX11_heardWithSlips 4 = .ok (.iload_n 3, 1) := by decide +kernel
theorem dX11_heardWithSlips_5 : decode cX11_heardWithSlips 5 = .ok (.aload_n 0, 1) := by decide +kernel
theorem dX11_heardWithSlips_6 : decode cX11_heardWithSlips 6 = .ok (.getfield 23, 3) := by decide +kernel
theorem dX11_heardWithSlips_9 : decode cX11_heardWithSlips 9 = .ok (.getfield 239, 3) := by decide +kernel
theorem dX11_heardWithSlips_12 : decode cX11_heardWithSlips 12 = .ok (.if_icmp .ge 69, 3) := by decide +kernel
theorem dX11_heardWithSlips_15 : decode cX11_heardWithSlips 15 = .ok (.aload_n 0, 1) := by decide +kernel
theorem dX11_heardWithSlips_16 : decode cX11_heardWithSlips 16 = .ok (.getfield 23, 3) := by decide +kernel
theorem dX11_heardWithSlips_19 : decode cX11_heardWithSlips 19 = .ok (.iload_n 3, 1) := by decide +kernel
theorem dX11_heardWithSlips_20 : decode cX11_heardWithSlips 20 = .ok (.invokevirtual 198, 3) := by decide +kernel
theorem dX11_heardWithSlips_23 : decode cX11_heardWithSlips 23 = .ok (.istore 4, 2) := by decide +kernel
theorem dX11_heardWithSlips_25 : decode cX11_heardWithSlips 25 = .ok (.aload_n 0, 1) := by decide +kernel
theorem dX11_heardWithSlips_26 : decode cX11_heardWithSlips 26 = .ok (.getfield 51, 3) := by decide +kernel
theorem dX11_heardWithSlips_29 : decode cX11_heardWithSlips 29 = .ok (.aload_n 0, 1) := by decide +kernel
theorem dX11_heardWithSlips_30 : decode cX11_heardWithSlips 30 = .ok (.getfield 42, 3) := by decide +kernel
theorem dX11_heardWithSlips_33 : decode cX11_heardWithSlips 33 = .ok (.getfield 195, 3) := by decide +kernel
theorem dX11_heardWithSlips_36 : decode cX11_heardWithSlips 36 = .ok (.iload_n 3, 1) := by decide +kernel
theorem dX11_heardWithSlips_37 : decode cX11_heardWithSlips 37 = .ok (.iaload, 1) := by decide +kernel
theorem dX11_heardWithSlips_38 : decode cX11_heardWithSlips 38 = .ok (.iload 4, 2) := by decide +kernel
theorem dX11_heardWithSlips_40 : decode cX11_heardWithSlips 40 = .ok (.invokevirtual 399, 3) := by decide +kernel
theorem dX11_heardWithSlips_43 : decode cX11_heardWithSlips 43 = .ok (.istore 5, 2) := by decide +kernel
theorem dX11_heardWithSlips_45 : decode cX11_heardWithSlips 45 = .ok (.aload_n 0, 1) := by decide +kernel
theorem dX11_heardWithSlips_46 : decode cX11_heardWithSlips 46 = .ok (.getfield 51, 3) := by decide +kernel
theorem dX11_heardWithSlips_49 : decode cX11_heardWithSlips 49 = .ok (.iload 5, 2) := by decide +kernel
theorem dX11_heardWithSlips_51 : decode cX11_heardWithSlips 51 = .ok (.iload 4, 2) := by decide +kernel
theorem dX11_heardWithSlips_53 : decode cX11_heardWithSlips 53 = .ok (.iload_n 1, 1) := by decide +kernel
theorem dX11_heardWithSlips_54 : decode cX11_heardWithSlips 54 = .ok (.invokevirtual 277, 3) := by decide +kernel
theorem dX11_heardWithSlips_57 : decode cX11_heardWithSlips 57 = .ok (.aload_n 0, 1) := by decide +kernel
theorem dX11_heardWithSlips_58 : decode cX11_heardWithSlips 58 = .ok (.getfield 23, 3) := by decide +kernel
theorem dX11_heardWithSlips_61 : decode cX11_heardWithSlips 61 = .ok (.getfield 150, 3) := by decide +kernel
theorem dX11_heardWithSlips_64 : decode cX11_heardWithSlips 64 = .ok (.iload_n 3, 1) := by decide +kernel
theorem dX11_heardWithSlips_65 : decode cX11_heardWithSlips 65 = .ok (.aaload, 1) := by decide +kernel
theorem dX11_heardWithSlips_66 : decode cX11_heardWithSlips 66 = .ok (.getfield 159, 3) := by decide +kernel
theorem dX11_heardWithSlips_69 : decode cX11_heardWithSlips 69 = .ok (.if_icmp .ne 6, 3) := by decide +kernel
theorem dX11_heardWithSlips_72 : decode cX11_heardWithSlips 72 = .ok (.iinc 2 1, 3) := by decide +kernel
theorem dX11_heardWithSlips_75 : decode cX11_heardWithSlips 75 = .ok (.iinc 3 1, 3) := by decide +kernel
theorem dX11_heardWithSlips_78 : decode cX11_heardWithSlips 78 = .ok (.goto (-74), 3) := by decide +kernel
theorem dX11_heardWithSlips_81 : decode cX11_heardWithSlips 81 = .ok (.iload_n 2, 1) := by decide +kernel
theorem dX11_heardWithSlips_82 : decode cX11_heardWithSlips 82 = .ok (.ireturn, 1) := by decide +kernel
theorem dX11_solveMatch_0 : decode cX11_solveMatch 0 = .ok (.iconst 0, 1) := by decide +kernel
theorem dX11_solveMatch_1 : decode cX11_solveMatch 1 = .ok (.istore_n 1, 1) := by decide +kernel
theorem dX11_solveMatch_2 : decode cX11_solveMatch 2 = .ok (.iload_n 1, 1) := by decide +kernel
theorem dX11_solveMatch_3 : decode cX11_solveMatch 3 = .ok (.aload_n 0, 1) := by decide +kernel
theorem dX11_solveMatch_4 : decode cX11_solveMatch 4 = .ok (.getfield 23, 3) := by decide +kernel
theorem dX11_solveMatch_7 : decode cX11_solveMatch 7 = .ok (.getfield 239, 3) := by decide +kernel
theorem dX11_solveMatch_10 : decode cX11_solveMatch 10 = .ok (.if_icmp .ge 50, 3) := by decide +kernel
theorem dX11_solveMatch_13 : decode cX11_solveMatch 13 = .ok (.iconst 0, 1) := by decide +kernel
theorem dX11_solveMatch_14 : decode cX11_solveMatch 14 = .ok (.istore_n 2, 1) := by decide +kernel
theorem dX11_solveMatch_15 : decode cX11_solveMatch 15 = .ok (.iload_n 2, 1) := by decide +kernel
theorem dX11_solveMatch_16 : decode cX11_solveMatch 16 = .ok (.aload_n 0, 1) := by decide +kernel
theorem dX11_solveMatch_17 : decode cX11_solveMatch 17 = .ok (.getfield 23, 3) := by decide +kernel
theorem dX11_solveMatch_20 : decode cX11_solveMatch 20 = .ok (.getfield 382, 3) := by decide +kernel
theorem dX11_solveMatch_23 : decode cX11_solveMatch 23 = .ok (.if_icmp .ge 31, 3) := by decide +kernel
theorem dX11_solveMatch_26 : decode cX11_solveMatch 26 = .ok (.aload_n 0, 1) := by decide +kernel
theorem dX11_solveMatch_27 : decode cX11_solveMatch 27 = .ok (.getfield 74, 3) := by decide +kernel
theorem dX11_solveMatch_30 : decode cX11_solveMatch 30 = .ok (.getfield 402, 3) := by decide +kernel
theorem dX11_solveMatch_33 : decode cX11_solveMatch 33 = .ok (.iload_n 1, 1) := by decide +kernel
theorem dX11_solveMatch_34 : decode cX11_solveMatch 34 = .ok (.iconst 5, 1) := by decide +kernel
theorem dX11_solveMatch_35 : decode cX11_solveMatch 35 = .ok (.imul, 1) := by decide +kernel
theorem dX11_solveMatch_36 : decode cX11_solveMatch 36 = .ok (.iload_n 2, 1) := by decide +kernel
theorem dX11_solveMatch_37 : decode cX11_solveMatch 37 = .ok (.iadd, 1) := by decide +kernel
theorem dX11_solveMatch_38 : decode cX11_solveMatch 38 = .ok (.aload_n 0, 1) := by decide +kernel
theorem dX11_solveMatch_39 : decode cX11_solveMatch 39 = .ok (.getfield 60, 3) := by decide +kernel
theorem dX11_solveMatch_42 : decode cX11_solveMatch 42 = .ok (.iload_n 2, 1) := by decide +kernel
theorem dX11_solveMatch_43 : decode cX11_solveMatch 43 = .ok (.iload_n 1, 1) := by decide +kernel
theorem dX11_solveMatch_44 : decode cX11_solveMatch 44 = .ok (.invokevirtual 283, 3) := by decide +kernel
theorem dX11_solveMatch_47 : decode cX11_solveMatch 47 = .ok (.iastore, 1) := by decide +kernel
theorem dX11_solveMatch_48 : decode cX11_solveMatch 48 = .ok (.iinc 2 1, 3) := by decide +kernel
theorem dX11_solveMatch_51 : decode cX11_solveMatch 51 = .ok (.goto (-36), 3) := by decide +kernel
theorem dX11_solveMatch_54 : decode cX11_solveMatch 54 = .ok (.iinc 1 1, 3) := by decide +kernel
theorem dX11_solveMatch_57 : decode cX11_solveMatch 57 = .ok (.goto (-55), 3) := by decide +kernel
theorem dX11_solveMatch_60 : decode cX11_solveMatch 60 = .ok (.aload_n 0, 1) := by decide +kernel
theorem dX11_solveMatch_61 : decode cX11_solveMatch 61 = .ok (.getfield 74, 3) := by decide +kernel
theorem dX11_solveMatch_64 : decode cX11_solveMatch 64 = .ok (.aload_n 0, 1) := by decide +kernel
theorem dX11_solveMatch_65 : decode cX11_solveMatch 65 = .ok (.getfield 23, 3) := by decide +kernel
theorem dX11_solveMatch_68 : decode cX11_solveMatch 68 = .ok (.getfield 239, 3) := by decide +kernel
theorem dX11_solveMatch_71 : decode cX11_solveMatch 71 = .ok (.aload_n 0, 1) := by decide +kernel
theorem dX11_solveMatch_72 : decode cX11_solveMatch 72 = .ok (.getfield 23, 3) := by decide +kernel
theorem dX11_solveMatch_75 : decode cX11_solveMatch 75 = .ok (.getfield 382, 3) := by decide +kernel
theorem dX11_solveMatch_78 : decode cX11_solveMatch 78 = .ok (.invokevirtual 404, 3) := by decide +kernel
theorem dX11_solveMatch_81 : decode cX11_solveMatch 81 = .ok (.return_, 1) := by decide +kernel
theorem dX11_commonDivisor_0 : decode cX11_commonDivisor 0 = .ok (.iload_n 0, 1) := by decide +kernel
theorem dX11_commonDivisor_1 : decode cX11_commonDivisor 1 = .ok (.istore_n 2, 1) := by decide +kernel
theorem dX11_commonDivisor_2 : decode cX11_commonDivisor 2 = .ok (.iload_n 1, 1) := by decide +kernel
theorem dX11_commonDivisor_3 : decode cX11_commonDivisor 3 = .ok (.istore_n 3, 1) := by decide +kernel
theorem dX11_commonDivisor_4 : decode cX11_commonDivisor 4 = .ok (.iconst 0, 1) := by decide +kernel
theorem dX11_commonDivisor_5 : decode cX11_commonDivisor 5 = .ok (.istore 4, 2) := by decide +kernel
theorem dX11_commonDivisor_7 : decode cX11_commonDivisor 7 = .ok (.iload 4, 2) := by decide +kernel
theorem dX11_commonDivisor_9 : decode cX11_commonDivisor 9 = .ok (.bipush 40, 2) := by decide +kernel
theorem dX11_commonDivisor_11 : decode cX11_commonDivisor 11 = .ok (.if_icmp .ge 23, 3) := by decide +kernel
theorem dX11_commonDivisor_14 : decode cX11_commonDivisor 14 = .ok (.iload_n 3, 1) := by decide +kernel
theorem dX11_commonDivisor_15 : decode cX11_commonDivisor 15 = .ok (.ifCond .eq 19, 3) := by decide +kernel
theorem dX11_commonDivisor_18 : decode cX11_commonDivisor 18 = .ok (.iload_n 2, 1) := by decide +kernel
theorem dX11_commonDivisor_19 : decode cX11_commonDivisor 19 = .ok (.iload_n 3, 1) := by decide +kernel
theorem dX11_commonDivisor_20 : decode cX11_commonDivisor 20 = .ok (.irem, 1) := by decide +kernel
theorem dX11_commonDivisor_21 : decode cX11_commonDivisor 21 = .ok (.istore 5, 2) := by decide +kernel
theorem dX11_commonDivisor_23 : decode cX11_commonDivisor 23 = .ok (.iload_n 3, 1) := by decide +kernel
theorem dX11_commonDivisor_24 : decode cX11_commonDivisor 24 = .ok (.istore_n 2, 1) := by decide +kernel
theorem dX11_commonDivisor_25 : decode cX11_commonDivisor 25 = .ok (.iload 5, 2) := by decide +kernel
theorem dX11_commonDivisor_27 : decode cX11_commonDivisor 27 = .ok (.istore_n 3, 1) := by decide +kernel
theorem dX11_commonDivisor_28 : decode cX11_commonDivisor 28 = .ok (.iinc 4 1, 3) := by decide +kernel
theorem dX11_commonDivisor_31 : decode cX11_commonDivisor 31 = .ok (.goto (-24), 3) := by decide +kernel
theorem dX11_commonDivisor_34 : decode cX11_commonDivisor 34 = .ok (.iload_n 2, 1) := by decide +kernel
theorem dX11_commonDivisor_35 : decode cX11_commonDivisor 35 = .ok (.iconst 1, 1) := by decide +kernel
theorem dX11_commonDivisor_36 : decode cX11_commonDivisor 36 = .ok (.invokestatic 408, 3) := by decide +kernel
theorem dX11_commonDivisor_39 : decode cX11_commonDivisor 39 = .ok (.ireturn, 1) := by decide +kernel
theorem dX11_noteAt_0 : decode cX11_noteAt 0 = .ok (.iload_n 0, 1) := by decide +kernel
theorem dX11_noteAt_1 : decode cX11_noteAt 1 = .ok (.iconst 2, 1) := by decide +kernel
theorem dX11_noteAt_2 : decode cX11_noteAt 2 = .ok (.iload_n 1, 1) := by decide +kernel
theorem dX11_noteAt_3 : decode cX11_noteAt 3 = .ok (.iconst 1, 1) := by decide +kernel
theorem dX11_noteAt_4 : decode cX11_noteAt 4 = .ok (.isub, 1) := by decide +kernel
theorem dX11_noteAt_5 : decode cX11_noteAt 5 = .ok (.iload_n 2, 1) := by decide +kernel
theorem dX11_noteAt_6 : decode cX11_noteAt 6 = .ok (.isub, 1) := by decide +kernel
theorem dX11_noteAt_7 : decode cX11_noteAt 7 = .ok (.imul, 1) := by decide +kernel
theorem dX11_noteAt_8 : decode cX11_noteAt 8 = .ok (.ishr, 1) := by decide +kernel
theorem dX11_noteAt_9 : decode cX11_noteAt 9 = .ok (.iconst 3, 1) := by decide +kernel
theorem dX11_noteAt_10 : decode cX11_noteAt 10 = .ok (.iand, 1) := by decide +kernel
theorem dX11_noteAt_11 : decode cX11_noteAt 11 = .ok (.ireturn, 1) := by decide +kernel
theorem dX11_withNote_0 : decode cX11_withNote 0 = .ok (.iconst 2, 1) := by decide +kernel
theorem dX11_withNote_1 : decode cX11_withNote 1 = .ok (.iload_n 1, 1) := by decide +kernel
theorem dX11_withNote_2 : decode cX11_withNote 2 = .ok (.iconst 1, 1) := by decide +kernel
theorem dX11_withNote_3 : decode cX11_withNote 3 = .ok (.isub, 1) := by decide +kernel
theorem dX11_withNote_4 : decode cX11_withNote 4 = .ok (.iload_n 2, 1) := by decide +kernel
theorem dX11_withNote_5 : decode cX11_withNote 5 = .ok (.isub, 1) := by decide +kernel
theorem dX11_withNote_6 : decode cX11_withNote 6 = .ok (.imul, 1) := by decide +kernel
theorem dX11_withNote_7 : decode cX11_withNote 7 = .ok (.istore 4, 2) := by decide +kernel
theorem dX11_withNote_9 : decode cX11_withNote 9 = .ok (.iload_n 0, 1) := by decide +kernel
theorem dX11_withNote_10 : decode cX11_withNote 10 = .ok (.iconst 3, 1) := by decide +kernel
theorem dX11_withNote_11 : decode cX11_withNote 11 = .ok (.iload 4, 2) := by decide +kernel
theorem dX11_withNote_13 : decode cX11_withNote 13 = .ok (.ishl, 1) := by decide +kernel
theorem dX11_withNote_14 : decode cX11_withNote 14 = .ok (.iconst (-1), 1) := by decide +kernel
theorem dX11_withNote_15 : decode cX11_withNote 15 = .ok (.ixor, 1) := by decide +kernel
theorem dX11_withNote_16 : decode cX11_withNote 16 = .ok (.iand, 1) := by decide +kernel
theorem dX11_withNote_17 : decode cX11_withNote 17 = .ok (.iload_n 3, 1) := by decide +kernel
theorem dX11_withNote_18 : decode cX11_withNote 18 = .ok (.iload 4, 2) := by decide +kernel
theorem dX11_withNote_20 : decode cX11_withNote 20 = .ok (.ishl, 1) := by decide +kernel
theorem dX11_withNote_21 : decode cX11_withNote 21 = .ok (.ior, 1) := by decide +kernel
theorem dX11_withNote_22 : decode cX11_withNote 22 = .ok (.ireturn, 1) := by decide +kernel
theorem dX11_unlikeNotes_0 : decode cX11_unlikeNotes 0 = .ok (.iload_n 0, 1) := by decide +kernel
theorem dX11_unlikeNotes_1 : decode cX11_unlikeNotes 1 = .ok (.iload_n 1, 1) := by decide +kernel
theorem dX11_unlikeNotes_2 : decode cX11_unlikeNotes 2 = .ok (.ixor, 1) := by decide +kernel
theorem dX11_unlikeNotes_3 : decode cX11_unlikeNotes 3 = .ok (.istore_n 2, 1) := by decide +kernel
theorem dX11_unlikeNotes_4 : decode cX11_unlikeNotes 4 = .ok (.iload_n 2, 1) := by decide +kernel
theorem dX11_unlikeNotes_5 : decode cX11_unlikeNotes 5 = .ok (.iload_n 2, 1) := by decide +kernel
theorem dX11_unlikeNotes_6 : decode cX11_unlikeNotes 6 = .ok (.iconst 1, 1) := by decide +kernel
theorem dX11_unlikeNotes_7 : decode cX11_unlikeNotes 7 = .ok (.ishr, 1) := by decide +kernel
theorem dX11_unlikeNotes_8 : decode cX11_unlikeNotes 8 = .ok (.ior, 1) := by decide +kernel
theorem dX11_unlikeNotes_9 : decode cX11_unlikeNotes 9 = .ok (.sipush 1365, 3) := by decide +kernel
theorem dX11_unlikeNotes_12 : decode cX11_unlikeNotes 12 = .ok (.iand, 1) := by decide +kernel
theorem dX11_unlikeNotes_13 : decode cX11_unlikeNotes 13 = .ok (.invokestatic 411, 3) := by decide +kernel
theorem dX11_unlikeNotes_16 : decode cX11_unlikeNotes 16 = .ok (.ireturn, 1) := by decide +kernel
theorem dJ0_length_8abf5_0 : decode cJ0_length_8abf5 0 = .ok (.aload_n 0, 1) := by decide +kernel
theorem dJ0_length_8abf5_1 : decode cJ0_length_8abf5 1 = .ok (.getfield 9, 3) := by decide +kernel
theorem dJ0_length_8abf5_4 : decode cJ0_length_8abf5 4 = .ok (.arraylength, 1) := by decide +kernel
theorem dJ0_length_8abf5_5 : decode cJ0_length_8abf5 5 = .ok (.aload_n 0, 1) := by decide +kernel
theorem dJ0_length_8abf5_6 : decode cJ0_length_8abf5 6 = .ok (.invokevirtual 335, 3) := by decide +kernel
theorem dJ0_length_8abf5_9 : decode cJ0_length_8abf5 9 = .ok (.ishr, 1) := by decide +kernel
theorem dJ0_length_8abf5_10 : decode cJ0_length_8abf5 10 = .ok (.ireturn, 1) := by decide +kernel
theorem dJ0_charAt_5068e_0 : decode cJ0_charAt_5068e 0 = .ok (.aload_n 0, 1) := by decide +kernel
theorem dJ0_charAt_5068e_1 : decode cJ0_charAt_5068e 1 = .ok (.invokevirtual 492, 3) := by decide +kernel
theorem dJ0_charAt_5068e_4 : decode cJ0_charAt_5068e 4 = .ok (.ifCond .eq 12, 3) := by decide +kernel
theorem dJ0_charAt_5068e_7 : decode cJ0_charAt_5068e 7 = .ok (.aload_n 0, 1) := by decide +kernel
theorem dJ0_charAt_5068e_8 : decode cJ0_charAt_5068e 8 = .ok (.getfield 9, 3) := by decide +kernel
theorem dJ0_charAt_5068e_11 : decode cJ0_charAt_5068e 11 = .ok (.iload_n 1, 1) := by decide +kernel
theorem dJ0_charAt_5068e_12 : decode cJ0_charAt_5068e 12 = .ok (.invokestatic 495, 3) := by decide +kernel
theorem dJ0_charAt_5068e_15 : decode cJ0_charAt_5068e 15 = .ok (.ireturn, 1) := by decide +kernel
theorem dJ0_charAt_5068e_16 : decode cJ0_charAt_5068e 16 = .ok (.aload_n 0, 1) := by decide +kernel
theorem dJ0_charAt_5068e_17 : decode cJ0_charAt_5068e 17 = .ok (.getfield 9, 3) := by decide +kernel
theorem dJ0_charAt_5068e_20 : decode cJ0_charAt_5068e 20 = .ok (.iload_n 1, 1) := by decide +kernel
theorem dJ0_charAt_5068e_21 : decode cJ0_charAt_5068e 21 = .ok (.invokestatic 498, 3) := by decide +kernel
theorem dJ0_charAt_5068e_24 : decode cJ0_charAt_5068e 24 = .ok (.ireturn, 1) := by decide +kernel
theorem dJ0_coder_7d493_0 : decode cJ0_coder_7d493 0 = .ok (.getstatic 38, 3) := by decide +kernel
theorem dJ0_coder_7d493_3 : decode cJ0_coder_7d493 3 = .ok (.ifCond .eq 10, 3) := by decide +kernel
theorem dJ0_coder_7d493_6 : decode cJ0_coder_7d493 6 = .ok (.aload_n 0, 1) := by decide +kernel
theorem dJ0_coder_7d493_7 : decode cJ0_coder_7d493 7 = .ok (.getfield 15, 3) := by decide +kernel
theorem dJ0_coder_7d493_10 : decode cJ0_coder_7d493 10 = .ok (.goto 4, 3) := by decide +kernel
theorem dJ0_coder_7d493_13 : decode cJ0_coder_7d493 13 = .ok (.iconst 1, 1) := by decide +kernel
theorem dJ0_coder_7d493_14 : decode cJ0_coder_7d493 14 = .ok (.ireturn, 1) := by decide +kernel
theorem dJ0_isLatin1_aae02_0 : decode cJ0_isLatin1_aae02 0 = .ok (.getstatic 38, 3) := by decide +kernel
theorem dJ0_isLatin1_aae02_3 : decode cJ0_isLatin1_aae02 3 = .ok (.ifCond .eq 14, 3) := by decide +kernel
theorem dJ0_isLatin1_aae02_6 : decode cJ0_isLatin1_aae02 6 = .ok (.aload_n 0, 1) := by decide +kernel
theorem dJ0_isLatin1_aae02_7 : decode cJ0_isLatin1_aae02 7 = .ok (.getfield 15, 3) := by decide +kernel
theorem dJ0_isLatin1_aae02_10 : decode cJ0_isLatin1_aae02 10 = .ok (.ifCond .ne 7, 3) := by decide +kernel
theorem dJ0_isLatin1_aae02_13 : decode cJ0_isLatin1_aae02 13 = .ok (.iconst 1, 1) := by decide +kernel
theorem dJ0_isLatin1_aae02_14 : decode cJ0_isLatin1_aae02 14 = .ok (.goto 4, 3) := by decide +kernel
theorem dJ0_isLatin1_aae02_17 : decode cJ0_isLatin1_aae02 17 = .ok (.iconst 0, 1) := by decide +kernel
theorem dJ0_isLatin1_aae02_18 : decode cJ0_isLatin1_aae02 18 = .ok (.ireturn, 1) := by decide +kernel
theorem dJ0_checkIndex_df160_0 : decode cJ0_checkIndex_df160 0 = .ok (.iload_n 0, 1) := by decide +kernel
theorem dJ0_checkIndex_df160_1 : decode cJ0_checkIndex_df160 1 = .ok (.iload_n 1, 1) := by decide +kernel
theorem dJ0_checkIndex_df160_2 : decode cJ0_checkIndex_df160 2 = .ok (.getstatic 1053, 3) := by decide +kernel
theorem dJ0_checkIndex_df160_5 : decode cJ0_checkIndex_df160 5 = .ok (.invokestatic 1059, 3) := by decide +kernel
theorem dJ0_checkIndex_df160_8 : decode cJ0_checkIndex_df160 8 = .ok (.pop, 1) := by decide +kernel
theorem dJ0_checkIndex_df160_9 : decode cJ0_checkIndex_df160 9 = .ok (.return_, 1) := by decide +kernel
theorem dJ1_charAt_3b067_0 : decode cJ1_charAt_3b067 0 = .ok (.iload_n 1, 1) := by decide +kernel
theorem dJ1_charAt_3b067_1 : decode cJ1_charAt_3b067 1 = .ok (.aload_n 0, 1) := by decide +kernel
theorem dJ1_charAt_3b067_2 : decode cJ1_charAt_3b067 2 = .ok (.arraylength, 1) := by decide +kernel
theorem dJ1_charAt_3b067_3 : decode cJ1_charAt_3b067 3 = .ok (.invokestatic 9, 3) := by decide +kernel
theorem dJ1_charAt_3b067_6 : decode cJ1_charAt_3b067 6 = .ok (.aload_n 0, 1) := by decide +kernel
theorem dJ1_charAt_3b067_7 : decode cJ1_charAt_3b067 7 = .ok (.iload_n 1, 1) := by decide +kernel
theorem dJ1_charAt_3b067_8 : decode cJ1_charAt_3b067 8 = .ok (.baload, 1) := by decide +kernel
theorem dJ1_charAt_3b067_9 : decode cJ1_charAt_3b067 9 = .ok (.sipush 255, 3) := by decide +kernel
theorem dJ1_charAt_3b067_12 : decode cJ1_charAt_3b067 12 = .ok (.iand, 1) := by decide +kernel
theorem dJ1_charAt_3b067_13 : decode cJ1_charAt_3b067 13 = .ok (.i2c, 1) := by decide +kernel
theorem dJ1_charAt_3b067_14 : decode cJ1_charAt_3b067 14 = .ok (.ireturn, 1) := by decide +kernel
theorem dJ3_checkIndex_8e157_0 : decode cJ3_checkIndex_8e157 0 = .ok (.iload_n 0, 1) := by decide +kernel
theorem dJ3_checkIndex_8e157_1 : decode cJ3_checkIndex_8e157 1 = .ok (.ifCond .lt 8, 3) := by decide +kernel
theorem dJ3_checkIndex_8e157_4 : decode cJ3_checkIndex_8e157 4 = .ok (.iload_n 0, 1) := by decide +kernel
theorem dJ3_checkIndex_8e157_5 : decode cJ3_checkIndex_8e157 5 = .ok (.iload_n 1, 1) := by decide +kernel
theorem dJ3_checkIndex_8e157_6 : decode cJ3_checkIndex_8e157 6 = .ok (.if_icmp .lt 10, 3) := by decide +kernel
theorem dJ3_checkIndex_8e157_9 : decode cJ3_checkIndex_8e157 9 = .ok (.aload_n 2, 1) := by decide +kernel
theorem dJ3_checkIndex_8e157_10 : decode cJ3_checkIndex_8e157 10 = .ok (.iload_n 0, 1) := by decide +kernel
theorem dJ3_checkIndex_8e157_11 : decode cJ3_checkIndex_8e157 11 = .ok (.iload_n 1, 1) := by decide +kernel
theorem dJ3_checkIndex_8e157_12 : decode cJ3_checkIndex_8e157 12 = .ok (.invokestatic 95, 3) := by decide +kernel
theorem dJ3_checkIndex_8e157_15 : decode cJ3_checkIndex_8e157 15 = .ok (.athrow, 1) := by decide +kernel
theorem dJ3_checkIndex_8e157_16 : decode cJ3_checkIndex_8e157 16 = .ok (.iload_n 0, 1) := by decide +kernel
theorem dJ3_checkIndex_8e157_17 : decode cJ3_checkIndex_8e157 17 = .ok (.ireturn, 1) := by decide +kernel
theorem dJ7_fill_53178_0 : decode cJ7_fill_53178 0 = .ok (.iconst 0, 1) := by decide +kernel
theorem dJ7_fill_53178_1 : decode cJ7_fill_53178 1 = .ok (.istore_n 2, 1) := by decide +kernel
theorem dJ7_fill_53178_2 : decode cJ7_fill_53178 2 = .ok (.aload_n 0, 1) := by decide +kernel
theorem dJ7_fill_53178_3 : decode cJ7_fill_53178 3 = .ok (.arraylength, 1) := by decide +kernel
theorem dJ7_fill_53178_4 : decode cJ7_fill_53178 4 = .ok (.istore_n 3, 1) := by decide +kernel
theorem dJ7_fill_53178_5 : decode cJ7_fill_53178 5 = .ok (.iload_n 2, 1) := by decide +kernel
theorem dJ7_fill_53178_6 : decode cJ7_fill_53178 6 = .ok (.iload_n 3, 1) := by decide +kernel
theorem dJ7_fill_53178_7 : decode cJ7_fill_53178 7 = .ok (.if_icmp .ge 13, 3) := by decide +kernel
theorem dJ7_fill_53178_10 : decode cJ7_fill_53178 10 = .ok (.aload_n 0, 1) := by decide +kernel
theorem dJ7_fill_53178_11 : decode cJ7_fill_53178 11 = .ok (.iload_n 2, 1) := by decide +kernel
theorem dJ7_fill_53178_12 : decode cJ7_fill_53178 12 = .ok (.iload_n 1, 1) := by decide +kernel
theorem dJ7_fill_53178_13 : decode cJ7_fill_53178 13 = .ok (.iastore, 1) := by decide +kernel
theorem dJ7_fill_53178_14 : decode cJ7_fill_53178 14 = .ok (.iinc 2 1, 3) := by decide +kernel
theorem dJ7_fill_53178_17 : decode cJ7_fill_53178 17 = .ok (.goto (-12), 3) := by decide +kernel
theorem dJ7_fill_53178_20 : decode cJ7_fill_53178 20 = .ok (.return_, 1) := by decide +kernel
theorem dJ6_bitCount_0f7a4_0 : decode cJ6_bitCount_0f7a4 0 = .ok (.iload_n 0, 1) := by decide +kernel
theorem dJ6_bitCount_0f7a4_1 : decode cJ6_bitCount_0f7a4 1 = .ok (.iload_n 0, 1) := by decide +kernel
theorem dJ6_bitCount_0f7a4_2 : decode cJ6_bitCount_0f7a4 2 = .ok (.iconst 1, 1) := by decide +kernel
theorem dJ6_bitCount_0f7a4_3 : decode cJ6_bitCount_0f7a4 3 = .ok (.iushr, 1) := by decide +kernel
theorem dJ6_bitCount_0f7a4_4 : decode cJ6_bitCount_0f7a4 4 = .ok (.ldc_w 265, 3) := by decide +kernel
theorem dJ6_bitCount_0f7a4_7 : decode cJ6_bitCount_0f7a4 7 = .ok (.iand, 1) := by decide +kernel
theorem dJ6_bitCount_0f7a4_8 : decode cJ6_bitCount_0f7a4 8 = .ok (.isub, 1) := by decide +kernel
theorem dJ6_bitCount_0f7a4_9 : decode cJ6_bitCount_0f7a4 9 = .ok (.istore_n 0, 1) := by decide +kernel
theorem dJ6_bitCount_0f7a4_10 : decode cJ6_bitCount_0f7a4 10 = .ok (.iload_n 0, 1) := by decide +kernel
theorem dJ6_bitCount_0f7a4_11 : decode cJ6_bitCount_0f7a4 11 = .ok (.ldc_w 266, 3) := by decide +kernel
theorem dJ6_bitCount_0f7a4_14 : decode cJ6_bitCount_0f7a4 14 = .ok (.iand, 1) := by decide +kernel
theorem dJ6_bitCount_0f7a4_15 : decode cJ6_bitCount_0f7a4 15 = .ok (.iload_n 0, 1) := by decide +kernel
theorem dJ6_bitCount_0f7a4_16 : decode cJ6_bitCount_0f7a4 16 = .ok (.iconst 2, 1) := by decide +kernel
theorem dJ6_bitCount_0f7a4_17 : decode cJ6_bitCount_0f7a4 17 = .ok (.iushr, 1) := by decide +kernel
theorem dJ6_bitCount_0f7a4_18 : decode cJ6_bitCount_0f7a4 18 = .ok (.ldc_w 266, 3) := by decide +kernel
theorem dJ6_bitCount_0f7a4_21 : decode cJ6_bitCount_0f7a4 21 = .ok (.iand, 1) := by decide +kernel
theorem dJ6_bitCount_0f7a4_22 : decode cJ6_bitCount_0f7a4 22 = .ok (.iadd, 1) := by decide +kernel
theorem dJ6_bitCount_0f7a4_23 : decode cJ6_bitCount_0f7a4 23 = .ok (.istore_n 0, 1) := by decide +kernel
theorem dJ6_bitCount_0f7a4_24 : decode cJ6_bitCount_0f7a4 24 = .ok (.iload_n 0, 1) := by decide +kernel
theorem dJ6_bitCount_0f7a4_25 : decode cJ6_bitCount_0f7a4 25 = .ok (.iload_n 0, 1) := by decide +kernel
theorem dJ6_bitCount_0f7a4_26 : decode cJ6_bitCount_0f7a4 26 = .ok (.iconst 4, 1) := by decide +kernel
theorem dJ6_bitCount_0f7a4_27 : decode cJ6_bitCount_0f7a4 27 = .ok (.iushr, 1) := by decide +kernel
theorem dJ6_bitCount_0f7a4_28 : decode cJ6_bitCount_0f7a4 28 = .ok (.iadd, 1) := by decide +kernel
theorem dJ6_bitCount_0f7a4_29 : decode cJ6_bitCount_0f7a4 29 = .ok (.ldc_w 267, 3) := by decide +kernel
theorem dJ6_bitCount_0f7a4_32 : decode cJ6_bitCount_0f7a4 32 = .ok (.iand, 1) := by decide +kernel
theorem dJ6_bitCount_0f7a4_33 : decode cJ6_bitCount_0f7a4 33 = .ok (.istore_n 0, 1) := by decide +kernel
theorem dJ6_bitCount_0f7a4_34 : decode cJ6_bitCount_0f7a4 34 = .ok (.iload_n 0, 1) := by decide +kernel
theorem dJ6_bitCount_0f7a4_35 : decode cJ6_bitCount_0f7a4 35 = .ok (.iload_n 0, 1) := by decide +kernel
theorem dJ6_bitCount_0f7a4_36 : decode cJ6_bitCount_0f7a4 36 = .ok (.bipush 8, 2) := by decide +kernel
theorem dJ6_bitCount_0f7a4_38 : decode cJ6_bitCount_0f7a4 38 = .ok (.iushr, 1) := by decide +kernel
theorem dJ6_bitCount_0f7a4_39 : decode cJ6_bitCount_0f7a4 39 = .ok (.iadd, 1) := by decide +kernel
theorem dJ6_bitCount_0f7a4_40 : decode cJ6_bitCount_0f7a4 40 = .ok (.istore_n 0, 1) := by decide +kernel
theorem dJ6_bitCount_0f7a4_41 : decode cJ6_bitCount_0f7a4 41 = .ok (.iload_n 0, 1) := by decide +kernel
theorem dJ6_bitCount_0f7a4_42 : decode cJ6_bitCount_0f7a4 42 = .ok (.iload_n 0, 1) := by decide +kernel
theorem dJ6_bitCount_0f7a4_43 : decode cJ6_bitCount_0f7a4 43 = .ok (.bipush 16, 2) := by decide +kernel
theorem dJ6_bitCount_0f7a4_45 : decode cJ6_bitCount_0f7a4 45 = .ok (.iushr, 1) := by decide +kernel
theorem dJ6_bitCount_0f7a4_46 : decode cJ6_bitCount_0f7a4 46 = .ok (.iadd, 1) := by decide +kernel
theorem dJ6_bitCount_0f7a4_47 : decode cJ6_bitCount_0f7a4 47 = .ok (.istore_n 0, 1) := by decide +kernel
theorem dJ6_bitCount_0f7a4_48 : decode cJ6_bitCount_0f7a4 48 = .ok (.iload_n 0, 1) := by decide +kernel
theorem dJ6_bitCount_0f7a4_49 : decode cJ6_bitCount_0f7a4 49 = .ok (.bipush 63, 2) := by decide +kernel
theorem dJ6_bitCount_0f7a4_51 : decode cJ6_bitCount_0f7a4 51 = .ok (.iand, 1) := by decide +kernel
theorem dJ6_bitCount_0f7a4_52 : decode cJ6_bitCount_0f7a4 52 = .ok (.ireturn, 1) := by decide +kernel
