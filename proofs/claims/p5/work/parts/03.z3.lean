theorem dX12_init_0 : decode cX12_init 0 = .ok (.aload_n 0, 1) := by decide +kernel
theorem dX12_init_1 : decode cX12_init 1 = .ok (.invokespecial 1, 3) := by decide +kernel
theorem dX12_init_4 : decode cX12_init 4 = .ok (.aload_n 0, 1) := by decide +kernel
theorem dX12_init_5 : decode cX12_init 5 = .ok (.sipush 1000, 3) := by decide +kernel
theorem dX12_init_8 : decode cX12_init 8 = .ok (.newarray .int, 2) := by decide +kernel
theorem dX12_init_10 : decode cX12_init 10 = .ok (.putfield 7, 3) := by decide +kernel
theorem dX12_init_13 : decode cX12_init 13 = .ok (.aload_n 0, 1) := by decide +kernel
theorem dX12_init_14 : decode cX12_init 14 = .ok (.iconst (-1), 1) := by decide +kernel
theorem dX12_init_15 : decode cX12_init 15 = .ok (.putfield 13, 3) := by decide +kernel
theorem dX12_init_18 : decode cX12_init 18 = .ok (.aload_n 0, 1) := by decide +kernel
theorem dX12_init_19 : decode cX12_init 19 = .ok (.bipush 8, 2) := by decide +kernel
theorem dX12_init_21 : decode cX12_init 21 = .ok (.newarray .int, 2) := by decide +kernel
theorem dX12_init_23 : decode cX12_init 23 = .ok (.putfield 17, 3) := by decide +kernel
theorem dX12_init_26 : decode cX12_init 26 = .ok (.aload_n 0, 1) := by decide +kernel
theorem dX12_init_27 : decode cX12_init 27 = .ok (.sipush 363, 3) := by decide +kernel
theorem dX12_init_30 : decode cX12_init 30 = .ok (.newarray .int, 2) := by decide +kernel
theorem dX12_init_32 : decode cX12_init 32 = .ok (.putfield 20, 3) := by decide +kernel
theorem dX12_init_35 : decode cX12_init 35 = .ok (.aload_n 0, 1) := by decide +kernel
theorem dX12_init_36 : decode cX12_init 36 = .ok (.sipush 363, 3) := by decide +kernel
theorem dX12_init_39 : decode cX12_init 39 = .ok (.newarray .int, 2) := by decide +kernel
theorem dX12_init_41 : decode cX12_init 41 = .ok (.putfield 23, 3) := by decide +kernel
theorem dX12_init_44 : decode cX12_init 44 = .ok (.aload_n 0, 1) := by decide +kernel
theorem dX12_init_45 : decode cX12_init 45 = .ok (.bipush 76, 2) := by decide +kernel
theorem dX12_init_47 : decode cX12_init 47 = .ok (.newarray .int, 2) := by decide +kernel
theorem dX12_init_49 : decode cX12_init 49 = .ok (.putfield 26, 3) := by decide +kernel
theorem dX12_init_52 : decode cX12_init 52 = .ok (.aload_n 0, 1) := by decide +kernel
theorem dX12_init_53 : decode cX12_init 53 = .ok (.sipush 912, 3) := by decide +kernel
theorem dX12_init_56 : decode cX12_init 56 = .ok (.newarray .int, 2) := by decide +kernel
theorem dX12_init_58 : decode cX12_init 58 = .ok (.putfield 29, 3) := by decide +kernel
theorem dX12_init_61 : decode cX12_init 61 = .ok (.aload_n 0, 1) := by decide +kernel
theorem dX12_init_62 : decode cX12_init 62 = .ok (.sipush 228, 3) := by decide +kernel
theorem dX12_init_65 : decode cX12_init 65 = .ok (.newarray .int, 2) := by decide +kernel
theorem dX12_init_67 : decode cX12_init 67 = .ok (.putfield 32, 3) := by decide +kernel
theorem dX12_init_70 : decode cX12_init 70 = .ok (.aload_n 0, 1) := by decide +kernel
theorem dX12_init_71 : decode cX12_init 71 = .ok (.sipush 3200, 3) := by decide +kernel
theorem dX12_init_74 : decode cX12_init 74 = .ok (.newarray .int, 2) := by decide +kernel
theorem dX12_init_76 : decode cX12_init 76 = .ok (.putfield 35, 3) := by decide +kernel
theorem dX12_init_79 : decode cX12_init 79 = .ok (.aload_n 0, 1) := by decide +kernel
theorem dX12_init_80 : decode cX12_init 80 = .ok (.bipush 7, 2) := by decide +kernel
theorem dX12_init_82 : decode cX12_init 82 = .ok (.newarray .int, 2) := by decide +kernel
theorem dX12_init_84 : decode cX12_init 84 = .ok (.putfield 38, 3) := by decide +kernel
theorem dX12_init_87 : decode cX12_init 87 = .ok (.aload_n 0, 1) := by decide +kernel
theorem dX12_init_88 : decode cX12_init 88 = .ok (.bipush 7, 2) := by decide +kernel
theorem dX12_init_90 : decode cX12_init 90 = .ok (.newarray .int, 2) := by decide +kernel
theorem dX12_init_92 : decode cX12_init 92 = .ok (.putfield 41, 3) := by decide +kernel
theorem dX12_init_95 : decode cX12_init 95 = .ok (.aload_n 0, 1) := by decide +kernel
theorem dX12_init_96 : decode cX12_init 96 = .ok (.bipush 8, 2) := by decide +kernel
theorem dX12_init_98 : decode cX12_init 98 = .ok (.newarray .int, 2) := by decide +kernel
theorem dX12_init_100 : decode cX12_init 100 = .ok (.putfield 44, 3) := by decide +kernel
theorem dX12_init_103 : decode cX12_init 103 = .ok (.aload_n 0, 1) := by decide +kernel
theorem dX12_init_104 : decode cX12_init 104 = .ok (.bipush 8, 2) := by decide +kernel
theorem dX12_init_106 : decode cX12_init 106 = .ok (.newarray .int, 2) := by decide +kernel
theorem dX12_init_108 : decode cX12_init 108 = .ok (.putfield 47, 3) := by decide +kernel
theorem dX12_init_111 : decode cX12_init 111 = .ok (.aload_n 0, 1) := by decide +kernel
theorem dX12_init_112 : decode cX12_init 112 = .ok (.bipush 40, 2) := by decide +kernel
theorem dX12_init_114 : decode cX12_init 114 = .ok (.newarray .int, 2) := by decide +kernel
theorem dX12_init_116 : decode cX12_init 116 = .ok (.putfield 50, 3) := by decide +kernel
theorem dX12_init_119 : decode cX12_init 119 = .ok (.aload_n 0, 1) := by decide +kernel
theorem dX12_init_120 : decode cX12_init 120 = .ok (.bipush 49, 2) := by decide +kernel
theorem dX12_init_122 : decode cX12_init 122 = .ok (.newarray .int, 2) := by decide +kernel
theorem dX12_init_124 : decode cX12_init 124 = .ok (.putfield 53, 3) := by decide +kernel
theorem dX12_init_127 : decode cX12_init 127 = .ok (.aload_n 0, 1) := by decide +kernel
theorem dX12_init_128 : decode cX12_init 128 = .ok (.bipush 7, 2) := by decide +kernel
theorem dX12_init_130 : decode cX12_init 130 = .ok (.newarray .int, 2) := by decide +kernel
theorem dX12_init_132 : decode cX12_init 132 = .ok (.putfield 56, 3) := by decide +kernel
theorem dX12_init_135 : decode cX12_init 135 = .ok (.aload_n 0, 1) := by decide +kernel
theorem dX12_init_136 : decode cX12_init 136 = .ok (.bipush 7, 2) := by decide +kernel
theorem dX12_init_138 : decode cX12_init 138 = .ok (.newarray .int, 2) := by decide +kernel
theorem dX12_init_140 : decode cX12_init 140 = .ok (.putfield 59, 3) := by decide +kernel
theorem dX12_init_143 : decode cX12_init 143 = .ok (.return_, 1) := by decide +kernel
theorem dX12_good_0 : decode cX12_good 0 = .ok (.aload_n 0, 1) := by decide +kernel
theorem dX12_good_1 : decode cX12_good 1 = .ok (.iconst 0, 1) := by decide +kernel
theorem dX12_good_2 : decode cX12_good 2 = .ok (.putfield 62, 3) := by decide +kernel
theorem dX12_good_5 : decode cX12_good 5 = .ok (.aload_n 0, 1) := by decide +kernel
theorem dX12_good_6 : decode cX12_good 6 = .ok (.iconst 0, 1) := by decide +kernel
theorem dX12_good_7 : decode cX12_good 7 = .ok (.putfield 65, 3) := by decide +kernel
theorem dX12_good_10 : decode cX12_good 10 = .ok (.return_, 1) := by decide +kernel
theorem dX12_no_0 : decode cX12_no 0 = .ok (.aload_n 0, 1) := by decide +kernel
theorem dX12_no_1 : decode cX12_no 1 = .ok (.iload_n 1, 1) := by decide +kernel
theorem dX12_no_2 : decode cX12_no 2 = .ok (.putfield 65, 3) := by decide +kernel
theorem dX12_no_5 : decode cX12_no 5 = .ok (.iconst (-1), 1) := by decide +kernel
theorem dX12_no_6 : decode cX12_no 6 = .ok (.ireturn, 1) := by decide +kernel
theorem dX12_isNot_0 : decode cX12_isNot 0 = .ok (.aload_n 0, 1) := by decide +kernel
theorem dX12_isNot_1 : decode cX12_isNot 1 = .ok (.iload_n 1, 1) := by decide +kernel
theorem dX12_isNot_2 : decode cX12_isNot 2 = .ok (.putfield 65, 3) := by decide +kernel
theorem dX12_isNot_5 : decode cX12_isNot 5 = .ok (.iconst 0, 1) := by decide +kernel
theorem dX12_isNot_6 : decode cX12_isNot 6 = .ok (.ireturn, 1) := by decide +kernel
theorem dX12_in_0 : decode cX12_in 0 = .ok (.iload_n 0, 1) := by decide +kernel
theorem dX12_in_1 : decode cX12_in 1 = .ok (.iload_n 1, 1) := by decide +kernel
theorem dX12_in_2 : decode cX12_in 2 = .ok (.if_icmp .lt 12, 3) := by decide +kernel
theorem dX12_in_5 : decode cX12_in 5 = .ok (.iload_n 0, 1) := by decide +kernel
theorem dX12_in_6 : decode cX12_in 6 = .ok (.iload_n 2, 1) := by decide +kernel
theorem dX12_in_7 : decode cX12_in 7 = .ok (.if_icmp .gt 7, 3) := by decide +kernel
theorem dX12_in_10 : decode cX12_in 10 = .ok (.iconst 1, 1) := by decide +kernel
theorem dX12_in_11 : decode cX12_in 11 = .ok (.goto 4, 3) := by decide +kernel
theorem dX12_in_14 : decode cX12_in 14 = .ok (.iconst 0, 1) := by decide +kernel
theorem dX12_in_15 : decode cX12_in 15 = .ok (.ireturn, 1) := by decide +kernel
theorem dX12_hasBit_0 : decode cX12_hasBit 0 = .ok (.iload_n 0, 1) := by decide +kernel
theorem dX12_hasBit_1 : decode cX12_hasBit 1 = .ok (.iload_n 1, 1) := by decide +kernel
theorem dX12_hasBit_2 : decode cX12_hasBit 2 = .ok (.ishr, 1) := by decide +kernel
theorem dX12_hasBit_3 : decode cX12_hasBit 3 = .ok (.iconst 1, 1) := by decide +kernel
theorem dX12_hasBit_4 : decode cX12_hasBit 4 = .ok (.iand, 1) := by decide +kernel
theorem dX12_hasBit_5 : decode cX12_hasBit 5 = .ok (.iconst 1, 1) := by decide +kernel
theorem dX12_hasBit_6 : decode cX12_hasBit 6 = .ok (.if_icmp .ne 7, 3) := by decide +kernel
theorem dX12_hasBit_9 : decode cX12_hasBit 9 = .ok (.iconst 1, 1) := by decide +kernel
theorem dX12_hasBit_10 : decode cX12_hasBit 10 = .ok (.goto 4, 3) := by decide +kernel
theorem dX12_hasBit_13 : decode cX12_hasBit 13 = .ok (.iconst 0, 1) := by decide +kernel
theorem dX12_hasBit_14 : decode cX12_hasBit 14 = .ok (.ireturn, 1) := by decide +kernel
theorem dX12_ones_0 : decode cX12_ones 0 = .ok (.iconst 0, 1) := by decide +kernel
theorem dX12_ones_1 : decode cX12_ones 1 = .ok (.istore_n 1, 1) := by decide +kernel
theorem dX12_ones_2 : decode cX12_ones 2 = .ok (.iconst 0, 1) := by decide +kernel
theorem dX12_ones_3 : decode cX12_ones 3 = .ok (.istore_n 2, 1) := by decide +kernel
theorem dX12_ones_4 : decode cX12_ones 4 = .ok (.iload_n 2, 1) := by decide +kernel
theorem dX12_ones_5 : decode cX12_ones 5 = .ok (.bipush 12, 2) := by decide +kernel
theorem dX12_ones_7 : decode cX12_ones 7 = .ok (.if_icmp .ge 17, 3) := by decide +kernel
theorem dX12_ones_10 : decode cX12_ones 10 = .ok (.iload_n 1, 1) := by decide +kernel
theorem dX12_ones_11 : decode cX12_ones 11 = .ok (.iload_n 0, 1) := by decide +kernel
theorem dX12_ones_12 : decode cX12_ones 12 = .ok (.iload_n 2, 1) := by decide +kernel
theorem dX12_ones_13 : decode cX12_ones 13 = .ok (.ishr, 1) := by decide +kernel
theorem dX12_ones_14 : decode cX12_ones 14 = .ok (.iconst 1, 1) := by decide +kernel
theorem dX12_ones_15 : decode cX12_ones 15 = .ok (.iand, 1) := by decide +kernel
theorem dX12_ones_16 : decode cX12_ones 16 = .ok (.iadd, 1) := by decide +kernel
theorem dX12_ones_17 : decode cX12_ones 17 = .ok (.istore_n 1, 1) := by decide +kernel
theorem dX12_ones_18 : decode cX12_ones 18 = .ok (.iinc 2 1, 3) := by decide +kernel
theorem dX12_ones_21 : decode cX12_ones 21 = .ok (.goto (-17), 3) := by decide +kernel
theorem dX12_ones_24 : decode cX12_ones 24 = .ok (.iload_n 1, 1) := by decide +kernel
theorem dX12_ones_25 : decode cX12_ones 25 = .ok (.ireturn, 1) := by decide +kernel
theorem dX12_copy_0 : decode cX12_copy 0 = .ok (.iconst 0, 1) := by decide +kernel
theorem dX12_copy_1 : decode cX12_copy 1 = .ok (.istore 5, 2) := by decide +kernel
theorem dX12_copy_3 : decode cX12_copy 3 = .ok (.iload 5, 2) := by decide +kernel
theorem dX12_copy_5 : decode cX12_copy 5 = .ok (.iload 4, 2) := by decide +kernel
theorem dX12_copy_7 : decode cX12_copy 7 = .ok (.if_icmp .ge 21, 3) := by decide +kernel
theorem dX12_copy_10 : decode cX12_copy 10 = .ok (.aload_n 2, 1) := by decide +kernel
theorem dX12_copy_11 : decode cX12_copy 11 = .ok (.iload_n 3, 1) := by decide +kernel
theorem dX12_copy_12 : decode cX12_copy 12 = .ok (.iload 5, 2) := by decide +kernel
theorem dX12_copy_14 : decode cX12_copy 14 = .ok (.iadd, 1) := by decide +kernel
theorem dX12_copy_15 : decode cX12_copy 15 = .ok (.aload_n 0, 1) := by decide +kernel
theorem dX12_copy_16 : decode cX12_copy 16 = .ok (.iload_n 1, 1) := by decide +kernel
theorem dX12_copy_17 : decode cX12_copy 17 = .ok (.iload 5, 2) := by decide +kernel
theorem dX12_copy_19 : decode cX12_copy 19 = .ok (.iadd, 1) := by decide +kernel
theorem dX12_copy_20 : decode cX12_copy 20 = .ok (.iaload, 1) := by decide +kernel
theorem dX12_copy_21 : decode cX12_copy 21 = .ok (.iastore, 1) := by decide +kernel
theorem dX12_copy_22 : decode cX12_copy 22 = .ok (.iinc 5 1, 3) := by decide +kernel
theorem dX12_copy_25 : decode cX12_copy 25 = .ok (.goto (-22), 3) := by decide +kernel
theorem dX12_copy_28 : decode cX12_copy 28 = .ok (.return_, 1) := by decide +kernel
theorem dX12_later_0 : decode cX12_later 0 = .ok (.iload_n 0, 1) := by decide +kernel
theorem dX12_later_1 : decode cX12_later 1 = .ok (.iload_n 1, 1) := by decide +kernel
theorem dX12_later_2 : decode cX12_later 2 = .ok (.if_icmp .le 7, 3) := by decide +kernel
theorem dX12_later_5 : decode cX12_later 5 = .ok (.iload_n 0, 1) := by decide +kernel
theorem dX12_later_6 : decode cX12_later 6 = .ok (.goto 4, 3) := by decide +kernel
theorem dX12_later_9 : decode cX12_later 9 = .ok (.iload_n 1, 1) := by decide +kernel
theorem dX12_later_10 : decode cX12_later 10 = .ok (.ireturn, 1) := by decide +kernel
theorem dX12_feed_0 : decode cX12_feed 0 = .ok (.aload_n 0, 1) := by decide +kernel
theorem dX12_feed_1 : decode cX12_feed 1 = .ok (.iconst 0, 1) := by decide +kernel
theorem dX12_feed_2 : decode cX12_feed 2 = .ok (.putfield 62, 3) := by decide +kernel
theorem dX12_feed_5 : decode cX12_feed 5 = .ok (.aload_n 0, 1) := by decide +kernel
theorem dX12_feed_6 : decode cX12_feed 6 = .ok (.getfield 68, 3) := by decide +kernel
theorem dX12_feed_9 : decode cX12_feed 9 = .ok (.bipush 20, 2) := by decide +kernel
theorem dX12_feed_11 : decode cX12_feed 11 = .ok (.iadd, 1) := by decide +kernel
theorem dX12_feed_12 : decode cX12_feed 12 = .ok (.sipush 1000, 3) := by decide +kernel
theorem dX12_feed_15 : decode cX12_feed 15 = .ok (.if_icmp .le 5, 3) := by decide +kernel
theorem dX12_feed_18 : decode cX12_feed 18 = .ok (.iconst (-1), 1) := by decide +kernel
theorem dX12_feed_19 : decode cX12_feed 19 = .ok (.ireturn, 1) := by decide +kernel
theorem dX12_feed_20 : decode cX12_feed 20 = .ok (.iconst 0, 1) := by decide +kernel
theorem dX12_feed_21 : decode cX12_feed 21 = .ok (.istore 6, 2) := by decide +kernel
theorem dX12_feed_23 : decode cX12_feed 23 = .ok (.iload 6, 2) := by decide +kernel
theorem dX12_feed_25 : decode cX12_feed 25 = .ok (.bipush 20, 2) := by decide +kernel
theorem dX12_feed_27 : decode cX12_feed 27 = .ok (.if_icmp .ge 93, 3) := by decide +kernel
theorem dX12_feed_30 : decode cX12_feed 30 = .ok (.iload 6, 2) := by decide +kernel
theorem dX12_feed_32 : decode cX12_feed 32 = .ok (.iconst 4, 1) := by decide +kernel
theorem dX12_feed_33 : decode cX12_feed 33 = .ok (.if_icmp .ge 7, 3) := by decide +kernel
theorem dX12_feed_36 : decode cX12_feed 36 = .ok (.iload_n 1, 1) := by decide +kernel
theorem dX12_feed_37 : decode cX12_feed 37 = .ok (.goto 39, 3) := by decide +kernel
theorem dX12_feed_40 : decode cX12_feed 40 = .ok (.iload 6, 2) := by decide +kernel
theorem dX12_feed_42 : decode cX12_feed 42 = .ok (.bipush 8, 2) := by decide +kernel
theorem dX12_feed_44 : decode cX12_feed 44 = .ok (.if_icmp .ge 7, 3) := by decide +kernel
theorem dX12_feed_47 : decode cX12_feed 47 = .ok (.iload_n 2, 1) := by decide +kernel
theorem dX12_feed_48 : decode cX12_feed 48 = .ok (.goto 28, 3) := by decide +kernel
theorem dX12_feed_51 : decode cX12_feed 51 = .ok (.iload 6, 2) := by decide +kernel
theorem dX12_feed_53 : decode cX12_feed 53 = .ok (.bipush 12, 2) := by decide +kernel
theorem dX12_feed_55 : decode cX12_feed 55 = .ok (.if_icmp .ge 7, 3) := by decide +kernel
theorem dX12_feed_58 : decode cX12_feed 58 = .ok (.iload_n 3, 1) := by decide +kernel
theorem dX12_feed_59 : decode cX12_feed 59 = .ok (.goto 17, 3) := by decide +kernel
theorem dX12_feed_62 : decode cX12_feed 62 = .ok (.iload 6, 2) := by decide +kernel
theorem dX12_feed_64 : decode cX12_feed 64 = .ok (.bipush 16, 2) := by decide +kernel
theorem dX12_feed_66 : decode cX12_feed 66 = .ok (.if_icmp .ge 8, 3) := by decide +kernel
theorem dX12_feed_69 : decode cX12_feed 69 = .ok (.iload 4, 2) := by decide +kernel
theorem dX12_feed_71 : decode cX12_feed 71 = .ok (.goto 5, 3) := by decide +kernel
theorem dX12_feed_74 : decode cX12_feed 74 = .ok (.iload 5, 2) := by decide +kernel
theorem dX12_feed_76 : decode cX12_feed 76 = .ok (.istore 7, 2) := by decide +kernel
theorem dX12_feed_78 : decode cX12_feed 78 = .ok (.aload_n 0, 1) := by decide +kernel
theorem dX12_feed_79 : decode cX12_feed 79 = .ok (.getfield 7, 3) := by decide +kernel
theorem dX12_feed_82 : decode cX12_feed 82 = .ok (.aload_n 0, 1) := by decide +kernel
theorem dX12_feed_83 : decode cX12_feed 83 = .ok (.getfield 68, 3) := by decide +kernel
theorem dX12_feed_86 : decode cX12_feed 86 = .ok (.iload 7, 2) := by decide +kernel
theorem dX12_feed_88 : decode cX12_feed 88 = .ok (.bipush 24, 2) := by decide +kernel
theorem dX12_feed_90 : decode cX12_feed 90 = .ok (.bipush 8, 2) := by decide +kernel
theorem dX12_feed_92 : decode cX12_feed 92 = .ok (.iload 6, 2) := by decide +kernel
theorem dX12_feed_94 : decode cX12_feed 94 = .ok (.iconst 4, 1) := by decide +kernel
theorem dX12_feed_95 : decode cX12_feed 95 = .ok (.irem, 1) := by decide +kernel
theorem dX12_feed_96 : decode cX12_feed 96 = .ok (.imul, 1) := by decide +kernel
theorem dX12_feed_97 : decode cX12_feed 97 = .ok (.isub, 1) := by decide +kernel
theorem dX12_feed_98 : decode cX12_feed 98 = .ok (.ishr, 1) := by decide +kernel
theorem dX12_feed_99 : decode cX12_feed 99 = .ok (.sipush 255, 3) := by decide +kernel
theorem dX12_feed_102 : decode cX12_feed 102 = .ok (.iand, 1) := by decide +kernel
theorem dX12_feed_103 : decode cX12_feed 103 = .ok (.iastore, 1) := by decide +kernel
theorem dX12_feed_104 : decode cX12_feed 104 = .ok (.aload_n 0, 1) := by decide +kernel
theorem dX12_feed_105 : decode cX12_feed 105 = .ok (.dup, 1) := by decide +kernel
theorem dX12_feed_106 : decode cX12_feed 106 = .ok (.getfield 68, 3) := by decide +kernel
theorem dX12_feed_109 : decode cX12_feed 109 = .ok (.iconst 1, 1) := by decide +kernel
theorem dX12_feed_110 : decode cX12_feed 110 = .ok (.iadd, 1) := by decide +kernel
theorem dX12_feed_111 : decode cX12_feed 111 = .ok (.putfield 68, 3) := by decide +kernel
theorem dX12_feed_114 : decode cX12_feed 114 = .ok (.iinc 6 1, 3) := by decide +kernel
theorem dX12_feed_117 : decode cX12_feed 117 = .ok (.goto (-94), 3) := by decide +kernel
theorem dX12_feed_120 : decode cX12_feed 120 = .ok (.aload_n 0, 1) := by decide +kernel
theorem dX12_feed_121 : decode cX12_feed 121 = .ok (.getfield 68, 3) := by decide +kernel
theorem dX12_feed_124 : decode cX12_feed 124 = .ok (.ireturn, 1) := by decide +kernel
theorem dX12_look_0 : decode cX12_look 0 = .ok (.iload_n 1, 1) := by decide +kernel
theorem dX12_look_1 : decode cX12_look 1 = .ok (.aload_n 0, 1) := by decide +kernel
theorem dX12_look_2 : decode cX12_look 2 = .ok (.getfield 71, 3) := by decide +kernel
theorem dX12_look_5 : decode cX12_look 5 = .ok (.if_icmp .ge 12, 3) := by decide +kernel
theorem dX12_look_8 : decode cX12_look 8 = .ok (.aload_n 0, 1) := by decide +kernel
theorem dX12_look_9 : decode cX12_look 9 = .ok (.getfield 7, 3) := by decide +kernel
theorem dX12_look_12 : decode cX12_look 12 = .ok (.iload_n 1, 1) := by decide +kernel
theorem dX12_look_13 : decode cX12_look 13 = .ok (.iaload, 1) := by decide +kernel
theorem dX12_look_14 : decode cX12_look 14 = .ok (.goto 4, 3) := by decide +kernel
theorem dX12_look_17 : decode cX12_look 17 = .ok (.iconst (-1), 1) := by decide +kernel
theorem dX12_look_18 : decode cX12_look 18 = .ok (.ireturn, 1) := by decide +kernel
theorem dX12_isSmall_0 : decode cX12_isSmall 0 = .ok (.iload_n 0, 1) := by decide +kernel
theorem dX12_isSmall_1 : decode cX12_isSmall 1 = .ok (.bipush 97, 2) := by decide +kernel
theorem dX12_isSmall_3 : decode cX12_isSmall 3 = .ok (.if_icmp .lt 13, 3) := by decide +kernel
theorem dX12_isSmall_6 : decode cX12_isSmall 6 = .ok (.iload_n 0, 1) := by decide +kernel
theorem dX12_isSmall_7 : decode cX12_isSmall 7 = .ok (.bipush 122, 2) := by decide +kernel
theorem dX12_isSmall_9 : decode cX12_isSmall 9 = .ok (.if_icmp .gt 7, 3) := by decide +kernel
theorem dX12_isSmall_12 : decode cX12_isSmall 12 = .ok (.iconst 1, 1) := by decide +kernel
theorem dX12_isSmall_13 : decode cX12_isSmall 13 = .ok (.goto 4, 3) := by decide +kernel
theorem dX12_isSmall_16 : decode cX12_isSmall 16 = .ok (.iconst 0, 1) := by decide +kernel
theorem dX12_isSmall_17 : decode cX12_isSmall 17 = .ok (.ireturn, 1) := by decide +kernel
theorem dX12_isDigit_0 : decode cX12_isDigit 0 = .ok (.iload_n 0, 1) := by decide +kernel
theorem dX12_isDigit_1 : decode cX12_isDigit 1 = .ok (.bipush 48, 2) := by decide +kernel
theorem dX12_isDigit_3 : decode cX12_isDigit 3 = .ok (.if_icmp .lt 13, 3) := by decide +kernel
theorem dX12_isDigit_6 : decode cX12_isDigit 6 = .ok (.iload_n 0, 1) := by decide +kernel
theorem dX12_isDigit_7 : decode cX12_isDigit 7 = .ok (.bipush 57, 2) := by decide +kernel
theorem dX12_isDigit_9 : decode cX12_isDigit 9 = .ok (.if_icmp .gt 7, 3) := by decide +kernel
theorem dX12_isDigit_12 : decode cX12_isDigit 12 = .ok (.iconst 1, 1) := by decide +kernel
theorem dX12_isDigit_13 : decode cX12_isDigit 13 = .ok (.goto 4, 3) := by decide +kernel
theorem dX12_isDigit_16 : decode cX12_isDigit 16 = .ok (.iconst 0, 1) := by decide +kernel
theorem dX12_isDigit_17 : decode cX12_isDigit 17 = .ok (.ireturn, 1) := by decide +kernel
theorem dX12_next_0 : decode cX12_next 0 = .ok (.aload_n 0, 1) := by decide +kernel
theorem dX12_next_1 : decode cX12_next 1 = .ok (.getfield 74, 3) := by decide +kernel
theorem dX12_next_4 : decode cX12_next 4 = .ok (.istore_n 1, 1) := by decide +kernel
theorem dX12_next_5 : decode cX12_next 5 = .ok (.aload_n 0, 1) := by decide +kernel
theorem dX12_next_6 : decode cX12_next 6 = .ok (.iload_n 1, 1) := by decide +kernel
theorem dX12_next_7 : decode cX12_next 7 = .ok (.invokevirtual 77, 3) := by decide +kernel
theorem dX12_next_10 : decode cX12_next 10 = .ok (.bipush 32, 2) := by decide +kernel
theorem dX12_next_12 : decode cX12_next 12 = .ok (.if_icmp .ne 9, 3) := by decide +kernel
theorem dX12_next_15 : decode cX12_next 15 = .ok (.iinc 1 1, 3) := by decide +kernel
theorem dX12_next_18 : decode cX12_next 18 = .ok (.goto (-13), 3) := by decide +kernel
theorem dX12_next_21 : decode cX12_next 21 = .ok (.aload_n 0, 1) := by decide +kernel
theorem dX12_next_22 : decode cX12_next 22 = .ok (.iload_n 1, 1) := by decide +kernel
theorem dX12_next_23 : decode cX12_next 23 = .ok (.putfield 81, 3) := by decide +kernel
theorem dX12_next_26 : decode cX12_next 26 = .ok (.aload_n 0, 1) := by decide +kernel
theorem dX12_next_27 : decode cX12_next 27 = .ok (.iload_n 1, 1) := by decide +kernel
theorem dX12_next_28 : decode cX12_next 28 = .ok (.invokevirtual 77, 3) := by decide +kernel
theorem dX12_next_31 : decode cX12_next 31 = .ok (.istore_n 2, 1) := by decide +kernel
theorem dX12_next_32 : decode cX12_next 32 = .ok (.aload_n 0, 1) := by decide +kernel
theorem dX12_next_33 : decode cX12_next 33 = .ok (.iconst 0, 1) := by decide +kernel
theorem dX12_next_34 : decode cX12_next 34 = .ok (.putfield 84, 3) := by decide +kernel
theorem dX12_next_37 : decode cX12_next 37 = .ok (.aload_n 0, 1) := by decide +kernel
theorem dX12_next_38 : decode cX12_next 38 = .ok (.iconst 0, 1) := by decide +kernel
theorem dX12_next_39 : decode cX12_next 39 = .ok (.putfield 87, 3) := by decide +kernel
theorem dX12_next_42 : decode cX12_next 42 = .ok (.iload_n 2, 1) := by decide +kernel
theorem dX12_next_43 : decode cX12_next 43 = .ok (.iconst (-1), 1) := by decide +kernel
theorem dX12_next_44 : decode cX12_next 44 = .ok (.if_icmp .ne 16, 3) := by decide +kernel
theorem dX12_next_47 : decode cX12_next 47 = .ok (.aload_n 0, 1) := by decide +kernel
theorem dX12_next_48 : decode cX12_next 48 = .ok (.iconst 0, 1) := by decide +kernel
theorem dX12_next_49 : decode cX12_next 49 = .ok (.putfield 90, 3) := by decide +kernel
theorem dX12_next_52 : decode cX12_next 52 = .ok (.aload_n 0, 1) := by decide +kernel
theorem dX12_next_53 : decode cX12_next 53 = .ok (.iload_n 1, 1) := by decide +kernel
theorem dX12_next_54 : decode cX12_next 54 = .ok (.putfield 74, 3) := by decide +kernel
theorem dX12_next_57 : decode cX12_next 57 = .ok (.goto 184, 3) := by decide +kernel
theorem dX12_next_60 : decode cX12_next 60 = .ok (.iload_n 2, 1) := by decide +kernel
theorem dX12_next_61 : decode cX12_next 61 = .ok (.invokestatic 93, 3) := by decide +kernel
theorem dX12_next_64 : decode cX12_next 64 = .ok (.ifCond .eq 79, 3) := by decide +kernel
theorem dX12_next_67 : decode cX12_next 67 = .ok (.aload_n 0, 1) := by decide +kernel
theorem dX12_next_68 : decode cX12_next 68 = .ok (.iload_n 1, 1) := by decide +kernel
theorem dX12_next_69 : decode cX12_next 69 = .ok (.invokevirtual 77, 3) := by decide +kernel
theorem dX12_next_72 : decode cX12_next 72 = .ok (.invokestatic 93, 3) := by decide +kernel
theorem dX12_next_75 : decode cX12_next 75 = .ok (.ifCond .eq 42, 3) := by decide +kernel
theorem dX12_next_78 : decode cX12_next 78 = .ok (.aload_n 0, 1) := by decide +kernel
theorem dX12_next_79 : decode cX12_next 79 = .ok (.getfield 84, 3) := by decide +kernel
theorem dX12_next_82 : decode cX12_next 82 = .ok (.bipush 8, 2) := by decide +kernel
theorem dX12_next_84 : decode cX12_next 84 = .ok (.if_icmp .ge 17, 3) := by decide +kernel
theorem dX12_next_87 : decode cX12_next 87 = .ok (.aload_n 0, 1) := by decide +kernel
theorem dX12_next_88 : decode cX12_next 88 = .ok (.getfield 17, 3) := by decide +kernel
theorem dX12_next_91 : decode cX12_next 91 = .ok (.aload_n 0, 1) := by decide +kernel
theorem dX12_next_92 : decode cX12_next 92 = .ok (.getfield 84, 3) := by decide +kernel
theorem dX12_next_95 : decode cX12_next 95 = .ok (.aload_n 0, 1) := by decide +kernel
theorem dX12_next_96 : decode cX12_next 96 = .ok (.iload_n 1, 1) := by decide +kernel
theorem dX12_next_97 : decode cX12_next 97 = .ok (.invokevirtual 77, 3) := by decide +kernel
theorem dX12_next_100 : decode cX12_next 100 = .ok (.iastore, 1) := by decide +kernel
theorem dX12_next_101 : decode cX12_next 101 = .ok (.aload_n 0, 1) := by decide +kernel
theorem dX12_next_102 : decode cX12_next 102 = .ok (.dup, 1) := by decide +kernel
theorem dX12_next_103 : decode cX12_next 103 = .ok (.getfield 84, 3) := by decide +kernel
theorem dX12_next_106 : decode cX12_next 106 = .ok (.iconst 1, 1) := by decide +kernel
theorem dX12_next_107 : decode cX12_next 107 = .ok (.iadd, 1) := by decide +kernel
theorem dX12_next_108 : decode cX12_next 108 = .ok (.putfield 84, 3) := by decide +kernel
theorem dX12_next_111 : decode cX12_next 111 = .ok (.iinc 1 1, 3) := by decide +kernel
theorem dX12_next_114 : decode cX12_next 114 = .ok (.goto (-47), 3) := by decide +kernel
theorem dX12_next_117 : decode cX12_next 117 = .ok (.aload_n 0, 1) := by decide +kernel
theorem dX12_next_118 : decode cX12_next 118 = .ok (.iload_n 1, 1) := by decide +kernel
theorem dX12_next_119 : decode cX12_next 119 = .ok (.putfield 74, 3) := by decide +kernel
theorem dX12_next_122 : decode cX12_next 122 = .ok (.aload_n 0, 1) := by decide +kernel
theorem dX12_next_123 : decode cX12_next 123 = .ok (.aload_n 0, 1) := by decide +kernel
theorem dX12_next_124 : decode cX12_next 124 = .ok (.getfield 84, 3) := by decide +kernel
theorem dX12_next_127 : decode cX12_next 127 = .ok (.bipush 8, 2) := by decide +kernel
theorem dX12_next_129 : decode cX12_next 129 = .ok (.if_icmp .le 7, 3) := by decide +kernel
theorem dX12_next_132 : decode cX12_next 132 = .ok (.iconst 1, 1) := by decide +kernel
theorem dX12_next_133 : decode cX12_next 133 = .ok (.goto 4, 3) := by decide +kernel
theorem dX12_next_136 : decode cX12_next 136 = .ok (.iconst 2, 1) := by decide +kernel
theorem dX12_next_137 : decode cX12_next 137 = .ok (.putfield 90, 3) := by decide +kernel
theorem dX12_next_140 : decode cX12_next 140 = .ok (.goto 101, 3) := by decide +kernel
theorem dX12_next_143 : decode cX12_next 143 = .ok (.iload_n 2, 1) := by decide +kernel
theorem dX12_next_144 : decode cX12_next 144 = .ok (.invokestatic 97, 3) := by decide +kernel
theorem dX12_next_147 : decode cX12_next 147 = .ok (.ifCond .eq 72, 3) := by decide +kernel
theorem dX12_next_150 : decode cX12_next 150 = .ok (.iconst 0, 1) := by decide +kernel
theorem dX12_next_151 : decode cX12_next 151 = .ok (.istore_n 3, 1) := by decide +kernel
theorem dX12_next_152 : decode cX12_next 152 = .ok (.aload_n 0, 1) := by decide +kernel
theorem dX12_next_153 : decode cX12_next 153 = .ok (.iload_n 1, 1) := by decide +kernel
theorem dX12_next_154 : decode cX12_next 154 = .ok (.invokevirtual 77, 3) := by decide +kernel
theorem dX12_next_157 : decode cX12_next 157 = .ok (.invokestatic 97, 3) := by decide +kernel
theorem dX12_next_160 : decode cX12_next 160 = .ok (.ifCond .eq 37, 3) := by decide +kernel
theorem dX12_next_163 : decode cX12_next 163 = .ok (.iload_n 3, 1) := by decide +kernel
theorem dX12_next_164 : decode cX12_next 164 = .ok (.iconst 4, 1) := by decide +kernel
theorem dX12_next_165 : decode cX12_next 165 = .ok (.if_icmp .ge 23, 3) := by decide +kernel
theorem dX12_next_168 : decode cX12_next 168 = .ok (.aload_n 0, 1) := by decide +kernel
theorem dX12_next_169 : decode cX12_next 169 = .ok (.bipush 10, 2) := by decide +kernel
theorem dX12_next_171 : decode cX12_next 171 = .ok (.aload_n 0, 1) := by decide +kernel
theorem dX12_next_172 : decode cX12_next 172 = .ok (.getfield 87, 3) := by decide +kernel
theorem dX12_next_175 : decode cX12_next 175 = .ok (.imul, 1) := by decide +kernel
theorem dX12_next_176 : decode cX12_next 176 = .ok (.aload_n 0, 1) := by decide +kernel
theorem dX12_next_177 : decode cX12_next 177 = .ok (.iload_n 1, 1) := by decide +kernel
theorem dX12_next_178 : decode cX12_next 178 = .ok (.invokevirtual 77, 3) := by decide +kernel
theorem dX12_next_181 : decode cX12_next 181 = .ok (.iadd, 1) := by decide +kernel
theorem dX12_next_182 : decode cX12_next 182 = .ok (.bipush 48, 2) := by decide +kernel
theorem dX12_next_184 : decode cX12_next 184 = .ok (.isub, 1) := by decide +kernel
theorem dX12_next_185 : decode cX12_next 185 = .ok (.putfield 87, 3) := by decide +kernel
theorem dX12_next_188 : decode cX12_next 188 = .ok (.iinc 3 1, 3) := by decide +kernel
theorem dX12_next_191 : decode cX12_next 191 = .ok (.iinc 1 1, 3) := by decide +kernel
theorem dX12_next_194 : decode cX12_next 194 = .ok (.goto (-42), 3) := by decide +kernel
theorem dX12_next_197 : decode cX12_next 197 = .ok (.aload_n 0, 1) := by decide +kernel
theorem dX12_next_198 : decode cX12_next 198 = .ok (.iload_n 1, 1) := by decide +kernel
theorem dX12_next_199 : decode cX12_next 199 = .ok (.putfield 74, 3) := by decide +kernel
theorem dX12_next_202 : decode cX12_next 202 = .ok (.aload_n 0, 1) := by decide +kernel
theorem dX12_next_203 : decode cX12_next 203 = .ok (.iload_n 3, 1) := by decide +kernel
theorem dX12_next_204 : decode cX12_next 204 = .ok (.iconst 4, 1) := by decide +kernel
theorem dX12_next_205 : decode cX12_next 205 = .ok (.if_icmp .le 7, 3) := by decide +kernel
theorem dX12_next_208 : decode cX12_next 208 = .ok (.iconst 1, 1) := by decide +kernel
theorem dX12_next_209 : decode cX12_next 209 = .ok (.goto 4, 3) := by decide +kernel
theorem dX12_next_212 : decode cX12_next 212 = .ok (.iconst 3, 1) := by decide +kernel
theorem dX12_next_213 : decode cX12_next 213 = .ok (.putfield 90, 3) := by decide +kernel
theorem dX12_next_216 : decode cX12_next 216 = .ok (.goto 25, 3) := by decide +kernel
theorem dX12_next_219 : decode cX12_next 219 = .ok (.aload_n 0, 1) := by decide +kernel
theorem dX12_next_220 : decode cX12_next 220 = .ok (.iload_n 1, 1) := by decide +kernel
theorem dX12_next_221 : decode cX12_next 221 = .ok (.iconst 1, 1) := by decide +kernel
theorem dX12_next_222 : decode cX12_next 222 = .ok (.iadd, 1) := by decide +kernel
theorem dX12_next_223 : decode cX12_next 223 = .ok (.putfield 74, 3) := by decide +kernel
theorem dX12_next_226 : decode cX12_next 226 = .ok (.aload_n 0, 1) := by decide +kernel
theorem dX12_next_227 : decode cX12_next 227 = .ok (.iload_n 2, 1) := by decide +kernel
theorem dX12_next_228 : decode cX12_next 228 = .ok (.bipush 59, 2) := by decide +kernel
theorem dX12_next_230 : decode cX12_next 230 = .ok (.if_icmp .ne 7, 3) := by decide +kernel
theorem dX12_next_233 : decode cX12_next 233 = .ok (.iload_n 2, 1) := by decide +kernel
theorem dX12_next_234 : decode cX12_next 234 = .ok (.goto 4, 3) := by decide +kernel
theorem dX12_next_237 : decode cX12_next 237 = .ok (.iconst 1, 1) := by decide +kernel
theorem dX12_next_238 : decode cX12_next 238 = .ok (.putfield 90, 3) := by decide +kernel
theorem dX12_next_241 : decode cX12_next 241 = .ok (.return_, 1) := by decide +kernel
theorem dX12_wrong_0 : decode cX12_wrong 0 = .ok (.aload_n 0, 1) := by decide +kernel
theorem dX12_wrong_1 : decode cX12_wrong 1 = .ok (.getfield 100, 3) := by decide +kernel
theorem dX12_wrong_4 : decode cX12_wrong 4 = .ok (.ifCond .eq 4, 3) := by decide +kernel
theorem dX12_wrong_7 : decode cX12_wrong 7 = .ok (.return_, 1) := by decide +kernel
theorem dX12_wrong_8 : decode cX12_wrong 8 = .ok (.aload_n 0, 1) := by decide +kernel
theorem dX12_wrong_9 : decode cX12_wrong 9 = .ok (.iconst 1, 1) := by decide +kernel
theorem dX12_wrong_10 : decode cX12_wrong 10 = .ok (.putfield 100, 3) := by decide +kernel
theorem dX12_wrong_13 : decode cX12_wrong 13 = .ok (.aload_n 0, 1) := by decide +kernel
theorem dX12_wrong_14 : decode cX12_wrong 14 = .ok (.iload_n 1, 1) := by decide +kernel
theorem dX12_wrong_15 : decode cX12_wrong 15 = .ok (.putfield 104, 3) := by decide +kernel
theorem dX12_wrong_18 : decode cX12_wrong 18 = .ok (.aload_n 0, 1) := by decide +kernel
theorem dX12_wrong_19 : decode cX12_wrong 19 = .ok (.iload_n 2, 1) := by decide +kernel
theorem dX12_wrong_20 : decode cX12_wrong 20 = .ok (.putfield 13, 3) := by decide +kernel
theorem dX12_wrong_23 : decode cX12_wrong 23 = .ok (.return_, 1) := by decide +kernel
theorem dX12_isWord_0 : decode cX12_isWord 0 = .ok (.aload_n 0, 1) := by decide +kernel
theorem dX12_isWord_1 : decode cX12_isWord 1 = .ok (.getfield 100, 3) := by decide +kernel
theorem dX12_isWord_4 : decode cX12_isWord 4 = .ok (.ifCond .ne 22, 3) := by decide +kernel
theorem dX12_isWord_7 : decode cX12_isWord 7 = .ok (.aload_n 0, 1) := by decide +kernel
theorem dX12_isWord_8 : decode cX12_isWord 8 = .ok (.getfield 90, 3) := by decide +kernel
theorem dX12_isWord_11 : decode cX12_isWord 11 = .ok (.iconst 2, 1) := by decide +kernel
theorem dX12_isWord_12 : decode cX12_isWord 12 = .ok (.if_icmp .ne 14, 3) := by decide +kernel
theorem dX12_isWord_15 : decode cX12_isWord 15 = .ok (.aload_n 0, 1) := by decide +kernel
theorem dX12_isWord_16 : decode cX12_isWord 16 = .ok (.getfield 84, 3) := by decide +kernel
theorem dX12_isWord_19 : decode cX12_isWord 19 = .ok (.aload_n 1, 1) := by decide +kernel
theorem dX12_isWord_20 : decode cX12_isWord 20 = .ok (.invokevirtual 107, 3) := by decide +kernel
theorem dX12_isWord_23 : decode cX12_isWord 23 = .ok (.if_icmp .eq 5, 3) := by decide +kernel
theorem dX12_isWord_26 : decode cX12_isWord 26 = .ok (.iconst 0, 1) := by decide +kernel
theorem dX12_isWord_27 : decode cX12_isWord 27 = .ok (.ireturn, 1) := by decide +kernel
theorem dX12_isWord_28 : decode cX12_isWord 28 = .ok (.iconst 1, 1) := by decide +kernel
theorem dX12_isWord_29 : decode cX12_isWord 29 = .ok (.istore_n 2, 1) := by decide +kernel
theorem dX12_isWord_30 : decode cX12_isWord 30 = .ok (.iconst 0, 1) := by decide +kernel
theorem dX12_isWord_31 : decode cX12_isWord 31 = .ok (.istore_n 3, 1) := by decide +kernel
theorem dX12_isWord_32 : decode cX12_isWord 32 = .ok (.iload_n 3, 1) := by decide +kernel
theorem dX12_isWord_33 : decode cX12_isWord 33 = .ok (.aload_n 0, 1) := by decide +kernel
theorem dX12_isWord_34 : decode cX12_isWord 34 = .ok (.getfield 84, 3) := by decide +kernel
theorem dX12_isWord_37 : decode cX12_isWord 37 = .ok (.if_icmp .ge 33, 3) := by decide +kernel
theorem dX12_isWord_40 : decode cX12_isWord 40 = .ok (.iload_n 2, 1) := by decide +kernel
theorem dX12_isWord_41 : decode cX12_isWord 41 = .ok (.ifCond .eq 21, 3) := by decide +kernel
theorem dX12_isWord_44 : decode cX12_isWord 44 = .ok (.aload_n 0, 1) := by decide +kernel
theorem dX12_isWord_45 : decode cX12_isWord 45 = .ok (.getfield 17, 3) := by decide +kernel
theorem dX12_isWord_48 : decode cX12_isWord 48 = .ok (.iload_n 3, 1) := by decide +kernel
theorem dX12_isWord_49 : decode cX12_isWord 49 = .ok (.iaload, 1) := by decide +kernel
theorem dX12_isWord_50 : decode cX12_isWord 50 = .ok (.aload_n 1, 1) := by decide +kernel
theorem dX12_isWord_51 : decode cX12_isWord 51 = .ok (.iload_n 3, 1) := by decide +kernel
theorem dX12_isWord_52 : decode cX12_isWord 52 = .ok (.invokevirtual 113, 3) := by decide +kernel
theorem dX12_isWord_55 : decode cX12_isWord 55 = .ok (.if_icmp .ne 7, 3) := by decide +kernel
theorem dX12_isWord_58 : decode cX12_isWord 58 = .ok (.iconst 1, 1) := by decide +kernel
theorem dX12_isWord_59 : decode cX12_isWord 59 = .ok (.goto 4, 3) := by decide +kernel
theorem dX12_isWord_62 : decode cX12_isWord 62 = .ok (.iconst 0, 1) := by decide +kernel
theorem dX12_isWord_63 : decode cX12_isWord 63 = .ok (.istore_n 2, 1) := by decide +kernel
theorem dX12_isWord_64 : decode cX12_isWord 64 = .ok (.iinc 3 1, 3) := by decide +kernel
theorem dX12_isWord_67 : decode cX12_isWord 67 = .ok (.goto (-35), 3) := by decide +kernel
theorem dX12_isWord_70 : decode cX12_isWord 70 = .ok (.iload_n 2, 1) := by decide +kernel
theorem dX12_isWord_71 : decode cX12_isWord 71 = .ok (.ireturn, 1) := by decide +kernel
theorem dX12_takesWord_0 : decode cX12_takesWord 0 = .ok (.aload_n 0, 1) := by decide +kernel
theorem dX12_takesWord_1 : decode cX12_takesWord 1 = .ok (.aload_n 1, 1) := by decide +kernel
theorem dX12_takesWord_2 : decode cX12_takesWord 2 = .ok (.invokevirtual 117, 3) := by decide +kernel
theorem dX12_takesWord_5 : decode cX12_takesWord 5 = .ok (.ifCond .ne 5, 3) := by decide +kernel
theorem dX12_takesWord_8 : decode cX12_takesWord 8 = .ok (.iconst 0, 1) := by decide +kernel
theorem dX12_takesWord_9 : decode cX12_takesWord 9 = .ok (.ireturn, 1) := by decide +kernel
theorem dX12_takesWord_10 : decode cX12_takesWord 10 = .ok (.aload_n 0, 1) := by decide +kernel
theorem dX12_takesWord_11 : decode cX12_takesWord 11 = .ok (.invokevirtual 121, 3) := by decide +kernel
theorem dX12_takesWord_14 : decode cX12_takesWord 14 = .ok (.iconst 1, 1) := by decide +kernel
theorem dX12_takesWord_15 : decode cX12_takesWord 15 = .ok (.ireturn, 1) := by decide +kernel
theorem dX12_must_0 : decode cX12_must 0 = .ok (.aload_n 0, 1) := by decide +kernel
theorem dX12_must_1 : decode cX12_must 1 = .ok (.getfield 100, 3) := by decide +kernel
theorem dX12_must_4 : decode cX12_must 4 = .ok (.ifCond .ne 20, 3) := by decide +kernel
theorem dX12_must_7 : decode cX12_must 7 = .ok (.aload_n 0, 1) := by decide +kernel
theorem dX12_must_8 : decode cX12_must 8 = .ok (.aload_n 1, 1) := by decide +kernel
theorem dX12_must_9 : decode cX12_must 9 = .ok (.invokevirtual 124, 3) := by decide +kernel
theorem dX12_must_12 : decode cX12_must 12 = .ok (.ifCond .ne 12, 3) := by decide +kernel
theorem dX12_must_15 : decode cX12_must 15 = .ok (.aload_n 0, 1) := by decide +kernel
theorem dX12_must_16 : decode cX12_must 16 = .ok (.iconst 1, 1) := by decide +kernel
theorem dX12_must_17 : decode cX12_must 17 = .ok (.aload_n 0, 1) := by decide +kernel
theorem dX12_must_18 : decode cX12_must 18 = .ok (.getfield 81, 3) := by decide +kernel
theorem dX12_must_21 : decode cX12_must 21 = .ok (.invokevirtual 127, 3) := by decide +kernel
theorem dX12_must_24 : decode cX12_must 24 = .ok (.return_, 1) := by decide +kernel
theorem dX12_mustName_0 : decode cX12_mustName 0 = .ok (.aload_n 0, 1) := by decide +kernel
theorem dX12_mustName_1 : decode cX12_mustName 1 = .ok (.getfield 90, 3) := by decide +kernel
theorem dX12_mustName_4 : decode cX12_mustName 4 = .ok (.iconst 2, 1) := by decide +kernel
theorem dX12_mustName_5 : decode cX12_mustName 5 = .ok (.if_icmp .ne 57, 3) := by decide +kernel
theorem dX12_mustName_8 : decode cX12_mustName 8 = .ok (.aload_n 0, 1) := by decide +kernel
theorem dX12_mustName_9 : decode cX12_mustName 9 = .ok (.ldc 131, 2) := by decide +kernel
theorem dX12_mustName_11 : decode cX12_mustName 11 = .ok (.invokevirtual 117, 3) := by decide +kernel
theorem dX12_mustName_14 : decode cX12_mustName 14 = .ok (.ifCond .ne 48, 3) := by decide +kernel
theorem dX12_mustName_17 : decode cX12_mustName 17 = .ok (.aload_n 0, 1) := by decide +kernel
theorem dX12_mustName_18 : decode cX12_mustName 18 = .ok (.ldc 133, 2) := by decide +kernel
theorem dX12_mustName_20 : decode cX12_mustName 20 = .ok (.invokevirtual 117, 3) := by decide +kernel
theorem dX12_mustName_23 : decode cX12_mustName 23 = .ok (.ifCond .ne 39, 3) := by decide +kernel
theorem dX12_mustName_26 : decode cX12_mustName 26 = .ok (.aload_n 0, 1) := by decide +kernel
theorem dX12_mustName_27 : decode cX12_mustName 27 = .ok (.ldc 135, 2) := by decide +kernel
theorem dX12_mustName_29 : decode cX12_mustName 29 = .ok (.invokevirtual 117, 3) := by decide +kernel
theorem dX12_mustName_32 : decode cX12_mustName 32 = .ok (.ifCond .ne 30, 3) := by decide +kernel
theorem dX12_mustName_35 : decode cX12_mustName 35 = .ok (.aload_n 0, 1) := by decide +kernel
theorem dX12_mustName_36 : decode cX12_mustName 36 = .ok (.ldc 137, 2) := by decide +kernel
theorem dX12_mustName_38 : decode cX12_mustName 38 = .ok (.invokevirtual 117, 3) := by decide +kernel
theorem dX12_mustName_41 : decode cX12_mustName 41 = .ok (.ifCond .ne 21, 3) := by decide +kernel
theorem dX12_mustName_44 : decode cX12_mustName 44 = .ok (.aload_n 0, 1) := by decide +kernel
theorem dX12_mustName_45 : decode cX12_mustName 45 = .ok (.ldc 139, 2) := by decide +kernel
theorem dX12_mustName_47 : decode cX12_mustName 47 = .ok (.invokevirtual 117, 3) := by decide +kernel
theorem dX12_mustName_50 : decode cX12_mustName 50 = .ok (.ifCond .ne 12, 3) := by decide +kernel
theorem dX12_mustName_53 : decode cX12_mustName 53 = .ok (.aload_n 0, 1) := by decide +kernel
theorem dX12_mustName_54 : decode cX12_mustName 54 = .ok (.ldc 141, 2) := by decide +kernel
theorem dX12_mustName_56 : decode cX12_mustName 56 = .ok (.invokevirtual 117, 3) := by decide +kernel
theorem dX12_mustName_59 : decode cX12_mustName 59 = .ok (.ifCond .eq 12, 3) := by decide +kernel
theorem dX12_mustName_62 : decode cX12_mustName 62 = .ok (.aload_n 0, 1) := by decide +kernel
theorem dX12_mustName_63 : decode cX12_mustName 63 = .ok (.iconst 1, 1) := by decide +kernel
theorem dX12_mustName_64 : decode cX12_mustName 64 = .ok (.aload_n 0, 1) := by decide +kernel
theorem dX12_mustName_65 : decode cX12_mustName 65 = .ok (.getfield 81, 3) := by decide +kernel
theorem dX12_mustName_68 : decode cX12_mustName 68 = .ok (.invokevirtual 127, 3) := by decide +kernel
theorem dX12_mustName_71 : decode cX12_mustName 71 = .ok (.return_, 1) := by decide +kernel
theorem dX12_find_0 : decode cX12_find 0 = .ok (.iconst 0, 1) := by decide +kernel
theorem dX12_find_1 : decode cX12_find 1 = .ok (.istore_n 1, 1) := by decide +kernel
theorem dX12_find_2 : decode cX12_find 2 = .ok (.iload_n 1, 1) := by decide +kernel
theorem dX12_find_3 : decode cX12_find 3 = .ok (.bipush 20, 2) := by decide +kernel
theorem dX12_find_5 : decode cX12_find 5 = .ok (.if_icmp .ge 101, 3) := by decide +kernel
theorem dX12_find_8 : decode cX12_find 8 = .ok (.aload_n 0, 1) := by decide +kernel
theorem dX12_find_9 : decode cX12_find 9 = .ok (.getfield 23, 3) := by decide +kernel
theorem dX12_find_12 : decode cX12_find 12 = .ok (.sipush 183, 3) := by decide +kernel
theorem dX12_find_15 : decode cX12_find 15 = .ok (.iload_n 1, 1) := by decide +kernel
theorem dX12_find_16 : decode cX12_find 16 = .ok (.iadd, 1) := by decide +kernel
theorem dX12_find_17 : decode cX12_find 17 = .ok (.iaload, 1) := by decide +kernel
theorem dX12_find_18 : decode cX12_find 18 = .ok (.ifCond .le 24, 3) := by decide +kernel
theorem dX12_find_21 : decode cX12_find 21 = .ok (.aload_n 0, 1) := by decide +kernel
theorem dX12_find_22 : decode cX12_find 22 = .ok (.getfield 23, 3) := by decide +kernel
theorem dX12_find_25 : decode cX12_find 25 = .ok (.sipush 183, 3) := by decide +kernel
theorem dX12_find_28 : decode cX12_find 28 = .ok (.iload_n 1, 1) := by decide +kernel
theorem dX12_find_29 : decode cX12_find 29 = .ok (.iadd, 1) := by decide +kernel
theorem dX12_find_30 : decode cX12_find 30 = .ok (.iaload, 1) := by decide +kernel
theorem dX12_find_31 : decode cX12_find 31 = .ok (.aload_n 0, 1) := by decide +kernel
theorem dX12_find_32 : decode cX12_find 32 = .ok (.getfield 84, 3) := by decide +kernel
theorem dX12_find_35 : decode cX12_find 35 = .ok (.if_icmp .ne 7, 3) := by decide +kernel
theorem dX12_find_38 : decode cX12_find 38 = .ok (.iconst 1, 1) := by decide +kernel
theorem dX12_find_39 : decode cX12_find 39 = .ok (.goto 4, 3) := by decide +kernel
theorem dX12_find_42 : decode cX12_find 42 = .ok (.iconst 0, 1) := by decide +kernel
theorem dX12_find_43 : decode cX12_find 43 = .ok (.istore_n 2, 1) := by decide +kernel
theorem dX12_find_44 : decode cX12_find 44 = .ok (.iconst 0, 1) := by decide +kernel
theorem dX12_find_45 : decode cX12_find 45 = .ok (.istore_n 3, 1) := by decide +kernel
theorem dX12_find_46 : decode cX12_find 46 = .ok (.iload_n 3, 1) := by decide +kernel
theorem dX12_find_47 : decode cX12_find 47 = .ok (.aload_n 0, 1) := by decide +kernel
theorem dX12_find_48 : decode cX12_find 48 = .ok (.getfield 84, 3) := by decide +kernel
theorem dX12_find_51 : decode cX12_find 51 = .ok (.if_icmp .ge 43, 3) := by decide +kernel
theorem dX12_find_54 : decode cX12_find 54 = .ok (.iload_n 2, 1) := by decide +kernel
theorem dX12_find_55 : decode cX12_find 55 = .ok (.ifCond .eq 39, 3) := by decide +kernel
theorem dX12_find_58 : decode cX12_find 58 = .ok (.aload_n 0, 1) := by decide +kernel
theorem dX12_find_59 : decode cX12_find 59 = .ok (.getfield 23, 3) := by decide +kernel
theorem dX12_find_62 : decode cX12_find 62 = .ok (.sipush 203, 3) := by decide +kernel
theorem dX12_find_65 : decode cX12_find 65 = .ok (.bipush 8, 2) := by decide +kernel
theorem dX12_find_67 : decode cX12_find 67 = .ok (.iload_n 1, 1) := by decide +kernel
theorem dX12_find_68 : decode cX12_find 68 = .ok (.imul, 1) := by decide +kernel
theorem dX12_find_69 : decode cX12_find 69 = .ok (.iadd, 1) := by decide +kernel
theorem dX12_find_70 : decode cX12_find 70 = .ok (.iload_n 3, 1) := by decide +kernel
theorem dX12_find_71 : decode cX12_find 71 = .ok (.iadd, 1) := by decide +kernel
theorem dX12_find_72 : decode cX12_find 72 = .ok (.iaload, 1) := by decide +kernel
theorem dX12_find_73 : decode cX12_find 73 = .ok (.aload_n 0, 1) := by decide +kernel
theorem dX12_find_74 : decode cX12_find 74 = .ok (.getfield 17, 3) := by decide +kernel
theorem dX12_find_77 : decode cX12_find 77 = .ok (.iload_n 3, 1) := by decide +kernel
theorem dX12_find_78 : decode cX12_find 78 = .ok (.iaload, 1) := by decide +kernel
theorem dX12_find_79 : decode cX12_find 79 = .ok (.if_icmp .ne 7, 3) := by decide +kernel
theorem dX12_find_82 : decode cX12_find 82 = .ok (.iconst 1, 1) := by decide +kernel
theorem dX12_find_83 : decode cX12_find 83 = .ok (.goto 4, 3) := by decide +kernel
theorem dX12_find_86 : decode cX12_find 86 = .ok (.iconst 0, 1) := by decide +kernel
theorem dX12_find_87 : decode cX12_find 87 = .ok (.istore_n 2, 1) := by decide +kernel
theorem dX12_find_88 : decode cX12_find 88 = .ok (.iinc 3 1, 3) := by decide +kernel
theorem dX12_find_91 : decode cX12_find 91 = .ok (.goto (-45), 3) := by decide +kernel
theorem dX12_find_94 : decode cX12_find 94 = .ok (.iload_n 2, 1) := by decide +kernel
theorem dX12_find_95 : decode cX12_find 95 = .ok (.ifCond .eq 5, 3) := by decide +kernel
theorem dX12_find_98 : decode cX12_find 98 = .ok (.iload_n 1, 1) := by decide +kernel
theorem dX12_find_99 : decode cX12_find 99 = .ok (.ireturn, 1) := by decide +kernel
theorem dX12_find_100 : decode cX12_find 100 = .ok (.iinc 1 1, 3) := by decide +kernel
theorem dX12_find_103 : decode cX12_find 103 = .ok (.goto (-101), 3) := by decide +kernel
theorem dX12_find_106 : decode cX12_find 106 = .ok (.iconst (-1), 1) := by decide +kernel
theorem dX12_find_107 : decode cX12_find 107 = .ok (.ireturn, 1) := by decide +kernel
theorem dX12_newName_0 : decode cX12_newName 0 = .ok (.aload_n 0, 1) := by decide +kernel
theorem dX12_newName_1 : decode cX12_newName 1 = .ok (.getfield 100, 3) := by decide +kernel
theorem dX12_newName_4 : decode cX12_newName 4 = .ok (.ifCond .eq 4, 3) := by decide +kernel
theorem dX12_newName_7 : decode cX12_newName 7 = .ok (.return_, 1) := by decide +kernel
theorem dX12_newName_8 : decode cX12_newName 8 = .ok (.aload_n 0, 1) := by decide +kernel
theorem dX12_newName_9 : decode cX12_newName 9 = .ok (.invokevirtual 143, 3) := by decide +kernel
theorem dX12_newName_12 : decode cX12_newName 12 = .ok (.aload_n 0, 1) := by decide +kernel
theorem dX12_newName_13 : decode cX12_newName 13 = .ok (.getfield 100, 3) := by decide +kernel
theorem dX12_newName_16 : decode cX12_newName 16 = .ok (.ifCond .ne 19, 3) := by decide +kernel
theorem dX12_newName_19 : decode cX12_newName 19 = .ok (.aload_n 0, 1) := by decide +kernel
theorem dX12_newName_20 : decode cX12_newName 20 = .ok (.invokevirtual 146, 3) := by decide +kernel
theorem dX12_newName_23 : decode cX12_newName 23 = .ok (.ifCond .lt 12, 3) := by decide +kernel
theorem dX12_newName_26 : decode cX12_newName 26 = .ok (.aload_n 0, 1) := by decide +kernel
theorem dX12_newName_27 : decode cX12_newName 27 = .ok (.iconst 3, 1) := by decide +kernel
theorem dX12_newName_28 : decode cX12_newName 28 = .ok (.aload_n 0, 1) := by decide +kernel
theorem dX12_newName_29 : decode cX12_newName 29 = .ok (.getfield 81, 3) := by decide +kernel
theorem dX12_newName_32 : decode cX12_newName 32 = .ok (.invokevirtual 127, 3) := by decide +kernel
theorem dX12_newName_35 : decode cX12_newName 35 = .ok (.aload_n 0, 1) := by decide +kernel
theorem dX12_newName_36 : decode cX12_newName 36 = .ok (.getfield 100, 3) := by decide +kernel
theorem dX12_newName_39 : decode cX12_newName 39 = .ok (.ifCond .eq 4, 3) := by decide +kernel
theorem dX12_newName_42 : decode cX12_newName 42 = .ok (.return_, 1) := by decide +kernel
theorem dX12_newName_43 : decode cX12_newName 43 = .ok (.iconst 0, 1) := by decide +kernel
theorem dX12_newName_44 : decode cX12_newName 44 = .ok (.istore_n 2, 1) := by decide +kernel
theorem dX12_newName_45 : decode cX12_newName 45 = .ok (.iload_n 2, 1) := by decide +kernel
theorem dX12_newName_46 : decode cX12_newName 46 = .ok (.aload_n 0, 1) := by decide +kernel
theorem dX12_newName_47 : decode cX12_newName 47 = .ok (.getfield 84, 3) := by decide +kernel
theorem dX12_newName_50 : decode cX12_newName 50 = .ok (.if_icmp .ge 30, 3) := by decide +kernel
theorem dX12_newName_53 : decode cX12_newName 53 = .ok (.aload_n 0, 1) := by decide +kernel
theorem dX12_newName_54 : decode cX12_newName 54 = .ok (.getfield 23, 3) := by decide +kernel
theorem dX12_newName_57 : decode cX12_newName 57 = .ok (.sipush 203, 3) := by decide +kernel
theorem dX12_newName_60 : decode cX12_newName 60 = .ok (.bipush 8, 2) := by decide +kernel
theorem dX12_newName_62 : decode cX12_newName 62 = .ok (.iload_n 1, 1) := by decide +kernel
theorem dX12_newName_63 : decode cX12_newName 63 = .ok (.imul, 1) := by decide +kernel
theorem dX12_newName_64 : decode cX12_newName 64 = .ok (.iadd, 1) := by decide +kernel
theorem dX12_newName_65 : decode cX12_newName 65 = .ok (.iload_n 2, 1) := by decide +kernel
theorem dX12_newName_66 : decode cX12_newName 66 = .ok (.iadd, 1) := by decide +kernel
theorem dX12_newName_67 : decode cX12_newName 67 = .ok (.aload_n 0, 1) := by decide +kernel
theorem dX12_newName_68 : decode cX12_newName 68 = .ok (.getfield 17, 3) := by decide +kernel
theorem dX12_newName_71 : decode cX12_newName 71 = .ok (.iload_n 2, 1) := by decide +kernel
theorem dX12_newName_72 : decode cX12_newName 72 = .ok (.iaload, 1) := by decide +kernel
theorem dX12_newName_73 : decode cX12_newName 73 = .ok (.iastore, 1) := by decide +kernel
theorem dX12_newName_74 : decode cX12_newName 74 = .ok (.iinc 2 1, 3) := by decide +kernel
theorem dX12_newName_77 : decode cX12_newName 77 = .ok (.goto (-32), 3) := by decide +kernel
theorem dX12_newName_80 : decode cX12_newName 80 = .ok (.aload_n 0, 1) := by decide +kernel
theorem dX12_newName_81 : decode cX12_newName 81 = .ok (.getfield 23, 3) := by decide +kernel
theorem dX12_newName_84 : decode cX12_newName 84 = .ok (.sipush 183, 3) := by decide +kernel
theorem dX12_newName_87 : decode cX12_newName 87 = .ok (.iload_n 1, 1) := by decide +kernel
theorem dX12_newName_88 : decode cX12_newName 88 = .ok (.iadd, 1) := by decide +kernel
theorem dX12_newName_89 : decode cX12_newName 89 = .ok (.aload_n 0, 1) := by decide +kernel
theorem dX12_newName_90 : decode cX12_newName 90 = .ok (.getfield 84, 3) := by decide +kernel
theorem dX12_newName_93 : decode cX12_newName 93 = .ok (.iastore, 1) := by decide +kernel
theorem dX12_newName_94 : decode cX12_newName 94 = .ok (.aload_n 0, 1) := by decide +kernel
theorem dX12_newName_95 : decode cX12_newName 95 = .ok (.invokevirtual 121, 3) := by decide +kernel
theorem dX12_newName_98 : decode cX12_newName 98 = .ok (.return_, 1) := by decide +kernel
theorem dX12_named_0 : decode cX12_named 0 = .ok (.aload_n 0, 1) := by decide +kernel
theorem dX12_named_1 : decode cX12_named 1 = .ok (.getfield 100, 3) := by decide +kernel
theorem dX12_named_4 : decode cX12_named 4 = .ok (.ifCond .eq 5, 3) := by decide +kernel
theorem dX12_named_7 : decode cX12_named 7 = .ok (.iconst 0, 1) := by decide +kernel
theorem dX12_named_8 : decode cX12_named 8 = .ok (.ireturn, 1) := by decide +kernel
theorem dX12_named_9 : decode cX12_named 9 = .ok (.aload_n 0, 1) := by decide +kernel
theorem dX12_named_10 : decode cX12_named 10 = .ok (.invokevirtual 143, 3) := by decide +kernel
theorem dX12_named_13 : decode cX12_named 13 = .ok (.aload_n 0, 1) := by decide +kernel
theorem dX12_named_14 : decode cX12_named 14 = .ok (.getfield 100, 3) := by decide +kernel
theorem dX12_named_17 : decode cX12_named 17 = .ok (.ifCond .eq 5, 3) := by decide +kernel
theorem dX12_named_20 : decode cX12_named 20 = .ok (.iconst 0, 1) := by decide +kernel
theorem dX12_named_21 : decode cX12_named 21 = .ok (.ireturn, 1) := by decide +kernel
theorem dX12_named_22 : decode cX12_named 22 = .ok (.aload_n 0, 1) := by decide +kernel
theorem dX12_named_23 : decode cX12_named 23 = .ok (.invokevirtual 146, 3) := by decide +kernel
theorem dX12_named_26 : decode cX12_named 26 = .ok (.istore_n 3, 1) := by decide +kernel
theorem dX12_named_27 : decode cX12_named 27 = .ok (.iload_n 3, 1) := by decide +kernel
theorem dX12_named_28 : decode cX12_named 28 = .ok (.iload_n 1, 1) := by decide +kernel
theorem dX12_named_29 : decode cX12_named 29 = .ok (.iload_n 2, 1) := by decide +kernel
theorem dX12_named_30 : decode cX12_named 30 = .ok (.invokestatic 149, 3) := by decide +kernel
theorem dX12_named_33 : decode cX12_named 33 = .ok (.ifCond .ne 12, 3) := by decide +kernel
theorem dX12_named_36 : decode cX12_named 36 = .ok (.aload_n 0, 1) := by decide +kernel
theorem dX12_named_37 : decode cX12_named 37 = .ok (.iconst 2, 1) := by decide +kernel
theorem dX12_named_38 : decode cX12_named 38 = .ok (.aload_n 0, 1) := by decide +kernel
theorem dX12_named_39 : decode cX12_named 39 = .ok (.getfield 81, 3) := by decide +kernel
theorem dX12_named_42 : decode cX12_named 42 = .ok (.invokevirtual 127, 3) := by decide +kernel
theorem dX12_named_45 : decode cX12_named 45 = .ok (.aload_n 0, 1) := by decide +kernel
theorem dX12_named_46 : decode cX12_named 46 = .ok (.getfield 100, 3) := by decide +kernel
theorem dX12_named_49 : decode cX12_named 49 = .ok (.ifCond .eq 7, 3) := by decide +kernel
theorem dX12_named_52 : decode cX12_named 52 = .ok (.iconst 0, 1) := by decide +kernel
theorem dX12_named_53 : decode cX12_named 53 = .ok (.goto 6, 3) := by decide +kernel
theorem dX12_named_56 : decode cX12_named 56 = .ok (.iload_n 3, 1) := by decide +kernel
theorem dX12_named_57 : decode cX12_named 57 = .ok (.iload_n 1, 1) := by decide +kernel
theorem dX12_named_58 : decode cX12_named 58 = .ok (.isub, 1) := by decide +kernel
theorem dX12_named_59 : decode cX12_named 59 = .ok (.ireturn, 1) := by decide +kernel
theorem dX12_islandPassed_0 : decode cX12_islandPassed 0 = .ok (.aload_n 0, 1) := by decide +kernel
theorem dX12_islandPassed_1 : decode cX12_islandPassed 1 = .ok (.iconst 0, 1) := by decide +kernel
theorem dX12_islandPassed_2 : decode cX12_islandPassed 2 = .ok (.bipush 6, 2) := by decide +kernel
theorem dX12_islandPassed_4 : decode cX12_islandPassed 4 = .ok (.invokevirtual 153, 3) := by decide +kernel
theorem dX12_islandPassed_7 : decode cX12_islandPassed 7 = .ok (.istore_n 1, 1) := by decide +kernel
theorem dX12_islandPassed_8 : decode cX12_islandPassed 8 = .ok (.aload_n 0, 1) := by decide +kernel
theorem dX12_islandPassed_9 : decode cX12_islandPassed 9 = .ok (.getfield 100, 3) := by decide +kernel
theorem dX12_islandPassed_12 : decode cX12_islandPassed 12 = .ok (.ifCond .ne 7, 3) := by decide +kernel
theorem dX12_islandPassed_15 : decode cX12_islandPassed 15 = .ok (.aload_n 0, 1) := by decide +kernel
theorem dX12_islandPassed_16 : decode cX12_islandPassed 16 = .ok (.invokevirtual 121, 3) := by decide +kernel
theorem dX12_islandPassed_19 : decode cX12_islandPassed 19 = .ok (.iload_n 1, 1) := by decide +kernel
theorem dX12_islandPassed_20 : decode cX12_islandPassed 20 = .ok (.ireturn, 1) := by decide +kernel
theorem dX12_islandBehind_0 : decode cX12_islandBehind 0 = .ok (.aload_n 0, 1) := by decide +kernel
theorem dX12_islandBehind_1 : decode cX12_islandBehind 1 = .ok (.aload_n 1, 1) := by decide +kernel
theorem dX12_islandBehind_2 : decode cX12_islandBehind 2 = .ok (.invokevirtual 157, 3) := by decide +kernel
theorem dX12_islandBehind_5 : decode cX12_islandBehind 5 = .ok (.aload_n 0, 1) := by decide +kernel
theorem dX12_islandBehind_6 : decode cX12_islandBehind 6 = .ok (.invokevirtual 161, 3) := by decide +kernel
theorem dX12_islandBehind_9 : decode cX12_islandBehind 9 = .ok (.ireturn, 1) := by decide +kernel
theorem dX12_number_0 : decode cX12_number 0 = .ok (.aload_n 0, 1) := by decide +kernel
theorem dX12_number_1 : decode cX12_number 1 = .ok (.getfield 100, 3) := by decide +kernel
theorem dX12_number_4 : decode cX12_number 4 = .ok (.ifCond .eq 5, 3) := by decide +kernel
theorem dX12_number_7 : decode cX12_number 7 = .ok (.iload_n 1, 1) := by decide +kernel
theorem dX12_number_8 : decode cX12_number 8 = .ok (.ireturn, 1) := by decide +kernel
theorem dX12_number_9 : decode cX12_number 9 = .ok (.aload_n 0, 1) := by decide +kernel
theorem dX12_number_10 : decode cX12_number 10 = .ok (.getfield 90, 3) := by decide +kernel
theorem dX12_number_13 : decode cX12_number 13 = .ok (.iconst 3, 1) := by decide +kernel
theorem dX12_number_14 : decode cX12_number 14 = .ok (.if_icmp .eq 15, 3) := by decide +kernel
theorem dX12_number_17 : decode cX12_number 17 = .ok (.aload_n 0, 1) := by decide +kernel
theorem dX12_number_18 : decode cX12_number 18 = .ok (.iconst 1, 1) := by decide +kernel
theorem dX12_number_19 : decode cX12_number 19 = .ok (.aload_n 0, 1) := by decide +kernel
theorem dX12_number_20 : decode cX12_number 20 = .ok (.getfield 81, 3) := by decide +kernel
theorem dX12_number_23 : decode cX12_number 23 = .ok (.invokevirtual 127, 3) := by decide +kernel
theorem dX12_number_26 : decode cX12_number 26 = .ok (.goto 24, 3) := by decide +kernel
theorem dX12_number_29 : decode cX12_number 29 = .ok (.aload_n 0, 1) := by decide +kernel
theorem dX12_number_30 : decode cX12_number 30 = .ok (.getfield 87, 3) := by decide +kernel
theorem dX12_number_33 : decode cX12_number 33 = .ok (.iload_n 1, 1) := by decide +kernel
theorem dX12_number_34 : decode cX12_number 34 = .ok (.iload_n 2, 1) := by decide +kernel
theorem dX12_number_35 : decode cX12_number 35 = .ok (.invokestatic 149, 3) := by decide +kernel
theorem dX12_number_38 : decode cX12_number 38 = .ok (.ifCond .ne 12, 3) := by decide +kernel
theorem dX12_number_41 : decode cX12_number 41 = .ok (.aload_n 0, 1) := by decide +kernel
theorem dX12_number_42 : decode cX12_number 42 = .ok (.iconst 4, 1) := by decide +kernel
theorem dX12_number_43 : decode cX12_number 43 = .ok (.aload_n 0, 1) := by decide +kernel
theorem dX12_number_44 : decode cX12_number 44 = .ok (.getfield 81, 3) := by decide +kernel
theorem dX12_number_47 : decode cX12_number 47 = .ok (.invokevirtual 127, 3) := by decide +kernel
theorem dX12_number_50 : decode cX12_number 50 = .ok (.aload_n 0, 1) := by decide +kernel
theorem dX12_number_51 : decode cX12_number 51 = .ok (.getfield 100, 3) := by decide +kernel
theorem dX12_number_54 : decode cX12_number 54 = .ok (.ifCond .eq 5, 3) := by decide +kernel
theorem dX12_number_57 : decode cX12_number 57 = .ok (.iload_n 1, 1) := by decide +kernel
theorem dX12_number_58 : decode cX12_number 58 = .ok (.ireturn, 1) := by decide +kernel
theorem dX12_number_59 : decode cX12_number 59 = .ok (.aload_n 0, 1) := by decide +kernel
theorem dX12_number_60 : decode cX12_number 60 = .ok (.getfield 87, 3) := by decide +kernel
theorem dX12_number_63 : decode cX12_number 63 = .ok (.istore_n 3, 1) := by decide +kernel
theorem dX12_number_64 : decode cX12_number 64 = .ok (.aload_n 0, 1) := by decide +kernel
theorem dX12_number_65 : decode cX12_number 65 = .ok (.invokevirtual 121, 3) := by decide +kernel
theorem dX12_number_68 : decode cX12_number 68 = .ok (.iload_n 3, 1) := by decide +kernel
theorem dX12_number_69 : decode cX12_number 69 = .ok (.ireturn, 1) := by decide +kernel
theorem dX12_after_0 : decode cX12_after 0 = .ok (.aload_n 0, 1) := by decide +kernel
theorem dX12_after_1 : decode cX12_after 1 = .ok (.aload_n 1, 1) := by decide +kernel
theorem dX12_after_2 : decode cX12_after 2 = .ok (.invokevirtual 157, 3) := by decide +kernel
theorem dX12_after_5 : decode cX12_after 5 = .ok (.aload_n 0, 1) := by decide +kernel
theorem dX12_after_6 : decode cX12_after 6 = .ok (.iload_n 2, 1) := by decide +kernel
theorem dX12_after_7 : decode cX12_after 7 = .ok (.iload_n 3, 1) := by decide +kernel
theorem dX12_after_8 : decode cX12_after 8 = .ok (.invokevirtual 164, 3) := by decide +kernel
theorem dX12_after_11 : decode cX12_after 11 = .ok (.ireturn, 1) := by decide +kernel
theorem dX12_post_0 : decode cX12_post 0 = .ok (.aload_n 0, 1) := by decide +kernel
theorem dX12_post_1 : decode cX12_post 1 = .ok (.invokevirtual 167, 3) := by decide +kernel
theorem dX12_post_4 : decode cX12_post 4 = .ok (.iload_n 1, 1) := by decide +kernel
theorem dX12_post_5 : decode cX12_post 5 = .ok (.iconst 0, 1) := by decide +kernel
theorem dX12_post_6 : decode cX12_post 6 = .ok (.aload_n 0, 1) := by decide +kernel
theorem dX12_post_7 : decode cX12_post 7 = .ok (.getfield 68, 3) := by decide +kernel
theorem dX12_post_10 : decode cX12_post 10 = .ok (.invokestatic 149, 3) := by decide +kernel
theorem dX12_post_13 : decode cX12_post 13 = .ok (.ifCond .ne 9, 3) := by decide +kernel
theorem dX12_post_16 : decode cX12_post 16 = .ok (.aload_n 0, 1) := by decide +kernel
theorem dX12_post_17 : decode cX12_post 17 = .ok (.iconst 2, 1) := by decide +kernel
theorem dX12_post_18 : decode cX12_post 18 = .ok (.invokevirtual 170, 3) := by decide +kernel
theorem dX12_post_21 : decode cX12_post 21 = .ok (.ireturn, 1) := by decide +kernel
theorem dX12_post_22 : decode cX12_post 22 = .ok (.aload_n 0, 1) := by decide +kernel
theorem dX12_post_23 : decode cX12_post 23 = .ok (.iconst 0, 1) := by decide +kernel
theorem dX12_post_24 : decode cX12_post 24 = .ok (.putfield 68, 3) := by decide +kernel
theorem dX12_post_27 : decode cX12_post 27 = .ok (.aload_n 0, 1) := by decide +kernel
theorem dX12_post_28 : decode cX12_post 28 = .ok (.iconst 0, 1) := by decide +kernel
theorem dX12_post_29 : decode cX12_post 29 = .ok (.putfield 104, 3) := by decide +kernel
theorem dX12_post_32 : decode cX12_post 32 = .ok (.aload_n 0, 1) := by decide +kernel
theorem dX12_post_33 : decode cX12_post 33 = .ok (.iconst 0, 1) := by decide +kernel
theorem dX12_post_34 : decode cX12_post 34 = .ok (.putfield 100, 3) := by decide +kernel
theorem dX12_post_37 : decode cX12_post 37 = .ok (.iconst 0, 1) := by decide +kernel
theorem dX12_post_38 : decode cX12_post 38 = .ok (.istore_n 2, 1) := by decide +kernel
theorem dX12_post_39 : decode cX12_post 39 = .ok (.iload_n 2, 1) := by decide +kernel
theorem dX12_post_40 : decode cX12_post 40 = .ok (.sipush 363, 3) := by decide +kernel
theorem dX12_post_43 : decode cX12_post 43 = .ok (.if_icmp .ge 16, 3) := by decide +kernel
theorem dX12_post_46 : decode cX12_post 46 = .ok (.aload_n 0, 1) := by decide +kernel
theorem dX12_post_47 : decode cX12_post 47 = .ok (.getfield 23, 3) := by decide +kernel
theorem dX12_post_50 : decode cX12_post 50 = .ok (.iload_n 2, 1) := by decide +kernel
theorem dX12_post_51 : decode cX12_post 51 = .ok (.iconst 0, 1) := by decide +kernel
theorem dX12_post_52 : decode cX12_post 52 = .ok (.iastore, 1) := by decide +kernel
theorem dX12_post_53 : decode cX12_post 53 = .ok (.iinc 2 1, 3) := by decide +kernel
theorem dX12_post_56 : decode cX12_post 56 = .ok (.goto (-17), 3) := by decide +kernel
theorem dX12_post_59 : decode cX12_post 59 = .ok (.aload_n 0, 1) := by decide +kernel
theorem dX12_post_60 : decode cX12_post 60 = .ok (.iload_n 1, 1) := by decide +kernel
theorem dX12_post_61 : decode cX12_post 61 = .ok (.putfield 71, 3) := by decide +kernel
theorem dX12_post_64 : decode cX12_post 64 = .ok (.aload_n 0, 1) := by decide +kernel
theorem dX12_post_65 : decode cX12_post 65 = .ok (.iconst 0, 1) := by decide +kernel
theorem dX12_post_66 : decode cX12_post 66 = .ok (.putfield 74, 3) := by decide +kernel
theorem dX12_post_69 : decode cX12_post 69 = .ok (.aload_n 0, 1) := by decide +kernel
theorem dX12_post_70 : decode cX12_post 70 = .ok (.invokevirtual 121, 3) := by decide +kernel
theorem dX12_post_73 : decode cX12_post 73 = .ok (.aload_n 0, 1) := by decide +kernel
theorem dX12_post_74 : decode cX12_post 74 = .ok (.invokevirtual 173, 3) := by decide +kernel
theorem dX12_post_77 : decode cX12_post 77 = .ok (.aload_n 0, 1) := by decide +kernel
theorem dX12_post_78 : decode cX12_post 78 = .ok (.getfield 100, 3) := by decide +kernel
theorem dX12_post_81 : decode cX12_post 81 = .ok (.ifCond .ne 23, 3) := by decide +kernel
theorem dX12_post_84 : decode cX12_post 84 = .ok (.aload_n 0, 1) := by decide +kernel
theorem dX12_post_85 : decode cX12_post 85 = .ok (.getfield 90, 3) := by decide +kernel
theorem dX12_post_88 : decode cX12_post 88 = .ok (.bipush 59, 2) := by decide +kernel
theorem dX12_post_90 : decode cX12_post 90 = .ok (.if_icmp .ne 14, 3) := by decide +kernel
theorem dX12_post_93 : decode cX12_post 93 = .ok (.aload_n 0, 1) := by decide +kernel
theorem dX12_post_94 : decode cX12_post 94 = .ok (.invokevirtual 121, 3) := by decide +kernel
theorem dX12_post_97 : decode cX12_post 97 = .ok (.aload_n 0, 1) := by decide +kernel
theorem dX12_post_98 : decode cX12_post 98 = .ok (.invokevirtual 173, 3) := by decide +kernel
theorem dX12_post_101 : decode cX12_post 101 = .ok (.goto (-24), 3) := by decide +kernel
theorem dX12_post_104 : decode cX12_post 104 = .ok (.aload_n 0, 1) := by decide +kernel
theorem dX12_post_105 : decode cX12_post 105 = .ok (.getfield 100, 3) := by decide +kernel
theorem dX12_post_108 : decode cX12_post 108 = .ok (.ifCond .ne 19, 3) := by decide +kernel
theorem dX12_post_111 : decode cX12_post 111 = .ok (.aload_n 0, 1) := by decide +kernel
theorem dX12_post_112 : decode cX12_post 112 = .ok (.getfield 90, 3) := by decide +kernel
theorem dX12_post_115 : decode cX12_post 115 = .ok (.ifCond .eq 12, 3) := by decide +kernel
theorem dX12_post_118 : decode cX12_post 118 = .ok (.aload_n 0, 1) := by decide +kernel
theorem dX12_post_119 : decode cX12_post 119 = .ok (.iconst 1, 1) := by decide +kernel
theorem dX12_post_120 : decode cX12_post 120 = .ok (.aload_n 0, 1) := by decide +kernel
theorem dX12_post_121 : decode cX12_post 121 = .ok (.getfield 81, 3) := by decide +kernel
theorem dX12_post_124 : decode cX12_post 124 = .ok (.invokevirtual 127, 3) := by decide +kernel
theorem dX12_post_127 : decode cX12_post 127 = .ok (.aload_n 0, 1) := by decide +kernel
theorem dX12_post_128 : decode cX12_post 128 = .ok (.getfield 100, 3) := by decide +kernel
theorem dX12_post_131 : decode cX12_post 131 = .ok (.ifCond .ne 32, 3) := by decide +kernel
theorem dX12_post_134 : decode cX12_post 134 = .ok (.aload_n 0, 1) := by decide +kernel
theorem dX12_post_135 : decode cX12_post 135 = .ok (.getfield 23, 3) := by decide +kernel
theorem dX12_post_138 : decode cX12_post 138 = .ok (.bipush 9, 2) := by decide +kernel
theorem dX12_post_140 : decode cX12_post 140 = .ok (.iaload, 1) := by decide +kernel
theorem dX12_post_141 : decode cX12_post 141 = .ok (.ifCond .eq 12, 3) := by decide +kernel
theorem dX12_post_144 : decode cX12_post 144 = .ok (.aload_n 0, 1) := by decide +kernel
theorem dX12_post_145 : decode cX12_post 145 = .ok (.getfield 23, 3) := by decide +kernel
theorem dX12_post_148 : decode cX12_post 148 = .ok (.iconst 4, 1) := by decide +kernel
theorem dX12_post_149 : decode cX12_post 149 = .ok (.iaload, 1) := by decide +kernel
theorem dX12_post_150 : decode cX12_post 150 = .ok (.ifCond .ne 13, 3) := by decide +kernel
theorem dX12_post_153 : decode cX12_post 153 = .ok (.aload_n 0, 1) := by decide +kernel
theorem dX12_post_154 : decode cX12_post 154 = .ok (.bipush 6, 2) := by decide +kernel
theorem dX12_post_156 : decode cX12_post 156 = .ok (.aload_n 0, 1) := by decide +kernel
theorem dX12_post_157 : decode cX12_post 157 = .ok (.getfield 81, 3) := by decide +kernel
theorem dX12_post_160 : decode cX12_post 160 = .ok (.invokevirtual 127, 3) := by decide +kernel
theorem dX12_post_163 : decode cX12_post 163 = .ok (.aload_n 0, 1) := by decide +kernel
theorem dX12_post_164 : decode cX12_post 164 = .ok (.getfield 100, 3) := by decide +kernel
theorem dX12_post_167 : decode cX12_post 167 = .ok (.ifCond .eq 9, 3) := by decide +kernel
theorem dX12_post_170 : decode cX12_post 170 = .ok (.aload_n 0, 1) := by decide +kernel
theorem dX12_post_171 : decode cX12_post 171 = .ok (.iconst 4, 1) := by decide +kernel
theorem dX12_post_172 : decode cX12_post 172 = .ok (.invokevirtual 170, 3) := by decide +kernel
theorem dX12_post_175 : decode cX12_post 175 = .ok (.ireturn, 1) := by decide +kernel
theorem dX12_post_176 : decode cX12_post 176 = .ok (.aload_n 0, 1) := by decide +kernel
theorem dX12_post_177 : decode cX12_post 177 = .ok (.getfield 23, 3) := by decide +kernel
theorem dX12_post_180 : decode cX12_post 180 = .ok (.iconst 0, 1) := by decide +kernel
theorem dX12_post_181 : decode cX12_post 181 = .ok (.aload_n 0, 1) := by decide +kernel
theorem dX12_post_182 : decode cX12_post 182 = .ok (.getfield 20, 3) := by decide +kernel
theorem dX12_post_185 : decode cX12_post 185 = .ok (.iconst 0, 1) := by decide +kernel
theorem dX12_post_186 : decode cX12_post 186 = .ok (.sipush 363, 3) := by decide +kernel
theorem dX12_post_189 : decode cX12_post 189 = .ok (.invokestatic 176, 3) := by decide +kernel
theorem dX12_post_192 : decode cX12_post 192 = .ok (.iconst 0, 1) := by decide +kernel
theorem dX12_post_193 : decode cX12_post 193 = .ok (.istore_n 2, 1) := by decide +kernel
theorem dX12_post_194 : decode cX12_post 194 = .ok (.iload_n 2, 1) := by decide +kernel
theorem dX12_post_195 : decode cX12_post 195 = .ok (.bipush 76, 2) := by decide +kernel
theorem dX12_post_197 : decode cX12_post 197 = .ok (.if_icmp .ge 16, 3) := by decide +kernel
theorem dX12_post_200 : decode cX12_post 200 = .ok (.aload_n 0, 1) := by decide +kernel
theorem dX12_post_201 : decode cX12_post 201 = .ok (.getfield 26, 3) := by decide +kernel
theorem dX12_post_204 : decode cX12_post 204 = .ok (.iload_n 2, 1) := by decide +kernel
theorem dX12_post_205 : decode cX12_post 205 = .ok (.iconst 0, 1) := by decide +kernel
theorem dX12_post_206 : decode cX12_post 206 = .ok (.iastore, 1) := by decide +kernel
theorem dX12_post_207 : decode cX12_post 207 = .ok (.iinc 2 1, 3) := by decide +kernel
theorem dX12_post_210 : decode cX12_post 210 = .ok (.goto (-16), 3) := by decide +kernel
theorem dX12_post_213 : decode cX12_post 213 = .ok (.iconst 0, 1) := by decide +kernel
theorem dX12_post_214 : decode cX12_post 214 = .ok (.istore_n 2, 1) := by decide +kernel
theorem dX12_post_215 : decode cX12_post 215 = .ok (.iload_n 2, 1) := by decide +kernel
theorem dX12_post_216 : decode cX12_post 216 = .ok (.aload_n 0, 1) := by decide +kernel
theorem dX12_post_217 : decode cX12_post 217 = .ok (.getfield 20, 3) := by decide +kernel
theorem dX12_post_220 : decode cX12_post 220 = .ok (.bipush 6, 2) := by decide +kernel
theorem dX12_post_222 : decode cX12_post 222 = .ok (.iaload, 1) := by decide +kernel
theorem dX12_post_223 : decode cX12_post 223 = .ok (.if_icmp .ge 30, 3) := by decide +kernel
theorem dX12_post_226 : decode cX12_post 226 = .ok (.aload_n 0, 1) := by decide +kernel
theorem dX12_post_227 : decode cX12_post 227 = .ok (.getfield 26, 3) := by decide +kernel
theorem dX12_post_230 : decode cX12_post 230 = .ok (.iconst 2, 1) := by decide +kernel
theorem dX12_post_231 : decode cX12_post 231 = .ok (.iload_n 2, 1) := by decide +kernel
theorem dX12_post_232 : decode cX12_post 232 = .ok (.iadd, 1) := by decide +kernel
theorem dX12_post_233 : decode cX12_post 233 = .ok (.aload_n 0, 1) := by decide +kernel
theorem dX12_post_234 : decode cX12_post 234 = .ok (.getfield 20, 3) := by decide +kernel
theorem dX12_post_237 : decode cX12_post 237 = .ok (.bipush 107, 2) := by decide +kernel
theorem dX12_post_239 : decode cX12_post 239 = .ok (.iconst 4, 1) := by decide +kernel
theorem dX12_post_240 : decode cX12_post 240 = .ok (.iload_n 2, 1) := by decide +kernel
theorem dX12_post_241 : decode cX12_post 241 = .ok (.imul, 1) := by decide +kernel
theorem dX12_post_242 : decode cX12_post 242 = .ok (.iadd, 1) := by decide +kernel
theorem dX12_post_243 : decode cX12_post 243 = .ok (.iconst 1, 1) := by decide +kernel
theorem dX12_post_244 : decode cX12_post 244 = .ok (.iadd, 1) := by decide +kernel
theorem dX12_post_245 : decode cX12_post 245 = .ok (.iaload, 1) := by decide +kernel
theorem dX12_post_246 : decode cX12_post 246 = .ok (.iastore, 1) := by decide +kernel
theorem dX12_post_247 : decode cX12_post 247 = .ok (.iinc 2 1, 3) := by decide +kernel
theorem dX12_post_250 : decode cX12_post 250 = .ok (.goto (-35), 3) := by decide +kernel
theorem dX12_post_253 : decode cX12_post 253 = .ok (.iconst 0, 1) := by decide +kernel
theorem dX12_post_254 : decode cX12_post 254 = .ok (.istore_n 2, 1) := by decide +kernel
theorem dX12_post_255 : decode cX12_post 255 = .ok (.iload_n 2, 1) := by decide +kernel
theorem dX12_post_256 : decode cX12_post 256 = .ok (.aload_n 0, 1) := by decide +kernel
theorem dX12_post_257 : decode cX12_post 257 = .ok (.getfield 20, 3) := by decide +kernel
theorem dX12_post_260 : decode cX12_post 260 = .ok (.bipush 7, 2) := by decide +kernel
theorem dX12_post_262 : decode cX12_post 262 = .ok (.iaload, 1) := by decide +kernel
theorem dX12_post_263 : decode cX12_post 263 = .ok (.if_icmp .ge 50, 3) := by decide +kernel
theorem dX12_post_266 : decode cX12_post 266 = .ok (.aload_n 0, 1) := by decide +kernel
theorem dX12_post_267 : decode cX12_post 267 = .ok (.getfield 20, 3) := by decide +kernel
theorem dX12_post_270 : decode cX12_post 270 = .ok (.bipush 10, 2) := by decide +kernel
theorem dX12_post_272 : decode cX12_post 272 = .ok (.bipush 7, 2) := by decide +kernel
theorem dX12_post_274 : decode cX12_post 274 = .ok (.aload_n 0, 1) := by decide +kernel
theorem dX12_post_275 : decode cX12_post 275 = .ok (.getfield 20, 3) := by decide +kernel
theorem dX12_post_278 : decode cX12_post 278 = .ok (.bipush 127, 2) := by decide +kernel
theorem dX12_post_280 : decode cX12_post 280 = .ok (.iconst 4, 1) := by decide +kernel
theorem dX12_post_281 : decode cX12_post 281 = .ok (.iload_n 2, 1) := by decide +kernel
theorem dX12_post_282 : decode cX12_post 282 = .ok (.imul, 1) := by decide +kernel
theorem dX12_post_283 : decode cX12_post 283 = .ok (.iadd, 1) := by decide +kernel
theorem dX12_post_284 : decode cX12_post 284 = .ok (.iconst 1, 1) := by decide +kernel
theorem dX12_post_285 : decode cX12_post 285 = .ok (.iadd, 1) := by decide +kernel
theorem dX12_post_286 : decode cX12_post 286 = .ok (.iaload, 1) := by decide +kernel
theorem dX12_post_287 : decode cX12_post 287 = .ok (.imul, 1) := by decide +kernel
theorem dX12_post_288 : decode cX12_post 288 = .ok (.iadd, 1) := by decide +kernel
theorem dX12_post_289 : decode cX12_post 289 = .ok (.iconst 1, 1) := by decide +kernel
theorem dX12_post_290 : decode cX12_post 290 = .ok (.iadd, 1) := by decide +kernel
theorem dX12_post_291 : decode cX12_post 291 = .ok (.aload_n 0, 1) := by decide +kernel
theorem dX12_post_292 : decode cX12_post 292 = .ok (.getfield 26, 3) := by decide +kernel
theorem dX12_post_295 : decode cX12_post 295 = .ok (.bipush 28, 2) := by decide +kernel
theorem dX12_post_297 : decode cX12_post 297 = .ok (.bipush 6, 2) := by decide +kernel
theorem dX12_post_299 : decode cX12_post 299 = .ok (.iload_n 2, 1) := by decide +kernel
theorem dX12_post_300 : decode cX12_post 300 = .ok (.imul, 1) := by decide +kernel
theorem dX12_post_301 : decode cX12_post 301 = .ok (.iadd, 1) := by decide +kernel
theorem dX12_post_302 : decode cX12_post 302 = .ok (.bipush 6, 2) := by decide +kernel
theorem dX12_post_304 : decode cX12_post 304 = .ok (.invokestatic 176, 3) := by decide +kernel
theorem dX12_post_307 : decode cX12_post 307 = .ok (.iinc 2 1, 3) := by decide +kernel
theorem dX12_post_310 : decode cX12_post 310 = .ok (.goto (-55), 3) := by decide +kernel
theorem dX12_post_313 : decode cX12_post 313 = .ok (.aload_n 0, 1) := by decide +kernel
theorem dX12_post_314 : decode cX12_post 314 = .ok (.iconst 1, 1) := by decide +kernel
theorem dX12_post_315 : decode cX12_post 315 = .ok (.putfield 180, 3) := by decide +kernel
theorem dX12_post_318 : decode cX12_post 318 = .ok (.aload_n 0, 1) := by decide +kernel
theorem dX12_post_319 : decode cX12_post 319 = .ok (.iconst 0, 1) := by decide +kernel
theorem dX12_post_320 : decode cX12_post 320 = .ok (.putfield 183, 3) := by decide +kernel
theorem dX12_post_323 : decode cX12_post 323 = .ok (.aload_n 0, 1) := by decide +kernel
theorem dX12_post_324 : decode cX12_post 324 = .ok (.iconst 0, 1) := by decide +kernel
theorem dX12_post_325 : decode cX12_post 325 = .ok (.putfield 186, 3) := by decide +kernel
theorem dX12_post_328 : decode cX12_post 328 = .ok (.aload_n 0, 1) := by decide +kernel
theorem dX12_post_329 : decode cX12_post 329 = .ok (.getfield 20, 3) := by decide +kernel
theorem dX12_post_332 : decode cX12_post 332 = .ok (.iconst 4, 1) := by decide +kernel
theorem dX12_post_333 : decode cX12_post 333 = .ok (.iaload, 1) := by decide +kernel
theorem dX12_post_334 : decode cX12_post 334 = .ok (.ireturn, 1) := by decide +kernel
theorem dX12_begins_0 : decode cX12_begins 0 = .ok (.aload_n 0, 1) := by decide +kernel
theorem dX12_begins_1 : decode cX12_begins 1 = .ok (.aload_n 1, 1) := by decide +kernel
theorem dX12_begins_2 : decode cX12_begins 2 = .ok (.invokevirtual 117, 3) := by decide +kernel
theorem dX12_begins_5 : decode cX12_begins 5 = .ok (.ifCond .ne 5, 3) := by decide +kernel
theorem dX12_begins_8 : decode cX12_begins 8 = .ok (.iconst 0, 1) := by decide +kernel
theorem dX12_begins_9 : decode cX12_begins 9 = .ok (.ireturn, 1) := by decide +kernel
theorem dX12_begins_10 : decode cX12_begins 10 = .ok (.iload_n 2, 1) := by decide +kernel
theorem dX12_begins_11 : decode cX12_begins 11 = .ok (.ifCond .ne 12, 3) := by decide +kernel
theorem dX12_begins_14 : decode cX12_begins 14 = .ok (.aload_n 0, 1) := by decide +kernel
theorem dX12_begins_15 : decode cX12_begins 15 = .ok (.iconst 5, 1) := by decide +kernel
theorem dX12_begins_16 : decode cX12_begins 16 = .ok (.aload_n 0, 1) := by decide +kernel
theorem dX12_begins_17 : decode cX12_begins 17 = .ok (.getfield 81, 3) := by decide +kernel
theorem dX12_begins_20 : decode cX12_begins 20 = .ok (.invokevirtual 127, 3) := by decide +kernel
theorem dX12_begins_23 : decode cX12_begins 23 = .ok (.aload_n 0, 1) := by decide +kernel
theorem dX12_begins_24 : decode cX12_begins 24 = .ok (.getfield 23, 3) := by decide +kernel
theorem dX12_begins_27 : decode cX12_begins 27 = .ok (.bipush 9, 2) := by decide +kernel
theorem dX12_begins_29 : decode cX12_begins 29 = .ok (.iaload, 1) := by decide +kernel
theorem dX12_begins_30 : decode cX12_begins 30 = .ok (.ifCond .ne 13, 3) := by decide +kernel
theorem dX12_begins_33 : decode cX12_begins 33 = .ok (.aload_n 0, 1) := by decide +kernel
theorem dX12_begins_34 : decode cX12_begins 34 = .ok (.bipush 6, 2) := by decide +kernel
theorem dX12_begins_36 : decode cX12_begins 36 = .ok (.aload_n 0, 1) := by decide +kernel
theorem dX12_begins_37 : decode cX12_begins 37 = .ok (.getfield 81, 3) := by decide +kernel
theorem dX12_begins_40 : decode cX12_begins 40 = .ok (.invokevirtual 127, 3) := by decide +kernel
theorem dX12_begins_43 : decode cX12_begins 43 = .ok (.aload_n 0, 1) := by decide +kernel
theorem dX12_begins_44 : decode cX12_begins 44 = .ok (.getfield 100, 3) := by decide +kernel
theorem dX12_begins_47 : decode cX12_begins 47 = .ok (.ifCond .ne 7, 3) := by decide +kernel
theorem dX12_begins_50 : decode cX12_begins 50 = .ok (.aload_n 0, 1) := by decide +kernel
theorem dX12_begins_51 : decode cX12_begins 51 = .ok (.invokevirtual 121, 3) := by decide +kernel
theorem dX12_begins_54 : decode cX12_begins 54 = .ok (.iconst 1, 1) := by decide +kernel
theorem dX12_begins_55 : decode cX12_begins 55 = .ok (.ireturn, 1) := by decide +kernel
theorem dX12_readLine_0 : decode cX12_readLine 0 = .ok (.aload_n 0, 1) := by decide +kernel
theorem dX12_readLine_1 : decode cX12_readLine 1 = .ok (.ldc 131, 2) := by decide +kernel
theorem dX12_readLine_3 : decode cX12_readLine 3 = .ok (.invokevirtual 117, 3) := by decide +kernel
theorem dX12_readLine_6 : decode cX12_readLine 6 = .ok (.ifCond .eq 10, 3) := by decide +kernel
theorem dX12_readLine_9 : decode cX12_readLine 9 = .ok (.aload_n 0, 1) := by decide +kernel
theorem dX12_readLine_10 : decode cX12_readLine 10 = .ok (.invokevirtual 189, 3) := by decide +kernel
theorem dX12_readLine_13 : decode cX12_readLine 13 = .ok (.goto 174, 3) := by decide +kernel
theorem dX12_readLine_16 : decode cX12_readLine 16 = .ok (.aload_n 0, 1) := by decide +kernel
theorem dX12_readLine_17 : decode cX12_readLine 17 = .ok (.ldc 133, 2) := by decide +kernel
theorem dX12_readLine_19 : decode cX12_readLine 19 = .ok (.aload_n 0, 1) := by decide +kernel
theorem dX12_readLine_20 : decode cX12_readLine 20 = .ok (.getfield 23, 3) := by decide +kernel
theorem dX12_readLine_23 : decode cX12_readLine 23 = .ok (.iconst 4, 1) := by decide +kernel
theorem dX12_readLine_24 : decode cX12_readLine 24 = .ok (.iaload, 1) := by decide +kernel
theorem dX12_readLine_25 : decode cX12_readLine 25 = .ok (.bipush 7, 2) := by decide +kernel
theorem dX12_readLine_27 : decode cX12_readLine 27 = .ok (.if_icmp .ge 7, 3) := by decide +kernel
theorem dX12_readLine_30 : decode cX12_readLine 30 = .ok (.iconst 1, 1) := by decide +kernel
theorem dX12_readLine_31 : decode cX12_readLine 31 = .ok (.goto 4, 3) := by decide +kernel
theorem dX12_readLine_34 : decode cX12_readLine 34 = .ok (.iconst 0, 1) := by decide +kernel
theorem dX12_readLine_35 : decode cX12_readLine 35 = .ok (.invokevirtual 192, 3) := by decide +kernel
theorem dX12_readLine_38 : decode cX12_readLine 38 = .ok (.ifCond .eq 10, 3) := by decide +kernel
theorem dX12_readLine_41 : decode cX12_readLine 41 = .ok (.aload_n 0, 1) := by decide +kernel
theorem dX12_readLine_42 : decode cX12_readLine 42 = .ok (.invokevirtual 196, 3) := by decide +kernel
theorem dX12_readLine_45 : decode cX12_readLine 45 = .ok (.goto 142, 3) := by decide +kernel
theorem dX12_readLine_48 : decode cX12_readLine 48 = .ok (.aload_n 0, 1) := by decide +kernel
theorem dX12_readLine_49 : decode cX12_readLine 49 = .ok (.ldc 135, 2) := by decide +kernel
theorem dX12_readLine_51 : decode cX12_readLine 51 = .ok (.aload_n 0, 1) := by decide +kernel
theorem dX12_readLine_52 : decode cX12_readLine 52 = .ok (.getfield 23, 3) := by decide +kernel
theorem dX12_readLine_55 : decode cX12_readLine 55 = .ok (.iconst 5, 1) := by decide +kernel
theorem dX12_readLine_56 : decode cX12_readLine 56 = .ok (.iaload, 1) := by decide +kernel
theorem dX12_readLine_57 : decode cX12_readLine 57 = .ok (.bipush 12, 2) := by decide +kernel
theorem dX12_readLine_59 : decode cX12_readLine 59 = .ok (.if_icmp .ge 7, 3) := by decide +kernel
theorem dX12_readLine_62 : decode cX12_readLine 62 = .ok (.iconst 1, 1) := by decide +kernel
theorem dX12_readLine_63 : decode cX12_readLine 63 = .ok (.goto 4, 3) := by decide +kernel
theorem dX12_readLine_66 : decode cX12_readLine 66 = .ok (.iconst 0, 1) := by decide +kernel
theorem dX12_readLine_67 : decode cX12_readLine 67 = .ok (.invokevirtual 192, 3) := by decide +kernel
theorem dX12_readLine_70 : decode cX12_readLine 70 = .ok (.ifCond .eq 10, 3) := by decide +kernel
theorem dX12_readLine_73 : decode cX12_readLine 73 = .ok (.aload_n 0, 1) := by decide +kernel
theorem dX12_readLine_74 : decode cX12_readLine 74 = .ok (.invokevirtual 199, 3) := by decide +kernel
theorem dX12_readLine_77 : decode cX12_readLine 77 = .ok (.goto 110, 3) := by decide +kernel
theorem dX12_readLine_80 : decode cX12_readLine 80 = .ok (.aload_n 0, 1) := by decide +kernel
theorem dX12_readLine_81 : decode cX12_readLine 81 = .ok (.ldc 137, 2) := by decide +kernel
theorem dX12_readLine_83 : decode cX12_readLine 83 = .ok (.aload_n 0, 1) := by decide +kernel
theorem dX12_readLine_84 : decode cX12_readLine 84 = .ok (.getfield 23, 3) := by decide +kernel
theorem dX12_readLine_87 : decode cX12_readLine 87 = .ok (.bipush 6, 2) := by decide +kernel
theorem dX12_readLine_89 : decode cX12_readLine 89 = .ok (.iaload, 1) := by decide +kernel
theorem dX12_readLine_90 : decode cX12_readLine 90 = .ok (.iconst 5, 1) := by decide +kernel
theorem dX12_readLine_91 : decode cX12_readLine 91 = .ok (.if_icmp .ge 7, 3) := by decide +kernel
theorem dX12_readLine_94 : decode cX12_readLine 94 = .ok (.iconst 1, 1) := by decide +kernel
theorem dX12_readLine_95 : decode cX12_readLine 95 = .ok (.goto 4, 3) := by decide +kernel
theorem dX12_readLine_98 : decode cX12_readLine 98 = .ok (.iconst 0, 1) := by decide +kernel
theorem dX12_readLine_99 : decode cX12_readLine 99 = .ok (.invokevirtual 192, 3) := by decide +kernel
theorem dX12_readLine_102 : decode cX12_readLine 102 = .ok (.ifCond .eq 10, 3) := by decide +kernel
theorem dX12_readLine_105 : decode cX12_readLine 105 = .ok (.aload_n 0, 1) := by decide +kernel
theorem dX12_readLine_106 : decode cX12_readLine 106 = .ok (.invokevirtual 202, 3) := by decide +kernel
theorem dX12_readLine_109 : decode cX12_readLine 109 = .ok (.goto 78, 3) := by decide +kernel
theorem dX12_readLine_112 : decode cX12_readLine 112 = .ok (.aload_n 0, 1) := by decide +kernel
theorem dX12_readLine_113 : decode cX12_readLine 113 = .ok (.ldc 139, 2) := by decide +kernel
theorem dX12_readLine_115 : decode cX12_readLine 115 = .ok (.aload_n 0, 1) := by decide +kernel
theorem dX12_readLine_116 : decode cX12_readLine 116 = .ok (.getfield 23, 3) := by decide +kernel
theorem dX12_readLine_119 : decode cX12_readLine 119 = .ok (.bipush 7, 2) := by decide +kernel
theorem dX12_readLine_121 : decode cX12_readLine 121 = .ok (.iaload, 1) := by decide +kernel
theorem dX12_readLine_122 : decode cX12_readLine 122 = .ok (.bipush 8, 2) := by decide +kernel
theorem dX12_readLine_124 : decode cX12_readLine 124 = .ok (.if_icmp .ge 7, 3) := by decide +kernel
theorem dX12_readLine_127 : decode cX12_readLine 127 = .ok (.iconst 1, 1) := by decide +kernel
theorem dX12_readLine_128 : decode cX12_readLine 128 = .ok (.goto 4, 3) := by decide +kernel
theorem dX12_readLine_131 : decode cX12_readLine 131 = .ok (.iconst 0, 1) := by decide +kernel
theorem dX12_readLine_132 : decode cX12_readLine 132 = .ok (.invokevirtual 192, 3) := by decide +kernel
theorem dX12_readLine_135 : decode cX12_readLine 135 = .ok (.ifCond .eq 10, 3) := by decide +kernel
theorem dX12_readLine_138 : decode cX12_readLine 138 = .ok (.aload_n 0, 1) := by decide +kernel
theorem dX12_readLine_139 : decode cX12_readLine 139 = .ok (.invokevirtual 205, 3) := by decide +kernel
theorem dX12_readLine_142 : decode cX12_readLine 142 = .ok (.goto 45, 3) := by decide +kernel
theorem dX12_readLine_145 : decode cX12_readLine 145 = .ok (.aload_n 0, 1) := by decide +kernel
theorem dX12_readLine_146 : decode cX12_readLine 146 = .ok (.ldc 141, 2) := by decide +kernel
theorem dX12_readLine_148 : decode cX12_readLine 148 = .ok (.aload_n 0, 1) := by decide +kernel
theorem dX12_readLine_149 : decode cX12_readLine 149 = .ok (.getfield 23, 3) := by decide +kernel
theorem dX12_readLine_152 : decode cX12_readLine 152 = .ok (.bipush 8, 2) := by decide +kernel
theorem dX12_readLine_154 : decode cX12_readLine 154 = .ok (.iaload, 1) := by decide +kernel
theorem dX12_readLine_155 : decode cX12_readLine 155 = .ok (.bipush 8, 2) := by decide +kernel
theorem dX12_readLine_157 : decode cX12_readLine 157 = .ok (.if_icmp .ge 7, 3) := by decide +kernel
theorem dX12_readLine_160 : decode cX12_readLine 160 = .ok (.iconst 1, 1) := by decide +kernel
theorem dX12_readLine_161 : decode cX12_readLine 161 = .ok (.goto 4, 3) := by decide +kernel
theorem dX12_readLine_164 : decode cX12_readLine 164 = .ok (.iconst 0, 1) := by decide +kernel
theorem dX12_readLine_165 : decode cX12_readLine 165 = .ok (.invokevirtual 192, 3) := by decide +kernel
theorem dX12_readLine_168 : decode cX12_readLine 168 = .ok (.ifCond .eq 10, 3) := by decide +kernel
theorem dX12_readLine_171 : decode cX12_readLine 171 = .ok (.aload_n 0, 1) := by decide +kernel
theorem dX12_readLine_172 : decode cX12_readLine 172 = .ok (.invokevirtual 208, 3) := by decide +kernel
theorem dX12_readLine_175 : decode cX12_readLine 175 = .ok (.goto 12, 3) := by decide +kernel
theorem dX12_readLine_178 : decode cX12_readLine 178 = .ok (.aload_n 0, 1) := by decide +kernel
theorem dX12_readLine_179 : decode cX12_readLine 179 = .ok (.iconst 1, 1) := by decide +kernel
theorem dX12_readLine_180 : decode cX12_readLine 180 = .ok (.aload_n 0, 1) := by decide +kernel
theorem dX12_readLine_181 : decode cX12_readLine 181 = .ok (.getfield 81, 3) := by decide +kernel
theorem dX12_readLine_184 : decode cX12_readLine 184 = .ok (.invokevirtual 127, 3) := by decide +kernel
theorem dX12_readLine_187 : decode cX12_readLine 187 = .ok (.return_, 1) := by decide +kernel
theorem dX12_postLine_0 : decode cX12_postLine 0 = .ok (.aload_n 0, 1) := by decide +kernel
theorem dX12_postLine_1 : decode cX12_postLine 1 = .ok (.getfield 23, 3) := by decide +kernel
theorem dX12_postLine_4 : decode cX12_postLine 4 = .ok (.bipush 9, 2) := by decide +kernel
theorem dX12_postLine_6 : decode cX12_postLine 6 = .ok (.iaload, 1) := by decide +kernel
theorem dX12_postLine_7 : decode cX12_postLine 7 = .ok (.iconst 1, 1) := by decide +kernel
theorem dX12_postLine_8 : decode cX12_postLine 8 = .ok (.if_icmp .ne 12, 3) := by decide +kernel
theorem dX12_postLine_11 : decode cX12_postLine 11 = .ok (.aload_n 0, 1) := by decide +kernel
theorem dX12_postLine_12 : decode cX12_postLine 12 = .ok (.iconst 3, 1) := by decide +kernel
theorem dX12_postLine_13 : decode cX12_postLine 13 = .ok (.aload_n 0, 1) := by decide +kernel
theorem dX12_postLine_14 : decode cX12_postLine 14 = .ok (.getfield 81, 3) := by decide +kernel
theorem dX12_postLine_17 : decode cX12_postLine 17 = .ok (.invokevirtual 127, 3) := by decide +kernel
theorem dX12_postLine_20 : decode cX12_postLine 20 = .ok (.aload_n 0, 1) := by decide +kernel
theorem dX12_postLine_21 : decode cX12_postLine 21 = .ok (.getfield 100, 3) := by decide +kernel
theorem dX12_postLine_24 : decode cX12_postLine 24 = .ok (.ifCond .eq 4, 3) := by decide +kernel
theorem dX12_postLine_27 : decode cX12_postLine 27 = .ok (.return_, 1) := by decide +kernel
theorem dX12_postLine_28 : decode cX12_postLine 28 = .ok (.aload_n 0, 1) := by decide +kernel
theorem dX12_postLine_29 : decode cX12_postLine 29 = .ok (.invokevirtual 121, 3) := by decide +kernel
theorem dX12_postLine_32 : decode cX12_postLine 32 = .ok (.aload_n 0, 1) := by decide +kernel
theorem dX12_postLine_33 : decode cX12_postLine 33 = .ok (.getfield 23, 3) := by decide +kernel
theorem dX12_postLine_36 : decode cX12_postLine 36 = .ok (.iconst 0, 1) := by decide +kernel
theorem dX12_postLine_37 : decode cX12_postLine 37 = .ok (.aload_n 0, 1) := by decide +kernel
theorem dX12_postLine_38 : decode cX12_postLine 38 = .ok (.ldc 211, 2) := by decide +kernel
theorem dX12_postLine_40 : decode cX12_postLine 40 = .ok (.iconst 2, 1) := by decide +kernel
theorem dX12_postLine_41 : decode cX12_postLine 41 = .ok (.iconst 4, 1) := by decide +kernel
theorem dX12_postLine_42 : decode cX12_postLine 42 = .ok (.invokevirtual 213, 3) := by decide +kernel
theorem dX12_postLine_45 : decode cX12_postLine 45 = .ok (.iastore, 1) := by decide +kernel
theorem dX12_postLine_46 : decode cX12_postLine 46 = .ok (.aload_n 0, 1) := by decide +kernel
theorem dX12_postLine_47 : decode cX12_postLine 47 = .ok (.getfield 23, 3) := by decide +kernel
theorem dX12_postLine_50 : decode cX12_postLine 50 = .ok (.iconst 1, 1) := by decide +kernel
theorem dX12_postLine_51 : decode cX12_postLine 51 = .ok (.aload_n 0, 1) := by decide +kernel
theorem dX12_postLine_52 : decode cX12_postLine 52 = .ok (.ldc 217, 2) := by decide +kernel
theorem dX12_postLine_54 : decode cX12_postLine 54 = .ok (.iconst 0, 1) := by decide +kernel
theorem dX12_postLine_55 : decode cX12_postLine 55 = .ok (.iconst 3, 1) := by decide +kernel
theorem dX12_postLine_56 : decode cX12_postLine 56 = .ok (.invokevirtual 213, 3) := by decide +kernel
theorem dX12_postLine_59 : decode cX12_postLine 59 = .ok (.iastore, 1) := by decide +kernel
theorem dX12_postLine_60 : decode cX12_postLine 60 = .ok (.aload_n 0, 1) := by decide +kernel
theorem dX12_postLine_61 : decode cX12_postLine 61 = .ok (.getfield 23, 3) := by decide +kernel
theorem dX12_postLine_64 : decode cX12_postLine 64 = .ok (.iconst 2, 1) := by decide +kernel
theorem dX12_postLine_65 : decode cX12_postLine 65 = .ok (.aload_n 0, 1) := by decide +kernel
theorem dX12_postLine_66 : decode cX12_postLine 66 = .ok (.ldc 219, 2) := by decide +kernel
theorem dX12_postLine_68 : decode cX12_postLine 68 = .ok (.iconst 0, 1) := by decide +kernel
theorem dX12_postLine_69 : decode cX12_postLine 69 = .ok (.bipush 50, 2) := by decide +kernel
theorem dX12_postLine_71 : decode cX12_postLine 71 = .ok (.invokevirtual 213, 3) := by decide +kernel
theorem dX12_postLine_74 : decode cX12_postLine 74 = .ok (.iastore, 1) := by decide +kernel
theorem dX12_postLine_75 : decode cX12_postLine 75 = .ok (.aload_n 0, 1) := by decide +kernel
theorem dX12_postLine_76 : decode cX12_postLine 76 = .ok (.getfield 23, 3) := by decide +kernel
theorem dX12_postLine_79 : decode cX12_postLine 79 = .ok (.iconst 3, 1) := by decide +kernel
theorem dX12_postLine_80 : decode cX12_postLine 80 = .ok (.aload_n 0, 1) := by decide +kernel
theorem dX12_postLine_81 : decode cX12_postLine 81 = .ok (.ldc 221, 2) := by decide +kernel
theorem dX12_postLine_83 : decode cX12_postLine 83 = .ok (.iconst 0, 1) := by decide +kernel
theorem dX12_postLine_84 : decode cX12_postLine 84 = .ok (.bipush 100, 2) := by decide +kernel
theorem dX12_postLine_86 : decode cX12_postLine 86 = .ok (.invokevirtual 213, 3) := by decide +kernel
theorem dX12_postLine_89 : decode cX12_postLine 89 = .ok (.iastore, 1) := by decide +kernel
theorem dX12_postLine_90 : decode cX12_postLine 90 = .ok (.aload_n 0, 1) := by decide +kernel
theorem dX12_postLine_91 : decode cX12_postLine 91 = .ok (.getfield 100, 3) := by decide +kernel
theorem dX12_postLine_94 : decode cX12_postLine 94 = .ok (.ifCond .ne 11, 3) := by decide +kernel
theorem dX12_postLine_97 : decode cX12_postLine 97 = .ok (.aload_n 0, 1) := by decide +kernel
theorem dX12_postLine_98 : decode cX12_postLine 98 = .ok (.getfield 23, 3) := by decide +kernel
theorem dX12_postLine_101 : decode cX12_postLine 101 = .ok (.bipush 9, 2) := by decide +kernel
theorem dX12_postLine_103 : decode cX12_postLine 103 = .ok (.iconst 1, 1) := by decide +kernel
theorem dX12_postLine_104 : decode cX12_postLine 104 = .ok (.iastore, 1) := by decide +kernel
theorem dX12_postLine_105 : decode cX12_postLine 105 = .ok (.return_, 1) := by decide +kernel
theorem dX12_islandLine_0 : decode cX12_islandLine 0 = .ok (.aload_n 0, 1) := by decide +kernel
theorem dX12_islandLine_1 : decode cX12_islandLine 1 = .ok (.getfield 100, 3) := by decide +kernel
theorem dX12_islandLine_4 : decode cX12_islandLine 4 = .ok (.ifCond .eq 4, 3) := by decide +kernel
theorem dX12_islandLine_7 : decode cX12_islandLine 7 = .ok (.return_, 1) := by decide +kernel
theorem dX12_islandLine_8 : decode cX12_islandLine 8 = .ok (.aload_n 0, 1) := by decide +kernel
theorem dX12_islandLine_9 : decode cX12_islandLine 9 = .ok (.getfield 23, 3) := by decide +kernel
theorem dX12_islandLine_12 : decode cX12_islandLine 12 = .ok (.iconst 4, 1) := by decide +kernel
theorem dX12_islandLine_13 : decode cX12_islandLine 13 = .ok (.iaload, 1) := by decide +kernel
theorem dX12_islandLine_14 : decode cX12_islandLine 14 = .ok (.istore_n 1, 1) := by decide +kernel
theorem dX12_islandLine_15 : decode cX12_islandLine 15 = .ok (.aload_n 0, 1) := by decide +kernel
theorem dX12_islandLine_16 : decode cX12_islandLine 16 = .ok (.iload_n 1, 1) := by decide +kernel
theorem dX12_islandLine_17 : decode cX12_islandLine 17 = .ok (.invokevirtual 223, 3) := by decide +kernel
theorem dX12_islandLine_20 : decode cX12_islandLine 20 = .ok (.aload_n 0, 1) := by decide +kernel
theorem dX12_islandLine_21 : decode cX12_islandLine 21 = .ok (.getfield 100, 3) := by decide +kernel
theorem dX12_islandLine_24 : decode cX12_islandLine 24 = .ok (.ifCond .ne 20, 3) := by decide +kernel
theorem dX12_islandLine_27 : decode cX12_islandLine 27 = .ok (.aload_n 0, 1) := by decide +kernel
theorem dX12_islandLine_28 : decode cX12_islandLine 28 = .ok (.getfield 90, 3) := by decide +kernel
theorem dX12_islandLine_31 : decode cX12_islandLine 31 = .ok (.iconst 2, 1) := by decide +kernel
theorem dX12_islandLine_32 : decode cX12_islandLine 32 = .ok (.if_icmp .eq 12, 3) := by decide +kernel
theorem dX12_islandLine_35 : decode cX12_islandLine 35 = .ok (.aload_n 0, 1) := by decide +kernel
theorem dX12_islandLine_36 : decode cX12_islandLine 36 = .ok (.iconst 1, 1) := by decide +kernel
theorem dX12_islandLine_37 : decode cX12_islandLine 37 = .ok (.aload_n 0, 1) := by decide +kernel
theorem dX12_islandLine_38 : decode cX12_islandLine 38 = .ok (.getfield 81, 3) := by decide +kernel
theorem dX12_islandLine_41 : decode cX12_islandLine 41 = .ok (.invokevirtual 127, 3) := by decide +kernel
theorem dX12_islandLine_44 : decode cX12_islandLine 44 = .ok (.aload_n 0, 1) := by decide +kernel
theorem dX12_islandLine_45 : decode cX12_islandLine 45 = .ok (.getfield 100, 3) := by decide +kernel
theorem dX12_islandLine_48 : decode cX12_islandLine 48 = .ok (.ifCond .eq 4, 3) := by decide +kernel
theorem dX12_islandLine_51 : decode cX12_islandLine 51 = .ok (.return_, 1) := by decide +kernel
theorem dX12_islandLine_52 : decode cX12_islandLine 52 = .ok (.aload_n 0, 1) := by decide +kernel
theorem dX12_islandLine_53 : decode cX12_islandLine 53 = .ok (.getfield 84, 3) := by decide +kernel
theorem dX12_islandLine_56 : decode cX12_islandLine 56 = .ok (.iconst 2, 1) := by decide +kernel
theorem dX12_islandLine_57 : decode cX12_islandLine 57 = .ok (.bipush 6, 2) := by decide +kernel
theorem dX12_islandLine_59 : decode cX12_islandLine 59 = .ok (.invokestatic 149, 3) := by decide +kernel
theorem dX12_islandLine_62 : decode cX12_islandLine 62 = .ok (.istore_n 2, 1) := by decide +kernel
theorem dX12_islandLine_63 : decode cX12_islandLine 63 = .ok (.iconst 0, 1) := by decide +kernel
theorem dX12_islandLine_64 : decode cX12_islandLine 64 = .ok (.istore_n 3, 1) := by decide +kernel
theorem dX12_islandLine_65 : decode cX12_islandLine 65 = .ok (.iload_n 3, 1) := by decide +kernel
theorem dX12_islandLine_66 : decode cX12_islandLine 66 = .ok (.aload_n 0, 1) := by decide +kernel
theorem dX12_islandLine_67 : decode cX12_islandLine 67 = .ok (.getfield 84, 3) := by decide +kernel
theorem dX12_islandLine_70 : decode cX12_islandLine 70 = .ok (.if_icmp .ge 37, 3) := by decide +kernel
theorem dX12_islandLine_73 : decode cX12_islandLine 73 = .ok (.iload_n 2, 1) := by decide +kernel
theorem dX12_islandLine_74 : decode cX12_islandLine 74 = .ok (.ifCond .eq 25, 3) := by decide +kernel
theorem dX12_islandLine_77 : decode cX12_islandLine 77 = .ok (.aload_n 0, 1) := by decide +kernel
theorem dX12_islandLine_78 : decode cX12_islandLine 78 = .ok (.getfield 17, 3) := by decide +kernel
theorem dX12_islandLine_81 : decode cX12_islandLine 81 = .ok (.iload_n 3, 1) := by decide +kernel
theorem dX12_islandLine_82 : decode cX12_islandLine 82 = .ok (.iaload, 1) := by decide +kernel
theorem dX12_islandLine_83 : decode cX12_islandLine 83 = .ok (.bipush 97, 2) := by decide +kernel
theorem dX12_islandLine_85 : decode cX12_islandLine 85 = .ok (.isub, 1) := by decide +kernel
theorem dX12_islandLine_86 : decode cX12_islandLine 86 = .ok (.aload_n 0, 1) := by decide +kernel
theorem dX12_islandLine_87 : decode cX12_islandLine 87 = .ok (.getfield 23, 3) := by decide +kernel
theorem dX12_islandLine_90 : decode cX12_islandLine 90 = .ok (.iconst 0, 1) := by decide +kernel
theorem dX12_islandLine_91 : decode cX12_islandLine 91 = .ok (.iaload, 1) := by decide +kernel
theorem dX12_islandLine_92 : decode cX12_islandLine 92 = .ok (.if_icmp .ge 7, 3) := by decide +kernel
theorem dX12_islandLine_95 : decode cX12_islandLine 95 = .ok (.iconst 1, 1) := by decide +kernel
theorem dX12_islandLine_96 : decode cX12_islandLine 96 = .ok (.goto 4, 3) := by decide +kernel
theorem dX12_islandLine_99 : decode cX12_islandLine 99 = .ok (.iconst 0, 1) := by decide +kernel
theorem dX12_islandLine_100 : decode cX12_islandLine 100 = .ok (.istore_n 2, 1) := by decide +kernel
theorem dX12_islandLine_101 : decode cX12_islandLine 101 = .ok (.iinc 3 1, 3) := by decide +kernel
theorem dX12_islandLine_104 : decode cX12_islandLine 104 = .ok (.goto (-39), 3) := by decide +kernel
theorem dX12_islandLine_107 : decode cX12_islandLine 107 = .ok (.iconst 0, 1) := by decide +kernel
theorem dX12_islandLine_108 : decode cX12_islandLine 108 = .ok (.istore_n 3, 1) := by decide +kernel
theorem dX12_islandLine_109 : decode cX12_islandLine 109 = .ok (.iconst 0, 1) := by decide +kernel
theorem dX12_islandLine_110 : decode cX12_islandLine 110 = .ok (.istore 4, 2) := by decide +kernel
theorem dX12_islandLine_112 : decode cX12_islandLine 112 = .ok (.iload 4, 2) := by decide +kernel
theorem dX12_islandLine_114 : decode cX12_islandLine 114 = .ok (.iload_n 1, 1) := by decide +kernel
theorem dX12_islandLine_115 : decode cX12_islandLine 115 = .ok (.if_icmp .ge 28, 3) := by decide +kernel
theorem dX12_islandLine_118 : decode cX12_islandLine 118 = .ok (.iload_n 3, 1) := by decide +kernel
theorem dX12_islandLine_119 : decode cX12_islandLine 119 = .ok (.ifCond .ne 12, 3) := by decide +kernel
theorem dX12_islandLine_122 : decode cX12_islandLine 122 = .ok (.aload_n 0, 1) := by decide +kernel
theorem dX12_islandLine_123 : decode cX12_islandLine 123 = .ok (.iload 4, 2) := by decide +kernel
theorem dX12_islandLine_125 : decode cX12_islandLine 125 = .ok (.invokevirtual 227, 3) := by decide +kernel
theorem dX12_islandLine_128 : decode cX12_islandLine 128 = .ok (.ifCond .eq 7, 3) := by decide +kernel
theorem dX12_islandLine_131 : decode cX12_islandLine 131 = .ok (.iconst 1, 1) := by decide +kernel
theorem dX12_islandLine_132 : decode cX12_islandLine 132 = .ok (.goto 4, 3) := by decide +kernel
theorem dX12_islandLine_135 : decode cX12_islandLine 135 = .ok (.iconst 0, 1) := by decide +kernel
theorem dX12_islandLine_136 : decode cX12_islandLine 136 = .ok (.istore_n 3, 1) := by decide +kernel
theorem dX12_islandLine_137 : decode cX12_islandLine 137 = .ok (.iinc 4 1, 3) := by decide +kernel
theorem dX12_islandLine_140 : decode cX12_islandLine 140 = .ok (.goto (-28), 3) := by decide +kernel
theorem dX12_islandLine_143 : decode cX12_islandLine 143 = .ok (.iload_n 3, 1) := by decide +kernel
theorem dX12_islandLine_144 : decode cX12_islandLine 144 = .ok (.ifCond .eq 15, 3) := by decide +kernel
theorem dX12_islandLine_147 : decode cX12_islandLine 147 = .ok (.aload_n 0, 1) := by decide +kernel
theorem dX12_islandLine_148 : decode cX12_islandLine 148 = .ok (.iconst 3, 1) := by decide +kernel
theorem dX12_islandLine_149 : decode cX12_islandLine 149 = .ok (.aload_n 0, 1) := by decide +kernel
theorem dX12_islandLine_150 : decode cX12_islandLine 150 = .ok (.getfield 81, 3) := by decide +kernel
theorem dX12_islandLine_153 : decode cX12_islandLine 153 = .ok (.invokevirtual 127, 3) := by decide +kernel
theorem dX12_islandLine_156 : decode cX12_islandLine 156 = .ok (.goto 17, 3) := by decide +kernel
theorem dX12_islandLine_159 : decode cX12_islandLine 159 = .ok (.iload_n 2, 1) := by decide +kernel
theorem dX12_islandLine_160 : decode cX12_islandLine 160 = .ok (.ifCond .ne 13, 3) := by decide +kernel
theorem dX12_islandLine_163 : decode cX12_islandLine 163 = .ok (.aload_n 0, 1) := by decide +kernel
theorem dX12_islandLine_164 : decode cX12_islandLine 164 = .ok (.bipush 7, 2) := by decide +kernel
theorem dX12_islandLine_166 : decode cX12_islandLine 166 = .ok (.aload_n 0, 1) := by decide +kernel
theorem dX12_islandLine_167 : decode cX12_islandLine 167 = .ok (.getfield 81, 3) := by decide +kernel
theorem dX12_islandLine_170 : decode cX12_islandLine 170 = .ok (.invokevirtual 127, 3) := by decide +kernel
theorem dX12_islandLine_173 : decode cX12_islandLine 173 = .ok (.aload_n 0, 1) := by decide +kernel
theorem dX12_islandLine_174 : decode cX12_islandLine 174 = .ok (.getfield 100, 3) := by decide +kernel
theorem dX12_islandLine_177 : decode cX12_islandLine 177 = .ok (.ifCond .eq 4, 3) := by decide +kernel
theorem dX12_islandLine_180 : decode cX12_islandLine 180 = .ok (.return_, 1) := by decide +kernel
theorem dX12_islandLine_181 : decode cX12_islandLine 181 = .ok (.bipush 10, 2) := by decide +kernel
theorem dX12_islandLine_183 : decode cX12_islandLine 183 = .ok (.bipush 7, 2) := by decide +kernel
theorem dX12_islandLine_185 : decode cX12_islandLine 185 = .ok (.iload_n 1, 1) := by decide +kernel
theorem dX12_islandLine_186 : decode cX12_islandLine 186 = .ok (.imul, 1) := by decide +kernel
theorem dX12_islandLine_187 : decode cX12_islandLine 187 = .ok (.iadd, 1) := by decide +kernel
theorem dX12_islandLine_188 : decode cX12_islandLine 188 = .ok (.istore 4, 2) := by decide +kernel
theorem dX12_islandLine_190 : decode cX12_islandLine 190 = .ok (.aload_n 0, 1) := by decide +kernel
theorem dX12_islandLine_191 : decode cX12_islandLine 191 = .ok (.getfield 23, 3) := by decide +kernel
theorem dX12_islandLine_194 : decode cX12_islandLine 194 = .ok (.iload 4, 2) := by decide +kernel
theorem dX12_islandLine_196 : decode cX12_islandLine 196 = .ok (.aload_n 0, 1) := by decide +kernel
theorem dX12_islandLine_197 : decode cX12_islandLine 197 = .ok (.getfield 84, 3) := by decide +kernel
theorem dX12_islandLine_200 : decode cX12_islandLine 200 = .ok (.iastore, 1) := by decide +kernel
theorem dX12_islandLine_201 : decode cX12_islandLine 201 = .ok (.iconst 0, 1) := by decide +kernel
theorem dX12_islandLine_202 : decode cX12_islandLine 202 = .ok (.istore 5, 2) := by decide +kernel
theorem dX12_islandLine_204 : decode cX12_islandLine 204 = .ok (.iload 5, 2) := by decide +kernel
theorem dX12_islandLine_206 : decode cX12_islandLine 206 = .ok (.aload_n 0, 1) := by decide +kernel
theorem dX12_islandLine_207 : decode cX12_islandLine 207 = .ok (.getfield 84, 3) := by decide +kernel
theorem dX12_islandLine_210 : decode cX12_islandLine 210 = .ok (.if_icmp .ge 31, 3) := by decide +kernel
theorem dX12_islandLine_213 : decode cX12_islandLine 213 = .ok (.aload_n 0, 1) := by decide +kernel
theorem dX12_islandLine_214 : decode cX12_islandLine 214 = .ok (.getfield 23, 3) := by decide +kernel
theorem dX12_islandLine_217 : decode cX12_islandLine 217 = .ok (.iload 4, 2) := by decide +kernel
theorem dX12_islandLine_219 : decode cX12_islandLine 219 = .ok (.iconst 1, 1) := by decide +kernel
theorem dX12_islandLine_220 : decode cX12_islandLine 220 = .ok (.iadd, 1) := by decide +kernel
theorem dX12_islandLine_221 : decode cX12_islandLine 221 = .ok (.iload 5, 2) := by decide +kernel
theorem dX12_islandLine_223 : decode cX12_islandLine 223 = .ok (.iadd, 1) := by decide +kernel
theorem dX12_islandLine_224 : decode cX12_islandLine 224 = .ok (.aload_n 0, 1) := by decide +kernel
theorem dX12_islandLine_225 : decode cX12_islandLine 225 = .ok (.getfield 17, 3) := by decide +kernel
theorem dX12_islandLine_228 : decode cX12_islandLine 228 = .ok (.iload 5, 2) := by decide +kernel
theorem dX12_islandLine_230 : decode cX12_islandLine 230 = .ok (.iaload, 1) := by decide +kernel
theorem dX12_islandLine_231 : decode cX12_islandLine 231 = .ok (.bipush 97, 2) := by decide +kernel
theorem dX12_islandLine_233 : decode cX12_islandLine 233 = .ok (.isub, 1) := by decide +kernel
theorem dX12_islandLine_234 : decode cX12_islandLine 234 = .ok (.iastore, 1) := by decide +kernel
theorem dX12_islandLine_235 : decode cX12_islandLine 235 = .ok (.iinc 5 1, 3) := by decide +kernel
theorem dX12_islandLine_238 : decode cX12_islandLine 238 = .ok (.goto (-34), 3) := by decide +kernel
theorem dX12_islandLine_241 : decode cX12_islandLine 241 = .ok (.aload_n 0, 1) := by decide +kernel
theorem dX12_islandLine_242 : decode cX12_islandLine 242 = .ok (.invokevirtual 121, 3) := by decide +kernel
theorem dX12_islandLine_245 : decode cX12_islandLine 245 = .ok (.aload_n 0, 1) := by decide +kernel
theorem dX12_islandLine_246 : decode cX12_islandLine 246 = .ok (.getfield 23, 3) := by decide +kernel
theorem dX12_islandLine_249 : decode cX12_islandLine 249 = .ok (.iconst 4, 1) := by decide +kernel
theorem dX12_islandLine_250 : decode cX12_islandLine 250 = .ok (.dup2, 1) := by decide +kernel
theorem dX12_islandLine_251 : decode cX12_islandLine 251 = .ok (.iaload, 1) := by decide +kernel
theorem dX12_islandLine_252 : decode cX12_islandLine 252 = .ok (.iconst 1, 1) := by decide +kernel
theorem dX12_islandLine_253 : decode cX12_islandLine 253 = .ok (.iadd, 1) := by decide +kernel
theorem dX12_islandLine_254 : decode cX12_islandLine 254 = .ok (.iastore, 1) := by decide +kernel
theorem dX12_islandLine_255 : decode cX12_islandLine 255 = .ok (.return_, 1) := by decide +kernel
theorem dX12_isSong_0 : decode cX12_isSong 0 = .ok (.bipush 10, 2) := by decide +kernel
theorem dX12_isSong_2 : decode cX12_isSong 2 = .ok (.bipush 7, 2) := by decide +kernel
theorem dX12_isSong_4 : decode cX12_isSong 4 = .ok (.iload_n 1, 1) := by decide +kernel
theorem dX12_isSong_5 : decode cX12_isSong 5 = .ok (.imul, 1) := by decide +kernel
theorem dX12_isSong_6 : decode cX12_isSong 6 = .ok (.iadd, 1) := by decide +kernel
theorem dX12_isSong_7 : decode cX12_isSong 7 = .ok (.istore_n 2, 1) := by decide +kernel
theorem dX12_isSong_8 : decode cX12_isSong 8 = .ok (.aload_n 0, 1) := by decide +kernel
theorem dX12_isSong_9 : decode cX12_isSong 9 = .ok (.getfield 23, 3) := by decide +kernel
theorem dX12_isSong_12 : decode cX12_isSong 12 = .ok (.iload_n 2, 1) := by decide +kernel
theorem dX12_isSong_13 : decode cX12_isSong 13 = .ok (.iaload, 1) := by decide +kernel
theorem dX12_isSong_14 : decode cX12_isSong 14 = .ok (.aload_n 0, 1) := by decide +kernel
theorem dX12_isSong_15 : decode cX12_isSong 15 = .ok (.getfield 84, 3) := by decide +kernel
theorem dX12_isSong_18 : decode cX12_isSong 18 = .ok (.if_icmp .ne 7, 3) := by decide +kernel
theorem dX12_isSong_21 : decode cX12_isSong 21 = .ok (.iconst 1, 1) := by decide +kernel
theorem dX12_isSong_22 : decode cX12_isSong 22 = .ok (.goto 4, 3) := by decide +kernel
theorem dX12_isSong_25 : decode cX12_isSong 25 = .ok (.iconst 0, 1) := by decide +kernel
theorem dX12_isSong_26 : decode cX12_isSong 26 = .ok (.istore_n 3, 1) := by decide +kernel
theorem dX12_isSong_27 : decode cX12_isSong 27 = .ok (.iconst 0, 1) := by decide +kernel
theorem dX12_isSong_28 : decode cX12_isSong 28 = .ok (.istore 4, 2) := by decide +kernel
theorem dX12_isSong_30 : decode cX12_isSong 30 = .ok (.iload 4, 2) := by decide +kernel
theorem dX12_isSong_32 : decode cX12_isSong 32 = .ok (.aload_n 0, 1) := by decide +kernel
theorem dX12_isSong_33 : decode cX12_isSong 33 = .ok (.getfield 84, 3) := by decide +kernel
theorem dX12_isSong_36 : decode cX12_isSong 36 = .ok (.if_icmp .ge 43, 3) := by decide +kernel
theorem dX12_isSong_39 : decode cX12_isSong 39 = .ok (.iload_n 3, 1) := by decide +kernel
theorem dX12_isSong_40 : decode cX12_isSong 40 = .ok (.ifCond .eq 39, 3) := by decide +kernel
theorem dX12_isSong_43 : decode cX12_isSong 43 = .ok (.aload_n 0, 1) := by decide +kernel
theorem dX12_isSong_44 : decode cX12_isSong 44 = .ok (.getfield 23, 3) := by decide +kernel
theorem dX12_isSong_47 : decode cX12_isSong 47 = .ok (.iload_n 2, 1) := by decide +kernel
theorem dX12_isSong_48 : decode cX12_isSong 48 = .ok (.iconst 1, 1) := by decide +kernel
theorem dX12_isSong_49 : decode cX12_isSong 49 = .ok (.iadd, 1) := by decide +kernel
theorem dX12_isSong_50 : decode cX12_isSong 50 = .ok (.iload 4, 2) := by decide +kernel
theorem dX12_isSong_52 : decode cX12_isSong 52 = .ok (.iadd, 1) := by decide +kernel
theorem dX12_isSong_53 : decode cX12_isSong 53 = .ok (.iaload, 1) := by decide +kernel
theorem dX12_isSong_54 : decode cX12_isSong 54 = .ok (.aload_n 0, 1) := by decide +kernel
theorem dX12_isSong_55 : decode cX12_isSong 55 = .ok (.getfield 17, 3) := by decide +kernel
theorem dX12_isSong_58 : decode cX12_isSong 58 = .ok (.iload 4, 2) := by decide +kernel
theorem dX12_isSong_60 : decode cX12_isSong 60 = .ok (.iaload, 1) := by decide +kernel
theorem dX12_isSong_61 : decode cX12_isSong 61 = .ok (.bipush 97, 2) := by decide +kernel
theorem dX12_isSong_63 : decode cX12_isSong 63 = .ok (.isub, 1) := by decide +kernel
theorem dX12_isSong_64 : decode cX12_isSong 64 = .ok (.if_icmp .ne 7, 3) := by decide +kernel
theorem dX12_isSong_67 : decode cX12_isSong 67 = .ok (.iconst 1, 1) := by decide +kernel
theorem dX12_isSong_68 : decode cX12_isSong 68 = .ok (.goto 4, 3) := by decide +kernel
theorem dX12_isSong_71 : decode cX12_isSong 71 = .ok (.iconst 0, 1) := by decide +kernel
theorem dX12_isSong_72 : decode cX12_isSong 72 = .ok (.istore_n 3, 1) := by decide +kernel
theorem dX12_isSong_73 : decode cX12_isSong 73 = .ok (.iinc 4 1, 3) := by decide +kernel
theorem dX12_isSong_76 : decode cX12_isSong 76 = .ok (.goto (-46), 3) := by decide +kernel
theorem dX12_isSong_79 : decode cX12_isSong 79 = .ok (.iload_n 3, 1) := by decide +kernel
theorem dX12_isSong_80 : decode cX12_isSong 80 = .ok (.ireturn, 1) := by decide +kernel
theorem dX12_wayLine_0 : decode cX12_wayLine 0 = .ok (.aload_n 0, 1) := by decide +kernel
theorem dX12_wayLine_1 : decode cX12_wayLine 1 = .ok (.getfield 100, 3) := by decide +kernel
theorem dX12_wayLine_4 : decode cX12_wayLine 4 = .ok (.ifCond .eq 4, 3) := by decide +kernel
theorem dX12_wayLine_7 : decode cX12_wayLine 7 = .ok (.return_, 1) := by decide +kernel
theorem dX12_wayLine_8 : decode cX12_wayLine 8 = .ok (.bipush 59, 2) := by decide +kernel
theorem dX12_wayLine_10 : decode cX12_wayLine 10 = .ok (.iconst 4, 1) := by decide +kernel
theorem dX12_wayLine_11 : decode cX12_wayLine 11 = .ok (.aload_n 0, 1) := by decide +kernel
theorem dX12_wayLine_12 : decode cX12_wayLine 12 = .ok (.getfield 23, 3) := by decide +kernel
theorem dX12_wayLine_15 : decode cX12_wayLine 15 = .ok (.iconst 5, 1) := by decide +kernel
theorem dX12_wayLine_16 : decode cX12_wayLine 16 = .ok (.iaload, 1) := by decide +kernel
theorem dX12_wayLine_17 : decode cX12_wayLine 17 = .ok (.imul, 1) := by decide +kernel
theorem dX12_wayLine_18 : decode cX12_wayLine 18 = .ok (.iadd, 1) := by decide +kernel
theorem dX12_wayLine_19 : decode cX12_wayLine 19 = .ok (.istore_n 1, 1) := by decide +kernel
theorem dX12_wayLine_20 : decode cX12_wayLine 20 = .ok (.aload_n 0, 1) := by decide +kernel
theorem dX12_wayLine_21 : decode cX12_wayLine 21 = .ok (.invokevirtual 161, 3) := by decide +kernel
theorem dX12_wayLine_24 : decode cX12_wayLine 24 = .ok (.istore_n 2, 1) := by decide +kernel
theorem dX12_wayLine_25 : decode cX12_wayLine 25 = .ok (.aload_n 0, 1) := by decide +kernel
theorem dX12_wayLine_26 : decode cX12_wayLine 26 = .ok (.iconst 0, 1) := by decide +kernel
theorem dX12_wayLine_27 : decode cX12_wayLine 27 = .ok (.bipush 6, 2) := by decide +kernel
theorem dX12_wayLine_29 : decode cX12_wayLine 29 = .ok (.invokevirtual 153, 3) := by decide +kernel
theorem dX12_wayLine_32 : decode cX12_wayLine 32 = .ok (.istore_n 3, 1) := by decide +kernel
theorem dX12_wayLine_33 : decode cX12_wayLine 33 = .ok (.iload_n 2, 1) := by decide +kernel
theorem dX12_wayLine_34 : decode cX12_wayLine 34 = .ok (.iload_n 3, 1) := by decide +kernel
theorem dX12_wayLine_35 : decode cX12_wayLine 35 = .ok (.if_icmp .ne 7, 3) := by decide +kernel
theorem dX12_wayLine_38 : decode cX12_wayLine 38 = .ok (.iconst 1, 1) := by decide +kernel
theorem dX12_wayLine_39 : decode cX12_wayLine 39 = .ok (.goto 4, 3) := by decide +kernel
theorem dX12_wayLine_42 : decode cX12_wayLine 42 = .ok (.iconst 0, 1) := by decide +kernel
theorem dX12_wayLine_43 : decode cX12_wayLine 43 = .ok (.istore 4, 2) := by decide +kernel
theorem dX12_wayLine_45 : decode cX12_wayLine 45 = .ok (.iconst 0, 1) := by decide +kernel
theorem dX12_wayLine_46 : decode cX12_wayLine 46 = .ok (.istore 5, 2) := by decide +kernel
theorem dX12_wayLine_48 : decode cX12_wayLine 48 = .ok (.iload 5, 2) := by decide +kernel
theorem dX12_wayLine_50 : decode cX12_wayLine 50 = .ok (.aload_n 0, 1) := by decide +kernel
theorem dX12_wayLine_51 : decode cX12_wayLine 51 = .ok (.getfield 23, 3) := by decide +kernel
theorem dX12_wayLine_54 : decode cX12_wayLine 54 = .ok (.iconst 5, 1) := by decide +kernel
theorem dX12_wayLine_55 : decode cX12_wayLine 55 = .ok (.iaload, 1) := by decide +kernel
theorem dX12_wayLine_56 : decode cX12_wayLine 56 = .ok (.if_icmp .ge 35, 3) := by decide +kernel
theorem dX12_wayLine_59 : decode cX12_wayLine 59 = .ok (.iload 4, 2) := by decide +kernel
theorem dX12_wayLine_61 : decode cX12_wayLine 61 = .ok (.ifCond .ne 17, 3) := by decide +kernel
theorem dX12_wayLine_64 : decode cX12_wayLine 64 = .ok (.aload_n 0, 1) := by decide +kernel
theorem dX12_wayLine_65 : decode cX12_wayLine 65 = .ok (.getfield 23, 3) := by decide +kernel
theorem dX12_wayLine_68 : decode cX12_wayLine 68 = .ok (.iload 5, 2) := by decide +kernel
theorem dX12_wayLine_70 : decode cX12_wayLine 70 = .ok (.iload_n 2, 1) := by decide +kernel
theorem dX12_wayLine_71 : decode cX12_wayLine 71 = .ok (.iload_n 3, 1) := by decide +kernel
theorem dX12_wayLine_72 : decode cX12_wayLine 72 = .ok (.invokestatic 230, 3) := by decide +kernel
theorem dX12_wayLine_75 : decode cX12_wayLine 75 = .ok (.ifCond .eq 7, 3) := by decide +kernel
theorem dX12_wayLine_78 : decode cX12_wayLine 78 = .ok (.iconst 1, 1) := by decide +kernel
theorem dX12_wayLine_79 : decode cX12_wayLine 79 = .ok (.goto 4, 3) := by decide +kernel
theorem dX12_wayLine_82 : decode cX12_wayLine 82 = .ok (.iconst 0, 1) := by decide +kernel
theorem dX12_wayLine_83 : decode cX12_wayLine 83 = .ok (.istore 4, 2) := by decide +kernel
theorem dX12_wayLine_85 : decode cX12_wayLine 85 = .ok (.iinc 5 1, 3) := by decide +kernel
theorem dX12_wayLine_88 : decode cX12_wayLine 88 = .ok (.goto (-40), 3) := by decide +kernel
theorem dX12_wayLine_91 : decode cX12_wayLine 91 = .ok (.aload_n 0, 1) := by decide +kernel
theorem dX12_wayLine_92 : decode cX12_wayLine 92 = .ok (.getfield 100, 3) := by decide +kernel
theorem dX12_wayLine_95 : decode cX12_wayLine 95 = .ok (.ifCond .ne 17, 3) := by decide +kernel
theorem dX12_wayLine_98 : decode cX12_wayLine 98 = .ok (.iload 4, 2) := by decide +kernel
theorem dX12_wayLine_100 : decode cX12_wayLine 100 = .ok (.ifCond .eq 12, 3) := by decide +kernel
theorem dX12_wayLine_103 : decode cX12_wayLine 103 = .ok (.aload_n 0, 1) := by decide +kernel
theorem dX12_wayLine_104 : decode cX12_wayLine 104 = .ok (.iconst 3, 1) := by decide +kernel
theorem dX12_wayLine_105 : decode cX12_wayLine 105 = .ok (.aload_n 0, 1) := by decide +kernel
theorem dX12_wayLine_106 : decode cX12_wayLine 106 = .ok (.getfield 81, 3) := by decide +kernel
theorem dX12_wayLine_109 : decode cX12_wayLine 109 = .ok (.invokevirtual 127, 3) := by decide +kernel
theorem dX12_wayLine_112 : decode cX12_wayLine 112 = .ok (.aload_n 0, 1) := by decide +kernel
theorem dX12_wayLine_113 : decode cX12_wayLine 113 = .ok (.getfield 100, 3) := by decide +kernel
theorem dX12_wayLine_116 : decode cX12_wayLine 116 = .ok (.ifCond .eq 4, 3) := by decide +kernel
theorem dX12_wayLine_119 : decode cX12_wayLine 119 = .ok (.return_, 1) := by decide +kernel
theorem dX12_wayLine_120 : decode cX12_wayLine 120 = .ok (.aload_n 0, 1) := by decide +kernel
theorem dX12_wayLine_121 : decode cX12_wayLine 121 = .ok (.invokevirtual 121, 3) := by decide +kernel
theorem dX12_wayLine_124 : decode cX12_wayLine 124 = .ok (.aload_n 0, 1) := by decide +kernel
theorem dX12_wayLine_125 : decode cX12_wayLine 125 = .ok (.getfield 23, 3) := by decide +kernel
theorem dX12_wayLine_128 : decode cX12_wayLine 128 = .ok (.iload_n 1, 1) := by decide +kernel
theorem dX12_wayLine_129 : decode cX12_wayLine 129 = .ok (.iload_n 2, 1) := by decide +kernel
theorem dX12_wayLine_130 : decode cX12_wayLine 130 = .ok (.iastore, 1) := by decide +kernel
theorem dX12_wayLine_131 : decode cX12_wayLine 131 = .ok (.aload_n 0, 1) := by decide +kernel
theorem dX12_wayLine_132 : decode cX12_wayLine 132 = .ok (.getfield 23, 3) := by decide +kernel
theorem dX12_wayLine_135 : decode cX12_wayLine 135 = .ok (.iload_n 1, 1) := by decide +kernel
theorem dX12_wayLine_136 : decode cX12_wayLine 136 = .ok (.iconst 1, 1) := by decide +kernel
theorem dX12_wayLine_137 : decode cX12_wayLine 137 = .ok (.iadd, 1) := by decide +kernel
theorem dX12_wayLine_138 : decode cX12_wayLine 138 = .ok (.iload_n 3, 1) := by decide +kernel
theorem dX12_wayLine_139 : decode cX12_wayLine 139 = .ok (.iastore, 1) := by decide +kernel
theorem dX12_wayLine_140 : decode cX12_wayLine 140 = .ok (.aload_n 0, 1) := by decide +kernel
theorem dX12_wayLine_141 : decode cX12_wayLine 141 = .ok (.getfield 23, 3) := by decide +kernel
theorem dX12_wayLine_144 : decode cX12_wayLine 144 = .ok (.iload_n 1, 1) := by decide +kernel
theorem dX12_wayLine_145 : decode cX12_wayLine 145 = .ok (.iconst 2, 1) := by decide +kernel
theorem dX12_wayLine_146 : decode cX12_wayLine 146 = .ok (.iadd, 1) := by decide +kernel
theorem dX12_wayLine_147 : decode cX12_wayLine 147 = .ok (.aload_n 0, 1) := by decide +kernel
theorem dX12_wayLine_148 : decode cX12_wayLine 148 = .ok (.ldc 234, 2) := by decide +kernel
theorem dX12_wayLine_150 : decode cX12_wayLine 150 = .ok (.iconst 1, 1) := by decide +kernel
theorem dX12_wayLine_151 : decode cX12_wayLine 151 = .ok (.bipush 99, 2) := by decide +kernel
theorem dX12_wayLine_153 : decode cX12_wayLine 153 = .ok (.invokevirtual 213, 3) := by decide +kernel
theorem dX12_wayLine_156 : decode cX12_wayLine 156 = .ok (.iastore, 1) := by decide +kernel
theorem dX12_wayLine_157 : decode cX12_wayLine 157 = .ok (.aload_n 0, 1) := by decide +kernel
theorem dX12_wayLine_158 : decode cX12_wayLine 158 = .ok (.getfield 23, 3) := by decide +kernel
theorem dX12_wayLine_161 : decode cX12_wayLine 161 = .ok (.iload_n 1, 1) := by decide +kernel
theorem dX12_wayLine_162 : decode cX12_wayLine 162 = .ok (.iconst 3, 1) := by decide +kernel
theorem dX12_wayLine_163 : decode cX12_wayLine 163 = .ok (.iadd, 1) := by decide +kernel
theorem dX12_wayLine_164 : decode cX12_wayLine 164 = .ok (.aload_n 0, 1) := by decide +kernel
theorem dX12_wayLine_165 : decode cX12_wayLine 165 = .ok (.ldc 235, 2) := by decide +kernel
theorem dX12_wayLine_167 : decode cX12_wayLine 167 = .ok (.iconst 1, 1) := by decide +kernel
theorem dX12_wayLine_168 : decode cX12_wayLine 168 = .ok (.bipush 15, 2) := by decide +kernel
theorem dX12_wayLine_170 : decode cX12_wayLine 170 = .ok (.invokevirtual 213, 3) := by decide +kernel
theorem dX12_wayLine_173 : decode cX12_wayLine 173 = .ok (.iastore, 1) := by decide +kernel
theorem dX12_wayLine_174 : decode cX12_wayLine 174 = .ok (.aload_n 0, 1) := by decide +kernel
theorem dX12_wayLine_175 : decode cX12_wayLine 175 = .ok (.getfield 100, 3) := by decide +kernel
theorem dX12_wayLine_178 : decode cX12_wayLine 178 = .ok (.ifCond .ne 13, 3) := by decide +kernel
theorem dX12_wayLine_181 : decode cX12_wayLine 181 = .ok (.aload_n 0, 1) := by decide +kernel
theorem dX12_wayLine_182 : decode cX12_wayLine 182 = .ok (.getfield 23, 3) := by decide +kernel
theorem dX12_wayLine_185 : decode cX12_wayLine 185 = .ok (.iconst 5, 1) := by decide +kernel
theorem dX12_wayLine_186 : decode cX12_wayLine 186 = .ok (.dup2, 1) := by decide +kernel
theorem dX12_wayLine_187 : decode cX12_wayLine 187 = .ok (.iaload, 1) := by decide +kernel
theorem dX12_wayLine_188 : decode cX12_wayLine 188 = .ok (.iconst 1, 1) := by decide +kernel
theorem dX12_wayLine_189 : decode cX12_wayLine 189 = .ok (.iadd, 1) := by decide +kernel
theorem dX12_wayLine_190 : decode cX12_wayLine 190 = .ok (.iastore, 1) := by decide +kernel
theorem dX12_wayLine_191 : decode cX12_wayLine 191 = .ok (.return_, 1) := by decide +kernel
theorem dX12_joins_0 : decode cX12_joins 0 = .ok (.aload_n 0, 1) := by decide +kernel
theorem dX12_joins_1 : decode cX12_joins 1 = .ok (.bipush 59, 2) := by decide +kernel
theorem dX12_joins_3 : decode cX12_joins 3 = .ok (.iconst 4, 1) := by decide +kernel
theorem dX12_joins_4 : decode cX12_joins 4 = .ok (.iload_n 1, 1) := by decide +kernel
theorem dX12_joins_5 : decode cX12_joins 5 = .ok (.imul, 1) := by decide +kernel
theorem dX12_joins_6 : decode cX12_joins 6 = .ok (.iadd, 1) := by decide +kernel
theorem dX12_joins_7 : decode cX12_joins 7 = .ok (.iaload, 1) := by decide +kernel
theorem dX12_joins_8 : decode cX12_joins 8 = .ok (.istore 4, 2) := by decide +kernel
theorem dX12_joins_10 : decode cX12_joins 10 = .ok (.aload_n 0, 1) := by decide +kernel
theorem dX12_joins_11 : decode cX12_joins 11 = .ok (.bipush 59, 2) := by decide +kernel
theorem dX12_joins_13 : decode cX12_joins 13 = .ok (.iconst 4, 1) := by decide +kernel
theorem dX12_joins_14 : decode cX12_joins 14 = .ok (.iload_n 1, 1) := by decide +kernel
theorem dX12_joins_15 : decode cX12_joins 15 = .ok (.imul, 1) := by decide +kernel
theorem dX12_joins_16 : decode cX12_joins 16 = .ok (.iadd, 1) := by decide +kernel
theorem dX12_joins_17 : decode cX12_joins 17 = .ok (.iconst 1, 1) := by decide +kernel
theorem dX12_joins_18 : decode cX12_joins 18 = .ok (.iadd, 1) := by decide +kernel
theorem dX12_joins_19 : decode cX12_joins 19 = .ok (.iaload, 1) := by decide +kernel
theorem dX12_joins_20 : decode cX12_joins 20 = .ok (.istore 5, 2) := by decide +kernel
theorem dX12_joins_22 : decode cX12_joins 22 = .ok (.iload 4, 2) := by decide +kernel
theorem dX12_joins_24 : decode cX12_joins 24 = .ok (.iload_n 2, 1) := by decide +kernel
theorem dX12_joins_25 : decode cX12_joins 25 = .ok (.if_icmp .ne 9, 3) := by decide +kernel
theorem dX12_joins_28 : decode cX12_joins 28 = .ok (.iload 5, 2) := by decide +kernel
theorem dX12_joins_30 : decode cX12_joins 30 = .ok (.iload_n 3, 1) := by decide +kernel
theorem dX12_joins_31 : decode cX12_joins 31 = .ok (.if_icmp .eq 15, 3) := by decide +kernel
theorem dX12_joins_34 : decode cX12_joins 34 = .ok (.iload 4, 2) := by decide +kernel
theorem dX12_joins_36 : decode cX12_joins 36 = .ok (.iload_n 3, 1) := by decide +kernel
theorem dX12_joins_37 : decode cX12_joins 37 = .ok (.if_icmp .ne 13, 3) := by decide +kernel
theorem dX12_joins_40 : decode cX12_joins 40 = .ok (.iload 5, 2) := by decide +kernel
theorem dX12_joins_42 : decode cX12_joins 42 = .ok (.iload_n 2, 1) := by decide +kernel
theorem dX12_joins_43 : decode cX12_joins 43 = .ok (.if_icmp .ne 7, 3) := by decide +kernel
theorem dX12_joins_46 : decode cX12_joins 46 = .ok (.iconst 1, 1) := by decide +kernel
theorem dX12_joins_47 : decode cX12_joins 47 = .ok (.goto 4, 3) := by decide +kernel
theorem dX12_joins_50 : decode cX12_joins 50 = .ok (.iconst 0, 1) := by decide +kernel
theorem dX12_joins_51 : decode cX12_joins 51 = .ok (.ireturn, 1) := by decide +kernel
theorem dX12_whaleLine_0 : decode cX12_whaleLine 0 = .ok (.aload_n 0, 1) := by decide +kernel
theorem dX12_whaleLine_1 : decode cX12_whaleLine 1 = .ok (.getfield 100, 3) := by decide +kernel
theorem dX12_whaleLine_4 : decode cX12_whaleLine 4 = .ok (.ifCond .eq 4, 3) := by decide +kernel
theorem dX12_whaleLine_7 : decode cX12_whaleLine 7 = .ok (.return_, 1) := by decide +kernel
theorem dX12_whaleLine_8 : decode cX12_whaleLine 8 = .ok (.bipush 107, 2) := by decide +kernel
theorem dX12_whaleLine_10 : decode cX12_whaleLine 10 = .ok (.iconst 4, 1) := by decide +kernel
theorem dX12_whaleLine_11 : decode cX12_whaleLine 11 = .ok (.aload_n 0, 1) := by decide +kernel
theorem dX12_whaleLine_12 : decode cX12_whaleLine 12 = .ok (.getfield 23, 3) := by decide +kernel
theorem dX12_whaleLine_15 : decode cX12_whaleLine 15 = .ok (.bipush 6, 2) := by decide +kernel
theorem dX12_whaleLine_17 : decode cX12_whaleLine 17 = .ok (.iaload, 1) := by decide +kernel
theorem dX12_whaleLine_18 : decode cX12_whaleLine 18 = .ok (.imul, 1) := by decide +kernel
theorem dX12_whaleLine_19 : decode cX12_whaleLine 19 = .ok (.iadd, 1) := by decide +kernel
theorem dX12_whaleLine_20 : decode cX12_whaleLine 20 = .ok (.istore_n 1, 1) := by decide +kernel
theorem dX12_whaleLine_21 : decode cX12_whaleLine 21 = .ok (.aload_n 0, 1) := by decide +kernel
theorem dX12_whaleLine_22 : decode cX12_whaleLine 22 = .ok (.bipush 7, 2) := by decide +kernel
theorem dX12_whaleLine_24 : decode cX12_whaleLine 24 = .ok (.aload_n 0, 1) := by decide +kernel
theorem dX12_whaleLine_25 : decode cX12_whaleLine 25 = .ok (.getfield 23, 3) := by decide +kernel
theorem dX12_whaleLine_28 : decode cX12_whaleLine 28 = .ok (.bipush 6, 2) := by decide +kernel
theorem dX12_whaleLine_30 : decode cX12_whaleLine 30 = .ok (.iaload, 1) := by decide +kernel
theorem dX12_whaleLine_31 : decode cX12_whaleLine 31 = .ok (.iadd, 1) := by decide +kernel
theorem dX12_whaleLine_32 : decode cX12_whaleLine 32 = .ok (.invokevirtual 223, 3) := by decide +kernel
theorem dX12_whaleLine_35 : decode cX12_whaleLine 35 = .ok (.aload_n 0, 1) := by decide +kernel
theorem dX12_whaleLine_36 : decode cX12_whaleLine 36 = .ok (.ldc 237, 2) := by decide +kernel
theorem dX12_whaleLine_38 : decode cX12_whaleLine 38 = .ok (.invokevirtual 117, 3) := by decide +kernel
theorem dX12_whaleLine_41 : decode cX12_whaleLine 41 = .ok (.ifCond .eq 7, 3) := by decide +kernel
theorem dX12_whaleLine_44 : decode cX12_whaleLine 44 = .ok (.iconst 0, 1) := by decide +kernel
theorem dX12_whaleLine_45 : decode cX12_whaleLine 45 = .ok (.goto 43, 3) := by decide +kernel
theorem dX12_whaleLine_48 : decode cX12_whaleLine 48 = .ok (.aload_n 0, 1) := by decide +kernel
theorem dX12_whaleLine_49 : decode cX12_whaleLine 49 = .ok (.ldc 239, 2) := by decide +kernel
theorem dX12_whaleLine_51 : decode cX12_whaleLine 51 = .ok (.invokevirtual 117, 3) := by decide +kernel
theorem dX12_whaleLine_54 : decode cX12_whaleLine 54 = .ok (.ifCond .eq 7, 3) := by decide +kernel
theorem dX12_whaleLine_57 : decode cX12_whaleLine 57 = .ok (.iconst 1, 1) := by decide +kernel
theorem dX12_whaleLine_58 : decode cX12_whaleLine 58 = .ok (.goto 30, 3) := by decide +kernel
theorem dX12_whaleLine_61 : decode cX12_whaleLine 61 = .ok (.aload_n 0, 1) := by decide +kernel
theorem dX12_whaleLine_62 : decode cX12_whaleLine 62 = .ok (.ldc 241, 2) := by decide +kernel
theorem dX12_whaleLine_64 : decode cX12_whaleLine 64 = .ok (.invokevirtual 117, 3) := by decide +kernel
theorem dX12_whaleLine_67 : decode cX12_whaleLine 67 = .ok (.ifCond .eq 7, 3) := by decide +kernel
theorem dX12_whaleLine_70 : decode cX12_whaleLine 70 = .ok (.iconst 2, 1) := by decide +kernel
theorem dX12_whaleLine_71 : decode cX12_whaleLine 71 = .ok (.goto 17, 3) := by decide +kernel
theorem dX12_whaleLine_74 : decode cX12_whaleLine 74 = .ok (.aload_n 0, 1) := by decide +kernel
theorem dX12_whaleLine_75 : decode cX12_whaleLine 75 = .ok (.ldc 243, 2) := by decide +kernel
theorem dX12_whaleLine_77 : decode cX12_whaleLine 77 = .ok (.invokevirtual 117, 3) := by decide +kernel
theorem dX12_whaleLine_80 : decode cX12_whaleLine 80 = .ok (.ifCond .eq 7, 3) := by decide +kernel
theorem dX12_whaleLine_83 : decode cX12_whaleLine 83 = .ok (.iconst 3, 1) := by decide +kernel
theorem dX12_whaleLine_84 : decode cX12_whaleLine 84 = .ok (.goto 4, 3) := by decide +kernel
theorem dX12_whaleLine_87 : decode cX12_whaleLine 87 = .ok (.iconst (-1), 1) := by decide +kernel
theorem dX12_whaleLine_88 : decode cX12_whaleLine 88 = .ok (.istore_n 2, 1) := by decide +kernel
theorem dX12_whaleLine_89 : decode cX12_whaleLine 89 = .ok (.iload_n 2, 1) := by decide +kernel
theorem dX12_whaleLine_90 : decode cX12_whaleLine 90 = .ok (.ifCond .ge 12, 3) := by decide +kernel
theorem dX12_whaleLine_93 : decode cX12_whaleLine 93 = .ok (.aload_n 0, 1) := by decide +kernel
theorem dX12_whaleLine_94 : decode cX12_whaleLine 94 = .ok (.iconst 1, 1) := by decide +kernel
theorem dX12_whaleLine_95 : decode cX12_whaleLine 95 = .ok (.aload_n 0, 1) := by decide +kernel
theorem dX12_whaleLine_96 : decode cX12_whaleLine 96 = .ok (.getfield 81, 3) := by decide +kernel
theorem dX12_whaleLine_99 : decode cX12_whaleLine 99 = .ok (.invokevirtual 127, 3) := by decide +kernel
theorem dX12_whaleLine_102 : decode cX12_whaleLine 102 = .ok (.aload_n 0, 1) := by decide +kernel
theorem dX12_whaleLine_103 : decode cX12_whaleLine 103 = .ok (.getfield 100, 3) := by decide +kernel
theorem dX12_whaleLine_106 : decode cX12_whaleLine 106 = .ok (.ifCond .eq 4, 3) := by decide +kernel
theorem dX12_whaleLine_109 : decode cX12_whaleLine 109 = .ok (.return_, 1) := by decide +kernel
theorem dX12_whaleLine_110 : decode cX12_whaleLine 110 = .ok (.aload_n 0, 1) := by decide +kernel
theorem dX12_whaleLine_111 : decode cX12_whaleLine 111 = .ok (.invokevirtual 121, 3) := by decide +kernel
theorem dX12_whaleLine_114 : decode cX12_whaleLine 114 = .ok (.aload_n 0, 1) := by decide +kernel
theorem dX12_whaleLine_115 : decode cX12_whaleLine 115 = .ok (.getfield 23, 3) := by decide +kernel
theorem dX12_whaleLine_118 : decode cX12_whaleLine 118 = .ok (.iload_n 1, 1) := by decide +kernel
theorem dX12_whaleLine_119 : decode cX12_whaleLine 119 = .ok (.iload_n 2, 1) := by decide +kernel
theorem dX12_whaleLine_120 : decode cX12_whaleLine 120 = .ok (.iastore, 1) := by decide +kernel
theorem dX12_whaleLine_121 : decode cX12_whaleLine 121 = .ok (.aload_n 0, 1) := by decide +kernel
theorem dX12_whaleLine_122 : decode cX12_whaleLine 122 = .ok (.getfield 23, 3) := by decide +kernel
theorem dX12_whaleLine_125 : decode cX12_whaleLine 125 = .ok (.iload_n 1, 1) := by decide +kernel
theorem dX12_whaleLine_126 : decode cX12_whaleLine 126 = .ok (.iconst 1, 1) := by decide +kernel
theorem dX12_whaleLine_127 : decode cX12_whaleLine 127 = .ok (.iadd, 1) := by decide +kernel
theorem dX12_whaleLine_128 : decode cX12_whaleLine 128 = .ok (.aload_n 0, 1) := by decide +kernel
theorem dX12_whaleLine_129 : decode cX12_whaleLine 129 = .ok (.ldc 245, 2) := by decide +kernel
theorem dX12_whaleLine_131 : decode cX12_whaleLine 131 = .ok (.invokevirtual 246, 3) := by decide +kernel
theorem dX12_whaleLine_134 : decode cX12_whaleLine 134 = .ok (.iastore, 1) := by decide +kernel
theorem dX12_whaleLine_135 : decode cX12_whaleLine 135 = .ok (.aload_n 0, 1) := by decide +kernel
theorem dX12_whaleLine_136 : decode cX12_whaleLine 136 = .ok (.getfield 23, 3) := by decide +kernel
theorem dX12_whaleLine_139 : decode cX12_whaleLine 139 = .ok (.iload_n 1, 1) := by decide +kernel
theorem dX12_whaleLine_140 : decode cX12_whaleLine 140 = .ok (.iconst 2, 1) := by decide +kernel
theorem dX12_whaleLine_141 : decode cX12_whaleLine 141 = .ok (.iadd, 1) := by decide +kernel
theorem dX12_whaleLine_142 : decode cX12_whaleLine 142 = .ok (.aload_n 0, 1) := by decide +kernel
theorem dX12_whaleLine_143 : decode cX12_whaleLine 143 = .ok (.ldc 250, 2) := by decide +kernel
theorem dX12_whaleLine_145 : decode cX12_whaleLine 145 = .ok (.iconst 0, 1) := by decide +kernel
theorem dX12_whaleLine_146 : decode cX12_whaleLine 146 = .ok (.bipush 99, 2) := by decide +kernel
theorem dX12_whaleLine_148 : decode cX12_whaleLine 148 = .ok (.invokevirtual 213, 3) := by decide +kernel
theorem dX12_whaleLine_151 : decode cX12_whaleLine 151 = .ok (.iastore, 1) := by decide +kernel
theorem dX12_whaleLine_152 : decode cX12_whaleLine 152 = .ok (.aload_n 0, 1) := by decide +kernel
theorem dX12_whaleLine_153 : decode cX12_whaleLine 153 = .ok (.getfield 23, 3) := by decide +kernel
theorem dX12_whaleLine_156 : decode cX12_whaleLine 156 = .ok (.iload_n 1, 1) := by decide +kernel
theorem dX12_whaleLine_157 : decode cX12_whaleLine 157 = .ok (.iconst 3, 1) := by decide +kernel
theorem dX12_whaleLine_158 : decode cX12_whaleLine 158 = .ok (.iadd, 1) := by decide +kernel
theorem dX12_whaleLine_159 : decode cX12_whaleLine 159 = .ok (.aload_n 0, 1) := by decide +kernel
theorem dX12_whaleLine_160 : decode cX12_whaleLine 160 = .ok (.ldc 252, 2) := by decide +kernel
theorem dX12_whaleLine_162 : decode cX12_whaleLine 162 = .ok (.iconst 0, 1) := by decide +kernel
theorem dX12_whaleLine_163 : decode cX12_whaleLine 163 = .ok (.bipush 99, 2) := by decide +kernel
theorem dX12_whaleLine_165 : decode cX12_whaleLine 165 = .ok (.invokevirtual 213, 3) := by decide +kernel
theorem dX12_whaleLine_168 : decode cX12_whaleLine 168 = .ok (.iastore, 1) := by decide +kernel
theorem dX12_whaleLine_169 : decode cX12_whaleLine 169 = .ok (.aload_n 0, 1) := by decide +kernel
theorem dX12_whaleLine_170 : decode cX12_whaleLine 170 = .ok (.getfield 100, 3) := by decide +kernel
theorem dX12_whaleLine_173 : decode cX12_whaleLine 173 = .ok (.ifCond .ne 14, 3) := by decide +kernel
theorem dX12_whaleLine_176 : decode cX12_whaleLine 176 = .ok (.aload_n 0, 1) := by decide +kernel
theorem dX12_whaleLine_177 : decode cX12_whaleLine 177 = .ok (.getfield 23, 3) := by decide +kernel
theorem dX12_whaleLine_180 : decode cX12_whaleLine 180 = .ok (.bipush 6, 2) := by decide +kernel
theorem dX12_whaleLine_182 : decode cX12_whaleLine 182 = .ok (.dup2, 1) := by decide +kernel
theorem dX12_whaleLine_183 : decode cX12_whaleLine 183 = .ok (.iaload, 1) := by decide +kernel
theorem dX12_whaleLine_184 : decode cX12_whaleLine 184 = .ok (.iconst 1, 1) := by decide +kernel
theorem dX12_whaleLine_185 : decode cX12_whaleLine 185 = .ok (.iadd, 1) := by decide +kernel
theorem dX12_whaleLine_186 : decode cX12_whaleLine 186 = .ok (.iastore, 1) := by decide +kernel
theorem dX12_whaleLine_187 : decode cX12_whaleLine 187 = .ok (.return_, 1) := by decide +kernel
theorem dX12_boxLine_0 : decode cX12_boxLine 0 = .ok (.aload_n 0, 1) := by decide +kernel
theorem dX12_boxLine_1 : decode cX12_boxLine 1 = .ok (.getfield 100, 3) := by decide +kernel
theorem dX12_boxLine_4 : decode cX12_boxLine 4 = .ok (.ifCond .eq 4, 3) := by decide +kernel
theorem dX12_boxLine_7 : decode cX12_boxLine 7 = .ok (.return_, 1) := by decide +kernel
theorem dX12_boxLine_8 : decode cX12_boxLine 8 = .ok (.bipush 127, 2) := by decide +kernel
theorem dX12_boxLine_10 : decode cX12_boxLine 10 = .ok (.iconst 4, 1) := by decide +kernel
theorem dX12_boxLine_11 : decode cX12_boxLine 11 = .ok (.aload_n 0, 1) := by decide +kernel
theorem dX12_boxLine_12 : decode cX12_boxLine 12 = .ok (.getfield 23, 3) := by decide +kernel
theorem dX12_boxLine_15 : decode cX12_boxLine 15 = .ok (.bipush 7, 2) := by decide +kernel
theorem dX12_boxLine_17 : decode cX12_boxLine 17 = .ok (.iaload, 1) := by decide +kernel
theorem dX12_boxLine_18 : decode cX12_boxLine 18 = .ok (.imul, 1) := by decide +kernel
theorem dX12_boxLine_19 : decode cX12_boxLine 19 = .ok (.iadd, 1) := by decide +kernel
theorem dX12_boxLine_20 : decode cX12_boxLine 20 = .ok (.istore_n 1, 1) := by decide +kernel
theorem dX12_boxLine_21 : decode cX12_boxLine 21 = .ok (.aload_n 0, 1) := by decide +kernel
theorem dX12_boxLine_22 : decode cX12_boxLine 22 = .ok (.bipush 12, 2) := by decide +kernel
theorem dX12_boxLine_24 : decode cX12_boxLine 24 = .ok (.aload_n 0, 1) := by decide +kernel
theorem dX12_boxLine_25 : decode cX12_boxLine 25 = .ok (.getfield 23, 3) := by decide +kernel
theorem dX12_boxLine_28 : decode cX12_boxLine 28 = .ok (.bipush 7, 2) := by decide +kernel
theorem dX12_boxLine_30 : decode cX12_boxLine 30 = .ok (.iaload, 1) := by decide +kernel
theorem dX12_boxLine_31 : decode cX12_boxLine 31 = .ok (.iadd, 1) := by decide +kernel
theorem dX12_boxLine_32 : decode cX12_boxLine 32 = .ok (.invokevirtual 223, 3) := by decide +kernel
theorem dX12_boxLine_35 : decode cX12_boxLine 35 = .ok (.aload_n 0, 1) := by decide +kernel
theorem dX12_boxLine_36 : decode cX12_boxLine 36 = .ok (.getfield 23, 3) := by decide +kernel
theorem dX12_boxLine_39 : decode cX12_boxLine 39 = .ok (.iload_n 1, 1) := by decide +kernel
theorem dX12_boxLine_40 : decode cX12_boxLine 40 = .ok (.aload_n 0, 1) := by decide +kernel
theorem dX12_boxLine_41 : decode cX12_boxLine 41 = .ok (.ldc 254, 2) := by decide +kernel
theorem dX12_boxLine_43 : decode cX12_boxLine 43 = .ok (.invokevirtual 246, 3) := by decide +kernel
theorem dX12_boxLine_46 : decode cX12_boxLine 46 = .ok (.iastore, 1) := by decide +kernel
theorem dX12_boxLine_47 : decode cX12_boxLine 47 = .ok (.aload_n 0, 1) := by decide +kernel
theorem dX12_boxLine_48 : decode cX12_boxLine 48 = .ok (.getfield 23, 3) := by decide +kernel
theorem dX12_boxLine_51 : decode cX12_boxLine 51 = .ok (.iload_n 1, 1) := by decide +kernel
theorem dX12_boxLine_52 : decode cX12_boxLine 52 = .ok (.iconst 1, 1) := by decide +kernel
theorem dX12_boxLine_53 : decode cX12_boxLine 53 = .ok (.iadd, 1) := by decide +kernel
theorem dX12_boxLine_54 : decode cX12_boxLine 54 = .ok (.aload_n 0, 1) := by decide +kernel
theorem dX12_boxLine_55 : decode cX12_boxLine 55 = .ok (.ldc_w 256, 3) := by decide +kernel
theorem dX12_boxLine_58 : decode cX12_boxLine 58 = .ok (.invokevirtual 246, 3) := by decide +kernel
theorem dX12_boxLine_61 : decode cX12_boxLine 61 = .ok (.iastore, 1) := by decide +kernel
theorem dX12_boxLine_62 : decode cX12_boxLine 62 = .ok (.aload_n 0, 1) := by decide +kernel
theorem dX12_boxLine_63 : decode cX12_boxLine 63 = .ok (.getfield 23, 3) := by decide +kernel
theorem dX12_boxLine_66 : decode cX12_boxLine 66 = .ok (.iload_n 1, 1) := by decide +kernel
theorem dX12_boxLine_67 : decode cX12_boxLine 67 = .ok (.iconst 2, 1) := by decide +kernel
theorem dX12_boxLine_68 : decode cX12_boxLine 68 = .ok (.iadd, 1) := by decide +kernel
theorem dX12_boxLine_69 : decode cX12_boxLine 69 = .ok (.aload_n 0, 1) := by decide +kernel
theorem dX12_boxLine_70 : decode cX12_boxLine 70 = .ok (.ldc_w 258, 3) := by decide +kernel
theorem dX12_boxLine_73 : decode cX12_boxLine 73 = .ok (.iconst 1, 1) := by decide +kernel
theorem dX12_boxLine_74 : decode cX12_boxLine 74 = .ok (.bipush 99, 2) := by decide +kernel
theorem dX12_boxLine_76 : decode cX12_boxLine 76 = .ok (.invokevirtual 213, 3) := by decide +kernel
theorem dX12_boxLine_79 : decode cX12_boxLine 79 = .ok (.iastore, 1) := by decide +kernel
theorem dX12_boxLine_80 : decode cX12_boxLine 80 = .ok (.aload_n 0, 1) := by decide +kernel
theorem dX12_boxLine_81 : decode cX12_boxLine 81 = .ok (.getfield 23, 3) := by decide +kernel
theorem dX12_boxLine_84 : decode cX12_boxLine 84 = .ok (.iload_n 1, 1) := by decide +kernel
theorem dX12_boxLine_85 : decode cX12_boxLine 85 = .ok (.iconst 3, 1) := by decide +kernel
theorem dX12_boxLine_86 : decode cX12_boxLine 86 = .ok (.iadd, 1) := by decide +kernel
theorem dX12_boxLine_87 : decode cX12_boxLine 87 = .ok (.aload_n 0, 1) := by decide +kernel
theorem dX12_boxLine_88 : decode cX12_boxLine 88 = .ok (.ldc_w 260, 3) := by decide +kernel
theorem dX12_boxLine_91 : decode cX12_boxLine 91 = .ok (.iconst 0, 1) := by decide +kernel
theorem dX12_boxLine_92 : decode cX12_boxLine 92 = .ok (.sipush 9999, 3) := by decide +kernel
theorem dX12_boxLine_95 : decode cX12_boxLine 95 = .ok (.invokevirtual 213, 3) := by decide +kernel
theorem dX12_boxLine_98 : decode cX12_boxLine 98 = .ok (.iastore, 1) := by decide +kernel
theorem dX12_boxLine_99 : decode cX12_boxLine 99 = .ok (.aload_n 0, 1) := by decide +kernel
theorem dX12_boxLine_100 : decode cX12_boxLine 100 = .ok (.getfield 100, 3) := by decide +kernel
theorem dX12_boxLine_103 : decode cX12_boxLine 103 = .ok (.ifCond .ne 14, 3) := by decide +kernel
theorem dX12_boxLine_106 : decode cX12_boxLine 106 = .ok (.aload_n 0, 1) := by decide +kernel
theorem dX12_boxLine_107 : decode cX12_boxLine 107 = .ok (.getfield 23, 3) := by decide +kernel
theorem dX12_boxLine_110 : decode cX12_boxLine 110 = .ok (.bipush 7, 2) := by decide +kernel
theorem dX12_boxLine_112 : decode cX12_boxLine 112 = .ok (.dup2, 1) := by decide +kernel
theorem dX12_boxLine_113 : decode cX12_boxLine 113 = .ok (.iaload, 1) := by decide +kernel
theorem dX12_boxLine_114 : decode cX12_boxLine 114 = .ok (.iconst 1, 1) := by decide +kernel
theorem dX12_boxLine_115 : decode cX12_boxLine 115 = .ok (.iadd, 1) := by decide +kernel
theorem dX12_boxLine_116 : decode cX12_boxLine 116 = .ok (.iastore, 1) := by decide +kernel
theorem dX12_boxLine_117 : decode cX12_boxLine 117 = .ok (.return_, 1) := by decide +kernel
theorem dX12_spoutLine_0 : decode cX12_spoutLine 0 = .ok (.aload_n 0, 1) := by decide +kernel
theorem dX12_spoutLine_1 : decode cX12_spoutLine 1 = .ok (.getfield 100, 3) := by decide +kernel
theorem dX12_spoutLine_4 : decode cX12_spoutLine 4 = .ok (.ifCond .eq 4, 3) := by decide +kernel
theorem dX12_spoutLine_7 : decode cX12_spoutLine 7 = .ok (.return_, 1) := by decide +kernel
theorem dX12_spoutLine_8 : decode cX12_spoutLine 8 = .ok (.sipush 159, 3) := by decide +kernel
theorem dX12_spoutLine_11 : decode cX12_spoutLine 11 = .ok (.iconst 3, 1) := by decide +kernel
theorem dX12_spoutLine_12 : decode cX12_spoutLine 12 = .ok (.aload_n 0, 1) := by decide +kernel
theorem dX12_spoutLine_13 : decode cX12_spoutLine 13 = .ok (.getfield 23, 3) := by decide +kernel
theorem dX12_spoutLine_16 : decode cX12_spoutLine 16 = .ok (.bipush 8, 2) := by decide +kernel
theorem dX12_spoutLine_18 : decode cX12_spoutLine 18 = .ok (.iaload, 1) := by decide +kernel
theorem dX12_spoutLine_19 : decode cX12_spoutLine 19 = .ok (.imul, 1) := by decide +kernel
theorem dX12_spoutLine_20 : decode cX12_spoutLine 20 = .ok (.iadd, 1) := by decide +kernel
theorem dX12_spoutLine_21 : decode cX12_spoutLine 21 = .ok (.istore_n 1, 1) := by decide +kernel
theorem dX12_spoutLine_22 : decode cX12_spoutLine 22 = .ok (.aload_n 0, 1) := by decide +kernel
theorem dX12_spoutLine_23 : decode cX12_spoutLine 23 = .ok (.bipush 7, 2) := by decide +kernel
theorem dX12_spoutLine_25 : decode cX12_spoutLine 25 = .ok (.bipush 11, 2) := by decide +kernel
theorem dX12_spoutLine_27 : decode cX12_spoutLine 27 = .ok (.invokevirtual 153, 3) := by decide +kernel
theorem dX12_spoutLine_30 : decode cX12_spoutLine 30 = .ok (.istore_n 2, 1) := by decide +kernel
theorem dX12_spoutLine_31 : decode cX12_spoutLine 31 = .ok (.aload_n 0, 1) := by decide +kernel
theorem dX12_spoutLine_32 : decode cX12_spoutLine 32 = .ok (.getfield 100, 3) := by decide +kernel
theorem dX12_spoutLine_35 : decode cX12_spoutLine 35 = .ok (.ifCond .ne 7, 3) := by decide +kernel
theorem dX12_spoutLine_38 : decode cX12_spoutLine 38 = .ok (.aload_n 0, 1) := by decide +kernel
theorem dX12_spoutLine_39 : decode cX12_spoutLine 39 = .ok (.invokevirtual 121, 3) := by decide +kernel
theorem dX12_spoutLine_42 : decode cX12_spoutLine 42 = .ok (.aload_n 0, 1) := by decide +kernel
theorem dX12_spoutLine_43 : decode cX12_spoutLine 43 = .ok (.invokevirtual 161, 3) := by decide +kernel
theorem dX12_spoutLine_46 : decode cX12_spoutLine 46 = .ok (.istore_n 3, 1) := by decide +kernel
theorem dX12_spoutLine_47 : decode cX12_spoutLine 47 = .ok (.iconst 0, 1) := by decide +kernel
theorem dX12_spoutLine_48 : decode cX12_spoutLine 48 = .ok (.istore 4, 2) := by decide +kernel
theorem dX12_spoutLine_50 : decode cX12_spoutLine 50 = .ok (.iconst 0, 1) := by decide +kernel
theorem dX12_spoutLine_51 : decode cX12_spoutLine 51 = .ok (.istore 5, 2) := by decide +kernel
theorem dX12_spoutLine_53 : decode cX12_spoutLine 53 = .ok (.iload 5, 2) := by decide +kernel
theorem dX12_spoutLine_55 : decode cX12_spoutLine 55 = .ok (.aload_n 0, 1) := by decide +kernel
theorem dX12_spoutLine_56 : decode cX12_spoutLine 56 = .ok (.getfield 23, 3) := by decide +kernel
theorem dX12_spoutLine_59 : decode cX12_spoutLine 59 = .ok (.bipush 8, 2) := by decide +kernel
theorem dX12_spoutLine_61 : decode cX12_spoutLine 61 = .ok (.iaload, 1) := by decide +kernel
theorem dX12_spoutLine_62 : decode cX12_spoutLine 62 = .ok (.if_icmp .ge 45, 3) := by decide +kernel
theorem dX12_spoutLine_65 : decode cX12_spoutLine 65 = .ok (.aload_n 0, 1) := by decide +kernel
theorem dX12_spoutLine_66 : decode cX12_spoutLine 66 = .ok (.getfield 23, 3) := by decide +kernel
theorem dX12_spoutLine_69 : decode cX12_spoutLine 69 = .ok (.sipush 159, 3) := by decide +kernel
theorem dX12_spoutLine_72 : decode cX12_spoutLine 72 = .ok (.iconst 3, 1) := by decide +kernel
theorem dX12_spoutLine_73 : decode cX12_spoutLine 73 = .ok (.iload 5, 2) := by decide +kernel
theorem dX12_spoutLine_75 : decode cX12_spoutLine 75 = .ok (.imul, 1) := by decide +kernel
theorem dX12_spoutLine_76 : decode cX12_spoutLine 76 = .ok (.iadd, 1) := by decide +kernel
theorem dX12_spoutLine_77 : decode cX12_spoutLine 77 = .ok (.iaload, 1) := by decide +kernel
theorem dX12_spoutLine_78 : decode cX12_spoutLine 78 = .ok (.iload_n 2, 1) := by decide +kernel
theorem dX12_spoutLine_79 : decode cX12_spoutLine 79 = .ok (.if_icmp .ne 22, 3) := by decide +kernel
theorem dX12_spoutLine_82 : decode cX12_spoutLine 82 = .ok (.aload_n 0, 1) := by decide +kernel
theorem dX12_spoutLine_83 : decode cX12_spoutLine 83 = .ok (.getfield 23, 3) := by decide +kernel
theorem dX12_spoutLine_86 : decode cX12_spoutLine 86 = .ok (.sipush 159, 3) := by decide +kernel
theorem dX12_spoutLine_89 : decode cX12_spoutLine 89 = .ok (.iconst 3, 1) := by decide +kernel
theorem dX12_spoutLine_90 : decode cX12_spoutLine 90 = .ok (.iload 5, 2) := by decide +kernel
theorem dX12_spoutLine_92 : decode cX12_spoutLine 92 = .ok (.imul, 1) := by decide +kernel
theorem dX12_spoutLine_93 : decode cX12_spoutLine 93 = .ok (.iadd, 1) := by decide +kernel
theorem dX12_spoutLine_94 : decode cX12_spoutLine 94 = .ok (.iconst 2, 1) := by decide +kernel
theorem dX12_spoutLine_95 : decode cX12_spoutLine 95 = .ok (.iadd, 1) := by decide +kernel
theorem dX12_spoutLine_96 : decode cX12_spoutLine 96 = .ok (.iaload, 1) := by decide +kernel
theorem dX12_spoutLine_97 : decode cX12_spoutLine 97 = .ok (.iconst 1, 1) := by decide +kernel
theorem dX12_spoutLine_98 : decode cX12_spoutLine 98 = .ok (.iadd, 1) := by decide +kernel
theorem dX12_spoutLine_99 : decode cX12_spoutLine 99 = .ok (.istore 4, 2) := by decide +kernel
theorem dX12_spoutLine_101 : decode cX12_spoutLine 101 = .ok (.iinc 5 1, 3) := by decide +kernel
theorem dX12_spoutLine_104 : decode cX12_spoutLine 104 = .ok (.goto (-51), 3) := by decide +kernel
theorem dX12_spoutLine_107 : decode cX12_spoutLine 107 = .ok (.aload_n 0, 1) := by decide +kernel
theorem dX12_spoutLine_108 : decode cX12_spoutLine 108 = .ok (.ldc_w 260, 3) := by decide +kernel
theorem dX12_spoutLine_111 : decode cX12_spoutLine 111 = .ok (.iload 4, 2) := by decide +kernel
theorem dX12_spoutLine_113 : decode cX12_spoutLine 113 = .ok (.sipush 9999, 3) := by decide +kernel
theorem dX12_spoutLine_116 : decode cX12_spoutLine 116 = .ok (.invokevirtual 213, 3) := by decide +kernel
theorem dX12_spoutLine_119 : decode cX12_spoutLine 119 = .ok (.istore 5, 2) := by decide +kernel
theorem dX12_spoutLine_121 : decode cX12_spoutLine 121 = .ok (.aload_n 0, 1) := by decide +kernel
theorem dX12_spoutLine_122 : decode cX12_spoutLine 122 = .ok (.getfield 100, 3) := by decide +kernel
theorem dX12_spoutLine_125 : decode cX12_spoutLine 125 = .ok (.ifCond .eq 4, 3) := by decide +kernel
theorem dX12_spoutLine_128 : decode cX12_spoutLine 128 = .ok (.return_, 1) := by decide +kernel
theorem dX12_spoutLine_129 : decode cX12_spoutLine 129 = .ok (.aload_n 0, 1) := by decide +kernel
theorem dX12_spoutLine_130 : decode cX12_spoutLine 130 = .ok (.getfield 23, 3) := by decide +kernel
theorem dX12_spoutLine_133 : decode cX12_spoutLine 133 = .ok (.iload_n 1, 1) := by decide +kernel
theorem dX12_spoutLine_134 : decode cX12_spoutLine 134 = .ok (.iload_n 2, 1) := by decide +kernel
theorem dX12_spoutLine_135 : decode cX12_spoutLine 135 = .ok (.iastore, 1) := by decide +kernel
theorem dX12_spoutLine_136 : decode cX12_spoutLine 136 = .ok (.aload_n 0, 1) := by decide +kernel
theorem dX12_spoutLine_137 : decode cX12_spoutLine 137 = .ok (.getfield 23, 3) := by decide +kernel
theorem dX12_spoutLine_140 : decode cX12_spoutLine 140 = .ok (.iload_n 1, 1) := by decide +kernel
theorem dX12_spoutLine_141 : decode cX12_spoutLine 141 = .ok (.iconst 1, 1) := by decide +kernel
theorem dX12_spoutLine_142 : decode cX12_spoutLine 142 = .ok (.iadd, 1) := by decide +kernel
theorem dX12_spoutLine_143 : decode cX12_spoutLine 143 = .ok (.iload_n 3, 1) := by decide +kernel
theorem dX12_spoutLine_144 : decode cX12_spoutLine 144 = .ok (.iastore, 1) := by decide +kernel
theorem dX12_spoutLine_145 : decode cX12_spoutLine 145 = .ok (.aload_n 0, 1) := by decide +kernel
theorem dX12_spoutLine_146 : decode cX12_spoutLine 146 = .ok (.getfield 23, 3) := by decide +kernel
theorem dX12_spoutLine_149 : decode cX12_spoutLine 149 = .ok (.iload_n 1, 1) := by decide +kernel
theorem dX12_spoutLine_150 : decode cX12_spoutLine 150 = .ok (.iconst 2, 1) := by decide +kernel
theorem dX12_spoutLine_151 : decode cX12_spoutLine 151 = .ok (.iadd, 1) := by decide +kernel
theorem dX12_spoutLine_152 : decode cX12_spoutLine 152 = .ok (.iload 5, 2) := by decide +kernel
theorem dX12_spoutLine_154 : decode cX12_spoutLine 154 = .ok (.iastore, 1) := by decide +kernel
theorem dX12_spoutLine_155 : decode cX12_spoutLine 155 = .ok (.aload_n 0, 1) := by decide +kernel
theorem dX12_spoutLine_156 : decode cX12_spoutLine 156 = .ok (.getfield 23, 3) := by decide +kernel
theorem dX12_spoutLine_159 : decode cX12_spoutLine 159 = .ok (.bipush 8, 2) := by decide +kernel
theorem dX12_spoutLine_161 : decode cX12_spoutLine 161 = .ok (.dup2, 1) := by decide +kernel
theorem dX12_spoutLine_162 : decode cX12_spoutLine 162 = .ok (.iaload, 1) := by decide +kernel
theorem dX12_spoutLine_163 : decode cX12_spoutLine 163 = .ok (.iconst 1, 1) := by decide +kernel
theorem dX12_spoutLine_164 : decode cX12_spoutLine 164 = .ok (.iadd, 1) := by decide +kernel
theorem dX12_spoutLine_165 : decode cX12_spoutLine 165 = .ok (.iastore, 1) := by decide +kernel
theorem dX12_spoutLine_166 : decode cX12_spoutLine 166 = .ok (.return_, 1) := by decide +kernel
theorem dX12_fault_0 : decode cX12_fault 0 = .ok (.aload_n 0, 1) := by decide +kernel
theorem dX12_fault_1 : decode cX12_fault 1 = .ok (.iconst 0, 1) := by decide +kernel
theorem dX12_fault_2 : decode cX12_fault 2 = .ok (.putfield 62, 3) := by decide +kernel
theorem dX12_fault_5 : decode cX12_fault 5 = .ok (.aload_n 0, 1) := by decide +kernel
theorem dX12_fault_6 : decode cX12_fault 6 = .ok (.getfield 104, 3) := by decide +kernel
theorem dX12_fault_9 : decode cX12_fault 9 = .ok (.ireturn, 1) := by decide +kernel
theorem dX12_where_0 : decode cX12_where 0 = .ok (.aload_n 0, 1) := by decide +kernel
theorem dX12_where_1 : decode cX12_where 1 = .ok (.iconst 0, 1) := by decide +kernel
theorem dX12_where_2 : decode cX12_where 2 = .ok (.putfield 62, 3) := by decide +kernel
theorem dX12_where_5 : decode cX12_where 5 = .ok (.aload_n 0, 1) := by decide +kernel
theorem dX12_where_6 : decode cX12_where 6 = .ok (.getfield 65, 3) := by decide +kernel
theorem dX12_where_9 : decode cX12_where 9 = .ok (.iconst 4, 1) := by decide +kernel
theorem dX12_where_10 : decode cX12_where 10 = .ok (.if_icmp .ne 10, 3) := by decide +kernel
theorem dX12_where_13 : decode cX12_where 13 = .ok (.aload_n 0, 1) := by decide +kernel
theorem dX12_where_14 : decode cX12_where 14 = .ok (.getfield 13, 3) := by decide +kernel
theorem dX12_where_17 : decode cX12_where 17 = .ok (.goto 4, 3) := by decide +kernel
theorem dX12_where_20 : decode cX12_where 20 = .ok (.iconst (-1), 1) := by decide +kernel
theorem dX12_where_21 : decode cX12_where 21 = .ok (.ireturn, 1) := by decide +kernel
theorem dX12_isIsland_0 : decode cX12_isIsland 0 = .ok (.aload_n 0, 1) := by decide +kernel
theorem dX12_isIsland_1 : decode cX12_isIsland 1 = .ok (.getfield 180, 3) := by decide +kernel
theorem dX12_isIsland_4 : decode cX12_isIsland 4 = .ok (.ifCond .eq 23, 3) := by decide +kernel
theorem dX12_isIsland_7 : decode cX12_isIsland 7 = .ok (.iload_n 1, 1) := by decide +kernel
theorem dX12_isIsland_8 : decode cX12_isIsland 8 = .ok (.iconst 0, 1) := by decide +kernel
theorem dX12_isIsland_9 : decode cX12_isIsland 9 = .ok (.aload_n 0, 1) := by decide +kernel
theorem dX12_isIsland_10 : decode cX12_isIsland 10 = .ok (.getfield 20, 3) := by decide +kernel
theorem dX12_isIsland_13 : decode cX12_isIsland 13 = .ok (.iconst 4, 1) := by decide +kernel
theorem dX12_isIsland_14 : decode cX12_isIsland 14 = .ok (.iaload, 1) := by decide +kernel
theorem dX12_isIsland_15 : decode cX12_isIsland 15 = .ok (.iconst 1, 1) := by decide +kernel
theorem dX12_isIsland_16 : decode cX12_isIsland 16 = .ok (.isub, 1) := by decide +kernel
theorem dX12_isIsland_17 : decode cX12_isIsland 17 = .ok (.invokestatic 149, 3) := by decide +kernel
theorem dX12_isIsland_20 : decode cX12_isIsland 20 = .ok (.ifCond .eq 7, 3) := by decide +kernel
theorem dX12_isIsland_23 : decode cX12_isIsland 23 = .ok (.iconst 1, 1) := by decide +kernel
theorem dX12_isIsland_24 : decode cX12_isIsland 24 = .ok (.goto 4, 3) := by decide +kernel
theorem dX12_isIsland_27 : decode cX12_isIsland 27 = .ok (.iconst 0, 1) := by decide +kernel
theorem dX12_isIsland_28 : decode cX12_isIsland 28 = .ok (.ireturn, 1) := by decide +kernel
theorem dX12_isWhale_0 : decode cX12_isWhale 0 = .ok (.aload_n 0, 1) := by decide +kernel
theorem dX12_isWhale_1 : decode cX12_isWhale 1 = .ok (.getfield 180, 3) := by decide +kernel
theorem dX12_isWhale_4 : decode cX12_isWhale 4 = .ok (.ifCond .eq 24, 3) := by decide +kernel
theorem dX12_isWhale_7 : decode cX12_isWhale 7 = .ok (.iload_n 1, 1) := by decide +kernel
theorem dX12_isWhale_8 : decode cX12_isWhale 8 = .ok (.iconst 0, 1) := by decide +kernel
theorem dX12_isWhale_9 : decode cX12_isWhale 9 = .ok (.aload_n 0, 1) := by decide +kernel
theorem dX12_isWhale_10 : decode cX12_isWhale 10 = .ok (.getfield 20, 3) := by decide +kernel
theorem dX12_isWhale_13 : decode cX12_isWhale 13 = .ok (.bipush 6, 2) := by decide +kernel
theorem dX12_isWhale_15 : decode cX12_isWhale 15 = .ok (.iaload, 1) := by decide +kernel
theorem dX12_isWhale_16 : decode cX12_isWhale 16 = .ok (.iconst 1, 1) := by decide +kernel
theorem dX12_isWhale_17 : decode cX12_isWhale 17 = .ok (.isub, 1) := by decide +kernel
theorem dX12_isWhale_18 : decode cX12_isWhale 18 = .ok (.invokestatic 149, 3) := by decide +kernel
theorem dX12_isWhale_21 : decode cX12_isWhale 21 = .ok (.ifCond .eq 7, 3) := by decide +kernel
theorem dX12_isWhale_24 : decode cX12_isWhale 24 = .ok (.iconst 1, 1) := by decide +kernel
theorem dX12_isWhale_25 : decode cX12_isWhale 25 = .ok (.goto 4, 3) := by decide +kernel
theorem dX12_isWhale_28 : decode cX12_isWhale 28 = .ok (.iconst 0, 1) := by decide +kernel
theorem dX12_isWhale_29 : decode cX12_isWhale 29 = .ok (.ireturn, 1) := by decide +kernel
theorem dX12_isBox_0 : decode cX12_isBox 0 = .ok (.aload_n 0, 1) := by decide +kernel
theorem dX12_isBox_1 : decode cX12_isBox 1 = .ok (.getfield 180, 3) := by decide +kernel
theorem dX12_isBox_4 : decode cX12_isBox 4 = .ok (.ifCond .eq 24, 3) := by decide +kernel
theorem dX12_isBox_7 : decode cX12_isBox 7 = .ok (.iload_n 1, 1) := by decide +kernel
theorem dX12_isBox_8 : decode cX12_isBox 8 = .ok (.iconst 0, 1) := by decide +kernel
theorem dX12_isBox_9 : decode cX12_isBox 9 = .ok (.aload_n 0, 1) := by decide +kernel
theorem dX12_isBox_10 : decode cX12_isBox 10 = .ok (.getfield 20, 3) := by decide +kernel
theorem dX12_isBox_13 : decode cX12_isBox 13 = .ok (.bipush 7, 2) := by decide +kernel
theorem dX12_isBox_15 : decode cX12_isBox 15 = .ok (.iaload, 1) := by decide +kernel
theorem dX12_isBox_16 : decode cX12_isBox 16 = .ok (.iconst 1, 1) := by decide +kernel
theorem dX12_isBox_17 : decode cX12_isBox 17 = .ok (.isub, 1) := by decide +kernel
theorem dX12_isBox_18 : decode cX12_isBox 18 = .ok (.invokestatic 149, 3) := by decide +kernel
theorem dX12_isBox_21 : decode cX12_isBox 21 = .ok (.ifCond .eq 7, 3) := by decide +kernel
theorem dX12_isBox_24 : decode cX12_isBox 24 = .ok (.iconst 1, 1) := by decide +kernel
theorem dX12_isBox_25 : decode cX12_isBox 25 = .ok (.goto 4, 3) := by decide +kernel
theorem dX12_isBox_28 : decode cX12_isBox 28 = .ok (.iconst 0, 1) := by decide +kernel
theorem dX12_isBox_29 : decode cX12_isBox 29 = .ok (.ireturn, 1) := by decide +kernel
theorem dX12_ofWhale_0 : decode cX12_ofWhale 0 = .ok (.aload_n 0, 1) := by decide +kernel
theorem dX12_ofWhale_1 : decode cX12_ofWhale 1 = .ok (.getfield 20, 3) := by decide +kernel
theorem dX12_ofWhale_4 : decode cX12_ofWhale 4 = .ok (.bipush 107, 2) := by decide +kernel
theorem dX12_ofWhale_6 : decode cX12_ofWhale 6 = .ok (.iconst 4, 1) := by decide +kernel
theorem dX12_ofWhale_7 : decode cX12_ofWhale 7 = .ok (.iload_n 1, 1) := by decide +kernel
theorem dX12_ofWhale_8 : decode cX12_ofWhale 8 = .ok (.imul, 1) := by decide +kernel
theorem dX12_ofWhale_9 : decode cX12_ofWhale 9 = .ok (.iadd, 1) := by decide +kernel
theorem dX12_ofWhale_10 : decode cX12_ofWhale 10 = .ok (.iload_n 2, 1) := by decide +kernel
theorem dX12_ofWhale_11 : decode cX12_ofWhale 11 = .ok (.iadd, 1) := by decide +kernel
theorem dX12_ofWhale_12 : decode cX12_ofWhale 12 = .ok (.iaload, 1) := by decide +kernel
theorem dX12_ofWhale_13 : decode cX12_ofWhale 13 = .ok (.ireturn, 1) := by decide +kernel
theorem dX12_ofBox_0 : decode cX12_ofBox 0 = .ok (.aload_n 0, 1) := by decide +kernel
theorem dX12_ofBox_1 : decode cX12_ofBox 1 = .ok (.getfield 20, 3) := by decide +kernel
theorem dX12_ofBox_4 : decode cX12_ofBox 4 = .ok (.bipush 127, 2) := by decide +kernel
theorem dX12_ofBox_6 : decode cX12_ofBox 6 = .ok (.iconst 4, 1) := by decide +kernel
theorem dX12_ofBox_7 : decode cX12_ofBox 7 = .ok (.iload_n 1, 1) := by decide +kernel
theorem dX12_ofBox_8 : decode cX12_ofBox 8 = .ok (.imul, 1) := by decide +kernel
theorem dX12_ofBox_9 : decode cX12_ofBox 9 = .ok (.iadd, 1) := by decide +kernel
theorem dX12_ofBox_10 : decode cX12_ofBox 10 = .ok (.iload_n 2, 1) := by decide +kernel
theorem dX12_ofBox_11 : decode cX12_ofBox 11 = .ok (.iadd, 1) := by decide +kernel
theorem dX12_ofBox_12 : decode cX12_ofBox 12 = .ok (.iaload, 1) := by decide +kernel
theorem dX12_ofBox_13 : decode cX12_ofBox 13 = .ok (.ireturn, 1) := by decide +kernel
theorem dX12_songLong_0 : decode cX12_songLong 0 = .ok (.aload_n 0, 1) := by decide +kernel
theorem dX12_songLong_1 : decode cX12_songLong 1 = .ok (.getfield 20, 3) := by decide +kernel
theorem dX12_songLong_4 : decode cX12_songLong 4 = .ok (.bipush 10, 2) := by decide +kernel
theorem dX12_songLong_6 : decode cX12_songLong 6 = .ok (.bipush 7, 2) := by decide +kernel
theorem dX12_songLong_8 : decode cX12_songLong 8 = .ok (.iload_n 1, 1) := by decide +kernel
theorem dX12_songLong_9 : decode cX12_songLong 9 = .ok (.imul, 1) := by decide +kernel
theorem dX12_songLong_10 : decode cX12_songLong 10 = .ok (.iadd, 1) := by decide +kernel
theorem dX12_songLong_11 : decode cX12_songLong 11 = .ok (.iaload, 1) := by decide +kernel
theorem dX12_songLong_12 : decode cX12_songLong 12 = .ok (.ireturn, 1) := by decide +kernel
theorem dX12_boxLong_0 : decode cX12_boxLong 0 = .ok (.aload_n 0, 1) := by decide +kernel
theorem dX12_boxLong_1 : decode cX12_boxLong 1 = .ok (.aload_n 0, 1) := by decide +kernel
theorem dX12_boxLong_2 : decode cX12_boxLong 2 = .ok (.iload_n 1, 1) := by decide +kernel
theorem dX12_boxLong_3 : decode cX12_boxLong 3 = .ok (.iconst 1, 1) := by decide +kernel
theorem dX12_boxLong_4 : decode cX12_boxLong 4 = .ok (.invokevirtual 262, 3) := by decide +kernel
theorem dX12_boxLong_7 : decode cX12_boxLong 7 = .ok (.invokevirtual 265, 3) := by decide +kernel
theorem dX12_boxLong_10 : decode cX12_boxLong 10 = .ok (.ireturn, 1) := by decide +kernel
theorem dX12_noteIn_0 : decode cX12_noteIn 0 = .ok (.aload_n 0, 1) := by decide +kernel
theorem dX12_noteIn_1 : decode cX12_noteIn 1 = .ok (.getfield 20, 3) := by decide +kernel
theorem dX12_noteIn_4 : decode cX12_noteIn 4 = .ok (.iconst 2, 1) := by decide +kernel
theorem dX12_noteIn_5 : decode cX12_noteIn 5 = .ok (.iaload, 1) := by decide +kernel
theorem dX12_noteIn_6 : decode cX12_noteIn 6 = .ok (.ifCond .ne 7, 3) := by decide +kernel
theorem dX12_noteIn_9 : decode cX12_noteIn 9 = .ok (.iconst 0, 1) := by decide +kernel
theorem dX12_noteIn_10 : decode cX12_noteIn 10 = .ok (.goto 18, 3) := by decide +kernel
theorem dX12_noteIn_13 : decode cX12_noteIn 13 = .ok (.iload_n 3, 1) := by decide +kernel
theorem dX12_noteIn_14 : decode cX12_noteIn 14 = .ok (.aload_n 0, 1) := by decide +kernel
theorem dX12_noteIn_15 : decode cX12_noteIn 15 = .ok (.getfield 20, 3) := by decide +kernel
theorem dX12_noteIn_18 : decode cX12_noteIn 18 = .ok (.iconst 2, 1) := by decide +kernel
theorem dX12_noteIn_19 : decode cX12_noteIn 19 = .ok (.iaload, 1) := by decide +kernel
theorem dX12_noteIn_20 : decode cX12_noteIn 20 = .ok (.idiv, 1) := by decide +kernel
theorem dX12_noteIn_21 : decode cX12_noteIn 21 = .ok (.aload_n 0, 1) := by decide +kernel
theorem dX12_noteIn_22 : decode cX12_noteIn 22 = .ok (.getfield 20, 3) := by decide +kernel
theorem dX12_noteIn_25 : decode cX12_noteIn 25 = .ok (.iconst 0, 1) := by decide +kernel
theorem dX12_noteIn_26 : decode cX12_noteIn 26 = .ok (.iaload, 1) := by decide +kernel
theorem dX12_noteIn_27 : decode cX12_noteIn 27 = .ok (.irem, 1) := by decide +kernel
theorem dX12_noteIn_28 : decode cX12_noteIn 28 = .ok (.istore 4, 2) := by decide +kernel
theorem dX12_noteIn_30 : decode cX12_noteIn 30 = .ok (.aload_n 0, 1) := by decide +kernel
theorem dX12_noteIn_31 : decode cX12_noteIn 31 = .ok (.getfield 20, 3) := by decide +kernel
theorem dX12_noteIn_34 : decode cX12_noteIn 34 = .ok (.bipush 10, 2) := by decide +kernel
theorem dX12_noteIn_36 : decode cX12_noteIn 36 = .ok (.bipush 7, 2) := by decide +kernel
theorem dX12_noteIn_38 : decode cX12_noteIn 38 = .ok (.iload_n 1, 1) := by decide +kernel
theorem dX12_noteIn_39 : decode cX12_noteIn 39 = .ok (.imul, 1) := by decide +kernel
theorem dX12_noteIn_40 : decode cX12_noteIn 40 = .ok (.iadd, 1) := by decide +kernel
theorem dX12_noteIn_41 : decode cX12_noteIn 41 = .ok (.iconst 1, 1) := by decide +kernel
theorem dX12_noteIn_42 : decode cX12_noteIn 42 = .ok (.iadd, 1) := by decide +kernel
theorem dX12_noteIn_43 : decode cX12_noteIn 43 = .ok (.iload_n 2, 1) := by decide +kernel
theorem dX12_noteIn_44 : decode cX12_noteIn 44 = .ok (.iadd, 1) := by decide +kernel
theorem dX12_noteIn_45 : decode cX12_noteIn 45 = .ok (.iaload, 1) := by decide +kernel
theorem dX12_noteIn_46 : decode cX12_noteIn 46 = .ok (.aload_n 0, 1) := by decide +kernel
theorem dX12_noteIn_47 : decode cX12_noteIn 47 = .ok (.getfield 20, 3) := by decide +kernel
theorem dX12_noteIn_50 : decode cX12_noteIn 50 = .ok (.iconst 0, 1) := by decide +kernel
theorem dX12_noteIn_51 : decode cX12_noteIn 51 = .ok (.iaload, 1) := by decide +kernel
theorem dX12_noteIn_52 : decode cX12_noteIn 52 = .ok (.iadd, 1) := by decide +kernel
theorem dX12_noteIn_53 : decode cX12_noteIn 53 = .ok (.iload 4, 2) := by decide +kernel
theorem dX12_noteIn_55 : decode cX12_noteIn 55 = .ok (.isub, 1) := by decide +kernel
theorem dX12_noteIn_56 : decode cX12_noteIn 56 = .ok (.aload_n 0, 1) := by decide +kernel
theorem dX12_noteIn_57 : decode cX12_noteIn 57 = .ok (.getfield 20, 3) := by decide +kernel
theorem dX12_noteIn_60 : decode cX12_noteIn 60 = .ok (.iconst 0, 1) := by decide +kernel
theorem dX12_noteIn_61 : decode cX12_noteIn 61 = .ok (.iaload, 1) := by decide +kernel
theorem dX12_noteIn_62 : decode cX12_noteIn 62 = .ok (.irem, 1) := by decide +kernel
theorem dX12_noteIn_63 : decode cX12_noteIn 63 = .ok (.ireturn, 1) := by decide +kernel
theorem dX12_whale_0 : decode cX12_whale 0 = .ok (.aload_n 0, 1) := by decide +kernel
theorem dX12_whale_1 : decode cX12_whale 1 = .ok (.invokevirtual 167, 3) := by decide +kernel
theorem dX12_whale_4 : decode cX12_whale 4 = .ok (.aload_n 0, 1) := by decide +kernel
theorem dX12_whale_5 : decode cX12_whale 5 = .ok (.iload_n 1, 1) := by decide +kernel
theorem dX12_whale_6 : decode cX12_whale 6 = .ok (.invokevirtual 268, 3) := by decide +kernel
theorem dX12_whale_9 : decode cX12_whale 9 = .ok (.ifCond .eq 12, 3) := by decide +kernel
theorem dX12_whale_12 : decode cX12_whale 12 = .ok (.iload_n 2, 1) := by decide +kernel
theorem dX12_whale_13 : decode cX12_whale 13 = .ok (.iconst 0, 1) := by decide +kernel
theorem dX12_whale_14 : decode cX12_whale 14 = .ok (.iconst 4, 1) := by decide +kernel
theorem dX12_whale_15 : decode cX12_whale 15 = .ok (.invokestatic 149, 3) := by decide +kernel
theorem dX12_whale_18 : decode cX12_whale 18 = .ok (.ifCond .ne 9, 3) := by decide +kernel
theorem dX12_whale_21 : decode cX12_whale 21 = .ok (.aload_n 0, 1) := by decide +kernel
theorem dX12_whale_22 : decode cX12_whale 22 = .ok (.iconst 1, 1) := by decide +kernel
theorem dX12_whale_23 : decode cX12_whale 23 = .ok (.invokevirtual 170, 3) := by decide +kernel
theorem dX12_whale_26 : decode cX12_whale 26 = .ok (.ireturn, 1) := by decide +kernel
theorem dX12_whale_27 : decode cX12_whale 27 = .ok (.iload_n 2, 1) := by decide +kernel
theorem dX12_whale_28 : decode cX12_whale 28 = .ok (.tableswitch 54 0 2 #[28, 35, 44], 28) := by decide +kernel
theorem dX12_whale_56 : decode cX12_whale 56 = .ok (.aload_n 0, 1) := by decide +kernel
theorem dX12_whale_57 : decode cX12_whale 57 = .ok (.iload_n 1, 1) := by decide +kernel
theorem dX12_whale_58 : decode cX12_whale 58 = .ok (.iconst 0, 1) := by decide +kernel
theorem dX12_whale_59 : decode cX12_whale 59 = .ok (.invokevirtual 271, 3) := by decide +kernel
theorem dX12_whale_62 : decode cX12_whale 62 = .ok (.ireturn, 1) := by decide +kernel
theorem dX12_whale_63 : decode cX12_whale 63 = .ok (.aload_n 0, 1) := by decide +kernel
theorem dX12_whale_64 : decode cX12_whale 64 = .ok (.getfield 26, 3) := by decide +kernel
theorem dX12_whale_67 : decode cX12_whale 67 = .ok (.iconst 2, 1) := by decide +kernel
theorem dX12_whale_68 : decode cX12_whale 68 = .ok (.iload_n 1, 1) := by decide +kernel
theorem dX12_whale_69 : decode cX12_whale 69 = .ok (.iadd, 1) := by decide +kernel
theorem dX12_whale_70 : decode cX12_whale 70 = .ok (.iaload, 1) := by decide +kernel
theorem dX12_whale_71 : decode cX12_whale 71 = .ok (.ireturn, 1) := by decide +kernel
theorem dX12_whale_72 : decode cX12_whale 72 = .ok (.aload_n 0, 1) := by decide +kernel
theorem dX12_whale_73 : decode cX12_whale 73 = .ok (.getfield 26, 3) := by decide +kernel
theorem dX12_whale_76 : decode cX12_whale 76 = .ok (.bipush 7, 2) := by decide +kernel
theorem dX12_whale_78 : decode cX12_whale 78 = .ok (.iload_n 1, 1) := by decide +kernel
theorem dX12_whale_79 : decode cX12_whale 79 = .ok (.iadd, 1) := by decide +kernel
theorem dX12_whale_80 : decode cX12_whale 80 = .ok (.iaload, 1) := by decide +kernel
theorem dX12_whale_81 : decode cX12_whale 81 = .ok (.ireturn, 1) := by decide +kernel
theorem dX12_whale_82 : decode cX12_whale 82 = .ok (.aload_n 0, 1) := by decide +kernel
theorem dX12_whale_83 : decode cX12_whale 83 = .ok (.iload_n 1, 1) := by decide +kernel
theorem dX12_whale_84 : decode cX12_whale 84 = .ok (.iload_n 2, 1) := by decide +kernel
theorem dX12_whale_85 : decode cX12_whale 85 = .ok (.iconst 1, 1) := by decide +kernel
theorem dX12_whale_86 : decode cX12_whale 86 = .ok (.isub, 1) := by decide +kernel
theorem dX12_whale_87 : decode cX12_whale 87 = .ok (.invokevirtual 271, 3) := by decide +kernel
theorem dX12_whale_90 : decode cX12_whale 90 = .ok (.ireturn, 1) := by decide +kernel
theorem dX12_box_0 : decode cX12_box 0 = .ok (.aload_n 0, 1) := by decide +kernel
theorem dX12_box_1 : decode cX12_box 1 = .ok (.invokevirtual 167, 3) := by decide +kernel
theorem dX12_box_4 : decode cX12_box 4 = .ok (.aload_n 0, 1) := by decide +kernel
theorem dX12_box_5 : decode cX12_box 5 = .ok (.iload_n 1, 1) := by decide +kernel
theorem dX12_box_6 : decode cX12_box 6 = .ok (.invokevirtual 274, 3) := by decide +kernel
theorem dX12_box_9 : decode cX12_box 9 = .ok (.ifCond .eq 12, 3) := by decide +kernel
theorem dX12_box_12 : decode cX12_box 12 = .ok (.iload_n 2, 1) := by decide +kernel
theorem dX12_box_13 : decode cX12_box 13 = .ok (.iconst 0, 1) := by decide +kernel
theorem dX12_box_14 : decode cX12_box 14 = .ok (.iconst 5, 1) := by decide +kernel
theorem dX12_box_15 : decode cX12_box 15 = .ok (.invokestatic 149, 3) := by decide +kernel
theorem dX12_box_18 : decode cX12_box 18 = .ok (.ifCond .ne 9, 3) := by decide +kernel
theorem dX12_box_21 : decode cX12_box 21 = .ok (.aload_n 0, 1) := by decide +kernel
theorem dX12_box_22 : decode cX12_box 22 = .ok (.iconst 1, 1) := by decide +kernel
theorem dX12_box_23 : decode cX12_box 23 = .ok (.invokevirtual 170, 3) := by decide +kernel
theorem dX12_box_26 : decode cX12_box 26 = .ok (.ireturn, 1) := by decide +kernel
theorem dX12_box_27 : decode cX12_box 27 = .ok (.iload_n 2, 1) := by decide +kernel
theorem dX12_box_28 : decode cX12_box 28 = .ok (.iconst 4, 1) := by decide +kernel
theorem dX12_box_29 : decode cX12_box 29 = .ok (.if_icmp .ge 10, 3) := by decide +kernel
theorem dX12_box_32 : decode cX12_box 32 = .ok (.aload_n 0, 1) := by decide +kernel
theorem dX12_box_33 : decode cX12_box 33 = .ok (.iload_n 1, 1) := by decide +kernel
theorem dX12_box_34 : decode cX12_box 34 = .ok (.iload_n 2, 1) := by decide +kernel
theorem dX12_box_35 : decode cX12_box 35 = .ok (.invokevirtual 262, 3) := by decide +kernel
theorem dX12_box_38 : decode cX12_box 38 = .ok (.ireturn, 1) := by decide +kernel
theorem dX12_box_39 : decode cX12_box 39 = .ok (.iload_n 2, 1) := by decide +kernel
theorem dX12_box_40 : decode cX12_box 40 = .ok (.iconst 4, 1) := by decide +kernel
theorem dX12_box_41 : decode cX12_box 41 = .ok (.if_icmp .ne 15, 3) := by decide +kernel
theorem dX12_box_44 : decode cX12_box 44 = .ok (.aload_n 0, 1) := by decide +kernel
theorem dX12_box_45 : decode cX12_box 45 = .ok (.getfield 26, 3) := by decide +kernel
theorem dX12_box_48 : decode cX12_box 48 = .ok (.bipush 12, 2) := by decide +kernel
theorem dX12_box_50 : decode cX12_box 50 = .ok (.iload_n 1, 1) := by decide +kernel
theorem dX12_box_51 : decode cX12_box 51 = .ok (.iadd, 1) := by decide +kernel
theorem dX12_box_52 : decode cX12_box 52 = .ok (.iaload, 1) := by decide +kernel
theorem dX12_box_53 : decode cX12_box 53 = .ok (.goto 12, 3) := by decide +kernel
theorem dX12_box_56 : decode cX12_box 56 = .ok (.aload_n 0, 1) := by decide +kernel
theorem dX12_box_57 : decode cX12_box 57 = .ok (.getfield 26, 3) := by decide +kernel
theorem dX12_box_60 : decode cX12_box 60 = .ok (.bipush 20, 2) := by decide +kernel
theorem dX12_box_62 : decode cX12_box 62 = .ok (.iload_n 1, 1) := by decide +kernel
theorem dX12_box_63 : decode cX12_box 63 = .ok (.iadd, 1) := by decide +kernel
theorem dX12_box_64 : decode cX12_box 64 = .ok (.iaload, 1) := by decide +kernel
theorem dX12_box_65 : decode cX12_box 65 = .ok (.istore_n 3, 1) := by decide +kernel
theorem dX12_box_66 : decode cX12_box 66 = .ok (.iload_n 3, 1) := by decide +kernel
theorem dX12_box_67 : decode cX12_box 67 = .ok (.ifCond .ne 8, 3) := by decide +kernel
theorem dX12_box_70 : decode cX12_box 70 = .ok (.bipush (-2), 2) := by decide +kernel
theorem dX12_box_72 : decode cX12_box 72 = .ok (.goto 6, 3) := by decide +kernel
theorem dX12_box_75 : decode cX12_box 75 = .ok (.iload_n 3, 1) := by decide +kernel
theorem dX12_box_76 : decode cX12_box 76 = .ok (.iconst 1, 1) := by decide +kernel
theorem dX12_box_77 : decode cX12_box 77 = .ok (.isub, 1) := by decide +kernel
theorem dX12_box_78 : decode cX12_box 78 = .ok (.ireturn, 1) := by decide +kernel
theorem dX12_length_0 : decode cX12_length 0 = .ok (.aload_n 0, 1) := by decide +kernel
theorem dX12_length_1 : decode cX12_length 1 = .ok (.invokevirtual 167, 3) := by decide +kernel
theorem dX12_length_4 : decode cX12_length 4 = .ok (.aload_n 0, 1) := by decide +kernel
theorem dX12_length_5 : decode cX12_length 5 = .ok (.iload_n 1, 1) := by decide +kernel
theorem dX12_length_6 : decode cX12_length 6 = .ok (.invokevirtual 277, 3) := by decide +kernel
theorem dX12_length_9 : decode cX12_length 9 = .ok (.ifCond .eq 11, 3) := by decide +kernel
theorem dX12_length_12 : decode cX12_length 12 = .ok (.aload_n 0, 1) := by decide +kernel
theorem dX12_length_13 : decode cX12_length 13 = .ok (.iload_n 1, 1) := by decide +kernel
theorem dX12_length_14 : decode cX12_length 14 = .ok (.invokevirtual 265, 3) := by decide +kernel
theorem dX12_length_17 : decode cX12_length 17 = .ok (.goto 8, 3) := by decide +kernel
theorem dX12_length_20 : decode cX12_length 20 = .ok (.aload_n 0, 1) := by decide +kernel
theorem dX12_length_21 : decode cX12_length 21 = .ok (.iconst 1, 1) := by decide +kernel
theorem dX12_length_22 : decode cX12_length 22 = .ok (.invokevirtual 170, 3) := by decide +kernel
theorem dX12_length_25 : decode cX12_length 25 = .ok (.ireturn, 1) := by decide +kernel
theorem dX12_note_0 : decode cX12_note 0 = .ok (.aload_n 0, 1) := by decide +kernel
theorem dX12_note_1 : decode cX12_note 1 = .ok (.invokevirtual 167, 3) := by decide +kernel
theorem dX12_note_4 : decode cX12_note 4 = .ok (.aload_n 0, 1) := by decide +kernel
theorem dX12_note_5 : decode cX12_note 5 = .ok (.iload_n 1, 1) := by decide +kernel
theorem dX12_note_6 : decode cX12_note 6 = .ok (.invokevirtual 277, 3) := by decide +kernel
theorem dX12_note_9 : decode cX12_note 9 = .ok (.ifCond .eq 33, 3) := by decide +kernel
theorem dX12_note_12 : decode cX12_note 12 = .ok (.iload_n 2, 1) := by decide +kernel
theorem dX12_note_13 : decode cX12_note 13 = .ok (.iconst 0, 1) := by decide +kernel
theorem dX12_note_14 : decode cX12_note 14 = .ok (.aload_n 0, 1) := by decide +kernel
theorem dX12_note_15 : decode cX12_note 15 = .ok (.iload_n 1, 1) := by decide +kernel
theorem dX12_note_16 : decode cX12_note 16 = .ok (.invokevirtual 265, 3) := by decide +kernel
theorem dX12_note_19 : decode cX12_note 19 = .ok (.iconst 1, 1) := by decide +kernel
theorem dX12_note_20 : decode cX12_note 20 = .ok (.isub, 1) := by decide +kernel
theorem dX12_note_21 : decode cX12_note 21 = .ok (.invokestatic 149, 3) := by decide +kernel
theorem dX12_note_24 : decode cX12_note 24 = .ok (.ifCond .eq 18, 3) := by decide +kernel
theorem dX12_note_27 : decode cX12_note 27 = .ok (.aload_n 0, 1) := by decide +kernel
theorem dX12_note_28 : decode cX12_note 28 = .ok (.iload_n 1, 1) := by decide +kernel
theorem dX12_note_29 : decode cX12_note 29 = .ok (.iload_n 2, 1) := by decide +kernel
theorem dX12_note_30 : decode cX12_note 30 = .ok (.aload_n 0, 1) := by decide +kernel
theorem dX12_note_31 : decode cX12_note 31 = .ok (.getfield 26, 3) := by decide +kernel
theorem dX12_note_34 : decode cX12_note 34 = .ok (.iconst 0, 1) := by decide +kernel
theorem dX12_note_35 : decode cX12_note 35 = .ok (.iaload, 1) := by decide +kernel
theorem dX12_note_36 : decode cX12_note 36 = .ok (.invokevirtual 280, 3) := by decide +kernel
theorem dX12_note_39 : decode cX12_note 39 = .ok (.goto 8, 3) := by decide +kernel
theorem dX12_note_42 : decode cX12_note 42 = .ok (.aload_n 0, 1) := by decide +kernel
theorem dX12_note_43 : decode cX12_note 43 = .ok (.iconst 1, 1) := by decide +kernel
theorem dX12_note_44 : decode cX12_note 44 = .ok (.invokevirtual 170, 3) := by decide +kernel
theorem dX12_note_47 : decode cX12_note 47 = .ok (.ireturn, 1) := by decide +kernel
theorem dX12_sung_0 : decode cX12_sung 0 = .ok (.aload_n 0, 1) := by decide +kernel
theorem dX12_sung_1 : decode cX12_sung 1 = .ok (.invokevirtual 167, 3) := by decide +kernel
theorem dX12_sung_4 : decode cX12_sung 4 = .ok (.aload_n 0, 1) := by decide +kernel
theorem dX12_sung_5 : decode cX12_sung 5 = .ok (.iload_n 1, 1) := by decide +kernel
theorem dX12_sung_6 : decode cX12_sung 6 = .ok (.invokevirtual 274, 3) := by decide +kernel
theorem dX12_sung_9 : decode cX12_sung 9 = .ok (.ifCond .eq 35, 3) := by decide +kernel
theorem dX12_sung_12 : decode cX12_sung 12 = .ok (.iload_n 2, 1) := by decide +kernel
theorem dX12_sung_13 : decode cX12_sung 13 = .ok (.iconst 0, 1) := by decide +kernel
theorem dX12_sung_14 : decode cX12_sung 14 = .ok (.aload_n 0, 1) := by decide +kernel
theorem dX12_sung_15 : decode cX12_sung 15 = .ok (.iload_n 1, 1) := by decide +kernel
theorem dX12_sung_16 : decode cX12_sung 16 = .ok (.invokevirtual 284, 3) := by decide +kernel
theorem dX12_sung_19 : decode cX12_sung 19 = .ok (.iconst 1, 1) := by decide +kernel
theorem dX12_sung_20 : decode cX12_sung 20 = .ok (.isub, 1) := by decide +kernel
theorem dX12_sung_21 : decode cX12_sung 21 = .ok (.invokestatic 149, 3) := by decide +kernel
theorem dX12_sung_24 : decode cX12_sung 24 = .ok (.ifCond .eq 20, 3) := by decide +kernel
theorem dX12_sung_27 : decode cX12_sung 27 = .ok (.aload_n 0, 1) := by decide +kernel
theorem dX12_sung_28 : decode cX12_sung 28 = .ok (.getfield 26, 3) := by decide +kernel
theorem dX12_sung_31 : decode cX12_sung 31 = .ok (.bipush 28, 2) := by decide +kernel
theorem dX12_sung_33 : decode cX12_sung 33 = .ok (.bipush 6, 2) := by decide +kernel
theorem dX12_sung_35 : decode cX12_sung 35 = .ok (.iload_n 1, 1) := by decide +kernel
theorem dX12_sung_36 : decode cX12_sung 36 = .ok (.imul, 1) := by decide +kernel
theorem dX12_sung_37 : decode cX12_sung 37 = .ok (.iadd, 1) := by decide +kernel
theorem dX12_sung_38 : decode cX12_sung 38 = .ok (.iload_n 2, 1) := by decide +kernel
theorem dX12_sung_39 : decode cX12_sung 39 = .ok (.iadd, 1) := by decide +kernel
theorem dX12_sung_40 : decode cX12_sung 40 = .ok (.iaload, 1) := by decide +kernel
theorem dX12_sung_41 : decode cX12_sung 41 = .ok (.goto 8, 3) := by decide +kernel
theorem dX12_sung_44 : decode cX12_sung 44 = .ok (.aload_n 0, 1) := by decide +kernel
theorem dX12_sung_45 : decode cX12_sung 45 = .ok (.iconst 1, 1) := by decide +kernel
theorem dX12_sung_46 : decode cX12_sung 46 = .ok (.invokevirtual 170, 3) := by decide +kernel
theorem dX12_sung_49 : decode cX12_sung 49 = .ok (.ireturn, 1) := by decide +kernel
theorem dX12_unlike_0 : decode cX12_unlike 0 = .ok (.iconst 0, 1) := by decide +kernel
theorem dX12_unlike_1 : decode cX12_unlike 1 = .ok (.istore 6, 2) := by decide +kernel
theorem dX12_unlike_3 : decode cX12_unlike 3 = .ok (.iconst 0, 1) := by decide +kernel
theorem dX12_unlike_4 : decode cX12_unlike 4 = .ok (.istore 7, 2) := by decide +kernel
theorem dX12_unlike_6 : decode cX12_unlike 6 = .ok (.iload 7, 2) := by decide +kernel
theorem dX12_unlike_8 : decode cX12_unlike 8 = .ok (.aload_n 0, 1) := by decide +kernel
theorem dX12_unlike_9 : decode cX12_unlike 9 = .ok (.iload_n 1, 1) := by decide +kernel
theorem dX12_unlike_10 : decode cX12_unlike 10 = .ok (.invokevirtual 284, 3) := by decide +kernel
theorem dX12_unlike_13 : decode cX12_unlike 13 = .ok (.if_icmp .ge 57, 3) := by decide +kernel
theorem dX12_unlike_16 : decode cX12_unlike 16 = .ok (.iload 6, 2) := by decide +kernel
theorem dX12_unlike_18 : decode cX12_unlike 18 = .ok (.aload_n 0, 1) := by decide +kernel
theorem dX12_unlike_19 : decode cX12_unlike 19 = .ok (.iload_n 2, 1) := by decide +kernel
theorem dX12_unlike_20 : decode cX12_unlike 20 = .ok (.iload 7, 2) := by decide +kernel
theorem dX12_unlike_22 : decode cX12_unlike 22 = .ok (.iload_n 3, 1) := by decide +kernel
theorem dX12_unlike_23 : decode cX12_unlike 23 = .ok (.invokevirtual 280, 3) := by decide +kernel
theorem dX12_unlike_26 : decode cX12_unlike 26 = .ok (.iload 7, 2) := by decide +kernel
theorem dX12_unlike_28 : decode cX12_unlike 28 = .ok (.iload 4, 2) := by decide +kernel
theorem dX12_unlike_30 : decode cX12_unlike 30 = .ok (.if_icmp .ne 8, 3) := by decide +kernel
theorem dX12_unlike_33 : decode cX12_unlike 33 = .ok (.iload 5, 2) := by decide +kernel
theorem dX12_unlike_35 : decode cX12_unlike 35 = .ok (.goto 18, 3) := by decide +kernel
theorem dX12_unlike_38 : decode cX12_unlike 38 = .ok (.aload_n 0, 1) := by decide +kernel
theorem dX12_unlike_39 : decode cX12_unlike 39 = .ok (.getfield 26, 3) := by decide +kernel
theorem dX12_unlike_42 : decode cX12_unlike 42 = .ok (.bipush 28, 2) := by decide +kernel
theorem dX12_unlike_44 : decode cX12_unlike 44 = .ok (.bipush 6, 2) := by decide +kernel
theorem dX12_unlike_46 : decode cX12_unlike 46 = .ok (.iload_n 1, 1) := by decide +kernel
theorem dX12_unlike_47 : decode cX12_unlike 47 = .ok (.imul, 1) := by decide +kernel
theorem dX12_unlike_48 : decode cX12_unlike 48 = .ok (.iadd, 1) := by decide +kernel
theorem dX12_unlike_49 : decode cX12_unlike 49 = .ok (.iload 7, 2) := by decide +kernel
theorem dX12_unlike_51 : decode cX12_unlike 51 = .ok (.iadd, 1) := by decide +kernel
theorem dX12_unlike_52 : decode cX12_unlike 52 = .ok (.iaload, 1) := by decide +kernel
theorem dX12_unlike_53 : decode cX12_unlike 53 = .ok (.if_icmp .ne 7, 3) := by decide +kernel
theorem dX12_unlike_56 : decode cX12_unlike 56 = .ok (.iconst 0, 1) := by decide +kernel
theorem dX12_unlike_57 : decode cX12_unlike 57 = .ok (.goto 4, 3) := by decide +kernel
theorem dX12_unlike_60 : decode cX12_unlike 60 = .ok (.iconst 1, 1) := by decide +kernel
theorem dX12_unlike_61 : decode cX12_unlike 61 = .ok (.iadd, 1) := by decide +kernel
theorem dX12_unlike_62 : decode cX12_unlike 62 = .ok (.istore 6, 2) := by decide +kernel
theorem dX12_unlike_64 : decode cX12_unlike 64 = .ok (.iinc 7 1, 3) := by decide +kernel
theorem dX12_unlike_67 : decode cX12_unlike 67 = .ok (.goto (-61), 3) := by decide +kernel
theorem dX12_unlike_70 : decode cX12_unlike 70 = .ok (.iload 6, 2) := by decide +kernel
theorem dX12_unlike_72 : decode cX12_unlike 72 = .ok (.ireturn, 1) := by decide +kernel
theorem dX12_hearsIn_0 : decode cX12_hearsIn 0 = .ok (.bipush (-2), 2) := by decide +kernel
theorem dX12_hearsIn_2 : decode cX12_hearsIn 2 = .ok (.istore 5, 2) := by decide +kernel
theorem dX12_hearsIn_4 : decode cX12_hearsIn 4 = .ok (.bipush 7, 2) := by decide +kernel
theorem dX12_hearsIn_6 : decode cX12_hearsIn 6 = .ok (.istore 6, 2) := by decide +kernel
theorem dX12_hearsIn_8 : decode cX12_hearsIn 8 = .ok (.iconst 0, 1) := by decide +kernel
theorem dX12_hearsIn_9 : decode cX12_hearsIn 9 = .ok (.istore 7, 2) := by decide +kernel
theorem dX12_hearsIn_11 : decode cX12_hearsIn 11 = .ok (.iload 7, 2) := by decide +kernel
theorem dX12_hearsIn_13 : decode cX12_hearsIn 13 = .ok (.aload_n 0, 1) := by decide +kernel
theorem dX12_hearsIn_14 : decode cX12_hearsIn 14 = .ok (.getfield 20, 3) := by decide +kernel
theorem dX12_hearsIn_17 : decode cX12_hearsIn 17 = .ok (.iconst 4, 1) := by decide +kernel
theorem dX12_hearsIn_18 : decode cX12_hearsIn 18 = .ok (.iaload, 1) := by decide +kernel
theorem dX12_hearsIn_19 : decode cX12_hearsIn 19 = .ok (.if_icmp .ge 69, 3) := by decide +kernel
theorem dX12_hearsIn_22 : decode cX12_hearsIn 22 = .ok (.aload_n 0, 1) := by decide +kernel
theorem dX12_hearsIn_23 : decode cX12_hearsIn 23 = .ok (.iload 7, 2) := by decide +kernel
theorem dX12_hearsIn_25 : decode cX12_hearsIn 25 = .ok (.invokevirtual 265, 3) := by decide +kernel
theorem dX12_hearsIn_28 : decode cX12_hearsIn 28 = .ok (.aload_n 0, 1) := by decide +kernel
theorem dX12_hearsIn_29 : decode cX12_hearsIn 29 = .ok (.iload_n 1, 1) := by decide +kernel
theorem dX12_hearsIn_30 : decode cX12_hearsIn 30 = .ok (.invokevirtual 284, 3) := by decide +kernel
theorem dX12_hearsIn_33 : decode cX12_hearsIn 33 = .ok (.if_icmp .eq 6, 3) := by decide +kernel
theorem dX12_hearsIn_36 : decode cX12_hearsIn 36 = .ok (.goto 46, 3) := by decide +kernel
theorem dX12_hearsIn_39 : decode cX12_hearsIn 39 = .ok (.aload_n 0, 1) := by decide +kernel
theorem dX12_hearsIn_40 : decode cX12_hearsIn 40 = .ok (.iload_n 1, 1) := by decide +kernel
theorem dX12_hearsIn_41 : decode cX12_hearsIn 41 = .ok (.iload 7, 2) := by decide +kernel
theorem dX12_hearsIn_43 : decode cX12_hearsIn 43 = .ok (.iload_n 2, 1) := by decide +kernel
theorem dX12_hearsIn_44 : decode cX12_hearsIn 44 = .ok (.iload_n 3, 1) := by decide +kernel
theorem dX12_hearsIn_45 : decode cX12_hearsIn 45 = .ok (.iload 4, 2) := by decide +kernel
theorem dX12_hearsIn_47 : decode cX12_hearsIn 47 = .ok (.invokevirtual 287, 3) := by decide +kernel
theorem dX12_hearsIn_50 : decode cX12_hearsIn 50 = .ok (.istore 8, 2) := by decide +kernel
theorem dX12_hearsIn_52 : decode cX12_hearsIn 52 = .ok (.iload 8, 2) := by decide +kernel
theorem dX12_hearsIn_54 : decode cX12_hearsIn 54 = .ok (.iload 6, 2) := by decide +kernel
theorem dX12_hearsIn_56 : decode cX12_hearsIn 56 = .ok (.if_icmp .le 6, 3) := by decide +kernel
theorem dX12_hearsIn_59 : decode cX12_hearsIn 59 = .ok (.goto 23, 3) := by decide +kernel
theorem dX12_hearsIn_62 : decode cX12_hearsIn 62 = .ok (.iload 8, 2) := by decide +kernel
theorem dX12_hearsIn_64 : decode cX12_hearsIn 64 = .ok (.iload 6, 2) := by decide +kernel
theorem dX12_hearsIn_66 : decode cX12_hearsIn 66 = .ok (.if_icmp .ge 8, 3) := by decide +kernel
theorem dX12_hearsIn_69 : decode cX12_hearsIn 69 = .ok (.iload 7, 2) := by decide +kernel
theorem dX12_hearsIn_71 : decode cX12_hearsIn 71 = .ok (.goto 5, 3) := by decide +kernel
theorem dX12_hearsIn_74 : decode cX12_hearsIn 74 = .ok (.bipush (-2), 2) := by decide +kernel
theorem dX12_hearsIn_76 : decode cX12_hearsIn 76 = .ok (.istore 5, 2) := by decide +kernel
theorem dX12_hearsIn_78 : decode cX12_hearsIn 78 = .ok (.iload 8, 2) := by decide +kernel
theorem dX12_hearsIn_80 : decode cX12_hearsIn 80 = .ok (.istore 6, 2) := by decide +kernel
theorem dX12_hearsIn_82 : decode cX12_hearsIn 82 = .ok (.iinc 7 1, 3) := by decide +kernel
theorem dX12_hearsIn_85 : decode cX12_hearsIn 85 = .ok (.goto (-74), 3) := by decide +kernel
theorem dX12_hearsIn_88 : decode cX12_hearsIn 88 = .ok (.iload 6, 2) := by decide +kernel
theorem dX12_hearsIn_90 : decode cX12_hearsIn 90 = .ok (.aload_n 0, 1) := by decide +kernel
theorem dX12_hearsIn_91 : decode cX12_hearsIn 91 = .ok (.getfield 20, 3) := by decide +kernel
theorem dX12_hearsIn_94 : decode cX12_hearsIn 94 = .ok (.iconst 1, 1) := by decide +kernel
theorem dX12_hearsIn_95 : decode cX12_hearsIn 95 = .ok (.iaload, 1) := by decide +kernel
theorem dX12_hearsIn_96 : decode cX12_hearsIn 96 = .ok (.if_icmp .gt 8, 3) := by decide +kernel
theorem dX12_hearsIn_99 : decode cX12_hearsIn 99 = .ok (.iload 5, 2) := by decide +kernel
theorem dX12_hearsIn_101 : decode cX12_hearsIn 101 = .ok (.goto 5, 3) := by decide +kernel
theorem dX12_hearsIn_104 : decode cX12_hearsIn 104 = .ok (.bipush (-2), 2) := by decide +kernel
theorem dX12_hearsIn_106 : decode cX12_hearsIn 106 = .ok (.ireturn, 1) := by decide +kernel
theorem dX12_heardNow_0 : decode cX12_heardNow 0 = .ok (.aload_n 0, 1) := by decide +kernel
theorem dX12_heardNow_1 : decode cX12_heardNow 1 = .ok (.iload_n 1, 1) := by decide +kernel
theorem dX12_heardNow_2 : decode cX12_heardNow 2 = .ok (.aload_n 0, 1) := by decide +kernel
theorem dX12_heardNow_3 : decode cX12_heardNow 3 = .ok (.getfield 26, 3) := by decide +kernel
theorem dX12_heardNow_6 : decode cX12_heardNow 6 = .ok (.iconst 0, 1) := by decide +kernel
theorem dX12_heardNow_7 : decode cX12_heardNow 7 = .ok (.iaload, 1) := by decide +kernel
theorem dX12_heardNow_8 : decode cX12_heardNow 8 = .ok (.iconst (-1), 1) := by decide +kernel
theorem dX12_heardNow_9 : decode cX12_heardNow 9 = .ok (.iconst 0, 1) := by decide +kernel
theorem dX12_heardNow_10 : decode cX12_heardNow 10 = .ok (.invokevirtual 291, 3) := by decide +kernel
theorem dX12_heardNow_13 : decode cX12_heardNow 13 = .ok (.ireturn, 1) := by decide +kernel
theorem dX12_heard_0 : decode cX12_heard 0 = .ok (.aload_n 0, 1) := by decide +kernel
theorem dX12_heard_1 : decode cX12_heard 1 = .ok (.invokevirtual 167, 3) := by decide +kernel
theorem dX12_heard_4 : decode cX12_heard 4 = .ok (.aload_n 0, 1) := by decide +kernel
theorem dX12_heard_5 : decode cX12_heard 5 = .ok (.iload_n 1, 1) := by decide +kernel
theorem dX12_heard_6 : decode cX12_heard 6 = .ok (.invokevirtual 274, 3) := by decide +kernel
theorem dX12_heard_9 : decode cX12_heard 9 = .ok (.ifCond .eq 11, 3) := by decide +kernel
theorem dX12_heard_12 : decode cX12_heard 12 = .ok (.aload_n 0, 1) := by decide +kernel
theorem dX12_heard_13 : decode cX12_heard 13 = .ok (.iload_n 1, 1) := by decide +kernel
theorem dX12_heard_14 : decode cX12_heard 14 = .ok (.invokevirtual 295, 3) := by decide +kernel
theorem dX12_heard_17 : decode cX12_heard 17 = .ok (.goto 8, 3) := by decide +kernel
theorem dX12_heard_20 : decode cX12_heard 20 = .ok (.aload_n 0, 1) := by decide +kernel
theorem dX12_heard_21 : decode cX12_heard 21 = .ok (.iconst 1, 1) := by decide +kernel
theorem dX12_heard_22 : decode cX12_heard 22 = .ok (.invokevirtual 170, 3) := by decide +kernel
theorem dX12_heard_25 : decode cX12_heard 25 = .ok (.ireturn, 1) := by decide +kernel
theorem dX12_isClosed_0 : decode cX12_isClosed 0 = .ok (.aload_n 0, 1) := by decide +kernel
theorem dX12_isClosed_1 : decode cX12_isClosed 1 = .ok (.getfield 26, 3) := by decide +kernel
theorem dX12_isClosed_4 : decode cX12_isClosed 4 = .ok (.iconst 1, 1) := by decide +kernel
theorem dX12_isClosed_5 : decode cX12_isClosed 5 = .ok (.iaload, 1) := by decide +kernel
theorem dX12_isClosed_6 : decode cX12_isClosed 6 = .ok (.iload_n 1, 1) := by decide +kernel
theorem dX12_isClosed_7 : decode cX12_isClosed 7 = .ok (.invokestatic 298, 3) := by decide +kernel
theorem dX12_isClosed_10 : decode cX12_isClosed 10 = .ok (.ireturn, 1) := by decide +kernel
theorem dX12_wayOf_0 : decode cX12_wayOf 0 = .ok (.iconst 0, 1) := by decide +kernel
theorem dX12_wayOf_1 : decode cX12_wayOf 1 = .ok (.istore_n 3, 1) := by decide +kernel
theorem dX12_wayOf_2 : decode cX12_wayOf 2 = .ok (.iload_n 3, 1) := by decide +kernel
theorem dX12_wayOf_3 : decode cX12_wayOf 3 = .ok (.aload_n 0, 1) := by decide +kernel
theorem dX12_wayOf_4 : decode cX12_wayOf 4 = .ok (.getfield 20, 3) := by decide +kernel
theorem dX12_wayOf_7 : decode cX12_wayOf 7 = .ok (.iconst 5, 1) := by decide +kernel
theorem dX12_wayOf_8 : decode cX12_wayOf 8 = .ok (.iaload, 1) := by decide +kernel
theorem dX12_wayOf_9 : decode cX12_wayOf 9 = .ok (.if_icmp .ge 32, 3) := by decide +kernel
theorem dX12_wayOf_12 : decode cX12_wayOf 12 = .ok (.aload_n 0, 1) := by decide +kernel
theorem dX12_wayOf_13 : decode cX12_wayOf 13 = .ok (.getfield 20, 3) := by decide +kernel
theorem dX12_wayOf_16 : decode cX12_wayOf 16 = .ok (.iload_n 3, 1) := by decide +kernel
theorem dX12_wayOf_17 : decode cX12_wayOf 17 = .ok (.iload_n 1, 1) := by decide +kernel
theorem dX12_wayOf_18 : decode cX12_wayOf 18 = .ok (.iload_n 2, 1) := by decide +kernel
theorem dX12_wayOf_19 : decode cX12_wayOf 19 = .ok (.invokestatic 230, 3) := by decide +kernel
theorem dX12_wayOf_22 : decode cX12_wayOf 22 = .ok (.ifCond .eq 13, 3) := by decide +kernel
theorem dX12_wayOf_25 : decode cX12_wayOf 25 = .ok (.aload_n 0, 1) := by decide +kernel
theorem dX12_wayOf_26 : decode cX12_wayOf 26 = .ok (.iload_n 3, 1) := by decide +kernel
theorem dX12_wayOf_27 : decode cX12_wayOf 27 = .ok (.invokevirtual 302, 3) := by decide +kernel
theorem dX12_wayOf_30 : decode cX12_wayOf 30 = .ok (.ifCond .ne 5, 3) := by decide +kernel
theorem dX12_wayOf_33 : decode cX12_wayOf 33 = .ok (.iload_n 3, 1) := by decide +kernel
theorem dX12_wayOf_34 : decode cX12_wayOf 34 = .ok (.ireturn, 1) := by decide +kernel
theorem dX12_wayOf_35 : decode cX12_wayOf 35 = .ok (.iinc 3 1, 3) := by decide +kernel
theorem dX12_wayOf_38 : decode cX12_wayOf 38 = .ok (.goto (-36), 3) := by decide +kernel
theorem dX12_wayOf_41 : decode cX12_wayOf 41 = .ok (.iconst (-1), 1) := by decide +kernel
theorem dX12_wayOf_42 : decode cX12_wayOf 42 = .ok (.ireturn, 1) := by decide +kernel
theorem dX12_way_0 : decode cX12_way 0 = .ok (.aload_n 0, 1) := by decide +kernel
theorem dX12_way_1 : decode cX12_way 1 = .ok (.invokevirtual 167, 3) := by decide +kernel
theorem dX12_way_4 : decode cX12_way 4 = .ok (.aload_n 0, 1) := by decide +kernel
theorem dX12_way_5 : decode cX12_way 5 = .ok (.iload_n 1, 1) := by decide +kernel
theorem dX12_way_6 : decode cX12_way 6 = .ok (.invokevirtual 277, 3) := by decide +kernel
theorem dX12_way_9 : decode cX12_way 9 = .ok (.ifCond .eq 16, 3) := by decide +kernel
theorem dX12_way_12 : decode cX12_way 12 = .ok (.aload_n 0, 1) := by decide +kernel
theorem dX12_way_13 : decode cX12_way 13 = .ok (.iload_n 2, 1) := by decide +kernel
theorem dX12_way_14 : decode cX12_way 14 = .ok (.invokevirtual 277, 3) := by decide +kernel
theorem dX12_way_17 : decode cX12_way 17 = .ok (.ifCond .eq 8, 3) := by decide +kernel
theorem dX12_way_20 : decode cX12_way 20 = .ok (.iload_n 1, 1) := by decide +kernel
theorem dX12_way_21 : decode cX12_way 21 = .ok (.iload_n 2, 1) := by decide +kernel
theorem dX12_way_22 : decode cX12_way 22 = .ok (.if_icmp .ne 9, 3) := by decide +kernel
theorem dX12_way_25 : decode cX12_way 25 = .ok (.aload_n 0, 1) := by decide +kernel
theorem dX12_way_26 : decode cX12_way 26 = .ok (.iconst 1, 1) := by decide +kernel
theorem dX12_way_27 : decode cX12_way 27 = .ok (.invokevirtual 170, 3) := by decide +kernel
theorem dX12_way_30 : decode cX12_way 30 = .ok (.ireturn, 1) := by decide +kernel
theorem dX12_way_31 : decode cX12_way 31 = .ok (.aload_n 0, 1) := by decide +kernel
theorem dX12_way_32 : decode cX12_way 32 = .ok (.iload_n 1, 1) := by decide +kernel
theorem dX12_way_33 : decode cX12_way 33 = .ok (.iload_n 2, 1) := by decide +kernel
theorem dX12_way_34 : decode cX12_way 34 = .ok (.invokevirtual 305, 3) := by decide +kernel
theorem dX12_way_37 : decode cX12_way 37 = .ok (.istore_n 3, 1) := by decide +kernel
theorem dX12_way_38 : decode cX12_way 38 = .ok (.iload_n 3, 1) := by decide +kernel
theorem dX12_way_39 : decode cX12_way 39 = .ok (.ifCond .ge 8, 3) := by decide +kernel
theorem dX12_way_42 : decode cX12_way 42 = .ok (.bipush (-2), 2) := by decide +kernel
theorem dX12_way_44 : decode cX12_way 44 = .ok (.goto 16, 3) := by decide +kernel
theorem dX12_way_47 : decode cX12_way 47 = .ok (.aload_n 0, 1) := by decide +kernel
theorem dX12_way_48 : decode cX12_way 48 = .ok (.getfield 20, 3) := by decide +kernel
theorem dX12_way_51 : decode cX12_way 51 = .ok (.bipush 59, 2) := by decide +kernel
theorem dX12_way_53 : decode cX12_way 53 = .ok (.iconst 4, 1) := by decide +kernel
theorem dX12_way_54 : decode cX12_way 54 = .ok (.iload_n 3, 1) := by decide +kernel
theorem dX12_way_55 : decode cX12_way 55 = .ok (.imul, 1) := by decide +kernel
theorem dX12_way_56 : decode cX12_way 56 = .ok (.iadd, 1) := by decide +kernel
theorem dX12_way_57 : decode cX12_way 57 = .ok (.iconst 2, 1) := by decide +kernel
theorem dX12_way_58 : decode cX12_way 58 = .ok (.iadd, 1) := by decide +kernel
theorem dX12_way_59 : decode cX12_way 59 = .ok (.iaload, 1) := by decide +kernel
theorem dX12_way_60 : decode cX12_way 60 = .ok (.ireturn, 1) := by decide +kernel
theorem dX12_nearOf_0 : decode cX12_nearOf 0 = .ok (.bipush 7, 2) := by decide +kernel
theorem dX12_nearOf_2 : decode cX12_nearOf 2 = .ok (.istore_n 3, 1) := by decide +kernel
theorem dX12_nearOf_3 : decode cX12_nearOf 3 = .ok (.iconst 0, 1) := by decide +kernel
theorem dX12_nearOf_4 : decode cX12_nearOf 4 = .ok (.istore 4, 2) := by decide +kernel
theorem dX12_nearOf_6 : decode cX12_nearOf 6 = .ok (.iconst 0, 1) := by decide +kernel
theorem dX12_nearOf_7 : decode cX12_nearOf 7 = .ok (.istore 5, 2) := by decide +kernel
theorem dX12_nearOf_9 : decode cX12_nearOf 9 = .ok (.iload 5, 2) := by decide +kernel
theorem dX12_nearOf_11 : decode cX12_nearOf 11 = .ok (.aload_n 0, 1) := by decide +kernel
theorem dX12_nearOf_12 : decode cX12_nearOf 12 = .ok (.getfield 20, 3) := by decide +kernel
theorem dX12_nearOf_15 : decode cX12_nearOf 15 = .ok (.iconst 4, 1) := by decide +kernel
theorem dX12_nearOf_16 : decode cX12_nearOf 16 = .ok (.iaload, 1) := by decide +kernel
theorem dX12_nearOf_17 : decode cX12_nearOf 17 = .ok (.if_icmp .ge 83, 3) := by decide +kernel
theorem dX12_nearOf_20 : decode cX12_nearOf 20 = .ok (.aload_n 0, 1) := by decide +kernel
theorem dX12_nearOf_21 : decode cX12_nearOf 21 = .ok (.iload 5, 2) := by decide +kernel
theorem dX12_nearOf_23 : decode cX12_nearOf 23 = .ok (.invokevirtual 265, 3) := by decide +kernel
theorem dX12_nearOf_26 : decode cX12_nearOf 26 = .ok (.aload_n 0, 1) := by decide +kernel
theorem dX12_nearOf_27 : decode cX12_nearOf 27 = .ok (.iload_n 1, 1) := by decide +kernel
theorem dX12_nearOf_28 : decode cX12_nearOf 28 = .ok (.invokevirtual 284, 3) := by decide +kernel
theorem dX12_nearOf_31 : decode cX12_nearOf 31 = .ok (.if_icmp .eq 6, 3) := by decide +kernel
theorem dX12_nearOf_34 : decode cX12_nearOf 34 = .ok (.goto 60, 3) := by decide +kernel
theorem dX12_nearOf_37 : decode cX12_nearOf 37 = .ok (.aload_n 0, 1) := by decide +kernel
theorem dX12_nearOf_38 : decode cX12_nearOf 38 = .ok (.iload_n 1, 1) := by decide +kernel
theorem dX12_nearOf_39 : decode cX12_nearOf 39 = .ok (.iload 5, 2) := by decide +kernel
theorem dX12_nearOf_41 : decode cX12_nearOf 41 = .ok (.aload_n 0, 1) := by decide +kernel
theorem dX12_nearOf_42 : decode cX12_nearOf 42 = .ok (.getfield 26, 3) := by decide +kernel
theorem dX12_nearOf_45 : decode cX12_nearOf 45 = .ok (.iconst 0, 1) := by decide +kernel
theorem dX12_nearOf_46 : decode cX12_nearOf 46 = .ok (.iaload, 1) := by decide +kernel
theorem dX12_nearOf_47 : decode cX12_nearOf 47 = .ok (.iconst (-1), 1) := by decide +kernel
theorem dX12_nearOf_48 : decode cX12_nearOf 48 = .ok (.iconst 0, 1) := by decide +kernel
theorem dX12_nearOf_49 : decode cX12_nearOf 49 = .ok (.invokevirtual 287, 3) := by decide +kernel
theorem dX12_nearOf_52 : decode cX12_nearOf 52 = .ok (.istore 6, 2) := by decide +kernel
theorem dX12_nearOf_54 : decode cX12_nearOf 54 = .ok (.iload 6, 2) := by decide +kernel
theorem dX12_nearOf_56 : decode cX12_nearOf 56 = .ok (.iload_n 3, 1) := by decide +kernel
theorem dX12_nearOf_57 : decode cX12_nearOf 57 = .ok (.if_icmp .ge 7, 3) := by decide +kernel
theorem dX12_nearOf_60 : decode cX12_nearOf 60 = .ok (.iconst 1, 1) := by decide +kernel
theorem dX12_nearOf_61 : decode cX12_nearOf 61 = .ok (.goto 18, 3) := by decide +kernel
theorem dX12_nearOf_64 : decode cX12_nearOf 64 = .ok (.iload 6, 2) := by decide +kernel
theorem dX12_nearOf_66 : decode cX12_nearOf 66 = .ok (.iload_n 3, 1) := by decide +kernel
theorem dX12_nearOf_67 : decode cX12_nearOf 67 = .ok (.if_icmp .ne 10, 3) := by decide +kernel
theorem dX12_nearOf_70 : decode cX12_nearOf 70 = .ok (.iload 4, 2) := by decide +kernel
theorem dX12_nearOf_72 : decode cX12_nearOf 72 = .ok (.iconst 1, 1) := by decide +kernel
theorem dX12_nearOf_73 : decode cX12_nearOf 73 = .ok (.iadd, 1) := by decide +kernel
theorem dX12_nearOf_74 : decode cX12_nearOf 74 = .ok (.goto 5, 3) := by decide +kernel
theorem dX12_nearOf_77 : decode cX12_nearOf 77 = .ok (.iload 4, 2) := by decide +kernel
theorem dX12_nearOf_79 : decode cX12_nearOf 79 = .ok (.istore 4, 2) := by decide +kernel
theorem dX12_nearOf_81 : decode cX12_nearOf 81 = .ok (.iload 6, 2) := by decide +kernel
theorem dX12_nearOf_83 : decode cX12_nearOf 83 = .ok (.iload_n 3, 1) := by decide +kernel
theorem dX12_nearOf_84 : decode cX12_nearOf 84 = .ok (.if_icmp .ge 8, 3) := by decide +kernel
theorem dX12_nearOf_87 : decode cX12_nearOf 87 = .ok (.iload 6, 2) := by decide +kernel
theorem dX12_nearOf_89 : decode cX12_nearOf 89 = .ok (.goto 4, 3) := by decide +kernel
theorem dX12_nearOf_92 : decode cX12_nearOf 92 = .ok (.iload_n 3, 1) := by decide +kernel
theorem dX12_nearOf_93 : decode cX12_nearOf 93 = .ok (.istore_n 3, 1) := by decide +kernel
theorem dX12_nearOf_94 : decode cX12_nearOf 94 = .ok (.iinc 5 1, 3) := by decide +kernel
theorem dX12_nearOf_97 : decode cX12_nearOf 97 = .ok (.goto (-88), 3) := by decide +kernel
theorem dX12_nearOf_100 : decode cX12_nearOf 100 = .ok (.iload_n 2, 1) := by decide +kernel
theorem dX12_nearOf_101 : decode cX12_nearOf 101 = .ok (.ifCond .eq 8, 3) := by decide +kernel
theorem dX12_nearOf_104 : decode cX12_nearOf 104 = .ok (.iload 4, 2) := by decide +kernel
theorem dX12_nearOf_106 : decode cX12_nearOf 106 = .ok (.goto 4, 3) := by decide +kernel
theorem dX12_nearOf_109 : decode cX12_nearOf 109 = .ok (.iload_n 3, 1) := by decide +kernel
theorem dX12_nearOf_110 : decode cX12_nearOf 110 = .ok (.ireturn, 1) := by decide +kernel
theorem dX12_near_0 : decode cX12_near 0 = .ok (.aload_n 0, 1) := by decide +kernel
theorem dX12_near_1 : decode cX12_near 1 = .ok (.invokevirtual 167, 3) := by decide +kernel
theorem dX12_near_4 : decode cX12_near 4 = .ok (.aload_n 0, 1) := by decide +kernel
theorem dX12_near_5 : decode cX12_near 5 = .ok (.iload_n 1, 1) := by decide +kernel
theorem dX12_near_6 : decode cX12_near 6 = .ok (.invokevirtual 274, 3) := by decide +kernel
theorem dX12_near_9 : decode cX12_near 9 = .ok (.ifCond .eq 12, 3) := by decide +kernel
theorem dX12_near_12 : decode cX12_near 12 = .ok (.aload_n 0, 1) := by decide +kernel
theorem dX12_near_13 : decode cX12_near 13 = .ok (.iload_n 1, 1) := by decide +kernel
theorem dX12_near_14 : decode cX12_near 14 = .ok (.iconst 0, 1) := by decide +kernel
theorem dX12_near_15 : decode cX12_near 15 = .ok (.invokevirtual 308, 3) := by decide +kernel
theorem dX12_near_18 : decode cX12_near 18 = .ok (.goto 8, 3) := by decide +kernel
theorem dX12_near_21 : decode cX12_near 21 = .ok (.aload_n 0, 1) := by decide +kernel
theorem dX12_near_22 : decode cX12_near 22 = .ok (.iconst 1, 1) := by decide +kernel
theorem dX12_near_23 : decode cX12_near 23 = .ok (.invokevirtual 170, 3) := by decide +kernel
theorem dX12_near_26 : decode cX12_near 26 = .ok (.ireturn, 1) := by decide +kernel
theorem dX12_asNear_0 : decode cX12_asNear 0 = .ok (.aload_n 0, 1) := by decide +kernel
theorem dX12_asNear_1 : decode cX12_asNear 1 = .ok (.invokevirtual 167, 3) := by decide +kernel
theorem dX12_asNear_4 : decode cX12_asNear 4 = .ok (.aload_n 0, 1) := by decide +kernel
theorem dX12_asNear_5 : decode cX12_asNear 5 = .ok (.iload_n 1, 1) := by decide +kernel
theorem dX12_asNear_6 : decode cX12_asNear 6 = .ok (.invokevirtual 274, 3) := by decide +kernel
theorem dX12_asNear_9 : decode cX12_asNear 9 = .ok (.ifCond .eq 12, 3) := by decide +kernel
theorem dX12_asNear_12 : decode cX12_asNear 12 = .ok (.aload_n 0, 1) := by decide +kernel
theorem dX12_asNear_13 : decode cX12_asNear 13 = .ok (.iload_n 1, 1) := by decide +kernel
theorem dX12_asNear_14 : decode cX12_asNear 14 = .ok (.iconst 1, 1) := by decide +kernel
theorem dX12_asNear_15 : decode cX12_asNear 15 = .ok (.invokevirtual 308, 3) := by decide +kernel
theorem dX12_asNear_18 : decode cX12_asNear 18 = .ok (.goto 8, 3) := by decide +kernel
theorem dX12_asNear_21 : decode cX12_asNear 21 = .ok (.aload_n 0, 1) := by decide +kernel
theorem dX12_asNear_22 : decode cX12_asNear 22 = .ok (.iconst 1, 1) := by decide +kernel
theorem dX12_asNear_23 : decode cX12_asNear 23 = .ok (.invokevirtual 170, 3) := by decide +kernel
theorem dX12_asNear_26 : decode cX12_asNear 26 = .ok (.ireturn, 1) := by decide +kernel
theorem dX12_sent_0 : decode cX12_sent 0 = .ok (.aload_n 0, 1) := by decide +kernel
theorem dX12_sent_1 : decode cX12_sent 1 = .ok (.invokevirtual 167, 3) := by decide +kernel
theorem dX12_sent_4 : decode cX12_sent 4 = .ok (.aload_n 0, 1) := by decide +kernel
theorem dX12_sent_5 : decode cX12_sent 5 = .ok (.getfield 180, 3) := by decide +kernel
theorem dX12_sent_8 : decode cX12_sent 8 = .ok (.ifCond .eq 12, 3) := by decide +kernel
theorem dX12_sent_11 : decode cX12_sent 11 = .ok (.iload_n 1, 1) := by decide +kernel
theorem dX12_sent_12 : decode cX12_sent 12 = .ok (.iconst 0, 1) := by decide +kernel
theorem dX12_sent_13 : decode cX12_sent 13 = .ok (.iconst 2, 1) := by decide +kernel
theorem dX12_sent_14 : decode cX12_sent 14 = .ok (.invokestatic 149, 3) := by decide +kernel
theorem dX12_sent_17 : decode cX12_sent 17 = .ok (.ifCond .ne 9, 3) := by decide +kernel
theorem dX12_sent_20 : decode cX12_sent 20 = .ok (.aload_n 0, 1) := by decide +kernel
theorem dX12_sent_21 : decode cX12_sent 21 = .ok (.iconst 1, 1) := by decide +kernel
theorem dX12_sent_22 : decode cX12_sent 22 = .ok (.invokevirtual 170, 3) := by decide +kernel
theorem dX12_sent_25 : decode cX12_sent 25 = .ok (.ireturn, 1) := by decide +kernel
theorem dX12_sent_26 : decode cX12_sent 26 = .ok (.iconst 0, 1) := by decide +kernel
theorem dX12_sent_27 : decode cX12_sent 27 = .ok (.istore_n 2, 1) := by decide +kernel
theorem dX12_sent_28 : decode cX12_sent 28 = .ok (.iconst 0, 1) := by decide +kernel
theorem dX12_sent_29 : decode cX12_sent 29 = .ok (.istore_n 3, 1) := by decide +kernel
theorem dX12_sent_30 : decode cX12_sent 30 = .ok (.iload_n 3, 1) := by decide +kernel
theorem dX12_sent_31 : decode cX12_sent 31 = .ok (.aload_n 0, 1) := by decide +kernel
theorem dX12_sent_32 : decode cX12_sent 32 = .ok (.getfield 20, 3) := by decide +kernel
theorem dX12_sent_35 : decode cX12_sent 35 = .ok (.bipush 7, 2) := by decide +kernel
theorem dX12_sent_37 : decode cX12_sent 37 = .ok (.iaload, 1) := by decide +kernel
theorem dX12_sent_38 : decode cX12_sent 38 = .ok (.if_icmp .ge 86, 3) := by decide +kernel
theorem dX12_sent_41 : decode cX12_sent 41 = .ok (.aload_n 0, 1) := by decide +kernel
theorem dX12_sent_42 : decode cX12_sent 42 = .ok (.getfield 26, 3) := by decide +kernel
theorem dX12_sent_45 : decode cX12_sent 45 = .ok (.bipush 12, 2) := by decide +kernel
theorem dX12_sent_47 : decode cX12_sent 47 = .ok (.iload_n 3, 1) := by decide +kernel
theorem dX12_sent_48 : decode cX12_sent 48 = .ok (.iadd, 1) := by decide +kernel
theorem dX12_sent_49 : decode cX12_sent 49 = .ok (.iaload, 1) := by decide +kernel
theorem dX12_sent_50 : decode cX12_sent 50 = .ok (.ifCond .ne 6, 3) := by decide +kernel
theorem dX12_sent_53 : decode cX12_sent 53 = .ok (.goto 65, 3) := by decide +kernel
theorem dX12_sent_56 : decode cX12_sent 56 = .ok (.iload_n 2, 1) := by decide +kernel
theorem dX12_sent_57 : decode cX12_sent 57 = .ok (.iload_n 1, 1) := by decide +kernel
theorem dX12_sent_58 : decode cX12_sent 58 = .ok (.ifCond .ne 7, 3) := by decide +kernel
theorem dX12_sent_61 : decode cX12_sent 61 = .ok (.iconst 1, 1) := by decide +kernel
theorem dX12_sent_62 : decode cX12_sent 62 = .ok (.goto 54, 3) := by decide +kernel
theorem dX12_sent_65 : decode cX12_sent 65 = .ok (.iload_n 1, 1) := by decide +kernel
theorem dX12_sent_66 : decode cX12_sent 66 = .ok (.iconst 1, 1) := by decide +kernel
theorem dX12_sent_67 : decode cX12_sent 67 = .ok (.if_icmp .ne 31, 3) := by decide +kernel
theorem dX12_sent_70 : decode cX12_sent 70 = .ok (.aload_n 0, 1) := by decide +kernel
theorem dX12_sent_71 : decode cX12_sent 71 = .ok (.getfield 26, 3) := by decide +kernel
theorem dX12_sent_74 : decode cX12_sent 74 = .ok (.bipush 20, 2) := by decide +kernel
theorem dX12_sent_76 : decode cX12_sent 76 = .ok (.iload_n 3, 1) := by decide +kernel
theorem dX12_sent_77 : decode cX12_sent 77 = .ok (.iadd, 1) := by decide +kernel
theorem dX12_sent_78 : decode cX12_sent 78 = .ok (.iaload, 1) := by decide +kernel
theorem dX12_sent_79 : decode cX12_sent 79 = .ok (.iconst 1, 1) := by decide +kernel
theorem dX12_sent_80 : decode cX12_sent 80 = .ok (.isub, 1) := by decide +kernel
theorem dX12_sent_81 : decode cX12_sent 81 = .ok (.aload_n 0, 1) := by decide +kernel
theorem dX12_sent_82 : decode cX12_sent 82 = .ok (.iload_n 3, 1) := by decide +kernel
theorem dX12_sent_83 : decode cX12_sent 83 = .ok (.iconst 1, 1) := by decide +kernel
theorem dX12_sent_84 : decode cX12_sent 84 = .ok (.invokevirtual 262, 3) := by decide +kernel
theorem dX12_sent_87 : decode cX12_sent 87 = .ok (.if_icmp .ne 7, 3) := by decide +kernel
theorem dX12_sent_90 : decode cX12_sent 90 = .ok (.iconst 1, 1) := by decide +kernel
theorem dX12_sent_91 : decode cX12_sent 91 = .ok (.goto 25, 3) := by decide +kernel
theorem dX12_sent_94 : decode cX12_sent 94 = .ok (.iconst 0, 1) := by decide +kernel
theorem dX12_sent_95 : decode cX12_sent 95 = .ok (.goto 21, 3) := by decide +kernel
theorem dX12_sent_98 : decode cX12_sent 98 = .ok (.aload_n 0, 1) := by decide +kernel
theorem dX12_sent_99 : decode cX12_sent 99 = .ok (.getfield 26, 3) := by decide +kernel
theorem dX12_sent_102 : decode cX12_sent 102 = .ok (.bipush 12, 2) := by decide +kernel
theorem dX12_sent_104 : decode cX12_sent 104 = .ok (.iload_n 3, 1) := by decide +kernel
theorem dX12_sent_105 : decode cX12_sent 105 = .ok (.iadd, 1) := by decide +kernel
theorem dX12_sent_106 : decode cX12_sent 106 = .ok (.iaload, 1) := by decide +kernel
theorem dX12_sent_107 : decode cX12_sent 107 = .ok (.iconst 1, 1) := by decide +kernel
theorem dX12_sent_108 : decode cX12_sent 108 = .ok (.isub, 1) := by decide +kernel
theorem dX12_sent_109 : decode cX12_sent 109 = .ok (.aload_n 0, 1) := by decide +kernel
theorem dX12_sent_110 : decode cX12_sent 110 = .ok (.iload_n 3, 1) := by decide +kernel
theorem dX12_sent_111 : decode cX12_sent 111 = .ok (.iconst 3, 1) := by decide +kernel
theorem dX12_sent_112 : decode cX12_sent 112 = .ok (.invokevirtual 262, 3) := by decide +kernel
theorem dX12_sent_115 : decode cX12_sent 115 = .ok (.isub, 1) := by decide +kernel
theorem dX12_sent_116 : decode cX12_sent 116 = .ok (.iadd, 1) := by decide +kernel
theorem dX12_sent_117 : decode cX12_sent 117 = .ok (.istore_n 2, 1) := by decide +kernel
theorem dX12_sent_118 : decode cX12_sent 118 = .ok (.iinc 3 1, 3) := by decide +kernel
theorem dX12_sent_121 : decode cX12_sent 121 = .ok (.goto (-91), 3) := by decide +kernel
theorem dX12_sent_124 : decode cX12_sent 124 = .ok (.iload_n 2, 1) := by decide +kernel
theorem dX12_sent_125 : decode cX12_sent 125 = .ok (.ireturn, 1) := by decide +kernel
theorem dX12_apartOf_0 : decode cX12_apartOf 0 = .ok (.aload_n 0, 1) := by decide +kernel
theorem dX12_apartOf_1 : decode cX12_apartOf 1 = .ok (.iload_n 1, 1) := by decide +kernel
theorem dX12_apartOf_2 : decode cX12_apartOf 2 = .ok (.invokevirtual 265, 3) := by decide +kernel
theorem dX12_apartOf_5 : decode cX12_apartOf 5 = .ok (.aload_n 0, 1) := by decide +kernel
theorem dX12_apartOf_6 : decode cX12_apartOf 6 = .ok (.iload_n 2, 1) := by decide +kernel
theorem dX12_apartOf_7 : decode cX12_apartOf 7 = .ok (.invokevirtual 265, 3) := by decide +kernel
theorem dX12_apartOf_10 : decode cX12_apartOf 10 = .ok (.if_icmp .eq 6, 3) := by decide +kernel
theorem dX12_apartOf_13 : decode cX12_apartOf 13 = .ok (.bipush (-2), 2) := by decide +kernel
theorem dX12_apartOf_15 : decode cX12_apartOf 15 = .ok (.ireturn, 1) := by decide +kernel
theorem dX12_apartOf_16 : decode cX12_apartOf 16 = .ok (.iconst 0, 1) := by decide +kernel
theorem dX12_apartOf_17 : decode cX12_apartOf 17 = .ok (.istore_n 3, 1) := by decide +kernel
theorem dX12_apartOf_18 : decode cX12_apartOf 18 = .ok (.iconst 0, 1) := by decide +kernel
theorem dX12_apartOf_19 : decode cX12_apartOf 19 = .ok (.istore 4, 2) := by decide +kernel
theorem dX12_apartOf_21 : decode cX12_apartOf 21 = .ok (.iload 4, 2) := by decide +kernel
theorem dX12_apartOf_23 : decode cX12_apartOf 23 = .ok (.aload_n 0, 1) := by decide +kernel
theorem dX12_apartOf_24 : decode cX12_apartOf 24 = .ok (.iload_n 1, 1) := by decide +kernel
theorem dX12_apartOf_25 : decode cX12_apartOf 25 = .ok (.invokevirtual 265, 3) := by decide +kernel
theorem dX12_apartOf_28 : decode cX12_apartOf 28 = .ok (.if_icmp .ge 54, 3) := by decide +kernel
theorem dX12_apartOf_31 : decode cX12_apartOf 31 = .ok (.iload_n 3, 1) := by decide +kernel
theorem dX12_apartOf_32 : decode cX12_apartOf 32 = .ok (.aload_n 0, 1) := by decide +kernel
theorem dX12_apartOf_33 : decode cX12_apartOf 33 = .ok (.getfield 20, 3) := by decide +kernel
theorem dX12_apartOf_36 : decode cX12_apartOf 36 = .ok (.bipush 10, 2) := by decide +kernel
theorem dX12_apartOf_38 : decode cX12_apartOf 38 = .ok (.bipush 7, 2) := by decide +kernel
theorem dX12_apartOf_40 : decode cX12_apartOf 40 = .ok (.iload_n 1, 1) := by decide +kernel
theorem dX12_apartOf_41 : decode cX12_apartOf 41 = .ok (.imul, 1) := by decide +kernel
theorem dX12_apartOf_42 : decode cX12_apartOf 42 = .ok (.iadd, 1) := by decide +kernel
theorem dX12_apartOf_43 : decode cX12_apartOf 43 = .ok (.iconst 1, 1) := by decide +kernel
theorem dX12_apartOf_44 : decode cX12_apartOf 44 = .ok (.iadd, 1) := by decide +kernel
theorem dX12_apartOf_45 : decode cX12_apartOf 45 = .ok (.iload 4, 2) := by decide +kernel
theorem dX12_apartOf_47 : decode cX12_apartOf 47 = .ok (.iadd, 1) := by decide +kernel
theorem dX12_apartOf_48 : decode cX12_apartOf 48 = .ok (.iaload, 1) := by decide +kernel
theorem dX12_apartOf_49 : decode cX12_apartOf 49 = .ok (.aload_n 0, 1) := by decide +kernel
theorem dX12_apartOf_50 : decode cX12_apartOf 50 = .ok (.getfield 20, 3) := by decide +kernel
theorem dX12_apartOf_53 : decode cX12_apartOf 53 = .ok (.bipush 10, 2) := by decide +kernel
theorem dX12_apartOf_55 : decode cX12_apartOf 55 = .ok (.bipush 7, 2) := by decide +kernel
theorem dX12_apartOf_57 : decode cX12_apartOf 57 = .ok (.iload_n 2, 1) := by decide +kernel
theorem dX12_apartOf_58 : decode cX12_apartOf 58 = .ok (.imul, 1) := by decide +kernel
theorem dX12_apartOf_59 : decode cX12_apartOf 59 = .ok (.iadd, 1) := by decide +kernel
theorem dX12_apartOf_60 : decode cX12_apartOf 60 = .ok (.iconst 1, 1) := by decide +kernel
theorem dX12_apartOf_61 : decode cX12_apartOf 61 = .ok (.iadd, 1) := by decide +kernel
theorem dX12_apartOf_62 : decode cX12_apartOf 62 = .ok (.iload 4, 2) := by decide +kernel
theorem dX12_apartOf_64 : decode cX12_apartOf 64 = .ok (.iadd, 1) := by decide +kernel
theorem dX12_apartOf_65 : decode cX12_apartOf 65 = .ok (.iaload, 1) := by decide +kernel
theorem dX12_apartOf_66 : decode cX12_apartOf 66 = .ok (.if_icmp .ne 7, 3) := by decide +kernel
theorem dX12_apartOf_69 : decode cX12_apartOf 69 = .ok (.iconst 0, 1) := by decide +kernel
theorem dX12_apartOf_70 : decode cX12_apartOf 70 = .ok (.goto 4, 3) := by decide +kernel
theorem dX12_apartOf_73 : decode cX12_apartOf 73 = .ok (.iconst 1, 1) := by decide +kernel
theorem dX12_apartOf_74 : decode cX12_apartOf 74 = .ok (.iadd, 1) := by decide +kernel
theorem dX12_apartOf_75 : decode cX12_apartOf 75 = .ok (.istore_n 3, 1) := by decide +kernel
theorem dX12_apartOf_76 : decode cX12_apartOf 76 = .ok (.iinc 4 1, 3) := by decide +kernel
theorem dX12_apartOf_79 : decode cX12_apartOf 79 = .ok (.goto (-58), 3) := by decide +kernel
theorem dX12_apartOf_82 : decode cX12_apartOf 82 = .ok (.iload_n 3, 1) := by decide +kernel
theorem dX12_apartOf_83 : decode cX12_apartOf 83 = .ok (.ireturn, 1) := by decide +kernel
theorem dX12_apart_0 : decode cX12_apart 0 = .ok (.aload_n 0, 1) := by decide +kernel
theorem dX12_apart_1 : decode cX12_apart 1 = .ok (.invokevirtual 167, 3) := by decide +kernel
theorem dX12_apart_4 : decode cX12_apart 4 = .ok (.aload_n 0, 1) := by decide +kernel
theorem dX12_apart_5 : decode cX12_apart 5 = .ok (.iload_n 1, 1) := by decide +kernel
theorem dX12_apart_6 : decode cX12_apart 6 = .ok (.invokevirtual 277, 3) := by decide +kernel
theorem dX12_apart_9 : decode cX12_apart 9 = .ok (.ifCond .eq 20, 3) := by decide +kernel
theorem dX12_apart_12 : decode cX12_apart 12 = .ok (.aload_n 0, 1) := by decide +kernel
theorem dX12_apart_13 : decode cX12_apart 13 = .ok (.iload_n 2, 1) := by decide +kernel
theorem dX12_apart_14 : decode cX12_apart 14 = .ok (.invokevirtual 277, 3) := by decide +kernel
theorem dX12_apart_17 : decode cX12_apart 17 = .ok (.ifCond .eq 12, 3) := by decide +kernel
theorem dX12_apart_20 : decode cX12_apart 20 = .ok (.aload_n 0, 1) := by decide +kernel
theorem dX12_apart_21 : decode cX12_apart 21 = .ok (.iload_n 1, 1) := by decide +kernel
theorem dX12_apart_22 : decode cX12_apart 22 = .ok (.iload_n 2, 1) := by decide +kernel
theorem dX12_apart_23 : decode cX12_apart 23 = .ok (.invokevirtual 312, 3) := by decide +kernel
theorem dX12_apart_26 : decode cX12_apart 26 = .ok (.goto 8, 3) := by decide +kernel
theorem dX12_apart_29 : decode cX12_apart 29 = .ok (.aload_n 0, 1) := by decide +kernel
theorem dX12_apart_30 : decode cX12_apart 30 = .ok (.iconst 1, 1) := by decide +kernel
theorem dX12_apart_31 : decode cX12_apart 31 = .ok (.invokevirtual 170, 3) := by decide +kernel
theorem dX12_apart_34 : decode cX12_apart 34 = .ok (.ireturn, 1) := by decide +kernel
theorem dX12_bear_0 : decode cX12_bear 0 = .ok (.aload_n 0, 1) := by decide +kernel
theorem dX12_bear_1 : decode cX12_bear 1 = .ok (.invokevirtual 167, 3) := by decide +kernel
theorem dX12_bear_4 : decode cX12_bear 4 = .ok (.aload_n 0, 1) := by decide +kernel
theorem dX12_bear_5 : decode cX12_bear 5 = .ok (.getfield 180, 3) := by decide +kernel
theorem dX12_bear_8 : decode cX12_bear 8 = .ok (.ifCond .ne 9, 3) := by decide +kernel
theorem dX12_bear_11 : decode cX12_bear 11 = .ok (.aload_n 0, 1) := by decide +kernel
theorem dX12_bear_12 : decode cX12_bear 12 = .ok (.iconst 1, 1) := by decide +kernel
theorem dX12_bear_13 : decode cX12_bear 13 = .ok (.invokevirtual 170, 3) := by decide +kernel
theorem dX12_bear_16 : decode cX12_bear 16 = .ok (.ireturn, 1) := by decide +kernel
theorem dX12_bear_17 : decode cX12_bear 17 = .ok (.bipush 7, 2) := by decide +kernel
theorem dX12_bear_19 : decode cX12_bear 19 = .ok (.istore_n 1, 1) := by decide +kernel
theorem dX12_bear_20 : decode cX12_bear 20 = .ok (.iconst 0, 1) := by decide +kernel
theorem dX12_bear_21 : decode cX12_bear 21 = .ok (.istore_n 2, 1) := by decide +kernel
theorem dX12_bear_22 : decode cX12_bear 22 = .ok (.iload_n 2, 1) := by decide +kernel
theorem dX12_bear_23 : decode cX12_bear 23 = .ok (.aload_n 0, 1) := by decide +kernel
theorem dX12_bear_24 : decode cX12_bear 24 = .ok (.getfield 20, 3) := by decide +kernel
theorem dX12_bear_27 : decode cX12_bear 27 = .ok (.iconst 4, 1) := by decide +kernel
theorem dX12_bear_28 : decode cX12_bear 28 = .ok (.iaload, 1) := by decide +kernel
theorem dX12_bear_29 : decode cX12_bear 29 = .ok (.if_icmp .ge 48, 3) := by decide +kernel
theorem dX12_bear_32 : decode cX12_bear 32 = .ok (.iconst 0, 1) := by decide +kernel
theorem dX12_bear_33 : decode cX12_bear 33 = .ok (.istore_n 3, 1) := by decide +kernel
theorem dX12_bear_34 : decode cX12_bear 34 = .ok (.iload_n 3, 1) := by decide +kernel
theorem dX12_bear_35 : decode cX12_bear 35 = .ok (.iload_n 2, 1) := by decide +kernel
theorem dX12_bear_36 : decode cX12_bear 36 = .ok (.if_icmp .ge 35, 3) := by decide +kernel
theorem dX12_bear_39 : decode cX12_bear 39 = .ok (.aload_n 0, 1) := by decide +kernel
theorem dX12_bear_40 : decode cX12_bear 40 = .ok (.iload_n 2, 1) := by decide +kernel
theorem dX12_bear_41 : decode cX12_bear 41 = .ok (.iload_n 3, 1) := by decide +kernel
theorem dX12_bear_42 : decode cX12_bear 42 = .ok (.invokevirtual 312, 3) := by decide +kernel
theorem dX12_bear_45 : decode cX12_bear 45 = .ok (.ifCond .lt 20, 3) := by decide +kernel
theorem dX12_bear_48 : decode cX12_bear 48 = .ok (.aload_n 0, 1) := by decide +kernel
theorem dX12_bear_49 : decode cX12_bear 49 = .ok (.iload_n 2, 1) := by decide +kernel
theorem dX12_bear_50 : decode cX12_bear 50 = .ok (.iload_n 3, 1) := by decide +kernel
theorem dX12_bear_51 : decode cX12_bear 51 = .ok (.invokevirtual 312, 3) := by decide +kernel
theorem dX12_bear_54 : decode cX12_bear 54 = .ok (.iload_n 1, 1) := by decide +kernel
theorem dX12_bear_55 : decode cX12_bear 55 = .ok (.if_icmp .ge 10, 3) := by decide +kernel
theorem dX12_bear_58 : decode cX12_bear 58 = .ok (.aload_n 0, 1) := by decide +kernel
theorem dX12_bear_59 : decode cX12_bear 59 = .ok (.iload_n 2, 1) := by decide +kernel
theorem dX12_bear_60 : decode cX12_bear 60 = .ok (.iload_n 3, 1) := by decide +kernel
theorem dX12_bear_61 : decode cX12_bear 61 = .ok (.invokevirtual 312, 3) := by decide +kernel
theorem dX12_bear_64 : decode cX12_bear 64 = .ok (.istore_n 1, 1) := by decide +kernel
theorem dX12_bear_65 : decode cX12_bear 65 = .ok (.iinc 3 1, 3) := by decide +kernel
theorem dX12_bear_68 : decode cX12_bear 68 = .ok (.goto (-34), 3) := by decide +kernel
theorem dX12_bear_71 : decode cX12_bear 71 = .ok (.iinc 2 1, 3) := by decide +kernel
theorem dX12_bear_74 : decode cX12_bear 74 = .ok (.goto (-52), 3) := by decide +kernel
theorem dX12_bear_77 : decode cX12_bear 77 = .ok (.iload_n 1, 1) := by decide +kernel
theorem dX12_bear_78 : decode cX12_bear 78 = .ok (.bipush 6, 2) := by decide +kernel
theorem dX12_bear_80 : decode cX12_bear 80 = .ok (.if_icmp .le 8, 3) := by decide +kernel
theorem dX12_bear_83 : decode cX12_bear 83 = .ok (.bipush (-2), 2) := by decide +kernel
theorem dX12_bear_85 : decode cX12_bear 85 = .ok (.goto 8, 3) := by decide +kernel
theorem dX12_bear_88 : decode cX12_bear 88 = .ok (.iload_n 1, 1) := by decide +kernel
theorem dX12_bear_89 : decode cX12_bear 89 = .ok (.iconst 1, 1) := by decide +kernel
theorem dX12_bear_90 : decode cX12_bear 90 = .ok (.isub, 1) := by decide +kernel
theorem dX12_bear_91 : decode cX12_bear 91 = .ok (.iconst 2, 1) := by decide +kernel
theorem dX12_bear_92 : decode cX12_bear 92 = .ok (.idiv, 1) := by decide +kernel
theorem dX12_bear_93 : decode cX12_bear 93 = .ok (.ireturn, 1) := by decide +kernel
theorem dX12_mixed_0 : decode cX12_mixed 0 = .ok (.aload_n 0, 1) := by decide +kernel
theorem dX12_mixed_1 : decode cX12_mixed 1 = .ok (.invokevirtual 167, 3) := by decide +kernel
theorem dX12_mixed_4 : decode cX12_mixed 4 = .ok (.aload_n 0, 1) := by decide +kernel
theorem dX12_mixed_5 : decode cX12_mixed 5 = .ok (.getfield 180, 3) := by decide +kernel
theorem dX12_mixed_8 : decode cX12_mixed 8 = .ok (.ifCond .ne 9, 3) := by decide +kernel
theorem dX12_mixed_11 : decode cX12_mixed 11 = .ok (.aload_n 0, 1) := by decide +kernel
theorem dX12_mixed_12 : decode cX12_mixed 12 = .ok (.iconst 1, 1) := by decide +kernel
theorem dX12_mixed_13 : decode cX12_mixed 13 = .ok (.invokevirtual 170, 3) := by decide +kernel
theorem dX12_mixed_16 : decode cX12_mixed 16 = .ok (.ireturn, 1) := by decide +kernel
theorem dX12_mixed_17 : decode cX12_mixed 17 = .ok (.iconst 0, 1) := by decide +kernel
theorem dX12_mixed_18 : decode cX12_mixed 18 = .ok (.istore_n 1, 1) := by decide +kernel
theorem dX12_mixed_19 : decode cX12_mixed 19 = .ok (.iconst 0, 1) := by decide +kernel
theorem dX12_mixed_20 : decode cX12_mixed 20 = .ok (.istore_n 2, 1) := by decide +kernel
theorem dX12_mixed_21 : decode cX12_mixed 21 = .ok (.iload_n 2, 1) := by decide +kernel
theorem dX12_mixed_22 : decode cX12_mixed 22 = .ok (.aload_n 0, 1) := by decide +kernel
theorem dX12_mixed_23 : decode cX12_mixed 23 = .ok (.getfield 20, 3) := by decide +kernel
theorem dX12_mixed_26 : decode cX12_mixed 26 = .ok (.iconst 4, 1) := by decide +kernel
theorem dX12_mixed_27 : decode cX12_mixed 27 = .ok (.iaload, 1) := by decide +kernel
theorem dX12_mixed_28 : decode cX12_mixed 28 = .ok (.if_icmp .ge 56, 3) := by decide +kernel
theorem dX12_mixed_31 : decode cX12_mixed 31 = .ok (.iconst 0, 1) := by decide +kernel
theorem dX12_mixed_32 : decode cX12_mixed 32 = .ok (.istore_n 3, 1) := by decide +kernel
theorem dX12_mixed_33 : decode cX12_mixed 33 = .ok (.iload_n 3, 1) := by decide +kernel
theorem dX12_mixed_34 : decode cX12_mixed 34 = .ok (.iload_n 2, 1) := by decide +kernel
theorem dX12_mixed_35 : decode cX12_mixed 35 = .ok (.if_icmp .ge 43, 3) := by decide +kernel
theorem dX12_mixed_38 : decode cX12_mixed 38 = .ok (.iload_n 1, 1) := by decide +kernel
theorem dX12_mixed_39 : decode cX12_mixed 39 = .ok (.aload_n 0, 1) := by decide +kernel
theorem dX12_mixed_40 : decode cX12_mixed 40 = .ok (.iload_n 2, 1) := by decide +kernel
theorem dX12_mixed_41 : decode cX12_mixed 41 = .ok (.iload_n 3, 1) := by decide +kernel
theorem dX12_mixed_42 : decode cX12_mixed 42 = .ok (.invokevirtual 312, 3) := by decide +kernel
theorem dX12_mixed_45 : decode cX12_mixed 45 = .ok (.ifCond .lt 24, 3) := by decide +kernel
theorem dX12_mixed_48 : decode cX12_mixed 48 = .ok (.aload_n 0, 1) := by decide +kernel
theorem dX12_mixed_49 : decode cX12_mixed 49 = .ok (.iload_n 2, 1) := by decide +kernel
theorem dX12_mixed_50 : decode cX12_mixed 50 = .ok (.iload_n 3, 1) := by decide +kernel
theorem dX12_mixed_51 : decode cX12_mixed 51 = .ok (.invokevirtual 312, 3) := by decide +kernel
theorem dX12_mixed_54 : decode cX12_mixed 54 = .ok (.iconst 2, 1) := by decide +kernel
theorem dX12_mixed_55 : decode cX12_mixed 55 = .ok (.aload_n 0, 1) := by decide +kernel
theorem dX12_mixed_56 : decode cX12_mixed 56 = .ok (.getfield 20, 3) := by decide +kernel
theorem dX12_mixed_59 : decode cX12_mixed 59 = .ok (.iconst 1, 1) := by decide +kernel
theorem dX12_mixed_60 : decode cX12_mixed 60 = .ok (.iaload, 1) := by decide +kernel
theorem dX12_mixed_61 : decode cX12_mixed 61 = .ok (.imul, 1) := by decide +kernel
theorem dX12_mixed_62 : decode cX12_mixed 62 = .ok (.if_icmp .gt 7, 3) := by decide +kernel
theorem dX12_mixed_65 : decode cX12_mixed 65 = .ok (.iconst 1, 1) := by decide +kernel
theorem dX12_mixed_66 : decode cX12_mixed 66 = .ok (.goto 4, 3) := by decide +kernel
theorem dX12_mixed_69 : decode cX12_mixed 69 = .ok (.iconst 0, 1) := by decide +kernel
theorem dX12_mixed_70 : decode cX12_mixed 70 = .ok (.iadd, 1) := by decide +kernel
theorem dX12_mixed_71 : decode cX12_mixed 71 = .ok (.istore_n 1, 1) := by decide +kernel
theorem dX12_mixed_72 : decode cX12_mixed 72 = .ok (.iinc 3 1, 3) := by decide +kernel
theorem dX12_mixed_75 : decode cX12_mixed 75 = .ok (.goto (-42), 3) := by decide +kernel
theorem dX12_mixed_78 : decode cX12_mixed 78 = .ok (.iinc 2 1, 3) := by decide +kernel
theorem dX12_mixed_81 : decode cX12_mixed 81 = .ok (.goto (-60), 3) := by decide +kernel
theorem dX12_mixed_84 : decode cX12_mixed 84 = .ok (.iload_n 1, 1) := by decide +kernel
theorem dX12_mixed_85 : decode cX12_mixed 85 = .ok (.ireturn, 1) := by decide +kernel
theorem dX12_power_0 : decode cX12_power 0 = .ok (.iconst 1, 1) := by decide +kernel
theorem dX12_power_1 : decode cX12_power 1 = .ok (.istore_n 2, 1) := by decide +kernel
theorem dX12_power_2 : decode cX12_power 2 = .ok (.iconst 0, 1) := by decide +kernel
theorem dX12_power_3 : decode cX12_power 3 = .ok (.istore_n 3, 1) := by decide +kernel
theorem dX12_power_4 : decode cX12_power 4 = .ok (.iload_n 3, 1) := by decide +kernel
theorem dX12_power_5 : decode cX12_power 5 = .ok (.iload_n 1, 1) := by decide +kernel
theorem dX12_power_6 : decode cX12_power 6 = .ok (.if_icmp .ge 18, 3) := by decide +kernel
theorem dX12_power_9 : decode cX12_power 9 = .ok (.iload_n 2, 1) := by decide +kernel
theorem dX12_power_10 : decode cX12_power 10 = .ok (.aload_n 0, 1) := by decide +kernel
theorem dX12_power_11 : decode cX12_power 11 = .ok (.getfield 20, 3) := by decide +kernel
theorem dX12_power_14 : decode cX12_power 14 = .ok (.iconst 0, 1) := by decide +kernel
theorem dX12_power_15 : decode cX12_power 15 = .ok (.iaload, 1) := by decide +kernel
theorem dX12_power_16 : decode cX12_power 16 = .ok (.imul, 1) := by decide +kernel
theorem dX12_power_17 : decode cX12_power 17 = .ok (.istore_n 2, 1) := by decide +kernel
theorem dX12_power_18 : decode cX12_power 18 = .ok (.iinc 3 1, 3) := by decide +kernel
theorem dX12_power_21 : decode cX12_power 21 = .ok (.goto (-17), 3) := by decide +kernel
theorem dX12_power_24 : decode cX12_power 24 = .ok (.iload_n 2, 1) := by decide +kernel
theorem dX12_power_25 : decode cX12_power 25 = .ok (.ireturn, 1) := by decide +kernel
theorem dX12_digitsApart_0 : decode cX12_digitsApart 0 = .ok (.iconst 0, 1) := by decide +kernel
theorem dX12_digitsApart_1 : decode cX12_digitsApart 1 = .ok (.istore 4, 2) := by decide +kernel
theorem dX12_digitsApart_3 : decode cX12_digitsApart 3 = .ok (.iload_n 1, 1) := by decide +kernel
theorem dX12_digitsApart_4 : decode cX12_digitsApart 4 = .ok (.istore 5, 2) := by decide +kernel
theorem dX12_digitsApart_6 : decode cX12_digitsApart 6 = .ok (.iload_n 2, 1) := by decide +kernel
theorem dX12_digitsApart_7 : decode cX12_digitsApart 7 = .ok (.istore 6, 2) := by decide +kernel
theorem dX12_digitsApart_9 : decode cX12_digitsApart 9 = .ok (.iconst 0, 1) := by decide +kernel
theorem dX12_digitsApart_10 : decode cX12_digitsApart 10 = .ok (.istore 7, 2) := by decide +kernel
theorem dX12_digitsApart_12 : decode cX12_digitsApart 12 = .ok (.iload 7, 2) := by decide +kernel
theorem dX12_digitsApart_14 : decode cX12_digitsApart 14 = .ok (.iload_n 3, 1) := by decide +kernel
theorem dX12_digitsApart_15 : decode cX12_digitsApart 15 = .ok (.if_icmp .ge 62, 3) := by decide +kernel
theorem dX12_digitsApart_18 : decode cX12_digitsApart 18 = .ok (.iload 4, 2) := by decide +kernel
theorem dX12_digitsApart_20 : decode cX12_digitsApart 20 = .ok (.iload 5, 2) := by decide +kernel
theorem dX12_digitsApart_22 : decode cX12_digitsApart 22 = .ok (.aload_n 0, 1) := by decide +kernel
theorem dX12_digitsApart_23 : decode cX12_digitsApart 23 = .ok (.getfield 20, 3) := by decide +kernel
theorem dX12_digitsApart_26 : decode cX12_digitsApart 26 = .ok (.iconst 0, 1) := by decide +kernel
theorem dX12_digitsApart_27 : decode cX12_digitsApart 27 = .ok (.iaload, 1) := by decide +kernel
theorem dX12_digitsApart_28 : decode cX12_digitsApart 28 = .ok (.irem, 1) := by decide +kernel
theorem dX12_digitsApart_29 : decode cX12_digitsApart 29 = .ok (.iload 6, 2) := by decide +kernel
theorem dX12_digitsApart_31 : decode cX12_digitsApart 31 = .ok (.aload_n 0, 1) := by decide +kernel
theorem dX12_digitsApart_32 : decode cX12_digitsApart 32 = .ok (.getfield 20, 3) := by decide +kernel
theorem dX12_digitsApart_35 : decode cX12_digitsApart 35 = .ok (.iconst 0, 1) := by decide +kernel
theorem dX12_digitsApart_36 : decode cX12_digitsApart 36 = .ok (.iaload, 1) := by decide +kernel
theorem dX12_digitsApart_37 : decode cX12_digitsApart 37 = .ok (.irem, 1) := by decide +kernel
theorem dX12_digitsApart_38 : decode cX12_digitsApart 38 = .ok (.if_icmp .ne 7, 3) := by decide +kernel
theorem dX12_digitsApart_41 : decode cX12_digitsApart 41 = .ok (.iconst 0, 1) := by decide +kernel
