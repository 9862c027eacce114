theorem dX12_digitsApart_42 : decode cX12_digitsApart 42 = .ok (.goto 4, 3) := by decide +kernel
theorem dX12_digitsApart_45 : decode cX12_digitsApart 45 = .ok (.iconst 1, 1) := by decide +kernel
theorem dX12_digitsApart_46 : decode cX12_digitsApart 46 = .ok (.iadd, 1) := by decide +kernel
theorem dX12_digitsApart_47 : decode cX12_digitsApart 47 = .ok (.istore 4, 2) := by decide +kernel
theorem dX12_digitsApart_49 : decode cX12_digitsApart 49 = .ok (.iload 5, 2) := by decide +kernel
theorem dX12_digitsApart_51 : decode cX12_digitsApart 51 = .ok (.aload_n 0, 1) := by decide +kernel
theorem dX12_digitsApart_52 : decode cX12_digitsApart 52 = .ok (.getfield 20, 3) := by decide +kernel
theorem dX12_digitsApart_55 : decode cX12_digitsApart 55 = .ok (.iconst 0, 1) := by decide +kernel
theorem dX12_digitsApart_56 : decode cX12_digitsApart 56 = .ok (.iaload, 1) := by decide +kernel
theorem dX12_digitsApart_57 : decode cX12_digitsApart 57 = .ok (.idiv, 1) := by decide +kernel
theorem dX12_digitsApart_58 : decode cX12_digitsApart 58 = .ok (.istore 5, 2) := by decide +kernel
theorem dX12_digitsApart_60 : decode cX12_digitsApart 60 = .ok (.iload 6, 2) := by decide +kernel
theorem dX12_digitsApart_62 : decode cX12_digitsApart 62 = .ok (.aload_n 0, 1) := by decide +kernel
theorem dX12_digitsApart_63 : decode cX12_digitsApart 63 = .ok (.getfield 20, 3) := by decide +kernel
theorem dX12_digitsApart_66 : decode cX12_digitsApart 66 = .ok (.iconst 0, 1) := by decide +kernel
theorem dX12_digitsApart_67 : decode cX12_digitsApart 67 = .ok (.iaload, 1) := by decide +kernel
theorem dX12_digitsApart_68 : decode cX12_digitsApart 68 = .ok (.idiv, 1) := by decide +kernel
theorem dX12_digitsApart_69 : decode cX12_digitsApart 69 = .ok (.istore 6, 2) := by decide +kernel
theorem dX12_digitsApart_71 : decode cX12_digitsApart 71 = .ok (.iinc 7 1, 3) := by decide +kernel
theorem dX12_digitsApart_74 : decode cX12_digitsApart 74 = .ok (.goto (-62), 3) := by decide +kernel
theorem dX12_digitsApart_77 : decode cX12_digitsApart 77 = .ok (.iload 4, 2) := by decide +kernel
theorem dX12_digitsApart_79 : decode cX12_digitsApart 79 = .ok (.ireturn, 1) := by decide +kernel
theorem dX12_newSongs_0 : decode cX12_newSongs 0 = .ok (.aload_n 0, 1) := by decide +kernel
theorem dX12_newSongs_1 : decode cX12_newSongs 1 = .ok (.iconst 0, 1) := by decide +kernel
theorem dX12_newSongs_2 : decode cX12_newSongs 2 = .ok (.putfield 315, 3) := by decide +kernel
theorem dX12_newSongs_5 : decode cX12_newSongs 5 = .ok (.iconst 0, 1) := by decide +kernel
theorem dX12_newSongs_6 : decode cX12_newSongs 6 = .ok (.istore 4, 2) := by decide +kernel
theorem dX12_newSongs_8 : decode cX12_newSongs 8 = .ok (.iload 4, 2) := by decide +kernel
theorem dX12_newSongs_10 : decode cX12_newSongs 10 = .ok (.aload_n 0, 1) := by decide +kernel
theorem dX12_newSongs_11 : decode cX12_newSongs 11 = .ok (.getfield 20, 3) := by decide +kernel
theorem dX12_newSongs_14 : decode cX12_newSongs 14 = .ok (.iconst 4, 1) := by decide +kernel
theorem dX12_newSongs_15 : decode cX12_newSongs 15 = .ok (.iaload, 1) := by decide +kernel
theorem dX12_newSongs_16 : decode cX12_newSongs 16 = .ok (.if_icmp .ge 87, 3) := by decide +kernel
theorem dX12_newSongs_19 : decode cX12_newSongs 19 = .ok (.aload_n 0, 1) := by decide +kernel
theorem dX12_newSongs_20 : decode cX12_newSongs 20 = .ok (.iload 4, 2) := by decide +kernel
theorem dX12_newSongs_22 : decode cX12_newSongs 22 = .ok (.invokevirtual 265, 3) := by decide +kernel
theorem dX12_newSongs_25 : decode cX12_newSongs 25 = .ok (.iload_n 1, 1) := by decide +kernel
theorem dX12_newSongs_26 : decode cX12_newSongs 26 = .ok (.if_icmp .eq 6, 3) := by decide +kernel
theorem dX12_newSongs_29 : decode cX12_newSongs 29 = .ok (.goto 68, 3) := by decide +kernel
theorem dX12_newSongs_32 : decode cX12_newSongs 32 = .ok (.iconst 0, 1) := by decide +kernel
theorem dX12_newSongs_33 : decode cX12_newSongs 33 = .ok (.istore 5, 2) := by decide +kernel
theorem dX12_newSongs_35 : decode cX12_newSongs 35 = .ok (.iconst 0, 1) := by decide +kernel
theorem dX12_newSongs_36 : decode cX12_newSongs 36 = .ok (.istore 6, 2) := by decide +kernel
theorem dX12_newSongs_38 : decode cX12_newSongs 38 = .ok (.iload 6, 2) := by decide +kernel
theorem dX12_newSongs_40 : decode cX12_newSongs 40 = .ok (.iload_n 1, 1) := by decide +kernel
theorem dX12_newSongs_41 : decode cX12_newSongs 41 = .ok (.if_icmp .ge 35, 3) := by decide +kernel
theorem dX12_newSongs_44 : decode cX12_newSongs 44 = .ok (.iload 5, 2) := by decide +kernel
theorem dX12_newSongs_46 : decode cX12_newSongs 46 = .ok (.aload_n 0, 1) := by decide +kernel
theorem dX12_newSongs_47 : decode cX12_newSongs 47 = .ok (.getfield 20, 3) := by decide +kernel
theorem dX12_newSongs_50 : decode cX12_newSongs 50 = .ok (.iconst 0, 1) := by decide +kernel
theorem dX12_newSongs_51 : decode cX12_newSongs 51 = .ok (.iaload, 1) := by decide +kernel
theorem dX12_newSongs_52 : decode cX12_newSongs 52 = .ok (.imul, 1) := by decide +kernel
theorem dX12_newSongs_53 : decode cX12_newSongs 53 = .ok (.aload_n 0, 1) := by decide +kernel
theorem dX12_newSongs_54 : decode cX12_newSongs 54 = .ok (.iload 4, 2) := by decide +kernel
theorem dX12_newSongs_56 : decode cX12_newSongs 56 = .ok (.iload 6, 2) := by decide +kernel
theorem dX12_newSongs_58 : decode cX12_newSongs 58 = .ok (.aload_n 0, 1) := by decide +kernel
theorem dX12_newSongs_59 : decode cX12_newSongs 59 = .ok (.getfield 26, 3) := by decide +kernel
theorem dX12_newSongs_62 : decode cX12_newSongs 62 = .ok (.iconst 0, 1) := by decide +kernel
theorem dX12_newSongs_63 : decode cX12_newSongs 63 = .ok (.iaload, 1) := by decide +kernel
theorem dX12_newSongs_64 : decode cX12_newSongs 64 = .ok (.invokevirtual 280, 3) := by decide +kernel
theorem dX12_newSongs_67 : decode cX12_newSongs 67 = .ok (.iadd, 1) := by decide +kernel
theorem dX12_newSongs_68 : decode cX12_newSongs 68 = .ok (.istore 5, 2) := by decide +kernel
theorem dX12_newSongs_70 : decode cX12_newSongs 70 = .ok (.iinc 6 1, 3) := by decide +kernel
theorem dX12_newSongs_73 : decode cX12_newSongs 73 = .ok (.goto (-35), 3) := by decide +kernel
theorem dX12_newSongs_76 : decode cX12_newSongs 76 = .ok (.aload_n 0, 1) := by decide +kernel
theorem dX12_newSongs_77 : decode cX12_newSongs 77 = .ok (.getfield 35, 3) := by decide +kernel
theorem dX12_newSongs_80 : decode cX12_newSongs 80 = .ok (.aload_n 0, 1) := by decide +kernel
theorem dX12_newSongs_81 : decode cX12_newSongs 81 = .ok (.getfield 315, 3) := by decide +kernel
theorem dX12_newSongs_84 : decode cX12_newSongs 84 = .ok (.iload 5, 2) := by decide +kernel
theorem dX12_newSongs_86 : decode cX12_newSongs 86 = .ok (.iastore, 1) := by decide +kernel
theorem dX12_newSongs_87 : decode cX12_newSongs 87 = .ok (.aload_n 0, 1) := by decide +kernel
theorem dX12_newSongs_88 : decode cX12_newSongs 88 = .ok (.dup, 1) := by decide +kernel
theorem dX12_newSongs_89 : decode cX12_newSongs 89 = .ok (.getfield 315, 3) := by decide +kernel
theorem dX12_newSongs_92 : decode cX12_newSongs 92 = .ok (.iconst 1, 1) := by decide +kernel
theorem dX12_newSongs_93 : decode cX12_newSongs 93 = .ok (.iadd, 1) := by decide +kernel
theorem dX12_newSongs_94 : decode cX12_newSongs 94 = .ok (.putfield 315, 3) := by decide +kernel
theorem dX12_newSongs_97 : decode cX12_newSongs 97 = .ok (.iinc 4 1, 3) := by decide +kernel
theorem dX12_newSongs_100 : decode cX12_newSongs 100 = .ok (.goto (-92), 3) := by decide +kernel
theorem dX12_newSongs_103 : decode cX12_newSongs 103 = .ok (.iconst 0, 1) := by decide +kernel
theorem dX12_newSongs_104 : decode cX12_newSongs 104 = .ok (.istore 4, 2) := by decide +kernel
theorem dX12_newSongs_106 : decode cX12_newSongs 106 = .ok (.iconst 0, 1) := by decide +kernel
theorem dX12_newSongs_107 : decode cX12_newSongs 107 = .ok (.istore 5, 2) := by decide +kernel
theorem dX12_newSongs_109 : decode cX12_newSongs 109 = .ok (.iload 5, 2) := by decide +kernel
theorem dX12_newSongs_111 : decode cX12_newSongs 111 = .ok (.aload_n 0, 1) := by decide +kernel
theorem dX12_newSongs_112 : decode cX12_newSongs 112 = .ok (.iload_n 1, 1) := by decide +kernel
theorem dX12_newSongs_113 : decode cX12_newSongs 113 = .ok (.invokevirtual 318, 3) := by decide +kernel
theorem dX12_newSongs_116 : decode cX12_newSongs 116 = .ok (.if_icmp .ge 104, 3) := by decide +kernel
theorem dX12_newSongs_119 : decode cX12_newSongs 119 = .ok (.iconst 1, 1) := by decide +kernel
theorem dX12_newSongs_120 : decode cX12_newSongs 120 = .ok (.istore 6, 2) := by decide +kernel
theorem dX12_newSongs_122 : decode cX12_newSongs 122 = .ok (.iconst 0, 1) := by decide +kernel
theorem dX12_newSongs_123 : decode cX12_newSongs 123 = .ok (.istore 7, 2) := by decide +kernel
theorem dX12_newSongs_125 : decode cX12_newSongs 125 = .ok (.iload 7, 2) := by decide +kernel
theorem dX12_newSongs_127 : decode cX12_newSongs 127 = .ok (.aload_n 0, 1) := by decide +kernel
theorem dX12_newSongs_128 : decode cX12_newSongs 128 = .ok (.getfield 315, 3) := by decide +kernel
theorem dX12_newSongs_131 : decode cX12_newSongs 131 = .ok (.if_icmp .ge 39, 3) := by decide +kernel
theorem dX12_newSongs_134 : decode cX12_newSongs 134 = .ok (.iload 6, 2) := by decide +kernel
theorem dX12_newSongs_136 : decode cX12_newSongs 136 = .ok (.ifCond .eq 34, 3) := by decide +kernel
theorem dX12_newSongs_139 : decode cX12_newSongs 139 = .ok (.aload_n 0, 1) := by decide +kernel
theorem dX12_newSongs_140 : decode cX12_newSongs 140 = .ok (.iload 5, 2) := by decide +kernel
theorem dX12_newSongs_142 : decode cX12_newSongs 142 = .ok (.aload_n 0, 1) := by decide +kernel
theorem dX12_newSongs_143 : decode cX12_newSongs 143 = .ok (.getfield 35, 3) := by decide +kernel
theorem dX12_newSongs_146 : decode cX12_newSongs 146 = .ok (.iload 7, 2) := by decide +kernel
theorem dX12_newSongs_148 : decode cX12_newSongs 148 = .ok (.iaload, 1) := by decide +kernel
theorem dX12_newSongs_149 : decode cX12_newSongs 149 = .ok (.iload_n 1, 1) := by decide +kernel
theorem dX12_newSongs_150 : decode cX12_newSongs 150 = .ok (.invokevirtual 321, 3) := by decide +kernel
theorem dX12_newSongs_153 : decode cX12_newSongs 153 = .ok (.iload_n 2, 1) := by decide +kernel
theorem dX12_newSongs_154 : decode cX12_newSongs 154 = .ok (.if_icmp .lt 7, 3) := by decide +kernel
theorem dX12_newSongs_157 : decode cX12_newSongs 157 = .ok (.iconst 1, 1) := by decide +kernel
theorem dX12_newSongs_158 : decode cX12_newSongs 158 = .ok (.goto 4, 3) := by decide +kernel
theorem dX12_newSongs_161 : decode cX12_newSongs 161 = .ok (.iconst 0, 1) := by decide +kernel
theorem dX12_newSongs_162 : decode cX12_newSongs 162 = .ok (.istore 6, 2) := by decide +kernel
theorem dX12_newSongs_164 : decode cX12_newSongs 164 = .ok (.iinc 7 1, 3) := by decide +kernel
theorem dX12_newSongs_167 : decode cX12_newSongs 167 = .ok (.goto (-42), 3) := by decide +kernel
theorem dX12_newSongs_170 : decode cX12_newSongs 170 = .ok (.iload 6, 2) := by decide +kernel
theorem dX12_newSongs_172 : decode cX12_newSongs 172 = .ok (.ifCond .ne 6, 3) := by decide +kernel
theorem dX12_newSongs_175 : decode cX12_newSongs 175 = .ok (.goto 39, 3) := by decide +kernel
theorem dX12_newSongs_178 : decode cX12_newSongs 178 = .ok (.iload_n 3, 1) := by decide +kernel
theorem dX12_newSongs_179 : decode cX12_newSongs 179 = .ok (.ifCond .ne 6, 3) := by decide +kernel
theorem dX12_newSongs_182 : decode cX12_newSongs 182 = .ok (.iload 5, 2) := by decide +kernel
theorem dX12_newSongs_184 : decode cX12_newSongs 184 = .ok (.ireturn, 1) := by decide +kernel
theorem dX12_newSongs_185 : decode cX12_newSongs 185 = .ok (.iinc 4 1, 3) := by decide +kernel
theorem dX12_newSongs_188 : decode cX12_newSongs 188 = .ok (.iload_n 2, 1) := by decide +kernel
theorem dX12_newSongs_189 : decode cX12_newSongs 189 = .ok (.iconst 1, 1) := by decide +kernel
theorem dX12_newSongs_190 : decode cX12_newSongs 190 = .ok (.if_icmp .le 24, 3) := by decide +kernel
theorem dX12_newSongs_193 : decode cX12_newSongs 193 = .ok (.aload_n 0, 1) := by decide +kernel
theorem dX12_newSongs_194 : decode cX12_newSongs 194 = .ok (.getfield 35, 3) := by decide +kernel
theorem dX12_newSongs_197 : decode cX12_newSongs 197 = .ok (.aload_n 0, 1) := by decide +kernel
theorem dX12_newSongs_198 : decode cX12_newSongs 198 = .ok (.getfield 315, 3) := by decide +kernel
theorem dX12_newSongs_201 : decode cX12_newSongs 201 = .ok (.iload 5, 2) := by decide +kernel
theorem dX12_newSongs_203 : decode cX12_newSongs 203 = .ok (.iastore, 1) := by decide +kernel
theorem dX12_newSongs_204 : decode cX12_newSongs 204 = .ok (.aload_n 0, 1) := by decide +kernel
theorem dX12_newSongs_205 : decode cX12_newSongs 205 = .ok (.dup, 1) := by decide +kernel
theorem dX12_newSongs_206 : decode cX12_newSongs 206 = .ok (.getfield 315, 3) := by decide +kernel
theorem dX12_newSongs_209 : decode cX12_newSongs 209 = .ok (.iconst 1, 1) := by decide +kernel
theorem dX12_newSongs_210 : decode cX12_newSongs 210 = .ok (.iadd, 1) := by decide +kernel
theorem dX12_newSongs_211 : decode cX12_newSongs 211 = .ok (.putfield 315, 3) := by decide +kernel
theorem dX12_newSongs_214 : decode cX12_newSongs 214 = .ok (.iinc 5 1, 3) := by decide +kernel
theorem dX12_newSongs_217 : decode cX12_newSongs 217 = .ok (.goto (-108), 3) := by decide +kernel
theorem dX12_newSongs_220 : decode cX12_newSongs 220 = .ok (.iload_n 3, 1) := by decide +kernel
theorem dX12_newSongs_221 : decode cX12_newSongs 221 = .ok (.ifCond .eq 8, 3) := by decide +kernel
theorem dX12_newSongs_224 : decode cX12_newSongs 224 = .ok (.iload 4, 2) := by decide +kernel
theorem dX12_newSongs_226 : decode cX12_newSongs 226 = .ok (.goto 5, 3) := by decide +kernel
theorem dX12_newSongs_229 : decode cX12_newSongs 229 = .ok (.bipush (-2), 2) := by decide +kernel
theorem dX12_newSongs_231 : decode cX12_newSongs 231 = .ok (.ireturn, 1) := by decide +kernel
theorem dX12_songWhy_0 : decode cX12_songWhy 0 = .ok (.aload_n 0, 1) := by decide +kernel
theorem dX12_songWhy_1 : decode cX12_songWhy 1 = .ok (.getfield 180, 3) := by decide +kernel
theorem dX12_songWhy_4 : decode cX12_songWhy 4 = .ok (.ifCond .ne 7, 3) := by decide +kernel
theorem dX12_songWhy_7 : decode cX12_songWhy 7 = .ok (.iconst 1, 1) := by decide +kernel
theorem dX12_songWhy_8 : decode cX12_songWhy 8 = .ok (.goto 26, 3) := by decide +kernel
theorem dX12_songWhy_11 : decode cX12_songWhy 11 = .ok (.iload_n 1, 1) := by decide +kernel
theorem dX12_songWhy_12 : decode cX12_songWhy 12 = .ok (.iconst 2, 1) := by decide +kernel
theorem dX12_songWhy_13 : decode cX12_songWhy 13 = .ok (.iconst 5, 1) := by decide +kernel
theorem dX12_songWhy_14 : decode cX12_songWhy 14 = .ok (.invokestatic 149, 3) := by decide +kernel
theorem dX12_songWhy_17 : decode cX12_songWhy 17 = .ok (.ifCond .eq 16, 3) := by decide +kernel
theorem dX12_songWhy_20 : decode cX12_songWhy 20 = .ok (.iload_n 2, 1) := by decide +kernel
theorem dX12_songWhy_21 : decode cX12_songWhy 21 = .ok (.iconst 1, 1) := by decide +kernel
theorem dX12_songWhy_22 : decode cX12_songWhy 22 = .ok (.iconst 5, 1) := by decide +kernel
theorem dX12_songWhy_23 : decode cX12_songWhy 23 = .ok (.invokestatic 149, 3) := by decide +kernel
theorem dX12_songWhy_26 : decode cX12_songWhy 26 = .ok (.ifCond .eq 7, 3) := by decide +kernel
theorem dX12_songWhy_29 : decode cX12_songWhy 29 = .ok (.iconst 0, 1) := by decide +kernel
theorem dX12_songWhy_30 : decode cX12_songWhy 30 = .ok (.goto 4, 3) := by decide +kernel
theorem dX12_songWhy_33 : decode cX12_songWhy 33 = .ok (.iconst 2, 1) := by decide +kernel
theorem dX12_songWhy_34 : decode cX12_songWhy 34 = .ok (.ireturn, 1) := by decide +kernel
theorem dX12_fresh_0 : decode cX12_fresh 0 = .ok (.aload_n 0, 1) := by decide +kernel
theorem dX12_fresh_1 : decode cX12_fresh 1 = .ok (.invokevirtual 167, 3) := by decide +kernel
theorem dX12_fresh_4 : decode cX12_fresh 4 = .ok (.aload_n 0, 1) := by decide +kernel
theorem dX12_fresh_5 : decode cX12_fresh 5 = .ok (.iload_n 1, 1) := by decide +kernel
theorem dX12_fresh_6 : decode cX12_fresh 6 = .ok (.iload_n 2, 1) := by decide +kernel
theorem dX12_fresh_7 : decode cX12_fresh 7 = .ok (.invokevirtual 324, 3) := by decide +kernel
theorem dX12_fresh_10 : decode cX12_fresh 10 = .ok (.istore_n 3, 1) := by decide +kernel
theorem dX12_fresh_11 : decode cX12_fresh 11 = .ok (.iload_n 3, 1) := by decide +kernel
theorem dX12_fresh_12 : decode cX12_fresh 12 = .ok (.ifCond .eq 11, 3) := by decide +kernel
theorem dX12_fresh_15 : decode cX12_fresh 15 = .ok (.aload_n 0, 1) := by decide +kernel
theorem dX12_fresh_16 : decode cX12_fresh 16 = .ok (.iload_n 3, 1) := by decide +kernel
theorem dX12_fresh_17 : decode cX12_fresh 17 = .ok (.invokevirtual 170, 3) := by decide +kernel
theorem dX12_fresh_20 : decode cX12_fresh 20 = .ok (.goto 10, 3) := by decide +kernel
theorem dX12_fresh_23 : decode cX12_fresh 23 = .ok (.aload_n 0, 1) := by decide +kernel
theorem dX12_fresh_24 : decode cX12_fresh 24 = .ok (.iload_n 1, 1) := by decide +kernel
theorem dX12_fresh_25 : decode cX12_fresh 25 = .ok (.iload_n 2, 1) := by decide +kernel
theorem dX12_fresh_26 : decode cX12_fresh 26 = .ok (.iconst 0, 1) := by decide +kernel
theorem dX12_fresh_27 : decode cX12_fresh 27 = .ok (.invokevirtual 327, 3) := by decide +kernel
theorem dX12_fresh_30 : decode cX12_fresh 30 = .ok (.ireturn, 1) := by decide +kernel
theorem dX12_byTurns_0 : decode cX12_byTurns 0 = .ok (.aload_n 0, 1) := by decide +kernel
theorem dX12_byTurns_1 : decode cX12_byTurns 1 = .ok (.invokevirtual 167, 3) := by decide +kernel
theorem dX12_byTurns_4 : decode cX12_byTurns 4 = .ok (.aload_n 0, 1) := by decide +kernel
theorem dX12_byTurns_5 : decode cX12_byTurns 5 = .ok (.iload_n 1, 1) := by decide +kernel
theorem dX12_byTurns_6 : decode cX12_byTurns 6 = .ok (.iload_n 2, 1) := by decide +kernel
theorem dX12_byTurns_7 : decode cX12_byTurns 7 = .ok (.invokevirtual 324, 3) := by decide +kernel
theorem dX12_byTurns_10 : decode cX12_byTurns 10 = .ok (.istore_n 3, 1) := by decide +kernel
theorem dX12_byTurns_11 : decode cX12_byTurns 11 = .ok (.iload_n 3, 1) := by decide +kernel
theorem dX12_byTurns_12 : decode cX12_byTurns 12 = .ok (.ifCond .eq 11, 3) := by decide +kernel
theorem dX12_byTurns_15 : decode cX12_byTurns 15 = .ok (.aload_n 0, 1) := by decide +kernel
theorem dX12_byTurns_16 : decode cX12_byTurns 16 = .ok (.iload_n 3, 1) := by decide +kernel
theorem dX12_byTurns_17 : decode cX12_byTurns 17 = .ok (.invokevirtual 170, 3) := by decide +kernel
theorem dX12_byTurns_20 : decode cX12_byTurns 20 = .ok (.goto 10, 3) := by decide +kernel
theorem dX12_byTurns_23 : decode cX12_byTurns 23 = .ok (.aload_n 0, 1) := by decide +kernel
theorem dX12_byTurns_24 : decode cX12_byTurns 24 = .ok (.iload_n 1, 1) := by decide +kernel
theorem dX12_byTurns_25 : decode cX12_byTurns 25 = .ok (.iload_n 2, 1) := by decide +kernel
theorem dX12_byTurns_26 : decode cX12_byTurns 26 = .ok (.iconst 1, 1) := by decide +kernel
theorem dX12_byTurns_27 : decode cX12_byTurns 27 = .ok (.invokevirtual 327, 3) := by decide +kernel
theorem dX12_byTurns_30 : decode cX12_byTurns 30 = .ok (.ireturn, 1) := by decide +kernel
theorem dX12_heardIn_0 : decode cX12_heardIn 0 = .ok (.aload_n 0, 1) := by decide +kernel
theorem dX12_heardIn_1 : decode cX12_heardIn 1 = .ok (.invokevirtual 167, 3) := by decide +kernel
theorem dX12_heardIn_4 : decode cX12_heardIn 4 = .ok (.aload_n 0, 1) := by decide +kernel
theorem dX12_heardIn_5 : decode cX12_heardIn 5 = .ok (.iload_n 1, 1) := by decide +kernel
theorem dX12_heardIn_6 : decode cX12_heardIn 6 = .ok (.invokevirtual 274, 3) := by decide +kernel
theorem dX12_heardIn_9 : decode cX12_heardIn 9 = .ok (.ifCond .ne 9, 3) := by decide +kernel
theorem dX12_heardIn_12 : decode cX12_heardIn 12 = .ok (.aload_n 0, 1) := by decide +kernel
theorem dX12_heardIn_13 : decode cX12_heardIn 13 = .ok (.iconst 1, 1) := by decide +kernel
theorem dX12_heardIn_14 : decode cX12_heardIn 14 = .ok (.invokevirtual 170, 3) := by decide +kernel
theorem dX12_heardIn_17 : decode cX12_heardIn 17 = .ok (.ireturn, 1) := by decide +kernel
theorem dX12_heardIn_18 : decode cX12_heardIn 18 = .ok (.iload_n 2, 1) := by decide +kernel
theorem dX12_heardIn_19 : decode cX12_heardIn 19 = .ok (.iconst 0, 1) := by decide +kernel
theorem dX12_heardIn_20 : decode cX12_heardIn 20 = .ok (.bipush 99, 2) := by decide +kernel
theorem dX12_heardIn_22 : decode cX12_heardIn 22 = .ok (.invokestatic 149, 3) := by decide +kernel
theorem dX12_heardIn_25 : decode cX12_heardIn 25 = .ok (.ifCond .eq 21, 3) := by decide +kernel
theorem dX12_heardIn_28 : decode cX12_heardIn 28 = .ok (.aload_n 0, 1) := by decide +kernel
theorem dX12_heardIn_29 : decode cX12_heardIn 29 = .ok (.iload_n 1, 1) := by decide +kernel
theorem dX12_heardIn_30 : decode cX12_heardIn 30 = .ok (.aload_n 0, 1) := by decide +kernel
theorem dX12_heardIn_31 : decode cX12_heardIn 31 = .ok (.getfield 26, 3) := by decide +kernel
theorem dX12_heardIn_34 : decode cX12_heardIn 34 = .ok (.iconst 0, 1) := by decide +kernel
theorem dX12_heardIn_35 : decode cX12_heardIn 35 = .ok (.iaload, 1) := by decide +kernel
theorem dX12_heardIn_36 : decode cX12_heardIn 36 = .ok (.iload_n 2, 1) := by decide +kernel
theorem dX12_heardIn_37 : decode cX12_heardIn 37 = .ok (.iadd, 1) := by decide +kernel
theorem dX12_heardIn_38 : decode cX12_heardIn 38 = .ok (.iconst (-1), 1) := by decide +kernel
theorem dX12_heardIn_39 : decode cX12_heardIn 39 = .ok (.iconst 0, 1) := by decide +kernel
theorem dX12_heardIn_40 : decode cX12_heardIn 40 = .ok (.invokevirtual 291, 3) := by decide +kernel
theorem dX12_heardIn_43 : decode cX12_heardIn 43 = .ok (.goto 8, 3) := by decide +kernel
theorem dX12_heardIn_46 : decode cX12_heardIn 46 = .ok (.aload_n 0, 1) := by decide +kernel
theorem dX12_heardIn_47 : decode cX12_heardIn 47 = .ok (.iconst 2, 1) := by decide +kernel
theorem dX12_heardIn_48 : decode cX12_heardIn 48 = .ok (.invokevirtual 170, 3) := by decide +kernel
theorem dX12_heardIn_51 : decode cX12_heardIn 51 = .ok (.ireturn, 1) := by decide +kernel
theorem dX12_hearsItself_0 : decode cX12_hearsItself 0 = .ok (.iconst 0, 1) := by decide +kernel
theorem dX12_hearsItself_1 : decode cX12_hearsItself 1 = .ok (.istore_n 3, 1) := by decide +kernel
theorem dX12_hearsItself_2 : decode cX12_hearsItself 2 = .ok (.iconst 0, 1) := by decide +kernel
theorem dX12_hearsItself_3 : decode cX12_hearsItself 3 = .ok (.istore 4, 2) := by decide +kernel
theorem dX12_hearsItself_5 : decode cX12_hearsItself 5 = .ok (.iload 4, 2) := by decide +kernel
theorem dX12_hearsItself_7 : decode cX12_hearsItself 7 = .ok (.aload_n 0, 1) := by decide +kernel
theorem dX12_hearsItself_8 : decode cX12_hearsItself 8 = .ok (.iload_n 1, 1) := by decide +kernel
theorem dX12_hearsItself_9 : decode cX12_hearsItself 9 = .ok (.invokevirtual 265, 3) := by decide +kernel
theorem dX12_hearsItself_12 : decode cX12_hearsItself 12 = .ok (.if_icmp .ge 45, 3) := by decide +kernel
theorem dX12_hearsItself_15 : decode cX12_hearsItself 15 = .ok (.iload_n 3, 1) := by decide +kernel
theorem dX12_hearsItself_16 : decode cX12_hearsItself 16 = .ok (.aload_n 0, 1) := by decide +kernel
theorem dX12_hearsItself_17 : decode cX12_hearsItself 17 = .ok (.iload_n 1, 1) := by decide +kernel
theorem dX12_hearsItself_18 : decode cX12_hearsItself 18 = .ok (.iload 4, 2) := by decide +kernel
theorem dX12_hearsItself_20 : decode cX12_hearsItself 20 = .ok (.iload_n 2, 1) := by decide +kernel
theorem dX12_hearsItself_21 : decode cX12_hearsItself 21 = .ok (.invokevirtual 280, 3) := by decide +kernel
theorem dX12_hearsItself_24 : decode cX12_hearsItself 24 = .ok (.aload_n 0, 1) := by decide +kernel
theorem dX12_hearsItself_25 : decode cX12_hearsItself 25 = .ok (.getfield 20, 3) := by decide +kernel
theorem dX12_hearsItself_28 : decode cX12_hearsItself 28 = .ok (.bipush 10, 2) := by decide +kernel
theorem dX12_hearsItself_30 : decode cX12_hearsItself 30 = .ok (.bipush 7, 2) := by decide +kernel
theorem dX12_hearsItself_32 : decode cX12_hearsItself 32 = .ok (.iload_n 1, 1) := by decide +kernel
theorem dX12_hearsItself_33 : decode cX12_hearsItself 33 = .ok (.imul, 1) := by decide +kernel
theorem dX12_hearsItself_34 : decode cX12_hearsItself 34 = .ok (.iadd, 1) := by decide +kernel
theorem dX12_hearsItself_35 : decode cX12_hearsItself 35 = .ok (.iconst 1, 1) := by decide +kernel
theorem dX12_hearsItself_36 : decode cX12_hearsItself 36 = .ok (.iadd, 1) := by decide +kernel
theorem dX12_hearsItself_37 : decode cX12_hearsItself 37 = .ok (.iload 4, 2) := by decide +kernel
theorem dX12_hearsItself_39 : decode cX12_hearsItself 39 = .ok (.iadd, 1) := by decide +kernel
theorem dX12_hearsItself_40 : decode cX12_hearsItself 40 = .ok (.iaload, 1) := by decide +kernel
theorem dX12_hearsItself_41 : decode cX12_hearsItself 41 = .ok (.if_icmp .ne 7, 3) := by decide +kernel
theorem dX12_hearsItself_44 : decode cX12_hearsItself 44 = .ok (.iconst 0, 1) := by decide +kernel
theorem dX12_hearsItself_45 : decode cX12_hearsItself 45 = .ok (.goto 4, 3) := by decide +kernel
theorem dX12_hearsItself_48 : decode cX12_hearsItself 48 = .ok (.iconst 1, 1) := by decide +kernel
theorem dX12_hearsItself_49 : decode cX12_hearsItself 49 = .ok (.iadd, 1) := by decide +kernel
theorem dX12_hearsItself_50 : decode cX12_hearsItself 50 = .ok (.istore_n 3, 1) := by decide +kernel
theorem dX12_hearsItself_51 : decode cX12_hearsItself 51 = .ok (.iinc 4 1, 3) := by decide +kernel
theorem dX12_hearsItself_54 : decode cX12_hearsItself 54 = .ok (.goto (-49), 3) := by decide +kernel
theorem dX12_hearsItself_57 : decode cX12_hearsItself 57 = .ok (.iload_n 3, 1) := by decide +kernel
theorem dX12_hearsItself_58 : decode cX12_hearsItself 58 = .ok (.aload_n 0, 1) := by decide +kernel
theorem dX12_hearsItself_59 : decode cX12_hearsItself 59 = .ok (.getfield 20, 3) := by decide +kernel
theorem dX12_hearsItself_62 : decode cX12_hearsItself 62 = .ok (.iconst 1, 1) := by decide +kernel
theorem dX12_hearsItself_63 : decode cX12_hearsItself 63 = .ok (.iaload, 1) := by decide +kernel
theorem dX12_hearsItself_64 : decode cX12_hearsItself 64 = .ok (.if_icmp .gt 7, 3) := by decide +kernel
theorem dX12_hearsItself_67 : decode cX12_hearsItself 67 = .ok (.iconst 1, 1) := by decide +kernel
theorem dX12_hearsItself_68 : decode cX12_hearsItself 68 = .ok (.goto 4, 3) := by decide +kernel
theorem dX12_hearsItself_71 : decode cX12_hearsItself 71 = .ok (.iconst 0, 1) := by decide +kernel
theorem dX12_hearsItself_72 : decode cX12_hearsItself 72 = .ok (.istore 4, 2) := by decide +kernel
theorem dX12_hearsItself_74 : decode cX12_hearsItself 74 = .ok (.iconst 0, 1) := by decide +kernel
theorem dX12_hearsItself_75 : decode cX12_hearsItself 75 = .ok (.istore 5, 2) := by decide +kernel
theorem dX12_hearsItself_77 : decode cX12_hearsItself 77 = .ok (.iload 5, 2) := by decide +kernel
theorem dX12_hearsItself_79 : decode cX12_hearsItself 79 = .ok (.aload_n 0, 1) := by decide +kernel
theorem dX12_hearsItself_80 : decode cX12_hearsItself 80 = .ok (.getfield 20, 3) := by decide +kernel
theorem dX12_hearsItself_83 : decode cX12_hearsItself 83 = .ok (.iconst 4, 1) := by decide +kernel
theorem dX12_hearsItself_84 : decode cX12_hearsItself 84 = .ok (.iaload, 1) := by decide +kernel
theorem dX12_hearsItself_85 : decode cX12_hearsItself 85 = .ok (.if_icmp .ge 111, 3) := by decide +kernel
theorem dX12_hearsItself_88 : decode cX12_hearsItself 88 = .ok (.iload 5, 2) := by decide +kernel
theorem dX12_hearsItself_90 : decode cX12_hearsItself 90 = .ok (.iload_n 1, 1) := by decide +kernel
theorem dX12_hearsItself_91 : decode cX12_hearsItself 91 = .ok (.if_icmp .eq 99, 3) := by decide +kernel
theorem dX12_hearsItself_94 : decode cX12_hearsItself 94 = .ok (.aload_n 0, 1) := by decide +kernel
theorem dX12_hearsItself_95 : decode cX12_hearsItself 95 = .ok (.iload 5, 2) := by decide +kernel
theorem dX12_hearsItself_97 : decode cX12_hearsItself 97 = .ok (.invokevirtual 265, 3) := by decide +kernel
theorem dX12_hearsItself_100 : decode cX12_hearsItself 100 = .ok (.aload_n 0, 1) := by decide +kernel
theorem dX12_hearsItself_101 : decode cX12_hearsItself 101 = .ok (.iload_n 1, 1) := by decide +kernel
theorem dX12_hearsItself_102 : decode cX12_hearsItself 102 = .ok (.invokevirtual 265, 3) := by decide +kernel
theorem dX12_hearsItself_105 : decode cX12_hearsItself 105 = .ok (.if_icmp .eq 6, 3) := by decide +kernel
theorem dX12_hearsItself_108 : decode cX12_hearsItself 108 = .ok (.goto 82, 3) := by decide +kernel
theorem dX12_hearsItself_111 : decode cX12_hearsItself 111 = .ok (.iconst 0, 1) := by decide +kernel
theorem dX12_hearsItself_112 : decode cX12_hearsItself 112 = .ok (.istore 6, 2) := by decide +kernel
theorem dX12_hearsItself_114 : decode cX12_hearsItself 114 = .ok (.iconst 0, 1) := by decide +kernel
theorem dX12_hearsItself_115 : decode cX12_hearsItself 115 = .ok (.istore 7, 2) := by decide +kernel
theorem dX12_hearsItself_117 : decode cX12_hearsItself 117 = .ok (.iload 7, 2) := by decide +kernel
theorem dX12_hearsItself_119 : decode cX12_hearsItself 119 = .ok (.aload_n 0, 1) := by decide +kernel
theorem dX12_hearsItself_120 : decode cX12_hearsItself 120 = .ok (.iload_n 1, 1) := by decide +kernel
theorem dX12_hearsItself_121 : decode cX12_hearsItself 121 = .ok (.invokevirtual 265, 3) := by decide +kernel
theorem dX12_hearsItself_124 : decode cX12_hearsItself 124 = .ok (.if_icmp .ge 48, 3) := by decide +kernel
theorem dX12_hearsItself_127 : decode cX12_hearsItself 127 = .ok (.iload 6, 2) := by decide +kernel
theorem dX12_hearsItself_129 : decode cX12_hearsItself 129 = .ok (.aload_n 0, 1) := by decide +kernel
theorem dX12_hearsItself_130 : decode cX12_hearsItself 130 = .ok (.iload 5, 2) := by decide +kernel
theorem dX12_hearsItself_132 : decode cX12_hearsItself 132 = .ok (.iload 7, 2) := by decide +kernel
theorem dX12_hearsItself_134 : decode cX12_hearsItself 134 = .ok (.iload_n 2, 1) := by decide +kernel
theorem dX12_hearsItself_135 : decode cX12_hearsItself 135 = .ok (.invokevirtual 280, 3) := by decide +kernel
theorem dX12_hearsItself_138 : decode cX12_hearsItself 138 = .ok (.aload_n 0, 1) := by decide +kernel
theorem dX12_hearsItself_139 : decode cX12_hearsItself 139 = .ok (.getfield 20, 3) := by decide +kernel
theorem dX12_hearsItself_142 : decode cX12_hearsItself 142 = .ok (.bipush 10, 2) := by decide +kernel
theorem dX12_hearsItself_144 : decode cX12_hearsItself 144 = .ok (.bipush 7, 2) := by decide +kernel
theorem dX12_hearsItself_146 : decode cX12_hearsItself 146 = .ok (.iload_n 1, 1) := by decide +kernel
theorem dX12_hearsItself_147 : decode cX12_hearsItself 147 = .ok (.imul, 1) := by decide +kernel
theorem dX12_hearsItself_148 : decode cX12_hearsItself 148 = .ok (.iadd, 1) := by decide +kernel
theorem dX12_hearsItself_149 : decode cX12_hearsItself 149 = .ok (.iconst 1, 1) := by decide +kernel
theorem dX12_hearsItself_150 : decode cX12_hearsItself 150 = .ok (.iadd, 1) := by decide +kernel
theorem dX12_hearsItself_151 : decode cX12_hearsItself 151 = .ok (.iload 7, 2) := by decide +kernel
theorem dX12_hearsItself_153 : decode cX12_hearsItself 153 = .ok (.iadd, 1) := by decide +kernel
theorem dX12_hearsItself_154 : decode cX12_hearsItself 154 = .ok (.iaload, 1) := by decide +kernel
theorem dX12_hearsItself_155 : decode cX12_hearsItself 155 = .ok (.if_icmp .ne 7, 3) := by decide +kernel
theorem dX12_hearsItself_158 : decode cX12_hearsItself 158 = .ok (.iconst 0, 1) := by decide +kernel
theorem dX12_hearsItself_159 : decode cX12_hearsItself 159 = .ok (.goto 4, 3) := by decide +kernel
theorem dX12_hearsItself_162 : decode cX12_hearsItself 162 = .ok (.iconst 1, 1) := by decide +kernel
theorem dX12_hearsItself_163 : decode cX12_hearsItself 163 = .ok (.iadd, 1) := by decide +kernel
theorem dX12_hearsItself_164 : decode cX12_hearsItself 164 = .ok (.istore 6, 2) := by decide +kernel
theorem dX12_hearsItself_166 : decode cX12_hearsItself 166 = .ok (.iinc 7 1, 3) := by decide +kernel
theorem dX12_hearsItself_169 : decode cX12_hearsItself 169 = .ok (.goto (-52), 3) := by decide +kernel
theorem dX12_hearsItself_172 : decode cX12_hearsItself 172 = .ok (.iload 4, 2) := by decide +kernel
theorem dX12_hearsItself_174 : decode cX12_hearsItself 174 = .ok (.ifCond .eq 13, 3) := by decide +kernel
theorem dX12_hearsItself_177 : decode cX12_hearsItself 177 = .ok (.iload_n 3, 1) := by decide +kernel
theorem dX12_hearsItself_178 : decode cX12_hearsItself 178 = .ok (.iload 6, 2) := by decide +kernel
theorem dX12_hearsItself_180 : decode cX12_hearsItself 180 = .ok (.if_icmp .ge 7, 3) := by decide +kernel
theorem dX12_hearsItself_183 : decode cX12_hearsItself 183 = .ok (.iconst 1, 1) := by decide +kernel
theorem dX12_hearsItself_184 : decode cX12_hearsItself 184 = .ok (.goto 4, 3) := by decide +kernel
theorem dX12_hearsItself_187 : decode cX12_hearsItself 187 = .ok (.iconst 0, 1) := by decide +kernel
theorem dX12_hearsItself_188 : decode cX12_hearsItself 188 = .ok (.istore 4, 2) := by decide +kernel
theorem dX12_hearsItself_190 : decode cX12_hearsItself 190 = .ok (.iinc 5 1, 3) := by decide +kernel
theorem dX12_hearsItself_193 : decode cX12_hearsItself 193 = .ok (.goto (-116), 3) := by decide +kernel
theorem dX12_hearsItself_196 : decode cX12_hearsItself 196 = .ok (.iload 4, 2) := by decide +kernel
theorem dX12_hearsItself_198 : decode cX12_hearsItself 198 = .ok (.ireturn, 1) := by decide +kernel
theorem dX12_strange_0 : decode cX12_strange 0 = .ok (.aload_n 0, 1) := by decide +kernel
theorem dX12_strange_1 : decode cX12_strange 1 = .ok (.invokevirtual 167, 3) := by decide +kernel
theorem dX12_strange_4 : decode cX12_strange 4 = .ok (.aload_n 0, 1) := by decide +kernel
theorem dX12_strange_5 : decode cX12_strange 5 = .ok (.iload_n 1, 1) := by decide +kernel
theorem dX12_strange_6 : decode cX12_strange 6 = .ok (.invokevirtual 277, 3) := by decide +kernel
theorem dX12_strange_9 : decode cX12_strange 9 = .ok (.ifCond .ne 9, 3) := by decide +kernel
theorem dX12_strange_12 : decode cX12_strange 12 = .ok (.aload_n 0, 1) := by decide +kernel
theorem dX12_strange_13 : decode cX12_strange 13 = .ok (.iconst 1, 1) := by decide +kernel
theorem dX12_strange_14 : decode cX12_strange 14 = .ok (.invokevirtual 170, 3) := by decide +kernel
theorem dX12_strange_17 : decode cX12_strange 17 = .ok (.ireturn, 1) := by decide +kernel
theorem dX12_strange_18 : decode cX12_strange 18 = .ok (.iconst 0, 1) := by decide +kernel
theorem dX12_strange_19 : decode cX12_strange 19 = .ok (.istore_n 2, 1) := by decide +kernel
theorem dX12_strange_20 : decode cX12_strange 20 = .ok (.iload_n 2, 1) := by decide +kernel
theorem dX12_strange_21 : decode cX12_strange 21 = .ok (.bipush 100, 2) := by decide +kernel
theorem dX12_strange_23 : decode cX12_strange 23 = .ok (.if_icmp .ge 27, 3) := by decide +kernel
theorem dX12_strange_26 : decode cX12_strange 26 = .ok (.aload_n 0, 1) := by decide +kernel
theorem dX12_strange_27 : decode cX12_strange 27 = .ok (.iload_n 1, 1) := by decide +kernel
theorem dX12_strange_28 : decode cX12_strange 28 = .ok (.aload_n 0, 1) := by decide +kernel
theorem dX12_strange_29 : decode cX12_strange 29 = .ok (.getfield 26, 3) := by decide +kernel
theorem dX12_strange_32 : decode cX12_strange 32 = .ok (.iconst 0, 1) := by decide +kernel
theorem dX12_strange_33 : decode cX12_strange 33 = .ok (.iaload, 1) := by decide +kernel
theorem dX12_strange_34 : decode cX12_strange 34 = .ok (.iload_n 2, 1) := by decide +kernel
theorem dX12_strange_35 : decode cX12_strange 35 = .ok (.iadd, 1) := by decide +kernel
theorem dX12_strange_36 : decode cX12_strange 36 = .ok (.invokevirtual 331, 3) := by decide +kernel
theorem dX12_strange_39 : decode cX12_strange 39 = .ok (.ifCond .ne 5, 3) := by decide +kernel
theorem dX12_strange_42 : decode cX12_strange 42 = .ok (.iload_n 2, 1) := by decide +kernel
theorem dX12_strange_43 : decode cX12_strange 43 = .ok (.ireturn, 1) := by decide +kernel
theorem dX12_strange_44 : decode cX12_strange 44 = .ok (.iinc 2 1, 3) := by decide +kernel
theorem dX12_strange_47 : decode cX12_strange 47 = .ok (.goto (-27), 3) := by decide +kernel
theorem dX12_strange_50 : decode cX12_strange 50 = .ok (.bipush (-2), 2) := by decide +kernel
theorem dX12_strange_52 : decode cX12_strange 52 = .ok (.ireturn, 1) := by decide +kernel
theorem dX12_dayBy_0 : decode cX12_dayBy 0 = .ok (.aload_n 0, 1) := by decide +kernel
theorem dX12_dayBy_1 : decode cX12_dayBy 1 = .ok (.iload_n 1, 1) := by decide +kernel
theorem dX12_dayBy_2 : decode cX12_dayBy 2 = .ok (.iload_n 2, 1) := by decide +kernel
theorem dX12_dayBy_3 : decode cX12_dayBy 3 = .ok (.iload_n 3, 1) := by decide +kernel
theorem dX12_dayBy_4 : decode cX12_dayBy 4 = .ok (.invokevirtual 334, 3) := by decide +kernel
theorem dX12_dayBy_7 : decode cX12_dayBy 7 = .ok (.iload_n 2, 1) := by decide +kernel
theorem dX12_dayBy_8 : decode cX12_dayBy 8 = .ok (.iconst 2, 1) := by decide +kernel
theorem dX12_dayBy_9 : decode cX12_dayBy 9 = .ok (.if_icmp .ne 7, 3) := by decide +kernel
theorem dX12_dayBy_12 : decode cX12_dayBy 12 = .ok (.iconst 2, 1) := by decide +kernel
theorem dX12_dayBy_13 : decode cX12_dayBy 13 = .ok (.goto 4, 3) := by decide +kernel
theorem dX12_dayBy_16 : decode cX12_dayBy 16 = .ok (.iconst 1, 1) := by decide +kernel
theorem dX12_dayBy_17 : decode cX12_dayBy 17 = .ok (.aload_n 0, 1) := by decide +kernel
theorem dX12_dayBy_18 : decode cX12_dayBy 18 = .ok (.getfield 20, 3) := by decide +kernel
theorem dX12_dayBy_21 : decode cX12_dayBy 21 = .ok (.bipush 59, 2) := by decide +kernel
theorem dX12_dayBy_23 : decode cX12_dayBy 23 = .ok (.iconst 4, 1) := by decide +kernel
theorem dX12_dayBy_24 : decode cX12_dayBy 24 = .ok (.iload_n 1, 1) := by decide +kernel
theorem dX12_dayBy_25 : decode cX12_dayBy 25 = .ok (.imul, 1) := by decide +kernel
theorem dX12_dayBy_26 : decode cX12_dayBy 26 = .ok (.iadd, 1) := by decide +kernel
theorem dX12_dayBy_27 : decode cX12_dayBy 27 = .ok (.iconst 2, 1) := by decide +kernel
theorem dX12_dayBy_28 : decode cX12_dayBy 28 = .ok (.iadd, 1) := by decide +kernel
theorem dX12_dayBy_29 : decode cX12_dayBy 29 = .ok (.iaload, 1) := by decide +kernel
theorem dX12_dayBy_30 : decode cX12_dayBy 30 = .ok (.imul, 1) := by decide +kernel
theorem dX12_dayBy_31 : decode cX12_dayBy 31 = .ok (.iadd, 1) := by decide +kernel
theorem dX12_dayBy_32 : decode cX12_dayBy 32 = .ok (.ireturn, 1) := by decide +kernel
theorem dX12_setsOut_0 : decode cX12_setsOut 0 = .ok (.iload_n 3, 1) := by decide +kernel
theorem dX12_setsOut_1 : decode cX12_setsOut 1 = .ok (.istore 4, 2) := by decide +kernel
theorem dX12_setsOut_3 : decode cX12_setsOut 3 = .ok (.iload_n 2, 1) := by decide +kernel
theorem dX12_setsOut_4 : decode cX12_setsOut 4 = .ok (.iconst 3, 1) := by decide +kernel
theorem dX12_setsOut_5 : decode cX12_setsOut 5 = .ok (.if_icmp .eq 42, 3) := by decide +kernel
theorem dX12_setsOut_8 : decode cX12_setsOut 8 = .ok (.aload_n 0, 1) := by decide +kernel
theorem dX12_setsOut_9 : decode cX12_setsOut 9 = .ok (.getfield 20, 3) := by decide +kernel
theorem dX12_setsOut_12 : decode cX12_setsOut 12 = .ok (.bipush 59, 2) := by decide +kernel
theorem dX12_setsOut_14 : decode cX12_setsOut 14 = .ok (.iconst 4, 1) := by decide +kernel
theorem dX12_setsOut_15 : decode cX12_setsOut 15 = .ok (.iload_n 1, 1) := by decide +kernel
theorem dX12_setsOut_16 : decode cX12_setsOut 16 = .ok (.imul, 1) := by decide +kernel
theorem dX12_setsOut_17 : decode cX12_setsOut 17 = .ok (.iadd, 1) := by decide +kernel
theorem dX12_setsOut_18 : decode cX12_setsOut 18 = .ok (.iconst 3, 1) := by decide +kernel
theorem dX12_setsOut_19 : decode cX12_setsOut 19 = .ok (.iadd, 1) := by decide +kernel
theorem dX12_setsOut_20 : decode cX12_setsOut 20 = .ok (.iaload, 1) := by decide +kernel
theorem dX12_setsOut_21 : decode cX12_setsOut 21 = .ok (.iload 4, 2) := by decide +kernel
theorem dX12_setsOut_23 : decode cX12_setsOut 23 = .ok (.invokestatic 337, 3) := by decide +kernel
theorem dX12_setsOut_26 : decode cX12_setsOut 26 = .ok (.invokestatic 298, 3) := by decide +kernel
theorem dX12_setsOut_29 : decode cX12_setsOut 29 = .ok (.ifCond .ne 18, 3) := by decide +kernel
theorem dX12_setsOut_32 : decode cX12_setsOut 32 = .ok (.bipush 90, 2) := by decide +kernel
theorem dX12_setsOut_34 : decode cX12_setsOut 34 = .ok (.iload 4, 2) := by decide +kernel
theorem dX12_setsOut_36 : decode cX12_setsOut 36 = .ok (.bipush 90, 2) := by decide +kernel
theorem dX12_setsOut_38 : decode cX12_setsOut 38 = .ok (.idiv, 1) := by decide +kernel
theorem dX12_setsOut_39 : decode cX12_setsOut 39 = .ok (.iconst 1, 1) := by decide +kernel
theorem dX12_setsOut_40 : decode cX12_setsOut 40 = .ok (.iadd, 1) := by decide +kernel
theorem dX12_setsOut_41 : decode cX12_setsOut 41 = .ok (.imul, 1) := by decide +kernel
theorem dX12_setsOut_42 : decode cX12_setsOut 42 = .ok (.istore 4, 2) := by decide +kernel
theorem dX12_setsOut_44 : decode cX12_setsOut 44 = .ok (.goto (-36), 3) := by decide +kernel
theorem dX12_setsOut_47 : decode cX12_setsOut 47 = .ok (.iload 4, 2) := by decide +kernel
theorem dX12_setsOut_49 : decode cX12_setsOut 49 = .ok (.ireturn, 1) := by decide +kernel
theorem dX12_seasonOf_0 : decode cX12_seasonOf 0 = .ok (.iload_n 0, 1) := by decide +kernel
theorem dX12_seasonOf_1 : decode cX12_seasonOf 1 = .ok (.bipush 90, 2) := by decide +kernel
theorem dX12_seasonOf_3 : decode cX12_seasonOf 3 = .ok (.idiv, 1) := by decide +kernel
theorem dX12_seasonOf_4 : decode cX12_seasonOf 4 = .ok (.iconst 4, 1) := by decide +kernel
theorem dX12_seasonOf_5 : decode cX12_seasonOf 5 = .ok (.irem, 1) := by decide +kernel
theorem dX12_seasonOf_6 : decode cX12_seasonOf 6 = .ok (.ireturn, 1) := by decide +kernel
theorem dX12_season_0 : decode cX12_season 0 = .ok (.aload_n 0, 1) := by decide +kernel
theorem dX12_season_1 : decode cX12_season 1 = .ok (.invokevirtual 167, 3) := by decide +kernel
theorem dX12_season_4 : decode cX12_season 4 = .ok (.aload_n 0, 1) := by decide +kernel
theorem dX12_season_5 : decode cX12_season 5 = .ok (.getfield 180, 3) := by decide +kernel
theorem dX12_season_8 : decode cX12_season 8 = .ok (.ifCond .ne 9, 3) := by decide +kernel
theorem dX12_season_11 : decode cX12_season 11 = .ok (.aload_n 0, 1) := by decide +kernel
theorem dX12_season_12 : decode cX12_season 12 = .ok (.iconst 1, 1) := by decide +kernel
theorem dX12_season_13 : decode cX12_season 13 = .ok (.invokevirtual 170, 3) := by decide +kernel
theorem dX12_season_16 : decode cX12_season 16 = .ok (.ireturn, 1) := by decide +kernel
theorem dX12_season_17 : decode cX12_season 17 = .ok (.iload_n 1, 1) := by decide +kernel
theorem dX12_season_18 : decode cX12_season 18 = .ok (.iconst 0, 1) := by decide +kernel
theorem dX12_season_19 : decode cX12_season 19 = .ok (.ldc_w 340, 3) := by decide +kernel
theorem dX12_season_22 : decode cX12_season 22 = .ok (.invokestatic 149, 3) := by decide +kernel
theorem dX12_season_25 : decode cX12_season 25 = .ok (.ifCond .eq 10, 3) := by decide +kernel
theorem dX12_season_28 : decode cX12_season 28 = .ok (.iload_n 1, 1) := by decide +kernel
theorem dX12_season_29 : decode cX12_season 29 = .ok (.invokestatic 337, 3) := by decide +kernel
theorem dX12_season_32 : decode cX12_season 32 = .ok (.goto 8, 3) := by decide +kernel
theorem dX12_season_35 : decode cX12_season 35 = .ok (.aload_n 0, 1) := by decide +kernel
theorem dX12_season_36 : decode cX12_season 36 = .ok (.iconst 2, 1) := by decide +kernel
theorem dX12_season_37 : decode cX12_season 37 = .ok (.invokevirtual 170, 3) := by decide +kernel
theorem dX12_season_40 : decode cX12_season 40 = .ok (.ireturn, 1) := by decide +kernel
theorem dX12_sets_0 : decode cX12_sets 0 = .ok (.aload_n 0, 1) := by decide +kernel
theorem dX12_sets_1 : decode cX12_sets 1 = .ok (.invokevirtual 167, 3) := by decide +kernel
theorem dX12_sets_4 : decode cX12_sets 4 = .ok (.aload_n 0, 1) := by decide +kernel
theorem dX12_sets_5 : decode cX12_sets 5 = .ok (.iload_n 1, 1) := by decide +kernel
theorem dX12_sets_6 : decode cX12_sets 6 = .ok (.invokevirtual 268, 3) := by decide +kernel
theorem dX12_sets_9 : decode cX12_sets 9 = .ok (.ifCond .eq 19, 3) := by decide +kernel
theorem dX12_sets_12 : decode cX12_sets 12 = .ok (.iload_n 2, 1) := by decide +kernel
theorem dX12_sets_13 : decode cX12_sets 13 = .ok (.iconst 0, 1) := by decide +kernel
theorem dX12_sets_14 : decode cX12_sets 14 = .ok (.aload_n 0, 1) := by decide +kernel
theorem dX12_sets_15 : decode cX12_sets 15 = .ok (.getfield 20, 3) := by decide +kernel
theorem dX12_sets_18 : decode cX12_sets 18 = .ok (.iconst 5, 1) := by decide +kernel
theorem dX12_sets_19 : decode cX12_sets 19 = .ok (.iaload, 1) := by decide +kernel
theorem dX12_sets_20 : decode cX12_sets 20 = .ok (.iconst 1, 1) := by decide +kernel
theorem dX12_sets_21 : decode cX12_sets 21 = .ok (.isub, 1) := by decide +kernel
theorem dX12_sets_22 : decode cX12_sets 22 = .ok (.invokestatic 149, 3) := by decide +kernel
theorem dX12_sets_25 : decode cX12_sets 25 = .ok (.ifCond .ne 9, 3) := by decide +kernel
theorem dX12_sets_28 : decode cX12_sets 28 = .ok (.aload_n 0, 1) := by decide +kernel
theorem dX12_sets_29 : decode cX12_sets 29 = .ok (.iconst 1, 1) := by decide +kernel
theorem dX12_sets_30 : decode cX12_sets 30 = .ok (.invokevirtual 170, 3) := by decide +kernel
theorem dX12_sets_33 : decode cX12_sets 33 = .ok (.ireturn, 1) := by decide +kernel
theorem dX12_sets_34 : decode cX12_sets 34 = .ok (.iload_n 3, 1) := by decide +kernel
theorem dX12_sets_35 : decode cX12_sets 35 = .ok (.iconst 0, 1) := by decide +kernel
theorem dX12_sets_36 : decode cX12_sets 36 = .ok (.sipush 9999, 3) := by decide +kernel
theorem dX12_sets_39 : decode cX12_sets 39 = .ok (.invokestatic 149, 3) := by decide +kernel
theorem dX12_sets_42 : decode cX12_sets 42 = .ok (.ifCond .ne 9, 3) := by decide +kernel
theorem dX12_sets_45 : decode cX12_sets 45 = .ok (.aload_n 0, 1) := by decide +kernel
theorem dX12_sets_46 : decode cX12_sets 46 = .ok (.iconst 2, 1) := by decide +kernel
theorem dX12_sets_47 : decode cX12_sets 47 = .ok (.invokevirtual 170, 3) := by decide +kernel
theorem dX12_sets_50 : decode cX12_sets 50 = .ok (.ireturn, 1) := by decide +kernel
theorem dX12_sets_51 : decode cX12_sets 51 = .ok (.aload_n 0, 1) := by decide +kernel
theorem dX12_sets_52 : decode cX12_sets 52 = .ok (.iload_n 2, 1) := by decide +kernel
theorem dX12_sets_53 : decode cX12_sets 53 = .ok (.invokevirtual 302, 3) := by decide +kernel
theorem dX12_sets_56 : decode cX12_sets 56 = .ok (.ifCond .eq 8, 3) := by decide +kernel
theorem dX12_sets_59 : decode cX12_sets 59 = .ok (.bipush (-2), 2) := by decide +kernel
theorem dX12_sets_61 : decode cX12_sets 61 = .ok (.goto 15, 3) := by decide +kernel
theorem dX12_sets_64 : decode cX12_sets 64 = .ok (.aload_n 0, 1) := by decide +kernel
theorem dX12_sets_65 : decode cX12_sets 65 = .ok (.iload_n 2, 1) := by decide +kernel
theorem dX12_sets_66 : decode cX12_sets 66 = .ok (.aload_n 0, 1) := by decide +kernel
theorem dX12_sets_67 : decode cX12_sets 67 = .ok (.iload_n 1, 1) := by decide +kernel
theorem dX12_sets_68 : decode cX12_sets 68 = .ok (.iconst 0, 1) := by decide +kernel
theorem dX12_sets_69 : decode cX12_sets 69 = .ok (.invokevirtual 271, 3) := by decide +kernel
theorem dX12_sets_72 : decode cX12_sets 72 = .ok (.iload_n 3, 1) := by decide +kernel
theorem dX12_sets_73 : decode cX12_sets 73 = .ok (.invokevirtual 334, 3) := by decide +kernel
theorem dX12_sets_76 : decode cX12_sets 76 = .ok (.ireturn, 1) := by decide +kernel
theorem dX12_layDays_0 : decode cX12_layDays 0 = .ok (.iconst 0, 1) := by decide +kernel
theorem dX12_layDays_1 : decode cX12_layDays 1 = .ok (.istore 4, 2) := by decide +kernel
theorem dX12_layDays_3 : decode cX12_layDays 3 = .ok (.iload 4, 2) := by decide +kernel
theorem dX12_layDays_5 : decode cX12_layDays 5 = .ok (.bipush 7, 2) := by decide +kernel
theorem dX12_layDays_7 : decode cX12_layDays 7 = .ok (.if_icmp .ge 27, 3) := by decide +kernel
theorem dX12_layDays_10 : decode cX12_layDays 10 = .ok (.aload_n 0, 1) := by decide +kernel
theorem dX12_layDays_11 : decode cX12_layDays 11 = .ok (.getfield 38, 3) := by decide +kernel
theorem dX12_layDays_14 : decode cX12_layDays 14 = .ok (.iload 4, 2) := by decide +kernel
theorem dX12_layDays_16 : decode cX12_layDays 16 = .ok (.ldc_w 341, 3) := by decide +kernel
theorem dX12_layDays_19 : decode cX12_layDays 19 = .ok (.iastore, 1) := by decide +kernel
theorem dX12_layDays_20 : decode cX12_layDays 20 = .ok (.aload_n 0, 1) := by decide +kernel
theorem dX12_layDays_21 : decode cX12_layDays 21 = .ok (.getfield 41, 3) := by decide +kernel
theorem dX12_layDays_24 : decode cX12_layDays 24 = .ok (.iload 4, 2) := by decide +kernel
theorem dX12_layDays_26 : decode cX12_layDays 26 = .ok (.iconst 0, 1) := by decide +kernel
theorem dX12_layDays_27 : decode cX12_layDays 27 = .ok (.iastore, 1) := by decide +kernel
theorem dX12_layDays_28 : decode cX12_layDays 28 = .ok (.iinc 4 1, 3) := by decide +kernel
theorem dX12_layDays_31 : decode cX12_layDays 31 = .ok (.goto (-28), 3) := by decide +kernel
theorem dX12_layDays_34 : decode cX12_layDays 34 = .ok (.aload_n 0, 1) := by decide +kernel
theorem dX12_layDays_35 : decode cX12_layDays 35 = .ok (.getfield 38, 3) := by decide +kernel
theorem dX12_layDays_38 : decode cX12_layDays 38 = .ok (.iload_n 2, 1) := by decide +kernel
theorem dX12_layDays_39 : decode cX12_layDays 39 = .ok (.iload_n 3, 1) := by decide +kernel
theorem dX12_layDays_40 : decode cX12_layDays 40 = .ok (.iastore, 1) := by decide +kernel
theorem dX12_layDays_41 : decode cX12_layDays 41 = .ok (.iconst 0, 1) := by decide +kernel
theorem dX12_layDays_42 : decode cX12_layDays 42 = .ok (.istore 4, 2) := by decide +kernel
theorem dX12_layDays_44 : decode cX12_layDays 44 = .ok (.iload 4, 2) := by decide +kernel
theorem dX12_layDays_46 : decode cX12_layDays 46 = .ok (.aload_n 0, 1) := by decide +kernel
theorem dX12_layDays_47 : decode cX12_layDays 47 = .ok (.getfield 20, 3) := by decide +kernel
theorem dX12_layDays_50 : decode cX12_layDays 50 = .ok (.iconst 4, 1) := by decide +kernel
theorem dX12_layDays_51 : decode cX12_layDays 51 = .ok (.iaload, 1) := by decide +kernel
theorem dX12_layDays_52 : decode cX12_layDays 52 = .ok (.if_icmp .ge 143, 3) := by decide +kernel
theorem dX12_layDays_55 : decode cX12_layDays 55 = .ok (.iconst (-1), 1) := by decide +kernel
theorem dX12_layDays_56 : decode cX12_layDays 56 = .ok (.istore 5, 2) := by decide +kernel
theorem dX12_layDays_58 : decode cX12_layDays 58 = .ok (.iconst 0, 1) := by decide +kernel
theorem dX12_layDays_59 : decode cX12_layDays 59 = .ok (.istore 6, 2) := by decide +kernel
theorem dX12_layDays_61 : decode cX12_layDays 61 = .ok (.iload 6, 2) := by decide +kernel
theorem dX12_layDays_63 : decode cX12_layDays 63 = .ok (.aload_n 0, 1) := by decide +kernel
theorem dX12_layDays_64 : decode cX12_layDays 64 = .ok (.getfield 20, 3) := by decide +kernel
theorem dX12_layDays_67 : decode cX12_layDays 67 = .ok (.iconst 4, 1) := by decide +kernel
theorem dX12_layDays_68 : decode cX12_layDays 68 = .ok (.iaload, 1) := by decide +kernel
theorem dX12_layDays_69 : decode cX12_layDays 69 = .ok (.if_icmp .ge 58, 3) := by decide +kernel
theorem dX12_layDays_72 : decode cX12_layDays 72 = .ok (.aload_n 0, 1) := by decide +kernel
theorem dX12_layDays_73 : decode cX12_layDays 73 = .ok (.getfield 41, 3) := by decide +kernel
theorem dX12_layDays_76 : decode cX12_layDays 76 = .ok (.iload 6, 2) := by decide +kernel
theorem dX12_layDays_78 : decode cX12_layDays 78 = .ok (.iaload, 1) := by decide +kernel
theorem dX12_layDays_79 : decode cX12_layDays 79 = .ok (.ifCond .ne 42, 3) := by decide +kernel
theorem dX12_layDays_82 : decode cX12_layDays 82 = .ok (.aload_n 0, 1) := by decide +kernel
theorem dX12_layDays_83 : decode cX12_layDays 83 = .ok (.getfield 38, 3) := by decide +kernel
theorem dX12_layDays_86 : decode cX12_layDays 86 = .ok (.iload 6, 2) := by decide +kernel
theorem dX12_layDays_88 : decode cX12_layDays 88 = .ok (.iaload, 1) := by decide +kernel
theorem dX12_layDays_89 : decode cX12_layDays 89 = .ok (.ldc_w 341, 3) := by decide +kernel
theorem dX12_layDays_92 : decode cX12_layDays 92 = .ok (.if_icmp .ge 29, 3) := by decide +kernel
theorem dX12_layDays_95 : decode cX12_layDays 95 = .ok (.iload 5, 2) := by decide +kernel
theorem dX12_layDays_97 : decode cX12_layDays 97 = .ok (.ifCond .lt 20, 3) := by decide +kernel
theorem dX12_layDays_100 : decode cX12_layDays 100 = .ok (.aload_n 0, 1) := by decide +kernel
theorem dX12_layDays_101 : decode cX12_layDays 101 = .ok (.getfield 38, 3) := by decide +kernel
theorem dX12_layDays_104 : decode cX12_layDays 104 = .ok (.iload 6, 2) := by decide +kernel
theorem dX12_layDays_106 : decode cX12_layDays 106 = .ok (.iaload, 1) := by decide +kernel
theorem dX12_layDays_107 : decode cX12_layDays 107 = .ok (.aload_n 0, 1) := by decide +kernel
theorem dX12_layDays_108 : decode cX12_layDays 108 = .ok (.getfield 38, 3) := by decide +kernel
theorem dX12_layDays_111 : decode cX12_layDays 111 = .ok (.iload 5, 2) := by decide +kernel
theorem dX12_layDays_113 : decode cX12_layDays 113 = .ok (.iaload, 1) := by decide +kernel
theorem dX12_layDays_114 : decode cX12_layDays 114 = .ok (.if_icmp .ge 7, 3) := by decide +kernel
theorem dX12_layDays_117 : decode cX12_layDays 117 = .ok (.iload 6, 2) := by decide +kernel
theorem dX12_layDays_119 : decode cX12_layDays 119 = .ok (.istore 5, 2) := by decide +kernel
theorem dX12_layDays_121 : decode cX12_layDays 121 = .ok (.iinc 6 1, 3) := by decide +kernel
theorem dX12_layDays_124 : decode cX12_layDays 124 = .ok (.goto (-63), 3) := by decide +kernel
theorem dX12_layDays_127 : decode cX12_layDays 127 = .ok (.iload 5, 2) := by decide +kernel
theorem dX12_layDays_129 : decode cX12_layDays 129 = .ok (.ifCond .ge 4, 3) := by decide +kernel
theorem dX12_layDays_132 : decode cX12_layDays 132 = .ok (.return_, 1) := by decide +kernel
theorem dX12_layDays_133 : decode cX12_layDays 133 = .ok (.aload_n 0, 1) := by decide +kernel
theorem dX12_layDays_134 : decode cX12_layDays 134 = .ok (.getfield 41, 3) := by decide +kernel
theorem dX12_layDays_137 : decode cX12_layDays 137 = .ok (.iload 5, 2) := by decide +kernel
theorem dX12_layDays_139 : decode cX12_layDays 139 = .ok (.iconst 1, 1) := by decide +kernel
theorem dX12_layDays_140 : decode cX12_layDays 140 = .ok (.iastore, 1) := by decide +kernel
theorem dX12_layDays_141 : decode cX12_layDays 141 = .ok (.iconst 0, 1) := by decide +kernel
theorem dX12_layDays_142 : decode cX12_layDays 142 = .ok (.istore 6, 2) := by decide +kernel
theorem dX12_layDays_144 : decode cX12_layDays 144 = .ok (.iload 6, 2) := by decide +kernel
theorem dX12_layDays_146 : decode cX12_layDays 146 = .ok (.aload_n 0, 1) := by decide +kernel
theorem dX12_layDays_147 : decode cX12_layDays 147 = .ok (.getfield 20, 3) := by decide +kernel
theorem dX12_layDays_150 : decode cX12_layDays 150 = .ok (.iconst 5, 1) := by decide +kernel
theorem dX12_layDays_151 : decode cX12_layDays 151 = .ok (.iaload, 1) := by decide +kernel
theorem dX12_layDays_152 : decode cX12_layDays 152 = .ok (.if_icmp .ge 37, 3) := by decide +kernel
theorem dX12_layDays_155 : decode cX12_layDays 155 = .ok (.iload_n 1, 1) := by decide +kernel
theorem dX12_layDays_156 : decode cX12_layDays 156 = .ok (.ifCond .ne 9, 3) := by decide +kernel
theorem dX12_layDays_159 : decode cX12_layDays 159 = .ok (.iload 5, 2) := by decide +kernel
theorem dX12_layDays_161 : decode cX12_layDays 161 = .ok (.iload_n 2, 1) := by decide +kernel
theorem dX12_layDays_162 : decode cX12_layDays 162 = .ok (.if_icmp .ne 27, 3) := by decide +kernel
theorem dX12_layDays_165 : decode cX12_layDays 165 = .ok (.aload_n 0, 1) := by decide +kernel
theorem dX12_layDays_166 : decode cX12_layDays 166 = .ok (.iload 6, 2) := by decide +kernel
theorem dX12_layDays_168 : decode cX12_layDays 168 = .ok (.invokevirtual 302, 3) := by decide +kernel
theorem dX12_layDays_171 : decode cX12_layDays 171 = .ok (.ifCond .ne 12, 3) := by decide +kernel
theorem dX12_layDays_174 : decode cX12_layDays 174 = .ok (.aload_n 0, 1) := by decide +kernel
theorem dX12_layDays_175 : decode cX12_layDays 175 = .ok (.iload 6, 2) := by decide +kernel
theorem dX12_layDays_177 : decode cX12_layDays 177 = .ok (.iload_n 1, 1) := by decide +kernel
theorem dX12_layDays_178 : decode cX12_layDays 178 = .ok (.iload 5, 2) := by decide +kernel
theorem dX12_layDays_180 : decode cX12_layDays 180 = .ok (.invokevirtual 342, 3) := by decide +kernel
theorem dX12_layDays_183 : decode cX12_layDays 183 = .ok (.iinc 6 1, 3) := by decide +kernel
theorem dX12_layDays_186 : decode cX12_layDays 186 = .ok (.goto (-42), 3) := by decide +kernel
theorem dX12_layDays_189 : decode cX12_layDays 189 = .ok (.iinc 4 1, 3) := by decide +kernel
theorem dX12_layDays_192 : decode cX12_layDays 192 = .ok (.goto (-148), 3) := by decide +kernel
theorem dX12_layDays_195 : decode cX12_layDays 195 = .ok (.return_, 1) := by decide +kernel
theorem dX12_goesBy_0 : decode cX12_goesBy 0 = .ok (.aload_n 0, 1) := by decide +kernel
theorem dX12_goesBy_1 : decode cX12_goesBy 1 = .ok (.getfield 20, 3) := by decide +kernel
theorem dX12_goesBy_4 : decode cX12_goesBy 4 = .ok (.bipush 59, 2) := by decide +kernel
theorem dX12_goesBy_6 : decode cX12_goesBy 6 = .ok (.iconst 4, 1) := by decide +kernel
theorem dX12_goesBy_7 : decode cX12_goesBy 7 = .ok (.iload_n 1, 1) := by decide +kernel
theorem dX12_goesBy_8 : decode cX12_goesBy 8 = .ok (.imul, 1) := by decide +kernel
theorem dX12_goesBy_9 : decode cX12_goesBy 9 = .ok (.iadd, 1) := by decide +kernel
theorem dX12_goesBy_10 : decode cX12_goesBy 10 = .ok (.iaload, 1) := by decide +kernel
theorem dX12_goesBy_11 : decode cX12_goesBy 11 = .ok (.istore 4, 2) := by decide +kernel
theorem dX12_goesBy_13 : decode cX12_goesBy 13 = .ok (.aload_n 0, 1) := by decide +kernel
theorem dX12_goesBy_14 : decode cX12_goesBy 14 = .ok (.getfield 20, 3) := by decide +kernel
theorem dX12_goesBy_17 : decode cX12_goesBy 17 = .ok (.bipush 59, 2) := by decide +kernel
theorem dX12_goesBy_19 : decode cX12_goesBy 19 = .ok (.iconst 4, 1) := by decide +kernel
theorem dX12_goesBy_20 : decode cX12_goesBy 20 = .ok (.iload_n 1, 1) := by decide +kernel
theorem dX12_goesBy_21 : decode cX12_goesBy 21 = .ok (.imul, 1) := by decide +kernel
theorem dX12_goesBy_22 : decode cX12_goesBy 22 = .ok (.iadd, 1) := by decide +kernel
theorem dX12_goesBy_23 : decode cX12_goesBy 23 = .ok (.iconst 1, 1) := by decide +kernel
theorem dX12_goesBy_24 : decode cX12_goesBy 24 = .ok (.iadd, 1) := by decide +kernel
theorem dX12_goesBy_25 : decode cX12_goesBy 25 = .ok (.iaload, 1) := by decide +kernel
theorem dX12_goesBy_26 : decode cX12_goesBy 26 = .ok (.istore 5, 2) := by decide +kernel
theorem dX12_goesBy_28 : decode cX12_goesBy 28 = .ok (.iload 4, 2) := by decide +kernel
theorem dX12_goesBy_30 : decode cX12_goesBy 30 = .ok (.iload_n 3, 1) := by decide +kernel
theorem dX12_goesBy_31 : decode cX12_goesBy 31 = .ok (.if_icmp .eq 10, 3) := by decide +kernel
theorem dX12_goesBy_34 : decode cX12_goesBy 34 = .ok (.iload 5, 2) := by decide +kernel
theorem dX12_goesBy_36 : decode cX12_goesBy 36 = .ok (.iload_n 3, 1) := by decide +kernel
theorem dX12_goesBy_37 : decode cX12_goesBy 37 = .ok (.if_icmp .eq 4, 3) := by decide +kernel
theorem dX12_goesBy_40 : decode cX12_goesBy 40 = .ok (.return_, 1) := by decide +kernel
theorem dX12_goesBy_41 : decode cX12_goesBy 41 = .ok (.iload 4, 2) := by decide +kernel
theorem dX12_goesBy_43 : decode cX12_goesBy 43 = .ok (.iload_n 3, 1) := by decide +kernel
theorem dX12_goesBy_44 : decode cX12_goesBy 44 = .ok (.if_icmp .ne 8, 3) := by decide +kernel
theorem dX12_goesBy_47 : decode cX12_goesBy 47 = .ok (.iload 5, 2) := by decide +kernel
theorem dX12_goesBy_49 : decode cX12_goesBy 49 = .ok (.goto 5, 3) := by decide +kernel
theorem dX12_goesBy_52 : decode cX12_goesBy 52 = .ok (.iload 4, 2) := by decide +kernel
theorem dX12_goesBy_54 : decode cX12_goesBy 54 = .ok (.istore 6, 2) := by decide +kernel
theorem dX12_goesBy_56 : decode cX12_goesBy 56 = .ok (.aload_n 0, 1) := by decide +kernel
theorem dX12_goesBy_57 : decode cX12_goesBy 57 = .ok (.iload_n 1, 1) := by decide +kernel
theorem dX12_goesBy_58 : decode cX12_goesBy 58 = .ok (.iload_n 2, 1) := by decide +kernel
theorem dX12_goesBy_59 : decode cX12_goesBy 59 = .ok (.aload_n 0, 1) := by decide +kernel
theorem dX12_goesBy_60 : decode cX12_goesBy 60 = .ok (.getfield 38, 3) := by decide +kernel
theorem dX12_goesBy_63 : decode cX12_goesBy 63 = .ok (.iload_n 3, 1) := by decide +kernel
theorem dX12_goesBy_64 : decode cX12_goesBy 64 = .ok (.iaload, 1) := by decide +kernel
theorem dX12_goesBy_65 : decode cX12_goesBy 65 = .ok (.invokevirtual 346, 3) := by decide +kernel
theorem dX12_goesBy_68 : decode cX12_goesBy 68 = .ok (.istore 7, 2) := by decide +kernel
theorem dX12_goesBy_70 : decode cX12_goesBy 70 = .ok (.iload 7, 2) := by decide +kernel
theorem dX12_goesBy_72 : decode cX12_goesBy 72 = .ok (.aload_n 0, 1) := by decide +kernel
theorem dX12_goesBy_73 : decode cX12_goesBy 73 = .ok (.getfield 38, 3) := by decide +kernel
theorem dX12_goesBy_76 : decode cX12_goesBy 76 = .ok (.iload 6, 2) := by decide +kernel
theorem dX12_goesBy_78 : decode cX12_goesBy 78 = .ok (.iaload, 1) := by decide +kernel
theorem dX12_goesBy_79 : decode cX12_goesBy 79 = .ok (.if_icmp .ge 12, 3) := by decide +kernel
theorem dX12_goesBy_82 : decode cX12_goesBy 82 = .ok (.aload_n 0, 1) := by decide +kernel
theorem dX12_goesBy_83 : decode cX12_goesBy 83 = .ok (.getfield 38, 3) := by decide +kernel
theorem dX12_goesBy_86 : decode cX12_goesBy 86 = .ok (.iload 6, 2) := by decide +kernel
theorem dX12_goesBy_88 : decode cX12_goesBy 88 = .ok (.iload 7, 2) := by decide +kernel
theorem dX12_goesBy_90 : decode cX12_goesBy 90 = .ok (.iastore, 1) := by decide +kernel
theorem dX12_goesBy_91 : decode cX12_goesBy 91 = .ok (.return_, 1) := by decide +kernel
theorem dX12_arrivalOf_0 : decode cX12_arrivalOf 0 = .ok (.aload_n 0, 1) := by decide +kernel
theorem dX12_arrivalOf_1 : decode cX12_arrivalOf 1 = .ok (.iload_n 1, 1) := by decide +kernel
theorem dX12_arrivalOf_2 : decode cX12_arrivalOf 2 = .ok (.iload_n 2, 1) := by decide +kernel
theorem dX12_arrivalOf_3 : decode cX12_arrivalOf 3 = .ok (.iload 4, 2) := by decide +kernel
theorem dX12_arrivalOf_5 : decode cX12_arrivalOf 5 = .ok (.invokevirtual 349, 3) := by decide +kernel
theorem dX12_arrivalOf_8 : decode cX12_arrivalOf 8 = .ok (.aload_n 0, 1) := by decide +kernel
theorem dX12_arrivalOf_9 : decode cX12_arrivalOf 9 = .ok (.getfield 38, 3) := by decide +kernel
theorem dX12_arrivalOf_12 : decode cX12_arrivalOf 12 = .ok (.iload_n 3, 1) := by decide +kernel
theorem dX12_arrivalOf_13 : decode cX12_arrivalOf 13 = .ok (.iaload, 1) := by decide +kernel
theorem dX12_arrivalOf_14 : decode cX12_arrivalOf 14 = .ok (.ldc_w 341, 3) := by decide +kernel
theorem dX12_arrivalOf_17 : decode cX12_arrivalOf 17 = .ok (.if_icmp .ne 8, 3) := by decide +kernel
theorem dX12_arrivalOf_20 : decode cX12_arrivalOf 20 = .ok (.bipush (-2), 2) := by decide +kernel
theorem dX12_arrivalOf_22 : decode cX12_arrivalOf 22 = .ok (.goto 9, 3) := by decide +kernel
theorem dX12_arrivalOf_25 : decode cX12_arrivalOf 25 = .ok (.aload_n 0, 1) := by decide +kernel
theorem dX12_arrivalOf_26 : decode cX12_arrivalOf 26 = .ok (.getfield 38, 3) := by decide +kernel
theorem dX12_arrivalOf_29 : decode cX12_arrivalOf 29 = .ok (.iload_n 3, 1) := by decide +kernel
theorem dX12_arrivalOf_30 : decode cX12_arrivalOf 30 = .ok (.iaload, 1) := by decide +kernel
theorem dX12_arrivalOf_31 : decode cX12_arrivalOf 31 = .ok (.ireturn, 1) := by decide +kernel
theorem dX12_arrival_0 : decode cX12_arrival 0 = .ok (.aload_n 0, 1) := by decide +kernel
theorem dX12_arrival_1 : decode cX12_arrival 1 = .ok (.invokevirtual 167, 3) := by decide +kernel
theorem dX12_arrival_4 : decode cX12_arrival 4 = .ok (.aload_n 0, 1) := by decide +kernel
theorem dX12_arrival_5 : decode cX12_arrival 5 = .ok (.iload_n 1, 1) := by decide +kernel
theorem dX12_arrival_6 : decode cX12_arrival 6 = .ok (.invokevirtual 268, 3) := by decide +kernel
theorem dX12_arrival_9 : decode cX12_arrival 9 = .ok (.ifCond .eq 19, 3) := by decide +kernel
theorem dX12_arrival_12 : decode cX12_arrival 12 = .ok (.aload_n 0, 1) := by decide +kernel
theorem dX12_arrival_13 : decode cX12_arrival 13 = .ok (.iload_n 2, 1) := by decide +kernel
theorem dX12_arrival_14 : decode cX12_arrival 14 = .ok (.invokevirtual 277, 3) := by decide +kernel
theorem dX12_arrival_17 : decode cX12_arrival 17 = .ok (.ifCond .eq 11, 3) := by decide +kernel
theorem dX12_arrival_20 : decode cX12_arrival 20 = .ok (.aload_n 0, 1) := by decide +kernel
theorem dX12_arrival_21 : decode cX12_arrival 21 = .ok (.iload_n 3, 1) := by decide +kernel
theorem dX12_arrival_22 : decode cX12_arrival 22 = .ok (.invokevirtual 277, 3) := by decide +kernel
theorem dX12_arrival_25 : decode cX12_arrival 25 = .ok (.ifCond .ne 9, 3) := by decide +kernel
theorem dX12_arrival_28 : decode cX12_arrival 28 = .ok (.aload_n 0, 1) := by decide +kernel
theorem dX12_arrival_29 : decode cX12_arrival 29 = .ok (.iconst 1, 1) := by decide +kernel
theorem dX12_arrival_30 : decode cX12_arrival 30 = .ok (.invokevirtual 170, 3) := by decide +kernel
theorem dX12_arrival_33 : decode cX12_arrival 33 = .ok (.ireturn, 1) := by decide +kernel
theorem dX12_arrival_34 : decode cX12_arrival 34 = .ok (.iload 4, 2) := by decide +kernel
theorem dX12_arrival_36 : decode cX12_arrival 36 = .ok (.iconst 0, 1) := by decide +kernel
theorem dX12_arrival_37 : decode cX12_arrival 37 = .ok (.sipush 9999, 3) := by decide +kernel
theorem dX12_arrival_40 : decode cX12_arrival 40 = .ok (.invokestatic 149, 3) := by decide +kernel
theorem dX12_arrival_43 : decode cX12_arrival 43 = .ok (.ifCond .eq 20, 3) := by decide +kernel
theorem dX12_arrival_46 : decode cX12_arrival 46 = .ok (.aload_n 0, 1) := by decide +kernel
theorem dX12_arrival_47 : decode cX12_arrival 47 = .ok (.aload_n 0, 1) := by decide +kernel
theorem dX12_arrival_48 : decode cX12_arrival 48 = .ok (.iload_n 1, 1) := by decide +kernel
theorem dX12_arrival_49 : decode cX12_arrival 49 = .ok (.iconst 0, 1) := by decide +kernel
theorem dX12_arrival_50 : decode cX12_arrival 50 = .ok (.invokevirtual 271, 3) := by decide +kernel
theorem dX12_arrival_53 : decode cX12_arrival 53 = .ok (.iload_n 2, 1) := by decide +kernel
theorem dX12_arrival_54 : decode cX12_arrival 54 = .ok (.iload_n 3, 1) := by decide +kernel
theorem dX12_arrival_55 : decode cX12_arrival 55 = .ok (.iload 4, 2) := by decide +kernel
theorem dX12_arrival_57 : decode cX12_arrival 57 = .ok (.invokevirtual 352, 3) := by decide +kernel
theorem dX12_arrival_60 : decode cX12_arrival 60 = .ok (.goto 8, 3) := by decide +kernel
theorem dX12_arrival_63 : decode cX12_arrival 63 = .ok (.aload_n 0, 1) := by decide +kernel
theorem dX12_arrival_64 : decode cX12_arrival 64 = .ok (.iconst 2, 1) := by decide +kernel
theorem dX12_arrival_65 : decode cX12_arrival 65 = .ok (.invokevirtual 170, 3) := by decide +kernel
theorem dX12_arrival_68 : decode cX12_arrival 68 = .ok (.ireturn, 1) := by decide +kernel
theorem dX12_lays_0 : decode cX12_lays 0 = .ok (.aload_n 0, 1) := by decide +kernel
theorem dX12_lays_1 : decode cX12_lays 1 = .ok (.iload_n 1, 1) := by decide +kernel
theorem dX12_lays_2 : decode cX12_lays 2 = .ok (.iconst 0, 1) := by decide +kernel
theorem dX12_lays_3 : decode cX12_lays 3 = .ok (.invokevirtual 271, 3) := by decide +kernel
theorem dX12_lays_6 : decode cX12_lays 6 = .ok (.istore_n 3, 1) := by decide +kernel
theorem dX12_lays_7 : decode cX12_lays 7 = .ok (.iload_n 3, 1) := by decide +kernel
theorem dX12_lays_8 : decode cX12_lays 8 = .ok (.ifCond .ne 7, 3) := by decide +kernel
theorem dX12_lays_11 : decode cX12_lays 11 = .ok (.iconst 3, 1) := by decide +kernel
theorem dX12_lays_12 : decode cX12_lays 12 = .ok (.goto 15, 3) := by decide +kernel
theorem dX12_lays_15 : decode cX12_lays 15 = .ok (.iload_n 3, 1) := by decide +kernel
theorem dX12_lays_16 : decode cX12_lays 16 = .ok (.iconst 2, 1) := by decide +kernel
theorem dX12_lays_17 : decode cX12_lays 17 = .ok (.if_icmp .ne 8, 3) := by decide +kernel
theorem dX12_lays_20 : decode cX12_lays 20 = .ok (.bipush 99, 2) := by decide +kernel
theorem dX12_lays_22 : decode cX12_lays 22 = .ok (.goto 5, 3) := by decide +kernel
theorem dX12_lays_25 : decode cX12_lays 25 = .ok (.bipush 9, 2) := by decide +kernel
theorem dX12_lays_27 : decode cX12_lays 27 = .ok (.istore 4, 2) := by decide +kernel
theorem dX12_lays_29 : decode cX12_lays 29 = .ok (.aload_n 0, 1) := by decide +kernel
theorem dX12_lays_30 : decode cX12_lays 30 = .ok (.iload_n 2, 1) := by decide +kernel
theorem dX12_lays_31 : decode cX12_lays 31 = .ok (.invokevirtual 295, 3) := by decide +kernel
theorem dX12_lays_34 : decode cX12_lays 34 = .ok (.istore 5, 2) := by decide +kernel
theorem dX12_lays_36 : decode cX12_lays 36 = .ok (.aload_n 0, 1) := by decide +kernel
theorem dX12_lays_37 : decode cX12_lays 37 = .ok (.iload_n 2, 1) := by decide +kernel
theorem dX12_lays_38 : decode cX12_lays 38 = .ok (.iconst 2, 1) := by decide +kernel
theorem dX12_lays_39 : decode cX12_lays 39 = .ok (.invokevirtual 262, 3) := by decide +kernel
theorem dX12_lays_42 : decode cX12_lays 42 = .ok (.iload 4, 2) := by decide +kernel
theorem dX12_lays_44 : decode cX12_lays 44 = .ok (.if_icmp .gt 20, 3) := by decide +kernel
theorem dX12_lays_47 : decode cX12_lays 47 = .ok (.aload_n 0, 1) := by decide +kernel
theorem dX12_lays_48 : decode cX12_lays 48 = .ok (.getfield 26, 3) := by decide +kernel
theorem dX12_lays_51 : decode cX12_lays 51 = .ok (.bipush 12, 2) := by decide +kernel
theorem dX12_lays_53 : decode cX12_lays 53 = .ok (.iload_n 2, 1) := by decide +kernel
theorem dX12_lays_54 : decode cX12_lays 54 = .ok (.iadd, 1) := by decide +kernel
theorem dX12_lays_55 : decode cX12_lays 55 = .ok (.iaload, 1) := by decide +kernel
theorem dX12_lays_56 : decode cX12_lays 56 = .ok (.ifCond .gt 8, 3) := by decide +kernel
theorem dX12_lays_59 : decode cX12_lays 59 = .ok (.iload 5, 2) := by decide +kernel
theorem dX12_lays_61 : decode cX12_lays 61 = .ok (.ifCond .ge 5, 3) := by decide +kernel
theorem dX12_lays_64 : decode cX12_lays 64 = .ok (.iconst 0, 1) := by decide +kernel
theorem dX12_lays_65 : decode cX12_lays 65 = .ok (.ireturn, 1) := by decide +kernel
theorem dX12_lays_66 : decode cX12_lays 66 = .ok (.aload_n 0, 1) := by decide +kernel
theorem dX12_lays_67 : decode cX12_lays 67 = .ok (.iload_n 3, 1) := by decide +kernel
theorem dX12_lays_68 : decode cX12_lays 68 = .ok (.aload_n 0, 1) := by decide +kernel
theorem dX12_lays_69 : decode cX12_lays 69 = .ok (.getfield 26, 3) := by decide +kernel
theorem dX12_lays_72 : decode cX12_lays 72 = .ok (.iconst 2, 1) := by decide +kernel
theorem dX12_lays_73 : decode cX12_lays 73 = .ok (.iload_n 1, 1) := by decide +kernel
theorem dX12_lays_74 : decode cX12_lays 74 = .ok (.iadd, 1) := by decide +kernel
theorem dX12_lays_75 : decode cX12_lays 75 = .ok (.iaload, 1) := by decide +kernel
theorem dX12_lays_76 : decode cX12_lays 76 = .ok (.aload_n 0, 1) := by decide +kernel
theorem dX12_lays_77 : decode cX12_lays 77 = .ok (.iload_n 2, 1) := by decide +kernel
theorem dX12_lays_78 : decode cX12_lays 78 = .ok (.iconst 0, 1) := by decide +kernel
theorem dX12_lays_79 : decode cX12_lays 79 = .ok (.invokevirtual 262, 3) := by decide +kernel
theorem dX12_lays_82 : decode cX12_lays 82 = .ok (.aload_n 0, 1) := by decide +kernel
theorem dX12_lays_83 : decode cX12_lays 83 = .ok (.getfield 26, 3) := by decide +kernel
theorem dX12_lays_86 : decode cX12_lays 86 = .ok (.bipush 7, 2) := by decide +kernel
theorem dX12_lays_88 : decode cX12_lays 88 = .ok (.iload_n 1, 1) := by decide +kernel
theorem dX12_lays_89 : decode cX12_lays 89 = .ok (.iadd, 1) := by decide +kernel
theorem dX12_lays_90 : decode cX12_lays 90 = .ok (.iaload, 1) := by decide +kernel
theorem dX12_lays_91 : decode cX12_lays 91 = .ok (.invokevirtual 352, 3) := by decide +kernel
theorem dX12_lays_94 : decode cX12_lays 94 = .ok (.istore 6, 2) := by decide +kernel
theorem dX12_lays_96 : decode cX12_lays 96 = .ok (.iload 6, 2) := by decide +kernel
theorem dX12_lays_98 : decode cX12_lays 98 = .ok (.ifCond .ge 5, 3) := by decide +kernel
theorem dX12_lays_101 : decode cX12_lays 101 = .ok (.iconst 0, 1) := by decide +kernel
theorem dX12_lays_102 : decode cX12_lays 102 = .ok (.ireturn, 1) := by decide +kernel
theorem dX12_lays_103 : decode cX12_lays 103 = .ok (.aload_n 0, 1) := by decide +kernel
theorem dX12_lays_104 : decode cX12_lays 104 = .ok (.iload 6, 2) := by decide +kernel
theorem dX12_lays_106 : decode cX12_lays 106 = .ok (.aload_n 0, 1) := by decide +kernel
theorem dX12_lays_107 : decode cX12_lays 107 = .ok (.iload_n 2, 1) := by decide +kernel
theorem dX12_lays_108 : decode cX12_lays 108 = .ok (.iconst 3, 1) := by decide +kernel
theorem dX12_lays_109 : decode cX12_lays 109 = .ok (.invokevirtual 262, 3) := by decide +kernel
theorem dX12_lays_112 : decode cX12_lays 112 = .ok (.invokestatic 355, 3) := by decide +kernel
theorem dX12_lays_115 : decode cX12_lays 115 = .ok (.putfield 358, 3) := by decide +kernel
theorem dX12_lays_118 : decode cX12_lays 118 = .ok (.aload_n 0, 1) := by decide +kernel
theorem dX12_lays_119 : decode cX12_lays 119 = .ok (.aload_n 0, 1) := by decide +kernel
theorem dX12_lays_120 : decode cX12_lays 120 = .ok (.iload_n 3, 1) := by decide +kernel
theorem dX12_lays_121 : decode cX12_lays 121 = .ok (.aload_n 0, 1) := by decide +kernel
theorem dX12_lays_122 : decode cX12_lays 122 = .ok (.iload_n 2, 1) := by decide +kernel
theorem dX12_lays_123 : decode cX12_lays 123 = .ok (.iconst 0, 1) := by decide +kernel
theorem dX12_lays_124 : decode cX12_lays 124 = .ok (.invokevirtual 262, 3) := by decide +kernel
theorem dX12_lays_127 : decode cX12_lays 127 = .ok (.iload 5, 2) := by decide +kernel
theorem dX12_lays_129 : decode cX12_lays 129 = .ok (.aload_n 0, 1) := by decide +kernel
theorem dX12_lays_130 : decode cX12_lays 130 = .ok (.getfield 358, 3) := by decide +kernel
theorem dX12_lays_133 : decode cX12_lays 133 = .ok (.invokevirtual 352, 3) := by decide +kernel
theorem dX12_lays_136 : decode cX12_lays 136 = .ok (.putfield 361, 3) := by decide +kernel
theorem dX12_lays_139 : decode cX12_lays 139 = .ok (.aload_n 0, 1) := by decide +kernel
theorem dX12_lays_140 : decode cX12_lays 140 = .ok (.getfield 361, 3) := by decide +kernel
theorem dX12_lays_143 : decode cX12_lays 143 = .ok (.ifCond .lt 7, 3) := by decide +kernel
theorem dX12_lays_146 : decode cX12_lays 146 = .ok (.iconst 1, 1) := by decide +kernel
theorem dX12_lays_147 : decode cX12_lays 147 = .ok (.goto 4, 3) := by decide +kernel
theorem dX12_lays_150 : decode cX12_lays 150 = .ok (.iconst 0, 1) := by decide +kernel
theorem dX12_lays_151 : decode cX12_lays 151 = .ok (.ireturn, 1) := by decide +kernel
theorem dX12_bringsOf_0 : decode cX12_bringsOf 0 = .ok (.aload_n 0, 1) := by decide +kernel
theorem dX12_bringsOf_1 : decode cX12_bringsOf 1 = .ok (.iload_n 1, 1) := by decide +kernel
theorem dX12_bringsOf_2 : decode cX12_bringsOf 2 = .ok (.iload_n 2, 1) := by decide +kernel
theorem dX12_bringsOf_3 : decode cX12_bringsOf 3 = .ok (.invokevirtual 364, 3) := by decide +kernel
theorem dX12_bringsOf_6 : decode cX12_bringsOf 6 = .ok (.ifCond .eq 17, 3) := by decide +kernel
theorem dX12_bringsOf_9 : decode cX12_bringsOf 9 = .ok (.aload_n 0, 1) := by decide +kernel
theorem dX12_bringsOf_10 : decode cX12_bringsOf 10 = .ok (.getfield 361, 3) := by decide +kernel
theorem dX12_bringsOf_13 : decode cX12_bringsOf 13 = .ok (.aload_n 0, 1) := by decide +kernel
theorem dX12_bringsOf_14 : decode cX12_bringsOf 14 = .ok (.iload_n 1, 1) := by decide +kernel
theorem dX12_bringsOf_15 : decode cX12_bringsOf 15 = .ok (.iconst 2, 1) := by decide +kernel
theorem dX12_bringsOf_16 : decode cX12_bringsOf 16 = .ok (.invokevirtual 271, 3) := by decide +kernel
theorem dX12_bringsOf_19 : decode cX12_bringsOf 19 = .ok (.iadd, 1) := by decide +kernel
theorem dX12_bringsOf_20 : decode cX12_bringsOf 20 = .ok (.goto 5, 3) := by decide +kernel
theorem dX12_bringsOf_23 : decode cX12_bringsOf 23 = .ok (.bipush (-2), 2) := by decide +kernel
theorem dX12_bringsOf_25 : decode cX12_bringsOf 25 = .ok (.ireturn, 1) := by decide +kernel
theorem dX12_brings_0 : decode cX12_brings 0 = .ok (.aload_n 0, 1) := by decide +kernel
theorem dX12_brings_1 : decode cX12_brings 1 = .ok (.invokevirtual 167, 3) := by decide +kernel
theorem dX12_brings_4 : decode cX12_brings 4 = .ok (.aload_n 0, 1) := by decide +kernel
theorem dX12_brings_5 : decode cX12_brings 5 = .ok (.iload_n 1, 1) := by decide +kernel
theorem dX12_brings_6 : decode cX12_brings 6 = .ok (.invokevirtual 268, 3) := by decide +kernel
theorem dX12_brings_9 : decode cX12_brings 9 = .ok (.ifCond .eq 20, 3) := by decide +kernel
theorem dX12_brings_12 : decode cX12_brings 12 = .ok (.aload_n 0, 1) := by decide +kernel
theorem dX12_brings_13 : decode cX12_brings 13 = .ok (.iload_n 2, 1) := by decide +kernel
theorem dX12_brings_14 : decode cX12_brings 14 = .ok (.invokevirtual 274, 3) := by decide +kernel
theorem dX12_brings_17 : decode cX12_brings 17 = .ok (.ifCond .eq 12, 3) := by decide +kernel
theorem dX12_brings_20 : decode cX12_brings 20 = .ok (.aload_n 0, 1) := by decide +kernel
theorem dX12_brings_21 : decode cX12_brings 21 = .ok (.iload_n 1, 1) := by decide +kernel
theorem dX12_brings_22 : decode cX12_brings 22 = .ok (.iload_n 2, 1) := by decide +kernel
theorem dX12_brings_23 : decode cX12_brings 23 = .ok (.invokevirtual 367, 3) := by decide +kernel
theorem dX12_brings_26 : decode cX12_brings 26 = .ok (.goto 8, 3) := by decide +kernel
theorem dX12_brings_29 : decode cX12_brings 29 = .ok (.aload_n 0, 1) := by decide +kernel
theorem dX12_brings_30 : decode cX12_brings 30 = .ok (.iconst 1, 1) := by decide +kernel
theorem dX12_brings_31 : decode cX12_brings 31 = .ok (.invokevirtual 170, 3) := by decide +kernel
theorem dX12_brings_34 : decode cX12_brings 34 = .ok (.ireturn, 1) := by decide +kernel
theorem dX12_soonest_0 : decode cX12_soonest 0 = .ok (.aload_n 0, 1) := by decide +kernel
theorem dX12_soonest_1 : decode cX12_soonest 1 = .ok (.invokevirtual 167, 3) := by decide +kernel
theorem dX12_soonest_4 : decode cX12_soonest 4 = .ok (.aload_n 0, 1) := by decide +kernel
theorem dX12_soonest_5 : decode cX12_soonest 5 = .ok (.iload_n 1, 1) := by decide +kernel
theorem dX12_soonest_6 : decode cX12_soonest 6 = .ok (.invokevirtual 274, 3) := by decide +kernel
theorem dX12_soonest_9 : decode cX12_soonest 9 = .ok (.ifCond .ne 9, 3) := by decide +kernel
theorem dX12_soonest_12 : decode cX12_soonest 12 = .ok (.aload_n 0, 1) := by decide +kernel
theorem dX12_soonest_13 : decode cX12_soonest 13 = .ok (.iconst 1, 1) := by decide +kernel
theorem dX12_soonest_14 : decode cX12_soonest 14 = .ok (.invokevirtual 170, 3) := by decide +kernel
theorem dX12_soonest_17 : decode cX12_soonest 17 = .ok (.ireturn, 1) := by decide +kernel
theorem dX12_soonest_18 : decode cX12_soonest 18 = .ok (.bipush (-2), 2) := by decide +kernel
theorem dX12_soonest_20 : decode cX12_soonest 20 = .ok (.istore_n 2, 1) := by decide +kernel
theorem dX12_soonest_21 : decode cX12_soonest 21 = .ok (.iconst 0, 1) := by decide +kernel
theorem dX12_soonest_22 : decode cX12_soonest 22 = .ok (.istore_n 3, 1) := by decide +kernel
theorem dX12_soonest_23 : decode cX12_soonest 23 = .ok (.iload_n 3, 1) := by decide +kernel
theorem dX12_soonest_24 : decode cX12_soonest 24 = .ok (.aload_n 0, 1) := by decide +kernel
theorem dX12_soonest_25 : decode cX12_soonest 25 = .ok (.getfield 20, 3) := by decide +kernel
theorem dX12_soonest_28 : decode cX12_soonest 28 = .ok (.bipush 6, 2) := by decide +kernel
theorem dX12_soonest_30 : decode cX12_soonest 30 = .ok (.iaload, 1) := by decide +kernel
theorem dX12_soonest_31 : decode cX12_soonest 31 = .ok (.if_icmp .ge 39, 3) := by decide +kernel
theorem dX12_soonest_34 : decode cX12_soonest 34 = .ok (.aload_n 0, 1) := by decide +kernel
theorem dX12_soonest_35 : decode cX12_soonest 35 = .ok (.iload_n 3, 1) := by decide +kernel
theorem dX12_soonest_36 : decode cX12_soonest 36 = .ok (.iload_n 1, 1) := by decide +kernel
theorem dX12_soonest_37 : decode cX12_soonest 37 = .ok (.invokevirtual 367, 3) := by decide +kernel
theorem dX12_soonest_40 : decode cX12_soonest 40 = .ok (.ifCond .lt 24, 3) := by decide +kernel
theorem dX12_soonest_43 : decode cX12_soonest 43 = .ok (.iload_n 2, 1) := by decide +kernel
theorem dX12_soonest_44 : decode cX12_soonest 44 = .ok (.ifCond .lt 18, 3) := by decide +kernel
theorem dX12_soonest_47 : decode cX12_soonest 47 = .ok (.aload_n 0, 1) := by decide +kernel
theorem dX12_soonest_48 : decode cX12_soonest 48 = .ok (.iload_n 3, 1) := by decide +kernel
theorem dX12_soonest_49 : decode cX12_soonest 49 = .ok (.iload_n 1, 1) := by decide +kernel
theorem dX12_soonest_50 : decode cX12_soonest 50 = .ok (.invokevirtual 367, 3) := by decide +kernel
theorem dX12_soonest_53 : decode cX12_soonest 53 = .ok (.aload_n 0, 1) := by decide +kernel
theorem dX12_soonest_54 : decode cX12_soonest 54 = .ok (.iload_n 2, 1) := by decide +kernel
theorem dX12_soonest_55 : decode cX12_soonest 55 = .ok (.iload_n 1, 1) := by decide +kernel
theorem dX12_soonest_56 : decode cX12_soonest 56 = .ok (.invokevirtual 367, 3) := by decide +kernel
theorem dX12_soonest_59 : decode cX12_soonest 59 = .ok (.if_icmp .ge 5, 3) := by decide +kernel
theorem dX12_soonest_62 : decode cX12_soonest 62 = .ok (.iload_n 3, 1) := by decide +kernel
theorem dX12_soonest_63 : decode cX12_soonest 63 = .ok (.istore_n 2, 1) := by decide +kernel
theorem dX12_soonest_64 : decode cX12_soonest 64 = .ok (.iinc 3 1, 3) := by decide +kernel
theorem dX12_soonest_67 : decode cX12_soonest 67 = .ok (.goto (-44), 3) := by decide +kernel
theorem dX12_soonest_70 : decode cX12_soonest 70 = .ok (.iload_n 2, 1) := by decide +kernel
theorem dX12_soonest_71 : decode cX12_soonest 71 = .ok (.ireturn, 1) := by decide +kernel
theorem dX12_surestBut_0 : decode cX12_surestBut 0 = .ok (.bipush (-2), 2) := by decide +kernel
theorem dX12_surestBut_2 : decode cX12_surestBut 2 = .ok (.istore_n 3, 1) := by decide +kernel
theorem dX12_surestBut_3 : decode cX12_surestBut 3 = .ok (.iconst 0, 1) := by decide +kernel
theorem dX12_surestBut_4 : decode cX12_surestBut 4 = .ok (.istore 4, 2) := by decide +kernel
theorem dX12_surestBut_6 : decode cX12_surestBut 6 = .ok (.iload 4, 2) := by decide +kernel
theorem dX12_surestBut_8 : decode cX12_surestBut 8 = .ok (.aload_n 0, 1) := by decide +kernel
theorem dX12_surestBut_9 : decode cX12_surestBut 9 = .ok (.getfield 20, 3) := by decide +kernel
theorem dX12_surestBut_12 : decode cX12_surestBut 12 = .ok (.bipush 6, 2) := by decide +kernel
theorem dX12_surestBut_14 : decode cX12_surestBut 14 = .ok (.iaload, 1) := by decide +kernel
theorem dX12_surestBut_15 : decode cX12_surestBut 15 = .ok (.if_icmp .ge 48, 3) := by decide +kernel
theorem dX12_surestBut_18 : decode cX12_surestBut 18 = .ok (.iload 4, 2) := by decide +kernel
theorem dX12_surestBut_20 : decode cX12_surestBut 20 = .ok (.iload_n 2, 1) := by decide +kernel
theorem dX12_surestBut_21 : decode cX12_surestBut 21 = .ok (.if_icmp .eq 36, 3) := by decide +kernel
theorem dX12_surestBut_24 : decode cX12_surestBut 24 = .ok (.aload_n 0, 1) := by decide +kernel
theorem dX12_surestBut_25 : decode cX12_surestBut 25 = .ok (.iload 4, 2) := by decide +kernel
theorem dX12_surestBut_27 : decode cX12_surestBut 27 = .ok (.iload_n 1, 1) := by decide +kernel
theorem dX12_surestBut_28 : decode cX12_surestBut 28 = .ok (.invokevirtual 367, 3) := by decide +kernel
theorem dX12_surestBut_31 : decode cX12_surestBut 31 = .ok (.ifCond .lt 26, 3) := by decide +kernel
theorem dX12_surestBut_34 : decode cX12_surestBut 34 = .ok (.iload_n 3, 1) := by decide +kernel
theorem dX12_surestBut_35 : decode cX12_surestBut 35 = .ok (.ifCond .lt 19, 3) := by decide +kernel
theorem dX12_surestBut_38 : decode cX12_surestBut 38 = .ok (.aload_n 0, 1) := by decide +kernel
theorem dX12_surestBut_39 : decode cX12_surestBut 39 = .ok (.iload 4, 2) := by decide +kernel
theorem dX12_surestBut_41 : decode cX12_surestBut 41 = .ok (.iconst 3, 1) := by decide +kernel
theorem dX12_surestBut_42 : decode cX12_surestBut 42 = .ok (.invokevirtual 271, 3) := by decide +kernel
theorem dX12_surestBut_45 : decode cX12_surestBut 45 = .ok (.aload_n 0, 1) := by decide +kernel
theorem dX12_surestBut_46 : decode cX12_surestBut 46 = .ok (.iload_n 3, 1) := by decide +kernel
theorem dX12_surestBut_47 : decode cX12_surestBut 47 = .ok (.iconst 3, 1) := by decide +kernel
theorem dX12_surestBut_48 : decode cX12_surestBut 48 = .ok (.invokevirtual 271, 3) := by decide +kernel
theorem dX12_surestBut_51 : decode cX12_surestBut 51 = .ok (.if_icmp .ge 6, 3) := by decide +kernel
theorem dX12_surestBut_54 : decode cX12_surestBut 54 = .ok (.iload 4, 2) := by decide +kernel
theorem dX12_surestBut_56 : decode cX12_surestBut 56 = .ok (.istore_n 3, 1) := by decide +kernel
theorem dX12_surestBut_57 : decode cX12_surestBut 57 = .ok (.iinc 4 1, 3) := by decide +kernel
theorem dX12_surestBut_60 : decode cX12_surestBut 60 = .ok (.goto (-54), 3) := by decide +kernel
theorem dX12_surestBut_63 : decode cX12_surestBut 63 = .ok (.iload_n 3, 1) := by decide +kernel
theorem dX12_surestBut_64 : decode cX12_surestBut 64 = .ok (.ireturn, 1) := by decide +kernel
theorem dX12_surest_0 : decode cX12_surest 0 = .ok (.aload_n 0, 1) := by decide +kernel
theorem dX12_surest_1 : decode cX12_surest 1 = .ok (.invokevirtual 167, 3) := by decide +kernel
theorem dX12_surest_4 : decode cX12_surest 4 = .ok (.aload_n 0, 1) := by decide +kernel
theorem dX12_surest_5 : decode cX12_surest 5 = .ok (.iload_n 1, 1) := by decide +kernel
theorem dX12_surest_6 : decode cX12_surest 6 = .ok (.invokevirtual 274, 3) := by decide +kernel
theorem dX12_surest_9 : decode cX12_surest 9 = .ok (.ifCond .eq 12, 3) := by decide +kernel
theorem dX12_surest_12 : decode cX12_surest 12 = .ok (.aload_n 0, 1) := by decide +kernel
theorem dX12_surest_13 : decode cX12_surest 13 = .ok (.iload_n 1, 1) := by decide +kernel
theorem dX12_surest_14 : decode cX12_surest 14 = .ok (.iconst (-1), 1) := by decide +kernel
theorem dX12_surest_15 : decode cX12_surest 15 = .ok (.invokevirtual 370, 3) := by decide +kernel
theorem dX12_surest_18 : decode cX12_surest 18 = .ok (.goto 8, 3) := by decide +kernel
theorem dX12_surest_21 : decode cX12_surest 21 = .ok (.aload_n 0, 1) := by decide +kernel
theorem dX12_surest_22 : decode cX12_surest 22 = .ok (.iconst 1, 1) := by decide +kernel
theorem dX12_surest_23 : decode cX12_surest 23 = .ok (.invokevirtual 170, 3) := by decide +kernel
theorem dX12_surest_26 : decode cX12_surest 26 = .ok (.ireturn, 1) := by decide +kernel
theorem dX12_by_0 : decode cX12_by 0 = .ok (.aload_n 0, 1) := by decide +kernel
theorem dX12_by_1 : decode cX12_by 1 = .ok (.invokevirtual 167, 3) := by decide +kernel
theorem dX12_by_4 : decode cX12_by 4 = .ok (.aload_n 0, 1) := by decide +kernel
theorem dX12_by_5 : decode cX12_by 5 = .ok (.iload_n 1, 1) := by decide +kernel
theorem dX12_by_6 : decode cX12_by 6 = .ok (.invokevirtual 274, 3) := by decide +kernel
theorem dX12_by_9 : decode cX12_by 9 = .ok (.ifCond .ne 9, 3) := by decide +kernel
theorem dX12_by_12 : decode cX12_by 12 = .ok (.aload_n 0, 1) := by decide +kernel
theorem dX12_by_13 : decode cX12_by 13 = .ok (.iconst 1, 1) := by decide +kernel
theorem dX12_by_14 : decode cX12_by 14 = .ok (.invokevirtual 170, 3) := by decide +kernel
theorem dX12_by_17 : decode cX12_by 17 = .ok (.ireturn, 1) := by decide +kernel
theorem dX12_by_18 : decode cX12_by 18 = .ok (.iload_n 2, 1) := by decide +kernel
theorem dX12_by_19 : decode cX12_by 19 = .ok (.iconst 0, 1) := by decide +kernel
theorem dX12_by_20 : decode cX12_by 20 = .ok (.ldc_w 340, 3) := by decide +kernel
theorem dX12_by_23 : decode cX12_by 23 = .ok (.invokestatic 149, 3) := by decide +kernel
theorem dX12_by_26 : decode cX12_by 26 = .ok (.ifCond .ne 9, 3) := by decide +kernel
theorem dX12_by_29 : decode cX12_by 29 = .ok (.aload_n 0, 1) := by decide +kernel
theorem dX12_by_30 : decode cX12_by 30 = .ok (.iconst 2, 1) := by decide +kernel
theorem dX12_by_31 : decode cX12_by 31 = .ok (.invokevirtual 170, 3) := by decide +kernel
theorem dX12_by_34 : decode cX12_by 34 = .ok (.ireturn, 1) := by decide +kernel
theorem dX12_by_35 : decode cX12_by 35 = .ok (.iconst 0, 1) := by decide +kernel
theorem dX12_by_36 : decode cX12_by 36 = .ok (.istore_n 3, 1) := by decide +kernel
theorem dX12_by_37 : decode cX12_by 37 = .ok (.iconst 0, 1) := by decide +kernel
theorem dX12_by_38 : decode cX12_by 38 = .ok (.istore 4, 2) := by decide +kernel
theorem dX12_by_40 : decode cX12_by 40 = .ok (.iload 4, 2) := by decide +kernel
theorem dX12_by_42 : decode cX12_by 42 = .ok (.aload_n 0, 1) := by decide +kernel
theorem dX12_by_43 : decode cX12_by 43 = .ok (.getfield 20, 3) := by decide +kernel
theorem dX12_by_46 : decode cX12_by 46 = .ok (.bipush 6, 2) := by decide +kernel
theorem dX12_by_48 : decode cX12_by 48 = .ok (.iaload, 1) := by decide +kernel
theorem dX12_by_49 : decode cX12_by 49 = .ok (.if_icmp .ge 35, 3) := by decide +kernel
theorem dX12_by_52 : decode cX12_by 52 = .ok (.iload_n 3, 1) := by decide +kernel
theorem dX12_by_53 : decode cX12_by 53 = .ok (.aload_n 0, 1) := by decide +kernel
theorem dX12_by_54 : decode cX12_by 54 = .ok (.iload 4, 2) := by decide +kernel
theorem dX12_by_56 : decode cX12_by 56 = .ok (.iload_n 1, 1) := by decide +kernel
theorem dX12_by_57 : decode cX12_by 57 = .ok (.invokevirtual 367, 3) := by decide +kernel
theorem dX12_by_60 : decode cX12_by 60 = .ok (.iconst 0, 1) := by decide +kernel
theorem dX12_by_61 : decode cX12_by 61 = .ok (.iload_n 2, 1) := by decide +kernel
theorem dX12_by_62 : decode cX12_by 62 = .ok (.invokestatic 149, 3) := by decide +kernel
theorem dX12_by_65 : decode cX12_by 65 = .ok (.ifCond .eq 10, 3) := by decide +kernel
theorem dX12_by_68 : decode cX12_by 68 = .ok (.iconst 1, 1) := by decide +kernel
theorem dX12_by_69 : decode cX12_by 69 = .ok (.iload 4, 2) := by decide +kernel
theorem dX12_by_71 : decode cX12_by 71 = .ok (.ishl, 1) := by decide +kernel
theorem dX12_by_72 : decode cX12_by 72 = .ok (.goto 4, 3) := by decide +kernel
theorem dX12_by_75 : decode cX12_by 75 = .ok (.iconst 0, 1) := by decide +kernel
theorem dX12_by_76 : decode cX12_by 76 = .ok (.ior, 1) := by decide +kernel
theorem dX12_by_77 : decode cX12_by 77 = .ok (.istore_n 3, 1) := by decide +kernel
theorem dX12_by_78 : decode cX12_by 78 = .ok (.iinc 4 1, 3) := by decide +kernel
theorem dX12_by_81 : decode cX12_by 81 = .ok (.goto (-41), 3) := by decide +kernel
theorem dX12_by_84 : decode cX12_by 84 = .ok (.iload_n 3, 1) := by decide +kernel
theorem dX12_by_85 : decode cX12_by 85 = .ok (.ireturn, 1) := by decide +kernel
theorem dX12_lowest_0 : decode cX12_lowest 0 = .ok (.lload_n 2, 1) := by decide +kernel
theorem dX12_lowest_1 : decode cX12_lowest 1 = .ok (.lstore 5, 2) := by decide +kernel
theorem dX12_lowest_3 : decode cX12_lowest 3 = .ok (.lload_n 0, 1) := by decide +kernel
theorem dX12_lowest_4 : decode cX12_lowest 4 = .ok (.lstore 7, 2) := by decide +kernel
theorem dX12_lowest_6 : decode cX12_lowest 6 = .ok (.lload 7, 2) := by decide +kernel
theorem dX12_lowest_8 : decode cX12_lowest 8 = .ok (.lconst 0, 1) := by decide +kernel
theorem dX12_lowest_9 : decode cX12_lowest 9 = .ok (.lcmp, 1) := by decide +kernel
theorem dX12_lowest_10 : decode cX12_lowest 10 = .ok (.ifCond .eq 21, 3) := by decide +kernel
theorem dX12_lowest_13 : decode cX12_lowest 13 = .ok (.lload 5, 2) := by decide +kernel
theorem dX12_lowest_15 : decode cX12_lowest 15 = .ok (.lload 7, 2) := by decide +kernel
theorem dX12_lowest_17 : decode cX12_lowest 17 = .ok (.lrem, 1) := by decide +kernel
theorem dX12_lowest_18 : decode cX12_lowest 18 = .ok (.lstore 9, 2) := by decide +kernel
theorem dX12_lowest_20 : decode cX12_lowest 20 = .ok (.lload 7, 2) := by decide +kernel
theorem dX12_lowest_22 : decode cX12_lowest 22 = .ok (.lstore 5, 2) := by decide +kernel
theorem dX12_lowest_24 : decode cX12_lowest 24 = .ok (.lload 9, 2) := by decide +kernel
theorem dX12_lowest_26 : decode cX12_lowest 26 = .ok (.lstore 7, 2) := by decide +kernel
theorem dX12_lowest_28 : decode cX12_lowest 28 = .ok (.goto (-22), 3) := by decide +kernel
theorem dX12_lowest_31 : decode cX12_lowest 31 = .ok (.iload 4, 2) := by decide +kernel
theorem dX12_lowest_33 : decode cX12_lowest 33 = .ok (.ifCond .eq 7, 3) := by decide +kernel
theorem dX12_lowest_36 : decode cX12_lowest 36 = .ok (.lload_n 2, 1) := by decide +kernel
theorem dX12_lowest_37 : decode cX12_lowest 37 = .ok (.goto 4, 3) := by decide +kernel
theorem dX12_lowest_40 : decode cX12_lowest 40 = .ok (.lload_n 0, 1) := by decide +kernel
theorem dX12_lowest_41 : decode cX12_lowest 41 = .ok (.lload 5, 2) := by decide +kernel
theorem dX12_lowest_43 : decode cX12_lowest 43 = .ok (.ldiv, 1) := by decide +kernel
theorem dX12_lowest_44 : decode cX12_lowest 44 = .ok (.lreturn, 1) := by decide +kernel
theorem dX12_registered_0 : decode cX12_registered 0 = .ok (.aload_n 0, 1) := by decide +kernel
theorem dX12_registered_1 : decode cX12_registered 1 = .ok (.invokevirtual 167, 3) := by decide +kernel
theorem dX12_registered_4 : decode cX12_registered 4 = .ok (.aload_n 0, 1) := by decide +kernel
theorem dX12_registered_5 : decode cX12_registered 5 = .ok (.iload_n 1, 1) := by decide +kernel
theorem dX12_registered_6 : decode cX12_registered 6 = .ok (.invokevirtual 274, 3) := by decide +kernel
theorem dX12_registered_9 : decode cX12_registered 9 = .ok (.ifCond .ne 10, 3) := by decide +kernel
theorem dX12_registered_12 : decode cX12_registered 12 = .ok (.aload_n 0, 1) := by decide +kernel
theorem dX12_registered_13 : decode cX12_registered 13 = .ok (.iconst 1, 1) := by decide +kernel
theorem dX12_registered_14 : decode cX12_registered 14 = .ok (.invokevirtual 170, 3) := by decide +kernel
theorem dX12_registered_17 : decode cX12_registered 17 = .ok (.i2l, 1) := by decide +kernel
theorem dX12_registered_18 : decode cX12_registered 18 = .ok (.lreturn, 1) := by decide +kernel
theorem dX12_registered_19 : decode cX12_registered 19 = .ok (.aload_n 0, 1) := by decide +kernel
theorem dX12_registered_20 : decode cX12_registered 20 = .ok (.iload_n 1, 1) := by decide +kernel
theorem dX12_registered_21 : decode cX12_registered 21 = .ok (.iconst (-1), 1) := by decide +kernel
theorem dX12_registered_22 : decode cX12_registered 22 = .ok (.invokevirtual 370, 3) := by decide +kernel
theorem dX12_registered_25 : decode cX12_registered 25 = .ok (.istore_n 3, 1) := by decide +kernel
theorem dX12_registered_26 : decode cX12_registered 26 = .ok (.iload_n 3, 1) := by decide +kernel
theorem dX12_registered_27 : decode cX12_registered 27 = .ok (.ifCond .ge 11, 3) := by decide +kernel
theorem dX12_registered_30 : decode cX12_registered 30 = .ok (.aload_n 0, 1) := by decide +kernel
theorem dX12_registered_31 : decode cX12_registered 31 = .ok (.bipush 6, 2) := by decide +kernel
theorem dX12_registered_33 : decode cX12_registered 33 = .ok (.invokevirtual 170, 3) := by decide +kernel
theorem dX12_registered_36 : decode cX12_registered 36 = .ok (.i2l, 1) := by decide +kernel
theorem dX12_registered_37 : decode cX12_registered 37 = .ok (.lreturn, 1) := by decide +kernel
theorem dX12_registered_38 : decode cX12_registered 38 = .ok (.aload_n 0, 1) := by decide +kernel
theorem dX12_registered_39 : decode cX12_registered 39 = .ok (.iload_n 1, 1) := by decide +kernel
theorem dX12_registered_40 : decode cX12_registered 40 = .ok (.iload_n 3, 1) := by decide +kernel
theorem dX12_registered_41 : decode cX12_registered 41 = .ok (.invokevirtual 370, 3) := by decide +kernel
theorem dX12_registered_44 : decode cX12_registered 44 = .ok (.istore 4, 2) := by decide +kernel
theorem dX12_registered_46 : decode cX12_registered 46 = .ok (.aload_n 0, 1) := by decide +kernel
theorem dX12_registered_47 : decode cX12_registered 47 = .ok (.iload_n 3, 1) := by decide +kernel
theorem dX12_registered_48 : decode cX12_registered 48 = .ok (.iconst 3, 1) := by decide +kernel
theorem dX12_registered_49 : decode cX12_registered 49 = .ok (.invokevirtual 271, 3) := by decide +kernel
theorem dX12_registered_52 : decode cX12_registered 52 = .ok (.iload 4, 2) := by decide +kernel
theorem dX12_registered_54 : decode cX12_registered 54 = .ok (.ifCond .ge 8, 3) := by decide +kernel
theorem dX12_registered_57 : decode cX12_registered 57 = .ok (.bipush 100, 2) := by decide +kernel
theorem dX12_registered_59 : decode cX12_registered 59 = .ok (.goto 10, 3) := by decide +kernel
theorem dX12_registered_62 : decode cX12_registered 62 = .ok (.aload_n 0, 1) := by decide +kernel
theorem dX12_registered_63 : decode cX12_registered 63 = .ok (.iload 4, 2) := by decide +kernel
theorem dX12_registered_65 : decode cX12_registered 65 = .ok (.iconst 3, 1) := by decide +kernel
theorem dX12_registered_66 : decode cX12_registered 66 = .ok (.invokevirtual 271, 3) := by decide +kernel
theorem dX12_registered_69 : decode cX12_registered 69 = .ok (.imul, 1) := by decide +kernel
theorem dX12_registered_70 : decode cX12_registered 70 = .ok (.istore 5, 2) := by decide +kernel
theorem dX12_registered_72 : decode cX12_registered 72 = .ok (.sipush 10000, 3) := by decide +kernel
theorem dX12_registered_75 : decode cX12_registered 75 = .ok (.iload 5, 2) := by decide +kernel
theorem dX12_registered_77 : decode cX12_registered 77 = .ok (.isub, 1) := by decide +kernel
theorem dX12_registered_78 : decode cX12_registered 78 = .ok (.i2l, 1) := by decide +kernel
theorem dX12_registered_79 : decode cX12_registered 79 = .ok (.ldc2_w 373, 3) := by decide +kernel
theorem dX12_registered_82 : decode cX12_registered 82 = .ok (.iload_n 2, 1) := by decide +kernel
theorem dX12_registered_83 : decode cX12_registered 83 = .ok (.invokestatic 375, 3) := by decide +kernel
theorem dX12_registered_86 : decode cX12_registered 86 = .ok (.lreturn, 1) := by decide +kernel
theorem dX12_tryMatch_0 : decode cX12_tryMatch 0 = .ok (.iload_n 1, 1) := by decide +kernel
theorem dX12_tryMatch_1 : decode cX12_tryMatch 1 = .ok (.aload_n 0, 1) := by decide +kernel
theorem dX12_tryMatch_2 : decode cX12_tryMatch 2 = .ok (.getfield 20, 3) := by decide +kernel
theorem dX12_tryMatch_5 : decode cX12_tryMatch 5 = .ok (.bipush 7, 2) := by decide +kernel
theorem dX12_tryMatch_7 : decode cX12_tryMatch 7 = .ok (.iaload, 1) := by decide +kernel
theorem dX12_tryMatch_8 : decode cX12_tryMatch 8 = .ok (.if_icmp .ne 55, 3) := by decide +kernel
theorem dX12_tryMatch_11 : decode cX12_tryMatch 11 = .ok (.iload_n 3, 1) := by decide +kernel
theorem dX12_tryMatch_12 : decode cX12_tryMatch 12 = .ok (.aload_n 0, 1) := by decide +kernel
theorem dX12_tryMatch_13 : decode cX12_tryMatch 13 = .ok (.getfield 379, 3) := by decide +kernel
theorem dX12_tryMatch_16 : decode cX12_tryMatch 16 = .ok (.if_icmp .lt 20, 3) := by decide +kernel
theorem dX12_tryMatch_19 : decode cX12_tryMatch 19 = .ok (.iload_n 3, 1) := by decide +kernel
theorem dX12_tryMatch_20 : decode cX12_tryMatch 20 = .ok (.aload_n 0, 1) := by decide +kernel
theorem dX12_tryMatch_21 : decode cX12_tryMatch 21 = .ok (.getfield 379, 3) := by decide +kernel
theorem dX12_tryMatch_24 : decode cX12_tryMatch 24 = .ok (.if_icmp .ne 13, 3) := by decide +kernel
theorem dX12_tryMatch_27 : decode cX12_tryMatch 27 = .ok (.iload 4, 2) := by decide +kernel
theorem dX12_tryMatch_29 : decode cX12_tryMatch 29 = .ok (.aload_n 0, 1) := by decide +kernel
theorem dX12_tryMatch_30 : decode cX12_tryMatch 30 = .ok (.getfield 382, 3) := by decide +kernel
theorem dX12_tryMatch_33 : decode cX12_tryMatch 33 = .ok (.if_icmp .lt 4, 3) := by decide +kernel
theorem dX12_tryMatch_36 : decode cX12_tryMatch 36 = .ok (.return_, 1) := by decide +kernel
theorem dX12_tryMatch_37 : decode cX12_tryMatch 37 = .ok (.aload_n 0, 1) := by decide +kernel
theorem dX12_tryMatch_38 : decode cX12_tryMatch 38 = .ok (.iload_n 3, 1) := by decide +kernel
theorem dX12_tryMatch_39 : decode cX12_tryMatch 39 = .ok (.putfield 379, 3) := by decide +kernel
theorem dX12_tryMatch_42 : decode cX12_tryMatch 42 = .ok (.aload_n 0, 1) := by decide +kernel
theorem dX12_tryMatch_43 : decode cX12_tryMatch 43 = .ok (.iload 4, 2) := by decide +kernel
theorem dX12_tryMatch_45 : decode cX12_tryMatch 45 = .ok (.putfield 382, 3) := by decide +kernel
theorem dX12_tryMatch_48 : decode cX12_tryMatch 48 = .ok (.aload_n 0, 1) := by decide +kernel
theorem dX12_tryMatch_49 : decode cX12_tryMatch 49 = .ok (.getfield 44, 3) := by decide +kernel
theorem dX12_tryMatch_52 : decode cX12_tryMatch 52 = .ok (.iconst 0, 1) := by decide +kernel
theorem dX12_tryMatch_53 : decode cX12_tryMatch 53 = .ok (.aload_n 0, 1) := by decide +kernel
theorem dX12_tryMatch_54 : decode cX12_tryMatch 54 = .ok (.getfield 47, 3) := by decide +kernel
theorem dX12_tryMatch_57 : decode cX12_tryMatch 57 = .ok (.iconst 0, 1) := by decide +kernel
theorem dX12_tryMatch_58 : decode cX12_tryMatch 58 = .ok (.iload_n 1, 1) := by decide +kernel
theorem dX12_tryMatch_59 : decode cX12_tryMatch 59 = .ok (.invokestatic 176, 3) := by decide +kernel
theorem dX12_tryMatch_62 : decode cX12_tryMatch 62 = .ok (.return_, 1) := by decide +kernel
theorem dX12_tryMatch_63 : decode cX12_tryMatch 63 = .ok (.iconst 0, 1) := by decide +kernel
theorem dX12_tryMatch_64 : decode cX12_tryMatch 64 = .ok (.istore 5, 2) := by decide +kernel
theorem dX12_tryMatch_66 : decode cX12_tryMatch 66 = .ok (.iload 5, 2) := by decide +kernel
theorem dX12_tryMatch_68 : decode cX12_tryMatch 68 = .ok (.aload_n 0, 1) := by decide +kernel
theorem dX12_tryMatch_69 : decode cX12_tryMatch 69 = .ok (.getfield 20, 3) := by decide +kernel
theorem dX12_tryMatch_72 : decode cX12_tryMatch 72 = .ok (.bipush 6, 2) := by decide +kernel
theorem dX12_tryMatch_74 : decode cX12_tryMatch 74 = .ok (.iaload, 1) := by decide +kernel
theorem dX12_tryMatch_75 : decode cX12_tryMatch 75 = .ok (.if_icmp .ge 73, 3) := by decide +kernel
theorem dX12_tryMatch_78 : decode cX12_tryMatch 78 = .ok (.iload_n 2, 1) := by decide +kernel
theorem dX12_tryMatch_79 : decode cX12_tryMatch 79 = .ok (.iload 5, 2) := by decide +kernel
theorem dX12_tryMatch_81 : decode cX12_tryMatch 81 = .ok (.invokestatic 298, 3) := by decide +kernel
theorem dX12_tryMatch_84 : decode cX12_tryMatch 84 = .ok (.ifCond .ne 58, 3) := by decide +kernel
theorem dX12_tryMatch_87 : decode cX12_tryMatch 87 = .ok (.aload_n 0, 1) := by decide +kernel
theorem dX12_tryMatch_88 : decode cX12_tryMatch 88 = .ok (.getfield 50, 3) := by decide +kernel
theorem dX12_tryMatch_91 : decode cX12_tryMatch 91 = .ok (.iconst 5, 1) := by decide +kernel
theorem dX12_tryMatch_92 : decode cX12_tryMatch 92 = .ok (.iload_n 1, 1) := by decide +kernel
theorem dX12_tryMatch_93 : decode cX12_tryMatch 93 = .ok (.imul, 1) := by decide +kernel
theorem dX12_tryMatch_94 : decode cX12_tryMatch 94 = .ok (.iload 5, 2) := by decide +kernel
theorem dX12_tryMatch_96 : decode cX12_tryMatch 96 = .ok (.iadd, 1) := by decide +kernel
theorem dX12_tryMatch_97 : decode cX12_tryMatch 97 = .ok (.iaload, 1) := by decide +kernel
theorem dX12_tryMatch_98 : decode cX12_tryMatch 98 = .ok (.ifCond .ge 6, 3) := by decide +kernel
theorem dX12_tryMatch_101 : decode cX12_tryMatch 101 = .ok (.goto 41, 3) := by decide +kernel
theorem dX12_tryMatch_104 : decode cX12_tryMatch 104 = .ok (.aload_n 0, 1) := by decide +kernel
theorem dX12_tryMatch_105 : decode cX12_tryMatch 105 = .ok (.getfield 44, 3) := by decide +kernel
theorem dX12_tryMatch_108 : decode cX12_tryMatch 108 = .ok (.iload_n 1, 1) := by decide +kernel
theorem dX12_tryMatch_109 : decode cX12_tryMatch 109 = .ok (.iload 5, 2) := by decide +kernel
theorem dX12_tryMatch_111 : decode cX12_tryMatch 111 = .ok (.iastore, 1) := by decide +kernel
theorem dX12_tryMatch_112 : decode cX12_tryMatch 112 = .ok (.aload_n 0, 1) := by decide +kernel
theorem dX12_tryMatch_113 : decode cX12_tryMatch 113 = .ok (.iload_n 1, 1) := by decide +kernel
theorem dX12_tryMatch_114 : decode cX12_tryMatch 114 = .ok (.iconst 1, 1) := by decide +kernel
theorem dX12_tryMatch_115 : decode cX12_tryMatch 115 = .ok (.iadd, 1) := by decide +kernel
theorem dX12_tryMatch_116 : decode cX12_tryMatch 116 = .ok (.iload_n 2, 1) := by decide +kernel
theorem dX12_tryMatch_117 : decode cX12_tryMatch 117 = .ok (.iconst 1, 1) := by decide +kernel
theorem dX12_tryMatch_118 : decode cX12_tryMatch 118 = .ok (.iload 5, 2) := by decide +kernel
theorem dX12_tryMatch_120 : decode cX12_tryMatch 120 = .ok (.ishl, 1) := by decide +kernel
theorem dX12_tryMatch_121 : decode cX12_tryMatch 121 = .ok (.ior, 1) := by decide +kernel
theorem dX12_tryMatch_122 : decode cX12_tryMatch 122 = .ok (.iload_n 3, 1) := by decide +kernel
theorem dX12_tryMatch_123 : decode cX12_tryMatch 123 = .ok (.iconst 1, 1) := by decide +kernel
theorem dX12_tryMatch_124 : decode cX12_tryMatch 124 = .ok (.iadd, 1) := by decide +kernel
theorem dX12_tryMatch_125 : decode cX12_tryMatch 125 = .ok (.iload 4, 2) := by decide +kernel
theorem dX12_tryMatch_127 : decode cX12_tryMatch 127 = .ok (.aload_n 0, 1) := by decide +kernel
theorem dX12_tryMatch_128 : decode cX12_tryMatch 128 = .ok (.getfield 50, 3) := by decide +kernel
theorem dX12_tryMatch_131 : decode cX12_tryMatch 131 = .ok (.iconst 5, 1) := by decide +kernel
theorem dX12_tryMatch_132 : decode cX12_tryMatch 132 = .ok (.iload_n 1, 1) := by decide +kernel
theorem dX12_tryMatch_133 : decode cX12_tryMatch 133 = .ok (.imul, 1) := by decide +kernel
theorem dX12_tryMatch_134 : decode cX12_tryMatch 134 = .ok (.iload 5, 2) := by decide +kernel
theorem dX12_tryMatch_136 : decode cX12_tryMatch 136 = .ok (.iadd, 1) := by decide +kernel
theorem dX12_tryMatch_137 : decode cX12_tryMatch 137 = .ok (.iaload, 1) := by decide +kernel
theorem dX12_tryMatch_138 : decode cX12_tryMatch 138 = .ok (.iadd, 1) := by decide +kernel
theorem dX12_tryMatch_139 : decode cX12_tryMatch 139 = .ok (.invokevirtual 385, 3) := by decide +kernel
theorem dX12_tryMatch_142 : decode cX12_tryMatch 142 = .ok (.iinc 5 1, 3) := by decide +kernel
theorem dX12_tryMatch_145 : decode cX12_tryMatch 145 = .ok (.goto (-79), 3) := by decide +kernel
theorem dX12_tryMatch_148 : decode cX12_tryMatch 148 = .ok (.aload_n 0, 1) := by decide +kernel
theorem dX12_tryMatch_149 : decode cX12_tryMatch 149 = .ok (.getfield 44, 3) := by decide +kernel
theorem dX12_tryMatch_152 : decode cX12_tryMatch 152 = .ok (.iload_n 1, 1) := by decide +kernel
theorem dX12_tryMatch_153 : decode cX12_tryMatch 153 = .ok (.bipush (-2), 2) := by decide +kernel
theorem dX12_tryMatch_155 : decode cX12_tryMatch 155 = .ok (.iastore, 1) := by decide +kernel
theorem dX12_tryMatch_156 : decode cX12_tryMatch 156 = .ok (.aload_n 0, 1) := by decide +kernel
theorem dX12_tryMatch_157 : decode cX12_tryMatch 157 = .ok (.iload_n 1, 1) := by decide +kernel
theorem dX12_tryMatch_158 : decode cX12_tryMatch 158 = .ok (.iconst 1, 1) := by decide +kernel
theorem dX12_tryMatch_159 : decode cX12_tryMatch 159 = .ok (.iadd, 1) := by decide +kernel
theorem dX12_tryMatch_160 : decode cX12_tryMatch 160 = .ok (.iload_n 2, 1) := by decide +kernel
theorem dX12_tryMatch_161 : decode cX12_tryMatch 161 = .ok (.iload_n 3, 1) := by decide +kernel
theorem dX12_tryMatch_162 : decode cX12_tryMatch 162 = .ok (.iload 4, 2) := by decide +kernel
theorem dX12_tryMatch_164 : decode cX12_tryMatch 164 = .ok (.invokevirtual 385, 3) := by decide +kernel
theorem dX12_tryMatch_167 : decode cX12_tryMatch 167 = .ok (.return_, 1) := by decide +kernel
theorem dX12_seekMatch_0 : decode cX12_seekMatch 0 = .ok (.iconst 0, 1) := by decide +kernel
theorem dX12_seekMatch_1 : decode cX12_seekMatch 1 = .ok (.istore_n 1, 1) := by decide +kernel
theorem dX12_seekMatch_2 : decode cX12_seekMatch 2 = .ok (.iload_n 1, 1) := by decide +kernel
theorem dX12_seekMatch_3 : decode cX12_seekMatch 3 = .ok (.aload_n 0, 1) := by decide +kernel
theorem dX12_seekMatch_4 : decode cX12_seekMatch 4 = .ok (.getfield 20, 3) := by decide +kernel
theorem dX12_seekMatch_7 : decode cX12_seekMatch 7 = .ok (.bipush 7, 2) := by decide +kernel
theorem dX12_seekMatch_9 : decode cX12_seekMatch 9 = .ok (.iaload, 1) := by decide +kernel
theorem dX12_seekMatch_10 : decode cX12_seekMatch 10 = .ok (.if_icmp .ge 44, 3) := by decide +kernel
theorem dX12_seekMatch_13 : decode cX12_seekMatch 13 = .ok (.iconst 0, 1) := by decide +kernel
theorem dX12_seekMatch_14 : decode cX12_seekMatch 14 = .ok (.istore_n 2, 1) := by decide +kernel
theorem dX12_seekMatch_15 : decode cX12_seekMatch 15 = .ok (.iload_n 2, 1) := by decide +kernel
theorem dX12_seekMatch_16 : decode cX12_seekMatch 16 = .ok (.aload_n 0, 1) := by decide +kernel
theorem dX12_seekMatch_17 : decode cX12_seekMatch 17 = .ok (.getfield 20, 3) := by decide +kernel
theorem dX12_seekMatch_20 : decode cX12_seekMatch 20 = .ok (.bipush 6, 2) := by decide +kernel
theorem dX12_seekMatch_22 : decode cX12_seekMatch 22 = .ok (.iaload, 1) := by decide +kernel
theorem dX12_seekMatch_23 : decode cX12_seekMatch 23 = .ok (.if_icmp .ge 25, 3) := by decide +kernel
theorem dX12_seekMatch_26 : decode cX12_seekMatch 26 = .ok (.aload_n 0, 1) := by decide +kernel
theorem dX12_seekMatch_27 : decode cX12_seekMatch 27 = .ok (.getfield 50, 3) := by decide +kernel
theorem dX12_seekMatch_30 : decode cX12_seekMatch 30 = .ok (.iconst 5, 1) := by decide +kernel
theorem dX12_seekMatch_31 : decode cX12_seekMatch 31 = .ok (.iload_n 1, 1) := by decide +kernel
theorem dX12_seekMatch_32 : decode cX12_seekMatch 32 = .ok (.imul, 1) := by decide +kernel
theorem dX12_seekMatch_33 : decode cX12_seekMatch 33 = .ok (.iload_n 2, 1) := by decide +kernel
theorem dX12_seekMatch_34 : decode cX12_seekMatch 34 = .ok (.iadd, 1) := by decide +kernel
theorem dX12_seekMatch_35 : decode cX12_seekMatch 35 = .ok (.aload_n 0, 1) := by decide +kernel
theorem dX12_seekMatch_36 : decode cX12_seekMatch 36 = .ok (.iload_n 2, 1) := by decide +kernel
theorem dX12_seekMatch_37 : decode cX12_seekMatch 37 = .ok (.iload_n 1, 1) := by decide +kernel
theorem dX12_seekMatch_38 : decode cX12_seekMatch 38 = .ok (.invokevirtual 367, 3) := by decide +kernel
theorem dX12_seekMatch_41 : decode cX12_seekMatch 41 = .ok (.iastore, 1) := by decide +kernel
theorem dX12_seekMatch_42 : decode cX12_seekMatch 42 = .ok (.iinc 2 1, 3) := by decide +kernel
theorem dX12_seekMatch_45 : decode cX12_seekMatch 45 = .ok (.goto (-30), 3) := by decide +kernel
theorem dX12_seekMatch_48 : decode cX12_seekMatch 48 = .ok (.iinc 1 1, 3) := by decide +kernel
theorem dX12_seekMatch_51 : decode cX12_seekMatch 51 = .ok (.goto (-49), 3) := by decide +kernel
theorem dX12_seekMatch_54 : decode cX12_seekMatch 54 = .ok (.aload_n 0, 1) := by decide +kernel
theorem dX12_seekMatch_55 : decode cX12_seekMatch 55 = .ok (.iconst (-1), 1) := by decide +kernel
theorem dX12_seekMatch_56 : decode cX12_seekMatch 56 = .ok (.putfield 379, 3) := by decide +kernel
theorem dX12_seekMatch_59 : decode cX12_seekMatch 59 = .ok (.aload_n 0, 1) := by decide +kernel
theorem dX12_seekMatch_60 : decode cX12_seekMatch 60 = .ok (.iconst 0, 1) := by decide +kernel
theorem dX12_seekMatch_61 : decode cX12_seekMatch 61 = .ok (.putfield 382, 3) := by decide +kernel
theorem dX12_seekMatch_64 : decode cX12_seekMatch 64 = .ok (.aload_n 0, 1) := by decide +kernel
theorem dX12_seekMatch_65 : decode cX12_seekMatch 65 = .ok (.iconst 0, 1) := by decide +kernel
theorem dX12_seekMatch_66 : decode cX12_seekMatch 66 = .ok (.iconst 0, 1) := by decide +kernel
theorem dX12_seekMatch_67 : decode cX12_seekMatch 67 = .ok (.iconst 0, 1) := by decide +kernel
theorem dX12_seekMatch_68 : decode cX12_seekMatch 68 = .ok (.iconst 0, 1) := by decide +kernel
theorem dX12_seekMatch_69 : decode cX12_seekMatch 69 = .ok (.invokevirtual 385, 3) := by decide +kernel
theorem dX12_seekMatch_72 : decode cX12_seekMatch 72 = .ok (.return_, 1) := by decide +kernel
theorem dX12_match_0 : decode cX12_match 0 = .ok (.aload_n 0, 1) := by decide +kernel
theorem dX12_match_1 : decode cX12_match 1 = .ok (.invokevirtual 167, 3) := by decide +kernel
theorem dX12_match_4 : decode cX12_match 4 = .ok (.aload_n 0, 1) := by decide +kernel
theorem dX12_match_5 : decode cX12_match 5 = .ok (.getfield 180, 3) := by decide +kernel
theorem dX12_match_8 : decode cX12_match 8 = .ok (.ifCond .ne 9, 3) := by decide +kernel
theorem dX12_match_11 : decode cX12_match 11 = .ok (.aload_n 0, 1) := by decide +kernel
theorem dX12_match_12 : decode cX12_match 12 = .ok (.iconst 1, 1) := by decide +kernel
theorem dX12_match_13 : decode cX12_match 13 = .ok (.invokevirtual 170, 3) := by decide +kernel
theorem dX12_match_16 : decode cX12_match 16 = .ok (.ireturn, 1) := by decide +kernel
theorem dX12_match_17 : decode cX12_match 17 = .ok (.aload_n 0, 1) := by decide +kernel
theorem dX12_match_18 : decode cX12_match 18 = .ok (.invokevirtual 389, 3) := by decide +kernel
theorem dX12_match_21 : decode cX12_match 21 = .ok (.aload_n 0, 1) := by decide +kernel
theorem dX12_match_22 : decode cX12_match 22 = .ok (.getfield 379, 3) := by decide +kernel
theorem dX12_match_25 : decode cX12_match 25 = .ok (.ireturn, 1) := by decide +kernel
theorem dX12_matchDays_0 : decode cX12_matchDays 0 = .ok (.aload_n 0, 1) := by decide +kernel
theorem dX12_matchDays_1 : decode cX12_matchDays 1 = .ok (.invokevirtual 167, 3) := by decide +kernel
theorem dX12_matchDays_4 : decode cX12_matchDays 4 = .ok (.aload_n 0, 1) := by decide +kernel
theorem dX12_matchDays_5 : decode cX12_matchDays 5 = .ok (.getfield 180, 3) := by decide +kernel
theorem dX12_matchDays_8 : decode cX12_matchDays 8 = .ok (.ifCond .ne 9, 3) := by decide +kernel
theorem dX12_matchDays_11 : decode cX12_matchDays 11 = .ok (.aload_n 0, 1) := by decide +kernel
theorem dX12_matchDays_12 : decode cX12_matchDays 12 = .ok (.iconst 1, 1) := by decide +kernel
theorem dX12_matchDays_13 : decode cX12_matchDays 13 = .ok (.invokevirtual 170, 3) := by decide +kernel
theorem dX12_matchDays_16 : decode cX12_matchDays 16 = .ok (.ireturn, 1) := by decide +kernel
theorem dX12_matchDays_17 : decode cX12_matchDays 17 = .ok (.aload_n 0, 1) := by decide +kernel
theorem dX12_matchDays_18 : decode cX12_matchDays 18 = .ok (.invokevirtual 389, 3) := by decide +kernel
theorem dX12_matchDays_21 : decode cX12_matchDays 21 = .ok (.aload_n 0, 1) := by decide +kernel
theorem dX12_matchDays_22 : decode cX12_matchDays 22 = .ok (.getfield 382, 3) := by decide +kernel
theorem dX12_matchDays_25 : decode cX12_matchDays 25 = .ok (.ireturn, 1) := by decide +kernel
theorem dX12_matchOf_0 : decode cX12_matchOf 0 = .ok (.aload_n 0, 1) := by decide +kernel
theorem dX12_matchOf_1 : decode cX12_matchOf 1 = .ok (.invokevirtual 167, 3) := by decide +kernel
theorem dX12_matchOf_4 : decode cX12_matchOf 4 = .ok (.aload_n 0, 1) := by decide +kernel
theorem dX12_matchOf_5 : decode cX12_matchOf 5 = .ok (.iload_n 1, 1) := by decide +kernel
theorem dX12_matchOf_6 : decode cX12_matchOf 6 = .ok (.invokevirtual 274, 3) := by decide +kernel
theorem dX12_matchOf_9 : decode cX12_matchOf 9 = .ok (.ifCond .ne 9, 3) := by decide +kernel
theorem dX12_matchOf_12 : decode cX12_matchOf 12 = .ok (.aload_n 0, 1) := by decide +kernel
theorem dX12_matchOf_13 : decode cX12_matchOf 13 = .ok (.iconst 1, 1) := by decide +kernel
theorem dX12_matchOf_14 : decode cX12_matchOf 14 = .ok (.invokevirtual 170, 3) := by decide +kernel
theorem dX12_matchOf_17 : decode cX12_matchOf 17 = .ok (.ireturn, 1) := by decide +kernel
theorem dX12_matchOf_18 : decode cX12_matchOf 18 = .ok (.aload_n 0, 1) := by decide +kernel
theorem dX12_matchOf_19 : decode cX12_matchOf 19 = .ok (.invokevirtual 389, 3) := by decide +kernel
theorem dX12_matchOf_22 : decode cX12_matchOf 22 = .ok (.aload_n 0, 1) := by decide +kernel
theorem dX12_matchOf_23 : decode cX12_matchOf 23 = .ok (.getfield 47, 3) := by decide +kernel
theorem dX12_matchOf_26 : decode cX12_matchOf 26 = .ok (.iload_n 1, 1) := by decide +kernel
theorem dX12_matchOf_27 : decode cX12_matchOf 27 = .ok (.iaload, 1) := by decide +kernel
theorem dX12_matchOf_28 : decode cX12_matchOf 28 = .ok (.ireturn, 1) := by decide +kernel
theorem dX12_meet_0 : decode cX12_meet 0 = .ok (.aload_n 0, 1) := by decide +kernel
theorem dX12_meet_1 : decode cX12_meet 1 = .ok (.invokevirtual 167, 3) := by decide +kernel
theorem dX12_meet_4 : decode cX12_meet 4 = .ok (.aload_n 0, 1) := by decide +kernel
theorem dX12_meet_5 : decode cX12_meet 5 = .ok (.iload_n 1, 1) := by decide +kernel
theorem dX12_meet_6 : decode cX12_meet 6 = .ok (.invokevirtual 274, 3) := by decide +kernel
theorem dX12_meet_9 : decode cX12_meet 9 = .ok (.ifCond .eq 39, 3) := by decide +kernel
theorem dX12_meet_12 : decode cX12_meet 12 = .ok (.aload_n 0, 1) := by decide +kernel
theorem dX12_meet_13 : decode cX12_meet 13 = .ok (.iload_n 3, 1) := by decide +kernel
theorem dX12_meet_14 : decode cX12_meet 14 = .ok (.invokevirtual 274, 3) := by decide +kernel
theorem dX12_meet_17 : decode cX12_meet 17 = .ok (.ifCond .eq 31, 3) := by decide +kernel
theorem dX12_meet_20 : decode cX12_meet 20 = .ok (.aload_n 0, 1) := by decide +kernel
theorem dX12_meet_21 : decode cX12_meet 21 = .ok (.iload_n 2, 1) := by decide +kernel
theorem dX12_meet_22 : decode cX12_meet 22 = .ok (.invokevirtual 268, 3) := by decide +kernel
theorem dX12_meet_25 : decode cX12_meet 25 = .ok (.ifCond .eq 23, 3) := by decide +kernel
theorem dX12_meet_28 : decode cX12_meet 28 = .ok (.aload_n 0, 1) := by decide +kernel
theorem dX12_meet_29 : decode cX12_meet 29 = .ok (.iload 4, 2) := by decide +kernel
theorem dX12_meet_31 : decode cX12_meet 31 = .ok (.invokevirtual 268, 3) := by decide +kernel
theorem dX12_meet_34 : decode cX12_meet 34 = .ok (.ifCond .eq 14, 3) := by decide +kernel
theorem dX12_meet_37 : decode cX12_meet 37 = .ok (.iload_n 1, 1) := by decide +kernel
theorem dX12_meet_38 : decode cX12_meet 38 = .ok (.iload_n 3, 1) := by decide +kernel
theorem dX12_meet_39 : decode cX12_meet 39 = .ok (.if_icmp .eq 9, 3) := by decide +kernel
theorem dX12_meet_42 : decode cX12_meet 42 = .ok (.iload_n 2, 1) := by decide +kernel
theorem dX12_meet_43 : decode cX12_meet 43 = .ok (.iload 4, 2) := by decide +kernel
theorem dX12_meet_45 : decode cX12_meet 45 = .ok (.if_icmp .ne 9, 3) := by decide +kernel
theorem dX12_meet_48 : decode cX12_meet 48 = .ok (.aload_n 0, 1) := by decide +kernel
theorem dX12_meet_49 : decode cX12_meet 49 = .ok (.iconst 1, 1) := by decide +kernel
theorem dX12_meet_50 : decode cX12_meet 50 = .ok (.invokevirtual 170, 3) := by decide +kernel
theorem dX12_meet_53 : decode cX12_meet 53 = .ok (.ireturn, 1) := by decide +kernel
theorem dX12_meet_54 : decode cX12_meet 54 = .ok (.aload_n 0, 1) := by decide +kernel
theorem dX12_meet_55 : decode cX12_meet 55 = .ok (.iload_n 2, 1) := by decide +kernel
theorem dX12_meet_56 : decode cX12_meet 56 = .ok (.iload_n 1, 1) := by decide +kernel
theorem dX12_meet_57 : decode cX12_meet 57 = .ok (.invokevirtual 364, 3) := by decide +kernel
theorem dX12_meet_60 : decode cX12_meet 60 = .ok (.ifCond .ne 6, 3) := by decide +kernel
theorem dX12_meet_63 : decode cX12_meet 63 = .ok (.bipush (-2), 2) := by decide +kernel
theorem dX12_meet_65 : decode cX12_meet 65 = .ok (.ireturn, 1) := by decide +kernel
theorem dX12_meet_66 : decode cX12_meet 66 = .ok (.aload_n 0, 1) := by decide +kernel
theorem dX12_meet_67 : decode cX12_meet 67 = .ok (.getfield 358, 3) := by decide +kernel
theorem dX12_meet_70 : decode cX12_meet 70 = .ok (.istore 5, 2) := by decide +kernel
theorem dX12_meet_72 : decode cX12_meet 72 = .ok (.aload_n 0, 1) := by decide +kernel
theorem dX12_meet_73 : decode cX12_meet 73 = .ok (.getfield 361, 3) := by decide +kernel
theorem dX12_meet_76 : decode cX12_meet 76 = .ok (.istore 6, 2) := by decide +kernel
theorem dX12_meet_78 : decode cX12_meet 78 = .ok (.aload_n 0, 1) := by decide +kernel
theorem dX12_meet_79 : decode cX12_meet 79 = .ok (.iload 4, 2) := by decide +kernel
theorem dX12_meet_81 : decode cX12_meet 81 = .ok (.iload_n 3, 1) := by decide +kernel
theorem dX12_meet_82 : decode cX12_meet 82 = .ok (.invokevirtual 364, 3) := by decide +kernel
theorem dX12_meet_85 : decode cX12_meet 85 = .ok (.ifCond .eq 31, 3) := by decide +kernel
theorem dX12_meet_88 : decode cX12_meet 88 = .ok (.aload_n 0, 1) := by decide +kernel
theorem dX12_meet_89 : decode cX12_meet 89 = .ok (.iload_n 1, 1) := by decide +kernel
theorem dX12_meet_90 : decode cX12_meet 90 = .ok (.invokevirtual 295, 3) := by decide +kernel
theorem dX12_meet_93 : decode cX12_meet 93 = .ok (.aload_n 0, 1) := by decide +kernel
theorem dX12_meet_94 : decode cX12_meet 94 = .ok (.iload_n 3, 1) := by decide +kernel
theorem dX12_meet_95 : decode cX12_meet 95 = .ok (.iconst 0, 1) := by decide +kernel
theorem dX12_meet_96 : decode cX12_meet 96 = .ok (.invokevirtual 262, 3) := by decide +kernel
theorem dX12_meet_99 : decode cX12_meet 99 = .ok (.if_icmp .ne 17, 3) := by decide +kernel
theorem dX12_meet_102 : decode cX12_meet 102 = .ok (.aload_n 0, 1) := by decide +kernel
theorem dX12_meet_103 : decode cX12_meet 103 = .ok (.iload_n 3, 1) := by decide +kernel
theorem dX12_meet_104 : decode cX12_meet 104 = .ok (.invokevirtual 295, 3) := by decide +kernel
theorem dX12_meet_107 : decode cX12_meet 107 = .ok (.aload_n 0, 1) := by decide +kernel
theorem dX12_meet_108 : decode cX12_meet 108 = .ok (.iload_n 1, 1) := by decide +kernel
theorem dX12_meet_109 : decode cX12_meet 109 = .ok (.iconst 0, 1) := by decide +kernel
theorem dX12_meet_110 : decode cX12_meet 110 = .ok (.invokevirtual 262, 3) := by decide +kernel
theorem dX12_meet_113 : decode cX12_meet 113 = .ok (.if_icmp .eq 6, 3) := by decide +kernel
theorem dX12_meet_116 : decode cX12_meet 116 = .ok (.bipush (-2), 2) := by decide +kernel
theorem dX12_meet_118 : decode cX12_meet 118 = .ok (.ireturn, 1) := by decide +kernel
theorem dX12_meet_119 : decode cX12_meet 119 = .ok (.iload 5, 2) := by decide +kernel
theorem dX12_meet_121 : decode cX12_meet 121 = .ok (.aload_n 0, 1) := by decide +kernel
theorem dX12_meet_122 : decode cX12_meet 122 = .ok (.getfield 358, 3) := by decide +kernel
theorem dX12_meet_125 : decode cX12_meet 125 = .ok (.invokestatic 355, 3) := by decide +kernel
theorem dX12_meet_128 : decode cX12_meet 128 = .ok (.istore 7, 2) := by decide +kernel
theorem dX12_meet_130 : decode cX12_meet 130 = .ok (.iload 7, 2) := by decide +kernel
theorem dX12_meet_132 : decode cX12_meet 132 = .ok (.iload 6, 2) := by decide +kernel
theorem dX12_meet_134 : decode cX12_meet 134 = .ok (.if_icmp .ge 17, 3) := by decide +kernel
theorem dX12_meet_137 : decode cX12_meet 137 = .ok (.iload 7, 2) := by decide +kernel
theorem dX12_meet_139 : decode cX12_meet 139 = .ok (.aload_n 0, 1) := by decide +kernel
theorem dX12_meet_140 : decode cX12_meet 140 = .ok (.getfield 361, 3) := by decide +kernel
theorem dX12_meet_143 : decode cX12_meet 143 = .ok (.if_icmp .ge 8, 3) := by decide +kernel
theorem dX12_meet_146 : decode cX12_meet 146 = .ok (.iload 7, 2) := by decide +kernel
theorem dX12_meet_148 : decode cX12_meet 148 = .ok (.goto 5, 3) := by decide +kernel
theorem dX12_meet_151 : decode cX12_meet 151 = .ok (.bipush (-2), 2) := by decide +kernel
theorem dX12_meet_153 : decode cX12_meet 153 = .ok (.ireturn, 1) := by decide +kernel
theorem dX12_fitsAll_0 : decode cX12_fitsAll 0 = .ok (.aload_n 0, 1) := by decide +kernel
theorem dX12_fitsAll_1 : decode cX12_fitsAll 1 = .ok (.aload_n 0, 1) := by decide +kernel
theorem dX12_fitsAll_2 : decode cX12_fitsAll 2 = .ok (.iload_n 1, 1) := by decide +kernel
theorem dX12_fitsAll_3 : decode cX12_fitsAll 3 = .ok (.iconst 1, 1) := by decide +kernel
theorem dX12_fitsAll_4 : decode cX12_fitsAll 4 = .ok (.invokevirtual 271, 3) := by decide +kernel
theorem dX12_fitsAll_7 : decode cX12_fitsAll 7 = .ok (.putfield 392, 3) := by decide +kernel
theorem dX12_fitsAll_10 : decode cX12_fitsAll 10 = .ok (.aload_n 0, 1) := by decide +kernel
theorem dX12_fitsAll_11 : decode cX12_fitsAll 11 = .ok (.iconst 0, 1) := by decide +kernel
theorem dX12_fitsAll_12 : decode cX12_fitsAll 12 = .ok (.putfield 395, 3) := by decide +kernel
theorem dX12_fitsAll_15 : decode cX12_fitsAll 15 = .ok (.iconst 1, 1) := by decide +kernel
theorem dX12_fitsAll_16 : decode cX12_fitsAll 16 = .ok (.istore_n 2, 1) := by decide +kernel
theorem dX12_fitsAll_17 : decode cX12_fitsAll 17 = .ok (.iconst 0, 1) := by decide +kernel
theorem dX12_fitsAll_18 : decode cX12_fitsAll 18 = .ok (.istore_n 3, 1) := by decide +kernel
theorem dX12_fitsAll_19 : decode cX12_fitsAll 19 = .ok (.iload_n 3, 1) := by decide +kernel
theorem dX12_fitsAll_20 : decode cX12_fitsAll 20 = .ok (.aload_n 0, 1) := by decide +kernel
theorem dX12_fitsAll_21 : decode cX12_fitsAll 21 = .ok (.getfield 20, 3) := by decide +kernel
theorem dX12_fitsAll_24 : decode cX12_fitsAll 24 = .ok (.bipush 8, 2) := by decide +kernel
theorem dX12_fitsAll_26 : decode cX12_fitsAll 26 = .ok (.iaload, 1) := by decide +kernel
theorem dX12_fitsAll_27 : decode cX12_fitsAll 27 = .ok (.if_icmp .ge 111, 3) := by decide +kernel
theorem dX12_fitsAll_30 : decode cX12_fitsAll 30 = .ok (.aload_n 0, 1) := by decide +kernel
theorem dX12_fitsAll_31 : decode cX12_fitsAll 31 = .ok (.getfield 20, 3) := by decide +kernel
theorem dX12_fitsAll_34 : decode cX12_fitsAll 34 = .ok (.sipush 159, 3) := by decide +kernel
theorem dX12_fitsAll_37 : decode cX12_fitsAll 37 = .ok (.iconst 3, 1) := by decide +kernel
theorem dX12_fitsAll_38 : decode cX12_fitsAll 38 = .ok (.iload_n 3, 1) := by decide +kernel
theorem dX12_fitsAll_39 : decode cX12_fitsAll 39 = .ok (.imul, 1) := by decide +kernel
theorem dX12_fitsAll_40 : decode cX12_fitsAll 40 = .ok (.iadd, 1) := by decide +kernel
theorem dX12_fitsAll_41 : decode cX12_fitsAll 41 = .ok (.iaload, 1) := by decide +kernel
theorem dX12_fitsAll_42 : decode cX12_fitsAll 42 = .ok (.iload_n 1, 1) := by decide +kernel
theorem dX12_fitsAll_43 : decode cX12_fitsAll 43 = .ok (.if_icmp .eq 6, 3) := by decide +kernel
theorem dX12_fitsAll_46 : decode cX12_fitsAll 46 = .ok (.goto 86, 3) := by decide +kernel
theorem dX12_fitsAll_49 : decode cX12_fitsAll 49 = .ok (.aload_n 0, 1) := by decide +kernel
theorem dX12_fitsAll_50 : decode cX12_fitsAll 50 = .ok (.getfield 20, 3) := by decide +kernel
theorem dX12_fitsAll_53 : decode cX12_fitsAll 53 = .ok (.sipush 159, 3) := by decide +kernel
theorem dX12_fitsAll_56 : decode cX12_fitsAll 56 = .ok (.iconst 3, 1) := by decide +kernel
theorem dX12_fitsAll_57 : decode cX12_fitsAll 57 = .ok (.iload_n 3, 1) := by decide +kernel
theorem dX12_fitsAll_58 : decode cX12_fitsAll 58 = .ok (.imul, 1) := by decide +kernel
theorem dX12_fitsAll_59 : decode cX12_fitsAll 59 = .ok (.iadd, 1) := by decide +kernel
theorem dX12_fitsAll_60 : decode cX12_fitsAll 60 = .ok (.iconst 1, 1) := by decide +kernel
theorem dX12_fitsAll_61 : decode cX12_fitsAll 61 = .ok (.iadd, 1) := by decide +kernel
theorem dX12_fitsAll_62 : decode cX12_fitsAll 62 = .ok (.iaload, 1) := by decide +kernel
theorem dX12_fitsAll_63 : decode cX12_fitsAll 63 = .ok (.istore 4, 2) := by decide +kernel
theorem dX12_fitsAll_65 : decode cX12_fitsAll 65 = .ok (.aload_n 0, 1) := by decide +kernel
theorem dX12_fitsAll_66 : decode cX12_fitsAll 66 = .ok (.getfield 20, 3) := by decide +kernel
theorem dX12_fitsAll_69 : decode cX12_fitsAll 69 = .ok (.sipush 159, 3) := by decide +kernel
theorem dX12_fitsAll_72 : decode cX12_fitsAll 72 = .ok (.iconst 3, 1) := by decide +kernel
theorem dX12_fitsAll_73 : decode cX12_fitsAll 73 = .ok (.iload_n 3, 1) := by decide +kernel
theorem dX12_fitsAll_74 : decode cX12_fitsAll 74 = .ok (.imul, 1) := by decide +kernel
theorem dX12_fitsAll_75 : decode cX12_fitsAll 75 = .ok (.iadd, 1) := by decide +kernel
theorem dX12_fitsAll_76 : decode cX12_fitsAll 76 = .ok (.iconst 2, 1) := by decide +kernel
theorem dX12_fitsAll_77 : decode cX12_fitsAll 77 = .ok (.iadd, 1) := by decide +kernel
theorem dX12_fitsAll_78 : decode cX12_fitsAll 78 = .ok (.iaload, 1) := by decide +kernel
theorem dX12_fitsAll_79 : decode cX12_fitsAll 79 = .ok (.istore 5, 2) := by decide +kernel
theorem dX12_fitsAll_81 : decode cX12_fitsAll 81 = .ok (.iload_n 2, 1) := by decide +kernel
theorem dX12_fitsAll_82 : decode cX12_fitsAll 82 = .ok (.ifCond .eq 36, 3) := by decide +kernel
theorem dX12_fitsAll_85 : decode cX12_fitsAll 85 = .ok (.aload_n 0, 1) := by decide +kernel
theorem dX12_fitsAll_86 : decode cX12_fitsAll 86 = .ok (.aload_n 0, 1) := by decide +kernel
theorem dX12_fitsAll_87 : decode cX12_fitsAll 87 = .ok (.iload_n 1, 1) := by decide +kernel
theorem dX12_fitsAll_88 : decode cX12_fitsAll 88 = .ok (.iconst 0, 1) := by decide +kernel
theorem dX12_fitsAll_89 : decode cX12_fitsAll 89 = .ok (.invokevirtual 271, 3) := by decide +kernel
theorem dX12_fitsAll_92 : decode cX12_fitsAll 92 = .ok (.aload_n 0, 1) := by decide +kernel
theorem dX12_fitsAll_93 : decode cX12_fitsAll 93 = .ok (.getfield 392, 3) := by decide +kernel
theorem dX12_fitsAll_96 : decode cX12_fitsAll 96 = .ok (.iload 4, 2) := by decide +kernel
theorem dX12_fitsAll_98 : decode cX12_fitsAll 98 = .ok (.aload_n 0, 1) := by decide +kernel
theorem dX12_fitsAll_99 : decode cX12_fitsAll 99 = .ok (.getfield 395, 3) := by decide +kernel
theorem dX12_fitsAll_102 : decode cX12_fitsAll 102 = .ok (.invokevirtual 352, 3) := by decide +kernel
theorem dX12_fitsAll_105 : decode cX12_fitsAll 105 = .ok (.iconst 0, 1) := by decide +kernel
theorem dX12_fitsAll_106 : decode cX12_fitsAll 106 = .ok (.iload 5, 2) := by decide +kernel
theorem dX12_fitsAll_108 : decode cX12_fitsAll 108 = .ok (.invokestatic 149, 3) := by decide +kernel
theorem dX12_fitsAll_111 : decode cX12_fitsAll 111 = .ok (.ifCond .eq 7, 3) := by decide +kernel
theorem dX12_fitsAll_114 : decode cX12_fitsAll 114 = .ok (.iconst 1, 1) := by decide +kernel
theorem dX12_fitsAll_115 : decode cX12_fitsAll 115 = .ok (.goto 4, 3) := by decide +kernel
theorem dX12_fitsAll_118 : decode cX12_fitsAll 118 = .ok (.iconst 0, 1) := by decide +kernel
theorem dX12_fitsAll_119 : decode cX12_fitsAll 119 = .ok (.istore_n 2, 1) := by decide +kernel
theorem dX12_fitsAll_120 : decode cX12_fitsAll 120 = .ok (.aload_n 0, 1) := by decide +kernel
theorem dX12_fitsAll_121 : decode cX12_fitsAll 121 = .ok (.iload 4, 2) := by decide +kernel
theorem dX12_fitsAll_123 : decode cX12_fitsAll 123 = .ok (.putfield 392, 3) := by decide +kernel
theorem dX12_fitsAll_126 : decode cX12_fitsAll 126 = .ok (.aload_n 0, 1) := by decide +kernel
theorem dX12_fitsAll_127 : decode cX12_fitsAll 127 = .ok (.iload 5, 2) := by decide +kernel
theorem dX12_fitsAll_129 : decode cX12_fitsAll 129 = .ok (.putfield 395, 3) := by decide +kernel
theorem dX12_fitsAll_132 : decode cX12_fitsAll 132 = .ok (.iinc 3 1, 3) := by decide +kernel
theorem dX12_fitsAll_135 : decode cX12_fitsAll 135 = .ok (.goto (-116), 3) := by decide +kernel
theorem dX12_fitsAll_138 : decode cX12_fitsAll 138 = .ok (.iload_n 2, 1) := by decide +kernel
theorem dX12_fitsAll_139 : decode cX12_fitsAll 139 = .ok (.ireturn, 1) := by decide +kernel
theorem dX12_fits_0 : decode cX12_fits 0 = .ok (.aload_n 0, 1) := by decide +kernel
theorem dX12_fits_1 : decode cX12_fits 1 = .ok (.invokevirtual 167, 3) := by decide +kernel
theorem dX12_fits_4 : decode cX12_fits 4 = .ok (.aload_n 0, 1) := by decide +kernel
theorem dX12_fits_5 : decode cX12_fits 5 = .ok (.getfield 180, 3) := by decide +kernel
theorem dX12_fits_8 : decode cX12_fits 8 = .ok (.ifCond .ne 9, 3) := by decide +kernel
theorem dX12_fits_11 : decode cX12_fits 11 = .ok (.aload_n 0, 1) := by decide +kernel
theorem dX12_fits_12 : decode cX12_fits 12 = .ok (.iconst 1, 1) := by decide +kernel
theorem dX12_fits_13 : decode cX12_fits 13 = .ok (.invokevirtual 170, 3) := by decide +kernel
theorem dX12_fits_16 : decode cX12_fits 16 = .ok (.ireturn, 1) := by decide +kernel
theorem dX12_fits_17 : decode cX12_fits 17 = .ok (.iconst 0, 1) := by decide +kernel
theorem dX12_fits_18 : decode cX12_fits 18 = .ok (.istore_n 1, 1) := by decide +kernel
theorem dX12_fits_19 : decode cX12_fits 19 = .ok (.iconst 0, 1) := by decide +kernel
theorem dX12_fits_20 : decode cX12_fits 20 = .ok (.istore_n 2, 1) := by decide +kernel
theorem dX12_fits_21 : decode cX12_fits 21 = .ok (.iload_n 2, 1) := by decide +kernel
theorem dX12_fits_22 : decode cX12_fits 22 = .ok (.aload_n 0, 1) := by decide +kernel
theorem dX12_fits_23 : decode cX12_fits 23 = .ok (.getfield 20, 3) := by decide +kernel
theorem dX12_fits_26 : decode cX12_fits 26 = .ok (.bipush 6, 2) := by decide +kernel
theorem dX12_fits_28 : decode cX12_fits 28 = .ok (.iaload, 1) := by decide +kernel
theorem dX12_fits_29 : decode cX12_fits 29 = .ok (.if_icmp .ge 27, 3) := by decide +kernel
theorem dX12_fits_32 : decode cX12_fits 32 = .ok (.iload_n 1, 1) := by decide +kernel
theorem dX12_fits_33 : decode cX12_fits 33 = .ok (.aload_n 0, 1) := by decide +kernel
theorem dX12_fits_34 : decode cX12_fits 34 = .ok (.iload_n 2, 1) := by decide +kernel
theorem dX12_fits_35 : decode cX12_fits 35 = .ok (.invokevirtual 398, 3) := by decide +kernel
theorem dX12_fits_38 : decode cX12_fits 38 = .ok (.ifCond .eq 9, 3) := by decide +kernel
theorem dX12_fits_41 : decode cX12_fits 41 = .ok (.iconst 1, 1) := by decide +kernel
theorem dX12_fits_42 : decode cX12_fits 42 = .ok (.iload_n 2, 1) := by decide +kernel
theorem dX12_fits_43 : decode cX12_fits 43 = .ok (.ishl, 1) := by decide +kernel
theorem dX12_fits_44 : decode cX12_fits 44 = .ok (.goto 4, 3) := by decide +kernel
theorem dX12_fits_47 : decode cX12_fits 47 = .ok (.iconst 0, 1) := by decide +kernel
theorem dX12_fits_48 : decode cX12_fits 48 = .ok (.ior, 1) := by decide +kernel
theorem dX12_fits_49 : decode cX12_fits 49 = .ok (.istore_n 1, 1) := by decide +kernel
theorem dX12_fits_50 : decode cX12_fits 50 = .ok (.iinc 2 1, 3) := by decide +kernel
theorem dX12_fits_53 : decode cX12_fits 53 = .ok (.goto (-32), 3) := by decide +kernel
theorem dX12_fits_56 : decode cX12_fits 56 = .ok (.iload_n 1, 1) := by decide +kernel
theorem dX12_fits_57 : decode cX12_fits 57 = .ok (.ireturn, 1) := by decide +kernel
theorem dX12_reachOf_0 : decode cX12_reachOf 0 = .ok (.aload_n 0, 1) := by decide +kernel
theorem dX12_reachOf_1 : decode cX12_reachOf 1 = .ok (.iload_n 1, 1) := by decide +kernel
theorem dX12_reachOf_2 : decode cX12_reachOf 2 = .ok (.invokevirtual 398, 3) := by decide +kernel
theorem dX12_reachOf_5 : decode cX12_reachOf 5 = .ok (.pop, 1) := by decide +kernel
theorem dX12_reachOf_6 : decode cX12_reachOf 6 = .ok (.aload_n 0, 1) := by decide +kernel
theorem dX12_reachOf_7 : decode cX12_reachOf 7 = .ok (.aload_n 0, 1) := by decide +kernel
theorem dX12_reachOf_8 : decode cX12_reachOf 8 = .ok (.iload_n 1, 1) := by decide +kernel
theorem dX12_reachOf_9 : decode cX12_reachOf 9 = .ok (.iconst 0, 1) := by decide +kernel
theorem dX12_reachOf_10 : decode cX12_reachOf 10 = .ok (.invokevirtual 271, 3) := by decide +kernel
theorem dX12_reachOf_13 : decode cX12_reachOf 13 = .ok (.aload_n 0, 1) := by decide +kernel
theorem dX12_reachOf_14 : decode cX12_reachOf 14 = .ok (.getfield 392, 3) := by decide +kernel
theorem dX12_reachOf_17 : decode cX12_reachOf 17 = .ok (.aload_n 0, 1) := by decide +kernel
theorem dX12_reachOf_18 : decode cX12_reachOf 18 = .ok (.getfield 395, 3) := by decide +kernel
theorem dX12_reachOf_21 : decode cX12_reachOf 21 = .ok (.invokevirtual 349, 3) := by decide +kernel
theorem dX12_reachOf_24 : decode cX12_reachOf 24 = .ok (.iconst 0, 1) := by decide +kernel
theorem dX12_reachOf_25 : decode cX12_reachOf 25 = .ok (.istore_n 3, 1) := by decide +kernel
theorem dX12_reachOf_26 : decode cX12_reachOf 26 = .ok (.iconst 0, 1) := by decide +kernel
theorem dX12_reachOf_27 : decode cX12_reachOf 27 = .ok (.istore 4, 2) := by decide +kernel
theorem dX12_reachOf_29 : decode cX12_reachOf 29 = .ok (.iload 4, 2) := by decide +kernel
theorem dX12_reachOf_31 : decode cX12_reachOf 31 = .ok (.aload_n 0, 1) := by decide +kernel
theorem dX12_reachOf_32 : decode cX12_reachOf 32 = .ok (.getfield 20, 3) := by decide +kernel
theorem dX12_reachOf_35 : decode cX12_reachOf 35 = .ok (.iconst 4, 1) := by decide +kernel
theorem dX12_reachOf_36 : decode cX12_reachOf 36 = .ok (.iaload, 1) := by decide +kernel
theorem dX12_reachOf_37 : decode cX12_reachOf 37 = .ok (.if_icmp .ge 31, 3) := by decide +kernel
theorem dX12_reachOf_40 : decode cX12_reachOf 40 = .ok (.iload_n 3, 1) := by decide +kernel
theorem dX12_reachOf_41 : decode cX12_reachOf 41 = .ok (.aload_n 0, 1) := by decide +kernel
theorem dX12_reachOf_42 : decode cX12_reachOf 42 = .ok (.getfield 38, 3) := by decide +kernel
theorem dX12_reachOf_45 : decode cX12_reachOf 45 = .ok (.iload 4, 2) := by decide +kernel
theorem dX12_reachOf_47 : decode cX12_reachOf 47 = .ok (.iaload, 1) := by decide +kernel
theorem dX12_reachOf_48 : decode cX12_reachOf 48 = .ok (.iload_n 2, 1) := by decide +kernel
theorem dX12_reachOf_49 : decode cX12_reachOf 49 = .ok (.if_icmp .gt 10, 3) := by decide +kernel
theorem dX12_reachOf_52 : decode cX12_reachOf 52 = .ok (.iconst 1, 1) := by decide +kernel
theorem dX12_reachOf_53 : decode cX12_reachOf 53 = .ok (.iload 4, 2) := by decide +kernel
theorem dX12_reachOf_55 : decode cX12_reachOf 55 = .ok (.ishl, 1) := by decide +kernel
theorem dX12_reachOf_56 : decode cX12_reachOf 56 = .ok (.goto 4, 3) := by decide +kernel
theorem dX12_reachOf_59 : decode cX12_reachOf 59 = .ok (.iconst 0, 1) := by decide +kernel
theorem dX12_reachOf_60 : decode cX12_reachOf 60 = .ok (.ior, 1) := by decide +kernel
theorem dX12_reachOf_61 : decode cX12_reachOf 61 = .ok (.istore_n 3, 1) := by decide +kernel
theorem dX12_reachOf_62 : decode cX12_reachOf 62 = .ok (.iinc 4 1, 3) := by decide +kernel
theorem dX12_reachOf_65 : decode cX12_reachOf 65 = .ok (.goto (-36), 3) := by decide +kernel
theorem dX12_reachOf_68 : decode cX12_reachOf 68 = .ok (.iload_n 3, 1) := by decide +kernel
theorem dX12_reachOf_69 : decode cX12_reachOf 69 = .ok (.ireturn, 1) := by decide +kernel
theorem dX12_reach_0 : decode cX12_reach 0 = .ok (.aload_n 0, 1) := by decide +kernel
theorem dX12_reach_1 : decode cX12_reach 1 = .ok (.invokevirtual 167, 3) := by decide +kernel
theorem dX12_reach_4 : decode cX12_reach 4 = .ok (.aload_n 0, 1) := by decide +kernel
theorem dX12_reach_5 : decode cX12_reach 5 = .ok (.iload_n 1, 1) := by decide +kernel
theorem dX12_reach_6 : decode cX12_reach 6 = .ok (.invokevirtual 268, 3) := by decide +kernel
theorem dX12_reach_9 : decode cX12_reach 9 = .ok (.ifCond .ne 9, 3) := by decide +kernel
theorem dX12_reach_12 : decode cX12_reach 12 = .ok (.aload_n 0, 1) := by decide +kernel
theorem dX12_reach_13 : decode cX12_reach 13 = .ok (.iconst 1, 1) := by decide +kernel
theorem dX12_reach_14 : decode cX12_reach 14 = .ok (.invokevirtual 170, 3) := by decide +kernel
theorem dX12_reach_17 : decode cX12_reach 17 = .ok (.ireturn, 1) := by decide +kernel
theorem dX12_reach_18 : decode cX12_reach 18 = .ok (.iload_n 2, 1) := by decide +kernel
theorem dX12_reach_19 : decode cX12_reach 19 = .ok (.iconst 0, 1) := by decide +kernel
theorem dX12_reach_20 : decode cX12_reach 20 = .ok (.ldc_w 340, 3) := by decide +kernel
theorem dX12_reach_23 : decode cX12_reach 23 = .ok (.invokestatic 149, 3) := by decide +kernel
theorem dX12_reach_26 : decode cX12_reach 26 = .ok (.ifCond .eq 12, 3) := by decide +kernel
theorem dX12_reach_29 : decode cX12_reach 29 = .ok (.aload_n 0, 1) := by decide +kernel
theorem dX12_reach_30 : decode cX12_reach 30 = .ok (.iload_n 1, 1) := by decide +kernel
theorem dX12_reach_31 : decode cX12_reach 31 = .ok (.iload_n 2, 1) := by decide +kernel
theorem dX12_reach_32 : decode cX12_reach 32 = .ok (.invokevirtual 401, 3) := by decide +kernel
theorem dX12_reach_35 : decode cX12_reach 35 = .ok (.goto 8, 3) := by decide +kernel
theorem dX12_reach_38 : decode cX12_reach 38 = .ok (.aload_n 0, 1) := by decide +kernel
theorem dX12_reach_39 : decode cX12_reach 39 = .ok (.iconst 2, 1) := by decide +kernel
theorem dX12_reach_40 : decode cX12_reach 40 = .ok (.invokevirtual 170, 3) := by decide +kernel
theorem dX12_reach_43 : decode cX12_reach 43 = .ok (.ireturn, 1) := by decide +kernel
theorem dX12_pier_0 : decode cX12_pier 0 = .ok (.aload_n 0, 1) := by decide +kernel
theorem dX12_pier_1 : decode cX12_pier 1 = .ok (.invokevirtual 167, 3) := by decide +kernel
theorem dX12_pier_4 : decode cX12_pier 4 = .ok (.aload_n 0, 1) := by decide +kernel
theorem dX12_pier_5 : decode cX12_pier 5 = .ok (.getfield 180, 3) := by decide +kernel
theorem dX12_pier_8 : decode cX12_pier 8 = .ok (.ifCond .ne 9, 3) := by decide +kernel
theorem dX12_pier_11 : decode cX12_pier 11 = .ok (.aload_n 0, 1) := by decide +kernel
theorem dX12_pier_12 : decode cX12_pier 12 = .ok (.iconst 1, 1) := by decide +kernel
theorem dX12_pier_13 : decode cX12_pier 13 = .ok (.invokevirtual 170, 3) := by decide +kernel
theorem dX12_pier_16 : decode cX12_pier 16 = .ok (.ireturn, 1) := by decide +kernel
theorem dX12_pier_17 : decode cX12_pier 17 = .ok (.iload_n 1, 1) := by decide +kernel
theorem dX12_pier_18 : decode cX12_pier 18 = .ok (.iconst 0, 1) := by decide +kernel
theorem dX12_pier_19 : decode cX12_pier 19 = .ok (.ldc_w 340, 3) := by decide +kernel
theorem dX12_pier_22 : decode cX12_pier 22 = .ok (.invokestatic 149, 3) := by decide +kernel
theorem dX12_pier_25 : decode cX12_pier 25 = .ok (.ifCond .ne 9, 3) := by decide +kernel
theorem dX12_pier_28 : decode cX12_pier 28 = .ok (.aload_n 0, 1) := by decide +kernel
theorem dX12_pier_29 : decode cX12_pier 29 = .ok (.iconst 2, 1) := by decide +kernel
theorem dX12_pier_30 : decode cX12_pier 30 = .ok (.invokevirtual 170, 3) := by decide +kernel
theorem dX12_pier_33 : decode cX12_pier 33 = .ok (.ireturn, 1) := by decide +kernel
theorem dX12_pier_34 : decode cX12_pier 34 = .ok (.iconst (-1), 1) := by decide +kernel
theorem dX12_pier_35 : decode cX12_pier 35 = .ok (.istore_n 2, 1) := by decide +kernel
theorem dX12_pier_36 : decode cX12_pier 36 = .ok (.ldc_w 341, 3) := by decide +kernel
theorem dX12_pier_39 : decode cX12_pier 39 = .ok (.istore_n 3, 1) := by decide +kernel
theorem dX12_pier_40 : decode cX12_pier 40 = .ok (.iconst 0, 1) := by decide +kernel
theorem dX12_pier_41 : decode cX12_pier 41 = .ok (.istore 4, 2) := by decide +kernel
theorem dX12_pier_43 : decode cX12_pier 43 = .ok (.iload 4, 2) := by decide +kernel
theorem dX12_pier_45 : decode cX12_pier 45 = .ok (.aload_n 0, 1) := by decide +kernel
theorem dX12_pier_46 : decode cX12_pier 46 = .ok (.getfield 20, 3) := by decide +kernel
theorem dX12_pier_49 : decode cX12_pier 49 = .ok (.iconst 4, 1) := by decide +kernel
theorem dX12_pier_50 : decode cX12_pier 50 = .ok (.iaload, 1) := by decide +kernel
theorem dX12_pier_51 : decode cX12_pier 51 = .ok (.if_icmp .ge 119, 3) := by decide +kernel
theorem dX12_pier_54 : decode cX12_pier 54 = .ok (.iconst 0, 1) := by decide +kernel
theorem dX12_pier_55 : decode cX12_pier 55 = .ok (.istore 5, 2) := by decide +kernel
theorem dX12_pier_57 : decode cX12_pier 57 = .ok (.iconst 0, 1) := by decide +kernel
theorem dX12_pier_58 : decode cX12_pier 58 = .ok (.istore 6, 2) := by decide +kernel
theorem dX12_pier_60 : decode cX12_pier 60 = .ok (.iconst 0, 1) := by decide +kernel
theorem dX12_pier_61 : decode cX12_pier 61 = .ok (.istore 7, 2) := by decide +kernel
theorem dX12_pier_63 : decode cX12_pier 63 = .ok (.iload 7, 2) := by decide +kernel
theorem dX12_pier_65 : decode cX12_pier 65 = .ok (.aload_n 0, 1) := by decide +kernel
theorem dX12_pier_66 : decode cX12_pier 66 = .ok (.getfield 20, 3) := by decide +kernel
theorem dX12_pier_69 : decode cX12_pier 69 = .ok (.bipush 6, 2) := by decide +kernel
theorem dX12_pier_71 : decode cX12_pier 71 = .ok (.iaload, 1) := by decide +kernel
theorem dX12_pier_72 : decode cX12_pier 72 = .ok (.if_icmp .ge 49, 3) := by decide +kernel
theorem dX12_pier_75 : decode cX12_pier 75 = .ok (.aload_n 0, 1) := by decide +kernel
theorem dX12_pier_76 : decode cX12_pier 76 = .ok (.iload 7, 2) := by decide +kernel
theorem dX12_pier_78 : decode cX12_pier 78 = .ok (.invokevirtual 398, 3) := by decide +kernel
theorem dX12_pier_81 : decode cX12_pier 81 = .ok (.ifCond .ne 6, 3) := by decide +kernel
theorem dX12_pier_84 : decode cX12_pier 84 = .ok (.goto 31, 3) := by decide +kernel
theorem dX12_pier_87 : decode cX12_pier 87 = .ok (.iinc 6 1, 3) := by decide +kernel
theorem dX12_pier_90 : decode cX12_pier 90 = .ok (.iload 5, 2) := by decide +kernel
theorem dX12_pier_92 : decode cX12_pier 92 = .ok (.aload_n 0, 1) := by decide +kernel
theorem dX12_pier_93 : decode cX12_pier 93 = .ok (.iload 7, 2) := by decide +kernel
theorem dX12_pier_95 : decode cX12_pier 95 = .ok (.iload_n 1, 1) := by decide +kernel
theorem dX12_pier_96 : decode cX12_pier 96 = .ok (.invokevirtual 401, 3) := by decide +kernel
theorem dX12_pier_99 : decode cX12_pier 99 = .ok (.iload 4, 2) := by decide +kernel
theorem dX12_pier_101 : decode cX12_pier 101 = .ok (.invokestatic 298, 3) := by decide +kernel
theorem dX12_pier_104 : decode cX12_pier 104 = .ok (.ifCond .eq 7, 3) := by decide +kernel
theorem dX12_pier_107 : decode cX12_pier 107 = .ok (.iconst 1, 1) := by decide +kernel
theorem dX12_pier_108 : decode cX12_pier 108 = .ok (.goto 4, 3) := by decide +kernel
theorem dX12_pier_111 : decode cX12_pier 111 = .ok (.iconst 0, 1) := by decide +kernel
theorem dX12_pier_112 : decode cX12_pier 112 = .ok (.iadd, 1) := by decide +kernel
theorem dX12_pier_113 : decode cX12_pier 113 = .ok (.istore 5, 2) := by decide +kernel
theorem dX12_pier_115 : decode cX12_pier 115 = .ok (.iinc 7 1, 3) := by decide +kernel
theorem dX12_pier_118 : decode cX12_pier 118 = .ok (.goto (-55), 3) := by decide +kernel
theorem dX12_pier_121 : decode cX12_pier 121 = .ok (.iconst 2, 1) := by decide +kernel
theorem dX12_pier_122 : decode cX12_pier 122 = .ok (.iload 5, 2) := by decide +kernel
theorem dX12_pier_124 : decode cX12_pier 124 = .ok (.imul, 1) := by decide +kernel
theorem dX12_pier_125 : decode cX12_pier 125 = .ok (.iload 6, 2) := by decide +kernel
theorem dX12_pier_127 : decode cX12_pier 127 = .ok (.if_icmp .le 13, 3) := by decide +kernel
theorem dX12_pier_130 : decode cX12_pier 130 = .ok (.iconst 2, 1) := by decide +kernel
theorem dX12_pier_131 : decode cX12_pier 131 = .ok (.iload 5, 2) := by decide +kernel
theorem dX12_pier_133 : decode cX12_pier 133 = .ok (.imul, 1) := by decide +kernel
theorem dX12_pier_134 : decode cX12_pier 134 = .ok (.iload 6, 2) := by decide +kernel
theorem dX12_pier_136 : decode cX12_pier 136 = .ok (.isub, 1) := by decide +kernel
theorem dX12_pier_137 : decode cX12_pier 137 = .ok (.goto 10, 3) := by decide +kernel
theorem dX12_pier_140 : decode cX12_pier 140 = .ok (.iload 6, 2) := by decide +kernel
theorem dX12_pier_142 : decode cX12_pier 142 = .ok (.iconst 2, 1) := by decide +kernel
theorem dX12_pier_143 : decode cX12_pier 143 = .ok (.iload 5, 2) := by decide +kernel
theorem dX12_pier_145 : decode cX12_pier 145 = .ok (.imul, 1) := by decide +kernel
theorem dX12_pier_146 : decode cX12_pier 146 = .ok (.isub, 1) := by decide +kernel
theorem dX12_pier_147 : decode cX12_pier 147 = .ok (.istore 7, 2) := by decide +kernel
theorem dX12_pier_149 : decode cX12_pier 149 = .ok (.iload 7, 2) := by decide +kernel
theorem dX12_pier_151 : decode cX12_pier 151 = .ok (.iload_n 3, 1) := by decide +kernel
theorem dX12_pier_152 : decode cX12_pier 152 = .ok (.if_icmp .lt 6, 3) := by decide +kernel
theorem dX12_pier_155 : decode cX12_pier 155 = .ok (.goto 9, 3) := by decide +kernel
theorem dX12_pier_158 : decode cX12_pier 158 = .ok (.iload 4, 2) := by decide +kernel
theorem dX12_pier_160 : decode cX12_pier 160 = .ok (.istore_n 2, 1) := by decide +kernel
theorem dX12_pier_161 : decode cX12_pier 161 = .ok (.iload 7, 2) := by decide +kernel
theorem dX12_pier_163 : decode cX12_pier 163 = .ok (.istore_n 3, 1) := by decide +kernel
theorem dX12_pier_164 : decode cX12_pier 164 = .ok (.iinc 4 1, 3) := by decide +kernel
theorem dX12_pier_167 : decode cX12_pier 167 = .ok (.goto (-124), 3) := by decide +kernel
theorem dX12_pier_170 : decode cX12_pier 170 = .ok (.iload_n 2, 1) := by decide +kernel
theorem dX12_pier_171 : decode cX12_pier 171 = .ok (.ireturn, 1) := by decide +kernel
theorem dX12_doLead_0 : decode cX12_doLead 0 = .ok (.iconst 1, 1) := by decide +kernel
theorem dX12_doLead_1 : decode cX12_doLead 1 = .ok (.iload_n 1, 1) := by decide +kernel
theorem dX12_doLead_2 : decode cX12_doLead 2 = .ok (.ishl, 1) := by decide +kernel
theorem dX12_doLead_3 : decode cX12_doLead 3 = .ok (.istore 4, 2) := by decide +kernel
theorem dX12_doLead_5 : decode cX12_doLead 5 = .ok (.iconst 0, 1) := by decide +kernel
theorem dX12_doLead_6 : decode cX12_doLead 6 = .ok (.istore 5, 2) := by decide +kernel
theorem dX12_doLead_8 : decode cX12_doLead 8 = .ok (.iload 5, 2) := by decide +kernel
theorem dX12_doLead_10 : decode cX12_doLead 10 = .ok (.iload 4, 2) := by decide +kernel
theorem dX12_doLead_12 : decode cX12_doLead 12 = .ok (.if_icmp .eq 103, 3) := by decide +kernel
theorem dX12_doLead_15 : decode cX12_doLead 15 = .ok (.iload 4, 2) := by decide +kernel
theorem dX12_doLead_17 : decode cX12_doLead 17 = .ok (.istore 5, 2) := by decide +kernel
theorem dX12_doLead_19 : decode cX12_doLead 19 = .ok (.iconst 0, 1) := by decide +kernel
theorem dX12_doLead_20 : decode cX12_doLead 20 = .ok (.istore 6, 2) := by decide +kernel
theorem dX12_doLead_22 : decode cX12_doLead 22 = .ok (.iload 6, 2) := by decide +kernel
theorem dX12_doLead_24 : decode cX12_doLead 24 = .ok (.aload_n 0, 1) := by decide +kernel
theorem dX12_doLead_25 : decode cX12_doLead 25 = .ok (.getfield 20, 3) := by decide +kernel
theorem dX12_doLead_28 : decode cX12_doLead 28 = .ok (.iconst 5, 1) := by decide +kernel
theorem dX12_doLead_29 : decode cX12_doLead 29 = .ok (.iaload, 1) := by decide +kernel
theorem dX12_doLead_30 : decode cX12_doLead 30 = .ok (.if_icmp .ge 82, 3) := by decide +kernel
theorem dX12_doLead_33 : decode cX12_doLead 33 = .ok (.aload_n 0, 1) := by decide +kernel
theorem dX12_doLead_34 : decode cX12_doLead 34 = .ok (.iload 6, 2) := by decide +kernel
theorem dX12_doLead_36 : decode cX12_doLead 36 = .ok (.invokevirtual 302, 3) := by decide +kernel
theorem dX12_doLead_39 : decode cX12_doLead 39 = .ok (.ifCond .ne 67, 3) := by decide +kernel
theorem dX12_doLead_42 : decode cX12_doLead 42 = .ok (.iload_n 3, 1) := by decide +kernel
theorem dX12_doLead_43 : decode cX12_doLead 43 = .ok (.iload 6, 2) := by decide +kernel
theorem dX12_doLead_45 : decode cX12_doLead 45 = .ok (.invokestatic 298, 3) := by decide +kernel
theorem dX12_doLead_48 : decode cX12_doLead 48 = .ok (.ifCond .eq 6, 3) := by decide +kernel
theorem dX12_doLead_51 : decode cX12_doLead 51 = .ok (.goto 55, 3) := by decide +kernel
theorem dX12_doLead_54 : decode cX12_doLead 54 = .ok (.iconst 1, 1) := by decide +kernel
theorem dX12_doLead_55 : decode cX12_doLead 55 = .ok (.aload_n 0, 1) := by decide +kernel
theorem dX12_doLead_56 : decode cX12_doLead 56 = .ok (.getfield 20, 3) := by decide +kernel
theorem dX12_doLead_59 : decode cX12_doLead 59 = .ok (.bipush 59, 2) := by decide +kernel
theorem dX12_doLead_61 : decode cX12_doLead 61 = .ok (.iconst 4, 1) := by decide +kernel
theorem dX12_doLead_62 : decode cX12_doLead 62 = .ok (.iload 6, 2) := by decide +kernel
theorem dX12_doLead_64 : decode cX12_doLead 64 = .ok (.imul, 1) := by decide +kernel
theorem dX12_doLead_65 : decode cX12_doLead 65 = .ok (.iadd, 1) := by decide +kernel
theorem dX12_doLead_66 : decode cX12_doLead 66 = .ok (.iaload, 1) := by decide +kernel
theorem dX12_doLead_67 : decode cX12_doLead 67 = .ok (.ishl, 1) := by decide +kernel
theorem dX12_doLead_68 : decode cX12_doLead 68 = .ok (.iconst 1, 1) := by decide +kernel
theorem dX12_doLead_69 : decode cX12_doLead 69 = .ok (.aload_n 0, 1) := by decide +kernel
theorem dX12_doLead_70 : decode cX12_doLead 70 = .ok (.getfield 20, 3) := by decide +kernel
theorem dX12_doLead_73 : decode cX12_doLead 73 = .ok (.bipush 59, 2) := by decide +kernel
theorem dX12_doLead_75 : decode cX12_doLead 75 = .ok (.iconst 4, 1) := by decide +kernel
theorem dX12_doLead_76 : decode cX12_doLead 76 = .ok (.iload 6, 2) := by decide +kernel
theorem dX12_doLead_78 : decode cX12_doLead 78 = .ok (.imul, 1) := by decide +kernel
theorem dX12_doLead_79 : decode cX12_doLead 79 = .ok (.iadd, 1) := by decide +kernel
theorem dX12_doLead_80 : decode cX12_doLead 80 = .ok (.iconst 1, 1) := by decide +kernel
theorem dX12_doLead_81 : decode cX12_doLead 81 = .ok (.iadd, 1) := by decide +kernel
theorem dX12_doLead_82 : decode cX12_doLead 82 = .ok (.iaload, 1) := by decide +kernel
theorem dX12_doLead_83 : decode cX12_doLead 83 = .ok (.ishl, 1) := by decide +kernel
theorem dX12_doLead_84 : decode cX12_doLead 84 = .ok (.ior, 1) := by decide +kernel
theorem dX12_doLead_85 : decode cX12_doLead 85 = .ok (.istore 7, 2) := by decide +kernel
theorem dX12_doLead_87 : decode cX12_doLead 87 = .ok (.iload 4, 2) := by decide +kernel
theorem dX12_doLead_89 : decode cX12_doLead 89 = .ok (.iload 4, 2) := by decide +kernel
theorem dX12_doLead_91 : decode cX12_doLead 91 = .ok (.iload 7, 2) := by decide +kernel
theorem dX12_doLead_93 : decode cX12_doLead 93 = .ok (.iand, 1) := by decide +kernel
theorem dX12_doLead_94 : decode cX12_doLead 94 = .ok (.ifCond .eq 8, 3) := by decide +kernel
theorem dX12_doLead_97 : decode cX12_doLead 97 = .ok (.iload 7, 2) := by decide +kernel
theorem dX12_doLead_99 : decode cX12_doLead 99 = .ok (.goto 4, 3) := by decide +kernel
theorem dX12_doLead_102 : decode cX12_doLead 102 = .ok (.iconst 0, 1) := by decide +kernel
theorem dX12_doLead_103 : decode cX12_doLead 103 = .ok (.ior, 1) := by decide +kernel
theorem dX12_doLead_104 : decode cX12_doLead 104 = .ok (.istore 4, 2) := by decide +kernel
theorem dX12_doLead_106 : decode cX12_doLead 106 = .ok (.iinc 6 1, 3) := by decide +kernel
theorem dX12_doLead_109 : decode cX12_doLead 109 = .ok (.goto (-87), 3) := by decide +kernel
theorem dX12_doLead_112 : decode cX12_doLead 112 = .ok (.goto (-104), 3) := by decide +kernel
theorem dX12_doLead_115 : decode cX12_doLead 115 = .ok (.iload 4, 2) := by decide +kernel
theorem dX12_doLead_117 : decode cX12_doLead 117 = .ok (.iload_n 2, 1) := by decide +kernel
theorem dX12_doLead_118 : decode cX12_doLead 118 = .ok (.invokestatic 298, 3) := by decide +kernel
theorem dX12_doLead_121 : decode cX12_doLead 121 = .ok (.ireturn, 1) := by decide +kernel
theorem dX12_watch_0 : decode cX12_watch 0 = .ok (.aload_n 0, 1) := by decide +kernel
theorem dX12_watch_1 : decode cX12_watch 1 = .ok (.invokevirtual 167, 3) := by decide +kernel
theorem dX12_watch_4 : decode cX12_watch 4 = .ok (.aload_n 0, 1) := by decide +kernel
theorem dX12_watch_5 : decode cX12_watch 5 = .ok (.iload_n 1, 1) := by decide +kernel
theorem dX12_watch_6 : decode cX12_watch 6 = .ok (.invokevirtual 277, 3) := by decide +kernel
theorem dX12_watch_9 : decode cX12_watch 9 = .ok (.ifCond .eq 16, 3) := by decide +kernel
theorem dX12_watch_12 : decode cX12_watch 12 = .ok (.aload_n 0, 1) := by decide +kernel
theorem dX12_watch_13 : decode cX12_watch 13 = .ok (.iload_n 2, 1) := by decide +kernel
theorem dX12_watch_14 : decode cX12_watch 14 = .ok (.invokevirtual 277, 3) := by decide +kernel
theorem dX12_watch_17 : decode cX12_watch 17 = .ok (.ifCond .eq 8, 3) := by decide +kernel
theorem dX12_watch_20 : decode cX12_watch 20 = .ok (.iload_n 1, 1) := by decide +kernel
theorem dX12_watch_21 : decode cX12_watch 21 = .ok (.iload_n 2, 1) := by decide +kernel
theorem dX12_watch_22 : decode cX12_watch 22 = .ok (.if_icmp .ne 9, 3) := by decide +kernel
theorem dX12_watch_25 : decode cX12_watch 25 = .ok (.aload_n 0, 1) := by decide +kernel
theorem dX12_watch_26 : decode cX12_watch 26 = .ok (.iconst 1, 1) := by decide +kernel
theorem dX12_watch_27 : decode cX12_watch 27 = .ok (.invokevirtual 170, 3) := by decide +kernel
theorem dX12_watch_30 : decode cX12_watch 30 = .ok (.ireturn, 1) := by decide +kernel
theorem dX12_watch_31 : decode cX12_watch 31 = .ok (.iconst 1, 1) := by decide +kernel
theorem dX12_watch_32 : decode cX12_watch 32 = .ok (.aload_n 0, 1) := by decide +kernel
theorem dX12_watch_33 : decode cX12_watch 33 = .ok (.getfield 20, 3) := by decide +kernel
theorem dX12_watch_36 : decode cX12_watch 36 = .ok (.iconst 5, 1) := by decide +kernel
theorem dX12_watch_37 : decode cX12_watch 37 = .ok (.iaload, 1) := by decide +kernel
theorem dX12_watch_38 : decode cX12_watch 38 = .ok (.ishl, 1) := by decide +kernel
theorem dX12_watch_39 : decode cX12_watch 39 = .ok (.iconst 1, 1) := by decide +kernel
theorem dX12_watch_40 : decode cX12_watch 40 = .ok (.isub, 1) := by decide +kernel
theorem dX12_watch_41 : decode cX12_watch 41 = .ok (.istore_n 3, 1) := by decide +kernel
theorem dX12_watch_42 : decode cX12_watch 42 = .ok (.iconst 0, 1) := by decide +kernel
theorem dX12_watch_43 : decode cX12_watch 43 = .ok (.istore 4, 2) := by decide +kernel
theorem dX12_watch_45 : decode cX12_watch 45 = .ok (.iload 4, 2) := by decide +kernel
theorem dX12_watch_47 : decode cX12_watch 47 = .ok (.iconst 1, 1) := by decide +kernel
theorem dX12_watch_48 : decode cX12_watch 48 = .ok (.aload_n 0, 1) := by decide +kernel
theorem dX12_watch_49 : decode cX12_watch 49 = .ok (.getfield 20, 3) := by decide +kernel
theorem dX12_watch_52 : decode cX12_watch 52 = .ok (.iconst 5, 1) := by decide +kernel
theorem dX12_watch_53 : decode cX12_watch 53 = .ok (.iaload, 1) := by decide +kernel
theorem dX12_watch_54 : decode cX12_watch 54 = .ok (.ishl, 1) := by decide +kernel
theorem dX12_watch_55 : decode cX12_watch 55 = .ok (.if_icmp .ge 35, 3) := by decide +kernel
theorem dX12_watch_58 : decode cX12_watch 58 = .ok (.iload 4, 2) := by decide +kernel
theorem dX12_watch_60 : decode cX12_watch 60 = .ok (.invokestatic 404, 3) := by decide +kernel
theorem dX12_watch_63 : decode cX12_watch 63 = .ok (.iload_n 3, 1) := by decide +kernel
theorem dX12_watch_64 : decode cX12_watch 64 = .ok (.invokestatic 404, 3) := by decide +kernel
theorem dX12_watch_67 : decode cX12_watch 67 = .ok (.if_icmp .ge 17, 3) := by decide +kernel
theorem dX12_watch_70 : decode cX12_watch 70 = .ok (.aload_n 0, 1) := by decide +kernel
theorem dX12_watch_71 : decode cX12_watch 71 = .ok (.iload_n 1, 1) := by decide +kernel
theorem dX12_watch_72 : decode cX12_watch 72 = .ok (.iload_n 2, 1) := by decide +kernel
theorem dX12_watch_73 : decode cX12_watch 73 = .ok (.iload 4, 2) := by decide +kernel
theorem dX12_watch_75 : decode cX12_watch 75 = .ok (.invokevirtual 407, 3) := by decide +kernel
theorem dX12_watch_78 : decode cX12_watch 78 = .ok (.ifCond .ne 6, 3) := by decide +kernel
theorem dX12_watch_81 : decode cX12_watch 81 = .ok (.iload 4, 2) := by decide +kernel
theorem dX12_watch_83 : decode cX12_watch 83 = .ok (.istore_n 3, 1) := by decide +kernel
theorem dX12_watch_84 : decode cX12_watch 84 = .ok (.iinc 4 1, 3) := by decide +kernel
theorem dX12_watch_87 : decode cX12_watch 87 = .ok (.goto (-42), 3) := by decide +kernel
theorem dX12_watch_90 : decode cX12_watch 90 = .ok (.iload_n 3, 1) := by decide +kernel
theorem dX12_watch_91 : decode cX12_watch 91 = .ok (.aload_n 0, 1) := by decide +kernel
theorem dX12_watch_92 : decode cX12_watch 92 = .ok (.getfield 26, 3) := by decide +kernel
theorem dX12_watch_95 : decode cX12_watch 95 = .ok (.iconst 1, 1) := by decide +kernel
theorem dX12_watch_96 : decode cX12_watch 96 = .ok (.iaload, 1) := by decide +kernel
theorem dX12_watch_97 : decode cX12_watch 97 = .ok (.iconst (-1), 1) := by decide +kernel
theorem dX12_watch_98 : decode cX12_watch 98 = .ok (.ixor, 1) := by decide +kernel
theorem dX12_watch_99 : decode cX12_watch 99 = .ok (.iand, 1) := by decide +kernel
theorem dX12_watch_100 : decode cX12_watch 100 = .ok (.ireturn, 1) := by decide +kernel
theorem dX12_layFar_0 : decode cX12_layFar 0 = .ok (.iconst 0, 1) := by decide +kernel
theorem dX12_layFar_1 : decode cX12_layFar 1 = .ok (.istore_n 1, 1) := by decide +kernel
theorem dX12_layFar_2 : decode cX12_layFar 2 = .ok (.iload_n 1, 1) := by decide +kernel
theorem dX12_layFar_3 : decode cX12_layFar 3 = .ok (.bipush 7, 2) := by decide +kernel
theorem dX12_layFar_5 : decode cX12_layFar 5 = .ok (.if_icmp .ge 102, 3) := by decide +kernel
theorem dX12_layFar_8 : decode cX12_layFar 8 = .ok (.iconst 0, 1) := by decide +kernel
theorem dX12_layFar_9 : decode cX12_layFar 9 = .ok (.istore_n 2, 1) := by decide +kernel
theorem dX12_layFar_10 : decode cX12_layFar 10 = .ok (.iload_n 2, 1) := by decide +kernel
theorem dX12_layFar_11 : decode cX12_layFar 11 = .ok (.bipush 7, 2) := by decide +kernel
theorem dX12_layFar_13 : decode cX12_layFar 13 = .ok (.if_icmp .ge 88, 3) := by decide +kernel
theorem dX12_layFar_16 : decode cX12_layFar 16 = .ok (.iload_n 1, 1) := by decide +kernel
theorem dX12_layFar_17 : decode cX12_layFar 17 = .ok (.aload_n 0, 1) := by decide +kernel
theorem dX12_layFar_18 : decode cX12_layFar 18 = .ok (.getfield 20, 3) := by decide +kernel
theorem dX12_layFar_21 : decode cX12_layFar 21 = .ok (.iconst 4, 1) := by decide +kernel
theorem dX12_layFar_22 : decode cX12_layFar 22 = .ok (.iaload, 1) := by decide +kernel
theorem dX12_layFar_23 : decode cX12_layFar 23 = .ok (.if_icmp .ge 27, 3) := by decide +kernel
theorem dX12_layFar_26 : decode cX12_layFar 26 = .ok (.iload_n 2, 1) := by decide +kernel
theorem dX12_layFar_27 : decode cX12_layFar 27 = .ok (.aload_n 0, 1) := by decide +kernel
theorem dX12_layFar_28 : decode cX12_layFar 28 = .ok (.getfield 20, 3) := by decide +kernel
theorem dX12_layFar_31 : decode cX12_layFar 31 = .ok (.iconst 4, 1) := by decide +kernel
theorem dX12_layFar_32 : decode cX12_layFar 32 = .ok (.iaload, 1) := by decide +kernel
theorem dX12_layFar_33 : decode cX12_layFar 33 = .ok (.if_icmp .ge 17, 3) := by decide +kernel
theorem dX12_layFar_36 : decode cX12_layFar 36 = .ok (.iload_n 1, 1) := by decide +kernel
theorem dX12_layFar_37 : decode cX12_layFar 37 = .ok (.iload_n 2, 1) := by decide +kernel
theorem dX12_layFar_38 : decode cX12_layFar 38 = .ok (.if_icmp .eq 12, 3) := by decide +kernel
theorem dX12_layFar_41 : decode cX12_layFar 41 = .ok (.aload_n 0, 1) := by decide +kernel
theorem dX12_layFar_42 : decode cX12_layFar 42 = .ok (.iload_n 1, 1) := by decide +kernel
theorem dX12_layFar_43 : decode cX12_layFar 43 = .ok (.iload_n 2, 1) := by decide +kernel
theorem dX12_layFar_44 : decode cX12_layFar 44 = .ok (.invokevirtual 305, 3) := by decide +kernel
theorem dX12_layFar_47 : decode cX12_layFar 47 = .ok (.goto 4, 3) := by decide +kernel
theorem dX12_layFar_50 : decode cX12_layFar 50 = .ok (.iconst (-1), 1) := by decide +kernel
theorem dX12_layFar_51 : decode cX12_layFar 51 = .ok (.istore_n 3, 1) := by decide +kernel
theorem dX12_layFar_52 : decode cX12_layFar 52 = .ok (.aload_n 0, 1) := by decide +kernel
theorem dX12_layFar_53 : decode cX12_layFar 53 = .ok (.getfield 53, 3) := by decide +kernel
theorem dX12_layFar_56 : decode cX12_layFar 56 = .ok (.bipush 7, 2) := by decide +kernel
theorem dX12_layFar_58 : decode cX12_layFar 58 = .ok (.iload_n 1, 1) := by decide +kernel
theorem dX12_layFar_59 : decode cX12_layFar 59 = .ok (.imul, 1) := by decide +kernel
theorem dX12_layFar_60 : decode cX12_layFar 60 = .ok (.iload_n 2, 1) := by decide +kernel
theorem dX12_layFar_61 : decode cX12_layFar 61 = .ok (.iadd, 1) := by decide +kernel
theorem dX12_layFar_62 : decode cX12_layFar 62 = .ok (.iload_n 1, 1) := by decide +kernel
theorem dX12_layFar_63 : decode cX12_layFar 63 = .ok (.iload_n 2, 1) := by decide +kernel
theorem dX12_layFar_64 : decode cX12_layFar 64 = .ok (.if_icmp .ne 7, 3) := by decide +kernel
theorem dX12_layFar_67 : decode cX12_layFar 67 = .ok (.iconst 0, 1) := by decide +kernel
theorem dX12_layFar_68 : decode cX12_layFar 68 = .ok (.goto 26, 3) := by decide +kernel
theorem dX12_layFar_71 : decode cX12_layFar 71 = .ok (.iload_n 3, 1) := by decide +kernel
theorem dX12_layFar_72 : decode cX12_layFar 72 = .ok (.ifCond .ge 9, 3) := by decide +kernel
theorem dX12_layFar_75 : decode cX12_layFar 75 = .ok (.ldc_w 341, 3) := by decide +kernel
theorem dX12_layFar_78 : decode cX12_layFar 78 = .ok (.goto 16, 3) := by decide +kernel
theorem dX12_layFar_81 : decode cX12_layFar 81 = .ok (.aload_n 0, 1) := by decide +kernel
theorem dX12_layFar_82 : decode cX12_layFar 82 = .ok (.getfield 20, 3) := by decide +kernel
theorem dX12_layFar_85 : decode cX12_layFar 85 = .ok (.bipush 59, 2) := by decide +kernel
theorem dX12_layFar_87 : decode cX12_layFar 87 = .ok (.iconst 4, 1) := by decide +kernel
theorem dX12_layFar_88 : decode cX12_layFar 88 = .ok (.iload_n 3, 1) := by decide +kernel
theorem dX12_layFar_89 : decode cX12_layFar 89 = .ok (.imul, 1) := by decide +kernel
theorem dX12_layFar_90 : decode cX12_layFar 90 = .ok (.iadd, 1) := by decide +kernel
theorem dX12_layFar_91 : decode cX12_layFar 91 = .ok (.iconst 2, 1) := by decide +kernel
theorem dX12_layFar_92 : decode cX12_layFar 92 = .ok (.iadd, 1) := by decide +kernel
theorem dX12_layFar_93 : decode cX12_layFar 93 = .ok (.iaload, 1) := by decide +kernel
theorem dX12_layFar_94 : decode cX12_layFar 94 = .ok (.iastore, 1) := by decide +kernel
theorem dX12_layFar_95 : decode cX12_layFar 95 = .ok (.iinc 2 1, 3) := by decide +kernel
theorem dX12_layFar_98 : decode cX12_layFar 98 = .ok (.goto (-88), 3) := by decide +kernel
theorem dX12_layFar_101 : decode cX12_layFar 101 = .ok (.iinc 1 1, 3) := by decide +kernel
theorem dX12_layFar_104 : decode cX12_layFar 104 = .ok (.goto (-102), 3) := by decide +kernel
theorem dX12_layFar_107 : decode cX12_layFar 107 = .ok (.iconst 0, 1) := by decide +kernel
theorem dX12_layFar_108 : decode cX12_layFar 108 = .ok (.istore_n 1, 1) := by decide +kernel
theorem dX12_layFar_109 : decode cX12_layFar 109 = .ok (.iload_n 1, 1) := by decide +kernel
theorem dX12_layFar_110 : decode cX12_layFar 110 = .ok (.bipush 7, 2) := by decide +kernel
theorem dX12_layFar_112 : decode cX12_layFar 112 = .ok (.if_icmp .ge 108, 3) := by decide +kernel
theorem dX12_layFar_115 : decode cX12_layFar 115 = .ok (.iconst 0, 1) := by decide +kernel
theorem dX12_layFar_116 : decode cX12_layFar 116 = .ok (.istore_n 2, 1) := by decide +kernel
theorem dX12_layFar_117 : decode cX12_layFar 117 = .ok (.iload_n 2, 1) := by decide +kernel
theorem dX12_layFar_118 : decode cX12_layFar 118 = .ok (.bipush 7, 2) := by decide +kernel
theorem dX12_layFar_120 : decode cX12_layFar 120 = .ok (.if_icmp .ge 94, 3) := by decide +kernel
theorem dX12_layFar_123 : decode cX12_layFar 123 = .ok (.iconst 0, 1) := by decide +kernel
theorem dX12_layFar_124 : decode cX12_layFar 124 = .ok (.istore_n 3, 1) := by decide +kernel
theorem dX12_layFar_125 : decode cX12_layFar 125 = .ok (.iload_n 3, 1) := by decide +kernel
theorem dX12_layFar_126 : decode cX12_layFar 126 = .ok (.bipush 7, 2) := by decide +kernel
theorem dX12_layFar_128 : decode cX12_layFar 128 = .ok (.if_icmp .ge 80, 3) := by decide +kernel
theorem dX12_layFar_131 : decode cX12_layFar 131 = .ok (.aload_n 0, 1) := by decide +kernel
theorem dX12_layFar_132 : decode cX12_layFar 132 = .ok (.getfield 53, 3) := by decide +kernel
theorem dX12_layFar_135 : decode cX12_layFar 135 = .ok (.bipush 7, 2) := by decide +kernel
theorem dX12_layFar_137 : decode cX12_layFar 137 = .ok (.iload_n 2, 1) := by decide +kernel
theorem dX12_layFar_138 : decode cX12_layFar 138 = .ok (.imul, 1) := by decide +kernel
theorem dX12_layFar_139 : decode cX12_layFar 139 = .ok (.iload_n 1, 1) := by decide +kernel
theorem dX12_layFar_140 : decode cX12_layFar 140 = .ok (.iadd, 1) := by decide +kernel
theorem dX12_layFar_141 : decode cX12_layFar 141 = .ok (.iaload, 1) := by decide +kernel
theorem dX12_layFar_142 : decode cX12_layFar 142 = .ok (.aload_n 0, 1) := by decide +kernel
theorem dX12_layFar_143 : decode cX12_layFar 143 = .ok (.getfield 53, 3) := by decide +kernel
theorem dX12_layFar_146 : decode cX12_layFar 146 = .ok (.bipush 7, 2) := by decide +kernel
theorem dX12_layFar_148 : decode cX12_layFar 148 = .ok (.iload_n 1, 1) := by decide +kernel
theorem dX12_layFar_149 : decode cX12_layFar 149 = .ok (.imul, 1) := by decide +kernel
theorem dX12_layFar_150 : decode cX12_layFar 150 = .ok (.iload_n 3, 1) := by decide +kernel
theorem dX12_layFar_151 : decode cX12_layFar 151 = .ok (.iadd, 1) := by decide +kernel
theorem dX12_layFar_152 : decode cX12_layFar 152 = .ok (.iaload, 1) := by decide +kernel
theorem dX12_layFar_153 : decode cX12_layFar 153 = .ok (.iadd, 1) := by decide +kernel
theorem dX12_layFar_154 : decode cX12_layFar 154 = .ok (.aload_n 0, 1) := by decide +kernel
theorem dX12_layFar_155 : decode cX12_layFar 155 = .ok (.getfield 53, 3) := by decide +kernel
theorem dX12_layFar_158 : decode cX12_layFar 158 = .ok (.bipush 7, 2) := by decide +kernel
theorem dX12_layFar_160 : decode cX12_layFar 160 = .ok (.iload_n 2, 1) := by decide +kernel
theorem dX12_layFar_161 : decode cX12_layFar 161 = .ok (.imul, 1) := by decide +kernel
theorem dX12_layFar_162 : decode cX12_layFar 162 = .ok (.iload_n 3, 1) := by decide +kernel
theorem dX12_layFar_163 : decode cX12_layFar 163 = .ok (.iadd, 1) := by decide +kernel
theorem dX12_layFar_164 : decode cX12_layFar 164 = .ok (.iaload, 1) := by decide +kernel
theorem dX12_layFar_165 : decode cX12_layFar 165 = .ok (.if_icmp .ge 37, 3) := by decide +kernel
theorem dX12_layFar_168 : decode cX12_layFar 168 = .ok (.aload_n 0, 1) := by decide +kernel
theorem dX12_layFar_169 : decode cX12_layFar 169 = .ok (.getfield 53, 3) := by decide +kernel
theorem dX12_layFar_172 : decode cX12_layFar 172 = .ok (.bipush 7, 2) := by decide +kernel
theorem dX12_layFar_174 : decode cX12_layFar 174 = .ok (.iload_n 2, 1) := by decide +kernel
theorem dX12_layFar_175 : decode cX12_layFar 175 = .ok (.imul, 1) := by decide +kernel
theorem dX12_layFar_176 : decode cX12_layFar 176 = .ok (.iload_n 3, 1) := by decide +kernel
theorem dX12_layFar_177 : decode cX12_layFar 177 = .ok (.iadd, 1) := by decide +kernel
theorem dX12_layFar_178 : decode cX12_layFar 178 = .ok (.aload_n 0, 1) := by decide +kernel
theorem dX12_layFar_179 : decode cX12_layFar 179 = .ok (.getfield 53, 3) := by decide +kernel
theorem dX12_layFar_182 : decode cX12_layFar 182 = .ok (.bipush 7, 2) := by decide +kernel
theorem dX12_layFar_184 : decode cX12_layFar 184 = .ok (.iload_n 2, 1) := by decide +kernel
theorem dX12_layFar_185 : decode cX12_layFar 185 = .ok (.imul, 1) := by decide +kernel
theorem dX12_layFar_186 : decode cX12_layFar 186 = .ok (.iload_n 1, 1) := by decide +kernel
theorem dX12_layFar_187 : decode cX12_layFar 187 = .ok (.iadd, 1) := by decide +kernel
theorem dX12_layFar_188 : decode cX12_layFar 188 = .ok (.iaload, 1) := by decide +kernel
theorem dX12_layFar_189 : decode cX12_layFar 189 = .ok (.aload_n 0, 1) := by decide +kernel
theorem dX12_layFar_190 : decode cX12_layFar 190 = .ok (.getfield 53, 3) := by decide +kernel
theorem dX12_layFar_193 : decode cX12_layFar 193 = .ok (.bipush 7, 2) := by decide +kernel
theorem dX12_layFar_195 : decode cX12_layFar 195 = .ok (.iload_n 1, 1) := by decide +kernel
theorem dX12_layFar_196 : decode cX12_layFar 196 = .ok (.imul, 1) := by decide +kernel
theorem dX12_layFar_197 : decode cX12_layFar 197 = .ok (.iload_n 3, 1) := by decide +kernel
theorem dX12_layFar_198 : decode cX12_layFar 198 = .ok (.iadd, 1) := by decide +kernel
theorem dX12_layFar_199 : decode cX12_layFar 199 = .ok (.iaload, 1) := by decide +kernel
theorem dX12_layFar_200 : decode cX12_layFar 200 = .ok (.iadd, 1) := by decide +kernel
theorem dX12_layFar_201 : decode cX12_layFar 201 = .ok (.iastore, 1) := by decide +kernel
theorem dX12_layFar_202 : decode cX12_layFar 202 = .ok (.iinc 3 1, 3) := by decide +kernel
theorem dX12_layFar_205 : decode cX12_layFar 205 = .ok (.goto (-80), 3) := by decide +kernel
theorem dX12_layFar_208 : decode cX12_layFar 208 = .ok (.iinc 2 1, 3) := by decide +kernel
theorem dX12_layFar_211 : decode cX12_layFar 211 = .ok (.goto (-94), 3) := by decide +kernel
theorem dX12_layFar_214 : decode cX12_layFar 214 = .ok (.iinc 1 1, 3) := by decide +kernel
theorem dX12_layFar_217 : decode cX12_layFar 217 = .ok (.goto (-108), 3) := by decide +kernel
theorem dX12_layFar_220 : decode cX12_layFar 220 = .ok (.return_, 1) := by decide +kernel
theorem dX12_tryRound_0 : decode cX12_tryRound 0 = .ok (.iload_n 3, 1) := by decide +kernel
theorem dX12_tryRound_1 : decode cX12_tryRound 1 = .ok (.aload_n 0, 1) := by decide +kernel
theorem dX12_tryRound_2 : decode cX12_tryRound 2 = .ok (.getfield 410, 3) := by decide +kernel
theorem dX12_tryRound_5 : decode cX12_tryRound 5 = .ok (.if_icmp .lt 4, 3) := by decide +kernel
theorem dX12_tryRound_8 : decode cX12_tryRound 8 = .ok (.return_, 1) := by decide +kernel
theorem dX12_tryRound_9 : decode cX12_tryRound 9 = .ok (.iload_n 1, 1) := by decide +kernel
theorem dX12_tryRound_10 : decode cX12_tryRound 10 = .ok (.aload_n 0, 1) := by decide +kernel
theorem dX12_tryRound_11 : decode cX12_tryRound 11 = .ok (.getfield 20, 3) := by decide +kernel
theorem dX12_tryRound_14 : decode cX12_tryRound 14 = .ok (.iconst 4, 1) := by decide +kernel
theorem dX12_tryRound_15 : decode cX12_tryRound 15 = .ok (.iaload, 1) := by decide +kernel
theorem dX12_tryRound_16 : decode cX12_tryRound 16 = .ok (.if_icmp .ne 23, 3) := by decide +kernel
theorem dX12_tryRound_19 : decode cX12_tryRound 19 = .ok (.aload_n 0, 1) := by decide +kernel
theorem dX12_tryRound_20 : decode cX12_tryRound 20 = .ok (.iload_n 3, 1) := by decide +kernel
theorem dX12_tryRound_21 : decode cX12_tryRound 21 = .ok (.putfield 410, 3) := by decide +kernel
theorem dX12_tryRound_24 : decode cX12_tryRound 24 = .ok (.aload_n 0, 1) := by decide +kernel
theorem dX12_tryRound_25 : decode cX12_tryRound 25 = .ok (.getfield 56, 3) := by decide +kernel
theorem dX12_tryRound_28 : decode cX12_tryRound 28 = .ok (.iconst 0, 1) := by decide +kernel
theorem dX12_tryRound_29 : decode cX12_tryRound 29 = .ok (.aload_n 0, 1) := by decide +kernel
theorem dX12_tryRound_30 : decode cX12_tryRound 30 = .ok (.getfield 59, 3) := by decide +kernel
theorem dX12_tryRound_33 : decode cX12_tryRound 33 = .ok (.iconst 0, 1) := by decide +kernel
theorem dX12_tryRound_34 : decode cX12_tryRound 34 = .ok (.iload_n 1, 1) := by decide +kernel
theorem dX12_tryRound_35 : decode cX12_tryRound 35 = .ok (.invokestatic 176, 3) := by decide +kernel
theorem dX12_tryRound_38 : decode cX12_tryRound 38 = .ok (.return_, 1) := by decide +kernel
theorem dX12_tryRound_39 : decode cX12_tryRound 39 = .ok (.iconst 0, 1) := by decide +kernel
theorem dX12_tryRound_40 : decode cX12_tryRound 40 = .ok (.istore 4, 2) := by decide +kernel
theorem dX12_tryRound_42 : decode cX12_tryRound 42 = .ok (.iload 4, 2) := by decide +kernel
theorem dX12_tryRound_44 : decode cX12_tryRound 44 = .ok (.aload_n 0, 1) := by decide +kernel
theorem dX12_tryRound_45 : decode cX12_tryRound 45 = .ok (.getfield 20, 3) := by decide +kernel
theorem dX12_tryRound_48 : decode cX12_tryRound 48 = .ok (.iconst 4, 1) := by decide +kernel
theorem dX12_tryRound_49 : decode cX12_tryRound 49 = .ok (.iaload, 1) := by decide +kernel
theorem dX12_tryRound_50 : decode cX12_tryRound 50 = .ok (.if_icmp .ge 63, 3) := by decide +kernel
theorem dX12_tryRound_53 : decode cX12_tryRound 53 = .ok (.iload_n 2, 1) := by decide +kernel
theorem dX12_tryRound_54 : decode cX12_tryRound 54 = .ok (.iload 4, 2) := by decide +kernel
theorem dX12_tryRound_56 : decode cX12_tryRound 56 = .ok (.invokestatic 298, 3) := by decide +kernel
theorem dX12_tryRound_59 : decode cX12_tryRound 59 = .ok (.ifCond .eq 6, 3) := by decide +kernel
theorem dX12_tryRound_62 : decode cX12_tryRound 62 = .ok (.goto 45, 3) := by decide +kernel
theorem dX12_tryRound_65 : decode cX12_tryRound 65 = .ok (.aload_n 0, 1) := by decide +kernel
theorem dX12_tryRound_66 : decode cX12_tryRound 66 = .ok (.getfield 56, 3) := by decide +kernel
theorem dX12_tryRound_69 : decode cX12_tryRound 69 = .ok (.iload_n 1, 1) := by decide +kernel
theorem dX12_tryRound_70 : decode cX12_tryRound 70 = .ok (.iload 4, 2) := by decide +kernel
theorem dX12_tryRound_72 : decode cX12_tryRound 72 = .ok (.iastore, 1) := by decide +kernel
theorem dX12_tryRound_73 : decode cX12_tryRound 73 = .ok (.aload_n 0, 1) := by decide +kernel
theorem dX12_tryRound_74 : decode cX12_tryRound 74 = .ok (.iload_n 1, 1) := by decide +kernel
theorem dX12_tryRound_75 : decode cX12_tryRound 75 = .ok (.iconst 1, 1) := by decide +kernel
theorem dX12_tryRound_76 : decode cX12_tryRound 76 = .ok (.iadd, 1) := by decide +kernel
theorem dX12_tryRound_77 : decode cX12_tryRound 77 = .ok (.iload_n 2, 1) := by decide +kernel
theorem dX12_tryRound_78 : decode cX12_tryRound 78 = .ok (.iconst 1, 1) := by decide +kernel
theorem dX12_tryRound_79 : decode cX12_tryRound 79 = .ok (.iload 4, 2) := by decide +kernel
theorem dX12_tryRound_81 : decode cX12_tryRound 81 = .ok (.ishl, 1) := by decide +kernel
theorem dX12_tryRound_82 : decode cX12_tryRound 82 = .ok (.ior, 1) := by decide +kernel
theorem dX12_tryRound_83 : decode cX12_tryRound 83 = .ok (.iload_n 3, 1) := by decide +kernel
theorem dX12_tryRound_84 : decode cX12_tryRound 84 = .ok (.aload_n 0, 1) := by decide +kernel
theorem dX12_tryRound_85 : decode cX12_tryRound 85 = .ok (.getfield 53, 3) := by decide +kernel
theorem dX12_tryRound_88 : decode cX12_tryRound 88 = .ok (.bipush 7, 2) := by decide +kernel
theorem dX12_tryRound_90 : decode cX12_tryRound 90 = .ok (.aload_n 0, 1) := by decide +kernel
theorem dX12_tryRound_91 : decode cX12_tryRound 91 = .ok (.getfield 56, 3) := by decide +kernel
theorem dX12_tryRound_94 : decode cX12_tryRound 94 = .ok (.iload_n 1, 1) := by decide +kernel
theorem dX12_tryRound_95 : decode cX12_tryRound 95 = .ok (.iconst 1, 1) := by decide +kernel
theorem dX12_tryRound_96 : decode cX12_tryRound 96 = .ok (.isub, 1) := by decide +kernel
theorem dX12_tryRound_97 : decode cX12_tryRound 97 = .ok (.iaload, 1) := by decide +kernel
theorem dX12_tryRound_98 : decode cX12_tryRound 98 = .ok (.imul, 1) := by decide +kernel
theorem dX12_tryRound_99 : decode cX12_tryRound 99 = .ok (.iload 4, 2) := by decide +kernel
theorem dX12_tryRound_101 : decode cX12_tryRound 101 = .ok (.iadd, 1) := by decide +kernel
theorem dX12_tryRound_102 : decode cX12_tryRound 102 = .ok (.iaload, 1) := by decide +kernel
theorem dX12_tryRound_103 : decode cX12_tryRound 103 = .ok (.iadd, 1) := by decide +kernel
theorem dX12_tryRound_104 : decode cX12_tryRound 104 = .ok (.invokevirtual 413, 3) := by decide +kernel
theorem dX12_tryRound_107 : decode cX12_tryRound 107 = .ok (.iinc 4 1, 3) := by decide +kernel
theorem dX12_tryRound_110 : decode cX12_tryRound 110 = .ok (.goto (-68), 3) := by decide +kernel
theorem dX12_tryRound_113 : decode cX12_tryRound 113 = .ok (.return_, 1) := by decide +kernel
theorem dX12_seekRound_0 : decode cX12_seekRound 0 = .ok (.aload_n 0, 1) := by decide +kernel
theorem dX12_seekRound_1 : decode cX12_seekRound 1 = .ok (.invokevirtual 416, 3) := by decide +kernel
theorem dX12_seekRound_4 : decode cX12_seekRound 4 = .ok (.aload_n 0, 1) := by decide +kernel
theorem dX12_seekRound_5 : decode cX12_seekRound 5 = .ok (.ldc_w 341, 3) := by decide +kernel
theorem dX12_seekRound_8 : decode cX12_seekRound 8 = .ok (.putfield 410, 3) := by decide +kernel
theorem dX12_seekRound_11 : decode cX12_seekRound 11 = .ok (.aload_n 0, 1) := by decide +kernel
theorem dX12_seekRound_12 : decode cX12_seekRound 12 = .ok (.getfield 56, 3) := by decide +kernel
theorem dX12_seekRound_15 : decode cX12_seekRound 15 = .ok (.iconst 0, 1) := by decide +kernel
theorem dX12_seekRound_16 : decode cX12_seekRound 16 = .ok (.iload_n 1, 1) := by decide +kernel
theorem dX12_seekRound_17 : decode cX12_seekRound 17 = .ok (.iastore, 1) := by decide +kernel
theorem dX12_seekRound_18 : decode cX12_seekRound 18 = .ok (.aload_n 0, 1) := by decide +kernel
theorem dX12_seekRound_19 : decode cX12_seekRound 19 = .ok (.iconst 1, 1) := by decide +kernel
theorem dX12_seekRound_20 : decode cX12_seekRound 20 = .ok (.iconst 1, 1) := by decide +kernel
theorem dX12_seekRound_21 : decode cX12_seekRound 21 = .ok (.iload_n 1, 1) := by decide +kernel
theorem dX12_seekRound_22 : decode cX12_seekRound 22 = .ok (.ishl, 1) := by decide +kernel
theorem dX12_seekRound_23 : decode cX12_seekRound 23 = .ok (.iconst 0, 1) := by decide +kernel
theorem dX12_seekRound_24 : decode cX12_seekRound 24 = .ok (.invokevirtual 413, 3) := by decide +kernel
theorem dX12_seekRound_27 : decode cX12_seekRound 27 = .ok (.aload_n 0, 1) := by decide +kernel
theorem dX12_seekRound_28 : decode cX12_seekRound 28 = .ok (.getfield 410, 3) := by decide +kernel
theorem dX12_seekRound_31 : decode cX12_seekRound 31 = .ok (.ldc_w 341, 3) := by decide +kernel
theorem dX12_seekRound_34 : decode cX12_seekRound 34 = .ok (.if_icmp .ne 8, 3) := by decide +kernel
theorem dX12_seekRound_37 : decode cX12_seekRound 37 = .ok (.bipush (-2), 2) := by decide +kernel
theorem dX12_seekRound_39 : decode cX12_seekRound 39 = .ok (.goto 7, 3) := by decide +kernel
theorem dX12_seekRound_42 : decode cX12_seekRound 42 = .ok (.aload_n 0, 1) := by decide +kernel
theorem dX12_seekRound_43 : decode cX12_seekRound 43 = .ok (.getfield 410, 3) := by decide +kernel
theorem dX12_seekRound_46 : decode cX12_seekRound 46 = .ok (.ireturn, 1) := by decide +kernel
theorem dX12_round_0 : decode cX12_round 0 = .ok (.aload_n 0, 1) := by decide +kernel
theorem dX12_round_1 : decode cX12_round 1 = .ok (.invokevirtual 167, 3) := by decide +kernel
theorem dX12_round_4 : decode cX12_round 4 = .ok (.aload_n 0, 1) := by decide +kernel
theorem dX12_round_5 : decode cX12_round 5 = .ok (.iload_n 1, 1) := by decide +kernel
theorem dX12_round_6 : decode cX12_round 6 = .ok (.invokevirtual 277, 3) := by decide +kernel
theorem dX12_round_9 : decode cX12_round 9 = .ok (.ifCond .eq 11, 3) := by decide +kernel
theorem dX12_round_12 : decode cX12_round 12 = .ok (.aload_n 0, 1) := by decide +kernel
theorem dX12_round_13 : decode cX12_round 13 = .ok (.iload_n 1, 1) := by decide +kernel
theorem dX12_round_14 : decode cX12_round 14 = .ok (.invokevirtual 419, 3) := by decide +kernel
theorem dX12_round_17 : decode cX12_round 17 = .ok (.goto 8, 3) := by decide +kernel
theorem dX12_round_20 : decode cX12_round 20 = .ok (.aload_n 0, 1) := by decide +kernel
theorem dX12_round_21 : decode cX12_round 21 = .ok (.iconst 1, 1) := by decide +kernel
theorem dX12_round_22 : decode cX12_round 22 = .ok (.invokevirtual 170, 3) := by decide +kernel
theorem dX12_round_25 : decode cX12_round 25 = .ok (.ireturn, 1) := by decide +kernel
theorem dX12_roundAt_0 : decode cX12_roundAt 0 = .ok (.aload_n 0, 1) := by decide +kernel
theorem dX12_roundAt_1 : decode cX12_roundAt 1 = .ok (.invokevirtual 167, 3) := by decide +kernel
theorem dX12_roundAt_4 : decode cX12_roundAt 4 = .ok (.aload_n 0, 1) := by decide +kernel
theorem dX12_roundAt_5 : decode cX12_roundAt 5 = .ok (.iload_n 1, 1) := by decide +kernel
theorem dX12_roundAt_6 : decode cX12_roundAt 6 = .ok (.invokevirtual 277, 3) := by decide +kernel
theorem dX12_roundAt_9 : decode cX12_roundAt 9 = .ok (.ifCond .eq 19, 3) := by decide +kernel
theorem dX12_roundAt_12 : decode cX12_roundAt 12 = .ok (.iload_n 2, 1) := by decide +kernel
theorem dX12_roundAt_13 : decode cX12_roundAt 13 = .ok (.iconst 0, 1) := by decide +kernel
theorem dX12_roundAt_14 : decode cX12_roundAt 14 = .ok (.aload_n 0, 1) := by decide +kernel
theorem dX12_roundAt_15 : decode cX12_roundAt 15 = .ok (.getfield 20, 3) := by decide +kernel
theorem dX12_roundAt_18 : decode cX12_roundAt 18 = .ok (.iconst 4, 1) := by decide +kernel
theorem dX12_roundAt_19 : decode cX12_roundAt 19 = .ok (.iaload, 1) := by decide +kernel
theorem dX12_roundAt_20 : decode cX12_roundAt 20 = .ok (.iconst 1, 1) := by decide +kernel
theorem dX12_roundAt_21 : decode cX12_roundAt 21 = .ok (.isub, 1) := by decide +kernel
theorem dX12_roundAt_22 : decode cX12_roundAt 22 = .ok (.invokestatic 149, 3) := by decide +kernel
theorem dX12_roundAt_25 : decode cX12_roundAt 25 = .ok (.ifCond .ne 9, 3) := by decide +kernel
theorem dX12_roundAt_28 : decode cX12_roundAt 28 = .ok (.aload_n 0, 1) := by decide +kernel
theorem dX12_roundAt_29 : decode cX12_roundAt 29 = .ok (.iconst 1, 1) := by decide +kernel
theorem dX12_roundAt_30 : decode cX12_roundAt 30 = .ok (.invokevirtual 170, 3) := by decide +kernel
theorem dX12_roundAt_33 : decode cX12_roundAt 33 = .ok (.ireturn, 1) := by decide +kernel
theorem dX12_roundAt_34 : decode cX12_roundAt 34 = .ok (.aload_n 0, 1) := by decide +kernel
theorem dX12_roundAt_35 : decode cX12_roundAt 35 = .ok (.iload_n 1, 1) := by decide +kernel
theorem dX12_roundAt_36 : decode cX12_roundAt 36 = .ok (.invokevirtual 419, 3) := by decide +kernel
theorem dX12_roundAt_39 : decode cX12_roundAt 39 = .ok (.ifCond .ge 12, 3) := by decide +kernel
theorem dX12_roundAt_42 : decode cX12_roundAt 42 = .ok (.aload_n 0, 1) := by decide +kernel
theorem dX12_roundAt_43 : decode cX12_roundAt 43 = .ok (.bipush 6, 2) := by decide +kernel
theorem dX12_roundAt_45 : decode cX12_roundAt 45 = .ok (.invokevirtual 170, 3) := by decide +kernel
theorem dX12_roundAt_48 : decode cX12_roundAt 48 = .ok (.goto 9, 3) := by decide +kernel
theorem dX12_roundAt_51 : decode cX12_roundAt 51 = .ok (.aload_n 0, 1) := by decide +kernel
theorem dX12_roundAt_52 : decode cX12_roundAt 52 = .ok (.getfield 59, 3) := by decide +kernel
theorem dX12_roundAt_55 : decode cX12_roundAt 55 = .ok (.iload_n 2, 1) := by decide +kernel
theorem dX12_roundAt_56 : decode cX12_roundAt 56 = .ok (.iaload, 1) := by decide +kernel
theorem dX12_roundAt_57 : decode cX12_roundAt 57 = .ok (.ireturn, 1) := by decide +kernel
theorem dX12_decade_0 : decode cX12_decade 0 = .ok (.aload_n 0, 1) := by decide +kernel
theorem dX12_decade_1 : decode cX12_decade 1 = .ok (.invokevirtual 167, 3) := by decide +kernel
theorem dX12_decade_4 : decode cX12_decade 4 = .ok (.aload_n 0, 1) := by decide +kernel
theorem dX12_decade_5 : decode cX12_decade 5 = .ok (.getfield 180, 3) := by decide +kernel
theorem dX12_decade_8 : decode cX12_decade 8 = .ok (.ifCond .ne 9, 3) := by decide +kernel
theorem dX12_decade_11 : decode cX12_decade 11 = .ok (.aload_n 0, 1) := by decide +kernel
theorem dX12_decade_12 : decode cX12_decade 12 = .ok (.iconst 1, 1) := by decide +kernel
theorem dX12_decade_13 : decode cX12_decade 13 = .ok (.invokevirtual 170, 3) := by decide +kernel
theorem dX12_decade_16 : decode cX12_decade 16 = .ok (.ireturn, 1) := by decide +kernel
theorem dX12_decade_17 : decode cX12_decade 17 = .ok (.iload_n 1, 1) := by decide +kernel
theorem dX12_decade_18 : decode cX12_decade 18 = .ok (.iconst 0, 1) := by decide +kernel
theorem dX12_decade_19 : decode cX12_decade 19 = .ok (.ldc_w 422, 3) := by decide +kernel
theorem dX12_decade_22 : decode cX12_decade 22 = .ok (.invokestatic 149, 3) := by decide +kernel
theorem dX12_decade_25 : decode cX12_decade 25 = .ok (.ifCond .eq 13, 3) := by decide +kernel
theorem dX12_decade_28 : decode cX12_decade 28 = .ok (.iload_n 2, 1) := by decide +kernel
theorem dX12_decade_29 : decode cX12_decade 29 = .ok (.iconst 0, 1) := by decide +kernel
theorem dX12_decade_30 : decode cX12_decade 30 = .ok (.bipush 50, 2) := by decide +kernel
theorem dX12_decade_32 : decode cX12_decade 32 = .ok (.invokestatic 149, 3) := by decide +kernel
theorem dX12_decade_35 : decode cX12_decade 35 = .ok (.ifCond .ne 9, 3) := by decide +kernel
theorem dX12_decade_38 : decode cX12_decade 38 = .ok (.aload_n 0, 1) := by decide +kernel
theorem dX12_decade_39 : decode cX12_decade 39 = .ok (.iconst 2, 1) := by decide +kernel
theorem dX12_decade_40 : decode cX12_decade 40 = .ok (.invokevirtual 170, 3) := by decide +kernel
theorem dX12_decade_43 : decode cX12_decade 43 = .ok (.ireturn, 1) := by decide +kernel
theorem dX12_decade_44 : decode cX12_decade 44 = .ok (.iload_n 1, 1) := by decide +kernel
theorem dX12_decade_45 : decode cX12_decade 45 = .ok (.istore_n 3, 1) := by decide +kernel
theorem dX12_decade_46 : decode cX12_decade 46 = .ok (.iconst 0, 1) := by decide +kernel
theorem dX12_decade_47 : decode cX12_decade 47 = .ok (.istore 4, 2) := by decide +kernel
theorem dX12_decade_49 : decode cX12_decade 49 = .ok (.iconst 0, 1) := by decide +kernel
theorem dX12_decade_50 : decode cX12_decade 50 = .ok (.istore 5, 2) := by decide +kernel
theorem dX12_decade_52 : decode cX12_decade 52 = .ok (.iload 5, 2) := by decide +kernel
theorem dX12_decade_54 : decode cX12_decade 54 = .ok (.iload_n 2, 1) := by decide +kernel
theorem dX12_decade_55 : decode cX12_decade 55 = .ok (.if_icmp .ge 144, 3) := by decide +kernel
theorem dX12_decade_58 : decode cX12_decade 58 = .ok (.iconst 0, 1) := by decide +kernel
theorem dX12_decade_59 : decode cX12_decade 59 = .ok (.istore 6, 2) := by decide +kernel
theorem dX12_decade_61 : decode cX12_decade 61 = .ok (.iload 6, 2) := by decide +kernel
theorem dX12_decade_63 : decode cX12_decade 63 = .ok (.aload_n 0, 1) := by decide +kernel
theorem dX12_decade_64 : decode cX12_decade 64 = .ok (.getfield 20, 3) := by decide +kernel
theorem dX12_decade_67 : decode cX12_decade 67 = .ok (.bipush 7, 2) := by decide +kernel
theorem dX12_decade_69 : decode cX12_decade 69 = .ok (.iaload, 1) := by decide +kernel
theorem dX12_decade_70 : decode cX12_decade 70 = .ok (.if_icmp .ge 123, 3) := by decide +kernel
theorem dX12_decade_73 : decode cX12_decade 73 = .ok (.iconst (-1), 1) := by decide +kernel
theorem dX12_decade_74 : decode cX12_decade 74 = .ok (.istore 7, 2) := by decide +kernel
theorem dX12_decade_76 : decode cX12_decade 76 = .ok (.iconst 0, 1) := by decide +kernel
theorem dX12_decade_77 : decode cX12_decade 77 = .ok (.istore 8, 2) := by decide +kernel
theorem dX12_decade_79 : decode cX12_decade 79 = .ok (.bipush 75, 2) := by decide +kernel
theorem dX12_decade_81 : decode cX12_decade 81 = .ok (.iload_n 3, 1) := by decide +kernel
theorem dX12_decade_82 : decode cX12_decade 82 = .ok (.imul, 1) := by decide +kernel
theorem dX12_decade_83 : decode cX12_decade 83 = .ok (.bipush 74, 2) := by decide +kernel
theorem dX12_decade_85 : decode cX12_decade 85 = .ok (.iadd, 1) := by decide +kernel
theorem dX12_decade_86 : decode cX12_decade 86 = .ok (.ldc_w 423, 3) := by decide +kernel
theorem dX12_decade_89 : decode cX12_decade 89 = .ok (.irem, 1) := by decide +kernel
theorem dX12_decade_90 : decode cX12_decade 90 = .ok (.istore_n 3, 1) := by decide +kernel
theorem dX12_decade_91 : decode cX12_decade 91 = .ok (.iload_n 3, 1) := by decide +kernel
theorem dX12_decade_92 : decode cX12_decade 92 = .ok (.bipush 100, 2) := by decide +kernel
theorem dX12_decade_94 : decode cX12_decade 94 = .ok (.irem, 1) := by decide +kernel
theorem dX12_decade_95 : decode cX12_decade 95 = .ok (.aload_n 0, 1) := by decide +kernel
theorem dX12_decade_96 : decode cX12_decade 96 = .ok (.getfield 20, 3) := by decide +kernel
theorem dX12_decade_99 : decode cX12_decade 99 = .ok (.iconst 3, 1) := by decide +kernel
theorem dX12_decade_100 : decode cX12_decade 100 = .ok (.iaload, 1) := by decide +kernel
theorem dX12_decade_101 : decode cX12_decade 101 = .ok (.if_icmp .ge 47, 3) := by decide +kernel
theorem dX12_decade_104 : decode cX12_decade 104 = .ok (.bipush 75, 2) := by decide +kernel
theorem dX12_decade_106 : decode cX12_decade 106 = .ok (.iload_n 3, 1) := by decide +kernel
theorem dX12_decade_107 : decode cX12_decade 107 = .ok (.imul, 1) := by decide +kernel
theorem dX12_decade_108 : decode cX12_decade 108 = .ok (.bipush 74, 2) := by decide +kernel
theorem dX12_decade_110 : decode cX12_decade 110 = .ok (.iadd, 1) := by decide +kernel
theorem dX12_decade_111 : decode cX12_decade 111 = .ok (.ldc_w 423, 3) := by decide +kernel
theorem dX12_decade_114 : decode cX12_decade 114 = .ok (.irem, 1) := by decide +kernel
theorem dX12_decade_115 : decode cX12_decade 115 = .ok (.istore_n 3, 1) := by decide +kernel
theorem dX12_decade_116 : decode cX12_decade 116 = .ok (.iload_n 3, 1) := by decide +kernel
theorem dX12_decade_117 : decode cX12_decade 117 = .ok (.aload_n 0, 1) := by decide +kernel
theorem dX12_decade_118 : decode cX12_decade 118 = .ok (.iload 6, 2) := by decide +kernel
theorem dX12_decade_120 : decode cX12_decade 120 = .ok (.invokevirtual 284, 3) := by decide +kernel
theorem dX12_decade_123 : decode cX12_decade 123 = .ok (.irem, 1) := by decide +kernel
theorem dX12_decade_124 : decode cX12_decade 124 = .ok (.istore 7, 2) := by decide +kernel
theorem dX12_decade_126 : decode cX12_decade 126 = .ok (.bipush 75, 2) := by decide +kernel
theorem dX12_decade_128 : decode cX12_decade 128 = .ok (.iload_n 3, 1) := by decide +kernel
theorem dX12_decade_129 : decode cX12_decade 129 = .ok (.imul, 1) := by decide +kernel
theorem dX12_decade_130 : decode cX12_decade 130 = .ok (.bipush 74, 2) := by decide +kernel
theorem dX12_decade_132 : decode cX12_decade 132 = .ok (.iadd, 1) := by decide +kernel
theorem dX12_decade_133 : decode cX12_decade 133 = .ok (.ldc_w 423, 3) := by decide +kernel
theorem dX12_decade_136 : decode cX12_decade 136 = .ok (.irem, 1) := by decide +kernel
theorem dX12_decade_137 : decode cX12_decade 137 = .ok (.istore_n 3, 1) := by decide +kernel
theorem dX12_decade_138 : decode cX12_decade 138 = .ok (.iload_n 3, 1) := by decide +kernel
theorem dX12_decade_139 : decode cX12_decade 139 = .ok (.aload_n 0, 1) := by decide +kernel
theorem dX12_decade_140 : decode cX12_decade 140 = .ok (.getfield 20, 3) := by decide +kernel
theorem dX12_decade_143 : decode cX12_decade 143 = .ok (.iconst 0, 1) := by decide +kernel
theorem dX12_decade_144 : decode cX12_decade 144 = .ok (.iaload, 1) := by decide +kernel
theorem dX12_decade_145 : decode cX12_decade 145 = .ok (.irem, 1) := by decide +kernel
theorem dX12_decade_146 : decode cX12_decade 146 = .ok (.istore 8, 2) := by decide +kernel
theorem dX12_decade_148 : decode cX12_decade 148 = .ok (.iload 4, 2) := by decide +kernel
theorem dX12_decade_150 : decode cX12_decade 150 = .ok (.aload_n 0, 1) := by decide +kernel
theorem dX12_decade_151 : decode cX12_decade 151 = .ok (.iload 6, 2) := by decide +kernel
theorem dX12_decade_153 : decode cX12_decade 153 = .ok (.aload_n 0, 1) := by decide +kernel
theorem dX12_decade_154 : decode cX12_decade 154 = .ok (.getfield 26, 3) := by decide +kernel
theorem dX12_decade_157 : decode cX12_decade 157 = .ok (.iconst 0, 1) := by decide +kernel
theorem dX12_decade_158 : decode cX12_decade 158 = .ok (.iaload, 1) := by decide +kernel
theorem dX12_decade_159 : decode cX12_decade 159 = .ok (.iload 5, 2) := by decide +kernel
theorem dX12_decade_161 : decode cX12_decade 161 = .ok (.iadd, 1) := by decide +kernel
theorem dX12_decade_162 : decode cX12_decade 162 = .ok (.iload 7, 2) := by decide +kernel
theorem dX12_decade_164 : decode cX12_decade 164 = .ok (.iload 8, 2) := by decide +kernel
theorem dX12_decade_166 : decode cX12_decade 166 = .ok (.invokevirtual 291, 3) := by decide +kernel
theorem dX12_decade_169 : decode cX12_decade 169 = .ok (.aload_n 0, 1) := by decide +kernel
theorem dX12_decade_170 : decode cX12_decade 170 = .ok (.iload 6, 2) := by decide +kernel
theorem dX12_decade_172 : decode cX12_decade 172 = .ok (.iconst 1, 1) := by decide +kernel
theorem dX12_decade_173 : decode cX12_decade 173 = .ok (.invokevirtual 262, 3) := by decide +kernel
theorem dX12_decade_176 : decode cX12_decade 176 = .ok (.if_icmp .ne 7, 3) := by decide +kernel
theorem dX12_decade_179 : decode cX12_decade 179 = .ok (.iconst 1, 1) := by decide +kernel
theorem dX12_decade_180 : decode cX12_decade 180 = .ok (.goto 4, 3) := by decide +kernel
theorem dX12_decade_183 : decode cX12_decade 183 = .ok (.iconst 0, 1) := by decide +kernel
theorem dX12_decade_184 : decode cX12_decade 184 = .ok (.iadd, 1) := by decide +kernel
theorem dX12_decade_185 : decode cX12_decade 185 = .ok (.istore 4, 2) := by decide +kernel
theorem dX12_decade_187 : decode cX12_decade 187 = .ok (.iinc 6 1, 3) := by decide +kernel
theorem dX12_decade_190 : decode cX12_decade 190 = .ok (.goto (-129), 3) := by decide +kernel
theorem dX12_decade_193 : decode cX12_decade 193 = .ok (.iinc 5 1, 3) := by decide +kernel
theorem dX12_decade_196 : decode cX12_decade 196 = .ok (.goto (-144), 3) := by decide +kernel
theorem dX12_decade_199 : decode cX12_decade 199 = .ok (.iload 4, 2) := by decide +kernel
theorem dX12_decade_201 : decode cX12_decade 201 = .ok (.ireturn, 1) := by decide +kernel
theorem dX12_note1_0 : decode cX12_note1 0 = .ok (.aload_n 0, 1) := by decide +kernel
theorem dX12_note1_1 : decode cX12_note1 1 = .ok (.getfield 183, 3) := by decide +kernel
theorem dX12_note1_4 : decode cX12_note1 4 = .ok (.bipush 12, 2) := by decide +kernel
theorem dX12_note1_6 : decode cX12_note1 6 = .ok (.if_icmp .ne 43, 3) := by decide +kernel
theorem dX12_note1_9 : decode cX12_note1 9 = .ok (.iconst 0, 1) := by decide +kernel
theorem dX12_note1_10 : decode cX12_note1 10 = .ok (.istore_n 1, 1) := by decide +kernel
theorem dX12_note1_11 : decode cX12_note1 11 = .ok (.iload_n 1, 1) := by decide +kernel
theorem dX12_note1_12 : decode cX12_note1 12 = .ok (.sipush 836, 3) := by decide +kernel
theorem dX12_note1_15 : decode cX12_note1 15 = .ok (.if_icmp .ge 24, 3) := by decide +kernel
theorem dX12_note1_18 : decode cX12_note1 18 = .ok (.aload_n 0, 1) := by decide +kernel
theorem dX12_note1_19 : decode cX12_note1 19 = .ok (.getfield 29, 3) := by decide +kernel
theorem dX12_note1_22 : decode cX12_note1 22 = .ok (.iload_n 1, 1) := by decide +kernel
theorem dX12_note1_23 : decode cX12_note1 23 = .ok (.aload_n 0, 1) := by decide +kernel
theorem dX12_note1_24 : decode cX12_note1 24 = .ok (.getfield 29, 3) := by decide +kernel
theorem dX12_note1_27 : decode cX12_note1 27 = .ok (.iload_n 1, 1) := by decide +kernel
theorem dX12_note1_28 : decode cX12_note1 28 = .ok (.bipush 76, 2) := by decide +kernel
theorem dX12_note1_30 : decode cX12_note1 30 = .ok (.iadd, 1) := by decide +kernel
theorem dX12_note1_31 : decode cX12_note1 31 = .ok (.iaload, 1) := by decide +kernel
theorem dX12_note1_32 : decode cX12_note1 32 = .ok (.iastore, 1) := by decide +kernel
theorem dX12_note1_33 : decode cX12_note1 33 = .ok (.iinc 1 1, 3) := by decide +kernel
theorem dX12_note1_36 : decode cX12_note1 36 = .ok (.goto (-25), 3) := by decide +kernel
theorem dX12_note1_39 : decode cX12_note1 39 = .ok (.aload_n 0, 1) := by decide +kernel
theorem dX12_note1_40 : decode cX12_note1 40 = .ok (.dup, 1) := by decide +kernel
theorem dX12_note1_41 : decode cX12_note1 41 = .ok (.getfield 183, 3) := by decide +kernel
theorem dX12_note1_44 : decode cX12_note1 44 = .ok (.iconst 1, 1) := by decide +kernel
theorem dX12_note1_45 : decode cX12_note1 45 = .ok (.isub, 1) := by decide +kernel
theorem dX12_note1_46 : decode cX12_note1 46 = .ok (.putfield 183, 3) := by decide +kernel
theorem dX12_note1_49 : decode cX12_note1 49 = .ok (.aload_n 0, 1) := by decide +kernel
theorem dX12_note1_50 : decode cX12_note1 50 = .ok (.getfield 26, 3) := by decide +kernel
theorem dX12_note1_53 : decode cX12_note1 53 = .ok (.iconst 0, 1) := by decide +kernel
theorem dX12_note1_54 : decode cX12_note1 54 = .ok (.aload_n 0, 1) := by decide +kernel
theorem dX12_note1_55 : decode cX12_note1 55 = .ok (.getfield 29, 3) := by decide +kernel
theorem dX12_note1_58 : decode cX12_note1 58 = .ok (.bipush 76, 2) := by decide +kernel
theorem dX12_note1_60 : decode cX12_note1 60 = .ok (.aload_n 0, 1) := by decide +kernel
theorem dX12_note1_61 : decode cX12_note1 61 = .ok (.getfield 183, 3) := by decide +kernel
theorem dX12_note1_64 : decode cX12_note1 64 = .ok (.imul, 1) := by decide +kernel
theorem dX12_note1_65 : decode cX12_note1 65 = .ok (.bipush 76, 2) := by decide +kernel
theorem dX12_note1_67 : decode cX12_note1 67 = .ok (.invokestatic 176, 3) := by decide +kernel
theorem dX12_note1_70 : decode cX12_note1 70 = .ok (.aload_n 0, 1) := by decide +kernel
theorem dX12_note1_71 : decode cX12_note1 71 = .ok (.dup, 1) := by decide +kernel
theorem dX12_note1_72 : decode cX12_note1 72 = .ok (.getfield 183, 3) := by decide +kernel
theorem dX12_note1_75 : decode cX12_note1 75 = .ok (.iconst 1, 1) := by decide +kernel
theorem dX12_note1_76 : decode cX12_note1 76 = .ok (.iadd, 1) := by decide +kernel
theorem dX12_note1_77 : decode cX12_note1 77 = .ok (.putfield 183, 3) := by decide +kernel
theorem dX12_note1_80 : decode cX12_note1 80 = .ok (.return_, 1) := by decide +kernel
theorem dX12_send_0 : decode cX12_send 0 = .ok (.aload_n 0, 1) := by decide +kernel
theorem dX12_send_1 : decode cX12_send 1 = .ok (.invokevirtual 167, 3) := by decide +kernel
theorem dX12_send_4 : decode cX12_send 4 = .ok (.aload_n 0, 1) := by decide +kernel
theorem dX12_send_5 : decode cX12_send 5 = .ok (.iload_n 1, 1) := by decide +kernel
theorem dX12_send_6 : decode cX12_send 6 = .ok (.invokevirtual 268, 3) := by decide +kernel
theorem dX12_send_9 : decode cX12_send 9 = .ok (.ifCond .eq 11, 3) := by decide +kernel
theorem dX12_send_12 : decode cX12_send 12 = .ok (.aload_n 0, 1) := by decide +kernel
theorem dX12_send_13 : decode cX12_send 13 = .ok (.iload_n 2, 1) := by decide +kernel
theorem dX12_send_14 : decode cX12_send 14 = .ok (.invokevirtual 274, 3) := by decide +kernel
theorem dX12_send_17 : decode cX12_send 17 = .ok (.ifCond .ne 9, 3) := by decide +kernel
theorem dX12_send_20 : decode cX12_send 20 = .ok (.aload_n 0, 1) := by decide +kernel
theorem dX12_send_21 : decode cX12_send 21 = .ok (.iconst 1, 1) := by decide +kernel
theorem dX12_send_22 : decode cX12_send 22 = .ok (.invokevirtual 170, 3) := by decide +kernel
theorem dX12_send_25 : decode cX12_send 25 = .ok (.ireturn, 1) := by decide +kernel
theorem dX12_send_26 : decode cX12_send 26 = .ok (.aload_n 0, 1) := by decide +kernel
theorem dX12_send_27 : decode cX12_send 27 = .ok (.iload_n 1, 1) := by decide +kernel
theorem dX12_send_28 : decode cX12_send 28 = .ok (.iload_n 2, 1) := by decide +kernel
theorem dX12_send_29 : decode cX12_send 29 = .ok (.invokevirtual 367, 3) := by decide +kernel
theorem dX12_send_32 : decode cX12_send 32 = .ok (.istore_n 3, 1) := by decide +kernel
theorem dX12_send_33 : decode cX12_send 33 = .ok (.iload_n 3, 1) := by decide +kernel
theorem dX12_send_34 : decode cX12_send 34 = .ok (.ifCond .ge 9, 3) := by decide +kernel
theorem dX12_send_37 : decode cX12_send 37 = .ok (.aload_n 0, 1) := by decide +kernel
theorem dX12_send_38 : decode cX12_send 38 = .ok (.iconst 5, 1) := by decide +kernel
theorem dX12_send_39 : decode cX12_send 39 = .ok (.invokevirtual 170, 3) := by decide +kernel
theorem dX12_send_42 : decode cX12_send 42 = .ok (.ireturn, 1) := by decide +kernel
theorem dX12_send_43 : decode cX12_send 43 = .ok (.aload_n 0, 1) := by decide +kernel
theorem dX12_send_44 : decode cX12_send 44 = .ok (.iload_n 2, 1) := by decide +kernel
theorem dX12_send_45 : decode cX12_send 45 = .ok (.invokevirtual 295, 3) := by decide +kernel
theorem dX12_send_48 : decode cX12_send 48 = .ok (.istore 4, 2) := by decide +kernel
theorem dX12_send_50 : decode cX12_send 50 = .ok (.aload_n 0, 1) := by decide +kernel
theorem dX12_send_51 : decode cX12_send 51 = .ok (.invokevirtual 424, 3) := by decide +kernel
theorem dX12_send_54 : decode cX12_send 54 = .ok (.aload_n 0, 1) := by decide +kernel
theorem dX12_send_55 : decode cX12_send 55 = .ok (.getfield 26, 3) := by decide +kernel
theorem dX12_send_58 : decode cX12_send 58 = .ok (.iconst 2, 1) := by decide +kernel
theorem dX12_send_59 : decode cX12_send 59 = .ok (.iload_n 1, 1) := by decide +kernel
theorem dX12_send_60 : decode cX12_send 60 = .ok (.iadd, 1) := by decide +kernel
theorem dX12_send_61 : decode cX12_send 61 = .ok (.iload 4, 2) := by decide +kernel
theorem dX12_send_63 : decode cX12_send 63 = .ok (.iastore, 1) := by decide +kernel
theorem dX12_send_64 : decode cX12_send 64 = .ok (.aload_n 0, 1) := by decide +kernel
theorem dX12_send_65 : decode cX12_send 65 = .ok (.getfield 26, 3) := by decide +kernel
theorem dX12_send_68 : decode cX12_send 68 = .ok (.bipush 7, 2) := by decide +kernel
theorem dX12_send_70 : decode cX12_send 70 = .ok (.iload_n 1, 1) := by decide +kernel
theorem dX12_send_71 : decode cX12_send 71 = .ok (.iadd, 1) := by decide +kernel
theorem dX12_send_72 : decode cX12_send 72 = .ok (.iload_n 3, 1) := by decide +kernel
theorem dX12_send_73 : decode cX12_send 73 = .ok (.iastore, 1) := by decide +kernel
theorem dX12_send_74 : decode cX12_send 74 = .ok (.aload_n 0, 1) := by decide +kernel
theorem dX12_send_75 : decode cX12_send 75 = .ok (.getfield 26, 3) := by decide +kernel
theorem dX12_send_78 : decode cX12_send 78 = .ok (.bipush 12, 2) := by decide +kernel
theorem dX12_send_80 : decode cX12_send 80 = .ok (.iload_n 2, 1) := by decide +kernel
theorem dX12_send_81 : decode cX12_send 81 = .ok (.iadd, 1) := by decide +kernel
theorem dX12_send_82 : decode cX12_send 82 = .ok (.iload_n 3, 1) := by decide +kernel
theorem dX12_send_83 : decode cX12_send 83 = .ok (.iconst 1, 1) := by decide +kernel
theorem dX12_send_84 : decode cX12_send 84 = .ok (.iadd, 1) := by decide +kernel
theorem dX12_send_85 : decode cX12_send 85 = .ok (.iastore, 1) := by decide +kernel
theorem dX12_send_86 : decode cX12_send 86 = .ok (.aload_n 0, 1) := by decide +kernel
theorem dX12_send_87 : decode cX12_send 87 = .ok (.getfield 26, 3) := by decide +kernel
theorem dX12_send_90 : decode cX12_send 90 = .ok (.bipush 20, 2) := by decide +kernel
theorem dX12_send_92 : decode cX12_send 92 = .ok (.iload_n 2, 1) := by decide +kernel
theorem dX12_send_93 : decode cX12_send 93 = .ok (.iadd, 1) := by decide +kernel
theorem dX12_send_94 : decode cX12_send 94 = .ok (.iload 4, 2) := by decide +kernel
theorem dX12_send_96 : decode cX12_send 96 = .ok (.iconst 1, 1) := by decide +kernel
theorem dX12_send_97 : decode cX12_send 97 = .ok (.iadd, 1) := by decide +kernel
theorem dX12_send_98 : decode cX12_send 98 = .ok (.iastore, 1) := by decide +kernel
theorem dX12_send_99 : decode cX12_send 99 = .ok (.iload_n 3, 1) := by decide +kernel
theorem dX12_send_100 : decode cX12_send 100 = .ok (.ireturn, 1) := by decide +kernel
theorem dX12_tune_0 : decode cX12_tune 0 = .ok (.aload_n 0, 1) := by decide +kernel
theorem dX12_tune_1 : decode cX12_tune 1 = .ok (.invokevirtual 167, 3) := by decide +kernel
theorem dX12_tune_4 : decode cX12_tune 4 = .ok (.aload_n 0, 1) := by decide +kernel
theorem dX12_tune_5 : decode cX12_tune 5 = .ok (.iload_n 1, 1) := by decide +kernel
theorem dX12_tune_6 : decode cX12_tune 6 = .ok (.invokevirtual 274, 3) := by decide +kernel
theorem dX12_tune_9 : decode cX12_tune 9 = .ok (.ifCond .eq 18, 3) := by decide +kernel
theorem dX12_tune_12 : decode cX12_tune 12 = .ok (.iload_n 2, 1) := by decide +kernel
theorem dX12_tune_13 : decode cX12_tune 13 = .ok (.iconst 0, 1) := by decide +kernel
theorem dX12_tune_14 : decode cX12_tune 14 = .ok (.aload_n 0, 1) := by decide +kernel
theorem dX12_tune_15 : decode cX12_tune 15 = .ok (.iload_n 1, 1) := by decide +kernel
theorem dX12_tune_16 : decode cX12_tune 16 = .ok (.invokevirtual 284, 3) := by decide +kernel
theorem dX12_tune_19 : decode cX12_tune 19 = .ok (.iconst 1, 1) := by decide +kernel
theorem dX12_tune_20 : decode cX12_tune 20 = .ok (.isub, 1) := by decide +kernel
theorem dX12_tune_21 : decode cX12_tune 21 = .ok (.invokestatic 149, 3) := by decide +kernel
theorem dX12_tune_24 : decode cX12_tune 24 = .ok (.ifCond .ne 9, 3) := by decide +kernel
theorem dX12_tune_27 : decode cX12_tune 27 = .ok (.aload_n 0, 1) := by decide +kernel
theorem dX12_tune_28 : decode cX12_tune 28 = .ok (.iconst 1, 1) := by decide +kernel
theorem dX12_tune_29 : decode cX12_tune 29 = .ok (.invokevirtual 427, 3) := by decide +kernel
theorem dX12_tune_32 : decode cX12_tune 32 = .ok (.ireturn, 1) := by decide +kernel
theorem dX12_tune_33 : decode cX12_tune 33 = .ok (.iload_n 3, 1) := by decide +kernel
theorem dX12_tune_34 : decode cX12_tune 34 = .ok (.iconst 0, 1) := by decide +kernel
theorem dX12_tune_35 : decode cX12_tune 35 = .ok (.aload_n 0, 1) := by decide +kernel
theorem dX12_tune_36 : decode cX12_tune 36 = .ok (.getfield 20, 3) := by decide +kernel
theorem dX12_tune_39 : decode cX12_tune 39 = .ok (.iconst 0, 1) := by decide +kernel
theorem dX12_tune_40 : decode cX12_tune 40 = .ok (.iaload, 1) := by decide +kernel
theorem dX12_tune_41 : decode cX12_tune 41 = .ok (.iconst 1, 1) := by decide +kernel
theorem dX12_tune_42 : decode cX12_tune 42 = .ok (.isub, 1) := by decide +kernel
theorem dX12_tune_43 : decode cX12_tune 43 = .ok (.invokestatic 149, 3) := by decide +kernel
theorem dX12_tune_46 : decode cX12_tune 46 = .ok (.ifCond .ne 9, 3) := by decide +kernel
theorem dX12_tune_49 : decode cX12_tune 49 = .ok (.aload_n 0, 1) := by decide +kernel
theorem dX12_tune_50 : decode cX12_tune 50 = .ok (.iconst 2, 1) := by decide +kernel
theorem dX12_tune_51 : decode cX12_tune 51 = .ok (.invokevirtual 427, 3) := by decide +kernel
theorem dX12_tune_54 : decode cX12_tune 54 = .ok (.ireturn, 1) := by decide +kernel
theorem dX12_tune_55 : decode cX12_tune 55 = .ok (.aload_n 0, 1) := by decide +kernel
theorem dX12_tune_56 : decode cX12_tune 56 = .ok (.getfield 26, 3) := by decide +kernel
theorem dX12_tune_59 : decode cX12_tune 59 = .ok (.bipush 28, 2) := by decide +kernel
theorem dX12_tune_61 : decode cX12_tune 61 = .ok (.bipush 6, 2) := by decide +kernel
theorem dX12_tune_63 : decode cX12_tune 63 = .ok (.iload_n 1, 1) := by decide +kernel
theorem dX12_tune_64 : decode cX12_tune 64 = .ok (.imul, 1) := by decide +kernel
theorem dX12_tune_65 : decode cX12_tune 65 = .ok (.iadd, 1) := by decide +kernel
theorem dX12_tune_66 : decode cX12_tune 66 = .ok (.iload_n 2, 1) := by decide +kernel
theorem dX12_tune_67 : decode cX12_tune 67 = .ok (.iadd, 1) := by decide +kernel
theorem dX12_tune_68 : decode cX12_tune 68 = .ok (.iaload, 1) := by decide +kernel
theorem dX12_tune_69 : decode cX12_tune 69 = .ok (.iload_n 3, 1) := by decide +kernel
theorem dX12_tune_70 : decode cX12_tune 70 = .ok (.if_icmp .eq 15, 3) := by decide +kernel
theorem dX12_tune_73 : decode cX12_tune 73 = .ok (.aload_n 0, 1) := by decide +kernel
theorem dX12_tune_74 : decode cX12_tune 74 = .ok (.getfield 26, 3) := by decide +kernel
theorem dX12_tune_77 : decode cX12_tune 77 = .ok (.bipush 12, 2) := by decide +kernel
theorem dX12_tune_79 : decode cX12_tune 79 = .ok (.iload_n 1, 1) := by decide +kernel
theorem dX12_tune_80 : decode cX12_tune 80 = .ok (.iadd, 1) := by decide +kernel
theorem dX12_tune_81 : decode cX12_tune 81 = .ok (.iaload, 1) := by decide +kernel
theorem dX12_tune_82 : decode cX12_tune 82 = .ok (.ifCond .le 9, 3) := by decide +kernel
theorem dX12_tune_85 : decode cX12_tune 85 = .ok (.aload_n 0, 1) := by decide +kernel
theorem dX12_tune_86 : decode cX12_tune 86 = .ok (.iconst 5, 1) := by decide +kernel
theorem dX12_tune_87 : decode cX12_tune 87 = .ok (.invokevirtual 427, 3) := by decide +kernel
theorem dX12_tune_90 : decode cX12_tune 90 = .ok (.ireturn, 1) := by decide +kernel
theorem dX12_tune_91 : decode cX12_tune 91 = .ok (.aload_n 0, 1) := by decide +kernel
theorem dX12_tune_92 : decode cX12_tune 92 = .ok (.invokevirtual 424, 3) := by decide +kernel
theorem dX12_tune_95 : decode cX12_tune 95 = .ok (.aload_n 0, 1) := by decide +kernel
theorem dX12_tune_96 : decode cX12_tune 96 = .ok (.getfield 26, 3) := by decide +kernel
theorem dX12_tune_99 : decode cX12_tune 99 = .ok (.bipush 28, 2) := by decide +kernel
theorem dX12_tune_101 : decode cX12_tune 101 = .ok (.bipush 6, 2) := by decide +kernel
theorem dX12_tune_103 : decode cX12_tune 103 = .ok (.iload_n 1, 1) := by decide +kernel
theorem dX12_tune_104 : decode cX12_tune 104 = .ok (.imul, 1) := by decide +kernel
theorem dX12_tune_105 : decode cX12_tune 105 = .ok (.iadd, 1) := by decide +kernel
theorem dX12_tune_106 : decode cX12_tune 106 = .ok (.iload_n 2, 1) := by decide +kernel
theorem dX12_tune_107 : decode cX12_tune 107 = .ok (.iadd, 1) := by decide +kernel
theorem dX12_tune_108 : decode cX12_tune 108 = .ok (.iload_n 3, 1) := by decide +kernel
theorem dX12_tune_109 : decode cX12_tune 109 = .ok (.iastore, 1) := by decide +kernel
theorem dX12_tune_110 : decode cX12_tune 110 = .ok (.iconst 1, 1) := by decide +kernel
theorem dX12_tune_111 : decode cX12_tune 111 = .ok (.ireturn, 1) := by decide +kernel
theorem dX12_years_0 : decode cX12_years 0 = .ok (.aload_n 0, 1) := by decide +kernel
theorem dX12_years_1 : decode cX12_years 1 = .ok (.invokevirtual 167, 3) := by decide +kernel
theorem dX12_years_4 : decode cX12_years 4 = .ok (.aload_n 0, 1) := by decide +kernel
theorem dX12_years_5 : decode cX12_years 5 = .ok (.getfield 180, 3) := by decide +kernel
theorem dX12_years_8 : decode cX12_years 8 = .ok (.ifCond .ne 9, 3) := by decide +kernel
theorem dX12_years_11 : decode cX12_years 11 = .ok (.aload_n 0, 1) := by decide +kernel
theorem dX12_years_12 : decode cX12_years 12 = .ok (.iconst 1, 1) := by decide +kernel
theorem dX12_years_13 : decode cX12_years 13 = .ok (.invokevirtual 170, 3) := by decide +kernel
theorem dX12_years_16 : decode cX12_years 16 = .ok (.ireturn, 1) := by decide +kernel
theorem dX12_years_17 : decode cX12_years 17 = .ok (.iload_n 1, 1) := by decide +kernel
theorem dX12_years_18 : decode cX12_years 18 = .ok (.iconst 1, 1) := by decide +kernel
theorem dX12_years_19 : decode cX12_years 19 = .ok (.bipush 99, 2) := by decide +kernel
theorem dX12_years_21 : decode cX12_years 21 = .ok (.invokestatic 149, 3) := by decide +kernel
theorem dX12_years_24 : decode cX12_years 24 = .ok (.ifCond .ne 9, 3) := by decide +kernel
theorem dX12_years_27 : decode cX12_years 27 = .ok (.aload_n 0, 1) := by decide +kernel
theorem dX12_years_28 : decode cX12_years 28 = .ok (.iconst 2, 1) := by decide +kernel
theorem dX12_years_29 : decode cX12_years 29 = .ok (.invokevirtual 170, 3) := by decide +kernel
theorem dX12_years_32 : decode cX12_years 32 = .ok (.ireturn, 1) := by decide +kernel
theorem dX12_years_33 : decode cX12_years 33 = .ok (.aload_n 0, 1) := by decide +kernel
theorem dX12_years_34 : decode cX12_years 34 = .ok (.getfield 26, 3) := by decide +kernel
theorem dX12_years_37 : decode cX12_years 37 = .ok (.iconst 0, 1) := by decide +kernel
theorem dX12_years_38 : decode cX12_years 38 = .ok (.iaload, 1) := by decide +kernel
theorem dX12_years_39 : decode cX12_years 39 = .ok (.iload_n 1, 1) := by decide +kernel
theorem dX12_years_40 : decode cX12_years 40 = .ok (.iadd, 1) := by decide +kernel
theorem dX12_years_41 : decode cX12_years 41 = .ok (.sipush 9999, 3) := by decide +kernel
theorem dX12_years_44 : decode cX12_years 44 = .ok (.if_icmp .le 9, 3) := by decide +kernel
theorem dX12_years_47 : decode cX12_years 47 = .ok (.aload_n 0, 1) := by decide +kernel
theorem dX12_years_48 : decode cX12_years 48 = .ok (.iconst 3, 1) := by decide +kernel
theorem dX12_years_49 : decode cX12_years 49 = .ok (.invokevirtual 170, 3) := by decide +kernel
theorem dX12_years_52 : decode cX12_years 52 = .ok (.ireturn, 1) := by decide +kernel
theorem dX12_years_53 : decode cX12_years 53 = .ok (.aload_n 0, 1) := by decide +kernel
theorem dX12_years_54 : decode cX12_years 54 = .ok (.invokevirtual 424, 3) := by decide +kernel
theorem dX12_years_57 : decode cX12_years 57 = .ok (.aload_n 0, 1) := by decide +kernel
theorem dX12_years_58 : decode cX12_years 58 = .ok (.getfield 26, 3) := by decide +kernel
theorem dX12_years_61 : decode cX12_years 61 = .ok (.iconst 0, 1) := by decide +kernel
theorem dX12_years_62 : decode cX12_years 62 = .ok (.dup2, 1) := by decide +kernel
theorem dX12_years_63 : decode cX12_years 63 = .ok (.iaload, 1) := by decide +kernel
theorem dX12_years_64 : decode cX12_years 64 = .ok (.iload_n 1, 1) := by decide +kernel
theorem dX12_years_65 : decode cX12_years 65 = .ok (.iadd, 1) := by decide +kernel
theorem dX12_years_66 : decode cX12_years 66 = .ok (.iastore, 1) := by decide +kernel
theorem dX12_years_67 : decode cX12_years 67 = .ok (.aload_n 0, 1) := by decide +kernel
theorem dX12_years_68 : decode cX12_years 68 = .ok (.getfield 26, 3) := by decide +kernel
theorem dX12_years_71 : decode cX12_years 71 = .ok (.iconst 0, 1) := by decide +kernel
theorem dX12_years_72 : decode cX12_years 72 = .ok (.iaload, 1) := by decide +kernel
theorem dX12_years_73 : decode cX12_years 73 = .ok (.ireturn, 1) := by decide +kernel
theorem dX12_close_0 : decode cX12_close 0 = .ok (.aload_n 0, 1) := by decide +kernel
theorem dX12_close_1 : decode cX12_close 1 = .ok (.invokevirtual 167, 3) := by decide +kernel
theorem dX12_close_4 : decode cX12_close 4 = .ok (.aload_n 0, 1) := by decide +kernel
theorem dX12_close_5 : decode cX12_close 5 = .ok (.getfield 180, 3) := by decide +kernel
theorem dX12_close_8 : decode cX12_close 8 = .ok (.ifCond .eq 19, 3) := by decide +kernel
theorem dX12_close_11 : decode cX12_close 11 = .ok (.iload_n 1, 1) := by decide +kernel
theorem dX12_close_12 : decode cX12_close 12 = .ok (.iconst 0, 1) := by decide +kernel
theorem dX12_close_13 : decode cX12_close 13 = .ok (.aload_n 0, 1) := by decide +kernel
theorem dX12_close_14 : decode cX12_close 14 = .ok (.getfield 20, 3) := by decide +kernel
theorem dX12_close_17 : decode cX12_close 17 = .ok (.iconst 5, 1) := by decide +kernel
theorem dX12_close_18 : decode cX12_close 18 = .ok (.iaload, 1) := by decide +kernel
theorem dX12_close_19 : decode cX12_close 19 = .ok (.iconst 1, 1) := by decide +kernel
theorem dX12_close_20 : decode cX12_close 20 = .ok (.isub, 1) := by decide +kernel
theorem dX12_close_21 : decode cX12_close 21 = .ok (.invokestatic 149, 3) := by decide +kernel
theorem dX12_close_24 : decode cX12_close 24 = .ok (.ifCond .ne 9, 3) := by decide +kernel
theorem dX12_close_27 : decode cX12_close 27 = .ok (.aload_n 0, 1) := by decide +kernel
theorem dX12_close_28 : decode cX12_close 28 = .ok (.iconst 1, 1) := by decide +kernel
theorem dX12_close_29 : decode cX12_close 29 = .ok (.invokevirtual 427, 3) := by decide +kernel
theorem dX12_close_32 : decode cX12_close 32 = .ok (.ireturn, 1) := by decide +kernel
theorem dX12_close_33 : decode cX12_close 33 = .ok (.aload_n 0, 1) := by decide +kernel
theorem dX12_close_34 : decode cX12_close 34 = .ok (.iload_n 1, 1) := by decide +kernel
theorem dX12_close_35 : decode cX12_close 35 = .ok (.invokevirtual 302, 3) := by decide +kernel
theorem dX12_close_38 : decode cX12_close 38 = .ok (.iload_n 2, 1) := by decide +kernel
theorem dX12_close_39 : decode cX12_close 39 = .ok (.if_icmp .ne 9, 3) := by decide +kernel
theorem dX12_close_42 : decode cX12_close 42 = .ok (.aload_n 0, 1) := by decide +kernel
theorem dX12_close_43 : decode cX12_close 43 = .ok (.iconst 5, 1) := by decide +kernel
theorem dX12_close_44 : decode cX12_close 44 = .ok (.invokevirtual 427, 3) := by decide +kernel
theorem dX12_close_47 : decode cX12_close 47 = .ok (.ireturn, 1) := by decide +kernel
theorem dX12_close_48 : decode cX12_close 48 = .ok (.aload_n 0, 1) := by decide +kernel
theorem dX12_close_49 : decode cX12_close 49 = .ok (.invokevirtual 424, 3) := by decide +kernel
theorem dX12_close_52 : decode cX12_close 52 = .ok (.aload_n 0, 1) := by decide +kernel
theorem dX12_close_53 : decode cX12_close 53 = .ok (.getfield 26, 3) := by decide +kernel
theorem dX12_close_56 : decode cX12_close 56 = .ok (.iconst 1, 1) := by decide +kernel
theorem dX12_close_57 : decode cX12_close 57 = .ok (.dup2, 1) := by decide +kernel
theorem dX12_close_58 : decode cX12_close 58 = .ok (.iaload, 1) := by decide +kernel
theorem dX12_close_59 : decode cX12_close 59 = .ok (.iconst 1, 1) := by decide +kernel
theorem dX12_close_60 : decode cX12_close 60 = .ok (.iload_n 1, 1) := by decide +kernel
theorem dX12_close_61 : decode cX12_close 61 = .ok (.ishl, 1) := by decide +kernel
theorem dX12_close_62 : decode cX12_close 62 = .ok (.ixor, 1) := by decide +kernel
theorem dX12_close_63 : decode cX12_close 63 = .ok (.iastore, 1) := by decide +kernel
theorem dX12_close_64 : decode cX12_close 64 = .ok (.iconst 1, 1) := by decide +kernel
theorem dX12_close_65 : decode cX12_close 65 = .ok (.ireturn, 1) := by decide +kernel
theorem dX12_undo_0 : decode cX12_undo 0 = .ok (.aload_n 0, 1) := by decide +kernel
theorem dX12_undo_1 : decode cX12_undo 1 = .ok (.invokevirtual 167, 3) := by decide +kernel
theorem dX12_undo_4 : decode cX12_undo 4 = .ok (.aload_n 0, 1) := by decide +kernel
theorem dX12_undo_5 : decode cX12_undo 5 = .ok (.getfield 183, 3) := by decide +kernel
theorem dX12_undo_8 : decode cX12_undo 8 = .ok (.ifCond .ne 10, 3) := by decide +kernel
theorem dX12_undo_11 : decode cX12_undo 11 = .ok (.aload_n 0, 1) := by decide +kernel
theorem dX12_undo_12 : decode cX12_undo 12 = .ok (.bipush 6, 2) := by decide +kernel
theorem dX12_undo_14 : decode cX12_undo 14 = .ok (.invokevirtual 427, 3) := by decide +kernel
theorem dX12_undo_17 : decode cX12_undo 17 = .ok (.ireturn, 1) := by decide +kernel
theorem dX12_undo_18 : decode cX12_undo 18 = .ok (.aload_n 0, 1) := by decide +kernel
theorem dX12_undo_19 : decode cX12_undo 19 = .ok (.dup, 1) := by decide +kernel
theorem dX12_undo_20 : decode cX12_undo 20 = .ok (.getfield 183, 3) := by decide +kernel
theorem dX12_undo_23 : decode cX12_undo 23 = .ok (.iconst 1, 1) := by decide +kernel
theorem dX12_undo_24 : decode cX12_undo 24 = .ok (.isub, 1) := by decide +kernel
theorem dX12_undo_25 : decode cX12_undo 25 = .ok (.putfield 183, 3) := by decide +kernel
theorem dX12_undo_28 : decode cX12_undo 28 = .ok (.aload_n 0, 1) := by decide +kernel
theorem dX12_undo_29 : decode cX12_undo 29 = .ok (.getfield 29, 3) := by decide +kernel
theorem dX12_undo_32 : decode cX12_undo 32 = .ok (.bipush 76, 2) := by decide +kernel
theorem dX12_undo_34 : decode cX12_undo 34 = .ok (.aload_n 0, 1) := by decide +kernel
theorem dX12_undo_35 : decode cX12_undo 35 = .ok (.getfield 183, 3) := by decide +kernel
theorem dX12_undo_38 : decode cX12_undo 38 = .ok (.imul, 1) := by decide +kernel
theorem dX12_undo_39 : decode cX12_undo 39 = .ok (.aload_n 0, 1) := by decide +kernel
theorem dX12_undo_40 : decode cX12_undo 40 = .ok (.getfield 26, 3) := by decide +kernel
theorem dX12_undo_43 : decode cX12_undo 43 = .ok (.iconst 0, 1) := by decide +kernel
theorem dX12_undo_44 : decode cX12_undo 44 = .ok (.bipush 76, 2) := by decide +kernel
theorem dX12_undo_46 : decode cX12_undo 46 = .ok (.invokestatic 176, 3) := by decide +kernel
theorem dX12_undo_49 : decode cX12_undo 49 = .ok (.iconst 1, 1) := by decide +kernel
theorem dX12_undo_50 : decode cX12_undo 50 = .ok (.ireturn, 1) := by decide +kernel
theorem dX12_image_0 : decode cX12_image 0 = .ok (.aload_n 0, 1) := by decide +kernel
theorem dX12_image_1 : decode cX12_image 1 = .ok (.invokevirtual 167, 3) := by decide +kernel
theorem dX12_image_4 : decode cX12_image 4 = .ok (.aload_n 0, 1) := by decide +kernel
theorem dX12_image_5 : decode cX12_image 5 = .ok (.getfield 180, 3) := by decide +kernel
theorem dX12_image_8 : decode cX12_image 8 = .ok (.ifCond .ne 9, 3) := by decide +kernel
theorem dX12_image_11 : decode cX12_image 11 = .ok (.aload_n 0, 1) := by decide +kernel
theorem dX12_image_12 : decode cX12_image 12 = .ok (.iconst 1, 1) := by decide +kernel
theorem dX12_image_13 : decode cX12_image 13 = .ok (.invokevirtual 170, 3) := by decide +kernel
theorem dX12_image_16 : decode cX12_image 16 = .ok (.ireturn, 1) := by decide +kernel
theorem dX12_image_17 : decode cX12_image 17 = .ok (.aload_n 0, 1) := by decide +kernel
theorem dX12_image_18 : decode cX12_image 18 = .ok (.getfield 186, 3) := by decide +kernel
theorem dX12_image_21 : decode cX12_image 21 = .ok (.iconst 3, 1) := by decide +kernel
theorem dX12_image_22 : decode cX12_image 22 = .ok (.if_icmp .ne 9, 3) := by decide +kernel
theorem dX12_image_25 : decode cX12_image 25 = .ok (.aload_n 0, 1) := by decide +kernel
theorem dX12_image_26 : decode cX12_image 26 = .ok (.iconst 3, 1) := by decide +kernel
theorem dX12_image_27 : decode cX12_image 27 = .ok (.invokevirtual 170, 3) := by decide +kernel
theorem dX12_image_30 : decode cX12_image 30 = .ok (.ireturn, 1) := by decide +kernel
theorem dX12_image_31 : decode cX12_image 31 = .ok (.aload_n 0, 1) := by decide +kernel
theorem dX12_image_32 : decode cX12_image 32 = .ok (.getfield 26, 3) := by decide +kernel
theorem dX12_image_35 : decode cX12_image 35 = .ok (.iconst 0, 1) := by decide +kernel
theorem dX12_image_36 : decode cX12_image 36 = .ok (.aload_n 0, 1) := by decide +kernel
theorem dX12_image_37 : decode cX12_image 37 = .ok (.getfield 32, 3) := by decide +kernel
theorem dX12_image_40 : decode cX12_image 40 = .ok (.bipush 76, 2) := by decide +kernel
theorem dX12_image_42 : decode cX12_image 42 = .ok (.aload_n 0, 1) := by decide +kernel
theorem dX12_image_43 : decode cX12_image 43 = .ok (.getfield 186, 3) := by decide +kernel
theorem dX12_image_46 : decode cX12_image 46 = .ok (.imul, 1) := by decide +kernel
theorem dX12_image_47 : decode cX12_image 47 = .ok (.bipush 76, 2) := by decide +kernel
theorem dX12_image_49 : decode cX12_image 49 = .ok (.invokestatic 176, 3) := by decide +kernel
theorem dX12_image_52 : decode cX12_image 52 = .ok (.aload_n 0, 1) := by decide +kernel
theorem dX12_image_53 : decode cX12_image 53 = .ok (.dup, 1) := by decide +kernel
theorem dX12_image_54 : decode cX12_image 54 = .ok (.getfield 186, 3) := by decide +kernel
theorem dX12_image_57 : decode cX12_image 57 = .ok (.iconst 1, 1) := by decide +kernel
theorem dX12_image_58 : decode cX12_image 58 = .ok (.iadd, 1) := by decide +kernel
theorem dX12_image_59 : decode cX12_image 59 = .ok (.putfield 186, 3) := by decide +kernel
theorem dX12_image_62 : decode cX12_image 62 = .ok (.aload_n 0, 1) := by decide +kernel
theorem dX12_image_63 : decode cX12_image 63 = .ok (.getfield 186, 3) := by decide +kernel
theorem dX12_image_66 : decode cX12_image 66 = .ok (.iconst 1, 1) := by decide +kernel
theorem dX12_image_67 : decode cX12_image 67 = .ok (.isub, 1) := by decide +kernel
theorem dX12_image_68 : decode cX12_image 68 = .ok (.ireturn, 1) := by decide +kernel
theorem dX12_back_0 : decode cX12_back 0 = .ok (.aload_n 0, 1) := by decide +kernel
theorem dX12_back_1 : decode cX12_back 1 = .ok (.invokevirtual 167, 3) := by decide +kernel
theorem dX12_back_4 : decode cX12_back 4 = .ok (.iload_n 1, 1) := by decide +kernel
theorem dX12_back_5 : decode cX12_back 5 = .ok (.iconst 0, 1) := by decide +kernel
theorem dX12_back_6 : decode cX12_back 6 = .ok (.aload_n 0, 1) := by decide +kernel
theorem dX12_back_7 : decode cX12_back 7 = .ok (.getfield 186, 3) := by decide +kernel
theorem dX12_back_10 : decode cX12_back 10 = .ok (.iconst 1, 1) := by decide +kernel
theorem dX12_back_11 : decode cX12_back 11 = .ok (.isub, 1) := by decide +kernel
theorem dX12_back_12 : decode cX12_back 12 = .ok (.invokestatic 149, 3) := by decide +kernel
theorem dX12_back_15 : decode cX12_back 15 = .ok (.ifCond .ne 9, 3) := by decide +kernel
theorem dX12_back_18 : decode cX12_back 18 = .ok (.aload_n 0, 1) := by decide +kernel
theorem dX12_back_19 : decode cX12_back 19 = .ok (.iconst 1, 1) := by decide +kernel
theorem dX12_back_20 : decode cX12_back 20 = .ok (.invokevirtual 427, 3) := by decide +kernel
theorem dX12_back_23 : decode cX12_back 23 = .ok (.ireturn, 1) := by decide +kernel
theorem dX12_back_24 : decode cX12_back 24 = .ok (.aload_n 0, 1) := by decide +kernel
theorem dX12_back_25 : decode cX12_back 25 = .ok (.getfield 32, 3) := by decide +kernel
theorem dX12_back_28 : decode cX12_back 28 = .ok (.bipush 76, 2) := by decide +kernel
theorem dX12_back_30 : decode cX12_back 30 = .ok (.iload_n 1, 1) := by decide +kernel
theorem dX12_back_31 : decode cX12_back 31 = .ok (.imul, 1) := by decide +kernel
theorem dX12_back_32 : decode cX12_back 32 = .ok (.aload_n 0, 1) := by decide +kernel
theorem dX12_back_33 : decode cX12_back 33 = .ok (.getfield 26, 3) := by decide +kernel
theorem dX12_back_36 : decode cX12_back 36 = .ok (.iconst 0, 1) := by decide +kernel
theorem dX12_back_37 : decode cX12_back 37 = .ok (.bipush 76, 2) := by decide +kernel
theorem dX12_back_39 : decode cX12_back 39 = .ok (.invokestatic 176, 3) := by decide +kernel
theorem dX12_back_42 : decode cX12_back 42 = .ok (.aload_n 0, 1) := by decide +kernel
theorem dX12_back_43 : decode cX12_back 43 = .ok (.iconst 0, 1) := by decide +kernel
theorem dX12_back_44 : decode cX12_back 44 = .ok (.putfield 183, 3) := by decide +kernel
theorem dX12_back_47 : decode cX12_back 47 = .ok (.iconst 1, 1) := by decide +kernel
theorem dX12_back_48 : decode cX12_back 48 = .ok (.ireturn, 1) := by decide +kernel
theorem dX12_led_0 : decode cX12_led 0 = .ok (.iconst 0, 1) := by decide +kernel
theorem dX12_led_1 : decode cX12_led 1 = .ok (.istore_n 2, 1) := by decide +kernel
theorem dX12_led_2 : decode cX12_led 2 = .ok (.iconst 0, 1) := by decide +kernel
theorem dX12_led_3 : decode cX12_led 3 = .ok (.istore_n 3, 1) := by decide +kernel
theorem dX12_led_4 : decode cX12_led 4 = .ok (.aload_n 0, 1) := by decide +kernel
theorem dX12_led_5 : decode cX12_led 5 = .ok (.getfield 180, 3) := by decide +kernel
theorem dX12_led_8 : decode cX12_led 8 = .ok (.ifCond .eq 50, 3) := by decide +kernel
theorem dX12_led_11 : decode cX12_led 11 = .ok (.iload_n 3, 1) := by decide +kernel
theorem dX12_led_12 : decode cX12_led 12 = .ok (.aload_n 0, 1) := by decide +kernel
theorem dX12_led_13 : decode cX12_led 13 = .ok (.getfield 20, 3) := by decide +kernel
theorem dX12_led_16 : decode cX12_led 16 = .ok (.bipush 7, 2) := by decide +kernel
theorem dX12_led_18 : decode cX12_led 18 = .ok (.iaload, 1) := by decide +kernel
theorem dX12_led_19 : decode cX12_led 19 = .ok (.if_icmp .ge 39, 3) := by decide +kernel
theorem dX12_led_22 : decode cX12_led 22 = .ok (.aload_n 0, 1) := by decide +kernel
theorem dX12_led_23 : decode cX12_led 23 = .ok (.getfield 26, 3) := by decide +kernel
theorem dX12_led_26 : decode cX12_led 26 = .ok (.bipush 12, 2) := by decide +kernel
theorem dX12_led_28 : decode cX12_led 28 = .ok (.iload_n 3, 1) := by decide +kernel
theorem dX12_led_29 : decode cX12_led 29 = .ok (.iadd, 1) := by decide +kernel
theorem dX12_led_30 : decode cX12_led 30 = .ok (.iaload, 1) := by decide +kernel
theorem dX12_led_31 : decode cX12_led 31 = .ok (.ifCond .le 6, 3) := by decide +kernel
theorem dX12_led_34 : decode cX12_led 34 = .ok (.goto 18, 3) := by decide +kernel
theorem dX12_led_37 : decode cX12_led 37 = .ok (.iload_n 2, 1) := by decide +kernel
theorem dX12_led_38 : decode cX12_led 38 = .ok (.iload_n 1, 1) := by decide +kernel
theorem dX12_led_39 : decode cX12_led 39 = .ok (.if_icmp .ne 10, 3) := by decide +kernel
theorem dX12_led_42 : decode cX12_led 42 = .ok (.aload_n 0, 1) := by decide +kernel
theorem dX12_led_43 : decode cX12_led 43 = .ok (.iconst 0, 1) := by decide +kernel
theorem dX12_led_44 : decode cX12_led 44 = .ok (.putfield 62, 3) := by decide +kernel
theorem dX12_led_47 : decode cX12_led 47 = .ok (.iload_n 3, 1) := by decide +kernel
theorem dX12_led_48 : decode cX12_led 48 = .ok (.ireturn, 1) := by decide +kernel
theorem dX12_led_49 : decode cX12_led 49 = .ok (.iinc 2 1, 3) := by decide +kernel
theorem dX12_led_52 : decode cX12_led 52 = .ok (.iinc 3 1, 3) := by decide +kernel
theorem dX12_led_55 : decode cX12_led 55 = .ok (.goto (-51), 3) := by decide +kernel
theorem dX12_led_58 : decode cX12_led 58 = .ok (.aload_n 0, 1) := by decide +kernel
theorem dX12_led_59 : decode cX12_led 59 = .ok (.iconst 1, 1) := by decide +kernel
theorem dX12_led_60 : decode cX12_led 60 = .ok (.putfield 62, 3) := by decide +kernel
theorem dX12_led_63 : decode cX12_led 63 = .ok (.iconst 0, 1) := by decide +kernel
theorem dX12_led_64 : decode cX12_led 64 = .ok (.ireturn, 1) := by decide +kernel
theorem dX12_size_0 : decode cX12_size 0 = .ok (.aload_n 0, 1) := by decide +kernel
theorem dX12_size_1 : decode cX12_size 1 = .ok (.iconst 0, 1) := by decide +kernel
theorem dX12_size_2 : decode cX12_size 2 = .ok (.putfield 62, 3) := by decide +kernel
theorem dX12_size_5 : decode cX12_size 5 = .ok (.iload_n 1, 1) := by decide +kernel
theorem dX12_size_6 : decode cX12_size 6 = .ok (.bipush 12, 2) := by decide +kernel
theorem dX12_size_8 : decode cX12_size 8 = .ok (.if_icmp .ne 8, 3) := by decide +kernel
theorem dX12_size_11 : decode cX12_size 11 = .ok (.aload_n 0, 1) := by decide +kernel
theorem dX12_size_12 : decode cX12_size 12 = .ok (.getfield 68, 3) := by decide +kernel
theorem dX12_size_15 : decode cX12_size 15 = .ok (.ireturn, 1) := by decide +kernel
theorem dX12_size_16 : decode cX12_size 16 = .ok (.aload_n 0, 1) := by decide +kernel
theorem dX12_size_17 : decode cX12_size 17 = .ok (.getfield 180, 3) := by decide +kernel
theorem dX12_size_20 : decode cX12_size 20 = .ok (.ifCond .ne 19, 3) := by decide +kernel
theorem dX12_size_23 : decode cX12_size 23 = .ok (.iload_n 1, 1) := by decide +kernel
theorem dX12_size_24 : decode cX12_size 24 = .ok (.iconst 0, 1) := by decide +kernel
theorem dX12_size_25 : decode cX12_size 25 = .ok (.bipush 11, 2) := by decide +kernel
theorem dX12_size_27 : decode cX12_size 27 = .ok (.invokestatic 149, 3) := by decide +kernel
theorem dX12_size_30 : decode cX12_size 30 = .ok (.ifCond .eq 7, 3) := by decide +kernel
theorem dX12_size_33 : decode cX12_size 33 = .ok (.iconst 0, 1) := by decide +kernel
theorem dX12_size_34 : decode cX12_size 34 = .ok (.goto 4, 3) := by decide +kernel
theorem dX12_size_37 : decode cX12_size 37 = .ok (.iconst (-1), 1) := by decide +kernel
theorem dX12_size_38 : decode cX12_size 38 = .ok (.ireturn, 1) := by decide +kernel
theorem dX12_size_39 : decode cX12_size 39 = .ok (.iload_n 1, 1) := by decide +kernel
theorem dX12_size_40 : decode cX12_size 40 = .ok (.iconst 0, 1) := by decide +kernel
theorem dX12_size_41 : decode cX12_size 41 = .ok (.bipush 8, 2) := by decide +kernel
theorem dX12_size_43 : decode cX12_size 43 = .ok (.invokestatic 149, 3) := by decide +kernel
theorem dX12_size_46 : decode cX12_size 46 = .ok (.ifCond .eq 10, 3) := by decide +kernel
theorem dX12_size_49 : decode cX12_size 49 = .ok (.aload_n 0, 1) := by decide +kernel
theorem dX12_size_50 : decode cX12_size 50 = .ok (.getfield 20, 3) := by decide +kernel
theorem dX12_size_53 : decode cX12_size 53 = .ok (.iload_n 1, 1) := by decide +kernel
theorem dX12_size_54 : decode cX12_size 54 = .ok (.iaload, 1) := by decide +kernel
theorem dX12_size_55 : decode cX12_size 55 = .ok (.ireturn, 1) := by decide +kernel
theorem dX12_size_56 : decode cX12_size 56 = .ok (.iload_n 1, 1) := by decide +kernel
theorem dX12_size_57 : decode cX12_size 57 = .ok (.bipush 9, 2) := by decide +kernel
theorem dX12_size_59 : decode cX12_size 59 = .ok (.if_icmp .ne 12, 3) := by decide +kernel
theorem dX12_size_62 : decode cX12_size 62 = .ok (.aload_n 0, 1) := by decide +kernel
theorem dX12_size_63 : decode cX12_size 63 = .ok (.getfield 26, 3) := by decide +kernel
theorem dX12_size_66 : decode cX12_size 66 = .ok (.iconst 0, 1) := by decide +kernel
theorem dX12_size_67 : decode cX12_size 67 = .ok (.iaload, 1) := by decide +kernel
theorem dX12_size_68 : decode cX12_size 68 = .ok (.goto 30, 3) := by decide +kernel
theorem dX12_size_71 : decode cX12_size 71 = .ok (.iload_n 1, 1) := by decide +kernel
theorem dX12_size_72 : decode cX12_size 72 = .ok (.bipush 10, 2) := by decide +kernel
theorem dX12_size_74 : decode cX12_size 74 = .ok (.if_icmp .ne 10, 3) := by decide +kernel
theorem dX12_size_77 : decode cX12_size 77 = .ok (.aload_n 0, 1) := by decide +kernel
theorem dX12_size_78 : decode cX12_size 78 = .ok (.getfield 183, 3) := by decide +kernel
theorem dX12_size_81 : decode cX12_size 81 = .ok (.goto 17, 3) := by decide +kernel
theorem dX12_size_84 : decode cX12_size 84 = .ok (.iload_n 1, 1) := by decide +kernel
theorem dX12_size_85 : decode cX12_size 85 = .ok (.bipush 11, 2) := by decide +kernel
theorem dX12_size_87 : decode cX12_size 87 = .ok (.if_icmp .ne 10, 3) := by decide +kernel
theorem dX12_size_90 : decode cX12_size 90 = .ok (.aload_n 0, 1) := by decide +kernel
theorem dX12_size_91 : decode cX12_size 91 = .ok (.getfield 186, 3) := by decide +kernel
theorem dX12_size_94 : decode cX12_size 94 = .ok (.goto 4, 3) := by decide +kernel
theorem dX12_size_97 : decode cX12_size 97 = .ok (.iconst (-1), 1) := by decide +kernel
theorem dX12_size_98 : decode cX12_size 98 = .ok (.ireturn, 1) := by decide +kernel
theorem dX12_trouble_0 : decode cX12_trouble 0 = .ok (.aload_n 0, 1) := by decide +kernel
theorem dX12_trouble_1 : decode cX12_trouble 1 = .ok (.iconst 0, 1) := by decide +kernel
theorem dX12_trouble_2 : decode cX12_trouble 2 = .ok (.putfield 62, 3) := by decide +kernel
theorem dX12_trouble_5 : decode cX12_trouble 5 = .ok (.aload_n 0, 1) := by decide +kernel
theorem dX12_trouble_6 : decode cX12_trouble 6 = .ok (.getfield 65, 3) := by decide +kernel
theorem dX12_trouble_9 : decode cX12_trouble 9 = .ok (.ireturn, 1) := by decide +kernel
