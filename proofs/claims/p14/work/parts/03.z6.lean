theorem fl_1_9 : zfld 1 9 = some (1, 0) := by decide +kernel
theorem fl_1_15 : zfld 1 15 = some (1, 1) := by decide +kernel
theorem fl_1_18 : zfld 1 18 = some (1, 2) := by decide +kernel
theorem fl_1_22 : zfld 1 22 = some (1, 3) := by decide +kernel
theorem fl_1_25 : zfld 1 25 = some (1, 4) := by decide +kernel
theorem fl_2_9 : zfld 2 9 = some (2, 0) := by decide +kernel
theorem fl_2_15 : zfld 2 15 = some (2, 1) := by decide +kernel
theorem fl_2_18 : zfld 2 18 = some (2, 2) := by decide +kernel
theorem fl_2_22 : zfld 2 22 = some (2, 3) := by decide +kernel
theorem fl_2_25 : zfld 2 25 = some (2, 4) := by decide +kernel
theorem fl_2_28 : zfld 2 28 = some (2, 5) := by decide +kernel
theorem fl_2_31 : zfld 2 31 = some (2, 6) := by decide +kernel
theorem fl_2_34 : zfld 2 34 = some (4, 6) := by decide +kernel
theorem fl_2_39 : zfld 2 39 = some (4, 12) := by decide +kernel
theorem fl_2_43 : zfld 2 43 = some (10, 1) := by decide +kernel
theorem fl_2_48 : zfld 2 48 = some (4, 7) := by decide +kernel
theorem fl_2_51 : zfld 2 51 = some (4, 9) := by decide +kernel
theorem fl_2_54 : zfld 2 54 = some (4, 13) := by decide +kernel
theorem fl_2_58 : zfld 2 58 = some (0, 1) := by decide +kernel
theorem fl_3_9 : zfld 3 9 = some (3, 1) := by decide +kernel
theorem fl_3_15 : zfld 3 15 = some (3, 2) := by decide +kernel
theorem fl_3_18 : zfld 3 18 = some (3, 3) := by decide +kernel
theorem fl_3_21 : zfld 3 21 = some (3, 0) := by decide +kernel
theorem fl_3_25 : zfld 3 25 = some (4, 4) := by decide +kernel
theorem fl_3_40 : zfld 3 40 = some (4, 5) := by decide +kernel
theorem fl_3_43 : zfld 3 43 = some (4, 11) := by decide +kernel
theorem fl_3_47 : zfld 3 47 = some (9, 0) := by decide +kernel
theorem fl_3_52 : zfld 3 52 = some (9, 1) := by decide +kernel
theorem fl_3_73 : zfld 3 73 = some (9, 2) := by decide +kernel
theorem fl_4_9 : zfld 4 9 = some (4, 9) := by decide +kernel
theorem fl_4_15 : zfld 4 15 = some (4, 10) := by decide +kernel
theorem fl_4_20 : zfld 4 20 = some (4, 11) := by decide +kernel
theorem fl_4_26 : zfld 4 26 = some (4, 12) := by decide +kernel
theorem fl_4_32 : zfld 4 32 = some (4, 13) := by decide +kernel
theorem fl_4_38 : zfld 4 38 = some (4, 14) := by decide +kernel
theorem fl_4_46 : zfld 4 46 = some (4, 0) := by decide +kernel
theorem fl_4_50 : zfld 4 50 = some (4, 1) := by decide +kernel
theorem fl_4_53 : zfld 4 53 = some (4, 2) := by decide +kernel
theorem fl_4_56 : zfld 4 56 = some (4, 3) := by decide +kernel
theorem fl_4_59 : zfld 4 59 = some (4, 4) := by decide +kernel
theorem fl_4_62 : zfld 4 62 = some (4, 5) := by decide +kernel
theorem fl_4_65 : zfld 4 65 = some (4, 6) := by decide +kernel
theorem fl_4_68 : zfld 4 68 = some (4, 7) := by decide +kernel
theorem fl_4_71 : zfld 4 71 = some (4, 8) := by decide +kernel
theorem fl_4_74 : zfld 4 74 = some (0, 1) := by decide +kernel
theorem fl_4_77 : zfld 4 77 = some (9, 0) := by decide +kernel
theorem fl_4_80 : zfld 4 80 = some (9, 1) := by decide +kernel
theorem fl_4_83 : zfld 4 83 = some (8, 0) := by decide +kernel
theorem fl_5_9 : zfld 5 9 = some (5, 1) := by decide +kernel
theorem fl_5_15 : zfld 5 15 = some (5, 2) := by decide +kernel
theorem fl_5_18 : zfld 5 18 = some (5, 3) := by decide +kernel
theorem fl_5_21 : zfld 5 21 = some (5, 4) := by decide +kernel
theorem fl_5_24 : zfld 5 24 = some (5, 5) := by decide +kernel
theorem fl_5_27 : zfld 5 27 = some (5, 7) := by decide +kernel
theorem fl_5_31 : zfld 5 31 = some (5, 8) := by decide +kernel
theorem fl_5_35 : zfld 5 35 = some (5, 9) := by decide +kernel
theorem fl_5_38 : zfld 5 38 = some (5, 10) := by decide +kernel
theorem fl_5_41 : zfld 5 41 = some (5, 11) := by decide +kernel
theorem fl_5_44 : zfld 5 44 = some (5, 12) := by decide +kernel
theorem fl_5_47 : zfld 5 47 = some (5, 0) := by decide +kernel
theorem fl_5_51 : zfld 5 51 = some (5, 6) := by decide +kernel
theorem fl_5_73 : zfld 5 73 = some (4, 4) := by decide +kernel
theorem fl_5_84 : zfld 5 84 = some (4, 0) := by decide +kernel
theorem fl_5_93 : zfld 5 93 = some (4, 5) := by decide +kernel
theorem fl_5_96 : zfld 5 96 = some (4, 11) := by decide +kernel
theorem fl_5_104 : zfld 5 104 = some (4, 6) := by decide +kernel
theorem fl_5_107 : zfld 5 107 = some (4, 12) := by decide +kernel
theorem fl_5_115 : zfld 5 115 = some (4, 7) := by decide +kernel
theorem fl_5_118 : zfld 5 118 = some (4, 13) := by decide +kernel
theorem fl_5_126 : zfld 5 126 = some (4, 8) := by decide +kernel
theorem fl_5_129 : zfld 5 129 = some (4, 14) := by decide +kernel
theorem fl_5_148 : zfld 5 148 = some (4, 1) := by decide +kernel
theorem fl_5_152 : zfld 5 152 = some (4, 2) := by decide +kernel
theorem fl_5_156 : zfld 5 156 = some (4, 3) := by decide +kernel
theorem fl_5_167 : zfld 5 167 = some (4, 9) := by decide +kernel
theorem fl_5_170 : zfld 5 170 = some (4, 10) := by decide +kernel
theorem fl_5_176 : zfld 5 176 = some (9, 0) := by decide +kernel
theorem fl_5_181 : zfld 5 181 = some (9, 1) := by decide +kernel
theorem fl_5_189 : zfld 5 189 = some (9, 2) := by decide +kernel
theorem fl_5_193 : zfld 5 193 = some (9, 3) := by decide +kernel
theorem fl_5_198 : zfld 5 198 = some (10, 0) := by decide +kernel
theorem fl_5_204 : zfld 5 204 = some (10, 1) := by decide +kernel
theorem fl_5_209 : zfld 5 209 = some (10, 2) := by decide +kernel
theorem fl_5_213 : zfld 5 213 = some (10, 3) := by decide +kernel
theorem fl_5_217 : zfld 5 217 = some (0, 0) := by decide +kernel
theorem fl_5_223 : zfld 5 223 = some (0, 1) := by decide +kernel
theorem fl_5_227 : zfld 5 227 = some (0, 2) := by decide +kernel
theorem fl_5_231 : zfld 5 231 = some (0, 3) := by decide +kernel
theorem fl_5_233 : zfld 5 233 = some (8, 0) := by decide +kernel
theorem fl_5_237 : zfld 5 237 = some (8, 1) := by decide +kernel
theorem fl_5_244 : zfld 5 244 = some (8, 2) := by decide +kernel
theorem fl_6_9 : zfld 6 9 = some (6, 3) := by decide +kernel
theorem fl_6_15 : zfld 6 15 = some (6, 4) := by decide +kernel
theorem fl_6_19 : zfld 6 19 = some (6, 5) := by decide +kernel
theorem fl_6_22 : zfld 6 22 = some (6, 6) := by decide +kernel
theorem fl_6_25 : zfld 6 25 = some (6, 0) := by decide +kernel
theorem fl_6_29 : zfld 6 29 = some (6, 1) := by decide +kernel
theorem fl_6_33 : zfld 6 33 = some (6, 2) := by decide +kernel
theorem fl_6_44 : zfld 6 44 = some (4, 4) := by decide +kernel
theorem fl_6_49 : zfld 6 49 = some (4, 5) := by decide +kernel
theorem fl_6_52 : zfld 6 52 = some (4, 11) := by decide +kernel
theorem fl_6_56 : zfld 6 56 = some (9, 0) := by decide +kernel
theorem fl_6_61 : zfld 6 61 = some (9, 1) := by decide +kernel
theorem fl_6_74 : zfld 6 74 = some (9, 2) := by decide +kernel
theorem fl_6_77 : zfld 6 77 = some (9, 3) := by decide +kernel
theorem fl_6_88 : zfld 6 88 = some (4, 12) := by decide +kernel
theorem fl_6_92 : zfld 6 92 = some (4, 13) := by decide +kernel
theorem fl_6_99 : zfld 6 99 = some (0, 2) := by decide +kernel
theorem fl_6_107 : zfld 6 107 = some (10, 0) := by decide +kernel
theorem fl_6_112 : zfld 6 112 = some (2, 6) := by decide +kernel
theorem fl_6_119 : zfld 6 119 = some (2, 0) := by decide +kernel
theorem fl_6_127 : zfld 6 127 = some (2, 2) := by decide +kernel
theorem fl_6_130 : zfld 6 130 = some (0, 0) := by decide +kernel
theorem fl_6_133 : zfld 6 133 = some (2, 3) := by decide +kernel
theorem fl_6_140 : zfld 6 140 = some (0, 3) := by decide +kernel
theorem fl_6_149 : zfld 6 149 = some (10, 2) := by decide +kernel
theorem fl_6_152 : zfld 6 152 = some (4, 6) := by decide +kernel
theorem fl_6_158 : zfld 6 158 = some (10, 3) := by decide +kernel
theorem fl_6_167 : zfld 6 167 = some (10, 1) := by decide +kernel
theorem fl_6_170 : zfld 6 170 = some (4, 8) := by decide +kernel
theorem fl_6_173 : zfld 6 173 = some (4, 14) := by decide +kernel
theorem fl_6_177 : zfld 6 177 = some (8, 0) := by decide +kernel
theorem fl_6_181 : zfld 6 181 = some (8, 1) := by decide +kernel
theorem fl_6_184 : zfld 6 184 = some (8, 2) := by decide +kernel
theorem fl_7_9 : zfld 7 9 = some (7, 1) := by decide +kernel
theorem fl_7_15 : zfld 7 15 = some (7, 2) := by decide +kernel
theorem fl_7_18 : zfld 7 18 = some (7, 3) := by decide +kernel
theorem fl_7_21 : zfld 7 21 = some (7, 4) := by decide +kernel
theorem fl_7_24 : zfld 7 24 = some (7, 5) := by decide +kernel
theorem fl_7_28 : zfld 7 28 = some (7, 0) := by decide +kernel
theorem fl_7_32 : zfld 7 32 = some (4, 2) := by decide +kernel
theorem fl_7_37 : zfld 7 37 = some (4, 0) := by decide +kernel
theorem fl_7_44 : zfld 7 44 = some (4, 9) := by decide +kernel
theorem fl_7_47 : zfld 7 47 = some (4, 10) := by decide +kernel
theorem fl_7_57 : zfld 7 57 = some (4, 4) := by decide +kernel
theorem fl_7_64 : zfld 7 64 = some (4, 1) := by decide +kernel
theorem fl_7_89 : zfld 7 89 = some (4, 3) := by decide +kernel
theorem fl_11_9 : zfld 11 9 = some (11, 0) := by decide +kernel
theorem fl_11_13 : zfld 11 13 = some (11, 1) := by decide +kernel
theorem fl_11_17 : zfld 11 17 = some (11, 2) := by decide +kernel
theorem fl_11_23 : zfld 11 23 = some (11, 3) := by decide +kernel
theorem fl_11_27 : zfld 11 27 = some (11, 4) := by decide +kernel
theorem fl_11_35 : zfld 11 35 = some (11, 5) := by decide +kernel
theorem fl_11_42 : zfld 11 42 = some (11, 6) := by decide +kernel
theorem fl_11_51 : zfld 11 51 = some (11, 7) := by decide +kernel
theorem fl_11_60 : zfld 11 60 = some (11, 8) := by decide +kernel
theorem fl_11_67 : zfld 11 67 = some (11, 9) := by decide +kernel
theorem fl_11_74 : zfld 11 74 = some (11, 10) := by decide +kernel
theorem fl_11_78 : zfld 11 78 = some (11, 11) := by decide +kernel
theorem fl_11_82 : zfld 11 82 = some (11, 12) := by decide +kernel
theorem fl_11_85 : zfld 11 85 = some (11, 13) := by decide +kernel
theorem fl_11_88 : zfld 11 88 = some (11, 14) := by decide +kernel
theorem fl_11_91 : zfld 11 91 = some (11, 15) := by decide +kernel
theorem fl_11_109 : zfld 11 109 = some (4, 4) := by decide +kernel
theorem fl_11_115 : zfld 11 115 = some (5, 11) := by decide +kernel
theorem fl_11_118 : zfld 11 118 = some (5, 12) := by decide +kernel
theorem fl_11_125 : zfld 11 125 = some (4, 12) := by decide +kernel
theorem fl_11_129 : zfld 11 129 = some (10, 0) := by decide +kernel
theorem fl_11_134 : zfld 11 134 = some (2, 2) := by decide +kernel
theorem fl_11_138 : zfld 11 138 = some (2, 3) := by decide +kernel
theorem fl_11_141 : zfld 11 141 = some (10, 2) := by decide +kernel
theorem fl_11_144 : zfld 11 144 = some (10, 3) := by decide +kernel
theorem fl_11_150 : zfld 11 150 = some (4, 13) := by decide +kernel
theorem fl_11_154 : zfld 11 154 = some (0, 0) := by decide +kernel
theorem fl_11_159 : zfld 11 159 = some (0, 1) := by decide +kernel
theorem fl_11_162 : zfld 11 162 = some (0, 2) := by decide +kernel
theorem fl_11_165 : zfld 11 165 = some (0, 3) := by decide +kernel
theorem fl_11_168 : zfld 11 168 = some (2, 4) := by decide +kernel
theorem fl_11_171 : zfld 11 171 = some (2, 5) := by decide +kernel
theorem fl_11_177 : zfld 11 177 = some (4, 10) := by decide +kernel
theorem fl_11_180 : zfld 11 180 = some (2, 0) := by decide +kernel
theorem fl_11_195 : zfld 11 195 = some (2, 6) := by decide +kernel
theorem fl_11_213 : zfld 11 213 = some (4, 11) := by decide +kernel
theorem fl_11_217 : zfld 11 217 = some (9, 2) := by decide +kernel
theorem fl_11_233 : zfld 11 233 = some (9, 3) := by decide +kernel
theorem fl_11_239 : zfld 11 239 = some (4, 7) := by decide +kernel
theorem fl_11_265 : zfld 11 265 = some (7, 4) := by decide +kernel
theorem fl_11_268 : zfld 11 268 = some (7, 2) := by decide +kernel
theorem fl_11_271 : zfld 11 271 = some (7, 3) := by decide +kernel
theorem fl_11_274 : zfld 11 274 = some (4, 9) := by decide +kernel
theorem fl_11_301 : zfld 11 301 = some (1, 2) := by decide +kernel
theorem fl_11_304 : zfld 11 304 = some (1, 3) := by decide +kernel
theorem fl_11_307 : zfld 11 307 = some (1, 1) := by decide +kernel
theorem fl_11_322 : zfld 11 322 = some (2, 1) := by decide +kernel
theorem fl_11_331 : zfld 11 331 = some (3, 1) := by decide +kernel
theorem fl_11_335 : zfld 11 335 = some (7, 1) := by decide +kernel
theorem fl_11_344 : zfld 11 344 = some (6, 4) := by decide +kernel
theorem fl_11_350 : zfld 11 350 = some (4, 0) := by decide +kernel
theorem fl_11_370 : zfld 11 370 = some (4, 1) := by decide +kernel
theorem fl_11_373 : zfld 11 373 = some (4, 2) := by decide +kernel
theorem fl_11_376 : zfld 11 376 = some (4, 3) := by decide +kernel
theorem fl_11_379 : zfld 11 379 = some (4, 5) := by decide +kernel
theorem fl_11_382 : zfld 11 382 = some (4, 6) := by decide +kernel
theorem fl_11_385 : zfld 11 385 = some (4, 8) := by decide +kernel
theorem fl_11_388 : zfld 11 388 = some (7, 0) := by decide +kernel
theorem fl_11_389 : zfld 11 389 = some (6, 0) := by decide +kernel
theorem fl_11_390 : zfld 11 390 = some (3, 0) := by decide +kernel
theorem fl_11_402 : zfld 11 402 = some (1, 0) := by decide +kernel
theorem fl_12_7 : zfld 12 7 = some (12, 1) := by decide +kernel
theorem fl_12_13 : zfld 12 13 = some (12, 10) := by decide +kernel
theorem fl_12_17 : zfld 12 17 = some (12, 12) := by decide +kernel
theorem fl_12_20 : zfld 12 20 = some (12, 15) := by decide +kernel
theorem fl_12_23 : zfld 12 23 = some (12, 16) := by decide +kernel
theorem fl_12_26 : zfld 12 26 = some (12, 17) := by decide +kernel
theorem fl_12_29 : zfld 12 29 = some (12, 18) := by decide +kernel
theorem fl_12_32 : zfld 12 32 = some (12, 19) := by decide +kernel
theorem fl_12_35 : zfld 12 35 = some (12, 22) := by decide +kernel
theorem fl_12_38 : zfld 12 38 = some (12, 24) := by decide +kernel
theorem fl_12_41 : zfld 12 41 = some (12, 25) := by decide +kernel
theorem fl_12_44 : zfld 12 44 = some (12, 28) := by decide +kernel
theorem fl_12_47 : zfld 12 47 = some (12, 29) := by decide +kernel
theorem fl_12_50 : zfld 12 50 = some (12, 30) := by decide +kernel
theorem fl_12_53 : zfld 12 53 = some (12, 35) := by decide +kernel
theorem fl_12_56 : zfld 12 56 = some (12, 36) := by decide +kernel
theorem fl_12_59 : zfld 12 59 = some (12, 37) := by decide +kernel
theorem fl_12_62 : zfld 12 62 = some (12, 0) := by decide +kernel
theorem fl_12_65 : zfld 12 65 = some (12, 11) := by decide +kernel
theorem fl_12_68 : zfld 12 68 = some (12, 2) := by decide +kernel
theorem fl_12_71 : zfld 12 71 = some (12, 3) := by decide +kernel
theorem fl_12_74 : zfld 12 74 = some (12, 5) := by decide +kernel
theorem fl_12_81 : zfld 12 81 = some (12, 4) := by decide +kernel
theorem fl_12_84 : zfld 12 84 = some (12, 8) := by decide +kernel
theorem fl_12_87 : zfld 12 87 = some (12, 7) := by decide +kernel
theorem fl_12_90 : zfld 12 90 = some (12, 6) := by decide +kernel
theorem fl_12_100 : zfld 12 100 = some (12, 13) := by decide +kernel
theorem fl_12_104 : zfld 12 104 = some (12, 9) := by decide +kernel
theorem fl_12_180 : zfld 12 180 = some (12, 14) := by decide +kernel
theorem fl_12_183 : zfld 12 183 = some (12, 20) := by decide +kernel
theorem fl_12_186 : zfld 12 186 = some (12, 21) := by decide +kernel
theorem fl_12_315 : zfld 12 315 = some (12, 23) := by decide +kernel
theorem fl_12_358 : zfld 12 358 = some (12, 26) := by decide +kernel
theorem fl_12_361 : zfld 12 361 = some (12, 27) := by decide +kernel
theorem fl_12_379 : zfld 12 379 = some (12, 31) := by decide +kernel
theorem fl_12_382 : zfld 12 382 = some (12, 32) := by decide +kernel
theorem fl_12_392 : zfld 12 392 = some (12, 33) := by decide +kernel
theorem fl_12_395 : zfld 12 395 = some (12, 34) := by decide +kernel
theorem fl_12_410 : zfld 12 410 = some (12, 38) := by decide +kernel
theorem cl_1_48 : zcst 1 48 = some (.inl (10000000)) := by decide +kernel
theorem cl_3_62 : zcst 3 62 = some (.inl (1000000)) := by decide +kernel
theorem cl_5_137 : zcst 5 137 = some (.inr (.inr (some 1000016))) := by decide +kernel
theorem cl_5_146 : zcst 5 146 = some (.inr (.inr (some 1000017))) := by decide +kernel
theorem cl_5_150 : zcst 5 150 = some (.inr (.inr (some 1000018))) := by decide +kernel
theorem cl_5_154 : zcst 5 154 = some (.inr (.inr (some 1000019))) := by decide +kernel
theorem cl_5_187 : zcst 5 187 = some (.inr (.inr (some 1000020))) := by decide +kernel
theorem cl_5_191 : zcst 5 191 = some (.inr (.inr (some 1000021))) := by decide +kernel
theorem cl_5_203 : zcst 5 203 = some (.inr (.inr (some 1000026))) := by decide +kernel
theorem cl_5_207 : zcst 5 207 = some (.inr (.inr (some 1000027))) := by decide +kernel
theorem cl_5_211 : zcst 5 211 = some (.inr (.inr (some 1000028))) := by decide +kernel
theorem cl_5_215 : zcst 5 215 = some (.inr (.inr (some 1000029))) := by decide +kernel
theorem cl_5_221 : zcst 5 221 = some (.inr (.inr (some 1000030))) := by decide +kernel
theorem cl_5_225 : zcst 5 225 = some (.inr (.inr (some 1000031))) := by decide +kernel
theorem cl_5_229 : zcst 5 229 = some (.inr (.inr (some 1000032))) := by decide +kernel
theorem cl_5_255 : zcst 5 255 = some (.inr (.inr (some 1000022))) := by decide +kernel
theorem cl_5_257 : zcst 5 257 = some (.inr (.inr (some 1000023))) := by decide +kernel
theorem cl_5_259 : zcst 5 259 = some (.inr (.inr (some 1000024))) := by decide +kernel
theorem cl_5_261 : zcst 5 261 = some (.inr (.inr (some 1000025))) := by decide +kernel
theorem cl_5_263 : zcst 5 263 = some (.inr (.inr (some 1000010))) := by decide +kernel
theorem cl_5_264 : zcst 5 264 = some (.inr (.inr (some 1000011))) := by decide +kernel
theorem cl_5_265 : zcst 5 265 = some (.inr (.inr (some 1000012))) := by decide +kernel
theorem cl_5_266 : zcst 5 266 = some (.inr (.inr (some 1000013))) := by decide +kernel
theorem cl_5_267 : zcst 5 267 = some (.inr (.inr (some 1000014))) := by decide +kernel
theorem cl_5_268 : zcst 5 268 = some (.inr (.inr (some 1000015))) := by decide +kernel
theorem cl_6_37 : zcst 6 37 = some (.inl (1000000000)) := by decide +kernel
theorem cl_7_84 : zcst 7 84 = some (.inl (65537)) := by decide +kernel
theorem cl_11_226 : zcst 11 226 = some (.inl (99999)) := by decide +kernel
theorem cl_11_334 : zcst 11 334 = some (.inl (65536)) := by decide +kernel
theorem cl_11_365 : zcst 11 365 = some (.inr (.inr (some 1000033))) := by decide +kernel
theorem cl_12_131 : zcst 12 131 = some (.inr (.inr (some 1000034))) := by decide +kernel
theorem cl_12_133 : zcst 12 133 = some (.inr (.inr (some 1000039))) := by decide +kernel
theorem cl_12_135 : zcst 12 135 = some (.inr (.inr (some 1000040))) := by decide +kernel
theorem cl_12_137 : zcst 12 137 = some (.inr (.inr (some 1000041))) := by decide +kernel
theorem cl_12_139 : zcst 12 139 = some (.inr (.inr (some 1000042))) := by decide +kernel
theorem cl_12_141 : zcst 12 141 = some (.inr (.inr (some 1000043))) := by decide +kernel
theorem cl_12_211 : zcst 12 211 = some (.inr (.inr (some 1000035))) := by decide +kernel
theorem cl_12_217 : zcst 12 217 = some (.inr (.inr (some 1000036))) := by decide +kernel
theorem cl_12_219 : zcst 12 219 = some (.inr (.inr (some 1000037))) := by decide +kernel
theorem cl_12_221 : zcst 12 221 = some (.inr (.inr (some 1000038))) := by decide +kernel
theorem cl_12_234 : zcst 12 234 = some (.inr (.inr (some 1000044))) := by decide +kernel
theorem cl_12_235 : zcst 12 235 = some (.inr (.inr (some 1000045))) := by decide +kernel
theorem cl_12_237 : zcst 12 237 = some (.inr (.inr (some 1000046))) := by decide +kernel
theorem cl_12_239 : zcst 12 239 = some (.inr (.inr (some 1000047))) := by decide +kernel
theorem cl_12_241 : zcst 12 241 = some (.inr (.inr (some 1000048))) := by decide +kernel
theorem cl_12_243 : zcst 12 243 = some (.inr (.inr (some 1000049))) := by decide +kernel
theorem cl_12_245 : zcst 12 245 = some (.inr (.inr (some 1000050))) := by decide +kernel
theorem cl_12_250 : zcst 12 250 = some (.inr (.inr (some 1000051))) := by decide +kernel
theorem cl_12_252 : zcst 12 252 = some (.inr (.inr (some 1000052))) := by decide +kernel
theorem cl_12_254 : zcst 12 254 = some (.inr (.inr (some 1000053))) := by decide +kernel
theorem cl_12_256 : zcst 12 256 = some (.inr (.inr (some 1000054))) := by decide +kernel
theorem cl_12_258 : zcst 12 258 = some (.inr (.inr (some 1000055))) := by decide +kernel
theorem cl_12_260 : zcst 12 260 = some (.inr (.inr (some 1000056))) := by decide +kernel
theorem cl_12_340 : zcst 12 340 = some (.inl (99999)) := by decide +kernel
theorem cl_12_341 : zcst 12 341 = some (.inl (1000000)) := by decide +kernel
theorem cl_12_373 : zcst 12 373 = some (.inr (.inl (10000))) := by decide +kernel
theorem cl_12_422 : zcst 12 422 = some (.inl (65536)) := by decide +kernel
theorem cl_12_423 : zcst 12 423 = some (.inl (65537)) := by decide +kernel
theorem cl_16_265 : zcst 16 265 = some (.inl (1431655765)) := by decide +kernel
theorem cl_16_266 : zcst 16 266 = some (.inl (858993459)) := by decide +kernel
theorem cl_16_267 : zcst 16 267 = some (.inl (252645135)) := by decide +kernel
theorem kl_4_18 : zcls 4 18 = some 9 := by decide +kernel
theorem kl_4_24 : zcls 4 24 = some 10 := by decide +kernel
theorem kl_4_30 : zcls 4 30 = some 0 := by decide +kernel
theorem kl_4_36 : zcls 4 36 = some 8 := by decide +kernel
theorem kl_11_20 : zcls 11 20 = some 4 := by decide +kernel
theorem kl_11_30 : zcls 11 30 = some 5 := by decide +kernel
theorem kl_11_39 : zcls 11 39 = some 2 := by decide +kernel
theorem kl_11_46 : zcls 11 46 = some 7 := by decide +kernel
theorem kl_11_55 : zcls 11 55 = some 6 := by decide +kernel
theorem kl_11_64 : zcls 11 64 = some 3 := by decide +kernel
theorem kl_11_71 : zcls 11 71 = some 1 := by decide +kernel
theorem kl_11_363 : zcls 11 363 = some 99 := by decide +kernel
theorem kl_13_8 : zcls 13 8 = some 11 := by decide +kernel
theorem kl_13_13 : zcls 13 13 = some 99 := by decide +kernel
theorem kl_13_16 : zcls 13 16 = some 12 := by decide +kernel
theorem ml_0_1 : zmth 0 1 = some (10, 0, zledM) := rfl
theorem ml_1_3 : zmth 1 3 = some (10, 0, zledM) := rfl
theorem ml_1_28 : zmth 1 28 = some (1, 2, mJ7_fill_53178) := rfl
theorem ml_1_34 : zmth 1 34 = some (0, 4, mX1_worth) := rfl
theorem ml_1_38 : zmth 1 38 = some (11, 0, zledM) := rfl
theorem ml_1_44 : zmth 1 44 = some (0, 3, mX1_choose) := rfl
theorem ml_1_49 : zmth 1 49 = some (0, 4, mX1_firstBest) := rfl
theorem ml_2_3 : zmth 2 3 = some (10, 0, zledM) := rfl
theorem ml_2_63 : zmth 2 63 = some (14, 0, zledM) := rfl
theorem ml_3_3 : zmth 3 3 = some (10, 0, zledM) := rfl
theorem ml_3_31 : zmth 3 31 = some (0, 2, mX3_waysOutOf) := rfl
theorem ml_3_35 : zmth 3 35 = some (1, 1, mJ6_bitCount_0f7a4) := rfl
theorem ml_3_55 : zmth 3 55 = some (0, 2, mX3_findShortest) := rfl
theorem ml_3_59 : zmth 3 59 = some (0, 1, mX3_findRests) := rfl
theorem ml_3_63 : zmth 3 63 = some (0, 3, mX3_nextOf) := rfl
theorem ml_3_67 : zmth 3 67 = some (1, 2, mJ7_fill_53178) := rfl
theorem ml_3_76 : zmth 3 76 = some (12, 0, zledM) := rfl
theorem ml_3_81 : zmth 3 81 = some (0, 4, mX3_daysOver) := rfl
theorem ml_4_3 : zmth 4 3 = some (10, 0, zledM) := rfl
theorem ml_4_42 : zmth 4 42 = some (4, 1, mX9_init) := rfl
theorem ml_4_43 : zmth 4 43 = some (4, 1, mX10_init) := rfl
theorem ml_4_44 : zmth 4 44 = some (4, 1, mX0_init) := rfl
theorem ml_4_45 : zmth 4 45 = some (4, 1, mX8_init) := rfl
theorem ml_5_3 : zmth 5 3 = some (10, 0, zledM) := rfl
theorem ml_5_55 : zmth 5 55 = some (0, 1, mX4_clear) := rfl
theorem ml_5_60 : zmth 5 60 = some (12, 0, zledM) := rfl
theorem ml_5_66 : zmth 5 66 = some (0, 1, mX5_readLine) := rfl
theorem ml_5_70 : zmth 5 70 = some (0, 1, mX5_nextToken) := rfl
theorem ml_5_76 : zmth 5 76 = some (0, 2, mX5_faulty) := rfl
theorem ml_5_80 : zmth 5 80 = some (0, 1, mX5_sortOfLine) := rfl
theorem ml_5_87 : zmth 5 87 = some (0, 1, mX5_readHead) := rfl
theorem ml_5_90 : zmth 5 90 = some (0, 1, mX5_readIsland) := rfl
theorem ml_5_100 : zmth 5 100 = some (0, 2, mX5_readWay) := rfl
theorem ml_5_111 : zmth 5 111 = some (0, 2, mX5_readWhale) := rfl
theorem ml_5_122 : zmth 5 122 = some (0, 2, mX5_readBox) := rfl
theorem ml_5_133 : zmth 5 133 = some (0, 2, mX5_readSpout) := rfl
theorem ml_5_138 : zmth 5 138 = some (0, 2, mX5_word) := rfl
theorem ml_5_142 : zmth 5 142 = some (0, 3, mX5_whole) := rfl
theorem ml_5_158 : zmth 5 158 = some (0, 3, mX5_newName) := rfl
theorem ml_5_161 : zmth 5 161 = some (0, 1, mX5_songOfToken) := rfl
theorem ml_5_164 : zmth 5 164 = some (0, 3, mX4_hasSong) := rfl
theorem ml_5_173 : zmth 5 173 = some (0, 2, mX5_toldName) := rfl
theorem ml_5_184 : zmth 5 184 = some (0, 3, mX4_wayBetween) := rfl
theorem ml_5_195 : zmth 5 195 = some (0, 1, mX5_kindOfToken) := rfl
theorem ml_5_240 : zmth 5 240 = some (0, 2, mX4_lastSpoutOf) := rfl
theorem ml_5_245 : zmth 5 245 = some (0, 2, mX5_isToken) := rfl
theorem ml_5_248 : zmth 5 248 = some (0, 1, mX5_nameOfToken) := rfl
theorem ml_5_251 : zmth 5 251 = some (0, 1, mX5_letters) := rfl
theorem ml_5_269 : zmth 5 269 = some (0, 1, mJ0_length_8abf5) := rfl
theorem ml_5_274 : zmth 5 274 = some (0, 2, mJ0_charAt_5068e) := rfl
theorem ml_5_278 : zmth 5 278 = some (0, 3, mX5_passAll) := rfl
theorem ml_6_3 : zmth 6 3 = some (10, 0, zledM) := rfl
theorem ml_6_38 : zmth 6 38 = some (1, 2, mJ7_fill_53178) := rfl
theorem ml_6_64 : zmth 6 64 = some (0, 2, mX2_isClosed) := rfl
theorem ml_6_70 : zmth 6 70 = some (0, 5, mX6_goes) := rfl
theorem ml_6_80 : zmth 6 80 = some (0, 4, mX6_dayOfLeaving) := rfl
theorem ml_6_84 : zmth 6 84 = some (0, 4, mX6_findFirstDays) := rfl
theorem ml_6_96 : zmth 6 96 = some (0, 2, mX2_isSent) := rfl
theorem ml_6_115 : zmth 6 115 = some (0, 2, mX4_boxLength) := rfl
theorem ml_6_122 : zmth 6 122 = some (0, 4, mX7_hearerOf) := rfl
theorem ml_6_136 : zmth 6 136 = some (0, 5, mX6_firstDayAt) := rfl
theorem ml_6_143 : zmth 6 143 = some (11, 0, zledM) := rfl
theorem ml_6_155 : zmth 6 155 = some (0, 3, mX6_dayOfBringing) := rfl
theorem ml_6_161 : zmth 6 161 = some (12, 0, zledM) := rfl
theorem ml_6_164 : zmth 6 164 = some (0, 2, mX6_isFitting) := rfl
theorem ml_6_185 : zmth 6 185 = some (0, 2, mX4_lastSpoutOf) := rfl
theorem ml_6_188 : zmth 6 188 = some (0, 1, mX6_fittingWhales) := rfl
theorem ml_6_192 : zmth 6 192 = some (1, 1, mJ6_bitCount_0f7a4) := rfl
theorem ml_6_197 : zmth 6 197 = some (0, 3, mX6_whalesReaching) := rfl
theorem ml_6_200 : zmth 6 200 = some (13, 0, zledM) := rfl
theorem ml_6_203 : zmth 6 203 = some (0, 3, mX6_islandsReached) := rfl
theorem ml_7_3 : zmth 7 3 = some (10, 0, zledM) := rfl
theorem ml_7_40 : zmth 7 40 = some (3, 3, mX11_noteAt) := rfl
theorem ml_7_50 : zmth 7 50 = some (0, 2, mX7_fallIn) := rfl
theorem ml_7_54 : zmth 7 54 = some (0, 4, mX7_raised) := rfl
theorem ml_7_60 : zmth 7 60 = some (3, 2, mX11_unlikeNotes) := rfl
theorem ml_7_67 : zmth 7 67 = some (0, 3, mX7_apartness) := rfl
theorem ml_7_70 : zmth 7 70 = some (0, 3, mX7_keepSongsOf) := rfl
theorem ml_7_73 : zmth 7 73 = some (0, 3, mX7_isOfNotes) := rfl
theorem ml_7_77 : zmth 7 77 = some (0, 4, mX7_isFarFromKept) := rfl
theorem ml_7_81 : zmth 7 81 = some (0, 3, mX7_songIn) := rfl
theorem ml_7_85 : zmth 7 85 = some (0, 1, mX7_draw) := rfl
theorem ml_7_92 : zmth 7 92 = some (3, 4, mX11_withNote) := rfl
theorem ml_8_1 : zmth 8 1 = some (10, 0, zledM) := rfl
theorem ml_9_1 : zmth 9 1 = some (10, 0, zledM) := rfl
theorem ml_10_1 : zmth 10 1 = some (10, 0, zledM) := rfl
theorem ml_11_1 : zmth 11 1 = some (10, 0, zledM) := rfl
theorem ml_11_22 : zmth 11 22 = some (2, 1, mX4_init) := rfl
theorem ml_11_32 : zmth 11 32 = some (2, 3, mX5_init) := rfl
theorem ml_11_41 : zmth 11 41 = some (4, 1, mX2_init) := rfl
theorem ml_11_48 : zmth 11 48 = some (2, 2, mX7_init) := rfl
theorem ml_11_57 : zmth 11 57 = some (2, 4, mX6_init) := rfl
theorem ml_11_66 : zmth 11 66 = some (2, 2, mX3_init) := rfl
theorem ml_11_73 : zmth 11 73 = some (4, 1, mX1_init) := rfl
theorem ml_11_94 : zmth 11 94 = some (0, 2, mX11_appendBytes) := rfl
theorem ml_11_98 : zmth 11 98 = some (0, 2, mX11_refused) := rfl
theorem ml_11_102 : zmth 11 102 = some (0, 3, mX5_readPost) := rfl
theorem ml_11_106 : zmth 11 106 = some (0, 1, mX11_takeDraft) := rfl
theorem ml_11_112 : zmth 11 112 = some (0, 2, mX11_granted) := rfl
theorem ml_11_121 : zmth 11 121 = some (0, 2, mX11_isWhale) := rfl
theorem ml_11_147 : zmth 11 147 = some (0, 2, mX11_isBox) := rfl
theorem ml_11_174 : zmth 11 174 = some (0, 2, mX11_isIsland) := rfl
theorem ml_11_183 : zmth 11 183 = some (0, 3, mX7_songIn) := rfl
theorem ml_11_187 : zmth 11 187 = some (1, 3, mX11_noteAt) := rfl
theorem ml_11_191 : zmth 11 191 = some (0, 3, mX11_isNoteOfBox) := rfl
theorem ml_11_198 : zmth 11 198 = some (0, 2, mX4_boxLength) := rfl
theorem ml_11_201 : zmth 11 201 = some (0, 3, mX11_hearerIn) := rfl
theorem ml_11_204 : zmth 11 204 = some (0, 3, mX11_areTwoIslands) := rfl
theorem ml_11_207 : zmth 11 207 = some (0, 3, mX4_wayBetween) := rfl
theorem ml_11_210 : zmth 11 210 = some (0, 2, mX2_isClosed) := rfl
theorem ml_11_222 : zmth 11 222 = some (0, 1, mX11_hasPost) := rfl
theorem ml_11_227 : zmth 11 227 = some (1, 2, mX11_isWithin) := rfl
theorem ml_11_230 : zmth 11 230 = some (0, 2, mX11_isWay) := rfl
theorem ml_11_236 : zmth 11 236 = some (0, 4, mX6_dayOfLeaving) := rfl
theorem ml_11_242 : zmth 11 242 = some (0, 2, mX2_isSent) := rfl
theorem ml_11_245 : zmth 11 245 = some (0, 3, mX11_sentPart) := rfl
theorem ml_11_248 : zmth 11 248 = some (0, 3, mX7_apartness) := rfl
theorem ml_11_251 : zmth 11 251 = some (0, 1, mX7_bearable) := rfl
theorem ml_11_255 : zmth 11 255 = some (0, 1, mX7_mixedPairs) := rfl
theorem ml_11_258 : zmth 11 258 = some (0, 3, mX11_refusalOfNewSong) := rfl
theorem ml_11_261 : zmth 11 261 = some (0, 5, mX7_findNew) := rfl
theorem ml_11_277 : zmth 11 277 = some (0, 4, mX7_hearerOf) := rfl
theorem ml_11_280 : zmth 11 280 = some (0, 5, mX6_firstDayAt) := rfl
theorem ml_11_283 : zmth 11 283 = some (0, 3, mX6_dayOfBringing) := rfl
theorem ml_11_286 : zmth 11 286 = some (0, 2, mX6_soonestBringer) := rfl
theorem ml_11_289 : zmth 11 289 = some (0, 3, mX6_surestBringer) := rfl
theorem ml_11_292 : zmth 11 292 = some (0, 3, mX6_bringersBy) := rfl
theorem ml_11_295 : zmth 11 295 = some (1, 2, mX11_commonDivisor) := rfl
theorem ml_11_298 : zmth 11 298 = some (0, 1, mX11_solveMatch) := rfl
theorem ml_11_310 : zmth 11 310 = some (0, 5, mX6_dayOfMeeting) := rfl
theorem ml_11_313 : zmth 11 313 = some (0, 1, mX6_fittingWhales) := rfl
theorem ml_11_316 : zmth 11 316 = some (0, 3, mX6_islandsReached) := rfl
theorem ml_11_319 : zmth 11 319 = some (0, 2, mX6_bestPier) := rfl
theorem ml_11_325 : zmth 11 325 = some (0, 4, mX3_fewestToWatch) := rfl
theorem ml_11_328 : zmth 11 328 = some (0, 3, mX3_findRound) := rfl
theorem ml_11_338 : zmth 11 338 = some (0, 2, mX11_heardWithSlips) := rfl
theorem ml_11_341 : zmth 11 341 = some (0, 1, mX11_keepForUndo) := rfl
theorem ml_11_347 : zmth 11 347 = some (0, 2, mX11_hasRefused) := rfl
theorem ml_11_353 : zmth 11 353 = some (1, 4, mX11_withNote) := rfl
theorem ml_11_356 : zmth 11 356 = some (0, 1, mX11_hasGranted) := rfl
theorem ml_11_359 : zmth 11 359 = some (0, 2, mX2_copyFrom) := rfl
theorem ml_11_391 : zmth 11 391 = some (0, 2, mX2_begin) := rfl
theorem ml_11_394 : zmth 11 394 = some (12, 0, zledM) := rfl
theorem ml_11_399 : zmth 11 399 = some (0, 3, mX7_slipped) := rfl
theorem ml_11_404 : zmth 11 404 = some (0, 3, mX1_solve) := rfl
theorem ml_11_408 : zmth 11 408 = some (11, 0, zledM) := rfl
theorem ml_11_411 : zmth 11 411 = some (1, 1, mJ6_bitCount_0f7a4) := rfl
theorem ml_12_1 : zmth 12 1 = some (10, 0, zledM) := rfl
theorem ml_12_77 : zmth 12 77 = some (0, 2, mX12_look) := rfl
theorem ml_12_93 : zmth 12 93 = some (1, 1, mX12_isSmall) := rfl
theorem ml_12_97 : zmth 12 97 = some (1, 1, mX12_isDigit) := rfl
theorem ml_12_107 : zmth 12 107 = some (0, 1, mJ0_length_8abf5) := rfl
theorem ml_12_113 : zmth 12 113 = some (0, 2, mJ0_charAt_5068e) := rfl
theorem ml_12_117 : zmth 12 117 = some (0, 2, mX12_isWord) := rfl
theorem ml_12_121 : zmth 12 121 = some (0, 1, mX12_next) := rfl
theorem ml_12_124 : zmth 12 124 = some (0, 2, mX12_takesWord) := rfl
theorem ml_12_127 : zmth 12 127 = some (0, 3, mX12_wrong) := rfl
theorem ml_12_143 : zmth 12 143 = some (0, 1, mX12_mustName) := rfl
theorem ml_12_146 : zmth 12 146 = some (0, 1, mX12_find) := rfl
theorem ml_12_149 : zmth 12 149 = some (1, 3, mX12_in) := rfl
theorem ml_12_153 : zmth 12 153 = some (0, 3, mX12_named) := rfl
theorem ml_12_157 : zmth 12 157 = some (0, 2, mX12_must) := rfl
theorem ml_12_161 : zmth 12 161 = some (0, 1, mX12_islandPassed) := rfl
theorem ml_12_164 : zmth 12 164 = some (0, 3, mX12_number) := rfl
theorem ml_12_167 : zmth 12 167 = some (0, 1, mX12_good) := rfl
theorem ml_12_170 : zmth 12 170 = some (0, 2, mX12_no) := rfl
theorem ml_12_173 : zmth 12 173 = some (0, 1, mX12_readLine) := rfl
theorem ml_12_176 : zmth 12 176 = some (1, 5, mX12_copy) := rfl
theorem ml_12_189 : zmth 12 189 = some (0, 1, mX12_postLine) := rfl
theorem ml_12_192 : zmth 12 192 = some (0, 3, mX12_begins) := rfl
theorem ml_12_196 : zmth 12 196 = some (0, 1, mX12_islandLine) := rfl
theorem ml_12_199 : zmth 12 199 = some (0, 1, mX12_wayLine) := rfl
theorem ml_12_202 : zmth 12 202 = some (0, 1, mX12_whaleLine) := rfl
theorem ml_12_205 : zmth 12 205 = some (0, 1, mX12_boxLine) := rfl
theorem ml_12_208 : zmth 12 208 = some (0, 1, mX12_spoutLine) := rfl
theorem ml_12_213 : zmth 12 213 = some (0, 4, mX12_after) := rfl
theorem ml_12_223 : zmth 12 223 = some (0, 2, mX12_newName) := rfl
theorem ml_12_227 : zmth 12 227 = some (0, 2, mX12_isSong) := rfl
theorem ml_12_230 : zmth 12 230 = some (1, 4, mX12_joins) := rfl
theorem ml_12_246 : zmth 12 246 = some (0, 2, mX12_islandBehind) := rfl
theorem ml_12_262 : zmth 12 262 = some (0, 3, mX12_ofBox) := rfl
theorem ml_12_265 : zmth 12 265 = some (0, 2, mX12_songLong) := rfl
theorem ml_12_268 : zmth 12 268 = some (0, 2, mX12_isWhale) := rfl
theorem ml_12_271 : zmth 12 271 = some (0, 3, mX12_ofWhale) := rfl
theorem ml_12_274 : zmth 12 274 = some (0, 2, mX12_isBox) := rfl
theorem ml_12_277 : zmth 12 277 = some (0, 2, mX12_isIsland) := rfl
theorem ml_12_280 : zmth 12 280 = some (0, 4, mX12_noteIn) := rfl
theorem ml_12_284 : zmth 12 284 = some (0, 2, mX12_boxLong) := rfl
theorem ml_12_287 : zmth 12 287 = some (0, 6, mX12_unlike) := rfl
theorem ml_12_291 : zmth 12 291 = some (0, 5, mX12_hearsIn) := rfl
theorem ml_12_295 : zmth 12 295 = some (0, 2, mX12_heardNow) := rfl
theorem ml_12_298 : zmth 12 298 = some (1, 2, mX12_hasBit) := rfl
theorem ml_12_302 : zmth 12 302 = some (0, 2, mX12_isClosed) := rfl
theorem ml_12_305 : zmth 12 305 = some (0, 3, mX12_wayOf) := rfl
theorem ml_12_308 : zmth 12 308 = some (0, 3, mX12_nearOf) := rfl
theorem ml_12_312 : zmth 12 312 = some (0, 3, mX12_apartOf) := rfl
theorem ml_12_318 : zmth 12 318 = some (0, 2, mX12_power) := rfl
theorem ml_12_321 : zmth 12 321 = some (0, 4, mX12_digitsApart) := rfl
theorem ml_12_324 : zmth 12 324 = some (0, 3, mX12_songWhy) := rfl
theorem ml_12_327 : zmth 12 327 = some (0, 4, mX12_newSongs) := rfl
theorem ml_12_331 : zmth 12 331 = some (0, 3, mX12_hearsItself) := rfl
theorem ml_12_334 : zmth 12 334 = some (0, 4, mX12_setsOut) := rfl
theorem ml_12_337 : zmth 12 337 = some (1, 1, mX12_seasonOf) := rfl
theorem ml_12_342 : zmth 12 342 = some (0, 4, mX12_goesBy) := rfl
theorem ml_12_346 : zmth 12 346 = some (0, 4, mX12_dayBy) := rfl
theorem ml_12_349 : zmth 12 349 = some (0, 4, mX12_layDays) := rfl
theorem ml_12_352 : zmth 12 352 = some (0, 5, mX12_arrivalOf) := rfl
theorem ml_12_355 : zmth 12 355 = some (1, 2, mX12_later) := rfl
theorem ml_12_364 : zmth 12 364 = some (0, 3, mX12_lays) := rfl
theorem ml_12_367 : zmth 12 367 = some (0, 3, mX12_bringsOf) := rfl
theorem ml_12_370 : zmth 12 370 = some (0, 3, mX12_surestBut) := rfl
theorem ml_12_375 : zmth 12 375 = some (1, 3, mX12_lowest) := rfl
theorem ml_12_385 : zmth 12 385 = some (0, 5, mX12_tryMatch) := rfl
theorem ml_12_389 : zmth 12 389 = some (0, 1, mX12_seekMatch) := rfl
theorem ml_12_398 : zmth 12 398 = some (0, 2, mX12_fitsAll) := rfl
theorem ml_12_401 : zmth 12 401 = some (0, 3, mX12_reachOf) := rfl
theorem ml_12_404 : zmth 12 404 = some (1, 1, mX12_ones) := rfl
theorem ml_12_407 : zmth 12 407 = some (0, 4, mX12_doLead) := rfl
theorem ml_12_413 : zmth 12 413 = some (0, 4, mX12_tryRound) := rfl
theorem ml_12_416 : zmth 12 416 = some (0, 1, mX12_layFar) := rfl
theorem ml_12_419 : zmth 12 419 = some (0, 2, mX12_seekRound) := rfl
theorem ml_12_424 : zmth 12 424 = some (0, 1, mX12_note1) := rfl
theorem ml_12_427 : zmth 12 427 = some (0, 2, mX12_isNot) := rfl
theorem ml_13_15 : zmth 13 15 = some (2, 1, mX11_init) := rfl
theorem ml_13_18 : zmth 13 18 = some (2, 1, mX12_init) := rfl
theorem ml_13_19 : zmth 13 19 = some (0, 6, mX11_feed) := rfl
theorem ml_13_23 : zmth 13 23 = some (0, 6, mX12_feed) := rfl
theorem ml_13_24 : zmth 13 24 = some (0, 2, mX11_post) := rfl
theorem ml_13_27 : zmth 13 27 = some (0, 2, mX12_post) := rfl
theorem ml_13_28 : zmth 13 28 = some (0, 1, mX11_fault) := rfl
theorem ml_13_32 : zmth 13 32 = some (0, 1, mX12_fault) := rfl
theorem ml_13_33 : zmth 13 33 = some (0, 1, mX11_where) := rfl
theorem ml_13_36 : zmth 13 36 = some (0, 1, mX12_where) := rfl
theorem ml_13_37 : zmth 13 37 = some (0, 3, mX11_whale) := rfl
theorem ml_13_41 : zmth 13 41 = some (0, 3, mX12_whale) := rfl
theorem ml_13_42 : zmth 13 42 = some (0, 3, mX11_box) := rfl
theorem ml_13_45 : zmth 13 45 = some (0, 3, mX12_box) := rfl
theorem ml_13_46 : zmth 13 46 = some (0, 2, mX11_length) := rfl
theorem ml_13_49 : zmth 13 49 = some (0, 2, mX12_length) := rfl
theorem ml_13_50 : zmth 13 50 = some (0, 3, mX11_note) := rfl
theorem ml_13_53 : zmth 13 53 = some (0, 3, mX12_note) := rfl
theorem ml_13_54 : zmth 13 54 = some (0, 3, mX11_sung) := rfl
theorem ml_13_57 : zmth 13 57 = some (0, 3, mX12_sung) := rfl
theorem ml_13_58 : zmth 13 58 = some (0, 2, mX11_heard) := rfl
theorem ml_13_61 : zmth 13 61 = some (0, 2, mX12_heard) := rfl
theorem ml_13_62 : zmth 13 62 = some (0, 3, mX11_way) := rfl
theorem ml_13_65 : zmth 13 65 = some (0, 3, mX12_way) := rfl
theorem ml_13_66 : zmth 13 66 = some (0, 2, mX11_season) := rfl
theorem ml_13_69 : zmth 13 69 = some (0, 2, mX12_season) := rfl
theorem ml_13_70 : zmth 13 70 = some (0, 4, mX11_sets) := rfl
theorem ml_13_74 : zmth 13 74 = some (0, 4, mX12_sets) := rfl
theorem ml_13_75 : zmth 13 75 = some (0, 2, mX11_sent) := rfl
theorem ml_13_78 : zmth 13 78 = some (0, 2, mX12_sent) := rfl
theorem ml_13_79 : zmth 13 79 = some (0, 3, mX11_apart) := rfl
theorem ml_13_82 : zmth 13 82 = some (0, 3, mX12_apart) := rfl
theorem ml_13_83 : zmth 13 83 = some (0, 1, mX11_bear) := rfl
theorem ml_13_86 : zmth 13 86 = some (0, 1, mX12_bear) := rfl
theorem ml_13_87 : zmth 13 87 = some (0, 1, mX11_mixed) := rfl
theorem ml_13_90 : zmth 13 90 = some (0, 1, mX12_mixed) := rfl
theorem ml_13_91 : zmth 13 91 = some (0, 3, mX11_fresh) := rfl
theorem ml_13_94 : zmth 13 94 = some (0, 3, mX12_fresh) := rfl
theorem ml_13_95 : zmth 13 95 = some (0, 3, mX11_byTurns) := rfl
theorem ml_13_98 : zmth 13 98 = some (0, 3, mX12_byTurns) := rfl
theorem ml_13_99 : zmth 13 99 = some (0, 2, mX11_near) := rfl
theorem ml_13_102 : zmth 13 102 = some (0, 2, mX12_near) := rfl
theorem ml_13_103 : zmth 13 103 = some (0, 2, mX11_asNear) := rfl
theorem ml_13_106 : zmth 13 106 = some (0, 2, mX12_asNear) := rfl
theorem ml_13_107 : zmth 13 107 = some (0, 3, mX11_heardIn) := rfl
theorem ml_13_110 : zmth 13 110 = some (0, 3, mX12_heardIn) := rfl
theorem ml_13_111 : zmth 13 111 = some (0, 2, mX11_strange) := rfl
theorem ml_13_114 : zmth 13 114 = some (0, 2, mX12_strange) := rfl
theorem ml_13_115 : zmth 13 115 = some (0, 5, mX11_arrival) := rfl
theorem ml_13_119 : zmth 13 119 = some (0, 5, mX12_arrival) := rfl
theorem ml_13_120 : zmth 13 120 = some (0, 3, mX11_brings) := rfl
theorem ml_13_123 : zmth 13 123 = some (0, 3, mX12_brings) := rfl
theorem ml_13_124 : zmth 13 124 = some (0, 2, mX11_soonest) := rfl
theorem ml_13_127 : zmth 13 127 = some (0, 2, mX12_soonest) := rfl
theorem ml_13_128 : zmth 13 128 = some (0, 2, mX11_surest) := rfl
theorem ml_13_131 : zmth 13 131 = some (0, 2, mX12_surest) := rfl
theorem ml_13_132 : zmth 13 132 = some (0, 3, mX11_by) := rfl
theorem ml_13_135 : zmth 13 135 = some (0, 3, mX12_by) := rfl
theorem ml_13_136 : zmth 13 136 = some (0, 3, mX11_registered) := rfl
theorem ml_13_140 : zmth 13 140 = some (0, 3, mX12_registered) := rfl
theorem ml_13_141 : zmth 13 141 = some (0, 1, mX11_match) := rfl
theorem ml_13_144 : zmth 13 144 = some (0, 1, mX12_match) := rfl
theorem ml_13_145 : zmth 13 145 = some (0, 1, mX11_matchDays) := rfl
theorem ml_13_148 : zmth 13 148 = some (0, 1, mX12_matchDays) := rfl
theorem ml_13_149 : zmth 13 149 = some (0, 2, mX11_matchOf) := rfl
theorem ml_13_152 : zmth 13 152 = some (0, 2, mX12_matchOf) := rfl
theorem ml_13_153 : zmth 13 153 = some (0, 5, mX11_meet) := rfl
theorem ml_13_156 : zmth 13 156 = some (0, 5, mX12_meet) := rfl
theorem ml_13_157 : zmth 13 157 = some (0, 1, mX11_fits) := rfl
theorem ml_13_160 : zmth 13 160 = some (0, 1, mX12_fits) := rfl
theorem ml_13_161 : zmth 13 161 = some (0, 3, mX11_reach) := rfl
theorem ml_13_164 : zmth 13 164 = some (0, 3, mX12_reach) := rfl
theorem ml_13_165 : zmth 13 165 = some (0, 2, mX11_pier) := rfl
theorem ml_13_168 : zmth 13 168 = some (0, 2, mX12_pier) := rfl
theorem ml_13_169 : zmth 13 169 = some (0, 3, mX11_watch) := rfl
theorem ml_13_172 : zmth 13 172 = some (0, 3, mX12_watch) := rfl
theorem ml_13_173 : zmth 13 173 = some (0, 2, mX11_round) := rfl
theorem ml_13_176 : zmth 13 176 = some (0, 2, mX12_round) := rfl
theorem ml_13_177 : zmth 13 177 = some (0, 3, mX11_roundAt) := rfl
theorem ml_13_180 : zmth 13 180 = some (0, 3, mX12_roundAt) := rfl
theorem ml_13_181 : zmth 13 181 = some (0, 3, mX11_decade) := rfl
theorem ml_13_184 : zmth 13 184 = some (0, 3, mX12_decade) := rfl
theorem ml_13_185 : zmth 13 185 = some (0, 3, mX11_send) := rfl
theorem ml_13_188 : zmth 13 188 = some (0, 3, mX12_send) := rfl
theorem ml_13_189 : zmth 13 189 = some (0, 4, mX11_tune) := rfl
theorem ml_13_193 : zmth 13 193 = some (0, 4, mX12_tune) := rfl
theorem ml_13_194 : zmth 13 194 = some (0, 2, mX11_years) := rfl
theorem ml_13_197 : zmth 13 197 = some (0, 2, mX12_years) := rfl
theorem ml_13_198 : zmth 13 198 = some (0, 3, mX11_close) := rfl
theorem ml_13_202 : zmth 13 202 = some (0, 3, mX12_close) := rfl
theorem ml_13_203 : zmth 13 203 = some (0, 1, mX11_undo) := rfl
theorem ml_13_207 : zmth 13 207 = some (0, 1, mX12_undo) := rfl
theorem ml_13_208 : zmth 13 208 = some (0, 1, mX11_image) := rfl
theorem ml_13_211 : zmth 13 211 = some (0, 1, mX12_image) := rfl
theorem ml_13_212 : zmth 13 212 = some (0, 2, mX11_back) := rfl
theorem ml_13_216 : zmth 13 216 = some (0, 2, mX12_back) := rfl
theorem ml_13_217 : zmth 13 217 = some (16, 0, zledM) := rfl
theorem ml_13_222 : zmth 13 222 = some (0, 2, mX12_led) := rfl
theorem ml_13_223 : zmth 13 223 = some (0, 2, mX11_size) := rfl
theorem ml_13_226 : zmth 13 226 = some (0, 2, mX12_size) := rfl
theorem ml_13_227 : zmth 13 227 = some (0, 1, mX11_trouble) := rfl
theorem ml_13_230 : zmth 13 230 = some (0, 1, mX12_trouble) := rfl
theorem ml_14_335 : zmth 14 335 = some (0, 1, mJ0_coder_7d493) := rfl
theorem ml_14_492 : zmth 14 492 = some (0, 1, mJ0_isLatin1_aae02) := rfl
theorem ml_14_495 : zmth 14 495 = some (1, 2, mJ1_charAt_3b067) := rfl
theorem ml_14_1059 : zmth 14 1059 = some (1, 3, mJ3_checkIndex_8e157) := rfl
theorem ml_15_9 : zmth 15 9 = some (1, 2, mJ0_checkIndex_df160) := rfl
