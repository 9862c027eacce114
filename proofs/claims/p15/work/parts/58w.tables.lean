set_option maxRecDepth 100000 in
def wxS : Lean.RArray (Nat × (Nat × Nat)) := .branch 107 (.branch 53 (.branch 26 (.branch 13 (.branch 6 (.branch 3 (.branch 1 (.leaf (0, (11, 16))) (.branch 2 (.leaf (1, (13, 1000))) (.leaf (2, (4, 15))))) (.branch 4 (.leaf (3, (14, 7))) (.branch 5 (.leaf (4, (14, 7))) (.leaf (5, (19, 12)))))) (.branch 9 (.branch 7 (.leaf (6, (20, 5))) (.branch 8 (.leaf (7, (16, 8))) (.leaf (8, (18, 8))))) (.branch 11 (.branch 10 (.leaf (9, (9, 4))) (.leaf (10, (9, 4)))) (.branch 12 (.leaf (11, (9, 4))) (.leaf (12, (9, 4))))))) (.branch 19 (.branch 16 (.branch 14 (.leaf (13, (9, 4))) (.branch 15 (.leaf (14, (9, 4))) (.leaf (15, (9, 4))))) (.branch 17 (.leaf (16, (9, 4))) (.branch 18 (.leaf (17, (9, 4))) (.leaf (18, (9, 4)))))) (.branch 22 (.branch 20 (.leaf (19, (9, 4))) (.branch 21 (.leaf (20, (9, 4))) (.leaf (21, (10, 4))))) (.branch 24 (.branch 23 (.leaf (22, (10, 4))) (.leaf (23, (10, 4)))) (.branch 25 (.leaf (24, (10, 4))) (.leaf (25, (10, 4)))))))) (.branch 39 (.branch 32 (.branch 29 (.branch 27 (.leaf (26, (0, 4))) (.branch 28 (.leaf (27, (0, 4))) (.leaf (28, (0, 4))))) (.branch 30 (.leaf (29, (0, 4))) (.branch 31 (.leaf (30, (0, 4))) (.leaf (31, (0, 4)))))) (.branch 35 (.branch 33 (.leaf (32, (0, 4))) (.branch 34 (.leaf (33, (0, 4))) (.leaf (34, (8, 3))))) (.branch 37 (.branch 36 (.leaf (35, (8, 3))) (.leaf (36, (8, 3)))) (.branch 38 (.leaf (37, (8, 3))) (.leaf (38, (8, 3))))))) (.branch 46 (.branch 42 (.branch 40 (.leaf (39, (8, 3))) (.branch 41 (.leaf (40, (8, 3))) (.leaf (41, (8, 3))))) (.branch 44 (.branch 43 (.leaf (42, (4, 15))) (.leaf (43, (14, 7)))) (.branch 45 (.leaf (44, (14, 7))) (.leaf (45, (19, 12)))))) (.branch 49 (.branch 47 (.leaf (46, (20, 5))) (.branch 48 (.leaf (47, (16, 8))) (.leaf (48, (18, 8))))) (.branch 51 (.branch 50 (.leaf (49, (9, 4))) (.leaf (50, (9, 4)))) (.branch 52 (.leaf (51, (9, 4))) (.leaf (52, (9, 4))))))))) (.branch 80 (.branch 66 (.branch 59 (.branch 56 (.branch 54 (.leaf (53, (9, 4))) (.branch 55 (.leaf (54, (9, 4))) (.leaf (55, (9, 4))))) (.branch 57 (.leaf (56, (9, 4))) (.branch 58 (.leaf (57, (9, 4))) (.leaf (58, (9, 4)))))) (.branch 62 (.branch 60 (.leaf (59, (9, 4))) (.branch 61 (.leaf (60, (9, 4))) (.leaf (61, (10, 4))))) (.branch 64 (.branch 63 (.leaf (62, (10, 4))) (.leaf (63, (10, 4)))) (.branch 65 (.leaf (64, (10, 4))) (.leaf (65, (10, 4))))))) (.branch 73 (.branch 69 (.branch 67 (.leaf (66, (0, 4))) (.branch 68 (.leaf (67, (0, 4))) (.leaf (68, (0, 4))))) (.branch 71 (.branch 70 (.leaf (69, (0, 4))) (.leaf (70, (0, 4)))) (.branch 72 (.leaf (71, (0, 4))) (.leaf (72, (0, 4)))))) (.branch 76 (.branch 74 (.leaf (73, (0, 4))) (.branch 75 (.leaf (74, (8, 3))) (.leaf (75, (8, 3))))) (.branch 78 (.branch 77 (.leaf (76, (8, 3))) (.leaf (77, (8, 3)))) (.branch 79 (.leaf (78, (8, 3))) (.leaf (79, (8, 3)))))))) (.branch 93 (.branch 86 (.branch 83 (.branch 81 (.leaf (80, (8, 3))) (.branch 82 (.leaf (81, (8, 3))) (.leaf (82, (5, 13))))) (.branch 84 (.leaf (83, (15, 20))) (.branch 85 (.leaf (84, (14, 20))) (.leaf (85, (14, 20)))))) (.branch 89 (.branch 87 (.leaf (86, (2, 7))) (.branch 88 (.leaf (87, (14, 5))) (.leaf (88, (14, 5))))) (.branch 91 (.branch 90 (.leaf (89, (14, 8))) (.leaf (90, (14, 8)))) (.branch 92 (.leaf (91, (14, 8))) (.leaf (92, (7, 6))))))) (.branch 100 (.branch 96 (.branch 94 (.leaf (93, (14, 1031))) (.branch 95 (.leaf (94, (6, 7))) (.leaf (95, (14, 7))))) (.branch 98 (.branch 97 (.leaf (96, (3, 4))) (.leaf (97, (14, 7)))) (.branch 99 (.leaf (98, (14, 49))) (.leaf (99, (14, 896)))))) (.branch 103 (.branch 101 (.leaf (100, (1, 5))) (.branch 102 (.leaf (101, (14, 40))) (.leaf (102, (14, 8))))) (.branch 105 (.branch 104 (.leaf (103, (14, 288))) (.leaf (104, (17, 12)))) (.branch 106 (.leaf (105, (17, 3))) (.leaf (106, (2, 7)))))))))) (.branch 160 (.branch 133 (.branch 120 (.branch 113 (.branch 110 (.branch 108 (.leaf (107, (14, 5))) (.branch 109 (.leaf (108, (14, 5))) (.leaf (109, (14, 8))))) (.branch 111 (.leaf (110, (14, 8))) (.branch 112 (.leaf (111, (14, 8))) (.leaf (112, (2, 7)))))) (.branch 116 (.branch 114 (.leaf (113, (14, 5))) (.branch 115 (.leaf (114, (14, 5))) (.leaf (115, (14, 8))))) (.branch 118 (.branch 117 (.leaf (116, (14, 8))) (.leaf (117, (14, 8)))) (.branch 119 (.leaf (118, (2, 7))) (.leaf (119, (14, 5))))))) (.branch 126 (.branch 123 (.branch 121 (.leaf (120, (14, 5))) (.branch 122 (.leaf (121, (14, 8))) (.leaf (122, (14, 8))))) (.branch 124 (.leaf (123, (14, 8))) (.branch 125 (.leaf (124, (2, 7))) (.leaf (125, (14, 5)))))) (.branch 129 (.branch 127 (.leaf (126, (14, 5))) (.branch 128 (.leaf (127, (14, 8))) (.leaf (128, (14, 8))))) (.branch 131 (.branch 130 (.leaf (129, (14, 8))) (.leaf (130, (2, 7)))) (.branch 132 (.leaf (131, (14, 5))) (.leaf (132, (14, 5)))))))) (.branch 146 (.branch 139 (.branch 136 (.branch 134 (.leaf (133, (14, 8))) (.branch 135 (.leaf (134, (14, 8))) (.leaf (135, (14, 8))))) (.branch 137 (.leaf (136, (2, 7))) (.branch 138 (.leaf (137, (14, 5))) (.leaf (138, (14, 5)))))) (.branch 142 (.branch 140 (.leaf (139, (14, 8))) (.branch 141 (.leaf (140, (14, 8))) (.leaf (141, (14, 8))))) (.branch 144 (.branch 143 (.leaf (142, (2, 7))) (.leaf (143, (14, 5)))) (.branch 145 (.leaf (144, (14, 5))) (.leaf (145, (14, 8))))))) (.branch 153 (.branch 149 (.branch 147 (.leaf (146, (14, 8))) (.branch 148 (.leaf (147, (14, 8))) (.leaf (148, (2, 7))))) (.branch 151 (.branch 150 (.leaf (149, (14, 5))) (.leaf (150, (14, 5)))) (.branch 152 (.leaf (151, (14, 8))) (.leaf (152, (14, 8)))))) (.branch 156 (.branch 154 (.leaf (153, (14, 8))) (.branch 155 (.leaf (154, (2, 7))) (.leaf (155, (14, 5))))) (.branch 158 (.branch 157 (.leaf (156, (14, 5))) (.leaf (157, (14, 8)))) (.branch 159 (.leaf (158, (14, 8))) (.leaf (159, (14, 8))))))))) (.branch 187 (.branch 173 (.branch 166 (.branch 163 (.branch 161 (.leaf (160, (2, 7))) (.branch 162 (.leaf (161, (14, 5))) (.leaf (162, (14, 5))))) (.branch 164 (.leaf (163, (14, 8))) (.branch 165 (.leaf (164, (14, 8))) (.leaf (165, (14, 8)))))) (.branch 169 (.branch 167 (.leaf (166, (2, 7))) (.branch 168 (.leaf (167, (14, 5))) (.leaf (168, (14, 5))))) (.branch 171 (.branch 170 (.leaf (169, (14, 8))) (.leaf (170, (14, 8)))) (.branch 172 (.leaf (171, (14, 8))) (.leaf (172, (2, 7))))))) (.branch 180 (.branch 176 (.branch 174 (.leaf (173, (14, 5))) (.branch 175 (.leaf (174, (14, 5))) (.leaf (175, (14, 8))))) (.branch 178 (.branch 177 (.leaf (176, (14, 8))) (.leaf (177, (14, 8)))) (.branch 179 (.leaf (178, (2, 7))) (.leaf (179, (14, 5)))))) (.branch 183 (.branch 181 (.leaf (180, (14, 5))) (.branch 182 (.leaf (181, (14, 8))) (.leaf (182, (14, 8))))) (.branch 185 (.branch 184 (.leaf (183, (14, 8))) (.leaf (184, (2, 7)))) (.branch 186 (.leaf (185, (14, 5))) (.leaf (186, (14, 5)))))))) (.branch 200 (.branch 193 (.branch 190 (.branch 188 (.leaf (187, (14, 8))) (.branch 189 (.leaf (188, (14, 8))) (.leaf (189, (14, 8))))) (.branch 191 (.leaf (190, (2, 7))) (.branch 192 (.leaf (191, (14, 5))) (.leaf (192, (14, 5)))))) (.branch 196 (.branch 194 (.leaf (193, (14, 8))) (.branch 195 (.leaf (194, (14, 8))) (.leaf (195, (14, 8))))) (.branch 198 (.branch 197 (.leaf (196, (12, 39))) (.leaf (197, (14, 1000)))) (.branch 199 (.leaf (198, (14, 8))) (.leaf (199, (14, 363))))))) (.branch 207 (.branch 203 (.branch 201 (.leaf (200, (14, 363))) (.branch 202 (.leaf (201, (14, 76))) (.leaf (202, (14, 912))))) (.branch 205 (.branch 204 (.leaf (203, (14, 228))) (.leaf (204, (14, 3200)))) (.branch 206 (.leaf (205, (14, 7))) (.leaf (206, (14, 7)))))) (.branch 210 (.branch 208 (.leaf (207, (14, 8))) (.branch 209 (.leaf (208, (14, 8))) (.leaf (209, (14, 40))))) (.branch 212 (.branch 211 (.leaf (210, (14, 49))) (.leaf (211, (14, 7)))) (.branch 213 (.leaf (212, (14, 7))) (.leaf (213, (15, 1))))))))))
def wG0 : List (Nat × aI) := [(1, aTop), (2, [(0, 1000, 1)]), (3, [(0, 6, 1)]), (12, aTop), (13, [(0, 11, 1)]), (14, [(0, 12, 1)]), (15, aTop), (16, [(0, 3, 1)])]
def wG1 : List (Nat × aI) := [(1000, [(-128, 127, 1)])]
def wG2 : List (Nat × aI) := [(1, [(0, 4, 1)]), (4, aTop), (5, [(0, 7, 1)]), (6, [(0, 12, 1)]), (7, [(0, 5, 1)]), (9, [(0, 8, 1)])]
def wG3 : List (Nat × aI) := []
def wG4 : List (Nat × aI) := [(7, [(-1000, 1000, 1)])]
def wG5 : List (Nat × aI) := []
def wG6 : List (Nat × aI) := []
def wG7 : List (Nat × aI) := []
def wG8 : List (Nat × aI) := []
def wG9 : List (Nat × aI) := [(2, [(0, 6, 1)])]
def wG10 : List (Nat × aI) := [(2, [(0, 6, 1)])]
def wG11 : List (Nat × aI) := [(2, [(0, 6, 1)])]
def wG12 : List (Nat × aI) := [(2, [(0, 6, 1)])]
def wG13 : List (Nat × aI) := [(2, [(0, 6, 1)])]
def wG14 : List (Nat × aI) := [(2, [(0, 6, 1)])]
def wG15 : List (Nat × aI) := [(2, [(0, 6, 1)])]
def wG16 : List (Nat × aI) := [(2, [(0, 6, 1)])]
def wG17 : List (Nat × aI) := [(2, [(0, 6, 1)])]
def wG18 : List (Nat × aI) := [(2, [(0, 6, 1)])]
def wG19 : List (Nat × aI) := [(2, [(0, 6, 1)])]
def wG20 : List (Nat × aI) := [(2, [(0, 6, 1)])]
def wG21 : List (Nat × aI) := [(1, [(-2, -2, 1), (0, 3, 1)]), (2, [(0, 6, 1)])]
def wG22 : List (Nat × aI) := [(1, [(-2, -2, 1), (0, 3, 1)]), (2, [(0, 6, 1)])]
def wG23 : List (Nat × aI) := [(1, [(-2, -2, 1), (0, 3, 1)]), (2, [(0, 6, 1)])]
def wG24 : List (Nat × aI) := [(1, [(-2, -2, 1), (0, 3, 1)]), (2, [(0, 6, 1)])]
def wG25 : List (Nat × aI) := [(1, [(-2, -2, 1), (0, 3, 1)]), (2, [(0, 6, 1)])]
def wG26 : List (Nat × aI) := [(2, [(0, 6, 1)])]
def wG27 : List (Nat × aI) := [(2, [(0, 6, 1)])]
def wG28 : List (Nat × aI) := [(2, [(0, 6, 1)])]
def wG29 : List (Nat × aI) := [(2, [(0, 6, 1)])]
def wG30 : List (Nat × aI) := [(2, [(0, 6, 1)])]
def wG31 : List (Nat × aI) := [(2, [(0, 6, 1)])]
def wG32 : List (Nat × aI) := [(2, [(0, 6, 1)])]
def wG33 : List (Nat × aI) := [(2, [(0, 6, 1)])]
def wG34 : List (Nat × aI) := [(1, [(0, 4, 1)]), (2, [(0, 6, 1)])]
def wG35 : List (Nat × aI) := [(1, [(0, 4, 1)]), (2, [(0, 6, 1)])]
def wG36 : List (Nat × aI) := [(1, [(0, 4, 1)]), (2, [(0, 6, 1)])]
def wG37 : List (Nat × aI) := [(1, [(0, 4, 1)]), (2, [(0, 6, 1)])]
def wG38 : List (Nat × aI) := [(1, [(0, 4, 1)]), (2, [(0, 6, 1)])]
def wG39 : List (Nat × aI) := [(1, [(0, 4, 1)]), (2, [(0, 6, 1)])]
def wG40 : List (Nat × aI) := [(1, [(0, 4, 1)]), (2, [(0, 6, 1)])]
def wG41 : List (Nat × aI) := [(1, [(0, 4, 1)]), (2, [(0, 6, 1)])]
def wG42 : List (Nat × aI) := [(1, [(0, 4, 1)]), (4, aTop), (5, [(0, 7, 1)]), (6, [(0, 12, 1)]), (7, [(0, 5, 1)]), (9, [(0, 8, 1)])]
def wG43 : List (Nat × aI) := []
def wG44 : List (Nat × aI) := [(7, [(-1000, 1000, 1)])]
def wG45 : List (Nat × aI) := []
def wG46 : List (Nat × aI) := []
def wG47 : List (Nat × aI) := []
def wG48 : List (Nat × aI) := []
def wG49 : List (Nat × aI) := [(2, [(0, 6, 1)])]
def wG50 : List (Nat × aI) := [(2, [(0, 6, 1)])]
def wG51 : List (Nat × aI) := [(2, [(0, 6, 1)])]
def wG52 : List (Nat × aI) := [(2, [(0, 6, 1)])]
def wG53 : List (Nat × aI) := [(2, [(0, 6, 1)])]
def wG54 : List (Nat × aI) := [(2, [(0, 6, 1)])]
def wG55 : List (Nat × aI) := [(2, [(0, 6, 1)])]
def wG56 : List (Nat × aI) := [(2, [(0, 6, 1)])]
def wG57 : List (Nat × aI) := [(2, [(0, 6, 1)])]
def wG58 : List (Nat × aI) := [(2, [(0, 6, 1)])]
def wG59 : List (Nat × aI) := [(2, [(0, 6, 1)])]
def wG60 : List (Nat × aI) := [(2, [(0, 6, 1)])]
def wG61 : List (Nat × aI) := [(1, [(-2, -2, 1), (0, 3, 1)]), (2, [(0, 6, 1)])]
def wG62 : List (Nat × aI) := [(1, [(-2, -2, 1), (0, 3, 1)]), (2, [(0, 6, 1)])]
def wG63 : List (Nat × aI) := [(1, [(-2, -2, 1), (0, 3, 1)]), (2, [(0, 6, 1)])]
def wG64 : List (Nat × aI) := [(1, [(-2, -2, 1), (0, 3, 1)]), (2, [(0, 6, 1)])]
def wG65 : List (Nat × aI) := [(1, [(-2, -2, 1), (0, 3, 1)]), (2, [(0, 6, 1)])]
def wG66 : List (Nat × aI) := [(2, [(0, 6, 1)])]
def wG67 : List (Nat × aI) := [(2, [(0, 6, 1)])]
def wG68 : List (Nat × aI) := [(2, [(0, 6, 1)])]
def wG69 : List (Nat × aI) := [(2, [(0, 6, 1)])]
def wG70 : List (Nat × aI) := [(2, [(0, 6, 1)])]
def wG71 : List (Nat × aI) := [(2, [(0, 6, 1)])]
def wG72 : List (Nat × aI) := [(2, [(0, 6, 1)])]
def wG73 : List (Nat × aI) := [(2, [(0, 6, 1)])]
def wG74 : List (Nat × aI) := [(1, [(0, 4, 1)]), (2, [(0, 6, 1)])]
def wG75 : List (Nat × aI) := [(1, [(0, 4, 1)]), (2, [(0, 6, 1)])]
def wG76 : List (Nat × aI) := [(1, [(0, 4, 1)]), (2, [(0, 6, 1)])]
def wG77 : List (Nat × aI) := [(1, [(0, 4, 1)]), (2, [(0, 6, 1)])]
def wG78 : List (Nat × aI) := [(1, [(0, 4, 1)]), (2, [(0, 6, 1)])]
def wG79 : List (Nat × aI) := [(1, [(0, 4, 1)]), (2, [(0, 6, 1)])]
def wG80 : List (Nat × aI) := [(1, [(0, 4, 1)]), (2, [(0, 6, 1)])]
def wG81 : List (Nat × aI) := [(1, [(0, 4, 1)]), (2, [(0, 6, 1)])]
def wG82 : List (Nat × aI) := [(1, aTop), (3, [(0, 1000, 1)]), (4, [(0, 4, 1)]), (5, [(0, 1000, 1)]), (10, aTop), (11, [(0, 20, 1)])]
def wG83 : List (Nat × aI) := []
def wG84 : List (Nat × aI) := [(20, [(0, 5, 1)])]
def wG85 : List (Nat × aI) := [(20, [(0, 7, 1)])]
def wG86 : List (Nat × aI) := [(1, [(0, 9999, 1)])]
def wG87 : List (Nat × aI) := [(5, [(0, 6, 1)])]
def wG88 : List (Nat × aI) := []
def wG89 : List (Nat × aI) := []
def wG90 : List (Nat × aI) := []
def wG91 : List (Nat × aI) := []
def wG92 : List (Nat × aI) := []
def wG93 : List (Nat × aI) := []
def wG94 : List (Nat × aI) := [(4, aTop), (5, [(-2, -2, 1), (0, 6, 1)])]
def wG95 : List (Nat × aI) := []
def wG96 : List (Nat × aI) := []
def wG97 : List (Nat × aI) := [(7, [(0, 6, 1)])]
def wG98 : List (Nat × aI) := []
def wG99 : List (Nat × aI) := []
def wG100 : List (Nat × aI) := []
def wG101 : List (Nat × aI) := []
def wG102 : List (Nat × aI) := []
def wG103 : List (Nat × aI) := []
def wG104 : List (Nat × aI) := []
def wG105 : List (Nat × aI) := []
def wG106 : List (Nat × aI) := [(1, [(0, 9999, 1)])]
def wG107 : List (Nat × aI) := [(5, [(0, 6, 1)])]
def wG108 : List (Nat × aI) := []
def wG109 : List (Nat × aI) := []
def wG110 : List (Nat × aI) := []
def wG111 : List (Nat × aI) := []
def wG112 : List (Nat × aI) := [(1, [(0, 9999, 1)])]
def wG113 : List (Nat × aI) := [(5, [(0, 6, 1)])]
def wG114 : List (Nat × aI) := []
def wG115 : List (Nat × aI) := []
def wG116 : List (Nat × aI) := []
def wG117 : List (Nat × aI) := []
def wG118 : List (Nat × aI) := [(1, [(0, 9999, 1)])]
def wG119 : List (Nat × aI) := [(5, [(0, 6, 1)])]
def wG120 : List (Nat × aI) := []
def wG121 : List (Nat × aI) := []
def wG122 : List (Nat × aI) := []
def wG123 : List (Nat × aI) := []
def wG124 : List (Nat × aI) := [(1, [(0, 9999, 1)])]
def wG125 : List (Nat × aI) := [(5, [(0, 6, 1)])]
def wG126 : List (Nat × aI) := []
def wG127 : List (Nat × aI) := []
def wG128 : List (Nat × aI) := []
def wG129 : List (Nat × aI) := []
def wG130 : List (Nat × aI) := [(1, [(0, 9999, 1)])]
def wG131 : List (Nat × aI) := [(5, [(0, 6, 1)])]
def wG132 : List (Nat × aI) := []
def wG133 : List (Nat × aI) := []
def wG134 : List (Nat × aI) := []
def wG135 : List (Nat × aI) := []
def wG136 : List (Nat × aI) := [(1, [(0, 9999, 1)])]
def wG137 : List (Nat × aI) := [(5, [(0, 6, 1)])]
def wG138 : List (Nat × aI) := []
def wG139 : List (Nat × aI) := []
def wG140 : List (Nat × aI) := []
def wG141 : List (Nat × aI) := []
def wG142 : List (Nat × aI) := [(1, [(0, 9999, 1)])]
def wG143 : List (Nat × aI) := [(5, [(0, 6, 1)])]
def wG144 : List (Nat × aI) := []
def wG145 : List (Nat × aI) := []
def wG146 : List (Nat × aI) := []
def wG147 : List (Nat × aI) := []
def wG148 : List (Nat × aI) := [(1, [(0, 9999, 1)])]
def wG149 : List (Nat × aI) := [(5, [(0, 6, 1)])]
def wG150 : List (Nat × aI) := []
def wG151 : List (Nat × aI) := []
def wG152 : List (Nat × aI) := []
def wG153 : List (Nat × aI) := []
def wG154 : List (Nat × aI) := [(1, [(0, 9999, 1)])]
def wG155 : List (Nat × aI) := [(5, [(0, 6, 1)])]
def wG156 : List (Nat × aI) := []
def wG157 : List (Nat × aI) := []
def wG158 : List (Nat × aI) := []
def wG159 : List (Nat × aI) := []
def wG160 : List (Nat × aI) := [(1, [(0, 9999, 1)])]
def wG161 : List (Nat × aI) := [(5, [(0, 6, 1)])]
def wG162 : List (Nat × aI) := []
def wG163 : List (Nat × aI) := []
def wG164 : List (Nat × aI) := []
def wG165 : List (Nat × aI) := []
def wG166 : List (Nat × aI) := [(1, [(0, 9999, 1)])]
def wG167 : List (Nat × aI) := [(5, [(0, 6, 1)])]
def wG168 : List (Nat × aI) := []
def wG169 : List (Nat × aI) := []
def wG170 : List (Nat × aI) := []
def wG171 : List (Nat × aI) := []
def wG172 : List (Nat × aI) := [(1, [(0, 9999, 1)])]
def wG173 : List (Nat × aI) := [(5, [(0, 6, 1)])]
def wG174 : List (Nat × aI) := []
def wG175 : List (Nat × aI) := []
def wG176 : List (Nat × aI) := []
def wG177 : List (Nat × aI) := []
def wG178 : List (Nat × aI) := [(1, [(0, 9999, 1)])]
def wG179 : List (Nat × aI) := [(5, [(0, 6, 1)])]
def wG180 : List (Nat × aI) := []
def wG181 : List (Nat × aI) := []
def wG182 : List (Nat × aI) := []
def wG183 : List (Nat × aI) := []
def wG184 : List (Nat × aI) := [(1, [(0, 9999, 1)])]
def wG185 : List (Nat × aI) := [(5, [(0, 6, 1)])]
def wG186 : List (Nat × aI) := []
def wG187 : List (Nat × aI) := []
def wG188 : List (Nat × aI) := []
def wG189 : List (Nat × aI) := []
def wG190 : List (Nat × aI) := [(1, [(0, 9999, 1)])]
def wG191 : List (Nat × aI) := [(5, [(0, 6, 1)])]
def wG192 : List (Nat × aI) := []
def wG193 : List (Nat × aI) := []
def wG194 : List (Nat × aI) := []
def wG195 : List (Nat × aI) := []
def wG196 : List (Nat × aI) := [(2, aTop), (4, [(0, 1000, 1)]), (6, [(0, 1001, 1)]), (7, [(0, 59, 1)]), (8, aTop), (9, [(0, 1001, 1)]), (10, [(0, 7, 1)]), (11, aTop), (12, [(0, 6, 1)]), (13, aTop), (15, [(0, 1, 1)]), (20, aTop), (21, [(0, 12, 1)]), (22, [(0, 3, 1)]), (23, aTop), (24, [(0, 3200, 1)]), (33, aTop), (34, [(0, 6, 1)])]
def wG197 : List (Nat × aI) := [(1000, [(0, 255, 1)])]
def wG198 : List (Nat × aI) := []
def wG199 : List (Nat × aI) := [(1, [(0, 4, 1)]), (4, aTop), (5, [(0, 7, 1)]), (6, [(0, 12, 1)]), (7, [(0, 5, 1)]), (9, [(0, 8, 1)]), (10, [(0, 1, 1)]), (11, [(0, 6, 1)]), (17, aTop), (18, [(0, 6, 1)]), (24, aTop), (25, [(0, 6, 1)]), (31, aTop), (32, [(0, 6, 1)]), (38, aTop), (39, [(0, 6, 1)]), (45, aTop), (46, [(0, 6, 1)]), (52, aTop), (53, [(0, 6, 1)]), (59, aTop), (61, [(0, 6, 1)]), (62, aTop), (63, [(0, 15, 1)]), (65, [(0, 6, 1)]), (66, aTop), (67, [(0, 15, 1)]), (69, [(0, 6, 1)]), (70, aTop), (71, [(0, 15, 1)]), (73, [(0, 6, 1)]), (74, aTop), (75, [(0, 15, 1)]), (77, [(0, 6, 1)]), (78, aTop), (79, [(0, 15, 1)]), (81, [(0, 6, 1)]), (82, aTop), (83, [(0, 15, 1)]), (85, [(0, 6, 1)]), (86, aTop), (87, [(0, 15, 1)]), (89, [(0, 6, 1)]), (90, aTop), (91, [(0, 15, 1)]), (93, [(0, 6, 1)]), (94, aTop), (95, [(0, 15, 1)]), (97, [(0, 6, 1)]), (98, aTop), (99, [(0, 15, 1)]), (101, [(0, 6, 1)]), (102, aTop), (103, [(0, 15, 1)]), (105, [(0, 6, 1)]), (106, aTop), (107, [(0, 15, 1)]), (108, [(0, 3, 1)]), (109, [(0, 6, 1)]), (111, aTop), (112, [(0, 3, 1)]), (113, [(0, 6, 1)]), (115, aTop), (116, [(0, 3, 1)]), (117, [(0, 6, 1)]), (119, aTop), (120, [(0, 3, 1)]), (121, [(0, 6, 1)]), (123, aTop), (124, [(0, 3, 1)]), (125, [(0, 6, 1)]), (127, aTop), (129, [(0, 6, 1)]), (131, aTop), (133, [(0, 6, 1)]), (135, aTop), (137, [(0, 6, 1)]), (139, aTop), (141, [(0, 6, 1)]), (143, aTop), (145, [(0, 6, 1)]), (147, aTop), (149, [(0, 6, 1)]), (151, aTop), (153, [(0, 6, 1)]), (155, aTop), (157, [(0, 6, 1)]), (159, aTop), (160, [(0, 4, 1)]), (161, [(0, 6, 1)]), (162, aTop), (163, [(0, 4, 1)]), (164, [(0, 6, 1)]), (165, aTop), (166, [(0, 4, 1)]), (167, [(0, 6, 1)]), (168, aTop), (169, [(0, 4, 1)]), (170, [(0, 6, 1)]), (171, aTop), (172, [(0, 4, 1)]), (173, [(0, 6, 1)]), (174, aTop), (175, [(0, 4, 1)]), (176, [(0, 6, 1)]), (177, aTop), (178, [(0, 4, 1)]), (179, [(0, 6, 1)]), (180, aTop), (181, [(0, 4, 1)]), (182, [(0, 6, 1)]), (183, aTop), (203, [(0, 8, 1)])]
def wG200 : List (Nat × aI) := [(1, [(0, 4, 1)]), (4, aTop), (5, [(0, 7, 1)]), (6, [(0, 12, 1)]), (7, [(0, 5, 1)]), (9, [(0, 8, 1)]), (10, [(0, 1, 1)]), (11, [(0, 6, 1)]), (17, aTop), (18, [(0, 6, 1)]), (24, aTop), (25, [(0, 6, 1)]), (31, aTop), (32, [(0, 6, 1)]), (38, aTop), (39, [(0, 6, 1)]), (45, aTop), (46, [(0, 6, 1)]), (52, aTop), (53, [(0, 6, 1)]), (59, aTop), (61, [(0, 6, 1)]), (62, aTop), (63, [(0, 15, 1)]), (65, [(0, 6, 1)]), (66, aTop), (67, [(0, 15, 1)]), (69, [(0, 6, 1)]), (70, aTop), (71, [(0, 15, 1)]), (73, [(0, 6, 1)]), (74, aTop), (75, [(0, 15, 1)]), (77, [(0, 6, 1)]), (78, aTop), (79, [(0, 15, 1)]), (81, [(0, 6, 1)]), (82, aTop), (83, [(0, 15, 1)]), (85, [(0, 6, 1)]), (86, aTop), (87, [(0, 15, 1)]), (89, [(0, 6, 1)]), (90, aTop), (91, [(0, 15, 1)]), (93, [(0, 6, 1)]), (94, aTop), (95, [(0, 15, 1)]), (97, [(0, 6, 1)]), (98, aTop), (99, [(0, 15, 1)]), (101, [(0, 6, 1)]), (102, aTop), (103, [(0, 15, 1)]), (105, [(0, 6, 1)]), (106, aTop), (107, [(0, 15, 1)]), (108, [(0, 3, 1)]), (109, [(0, 6, 1)]), (111, aTop), (112, [(0, 3, 1)]), (113, [(0, 6, 1)]), (115, aTop), (116, [(0, 3, 1)]), (117, [(0, 6, 1)]), (119, aTop), (120, [(0, 3, 1)]), (121, [(0, 6, 1)]), (123, aTop), (124, [(0, 3, 1)]), (125, [(0, 6, 1)]), (127, aTop), (129, [(0, 6, 1)]), (131, aTop), (133, [(0, 6, 1)]), (135, aTop), (137, [(0, 6, 1)]), (139, aTop), (141, [(0, 6, 1)]), (143, aTop), (145, [(0, 6, 1)]), (147, aTop), (149, [(0, 6, 1)]), (151, aTop), (153, [(0, 6, 1)]), (155, aTop), (157, [(0, 6, 1)]), (159, aTop), (160, [(0, 4, 1)]), (161, [(0, 6, 1)]), (162, aTop), (163, [(0, 4, 1)]), (164, [(0, 6, 1)]), (165, aTop), (166, [(0, 4, 1)]), (167, [(0, 6, 1)]), (168, aTop), (169, [(0, 4, 1)]), (170, [(0, 6, 1)]), (171, aTop), (172, [(0, 4, 1)]), (173, [(0, 6, 1)]), (174, aTop), (175, [(0, 4, 1)]), (176, [(0, 6, 1)]), (177, aTop), (178, [(0, 4, 1)]), (179, [(0, 6, 1)]), (180, aTop), (181, [(0, 4, 1)]), (182, [(0, 6, 1)]), (183, aTop), (203, [(0, 8, 1)])]
def wG201 : List (Nat × aI) := [(1, [(0, 9999, 1)]), (2, aTop), (7, [(0, 6, 1)])]
def wG202 : List (Nat × aI) := [(1, [(0, 9999, 1)]), (2, aTop), (7, [(0, 6, 1)]), (76, aTop), (77, [(0, 9999, 1)]), (78, aTop), (83, [(0, 6, 1)]), (152, aTop), (153, [(0, 9999, 1)]), (154, aTop), (159, [(0, 6, 1)]), (228, aTop), (229, [(0, 9999, 1)]), (230, aTop), (235, [(0, 6, 1)]), (304, aTop), (305, [(0, 9999, 1)]), (306, aTop), (311, [(0, 6, 1)]), (380, aTop), (381, [(0, 9999, 1)]), (382, aTop), (387, [(0, 6, 1)]), (456, aTop), (457, [(0, 9999, 1)]), (458, aTop), (463, [(0, 6, 1)]), (532, aTop), (533, [(0, 9999, 1)]), (534, aTop), (539, [(0, 6, 1)]), (608, aTop), (609, [(0, 9999, 1)]), (610, aTop), (615, [(0, 6, 1)]), (684, aTop), (685, [(0, 9999, 1)]), (686, aTop), (691, [(0, 6, 1)]), (760, aTop), (761, [(0, 9999, 1)]), (762, aTop), (767, [(0, 6, 1)]), (836, aTop), (837, [(0, 9999, 1)]), (838, aTop), (843, [(0, 6, 1)])]
def wG203 : List (Nat × aI) := [(1, [(0, 9999, 1)]), (2, aTop), (7, [(0, 6, 1)]), (76, aTop), (77, [(0, 9999, 1)]), (78, aTop), (83, [(0, 6, 1)]), (152, aTop), (153, [(0, 9999, 1)]), (154, aTop), (159, [(0, 6, 1)])]
def wG204 : List (Nat × aI) := []
def wG205 : List (Nat × aI) := []
def wG206 : List (Nat × aI) := []
def wG207 : List (Nat × aI) := [(8, aTop)]
def wG208 : List (Nat × aI) := []
def wG209 : List (Nat × aI) := []
def wG210 : List (Nat × aI) := []
def wG211 : List (Nat × aI) := [(7, [(0, 6, 1)])]
def wG212 : List (Nat × aI) := []
def wG213 : List (Nat × aI) := []
set_option maxRecDepth 100000 in
def wxG : Lean.RArray (Nat × List (Nat × aI)) := .branch 107 (.branch 53 (.branch 26 (.branch 13 (.branch 6 (.branch 3 (.branch 1 (.leaf (0, wG0)) (.branch 2 (.leaf (1, wG1)) (.leaf (2, wG2)))) (.branch 4 (.leaf (3, wG3)) (.branch 5 (.leaf (4, wG4)) (.leaf (5, wG5))))) (.branch 9 (.branch 7 (.leaf (6, wG6)) (.branch 8 (.leaf (7, wG7)) (.leaf (8, wG8)))) (.branch 11 (.branch 10 (.leaf (9, wG9)) (.leaf (10, wG10))) (.branch 12 (.leaf (11, wG11)) (.leaf (12, wG12)))))) (.branch 19 (.branch 16 (.branch 14 (.leaf (13, wG13)) (.branch 15 (.leaf (14, wG14)) (.leaf (15, wG15)))) (.branch 17 (.leaf (16, wG16)) (.branch 18 (.leaf (17, wG17)) (.leaf (18, wG18))))) (.branch 22 (.branch 20 (.leaf (19, wG19)) (.branch 21 (.leaf (20, wG20)) (.leaf (21, wG21)))) (.branch 24 (.branch 23 (.leaf (22, wG22)) (.leaf (23, wG23))) (.branch 25 (.leaf (24, wG24)) (.leaf (25, wG25))))))) (.branch 39 (.branch 32 (.branch 29 (.branch 27 (.leaf (26, wG26)) (.branch 28 (.leaf (27, wG27)) (.leaf (28, wG28)))) (.branch 30 (.leaf (29, wG29)) (.branch 31 (.leaf (30, wG30)) (.leaf (31, wG31))))) (.branch 35 (.branch 33 (.leaf (32, wG32)) (.branch 34 (.leaf (33, wG33)) (.leaf (34, wG34)))) (.branch 37 (.branch 36 (.leaf (35, wG35)) (.leaf (36, wG36))) (.branch 38 (.leaf (37, wG37)) (.leaf (38, wG38)))))) (.branch 46 (.branch 42 (.branch 40 (.leaf (39, wG39)) (.branch 41 (.leaf (40, wG40)) (.leaf (41, wG41)))) (.branch 44 (.branch 43 (.leaf (42, wG42)) (.leaf (43, wG43))) (.branch 45 (.leaf (44, wG44)) (.leaf (45, wG45))))) (.branch 49 (.branch 47 (.leaf (46, wG46)) (.branch 48 (.leaf (47, wG47)) (.leaf (48, wG48)))) (.branch 51 (.branch 50 (.leaf (49, wG49)) (.leaf (50, wG50))) (.branch 52 (.leaf (51, wG51)) (.leaf (52, wG52)))))))) (.branch 80 (.branch 66 (.branch 59 (.branch 56 (.branch 54 (.leaf (53, wG53)) (.branch 55 (.leaf (54, wG54)) (.leaf (55, wG55)))) (.branch 57 (.leaf (56, wG56)) (.branch 58 (.leaf (57, wG57)) (.leaf (58, wG58))))) (.branch 62 (.branch 60 (.leaf (59, wG59)) (.branch 61 (.leaf (60, wG60)) (.leaf (61, wG61)))) (.branch 64 (.branch 63 (.leaf (62, wG62)) (.leaf (63, wG63))) (.branch 65 (.leaf (64, wG64)) (.leaf (65, wG65)))))) (.branch 73 (.branch 69 (.branch 67 (.leaf (66, wG66)) (.branch 68 (.leaf (67, wG67)) (.leaf (68, wG68)))) (.branch 71 (.branch 70 (.leaf (69, wG69)) (.leaf (70, wG70))) (.branch 72 (.leaf (71, wG71)) (.leaf (72, wG72))))) (.branch 76 (.branch 74 (.leaf (73, wG73)) (.branch 75 (.leaf (74, wG74)) (.leaf (75, wG75)))) (.branch 78 (.branch 77 (.leaf (76, wG76)) (.leaf (77, wG77))) (.branch 79 (.leaf (78, wG78)) (.leaf (79, wG79))))))) (.branch 93 (.branch 86 (.branch 83 (.branch 81 (.leaf (80, wG80)) (.branch 82 (.leaf (81, wG81)) (.leaf (82, wG82)))) (.branch 84 (.leaf (83, wG83)) (.branch 85 (.leaf (84, wG84)) (.leaf (85, wG85))))) (.branch 89 (.branch 87 (.leaf (86, wG86)) (.branch 88 (.leaf (87, wG87)) (.leaf (88, wG88)))) (.branch 91 (.branch 90 (.leaf (89, wG89)) (.leaf (90, wG90))) (.branch 92 (.leaf (91, wG91)) (.leaf (92, wG92)))))) (.branch 100 (.branch 96 (.branch 94 (.leaf (93, wG93)) (.branch 95 (.leaf (94, wG94)) (.leaf (95, wG95)))) (.branch 98 (.branch 97 (.leaf (96, wG96)) (.leaf (97, wG97))) (.branch 99 (.leaf (98, wG98)) (.leaf (99, wG99))))) (.branch 103 (.branch 101 (.leaf (100, wG100)) (.branch 102 (.leaf (101, wG101)) (.leaf (102, wG102)))) (.branch 105 (.branch 104 (.leaf (103, wG103)) (.leaf (104, wG104))) (.branch 106 (.leaf (105, wG105)) (.leaf (106, wG106))))))))) (.branch 160 (.branch 133 (.branch 120 (.branch 113 (.branch 110 (.branch 108 (.leaf (107, wG107)) (.branch 109 (.leaf (108, wG108)) (.leaf (109, wG109)))) (.branch 111 (.leaf (110, wG110)) (.branch 112 (.leaf (111, wG111)) (.leaf (112, wG112))))) (.branch 116 (.branch 114 (.leaf (113, wG113)) (.branch 115 (.leaf (114, wG114)) (.leaf (115, wG115)))) (.branch 118 (.branch 117 (.leaf (116, wG116)) (.leaf (117, wG117))) (.branch 119 (.leaf (118, wG118)) (.leaf (119, wG119)))))) (.branch 126 (.branch 123 (.branch 121 (.leaf (120, wG120)) (.branch 122 (.leaf (121, wG121)) (.leaf (122, wG122)))) (.branch 124 (.leaf (123, wG123)) (.branch 125 (.leaf (124, wG124)) (.leaf (125, wG125))))) (.branch 129 (.branch 127 (.leaf (126, wG126)) (.branch 128 (.leaf (127, wG127)) (.leaf (128, wG128)))) (.branch 131 (.branch 130 (.leaf (129, wG129)) (.leaf (130, wG130))) (.branch 132 (.leaf (131, wG131)) (.leaf (132, wG132))))))) (.branch 146 (.branch 139 (.branch 136 (.branch 134 (.leaf (133, wG133)) (.branch 135 (.leaf (134, wG134)) (.leaf (135, wG135)))) (.branch 137 (.leaf (136, wG136)) (.branch 138 (.leaf (137, wG137)) (.leaf (138, wG138))))) (.branch 142 (.branch 140 (.leaf (139, wG139)) (.branch 141 (.leaf (140, wG140)) (.leaf (141, wG141)))) (.branch 144 (.branch 143 (.leaf (142, wG142)) (.leaf (143, wG143))) (.branch 145 (.leaf (144, wG144)) (.leaf (145, wG145)))))) (.branch 153 (.branch 149 (.branch 147 (.leaf (146, wG146)) (.branch 148 (.leaf (147, wG147)) (.leaf (148, wG148)))) (.branch 151 (.branch 150 (.leaf (149, wG149)) (.leaf (150, wG150))) (.branch 152 (.leaf (151, wG151)) (.leaf (152, wG152))))) (.branch 156 (.branch 154 (.leaf (153, wG153)) (.branch 155 (.leaf (154, wG154)) (.leaf (155, wG155)))) (.branch 158 (.branch 157 (.leaf (156, wG156)) (.leaf (157, wG157))) (.branch 159 (.leaf (158, wG158)) (.leaf (159, wG159)))))))) (.branch 187 (.branch 173 (.branch 166 (.branch 163 (.branch 161 (.leaf (160, wG160)) (.branch 162 (.leaf (161, wG161)) (.leaf (162, wG162)))) (.branch 164 (.leaf (163, wG163)) (.branch 165 (.leaf (164, wG164)) (.leaf (165, wG165))))) (.branch 169 (.branch 167 (.leaf (166, wG166)) (.branch 168 (.leaf (167, wG167)) (.leaf (168, wG168)))) (.branch 171 (.branch 170 (.leaf (169, wG169)) (.leaf (170, wG170))) (.branch 172 (.leaf (171, wG171)) (.leaf (172, wG172)))))) (.branch 180 (.branch 176 (.branch 174 (.leaf (173, wG173)) (.branch 175 (.leaf (174, wG174)) (.leaf (175, wG175)))) (.branch 178 (.branch 177 (.leaf (176, wG176)) (.leaf (177, wG177))) (.branch 179 (.leaf (178, wG178)) (.leaf (179, wG179))))) (.branch 183 (.branch 181 (.leaf (180, wG180)) (.branch 182 (.leaf (181, wG181)) (.leaf (182, wG182)))) (.branch 185 (.branch 184 (.leaf (183, wG183)) (.leaf (184, wG184))) (.branch 186 (.leaf (185, wG185)) (.leaf (186, wG186))))))) (.branch 200 (.branch 193 (.branch 190 (.branch 188 (.leaf (187, wG187)) (.branch 189 (.leaf (188, wG188)) (.leaf (189, wG189)))) (.branch 191 (.leaf (190, wG190)) (.branch 192 (.leaf (191, wG191)) (.leaf (192, wG192))))) (.branch 196 (.branch 194 (.leaf (193, wG193)) (.branch 195 (.leaf (194, wG194)) (.leaf (195, wG195)))) (.branch 198 (.branch 197 (.leaf (196, wG196)) (.leaf (197, wG197))) (.branch 199 (.leaf (198, wG198)) (.leaf (199, wG199)))))) (.branch 207 (.branch 203 (.branch 201 (.leaf (200, wG200)) (.branch 202 (.leaf (201, wG201)) (.leaf (202, wG202)))) (.branch 205 (.branch 204 (.leaf (203, wG203)) (.leaf (204, wG204))) (.branch 206 (.leaf (205, wG205)) (.leaf (206, wG206))))) (.branch 210 (.branch 208 (.leaf (207, wG207)) (.branch 209 (.leaf (208, wG208)) (.leaf (209, wG209)))) (.branch 212 (.branch 211 (.leaf (210, wG210)) (.leaf (211, wG211))) (.branch 213 (.leaf (212, wG212)) (.leaf (213, wG213)))))))))
set_option maxRecDepth 100000 in
def wT0 : Lean.RArray aI := .branch 12 (.branch 2 (.branch 1 (.leaf (aTop)) (.leaf ([(0, 1000, 1)]))) (.branch 3 (.leaf ([(0, 6, 1)])) (.leaf (aTop)))) (.branch 14 (.branch 13 (.leaf ([(0, 11, 1)])) (.leaf ([(0, 12, 1)]))) (.branch 15 (.leaf (aTop)) (.branch 16 (.leaf ([(0, 3, 1)])) (.leaf (aTop)))))
set_option maxRecDepth 100000 in
def wT1 : Lean.RArray aI := .branch 1000 (.leaf ([(-128, 127, 1)])) (.leaf (aTop))
set_option maxRecDepth 100000 in
def wT2 : Lean.RArray aI := .branch 5 (.branch 1 (.leaf ([(0, 4, 1)])) (.branch 4 (.leaf (aTop)) (.leaf ([(0, 7, 1)])))) (.branch 7 (.branch 6 (.leaf ([(0, 12, 1)])) (.leaf ([(0, 5, 1)]))) (.branch 9 (.leaf ([(0, 8, 1)])) (.leaf (aTop))))
set_option maxRecDepth 100000 in
def wT3 : Lean.RArray aI := .leaf (aTop)
set_option maxRecDepth 100000 in
def wT4 : Lean.RArray aI := .branch 7 (.leaf ([(-1000, 1000, 1)])) (.leaf (aTop))
set_option maxRecDepth 100000 in
def wT5 : Lean.RArray aI := .leaf (aTop)
set_option maxRecDepth 100000 in
def wT6 : Lean.RArray aI := .leaf (aTop)
set_option maxRecDepth 100000 in
def wT7 : Lean.RArray aI := .leaf (aTop)
set_option maxRecDepth 100000 in
def wT8 : Lean.RArray aI := .leaf (aTop)
set_option maxRecDepth 100000 in
def wT9 : Lean.RArray aI := .branch 2 (.leaf ([(0, 6, 1)])) (.leaf (aTop))
set_option maxRecDepth 100000 in
def wT10 : Lean.RArray aI := .branch 2 (.leaf ([(0, 6, 1)])) (.leaf (aTop))
set_option maxRecDepth 100000 in
def wT11 : Lean.RArray aI := .branch 2 (.leaf ([(0, 6, 1)])) (.leaf (aTop))
set_option maxRecDepth 100000 in
def wT12 : Lean.RArray aI := .branch 2 (.leaf ([(0, 6, 1)])) (.leaf (aTop))
set_option maxRecDepth 100000 in
def wT13 : Lean.RArray aI := .branch 2 (.leaf ([(0, 6, 1)])) (.leaf (aTop))
set_option maxRecDepth 100000 in
def wT14 : Lean.RArray aI := .branch 2 (.leaf ([(0, 6, 1)])) (.leaf (aTop))
set_option maxRecDepth 100000 in
def wT15 : Lean.RArray aI := .branch 2 (.leaf ([(0, 6, 1)])) (.leaf (aTop))
set_option maxRecDepth 100000 in
def wT16 : Lean.RArray aI := .branch 2 (.leaf ([(0, 6, 1)])) (.leaf (aTop))
set_option maxRecDepth 100000 in
def wT17 : Lean.RArray aI := .branch 2 (.leaf ([(0, 6, 1)])) (.leaf (aTop))
set_option maxRecDepth 100000 in
def wT18 : Lean.RArray aI := .branch 2 (.leaf ([(0, 6, 1)])) (.leaf (aTop))
set_option maxRecDepth 100000 in
def wT19 : Lean.RArray aI := .branch 2 (.leaf ([(0, 6, 1)])) (.leaf (aTop))
set_option maxRecDepth 100000 in
def wT20 : Lean.RArray aI := .branch 2 (.leaf ([(0, 6, 1)])) (.leaf (aTop))
set_option maxRecDepth 100000 in
def wT21 : Lean.RArray aI := .branch 1 (.leaf ([(-2, -2, 1), (0, 3, 1)])) (.branch 2 (.leaf ([(0, 6, 1)])) (.leaf (aTop)))
set_option maxRecDepth 100000 in
def wT22 : Lean.RArray aI := .branch 1 (.leaf ([(-2, -2, 1), (0, 3, 1)])) (.branch 2 (.leaf ([(0, 6, 1)])) (.leaf (aTop)))
set_option maxRecDepth 100000 in
def wT23 : Lean.RArray aI := .branch 1 (.leaf ([(-2, -2, 1), (0, 3, 1)])) (.branch 2 (.leaf ([(0, 6, 1)])) (.leaf (aTop)))
set_option maxRecDepth 100000 in
def wT24 : Lean.RArray aI := .branch 1 (.leaf ([(-2, -2, 1), (0, 3, 1)])) (.branch 2 (.leaf ([(0, 6, 1)])) (.leaf (aTop)))
set_option maxRecDepth 100000 in
def wT25 : Lean.RArray aI := .branch 1 (.leaf ([(-2, -2, 1), (0, 3, 1)])) (.branch 2 (.leaf ([(0, 6, 1)])) (.leaf (aTop)))
set_option maxRecDepth 100000 in
def wT26 : Lean.RArray aI := .branch 2 (.leaf ([(0, 6, 1)])) (.leaf (aTop))
set_option maxRecDepth 100000 in
def wT27 : Lean.RArray aI := .branch 2 (.leaf ([(0, 6, 1)])) (.leaf (aTop))
set_option maxRecDepth 100000 in
def wT28 : Lean.RArray aI := .branch 2 (.leaf ([(0, 6, 1)])) (.leaf (aTop))
set_option maxRecDepth 100000 in
def wT29 : Lean.RArray aI := .branch 2 (.leaf ([(0, 6, 1)])) (.leaf (aTop))
set_option maxRecDepth 100000 in
def wT30 : Lean.RArray aI := .branch 2 (.leaf ([(0, 6, 1)])) (.leaf (aTop))
set_option maxRecDepth 100000 in
def wT31 : Lean.RArray aI := .branch 2 (.leaf ([(0, 6, 1)])) (.leaf (aTop))
set_option maxRecDepth 100000 in
def wT32 : Lean.RArray aI := .branch 2 (.leaf ([(0, 6, 1)])) (.leaf (aTop))
set_option maxRecDepth 100000 in
def wT33 : Lean.RArray aI := .branch 2 (.leaf ([(0, 6, 1)])) (.leaf (aTop))
set_option maxRecDepth 100000 in
def wT34 : Lean.RArray aI := .branch 1 (.leaf ([(0, 4, 1)])) (.branch 2 (.leaf ([(0, 6, 1)])) (.leaf (aTop)))
set_option maxRecDepth 100000 in
def wT35 : Lean.RArray aI := .branch 1 (.leaf ([(0, 4, 1)])) (.branch 2 (.leaf ([(0, 6, 1)])) (.leaf (aTop)))
set_option maxRecDepth 100000 in
def wT36 : Lean.RArray aI := .branch 1 (.leaf ([(0, 4, 1)])) (.branch 2 (.leaf ([(0, 6, 1)])) (.leaf (aTop)))
set_option maxRecDepth 100000 in
def wT37 : Lean.RArray aI := .branch 1 (.leaf ([(0, 4, 1)])) (.branch 2 (.leaf ([(0, 6, 1)])) (.leaf (aTop)))
set_option maxRecDepth 100000 in
def wT38 : Lean.RArray aI := .branch 1 (.leaf ([(0, 4, 1)])) (.branch 2 (.leaf ([(0, 6, 1)])) (.leaf (aTop)))
set_option maxRecDepth 100000 in
def wT39 : Lean.RArray aI := .branch 1 (.leaf ([(0, 4, 1)])) (.branch 2 (.leaf ([(0, 6, 1)])) (.leaf (aTop)))
set_option maxRecDepth 100000 in
def wT40 : Lean.RArray aI := .branch 1 (.leaf ([(0, 4, 1)])) (.branch 2 (.leaf ([(0, 6, 1)])) (.leaf (aTop)))
set_option maxRecDepth 100000 in
def wT41 : Lean.RArray aI := .branch 1 (.leaf ([(0, 4, 1)])) (.branch 2 (.leaf ([(0, 6, 1)])) (.leaf (aTop)))
set_option maxRecDepth 100000 in
def wT42 : Lean.RArray aI := .branch 5 (.branch 1 (.leaf ([(0, 4, 1)])) (.branch 4 (.leaf (aTop)) (.leaf ([(0, 7, 1)])))) (.branch 7 (.branch 6 (.leaf ([(0, 12, 1)])) (.leaf ([(0, 5, 1)]))) (.branch 9 (.leaf ([(0, 8, 1)])) (.leaf (aTop))))
set_option maxRecDepth 100000 in
def wT43 : Lean.RArray aI := .leaf (aTop)
set_option maxRecDepth 100000 in
def wT44 : Lean.RArray aI := .branch 7 (.leaf ([(-1000, 1000, 1)])) (.leaf (aTop))
set_option maxRecDepth 100000 in
def wT45 : Lean.RArray aI := .leaf (aTop)
set_option maxRecDepth 100000 in
def wT46 : Lean.RArray aI := .leaf (aTop)
set_option maxRecDepth 100000 in
def wT47 : Lean.RArray aI := .leaf (aTop)
set_option maxRecDepth 100000 in
def wT48 : Lean.RArray aI := .leaf (aTop)
set_option maxRecDepth 100000 in
def wT49 : Lean.RArray aI := .branch 2 (.leaf ([(0, 6, 1)])) (.leaf (aTop))
set_option maxRecDepth 100000 in
def wT50 : Lean.RArray aI := .branch 2 (.leaf ([(0, 6, 1)])) (.leaf (aTop))
set_option maxRecDepth 100000 in
def wT51 : Lean.RArray aI := .branch 2 (.leaf ([(0, 6, 1)])) (.leaf (aTop))
set_option maxRecDepth 100000 in
def wT52 : Lean.RArray aI := .branch 2 (.leaf ([(0, 6, 1)])) (.leaf (aTop))
set_option maxRecDepth 100000 in
def wT53 : Lean.RArray aI := .branch 2 (.leaf ([(0, 6, 1)])) (.leaf (aTop))
set_option maxRecDepth 100000 in
def wT54 : Lean.RArray aI := .branch 2 (.leaf ([(0, 6, 1)])) (.leaf (aTop))
set_option maxRecDepth 100000 in
def wT55 : Lean.RArray aI := .branch 2 (.leaf ([(0, 6, 1)])) (.leaf (aTop))
set_option maxRecDepth 100000 in
def wT56 : Lean.RArray aI := .branch 2 (.leaf ([(0, 6, 1)])) (.leaf (aTop))
set_option maxRecDepth 100000 in
def wT57 : Lean.RArray aI := .branch 2 (.leaf ([(0, 6, 1)])) (.leaf (aTop))
set_option maxRecDepth 100000 in
def wT58 : Lean.RArray aI := .branch 2 (.leaf ([(0, 6, 1)])) (.leaf (aTop))
set_option maxRecDepth 100000 in
def wT59 : Lean.RArray aI := .branch 2 (.leaf ([(0, 6, 1)])) (.leaf (aTop))
set_option maxRecDepth 100000 in
def wT60 : Lean.RArray aI := .branch 2 (.leaf ([(0, 6, 1)])) (.leaf (aTop))
set_option maxRecDepth 100000 in
def wT61 : Lean.RArray aI := .branch 1 (.leaf ([(-2, -2, 1), (0, 3, 1)])) (.branch 2 (.leaf ([(0, 6, 1)])) (.leaf (aTop)))
set_option maxRecDepth 100000 in
def wT62 : Lean.RArray aI := .branch 1 (.leaf ([(-2, -2, 1), (0, 3, 1)])) (.branch 2 (.leaf ([(0, 6, 1)])) (.leaf (aTop)))
set_option maxRecDepth 100000 in
def wT63 : Lean.RArray aI := .branch 1 (.leaf ([(-2, -2, 1), (0, 3, 1)])) (.branch 2 (.leaf ([(0, 6, 1)])) (.leaf (aTop)))
set_option maxRecDepth 100000 in
def wT64 : Lean.RArray aI := .branch 1 (.leaf ([(-2, -2, 1), (0, 3, 1)])) (.branch 2 (.leaf ([(0, 6, 1)])) (.leaf (aTop)))
set_option maxRecDepth 100000 in
def wT65 : Lean.RArray aI := .branch 1 (.leaf ([(-2, -2, 1), (0, 3, 1)])) (.branch 2 (.leaf ([(0, 6, 1)])) (.leaf (aTop)))
set_option maxRecDepth 100000 in
def wT66 : Lean.RArray aI := .branch 2 (.leaf ([(0, 6, 1)])) (.leaf (aTop))
set_option maxRecDepth 100000 in
def wT67 : Lean.RArray aI := .branch 2 (.leaf ([(0, 6, 1)])) (.leaf (aTop))
set_option maxRecDepth 100000 in
def wT68 : Lean.RArray aI := .branch 2 (.leaf ([(0, 6, 1)])) (.leaf (aTop))
set_option maxRecDepth 100000 in
def wT69 : Lean.RArray aI := .branch 2 (.leaf ([(0, 6, 1)])) (.leaf (aTop))
set_option maxRecDepth 100000 in
def wT70 : Lean.RArray aI := .branch 2 (.leaf ([(0, 6, 1)])) (.leaf (aTop))
set_option maxRecDepth 100000 in
def wT71 : Lean.RArray aI := .branch 2 (.leaf ([(0, 6, 1)])) (.leaf (aTop))
set_option maxRecDepth 100000 in
def wT72 : Lean.RArray aI := .branch 2 (.leaf ([(0, 6, 1)])) (.leaf (aTop))
set_option maxRecDepth 100000 in
def wT73 : Lean.RArray aI := .branch 2 (.leaf ([(0, 6, 1)])) (.leaf (aTop))
set_option maxRecDepth 100000 in
def wT74 : Lean.RArray aI := .branch 1 (.leaf ([(0, 4, 1)])) (.branch 2 (.leaf ([(0, 6, 1)])) (.leaf (aTop)))
set_option maxRecDepth 100000 in
def wT75 : Lean.RArray aI := .branch 1 (.leaf ([(0, 4, 1)])) (.branch 2 (.leaf ([(0, 6, 1)])) (.leaf (aTop)))
set_option maxRecDepth 100000 in
def wT76 : Lean.RArray aI := .branch 1 (.leaf ([(0, 4, 1)])) (.branch 2 (.leaf ([(0, 6, 1)])) (.leaf (aTop)))
set_option maxRecDepth 100000 in
def wT77 : Lean.RArray aI := .branch 1 (.leaf ([(0, 4, 1)])) (.branch 2 (.leaf ([(0, 6, 1)])) (.leaf (aTop)))
set_option maxRecDepth 100000 in
def wT78 : Lean.RArray aI := .branch 1 (.leaf ([(0, 4, 1)])) (.branch 2 (.leaf ([(0, 6, 1)])) (.leaf (aTop)))
set_option maxRecDepth 100000 in
def wT79 : Lean.RArray aI := .branch 1 (.leaf ([(0, 4, 1)])) (.branch 2 (.leaf ([(0, 6, 1)])) (.leaf (aTop)))
set_option maxRecDepth 100000 in
def wT80 : Lean.RArray aI := .branch 1 (.leaf ([(0, 4, 1)])) (.branch 2 (.leaf ([(0, 6, 1)])) (.leaf (aTop)))
set_option maxRecDepth 100000 in
def wT81 : Lean.RArray aI := .branch 1 (.leaf ([(0, 4, 1)])) (.branch 2 (.leaf ([(0, 6, 1)])) (.leaf (aTop)))
set_option maxRecDepth 100000 in
def wT82 : Lean.RArray aI := .branch 4 (.branch 1 (.leaf (aTop)) (.branch 3 (.leaf ([(0, 1000, 1)])) (.leaf ([(0, 4, 1)])))) (.branch 10 (.branch 5 (.leaf ([(0, 1000, 1)])) (.leaf (aTop))) (.branch 11 (.leaf ([(0, 20, 1)])) (.leaf (aTop))))
set_option maxRecDepth 100000 in
def wT83 : Lean.RArray aI := .leaf (aTop)
set_option maxRecDepth 100000 in
def wT84 : Lean.RArray aI := .branch 20 (.leaf ([(0, 5, 1)])) (.leaf (aTop))
set_option maxRecDepth 100000 in
def wT85 : Lean.RArray aI := .branch 20 (.leaf ([(0, 7, 1)])) (.leaf (aTop))
set_option maxRecDepth 100000 in
def wT86 : Lean.RArray aI := .branch 1 (.leaf ([(0, 9999, 1)])) (.leaf (aTop))
set_option maxRecDepth 100000 in
def wT87 : Lean.RArray aI := .branch 5 (.leaf ([(0, 6, 1)])) (.leaf (aTop))
set_option maxRecDepth 100000 in
def wT88 : Lean.RArray aI := .leaf (aTop)
set_option maxRecDepth 100000 in
def wT89 : Lean.RArray aI := .leaf (aTop)
set_option maxRecDepth 100000 in
def wT90 : Lean.RArray aI := .leaf (aTop)
set_option maxRecDepth 100000 in
def wT91 : Lean.RArray aI := .leaf (aTop)
set_option maxRecDepth 100000 in
def wT92 : Lean.RArray aI := .leaf (aTop)
set_option maxRecDepth 100000 in
def wT93 : Lean.RArray aI := .leaf (aTop)
set_option maxRecDepth 100000 in
def wT94 : Lean.RArray aI := .branch 4 (.leaf (aTop)) (.branch 5 (.leaf ([(-2, -2, 1), (0, 6, 1)])) (.leaf (aTop)))
set_option maxRecDepth 100000 in
def wT95 : Lean.RArray aI := .leaf (aTop)
set_option maxRecDepth 100000 in
def wT96 : Lean.RArray aI := .leaf (aTop)
set_option maxRecDepth 100000 in
def wT97 : Lean.RArray aI := .branch 7 (.leaf ([(0, 6, 1)])) (.leaf (aTop))
set_option maxRecDepth 100000 in
def wT98 : Lean.RArray aI := .leaf (aTop)
set_option maxRecDepth 100000 in
def wT99 : Lean.RArray aI := .leaf (aTop)
set_option maxRecDepth 100000 in
def wT100 : Lean.RArray aI := .leaf (aTop)
set_option maxRecDepth 100000 in
def wT101 : Lean.RArray aI := .leaf (aTop)
set_option maxRecDepth 100000 in
def wT102 : Lean.RArray aI := .leaf (aTop)
set_option maxRecDepth 100000 in
def wT103 : Lean.RArray aI := .leaf (aTop)
set_option maxRecDepth 100000 in
def wT104 : Lean.RArray aI := .leaf (aTop)
set_option maxRecDepth 100000 in
def wT105 : Lean.RArray aI := .leaf (aTop)
set_option maxRecDepth 100000 in
def wT106 : Lean.RArray aI := .branch 1 (.leaf ([(0, 9999, 1)])) (.leaf (aTop))
set_option maxRecDepth 100000 in
def wT107 : Lean.RArray aI := .branch 5 (.leaf ([(0, 6, 1)])) (.leaf (aTop))
set_option maxRecDepth 100000 in
def wT108 : Lean.RArray aI := .leaf (aTop)
set_option maxRecDepth 100000 in
def wT109 : Lean.RArray aI := .leaf (aTop)
set_option maxRecDepth 100000 in
def wT110 : Lean.RArray aI := .leaf (aTop)
set_option maxRecDepth 100000 in
def wT111 : Lean.RArray aI := .leaf (aTop)
set_option maxRecDepth 100000 in
def wT112 : Lean.RArray aI := .branch 1 (.leaf ([(0, 9999, 1)])) (.leaf (aTop))
set_option maxRecDepth 100000 in
def wT113 : Lean.RArray aI := .branch 5 (.leaf ([(0, 6, 1)])) (.leaf (aTop))
set_option maxRecDepth 100000 in
def wT114 : Lean.RArray aI := .leaf (aTop)
set_option maxRecDepth 100000 in
def wT115 : Lean.RArray aI := .leaf (aTop)
set_option maxRecDepth 100000 in
def wT116 : Lean.RArray aI := .leaf (aTop)
set_option maxRecDepth 100000 in
def wT117 : Lean.RArray aI := .leaf (aTop)
set_option maxRecDepth 100000 in
def wT118 : Lean.RArray aI := .branch 1 (.leaf ([(0, 9999, 1)])) (.leaf (aTop))
set_option maxRecDepth 100000 in
def wT119 : Lean.RArray aI := .branch 5 (.leaf ([(0, 6, 1)])) (.leaf (aTop))
set_option maxRecDepth 100000 in
def wT120 : Lean.RArray aI := .leaf (aTop)
set_option maxRecDepth 100000 in
def wT121 : Lean.RArray aI := .leaf (aTop)
set_option maxRecDepth 100000 in
def wT122 : Lean.RArray aI := .leaf (aTop)
set_option maxRecDepth 100000 in
def wT123 : Lean.RArray aI := .leaf (aTop)
set_option maxRecDepth 100000 in
def wT124 : Lean.RArray aI := .branch 1 (.leaf ([(0, 9999, 1)])) (.leaf (aTop))
set_option maxRecDepth 100000 in
def wT125 : Lean.RArray aI := .branch 5 (.leaf ([(0, 6, 1)])) (.leaf (aTop))
set_option maxRecDepth 100000 in
def wT126 : Lean.RArray aI := .leaf (aTop)
set_option maxRecDepth 100000 in
def wT127 : Lean.RArray aI := .leaf (aTop)
set_option maxRecDepth 100000 in
def wT128 : Lean.RArray aI := .leaf (aTop)
set_option maxRecDepth 100000 in
def wT129 : Lean.RArray aI := .leaf (aTop)
set_option maxRecDepth 100000 in
def wT130 : Lean.RArray aI := .branch 1 (.leaf ([(0, 9999, 1)])) (.leaf (aTop))
set_option maxRecDepth 100000 in
def wT131 : Lean.RArray aI := .branch 5 (.leaf ([(0, 6, 1)])) (.leaf (aTop))
set_option maxRecDepth 100000 in
def wT132 : Lean.RArray aI := .leaf (aTop)
set_option maxRecDepth 100000 in
def wT133 : Lean.RArray aI := .leaf (aTop)
set_option maxRecDepth 100000 in
def wT134 : Lean.RArray aI := .leaf (aTop)
set_option maxRecDepth 100000 in
def wT135 : Lean.RArray aI := .leaf (aTop)
set_option maxRecDepth 100000 in
def wT136 : Lean.RArray aI := .branch 1 (.leaf ([(0, 9999, 1)])) (.leaf (aTop))
set_option maxRecDepth 100000 in
def wT137 : Lean.RArray aI := .branch 5 (.leaf ([(0, 6, 1)])) (.leaf (aTop))
set_option maxRecDepth 100000 in
def wT138 : Lean.RArray aI := .leaf (aTop)
set_option maxRecDepth 100000 in
def wT139 : Lean.RArray aI := .leaf (aTop)
set_option maxRecDepth 100000 in
def wT140 : Lean.RArray aI := .leaf (aTop)
set_option maxRecDepth 100000 in
def wT141 : Lean.RArray aI := .leaf (aTop)
set_option maxRecDepth 100000 in
def wT142 : Lean.RArray aI := .branch 1 (.leaf ([(0, 9999, 1)])) (.leaf (aTop))
set_option maxRecDepth 100000 in
def wT143 : Lean.RArray aI := .branch 5 (.leaf ([(0, 6, 1)])) (.leaf (aTop))
set_option maxRecDepth 100000 in
def wT144 : Lean.RArray aI := .leaf (aTop)
set_option maxRecDepth 100000 in
def wT145 : Lean.RArray aI := .leaf (aTop)
set_option maxRecDepth 100000 in
def wT146 : Lean.RArray aI := .leaf (aTop)
set_option maxRecDepth 100000 in
def wT147 : Lean.RArray aI := .leaf (aTop)
set_option maxRecDepth 100000 in
def wT148 : Lean.RArray aI := .branch 1 (.leaf ([(0, 9999, 1)])) (.leaf (aTop))
set_option maxRecDepth 100000 in
def wT149 : Lean.RArray aI := .branch 5 (.leaf ([(0, 6, 1)])) (.leaf (aTop))
set_option maxRecDepth 100000 in
def wT150 : Lean.RArray aI := .leaf (aTop)
set_option maxRecDepth 100000 in
def wT151 : Lean.RArray aI := .leaf (aTop)
set_option maxRecDepth 100000 in
def wT152 : Lean.RArray aI := .leaf (aTop)
set_option maxRecDepth 100000 in
def wT153 : Lean.RArray aI := .leaf (aTop)
set_option maxRecDepth 100000 in
def wT154 : Lean.RArray aI := .branch 1 (.leaf ([(0, 9999, 1)])) (.leaf (aTop))
set_option maxRecDepth 100000 in
def wT155 : Lean.RArray aI := .branch 5 (.leaf ([(0, 6, 1)])) (.leaf (aTop))
set_option maxRecDepth 100000 in
def wT156 : Lean.RArray aI := .leaf (aTop)
set_option maxRecDepth 100000 in
def wT157 : Lean.RArray aI := .leaf (aTop)
set_option maxRecDepth 100000 in
def wT158 : Lean.RArray aI := .leaf (aTop)
set_option maxRecDepth 100000 in
def wT159 : Lean.RArray aI := .leaf (aTop)
set_option maxRecDepth 100000 in
def wT160 : Lean.RArray aI := .branch 1 (.leaf ([(0, 9999, 1)])) (.leaf (aTop))
set_option maxRecDepth 100000 in
def wT161 : Lean.RArray aI := .branch 5 (.leaf ([(0, 6, 1)])) (.leaf (aTop))
set_option maxRecDepth 100000 in
def wT162 : Lean.RArray aI := .leaf (aTop)
set_option maxRecDepth 100000 in
def wT163 : Lean.RArray aI := .leaf (aTop)
set_option maxRecDepth 100000 in
def wT164 : Lean.RArray aI := .leaf (aTop)
set_option maxRecDepth 100000 in
def wT165 : Lean.RArray aI := .leaf (aTop)
set_option maxRecDepth 100000 in
def wT166 : Lean.RArray aI := .branch 1 (.leaf ([(0, 9999, 1)])) (.leaf (aTop))
set_option maxRecDepth 100000 in
def wT167 : Lean.RArray aI := .branch 5 (.leaf ([(0, 6, 1)])) (.leaf (aTop))
set_option maxRecDepth 100000 in
def wT168 : Lean.RArray aI := .leaf (aTop)
set_option maxRecDepth 100000 in
def wT169 : Lean.RArray aI := .leaf (aTop)
set_option maxRecDepth 100000 in
def wT170 : Lean.RArray aI := .leaf (aTop)
set_option maxRecDepth 100000 in
def wT171 : Lean.RArray aI := .leaf (aTop)
set_option maxRecDepth 100000 in
def wT172 : Lean.RArray aI := .branch 1 (.leaf ([(0, 9999, 1)])) (.leaf (aTop))
set_option maxRecDepth 100000 in
def wT173 : Lean.RArray aI := .branch 5 (.leaf ([(0, 6, 1)])) (.leaf (aTop))
set_option maxRecDepth 100000 in
def wT174 : Lean.RArray aI := .leaf (aTop)
set_option maxRecDepth 100000 in
def wT175 : Lean.RArray aI := .leaf (aTop)
set_option maxRecDepth 100000 in
def wT176 : Lean.RArray aI := .leaf (aTop)
set_option maxRecDepth 100000 in
def wT177 : Lean.RArray aI := .leaf (aTop)
set_option maxRecDepth 100000 in
def wT178 : Lean.RArray aI := .branch 1 (.leaf ([(0, 9999, 1)])) (.leaf (aTop))
set_option maxRecDepth 100000 in
def wT179 : Lean.RArray aI := .branch 5 (.leaf ([(0, 6, 1)])) (.leaf (aTop))
set_option maxRecDepth 100000 in
def wT180 : Lean.RArray aI := .leaf (aTop)
set_option maxRecDepth 100000 in
def wT181 : Lean.RArray aI := .leaf (aTop)
set_option maxRecDepth 100000 in
def wT182 : Lean.RArray aI := .leaf (aTop)
set_option maxRecDepth 100000 in
def wT183 : Lean.RArray aI := .leaf (aTop)
set_option maxRecDepth 100000 in
def wT184 : Lean.RArray aI := .branch 1 (.leaf ([(0, 9999, 1)])) (.leaf (aTop))
set_option maxRecDepth 100000 in
def wT185 : Lean.RArray aI := .branch 5 (.leaf ([(0, 6, 1)])) (.leaf (aTop))
set_option maxRecDepth 100000 in
def wT186 : Lean.RArray aI := .leaf (aTop)
set_option maxRecDepth 100000 in
def wT187 : Lean.RArray aI := .leaf (aTop)
set_option maxRecDepth 100000 in
def wT188 : Lean.RArray aI := .leaf (aTop)
set_option maxRecDepth 100000 in
def wT189 : Lean.RArray aI := .leaf (aTop)
set_option maxRecDepth 100000 in
def wT190 : Lean.RArray aI := .branch 1 (.leaf ([(0, 9999, 1)])) (.leaf (aTop))
set_option maxRecDepth 100000 in
def wT191 : Lean.RArray aI := .branch 5 (.leaf ([(0, 6, 1)])) (.leaf (aTop))
set_option maxRecDepth 100000 in
def wT192 : Lean.RArray aI := .leaf (aTop)
set_option maxRecDepth 100000 in
def wT193 : Lean.RArray aI := .leaf (aTop)
set_option maxRecDepth 100000 in
def wT194 : Lean.RArray aI := .leaf (aTop)
set_option maxRecDepth 100000 in
def wT195 : Lean.RArray aI := .leaf (aTop)
set_option maxRecDepth 100000 in
def wT196 : Lean.RArray aI := .branch 12 (.branch 7 (.branch 4 (.branch 2 (.leaf (aTop)) (.leaf ([(0, 1000, 1)]))) (.branch 6 (.leaf ([(0, 1001, 1)])) (.leaf ([(0, 59, 1)])))) (.branch 9 (.branch 8 (.leaf (aTop)) (.leaf ([(0, 1001, 1)]))) (.branch 10 (.leaf ([(0, 7, 1)])) (.branch 11 (.leaf (aTop)) (.leaf ([(0, 6, 1)])))))) (.branch 22 (.branch 15 (.branch 13 (.leaf (aTop)) (.leaf ([(0, 1, 1)]))) (.branch 20 (.leaf (aTop)) (.branch 21 (.leaf ([(0, 12, 1)])) (.leaf ([(0, 3, 1)]))))) (.branch 24 (.branch 23 (.leaf (aTop)) (.leaf ([(0, 3200, 1)]))) (.branch 33 (.leaf (aTop)) (.branch 34 (.leaf ([(0, 6, 1)])) (.leaf (aTop))))))
set_option maxRecDepth 100000 in
def wT197 : Lean.RArray aI := .branch 1000 (.leaf ([(0, 255, 1)])) (.leaf (aTop))
set_option maxRecDepth 100000 in
def wT198 : Lean.RArray aI := .leaf (aTop)
set_option maxRecDepth 100000 in
def wT199 : Lean.RArray aI := .branch 107 (.branch 69 (.branch 32 (.branch 10 (.branch 5 (.branch 1 (.leaf ([(0, 4, 1)])) (.branch 4 (.leaf (aTop)) (.leaf ([(0, 7, 1)])))) (.branch 7 (.branch 6 (.leaf ([(0, 12, 1)])) (.leaf ([(0, 5, 1)]))) (.branch 9 (.leaf ([(0, 8, 1)])) (.leaf ([(0, 1, 1)]))))) (.branch 18 (.branch 11 (.leaf ([(0, 6, 1)])) (.branch 17 (.leaf (aTop)) (.leaf ([(0, 6, 1)])))) (.branch 25 (.branch 24 (.leaf (aTop)) (.leaf ([(0, 6, 1)]))) (.branch 31 (.leaf (aTop)) (.leaf ([(0, 6, 1)])))))) (.branch 59 (.branch 45 (.branch 38 (.leaf (aTop)) (.branch 39 (.leaf ([(0, 6, 1)])) (.leaf (aTop)))) (.branch 52 (.branch 46 (.leaf ([(0, 6, 1)])) (.leaf (aTop))) (.branch 53 (.leaf ([(0, 6, 1)])) (.leaf (aTop))))) (.branch 63 (.branch 61 (.leaf ([(0, 6, 1)])) (.branch 62 (.leaf (aTop)) (.leaf ([(0, 15, 1)])))) (.branch 66 (.branch 65 (.leaf ([(0, 6, 1)])) (.leaf (aTop))) (.branch 67 (.leaf ([(0, 15, 1)])) (.leaf ([(0, 6, 1)]))))))) (.branch 87 (.branch 78 (.branch 73 (.branch 70 (.leaf (aTop)) (.branch 71 (.leaf ([(0, 15, 1)])) (.leaf ([(0, 6, 1)])))) (.branch 75 (.branch 74 (.leaf (aTop)) (.leaf ([(0, 15, 1)]))) (.branch 77 (.leaf ([(0, 6, 1)])) (.leaf (aTop))))) (.branch 82 (.branch 79 (.leaf ([(0, 15, 1)])) (.branch 81 (.leaf ([(0, 6, 1)])) (.leaf (aTop)))) (.branch 85 (.branch 83 (.leaf ([(0, 15, 1)])) (.leaf ([(0, 6, 1)]))) (.branch 86 (.leaf (aTop)) (.leaf ([(0, 15, 1)])))))) (.branch 97 (.branch 91 (.branch 89 (.leaf ([(0, 6, 1)])) (.branch 90 (.leaf (aTop)) (.leaf ([(0, 15, 1)])))) (.branch 94 (.branch 93 (.leaf ([(0, 6, 1)])) (.leaf (aTop))) (.branch 95 (.leaf ([(0, 15, 1)])) (.leaf ([(0, 6, 1)]))))) (.branch 102 (.branch 99 (.branch 98 (.leaf (aTop)) (.leaf ([(0, 15, 1)]))) (.branch 101 (.leaf ([(0, 6, 1)])) (.leaf (aTop)))) (.branch 105 (.branch 103 (.leaf ([(0, 15, 1)])) (.leaf ([(0, 6, 1)]))) (.branch 106 (.leaf (aTop)) (.leaf ([(0, 15, 1)])))))))) (.branch 153 (.branch 125 (.branch 116 (.branch 111 (.branch 108 (.leaf ([(0, 3, 1)])) (.branch 109 (.leaf ([(0, 6, 1)])) (.leaf (aTop)))) (.branch 113 (.branch 112 (.leaf ([(0, 3, 1)])) (.leaf ([(0, 6, 1)]))) (.branch 115 (.leaf (aTop)) (.leaf ([(0, 3, 1)]))))) (.branch 120 (.branch 117 (.leaf ([(0, 6, 1)])) (.branch 119 (.leaf (aTop)) (.leaf ([(0, 3, 1)])))) (.branch 123 (.branch 121 (.leaf ([(0, 6, 1)])) (.leaf (aTop))) (.branch 124 (.leaf ([(0, 3, 1)])) (.leaf ([(0, 6, 1)])))))) (.branch 139 (.branch 131 (.branch 127 (.leaf (aTop)) (.branch 129 (.leaf ([(0, 6, 1)])) (.leaf (aTop)))) (.branch 135 (.branch 133 (.leaf ([(0, 6, 1)])) (.leaf (aTop))) (.branch 137 (.leaf ([(0, 6, 1)])) (.leaf (aTop))))) (.branch 145 (.branch 141 (.leaf ([(0, 6, 1)])) (.branch 143 (.leaf (aTop)) (.leaf ([(0, 6, 1)])))) (.branch 149 (.branch 147 (.leaf (aTop)) (.leaf ([(0, 6, 1)]))) (.branch 151 (.leaf (aTop)) (.leaf ([(0, 6, 1)]))))))) (.branch 170 (.branch 163 (.branch 159 (.branch 155 (.leaf (aTop)) (.branch 157 (.leaf ([(0, 6, 1)])) (.leaf (aTop)))) (.branch 161 (.branch 160 (.leaf ([(0, 4, 1)])) (.leaf ([(0, 6, 1)]))) (.branch 162 (.leaf (aTop)) (.leaf ([(0, 4, 1)]))))) (.branch 166 (.branch 164 (.leaf ([(0, 6, 1)])) (.branch 165 (.leaf (aTop)) (.leaf ([(0, 4, 1)])))) (.branch 168 (.branch 167 (.leaf ([(0, 6, 1)])) (.leaf (aTop))) (.branch 169 (.leaf ([(0, 4, 1)])) (.leaf ([(0, 6, 1)])))))) (.branch 177 (.branch 173 (.branch 171 (.leaf (aTop)) (.branch 172 (.leaf ([(0, 4, 1)])) (.leaf ([(0, 6, 1)])))) (.branch 175 (.branch 174 (.leaf (aTop)) (.leaf ([(0, 4, 1)]))) (.branch 176 (.leaf ([(0, 6, 1)])) (.leaf (aTop))))) (.branch 181 (.branch 179 (.branch 178 (.leaf ([(0, 4, 1)])) (.leaf ([(0, 6, 1)]))) (.branch 180 (.leaf (aTop)) (.leaf ([(0, 4, 1)])))) (.branch 183 (.branch 182 (.leaf ([(0, 6, 1)])) (.leaf (aTop))) (.branch 203 (.leaf ([(0, 8, 1)])) (.leaf (aTop))))))))
set_option maxRecDepth 100000 in
def wT200 : Lean.RArray aI := .branch 107 (.branch 69 (.branch 32 (.branch 10 (.branch 5 (.branch 1 (.leaf ([(0, 4, 1)])) (.branch 4 (.leaf (aTop)) (.leaf ([(0, 7, 1)])))) (.branch 7 (.branch 6 (.leaf ([(0, 12, 1)])) (.leaf ([(0, 5, 1)]))) (.branch 9 (.leaf ([(0, 8, 1)])) (.leaf ([(0, 1, 1)]))))) (.branch 18 (.branch 11 (.leaf ([(0, 6, 1)])) (.branch 17 (.leaf (aTop)) (.leaf ([(0, 6, 1)])))) (.branch 25 (.branch 24 (.leaf (aTop)) (.leaf ([(0, 6, 1)]))) (.branch 31 (.leaf (aTop)) (.leaf ([(0, 6, 1)])))))) (.branch 59 (.branch 45 (.branch 38 (.leaf (aTop)) (.branch 39 (.leaf ([(0, 6, 1)])) (.leaf (aTop)))) (.branch 52 (.branch 46 (.leaf ([(0, 6, 1)])) (.leaf (aTop))) (.branch 53 (.leaf ([(0, 6, 1)])) (.leaf (aTop))))) (.branch 63 (.branch 61 (.leaf ([(0, 6, 1)])) (.branch 62 (.leaf (aTop)) (.leaf ([(0, 15, 1)])))) (.branch 66 (.branch 65 (.leaf ([(0, 6, 1)])) (.leaf (aTop))) (.branch 67 (.leaf ([(0, 15, 1)])) (.leaf ([(0, 6, 1)]))))))) (.branch 87 (.branch 78 (.branch 73 (.branch 70 (.leaf (aTop)) (.branch 71 (.leaf ([(0, 15, 1)])) (.leaf ([(0, 6, 1)])))) (.branch 75 (.branch 74 (.leaf (aTop)) (.leaf ([(0, 15, 1)]))) (.branch 77 (.leaf ([(0, 6, 1)])) (.leaf (aTop))))) (.branch 82 (.branch 79 (.leaf ([(0, 15, 1)])) (.branch 81 (.leaf ([(0, 6, 1)])) (.leaf (aTop)))) (.branch 85 (.branch 83 (.leaf ([(0, 15, 1)])) (.leaf ([(0, 6, 1)]))) (.branch 86 (.leaf (aTop)) (.leaf ([(0, 15, 1)])))))) (.branch 97 (.branch 91 (.branch 89 (.leaf ([(0, 6, 1)])) (.branch 90 (.leaf (aTop)) (.leaf ([(0, 15, 1)])))) (.branch 94 (.branch 93 (.leaf ([(0, 6, 1)])) (.leaf (aTop))) (.branch 95 (.leaf ([(0, 15, 1)])) (.leaf ([(0, 6, 1)]))))) (.branch 102 (.branch 99 (.branch 98 (.leaf (aTop)) (.leaf ([(0, 15, 1)]))) (.branch 101 (.leaf ([(0, 6, 1)])) (.leaf (aTop)))) (.branch 105 (.branch 103 (.leaf ([(0, 15, 1)])) (.leaf ([(0, 6, 1)]))) (.branch 106 (.leaf (aTop)) (.leaf ([(0, 15, 1)])))))))) (.branch 153 (.branch 125 (.branch 116 (.branch 111 (.branch 108 (.leaf ([(0, 3, 1)])) (.branch 109 (.leaf ([(0, 6, 1)])) (.leaf (aTop)))) (.branch 113 (.branch 112 (.leaf ([(0, 3, 1)])) (.leaf ([(0, 6, 1)]))) (.branch 115 (.leaf (aTop)) (.leaf ([(0, 3, 1)]))))) (.branch 120 (.branch 117 (.leaf ([(0, 6, 1)])) (.branch 119 (.leaf (aTop)) (.leaf ([(0, 3, 1)])))) (.branch 123 (.branch 121 (.leaf ([(0, 6, 1)])) (.leaf (aTop))) (.branch 124 (.leaf ([(0, 3, 1)])) (.leaf ([(0, 6, 1)])))))) (.branch 139 (.branch 131 (.branch 127 (.leaf (aTop)) (.branch 129 (.leaf ([(0, 6, 1)])) (.leaf (aTop)))) (.branch 135 (.branch 133 (.leaf ([(0, 6, 1)])) (.leaf (aTop))) (.branch 137 (.leaf ([(0, 6, 1)])) (.leaf (aTop))))) (.branch 145 (.branch 141 (.leaf ([(0, 6, 1)])) (.branch 143 (.leaf (aTop)) (.leaf ([(0, 6, 1)])))) (.branch 149 (.branch 147 (.leaf (aTop)) (.leaf ([(0, 6, 1)]))) (.branch 151 (.leaf (aTop)) (.leaf ([(0, 6, 1)]))))))) (.branch 170 (.branch 163 (.branch 159 (.branch 155 (.leaf (aTop)) (.branch 157 (.leaf ([(0, 6, 1)])) (.leaf (aTop)))) (.branch 161 (.branch 160 (.leaf ([(0, 4, 1)])) (.leaf ([(0, 6, 1)]))) (.branch 162 (.leaf (aTop)) (.leaf ([(0, 4, 1)]))))) (.branch 166 (.branch 164 (.leaf ([(0, 6, 1)])) (.branch 165 (.leaf (aTop)) (.leaf ([(0, 4, 1)])))) (.branch 168 (.branch 167 (.leaf ([(0, 6, 1)])) (.leaf (aTop))) (.branch 169 (.leaf ([(0, 4, 1)])) (.leaf ([(0, 6, 1)])))))) (.branch 177 (.branch 173 (.branch 171 (.leaf (aTop)) (.branch 172 (.leaf ([(0, 4, 1)])) (.leaf ([(0, 6, 1)])))) (.branch 175 (.branch 174 (.leaf (aTop)) (.leaf ([(0, 4, 1)]))) (.branch 176 (.leaf ([(0, 6, 1)])) (.leaf (aTop))))) (.branch 181 (.branch 179 (.branch 178 (.leaf ([(0, 4, 1)])) (.leaf ([(0, 6, 1)]))) (.branch 180 (.leaf (aTop)) (.leaf ([(0, 4, 1)])))) (.branch 183 (.branch 182 (.leaf ([(0, 6, 1)])) (.leaf (aTop))) (.branch 203 (.leaf ([(0, 8, 1)])) (.leaf (aTop))))))))
set_option maxRecDepth 100000 in
def wT201 : Lean.RArray aI := .branch 2 (.branch 1 (.leaf ([(0, 9999, 1)])) (.leaf (aTop))) (.branch 7 (.leaf ([(0, 6, 1)])) (.leaf (aTop)))
set_option maxRecDepth 100000 in
def wT202 : Lean.RArray aI := .branch 456 (.branch 228 (.branch 78 (.branch 7 (.branch 1 (.leaf ([(0, 9999, 1)])) (.branch 2 (.leaf (aTop)) (.leaf ([(0, 6, 1)])))) (.branch 76 (.leaf (aTop)) (.branch 77 (.leaf ([(0, 9999, 1)])) (.leaf (aTop))))) (.branch 153 (.branch 83 (.leaf ([(0, 6, 1)])) (.branch 152 (.leaf (aTop)) (.leaf ([(0, 9999, 1)])))) (.branch 154 (.leaf (aTop)) (.branch 159 (.leaf ([(0, 6, 1)])) (.leaf (aTop)))))) (.branch 306 (.branch 235 (.branch 229 (.leaf ([(0, 9999, 1)])) (.branch 230 (.leaf (aTop)) (.leaf ([(0, 6, 1)])))) (.branch 304 (.leaf (aTop)) (.branch 305 (.leaf ([(0, 9999, 1)])) (.leaf (aTop))))) (.branch 381 (.branch 311 (.leaf ([(0, 6, 1)])) (.branch 380 (.leaf (aTop)) (.leaf ([(0, 9999, 1)])))) (.branch 382 (.leaf (aTop)) (.branch 387 (.leaf ([(0, 6, 1)])) (.leaf (aTop))))))) (.branch 684 (.branch 534 (.branch 463 (.branch 457 (.leaf ([(0, 9999, 1)])) (.branch 458 (.leaf (aTop)) (.leaf ([(0, 6, 1)])))) (.branch 532 (.leaf (aTop)) (.branch 533 (.leaf ([(0, 9999, 1)])) (.leaf (aTop))))) (.branch 609 (.branch 539 (.leaf ([(0, 6, 1)])) (.branch 608 (.leaf (aTop)) (.leaf ([(0, 9999, 1)])))) (.branch 610 (.leaf (aTop)) (.branch 615 (.leaf ([(0, 6, 1)])) (.leaf (aTop)))))) (.branch 762 (.branch 691 (.branch 685 (.leaf ([(0, 9999, 1)])) (.branch 686 (.leaf (aTop)) (.leaf ([(0, 6, 1)])))) (.branch 760 (.leaf (aTop)) (.branch 761 (.leaf ([(0, 9999, 1)])) (.leaf (aTop))))) (.branch 837 (.branch 767 (.leaf ([(0, 6, 1)])) (.branch 836 (.leaf (aTop)) (.leaf ([(0, 9999, 1)])))) (.branch 838 (.leaf (aTop)) (.branch 843 (.leaf ([(0, 6, 1)])) (.leaf (aTop)))))))
set_option maxRecDepth 100000 in
def wT203 : Lean.RArray aI := .branch 78 (.branch 7 (.branch 1 (.leaf ([(0, 9999, 1)])) (.branch 2 (.leaf (aTop)) (.leaf ([(0, 6, 1)])))) (.branch 76 (.leaf (aTop)) (.branch 77 (.leaf ([(0, 9999, 1)])) (.leaf (aTop))))) (.branch 153 (.branch 83 (.leaf ([(0, 6, 1)])) (.branch 152 (.leaf (aTop)) (.leaf ([(0, 9999, 1)])))) (.branch 154 (.leaf (aTop)) (.branch 159 (.leaf ([(0, 6, 1)])) (.leaf (aTop)))))
set_option maxRecDepth 100000 in
def wT204 : Lean.RArray aI := .leaf (aTop)
set_option maxRecDepth 100000 in
def wT205 : Lean.RArray aI := .leaf (aTop)
set_option maxRecDepth 100000 in
def wT206 : Lean.RArray aI := .leaf (aTop)
set_option maxRecDepth 100000 in
def wT207 : Lean.RArray aI := .branch 8 (.leaf (aTop)) (.leaf (aTop))
set_option maxRecDepth 100000 in
def wT208 : Lean.RArray aI := .leaf (aTop)
set_option maxRecDepth 100000 in
def wT209 : Lean.RArray aI := .leaf (aTop)
set_option maxRecDepth 100000 in
def wT210 : Lean.RArray aI := .leaf (aTop)
set_option maxRecDepth 100000 in
def wT211 : Lean.RArray aI := .branch 7 (.leaf ([(0, 6, 1)])) (.leaf (aTop))
set_option maxRecDepth 100000 in
def wT212 : Lean.RArray aI := .leaf (aTop)
set_option maxRecDepth 100000 in
def wT213 : Lean.RArray aI := .leaf (aTop)
set_option maxRecDepth 100000 in
def wxT : Lean.RArray (Nat × Lean.RArray aI) := .branch 107 (.branch 53 (.branch 26 (.branch 13 (.branch 6 (.branch 3 (.branch 1 (.leaf (0, wT0)) (.branch 2 (.leaf (1, wT1)) (.leaf (2, wT2)))) (.branch 4 (.leaf (3, wT3)) (.branch 5 (.leaf (4, wT4)) (.leaf (5, wT5))))) (.branch 9 (.branch 7 (.leaf (6, wT6)) (.branch 8 (.leaf (7, wT7)) (.leaf (8, wT8)))) (.branch 11 (.branch 10 (.leaf (9, wT9)) (.leaf (10, wT10))) (.branch 12 (.leaf (11, wT11)) (.leaf (12, wT12)))))) (.branch 19 (.branch 16 (.branch 14 (.leaf (13, wT13)) (.branch 15 (.leaf (14, wT14)) (.leaf (15, wT15)))) (.branch 17 (.leaf (16, wT16)) (.branch 18 (.leaf (17, wT17)) (.leaf (18, wT18))))) (.branch 22 (.branch 20 (.leaf (19, wT19)) (.branch 21 (.leaf (20, wT20)) (.leaf (21, wT21)))) (.branch 24 (.branch 23 (.leaf (22, wT22)) (.leaf (23, wT23))) (.branch 25 (.leaf (24, wT24)) (.leaf (25, wT25))))))) (.branch 39 (.branch 32 (.branch 29 (.branch 27 (.leaf (26, wT26)) (.branch 28 (.leaf (27, wT27)) (.leaf (28, wT28)))) (.branch 30 (.leaf (29, wT29)) (.branch 31 (.leaf (30, wT30)) (.leaf (31, wT31))))) (.branch 35 (.branch 33 (.leaf (32, wT32)) (.branch 34 (.leaf (33, wT33)) (.leaf (34, wT34)))) (.branch 37 (.branch 36 (.leaf (35, wT35)) (.leaf (36, wT36))) (.branch 38 (.leaf (37, wT37)) (.leaf (38, wT38)))))) (.branch 46 (.branch 42 (.branch 40 (.leaf (39, wT39)) (.branch 41 (.leaf (40, wT40)) (.leaf (41, wT41)))) (.branch 44 (.branch 43 (.leaf (42, wT42)) (.leaf (43, wT43))) (.branch 45 (.leaf (44, wT44)) (.leaf (45, wT45))))) (.branch 49 (.branch 47 (.leaf (46, wT46)) (.branch 48 (.leaf (47, wT47)) (.leaf (48, wT48)))) (.branch 51 (.branch 50 (.leaf (49, wT49)) (.leaf (50, wT50))) (.branch 52 (.leaf (51, wT51)) (.leaf (52, wT52)))))))) (.branch 80 (.branch 66 (.branch 59 (.branch 56 (.branch 54 (.leaf (53, wT53)) (.branch 55 (.leaf (54, wT54)) (.leaf (55, wT55)))) (.branch 57 (.leaf (56, wT56)) (.branch 58 (.leaf (57, wT57)) (.leaf (58, wT58))))) (.branch 62 (.branch 60 (.leaf (59, wT59)) (.branch 61 (.leaf (60, wT60)) (.leaf (61, wT61)))) (.branch 64 (.branch 63 (.leaf (62, wT62)) (.leaf (63, wT63))) (.branch 65 (.leaf (64, wT64)) (.leaf (65, wT65)))))) (.branch 73 (.branch 69 (.branch 67 (.leaf (66, wT66)) (.branch 68 (.leaf (67, wT67)) (.leaf (68, wT68)))) (.branch 71 (.branch 70 (.leaf (69, wT69)) (.leaf (70, wT70))) (.branch 72 (.leaf (71, wT71)) (.leaf (72, wT72))))) (.branch 76 (.branch 74 (.leaf (73, wT73)) (.branch 75 (.leaf (74, wT74)) (.leaf (75, wT75)))) (.branch 78 (.branch 77 (.leaf (76, wT76)) (.leaf (77, wT77))) (.branch 79 (.leaf (78, wT78)) (.leaf (79, wT79))))))) (.branch 93 (.branch 86 (.branch 83 (.branch 81 (.leaf (80, wT80)) (.branch 82 (.leaf (81, wT81)) (.leaf (82, wT82)))) (.branch 84 (.leaf (83, wT83)) (.branch 85 (.leaf (84, wT84)) (.leaf (85, wT85))))) (.branch 89 (.branch 87 (.leaf (86, wT86)) (.branch 88 (.leaf (87, wT87)) (.leaf (88, wT88)))) (.branch 91 (.branch 90 (.leaf (89, wT89)) (.leaf (90, wT90))) (.branch 92 (.leaf (91, wT91)) (.leaf (92, wT92)))))) (.branch 100 (.branch 96 (.branch 94 (.leaf (93, wT93)) (.branch 95 (.leaf (94, wT94)) (.leaf (95, wT95)))) (.branch 98 (.branch 97 (.leaf (96, wT96)) (.leaf (97, wT97))) (.branch 99 (.leaf (98, wT98)) (.leaf (99, wT99))))) (.branch 103 (.branch 101 (.leaf (100, wT100)) (.branch 102 (.leaf (101, wT101)) (.leaf (102, wT102)))) (.branch 105 (.branch 104 (.leaf (103, wT103)) (.leaf (104, wT104))) (.branch 106 (.leaf (105, wT105)) (.leaf (106, wT106))))))))) (.branch 160 (.branch 133 (.branch 120 (.branch 113 (.branch 110 (.branch 108 (.leaf (107, wT107)) (.branch 109 (.leaf (108, wT108)) (.leaf (109, wT109)))) (.branch 111 (.leaf (110, wT110)) (.branch 112 (.leaf (111, wT111)) (.leaf (112, wT112))))) (.branch 116 (.branch 114 (.leaf (113, wT113)) (.branch 115 (.leaf (114, wT114)) (.leaf (115, wT115)))) (.branch 118 (.branch 117 (.leaf (116, wT116)) (.leaf (117, wT117))) (.branch 119 (.leaf (118, wT118)) (.leaf (119, wT119)))))) (.branch 126 (.branch 123 (.branch 121 (.leaf (120, wT120)) (.branch 122 (.leaf (121, wT121)) (.leaf (122, wT122)))) (.branch 124 (.leaf (123, wT123)) (.branch 125 (.leaf (124, wT124)) (.leaf (125, wT125))))) (.branch 129 (.branch 127 (.leaf (126, wT126)) (.branch 128 (.leaf (127, wT127)) (.leaf (128, wT128)))) (.branch 131 (.branch 130 (.leaf (129, wT129)) (.leaf (130, wT130))) (.branch 132 (.leaf (131, wT131)) (.leaf (132, wT132))))))) (.branch 146 (.branch 139 (.branch 136 (.branch 134 (.leaf (133, wT133)) (.branch 135 (.leaf (134, wT134)) (.leaf (135, wT135)))) (.branch 137 (.leaf (136, wT136)) (.branch 138 (.leaf (137, wT137)) (.leaf (138, wT138))))) (.branch 142 (.branch 140 (.leaf (139, wT139)) (.branch 141 (.leaf (140, wT140)) (.leaf (141, wT141)))) (.branch 144 (.branch 143 (.leaf (142, wT142)) (.leaf (143, wT143))) (.branch 145 (.leaf (144, wT144)) (.leaf (145, wT145)))))) (.branch 153 (.branch 149 (.branch 147 (.leaf (146, wT146)) (.branch 148 (.leaf (147, wT147)) (.leaf (148, wT148)))) (.branch 151 (.branch 150 (.leaf (149, wT149)) (.leaf (150, wT150))) (.branch 152 (.leaf (151, wT151)) (.leaf (152, wT152))))) (.branch 156 (.branch 154 (.leaf (153, wT153)) (.branch 155 (.leaf (154, wT154)) (.leaf (155, wT155)))) (.branch 158 (.branch 157 (.leaf (156, wT156)) (.leaf (157, wT157))) (.branch 159 (.leaf (158, wT158)) (.leaf (159, wT159)))))))) (.branch 187 (.branch 173 (.branch 166 (.branch 163 (.branch 161 (.leaf (160, wT160)) (.branch 162 (.leaf (161, wT161)) (.leaf (162, wT162)))) (.branch 164 (.leaf (163, wT163)) (.branch 165 (.leaf (164, wT164)) (.leaf (165, wT165))))) (.branch 169 (.branch 167 (.leaf (166, wT166)) (.branch 168 (.leaf (167, wT167)) (.leaf (168, wT168)))) (.branch 171 (.branch 170 (.leaf (169, wT169)) (.leaf (170, wT170))) (.branch 172 (.leaf (171, wT171)) (.leaf (172, wT172)))))) (.branch 180 (.branch 176 (.branch 174 (.leaf (173, wT173)) (.branch 175 (.leaf (174, wT174)) (.leaf (175, wT175)))) (.branch 178 (.branch 177 (.leaf (176, wT176)) (.leaf (177, wT177))) (.branch 179 (.leaf (178, wT178)) (.leaf (179, wT179))))) (.branch 183 (.branch 181 (.leaf (180, wT180)) (.branch 182 (.leaf (181, wT181)) (.leaf (182, wT182)))) (.branch 185 (.branch 184 (.leaf (183, wT183)) (.leaf (184, wT184))) (.branch 186 (.leaf (185, wT185)) (.leaf (186, wT186))))))) (.branch 200 (.branch 193 (.branch 190 (.branch 188 (.leaf (187, wT187)) (.branch 189 (.leaf (188, wT188)) (.leaf (189, wT189)))) (.branch 191 (.leaf (190, wT190)) (.branch 192 (.leaf (191, wT191)) (.leaf (192, wT192))))) (.branch 196 (.branch 194 (.leaf (193, wT193)) (.branch 195 (.leaf (194, wT194)) (.leaf (195, wT195)))) (.branch 198 (.branch 197 (.leaf (196, wT196)) (.leaf (197, wT197))) (.branch 199 (.leaf (198, wT198)) (.leaf (199, wT199)))))) (.branch 207 (.branch 203 (.branch 201 (.leaf (200, wT200)) (.branch 202 (.leaf (201, wT201)) (.leaf (202, wT202)))) (.branch 205 (.branch 204 (.leaf (203, wT203)) (.leaf (204, wT204))) (.branch 206 (.leaf (205, wT205)) (.leaf (206, wT206))))) (.branch 210 (.branch 208 (.leaf (207, wT207)) (.branch 209 (.leaf (208, wT208)) (.leaf (209, wT209)))) (.branch 212 (.branch 211 (.leaf (210, wT210)) (.leaf (211, wT211))) (.branch 213 (.leaf (212, wT212)) (.leaf (213, wT213)))))))))
set_option maxRecDepth 100000 in
def wxR : Lean.RArray (Nat × List (Option Nat)) := .branch 107 (.branch 53 (.branch 26 (.branch 13 (.branch 6 (.branch 3 (.branch 1 (.leaf (0, [some 1, none, none, none, none, some 82, some 86, some 92, some 94, some 96, some 100, some 104, none, none, some 105])) (.branch 2 (.leaf (1, [])) (.leaf (2, [none, none, none, none, none, none, none, none, none, some 3, some 4, some 5, some 6, some 7, some 8])))) (.branch 4 (.leaf (3, [])) (.branch 5 (.leaf (4, [])) (.leaf (5, [some 9, some 10, some 11, some 12, some 13, some 14, some 15, some 16, some 17, some 18, some 19, some 20]))))) (.branch 9 (.branch 7 (.leaf (6, [some 21, some 22, some 23, some 24, some 25])) (.branch 8 (.leaf (7, [some 26, some 27, some 28, some 29, some 30, some 31, some 32, some 33])) (.leaf (8, [some 34, some 35, some 36, some 37, some 38, some 39, some 40, some 41])))) (.branch 11 (.branch 10 (.leaf (9, [])) (.leaf (10, []))) (.branch 12 (.leaf (11, [])) (.leaf (12, [])))))) (.branch 19 (.branch 16 (.branch 14 (.leaf (13, [])) (.branch 15 (.leaf (14, [])) (.leaf (15, [])))) (.branch 17 (.leaf (16, [])) (.branch 18 (.leaf (17, [])) (.leaf (18, []))))) (.branch 22 (.branch 20 (.leaf (19, [])) (.branch 21 (.leaf (20, [])) (.leaf (21, [])))) (.branch 24 (.branch 23 (.leaf (22, [])) (.leaf (23, []))) (.branch 25 (.leaf (24, [])) (.leaf (25, []))))))) (.branch 39 (.branch 32 (.branch 29 (.branch 27 (.leaf (26, [])) (.branch 28 (.leaf (27, [])) (.leaf (28, [])))) (.branch 30 (.leaf (29, [])) (.branch 31 (.leaf (30, [])) (.leaf (31, []))))) (.branch 35 (.branch 33 (.leaf (32, [])) (.branch 34 (.leaf (33, [])) (.leaf (34, [])))) (.branch 37 (.branch 36 (.leaf (35, [])) (.leaf (36, []))) (.branch 38 (.leaf (37, [])) (.leaf (38, [])))))) (.branch 46 (.branch 42 (.branch 40 (.leaf (39, [])) (.branch 41 (.leaf (40, [])) (.leaf (41, [])))) (.branch 44 (.branch 43 (.leaf (42, [none, none, none, none, none, none, none, none, none, some 43, some 44, some 45, some 46, some 47, some 48])) (.leaf (43, []))) (.branch 45 (.leaf (44, [])) (.leaf (45, [some 49, some 50, some 51, some 52, some 53, some 54, some 55, some 56, some 57, some 58, some 59, some 60]))))) (.branch 49 (.branch 47 (.leaf (46, [some 61, some 62, some 63, some 64, some 65])) (.branch 48 (.leaf (47, [some 66, some 67, some 68, some 69, some 70, some 71, some 72, some 73])) (.leaf (48, [some 74, some 75, some 76, some 77, some 78, some 79, some 80, some 81])))) (.branch 51 (.branch 50 (.leaf (49, [])) (.leaf (50, []))) (.branch 52 (.leaf (51, [])) (.leaf (52, [])))))))) (.branch 80 (.branch 66 (.branch 59 (.branch 56 (.branch 54 (.leaf (53, [])) (.branch 55 (.leaf (54, [])) (.leaf (55, [])))) (.branch 57 (.leaf (56, [])) (.branch 58 (.leaf (57, [])) (.leaf (58, []))))) (.branch 62 (.branch 60 (.leaf (59, [])) (.branch 61 (.leaf (60, [])) (.leaf (61, [])))) (.branch 64 (.branch 63 (.leaf (62, [])) (.leaf (63, []))) (.branch 65 (.leaf (64, [])) (.leaf (65, [])))))) (.branch 73 (.branch 69 (.branch 67 (.leaf (66, [])) (.branch 68 (.leaf (67, [])) (.leaf (68, [])))) (.branch 71 (.branch 70 (.leaf (69, [])) (.leaf (70, []))) (.branch 72 (.leaf (71, [])) (.leaf (72, []))))) (.branch 76 (.branch 74 (.leaf (73, [])) (.branch 75 (.leaf (74, [])) (.leaf (75, [])))) (.branch 78 (.branch 77 (.leaf (76, [])) (.leaf (77, []))) (.branch 79 (.leaf (78, [])) (.leaf (79, []))))))) (.branch 93 (.branch 86 (.branch 83 (.branch 81 (.leaf (80, [])) (.branch 82 (.leaf (81, [])) (.leaf (82, [some 1, none, none, none, none, none, none, some 83, some 84, some 85])))) (.branch 84 (.leaf (83, [])) (.branch 85 (.leaf (84, [])) (.leaf (85, []))))) (.branch 89 (.branch 87 (.leaf (86, [none, none, some 87, some 88, some 89, some 90, some 91])) (.branch 88 (.leaf (87, [])) (.leaf (88, [])))) (.branch 91 (.branch 90 (.leaf (89, [])) (.leaf (90, []))) (.branch 92 (.leaf (91, [])) (.leaf (92, [none, none, none, none, none, some 93])))))) (.branch 100 (.branch 96 (.branch 94 (.leaf (93, [])) (.branch 95 (.leaf (94, [none, some 86, some 92, some 95])) (.leaf (95, [])))) (.branch 98 (.branch 97 (.leaf (96, [none, some 97, some 98, some 99])) (.leaf (97, []))) (.branch 99 (.leaf (98, [])) (.leaf (99, []))))) (.branch 103 (.branch 101 (.leaf (100, [some 101, some 102, none, none, some 103])) (.branch 102 (.leaf (101, [])) (.leaf (102, [])))) (.branch 105 (.branch 104 (.leaf (103, [])) (.leaf (104, [some 106, some 112, some 118, some 124, some 130, some 136, some 142, some 148, some 154, some 160, some 166, some 172]))) (.branch 106 (.leaf (105, [some 178, some 184, some 190])) (.leaf (106, [none, none, some 107, some 108, some 109, some 110, some 111]))))))))) (.branch 160 (.branch 133 (.branch 120 (.branch 113 (.branch 110 (.branch 108 (.leaf (107, [])) (.branch 109 (.leaf (108, [])) (.leaf (109, [])))) (.branch 111 (.leaf (110, [])) (.branch 112 (.leaf (111, [])) (.leaf (112, [none, none, some 113, some 114, some 115, some 116, some 117]))))) (.branch 116 (.branch 114 (.leaf (113, [])) (.branch 115 (.leaf (114, [])) (.leaf (115, [])))) (.branch 118 (.branch 117 (.leaf (116, [])) (.leaf (117, []))) (.branch 119 (.leaf (118, [none, none, some 119, some 120, some 121, some 122, some 123])) (.leaf (119, [])))))) (.branch 126 (.branch 123 (.branch 121 (.leaf (120, [])) (.branch 122 (.leaf (121, [])) (.leaf (122, [])))) (.branch 124 (.leaf (123, [])) (.branch 125 (.leaf (124, [none, none, some 125, some 126, some 127, some 128, some 129])) (.leaf (125, []))))) (.branch 129 (.branch 127 (.leaf (126, [])) (.branch 128 (.leaf (127, [])) (.leaf (128, [])))) (.branch 131 (.branch 130 (.leaf (129, [])) (.leaf (130, [none, none, some 131, some 132, some 133, some 134, some 135]))) (.branch 132 (.leaf (131, [])) (.leaf (132, []))))))) (.branch 146 (.branch 139 (.branch 136 (.branch 134 (.leaf (133, [])) (.branch 135 (.leaf (134, [])) (.leaf (135, [])))) (.branch 137 (.leaf (136, [none, none, some 137, some 138, some 139, some 140, some 141])) (.branch 138 (.leaf (137, [])) (.leaf (138, []))))) (.branch 142 (.branch 140 (.leaf (139, [])) (.branch 141 (.leaf (140, [])) (.leaf (141, [])))) (.branch 144 (.branch 143 (.leaf (142, [none, none, some 143, some 144, some 145, some 146, some 147])) (.leaf (143, []))) (.branch 145 (.leaf (144, [])) (.leaf (145, [])))))) (.branch 153 (.branch 149 (.branch 147 (.leaf (146, [])) (.branch 148 (.leaf (147, [])) (.leaf (148, [none, none, some 149, some 150, some 151, some 152, some 153])))) (.branch 151 (.branch 150 (.leaf (149, [])) (.leaf (150, []))) (.branch 152 (.leaf (151, [])) (.leaf (152, []))))) (.branch 156 (.branch 154 (.leaf (153, [])) (.branch 155 (.leaf (154, [none, none, some 155, some 156, some 157, some 158, some 159])) (.leaf (155, [])))) (.branch 158 (.branch 157 (.leaf (156, [])) (.leaf (157, []))) (.branch 159 (.leaf (158, [])) (.leaf (159, [])))))))) (.branch 187 (.branch 173 (.branch 166 (.branch 163 (.branch 161 (.leaf (160, [none, none, some 161, some 162, some 163, some 164, some 165])) (.branch 162 (.leaf (161, [])) (.leaf (162, [])))) (.branch 164 (.leaf (163, [])) (.branch 165 (.leaf (164, [])) (.leaf (165, []))))) (.branch 169 (.branch 167 (.leaf (166, [none, none, some 167, some 168, some 169, some 170, some 171])) (.branch 168 (.leaf (167, [])) (.leaf (168, [])))) (.branch 171 (.branch 170 (.leaf (169, [])) (.leaf (170, []))) (.branch 172 (.leaf (171, [])) (.leaf (172, [none, none, some 173, some 174, some 175, some 176, some 177])))))) (.branch 180 (.branch 176 (.branch 174 (.leaf (173, [])) (.branch 175 (.leaf (174, [])) (.leaf (175, [])))) (.branch 178 (.branch 177 (.leaf (176, [])) (.leaf (177, []))) (.branch 179 (.leaf (178, [none, none, some 179, some 180, some 181, some 182, some 183])) (.leaf (179, []))))) (.branch 183 (.branch 181 (.leaf (180, [])) (.branch 182 (.leaf (181, [])) (.leaf (182, [])))) (.branch 185 (.branch 184 (.leaf (183, [])) (.leaf (184, [none, none, some 185, some 186, some 187, some 188, some 189]))) (.branch 186 (.leaf (185, [])) (.leaf (186, []))))))) (.branch 200 (.branch 193 (.branch 190 (.branch 188 (.leaf (187, [])) (.branch 189 (.leaf (188, [])) (.leaf (189, [])))) (.branch 191 (.leaf (190, [none, none, some 191, some 192, some 193, some 194, some 195])) (.branch 192 (.leaf (191, [])) (.leaf (192, []))))) (.branch 196 (.branch 194 (.leaf (193, [])) (.branch 195 (.leaf (194, [])) (.leaf (195, [])))) (.branch 198 (.branch 197 (.leaf (196, [none, some 197, none, none, none, none, none, none, none, none, none, none, some 198, none, none, some 199, some 200, some 201, some 202, some 203, none, none, some 204, none, some 205, some 206, none, none, some 207, some 208, some 209, none, none, none, none, some 210, some 211, some 212])) (.leaf (197, []))) (.branch 199 (.leaf (198, [])) (.leaf (199, [])))))) (.branch 207 (.branch 203 (.branch 201 (.leaf (200, [])) (.branch 202 (.leaf (201, [])) (.leaf (202, [])))) (.branch 205 (.branch 204 (.leaf (203, [])) (.leaf (204, []))) (.branch 206 (.leaf (205, [])) (.leaf (206, []))))) (.branch 210 (.branch 208 (.leaf (207, [])) (.branch 209 (.leaf (208, [])) (.leaf (209, [])))) (.branch 212 (.branch 211 (.leaf (210, [])) (.leaf (211, []))) (.branch 213 (.leaf (212, [])) (.leaf (213, [])))))))))
def wI0 : aM := ([((2, 6), [(1, 5, 1)])], ((21, 0), [(0, 3, 1)]))
def wI1 : aM := ([((2, 6), [(2, 5, 1)])], ((22, 0), [(0, 3, 1)]))
def wI2 : aM := ([((2, 6), [(3, 5, 1)])], ((23, 0), [(0, 3, 1)]))
def wI3 : aM := ([((2, 6), [(4, 5, 1)])], ((24, 0), [(0, 3, 1)]))
def wI4 : aM := ([((2, 6), [(5, 5, 1)])], ((25, 0), [(0, 3, 1)]))
def wI5 : aM := ([((42, 6), [(1, 5, 1)])], ((61, 0), [(0, 3, 1)]))
def wI6 : aM := ([((42, 6), [(2, 5, 1)])], ((62, 0), [(0, 3, 1)]))
def wI7 : aM := ([((42, 6), [(3, 5, 1)])], ((63, 0), [(0, 3, 1)]))
def wI8 : aM := ([((42, 6), [(4, 5, 1)])], ((64, 0), [(0, 3, 1)]))
def wI9 : aM := ([((42, 6), [(5, 5, 1)])], ((65, 0), [(0, 3, 1)]))
def wI10 : aM := ([((82, 10), [(1, 20, 1)]), ((84, 0), [(1, 1, 1)])], ((85, 0), [(0, 6, 1)]))
def wI11 : aM := ([((82, 10), [(1, 20, 1)]), ((84, 0), [(3, 3, 1)])], ((85, 0), [(0, 4, 1)]))
def wI12 : aM := ([((82, 10), [(2, 20, 1)]), ((84, 1), [(1, 1, 1)])], ((85, 1), [(0, 6, 1)]))
def wI13 : aM := ([((82, 10), [(2, 20, 1)]), ((84, 1), [(3, 3, 1)])], ((85, 1), [(0, 4, 1)]))
def wI14 : aM := ([((82, 10), [(3, 20, 1)]), ((84, 2), [(1, 1, 1)])], ((85, 2), [(0, 6, 1)]))
def wI15 : aM := ([((82, 10), [(3, 20, 1)]), ((84, 2), [(3, 3, 1)])], ((85, 2), [(0, 4, 1)]))
def wI16 : aM := ([((82, 10), [(4, 20, 1)]), ((84, 3), [(1, 1, 1)])], ((85, 3), [(0, 6, 1)]))
def wI17 : aM := ([((82, 10), [(4, 20, 1)]), ((84, 3), [(3, 3, 1)])], ((85, 3), [(0, 4, 1)]))
def wI18 : aM := ([((82, 10), [(5, 20, 1)]), ((84, 4), [(1, 1, 1)])], ((85, 4), [(0, 6, 1)]))
def wI19 : aM := ([((82, 10), [(5, 20, 1)]), ((84, 4), [(3, 3, 1)])], ((85, 4), [(0, 4, 1)]))
def wI20 : aM := ([((82, 10), [(6, 20, 1)]), ((84, 5), [(1, 1, 1)])], ((85, 5), [(0, 6, 1)]))
def wI21 : aM := ([((82, 10), [(6, 20, 1)]), ((84, 5), [(3, 3, 1)])], ((85, 5), [(0, 4, 1)]))
def wI22 : aM := ([((82, 10), [(7, 20, 1)]), ((84, 6), [(1, 1, 1)])], ((85, 6), [(0, 6, 1)]))
def wI23 : aM := ([((82, 10), [(7, 20, 1)]), ((84, 6), [(3, 3, 1)])], ((85, 6), [(0, 4, 1)]))
def wI24 : aM := ([((82, 10), [(8, 20, 1)]), ((84, 7), [(1, 1, 1)])], ((85, 7), [(0, 6, 1)]))
def wI25 : aM := ([((82, 10), [(8, 20, 1)]), ((84, 7), [(3, 3, 1)])], ((85, 7), [(0, 4, 1)]))
def wI26 : aM := ([((82, 10), [(9, 20, 1)]), ((84, 8), [(1, 1, 1)])], ((85, 8), [(0, 6, 1)]))
def wI27 : aM := ([((82, 10), [(9, 20, 1)]), ((84, 8), [(3, 3, 1)])], ((85, 8), [(0, 4, 1)]))
def wI28 : aM := ([((82, 10), [(10, 20, 1)]), ((84, 9), [(1, 1, 1)])], ((85, 9), [(0, 6, 1)]))
def wI29 : aM := ([((82, 10), [(10, 20, 1)]), ((84, 9), [(3, 3, 1)])], ((85, 9), [(0, 4, 1)]))
def wI30 : aM := ([((82, 10), [(11, 20, 1)]), ((84, 10), [(1, 1, 1)])], ((85, 10), [(0, 6, 1)]))
def wI31 : aM := ([((82, 10), [(11, 20, 1)]), ((84, 10), [(3, 3, 1)])], ((85, 10), [(0, 4, 1)]))
def wI32 : aM := ([((82, 10), [(12, 20, 1)]), ((84, 11), [(1, 1, 1)])], ((85, 11), [(0, 6, 1)]))
def wI33 : aM := ([((82, 10), [(12, 20, 1)]), ((84, 11), [(3, 3, 1)])], ((85, 11), [(0, 4, 1)]))
def wI34 : aM := ([((82, 10), [(13, 20, 1)]), ((84, 12), [(1, 1, 1)])], ((85, 12), [(0, 6, 1)]))
def wI35 : aM := ([((82, 10), [(13, 20, 1)]), ((84, 12), [(3, 3, 1)])], ((85, 12), [(0, 4, 1)]))
def wI36 : aM := ([((82, 10), [(14, 20, 1)]), ((84, 13), [(1, 1, 1)])], ((85, 13), [(0, 6, 1)]))
def wI37 : aM := ([((82, 10), [(14, 20, 1)]), ((84, 13), [(3, 3, 1)])], ((85, 13), [(0, 4, 1)]))
def wI38 : aM := ([((82, 10), [(15, 20, 1)]), ((84, 14), [(1, 1, 1)])], ((85, 14), [(0, 6, 1)]))
def wI39 : aM := ([((82, 10), [(15, 20, 1)]), ((84, 14), [(3, 3, 1)])], ((85, 14), [(0, 4, 1)]))
def wI40 : aM := ([((82, 10), [(16, 20, 1)]), ((84, 15), [(1, 1, 1)])], ((85, 15), [(0, 6, 1)]))
def wI41 : aM := ([((82, 10), [(16, 20, 1)]), ((84, 15), [(3, 3, 1)])], ((85, 15), [(0, 4, 1)]))
def wI42 : aM := ([((82, 10), [(17, 20, 1)]), ((84, 16), [(1, 1, 1)])], ((85, 16), [(0, 6, 1)]))
def wI43 : aM := ([((82, 10), [(17, 20, 1)]), ((84, 16), [(3, 3, 1)])], ((85, 16), [(0, 4, 1)]))
def wI44 : aM := ([((82, 10), [(18, 20, 1)]), ((84, 17), [(1, 1, 1)])], ((85, 17), [(0, 6, 1)]))
def wI45 : aM := ([((82, 10), [(18, 20, 1)]), ((84, 17), [(3, 3, 1)])], ((85, 17), [(0, 4, 1)]))
def wI46 : aM := ([((82, 10), [(19, 20, 1)]), ((84, 18), [(1, 1, 1)])], ((85, 18), [(0, 6, 1)]))
def wI47 : aM := ([((82, 10), [(19, 20, 1)]), ((84, 18), [(3, 3, 1)])], ((85, 18), [(0, 4, 1)]))
def wI48 : aM := ([((82, 10), [(20, 20, 1)]), ((84, 19), [(1, 1, 1)])], ((85, 19), [(0, 6, 1)]))
def wI49 : aM := ([((82, 10), [(20, 20, 1)]), ((84, 19), [(3, 3, 1)])], ((85, 19), [(0, 4, 1)]))
def wI50 : aM := ([((196, 14), [(1, 1, 1)])], ((199, 0), [(2, 4, 1)]))
def wI51 : aM := ([((196, 14), [(1, 1, 1)])], ((199, 4), [(1, 7, 1)]))
def wI52 : aM := ([((196, 13), [(0, 0, 1)])], ((196, 9), [(0, 0, 1)]))
def wI53 : aM := ([((199, 5), [(1, 12, 1)])], ((199, 62), [(1, 15, 1)]))
def wI54 : aM := ([((199, 5), [(2, 12, 1)])], ((199, 66), [(1, 15, 1)]))
def wI55 : aM := ([((199, 5), [(3, 12, 1)])], ((199, 70), [(1, 15, 1)]))
def wI56 : aM := ([((199, 5), [(4, 12, 1)])], ((199, 74), [(1, 15, 1)]))
def wI57 : aM := ([((199, 5), [(5, 12, 1)])], ((199, 78), [(1, 15, 1)]))
def wI58 : aM := ([((199, 5), [(6, 12, 1)])], ((199, 82), [(1, 15, 1)]))
def wI59 : aM := ([((199, 5), [(7, 12, 1)])], ((199, 86), [(1, 15, 1)]))
def wI60 : aM := ([((199, 5), [(8, 12, 1)])], ((199, 90), [(1, 15, 1)]))
def wI61 : aM := ([((199, 5), [(9, 12, 1)])], ((199, 94), [(1, 15, 1)]))
def wI62 : aM := ([((199, 5), [(10, 12, 1)])], ((199, 98), [(1, 15, 1)]))
def wI63 : aM := ([((199, 5), [(11, 12, 1)])], ((199, 102), [(1, 15, 1)]))
def wI64 : aM := ([((199, 5), [(12, 12, 1)])], ((199, 106), [(1, 15, 1)]))
def wI65 : aM := ([((200, 5), [(1, 12, 1)])], ((200, 62), [(1, 15, 1)]))
def wI66 : aM := ([((200, 5), [(2, 12, 1)])], ((200, 66), [(1, 15, 1)]))
def wI67 : aM := ([((200, 5), [(3, 12, 1)])], ((200, 70), [(1, 15, 1)]))
def wI68 : aM := ([((200, 5), [(4, 12, 1)])], ((200, 74), [(1, 15, 1)]))
def wI69 : aM := ([((200, 5), [(5, 12, 1)])], ((200, 78), [(1, 15, 1)]))
def wI70 : aM := ([((200, 5), [(6, 12, 1)])], ((200, 82), [(1, 15, 1)]))
def wI71 : aM := ([((200, 5), [(7, 12, 1)])], ((200, 86), [(1, 15, 1)]))
def wI72 : aM := ([((200, 5), [(8, 12, 1)])], ((200, 90), [(1, 15, 1)]))
def wI73 : aM := ([((200, 5), [(9, 12, 1)])], ((200, 94), [(1, 15, 1)]))
def wI74 : aM := ([((200, 5), [(10, 12, 1)])], ((200, 98), [(1, 15, 1)]))
def wI75 : aM := ([((200, 5), [(11, 12, 1)])], ((200, 102), [(1, 15, 1)]))
def wI76 : aM := ([((200, 5), [(12, 12, 1)])], ((200, 106), [(1, 15, 1)]))
def wI77 : aM := ([((199, 4), [(1, 7, 1)])], ((199, 10), [(2, 6, 1)]))
def wI78 : aM := ([((199, 4), [(2, 7, 1)])], ((199, 17), [(2, 6, 1)]))
def wI79 : aM := ([((199, 4), [(3, 7, 1)])], ((199, 24), [(2, 6, 1)]))
def wI80 : aM := ([((199, 4), [(4, 7, 1)])], ((199, 31), [(2, 6, 1)]))
def wI81 : aM := ([((199, 4), [(5, 7, 1)])], ((199, 38), [(2, 6, 1)]))
def wI82 : aM := ([((199, 4), [(6, 7, 1)])], ((199, 45), [(2, 6, 1)]))
def wI83 : aM := ([((199, 4), [(7, 7, 1)])], ((199, 52), [(2, 6, 1)]))
def wI84 : aM := ([((199, 0), [(2, 4, 1)]), ((199, 7), [(1, 8, 1)]), ((199, 4), [(0, 1, 1)])], ((199, 128), [(0, 0, 1)]))
def wI85 : aM := ([((199, 0), [(2, 4, 1)]), ((199, 7), [(1, 8, 1)]), ((199, 4), [(0, 2, 1)])], ((199, 128), [(0, 1, 1)]))
def wI86 : aM := ([((199, 0), [(2, 4, 1)]), ((199, 7), [(1, 8, 1)]), ((199, 4), [(0, 3, 1)])], ((199, 128), [(0, 2, 1)]))
def wI87 : aM := ([((199, 0), [(2, 4, 1)]), ((199, 7), [(1, 8, 1)]), ((199, 4), [(0, 4, 1)])], ((199, 128), [(0, 3, 1)]))
def wI88 : aM := ([((199, 0), [(2, 4, 1)]), ((199, 7), [(1, 8, 1)]), ((199, 4), [(0, 5, 1)])], ((199, 128), [(0, 4, 1)]))
def wI89 : aM := ([((199, 0), [(2, 4, 1)]), ((199, 7), [(1, 8, 1)]), ((199, 4), [(0, 6, 1)])], ((199, 128), [(0, 5, 1)]))
def wI90 : aM := ([((199, 0), [(2, 4, 1)]), ((199, 7), [(2, 8, 1)]), ((199, 4), [(0, 1, 1)])], ((199, 132), [(0, 0, 1)]))
def wI91 : aM := ([((199, 0), [(2, 4, 1)]), ((199, 7), [(2, 8, 1)]), ((199, 4), [(0, 2, 1)])], ((199, 132), [(0, 1, 1)]))
def wI92 : aM := ([((199, 0), [(2, 4, 1)]), ((199, 7), [(2, 8, 1)]), ((199, 4), [(0, 3, 1)])], ((199, 132), [(0, 2, 1)]))
def wI93 : aM := ([((199, 0), [(2, 4, 1)]), ((199, 7), [(2, 8, 1)]), ((199, 4), [(0, 4, 1)])], ((199, 132), [(0, 3, 1)]))
def wI94 : aM := ([((199, 0), [(2, 4, 1)]), ((199, 7), [(2, 8, 1)]), ((199, 4), [(0, 5, 1)])], ((199, 132), [(0, 4, 1)]))
def wI95 : aM := ([((199, 0), [(2, 4, 1)]), ((199, 7), [(2, 8, 1)]), ((199, 4), [(0, 6, 1)])], ((199, 132), [(0, 5, 1)]))
def wI96 : aM := ([((199, 0), [(2, 4, 1)]), ((199, 7), [(3, 8, 1)]), ((199, 4), [(0, 1, 1)])], ((199, 136), [(0, 0, 1)]))
def wI97 : aM := ([((199, 0), [(2, 4, 1)]), ((199, 7), [(3, 8, 1)]), ((199, 4), [(0, 2, 1)])], ((199, 136), [(0, 1, 1)]))
def wI98 : aM := ([((199, 0), [(2, 4, 1)]), ((199, 7), [(3, 8, 1)]), ((199, 4), [(0, 3, 1)])], ((199, 136), [(0, 2, 1)]))
def wI99 : aM := ([((199, 0), [(2, 4, 1)]), ((199, 7), [(3, 8, 1)]), ((199, 4), [(0, 4, 1)])], ((199, 136), [(0, 3, 1)]))
def wI100 : aM := ([((199, 0), [(2, 4, 1)]), ((199, 7), [(3, 8, 1)]), ((199, 4), [(0, 5, 1)])], ((199, 136), [(0, 4, 1)]))
def wI101 : aM := ([((199, 0), [(2, 4, 1)]), ((199, 7), [(3, 8, 1)]), ((199, 4), [(0, 6, 1)])], ((199, 136), [(0, 5, 1)]))
def wI102 : aM := ([((199, 0), [(2, 4, 1)]), ((199, 7), [(4, 8, 1)]), ((199, 4), [(0, 1, 1)])], ((199, 140), [(0, 0, 1)]))
def wI103 : aM := ([((199, 0), [(2, 4, 1)]), ((199, 7), [(4, 8, 1)]), ((199, 4), [(0, 2, 1)])], ((199, 140), [(0, 1, 1)]))
def wI104 : aM := ([((199, 0), [(2, 4, 1)]), ((199, 7), [(4, 8, 1)]), ((199, 4), [(0, 3, 1)])], ((199, 140), [(0, 2, 1)]))
def wI105 : aM := ([((199, 0), [(2, 4, 1)]), ((199, 7), [(4, 8, 1)]), ((199, 4), [(0, 4, 1)])], ((199, 140), [(0, 3, 1)]))
def wI106 : aM := ([((199, 0), [(2, 4, 1)]), ((199, 7), [(4, 8, 1)]), ((199, 4), [(0, 5, 1)])], ((199, 140), [(0, 4, 1)]))
def wI107 : aM := ([((199, 0), [(2, 4, 1)]), ((199, 7), [(4, 8, 1)]), ((199, 4), [(0, 6, 1)])], ((199, 140), [(0, 5, 1)]))
def wI108 : aM := ([((199, 0), [(2, 4, 1)]), ((199, 7), [(5, 8, 1)]), ((199, 4), [(0, 1, 1)])], ((199, 144), [(0, 0, 1)]))
def wI109 : aM := ([((199, 0), [(2, 4, 1)]), ((199, 7), [(5, 8, 1)]), ((199, 4), [(0, 2, 1)])], ((199, 144), [(0, 1, 1)]))
def wI110 : aM := ([((199, 0), [(2, 4, 1)]), ((199, 7), [(5, 8, 1)]), ((199, 4), [(0, 3, 1)])], ((199, 144), [(0, 2, 1)]))
def wI111 : aM := ([((199, 0), [(2, 4, 1)]), ((199, 7), [(5, 8, 1)]), ((199, 4), [(0, 4, 1)])], ((199, 144), [(0, 3, 1)]))
def wI112 : aM := ([((199, 0), [(2, 4, 1)]), ((199, 7), [(5, 8, 1)]), ((199, 4), [(0, 5, 1)])], ((199, 144), [(0, 4, 1)]))
def wI113 : aM := ([((199, 0), [(2, 4, 1)]), ((199, 7), [(5, 8, 1)]), ((199, 4), [(0, 6, 1)])], ((199, 144), [(0, 5, 1)]))
def wI114 : aM := ([((199, 0), [(2, 4, 1)]), ((199, 7), [(6, 8, 1)]), ((199, 4), [(0, 1, 1)])], ((199, 148), [(0, 0, 1)]))
def wI115 : aM := ([((199, 0), [(2, 4, 1)]), ((199, 7), [(6, 8, 1)]), ((199, 4), [(0, 2, 1)])], ((199, 148), [(0, 1, 1)]))
def wI116 : aM := ([((199, 0), [(2, 4, 1)]), ((199, 7), [(6, 8, 1)]), ((199, 4), [(0, 3, 1)])], ((199, 148), [(0, 2, 1)]))
def wI117 : aM := ([((199, 0), [(2, 4, 1)]), ((199, 7), [(6, 8, 1)]), ((199, 4), [(0, 4, 1)])], ((199, 148), [(0, 3, 1)]))
def wI118 : aM := ([((199, 0), [(2, 4, 1)]), ((199, 7), [(6, 8, 1)]), ((199, 4), [(0, 5, 1)])], ((199, 148), [(0, 4, 1)]))
def wI119 : aM := ([((199, 0), [(2, 4, 1)]), ((199, 7), [(6, 8, 1)]), ((199, 4), [(0, 6, 1)])], ((199, 148), [(0, 5, 1)]))
def wI120 : aM := ([((199, 0), [(2, 4, 1)]), ((199, 7), [(7, 8, 1)]), ((199, 4), [(0, 1, 1)])], ((199, 152), [(0, 0, 1)]))
def wI121 : aM := ([((199, 0), [(2, 4, 1)]), ((199, 7), [(7, 8, 1)]), ((199, 4), [(0, 2, 1)])], ((199, 152), [(0, 1, 1)]))
def wI122 : aM := ([((199, 0), [(2, 4, 1)]), ((199, 7), [(7, 8, 1)]), ((199, 4), [(0, 3, 1)])], ((199, 152), [(0, 2, 1)]))
def wI123 : aM := ([((199, 0), [(2, 4, 1)]), ((199, 7), [(7, 8, 1)]), ((199, 4), [(0, 4, 1)])], ((199, 152), [(0, 3, 1)]))
def wI124 : aM := ([((199, 0), [(2, 4, 1)]), ((199, 7), [(7, 8, 1)]), ((199, 4), [(0, 5, 1)])], ((199, 152), [(0, 4, 1)]))
def wI125 : aM := ([((199, 0), [(2, 4, 1)]), ((199, 7), [(7, 8, 1)]), ((199, 4), [(0, 6, 1)])], ((199, 152), [(0, 5, 1)]))
def wI126 : aM := ([((199, 0), [(2, 4, 1)]), ((199, 7), [(8, 8, 1)]), ((199, 4), [(0, 1, 1)])], ((199, 156), [(0, 0, 1)]))
def wI127 : aM := ([((199, 0), [(2, 4, 1)]), ((199, 7), [(8, 8, 1)]), ((199, 4), [(0, 2, 1)])], ((199, 156), [(0, 1, 1)]))
def wI128 : aM := ([((199, 0), [(2, 4, 1)]), ((199, 7), [(8, 8, 1)]), ((199, 4), [(0, 3, 1)])], ((199, 156), [(0, 2, 1)]))
def wI129 : aM := ([((199, 0), [(2, 4, 1)]), ((199, 7), [(8, 8, 1)]), ((199, 4), [(0, 4, 1)])], ((199, 156), [(0, 3, 1)]))
def wI130 : aM := ([((199, 0), [(2, 4, 1)]), ((199, 7), [(8, 8, 1)]), ((199, 4), [(0, 5, 1)])], ((199, 156), [(0, 4, 1)]))
def wI131 : aM := ([((199, 0), [(2, 4, 1)]), ((199, 7), [(8, 8, 1)]), ((199, 4), [(0, 6, 1)])], ((199, 156), [(0, 5, 1)]))
def wI132 : aM := ([((199, 9), [(0, 0, 1)])], ((199, 7), [(0, 0, 1)]))
def wI133 : aM := ([((200, 4), [(1, 7, 1)])], ((200, 10), [(2, 6, 1)]))
def wI134 : aM := ([((200, 4), [(2, 7, 1)])], ((200, 17), [(2, 6, 1)]))
def wI135 : aM := ([((200, 4), [(3, 7, 1)])], ((200, 24), [(2, 6, 1)]))
def wI136 : aM := ([((200, 4), [(4, 7, 1)])], ((200, 31), [(2, 6, 1)]))
def wI137 : aM := ([((200, 4), [(5, 7, 1)])], ((200, 38), [(2, 6, 1)]))
def wI138 : aM := ([((200, 4), [(6, 7, 1)])], ((200, 45), [(2, 6, 1)]))
def wI139 : aM := ([((200, 4), [(7, 7, 1)])], ((200, 52), [(2, 6, 1)]))
def wI140 : aM := ([((200, 0), [(2, 4, 1)]), ((200, 7), [(1, 8, 1)]), ((200, 4), [(0, 1, 1)])], ((200, 128), [(0, 0, 1)]))
def wI141 : aM := ([((200, 0), [(2, 4, 1)]), ((200, 7), [(1, 8, 1)]), ((200, 4), [(0, 2, 1)])], ((200, 128), [(0, 1, 1)]))
def wI142 : aM := ([((200, 0), [(2, 4, 1)]), ((200, 7), [(1, 8, 1)]), ((200, 4), [(0, 3, 1)])], ((200, 128), [(0, 2, 1)]))
def wI143 : aM := ([((200, 0), [(2, 4, 1)]), ((200, 7), [(1, 8, 1)]), ((200, 4), [(0, 4, 1)])], ((200, 128), [(0, 3, 1)]))
def wI144 : aM := ([((200, 0), [(2, 4, 1)]), ((200, 7), [(1, 8, 1)]), ((200, 4), [(0, 5, 1)])], ((200, 128), [(0, 4, 1)]))
def wI145 : aM := ([((200, 0), [(2, 4, 1)]), ((200, 7), [(1, 8, 1)]), ((200, 4), [(0, 6, 1)])], ((200, 128), [(0, 5, 1)]))
def wI146 : aM := ([((200, 0), [(2, 4, 1)]), ((200, 7), [(2, 8, 1)]), ((200, 4), [(0, 1, 1)])], ((200, 132), [(0, 0, 1)]))
def wI147 : aM := ([((200, 0), [(2, 4, 1)]), ((200, 7), [(2, 8, 1)]), ((200, 4), [(0, 2, 1)])], ((200, 132), [(0, 1, 1)]))
def wI148 : aM := ([((200, 0), [(2, 4, 1)]), ((200, 7), [(2, 8, 1)]), ((200, 4), [(0, 3, 1)])], ((200, 132), [(0, 2, 1)]))
def wI149 : aM := ([((200, 0), [(2, 4, 1)]), ((200, 7), [(2, 8, 1)]), ((200, 4), [(0, 4, 1)])], ((200, 132), [(0, 3, 1)]))
def wI150 : aM := ([((200, 0), [(2, 4, 1)]), ((200, 7), [(2, 8, 1)]), ((200, 4), [(0, 5, 1)])], ((200, 132), [(0, 4, 1)]))
def wI151 : aM := ([((200, 0), [(2, 4, 1)]), ((200, 7), [(2, 8, 1)]), ((200, 4), [(0, 6, 1)])], ((200, 132), [(0, 5, 1)]))
def wI152 : aM := ([((200, 0), [(2, 4, 1)]), ((200, 7), [(3, 8, 1)]), ((200, 4), [(0, 1, 1)])], ((200, 136), [(0, 0, 1)]))
def wI153 : aM := ([((200, 0), [(2, 4, 1)]), ((200, 7), [(3, 8, 1)]), ((200, 4), [(0, 2, 1)])], ((200, 136), [(0, 1, 1)]))
def wI154 : aM := ([((200, 0), [(2, 4, 1)]), ((200, 7), [(3, 8, 1)]), ((200, 4), [(0, 3, 1)])], ((200, 136), [(0, 2, 1)]))
def wI155 : aM := ([((200, 0), [(2, 4, 1)]), ((200, 7), [(3, 8, 1)]), ((200, 4), [(0, 4, 1)])], ((200, 136), [(0, 3, 1)]))
def wI156 : aM := ([((200, 0), [(2, 4, 1)]), ((200, 7), [(3, 8, 1)]), ((200, 4), [(0, 5, 1)])], ((200, 136), [(0, 4, 1)]))
def wI157 : aM := ([((200, 0), [(2, 4, 1)]), ((200, 7), [(3, 8, 1)]), ((200, 4), [(0, 6, 1)])], ((200, 136), [(0, 5, 1)]))
def wI158 : aM := ([((200, 0), [(2, 4, 1)]), ((200, 7), [(4, 8, 1)]), ((200, 4), [(0, 1, 1)])], ((200, 140), [(0, 0, 1)]))
def wI159 : aM := ([((200, 0), [(2, 4, 1)]), ((200, 7), [(4, 8, 1)]), ((200, 4), [(0, 2, 1)])], ((200, 140), [(0, 1, 1)]))
def wI160 : aM := ([((200, 0), [(2, 4, 1)]), ((200, 7), [(4, 8, 1)]), ((200, 4), [(0, 3, 1)])], ((200, 140), [(0, 2, 1)]))
def wI161 : aM := ([((200, 0), [(2, 4, 1)]), ((200, 7), [(4, 8, 1)]), ((200, 4), [(0, 4, 1)])], ((200, 140), [(0, 3, 1)]))
def wI162 : aM := ([((200, 0), [(2, 4, 1)]), ((200, 7), [(4, 8, 1)]), ((200, 4), [(0, 5, 1)])], ((200, 140), [(0, 4, 1)]))
def wI163 : aM := ([((200, 0), [(2, 4, 1)]), ((200, 7), [(4, 8, 1)]), ((200, 4), [(0, 6, 1)])], ((200, 140), [(0, 5, 1)]))
def wI164 : aM := ([((200, 0), [(2, 4, 1)]), ((200, 7), [(5, 8, 1)]), ((200, 4), [(0, 1, 1)])], ((200, 144), [(0, 0, 1)]))
def wI165 : aM := ([((200, 0), [(2, 4, 1)]), ((200, 7), [(5, 8, 1)]), ((200, 4), [(0, 2, 1)])], ((200, 144), [(0, 1, 1)]))
def wI166 : aM := ([((200, 0), [(2, 4, 1)]), ((200, 7), [(5, 8, 1)]), ((200, 4), [(0, 3, 1)])], ((200, 144), [(0, 2, 1)]))
def wI167 : aM := ([((200, 0), [(2, 4, 1)]), ((200, 7), [(5, 8, 1)]), ((200, 4), [(0, 4, 1)])], ((200, 144), [(0, 3, 1)]))
def wI168 : aM := ([((200, 0), [(2, 4, 1)]), ((200, 7), [(5, 8, 1)]), ((200, 4), [(0, 5, 1)])], ((200, 144), [(0, 4, 1)]))
def wI169 : aM := ([((200, 0), [(2, 4, 1)]), ((200, 7), [(5, 8, 1)]), ((200, 4), [(0, 6, 1)])], ((200, 144), [(0, 5, 1)]))
def wI170 : aM := ([((200, 0), [(2, 4, 1)]), ((200, 7), [(6, 8, 1)]), ((200, 4), [(0, 1, 1)])], ((200, 148), [(0, 0, 1)]))
def wI171 : aM := ([((200, 0), [(2, 4, 1)]), ((200, 7), [(6, 8, 1)]), ((200, 4), [(0, 2, 1)])], ((200, 148), [(0, 1, 1)]))
def wI172 : aM := ([((200, 0), [(2, 4, 1)]), ((200, 7), [(6, 8, 1)]), ((200, 4), [(0, 3, 1)])], ((200, 148), [(0, 2, 1)]))
def wI173 : aM := ([((200, 0), [(2, 4, 1)]), ((200, 7), [(6, 8, 1)]), ((200, 4), [(0, 4, 1)])], ((200, 148), [(0, 3, 1)]))
def wI174 : aM := ([((200, 0), [(2, 4, 1)]), ((200, 7), [(6, 8, 1)]), ((200, 4), [(0, 5, 1)])], ((200, 148), [(0, 4, 1)]))
def wI175 : aM := ([((200, 0), [(2, 4, 1)]), ((200, 7), [(6, 8, 1)]), ((200, 4), [(0, 6, 1)])], ((200, 148), [(0, 5, 1)]))
def wI176 : aM := ([((200, 0), [(2, 4, 1)]), ((200, 7), [(7, 8, 1)]), ((200, 4), [(0, 1, 1)])], ((200, 152), [(0, 0, 1)]))
def wI177 : aM := ([((200, 0), [(2, 4, 1)]), ((200, 7), [(7, 8, 1)]), ((200, 4), [(0, 2, 1)])], ((200, 152), [(0, 1, 1)]))
def wI178 : aM := ([((200, 0), [(2, 4, 1)]), ((200, 7), [(7, 8, 1)]), ((200, 4), [(0, 3, 1)])], ((200, 152), [(0, 2, 1)]))
def wI179 : aM := ([((200, 0), [(2, 4, 1)]), ((200, 7), [(7, 8, 1)]), ((200, 4), [(0, 4, 1)])], ((200, 152), [(0, 3, 1)]))
def wI180 : aM := ([((200, 0), [(2, 4, 1)]), ((200, 7), [(7, 8, 1)]), ((200, 4), [(0, 5, 1)])], ((200, 152), [(0, 4, 1)]))
def wI181 : aM := ([((200, 0), [(2, 4, 1)]), ((200, 7), [(7, 8, 1)]), ((200, 4), [(0, 6, 1)])], ((200, 152), [(0, 5, 1)]))
def wI182 : aM := ([((200, 0), [(2, 4, 1)]), ((200, 7), [(8, 8, 1)]), ((200, 4), [(0, 1, 1)])], ((200, 156), [(0, 0, 1)]))
def wI183 : aM := ([((200, 0), [(2, 4, 1)]), ((200, 7), [(8, 8, 1)]), ((200, 4), [(0, 2, 1)])], ((200, 156), [(0, 1, 1)]))
def wI184 : aM := ([((200, 0), [(2, 4, 1)]), ((200, 7), [(8, 8, 1)]), ((200, 4), [(0, 3, 1)])], ((200, 156), [(0, 2, 1)]))
def wI185 : aM := ([((200, 0), [(2, 4, 1)]), ((200, 7), [(8, 8, 1)]), ((200, 4), [(0, 4, 1)])], ((200, 156), [(0, 3, 1)]))
def wI186 : aM := ([((200, 0), [(2, 4, 1)]), ((200, 7), [(8, 8, 1)]), ((200, 4), [(0, 5, 1)])], ((200, 156), [(0, 4, 1)]))
def wI187 : aM := ([((200, 0), [(2, 4, 1)]), ((200, 7), [(8, 8, 1)]), ((200, 4), [(0, 6, 1)])], ((200, 156), [(0, 5, 1)]))
def wI188 : aM := ([((200, 9), [(0, 0, 1)])], ((200, 7), [(0, 0, 1)]))
set_option maxRecDepth 100000 in
def wxI : Lean.RArray ((Nat × Nat) × List aM) := .branch 815178 (.branch 348172 (.branch 348161 (.branch 249856 (.branch 94208 (.branch 90112 (.leaf ((21, 0), [wI0])) (.leaf ((22, 0), [wI1]))) (.branch 98304 (.leaf ((23, 0), [wI2])) (.branch 102400 (.leaf ((24, 0), [wI3])) (.leaf ((25, 0), [wI4]))))) (.branch 262144 (.branch 253952 (.leaf ((61, 0), [wI5])) (.branch 258048 (.leaf ((62, 0), [wI6])) (.leaf ((63, 0), [wI7])))) (.branch 266240 (.leaf ((64, 0), [wI8])) (.branch 348160 (.leaf ((65, 0), [wI9])) (.leaf ((85, 0), [wI10, wI11])))))) (.branch 348166 (.branch 348163 (.branch 348162 (.leaf ((85, 1), [wI12, wI13])) (.leaf ((85, 2), [wI14, wI15]))) (.branch 348164 (.leaf ((85, 3), [wI16, wI17])) (.branch 348165 (.leaf ((85, 4), [wI18, wI19])) (.leaf ((85, 5), [wI20, wI21]))))) (.branch 348169 (.branch 348167 (.leaf ((85, 6), [wI22, wI23])) (.branch 348168 (.leaf ((85, 7), [wI24, wI25])) (.leaf ((85, 8), [wI26, wI27])))) (.branch 348170 (.leaf ((85, 9), [wI28, wI29])) (.branch 348171 (.leaf ((85, 10), [wI30, wI31])) (.leaf ((85, 11), [wI32, wI33]))))))) (.branch 815111 (.branch 348177 (.branch 348174 (.branch 348173 (.leaf ((85, 12), [wI34, wI35])) (.leaf ((85, 13), [wI36, wI37]))) (.branch 348175 (.leaf ((85, 14), [wI38, wI39])) (.branch 348176 (.leaf ((85, 15), [wI40, wI41])) (.leaf ((85, 16), [wI42, wI43]))))) (.branch 802825 (.branch 348178 (.leaf ((85, 17), [wI44, wI45])) (.branch 348179 (.leaf ((85, 18), [wI46, wI47])) (.leaf ((85, 19), [wI48, wI49])))) (.branch 815104 (.leaf ((196, 9), [wI52])) (.branch 815108 (.leaf ((199, 0), [wI50])) (.leaf ((199, 4), [wI51])))))) (.branch 815142 (.branch 815121 (.branch 815114 (.leaf ((199, 7), [wI132])) (.leaf ((199, 10), [wI77]))) (.branch 815128 (.leaf ((199, 17), [wI78])) (.branch 815135 (.leaf ((199, 24), [wI79])) (.leaf ((199, 31), [wI80]))))) (.branch 815166 (.branch 815149 (.leaf ((199, 38), [wI81])) (.branch 815156 (.leaf ((199, 45), [wI82])) (.leaf ((199, 52), [wI83])))) (.branch 815170 (.leaf ((199, 62), [wI53])) (.branch 815174 (.leaf ((199, 66), [wI54])) (.leaf ((199, 70), [wI55])))))))) (.branch 819238 (.branch 815240 (.branch 815198 (.branch 815186 (.branch 815182 (.leaf ((199, 74), [wI56])) (.leaf ((199, 78), [wI57]))) (.branch 815190 (.leaf ((199, 82), [wI58])) (.branch 815194 (.leaf ((199, 86), [wI59])) (.leaf ((199, 90), [wI60]))))) (.branch 815210 (.branch 815202 (.leaf ((199, 94), [wI61])) (.branch 815206 (.leaf ((199, 98), [wI62])) (.leaf ((199, 102), [wI63])))) (.branch 815232 (.leaf ((199, 106), [wI64])) (.branch 815236 (.leaf ((199, 128), [wI84, wI85, wI86, wI87, wI88, wI89])) (.leaf ((199, 132), [wI90, wI91, wI92, wI93, wI94, wI95])))))) (.branch 815260 (.branch 815248 (.branch 815244 (.leaf ((199, 136), [wI96, wI97, wI98, wI99, wI100, wI101])) (.leaf ((199, 140), [wI102, wI103, wI104, wI105, wI106, wI107]))) (.branch 815252 (.leaf ((199, 144), [wI108, wI109, wI110, wI111, wI112, wI113])) (.branch 815256 (.leaf ((199, 148), [wI114, wI115, wI116, wI117, wI118, wI119])) (.leaf ((199, 152), [wI120, wI121, wI122, wI123, wI124, wI125]))))) (.branch 819217 (.branch 819207 (.leaf ((199, 156), [wI126, wI127, wI128, wI129, wI130, wI131])) (.branch 819210 (.leaf ((200, 7), [wI188])) (.leaf ((200, 10), [wI133])))) (.branch 819224 (.leaf ((200, 17), [wI134])) (.branch 819231 (.leaf ((200, 24), [wI135])) (.leaf ((200, 31), [wI136]))))))) (.branch 819294 (.branch 819270 (.branch 819252 (.branch 819245 (.leaf ((200, 38), [wI137])) (.leaf ((200, 45), [wI138]))) (.branch 819262 (.leaf ((200, 52), [wI139])) (.branch 819266 (.leaf ((200, 62), [wI65])) (.leaf ((200, 66), [wI66]))))) (.branch 819282 (.branch 819274 (.leaf ((200, 70), [wI67])) (.branch 819278 (.leaf ((200, 74), [wI68])) (.leaf ((200, 78), [wI69])))) (.branch 819286 (.leaf ((200, 82), [wI70])) (.branch 819290 (.leaf ((200, 86), [wI71])) (.leaf ((200, 90), [wI72])))))) (.branch 819336 (.branch 819306 (.branch 819298 (.leaf ((200, 94), [wI73])) (.branch 819302 (.leaf ((200, 98), [wI74])) (.leaf ((200, 102), [wI75])))) (.branch 819328 (.leaf ((200, 106), [wI76])) (.branch 819332 (.leaf ((200, 128), [wI140, wI141, wI142, wI143, wI144, wI145])) (.leaf ((200, 132), [wI146, wI147, wI148, wI149, wI150, wI151]))))) (.branch 819348 (.branch 819340 (.leaf ((200, 136), [wI152, wI153, wI154, wI155, wI156, wI157])) (.branch 819344 (.leaf ((200, 140), [wI158, wI159, wI160, wI161, wI162, wI163])) (.leaf ((200, 144), [wI164, wI165, wI166, wI167, wI168, wI169])))) (.branch 819352 (.leaf ((200, 148), [wI170, wI171, wI172, wI173, wI174, wI175])) (.branch 819356 (.leaf ((200, 152), [wI176, wI177, wI178, wI179, wI180, wI181])) (.leaf ((200, 156), [wI182, wI183, wI184, wI185, wI186, wI187]))))))))
set_option maxRecDepth 100000 in
def wxJ : Lean.RArray ((Nat × Nat) × List aM) := .branch 815113 (.branch 344081 (.branch 344066 (.branch 249856 (.branch 94208 (.branch 86016 (.leaf ((2, 6), [wI0, wI1, wI2, wI3, wI4])) (.branch 90112 (.leaf ((21, 0), [wI0])) (.leaf ((22, 0), [wI1])))) (.branch 102400 (.branch 98304 (.leaf ((23, 0), [wI2])) (.leaf ((24, 0), [wI3]))) (.branch 172038 (.leaf ((25, 0), [wI4])) (.leaf ((42, 6), [wI5, wI6, wI7, wI8, wI9]))))) (.branch 266240 (.branch 258048 (.branch 253952 (.leaf ((61, 0), [wI5])) (.leaf ((62, 0), [wI6]))) (.branch 262144 (.leaf ((63, 0), [wI7])) (.leaf ((64, 0), [wI8])))) (.branch 344064 (.branch 335882 (.leaf ((65, 0), [wI9])) (.leaf ((82, 10), [wI10, wI11, wI12, wI13, wI14, wI15, wI16, wI17, wI18, wI19, wI20, wI21, wI22, wI23, wI24, wI25, wI26, wI27, wI28, wI29, wI30, wI31, wI32, wI33, wI34, wI35, wI36, wI37, wI38, wI39, wI40, wI41, wI42, wI43, wI44, wI45, wI46, wI47, wI48, wI49]))) (.branch 344065 (.leaf ((84, 0), [wI10, wI11])) (.leaf ((84, 1), [wI12, wI13])))))) (.branch 344073 (.branch 344069 (.branch 344067 (.leaf ((84, 2), [wI14, wI15])) (.branch 344068 (.leaf ((84, 3), [wI16, wI17])) (.leaf ((84, 4), [wI18, wI19])))) (.branch 344071 (.branch 344070 (.leaf ((84, 5), [wI20, wI21])) (.leaf ((84, 6), [wI22, wI23]))) (.branch 344072 (.leaf ((84, 7), [wI24, wI25])) (.leaf ((84, 8), [wI26, wI27]))))) (.branch 344077 (.branch 344075 (.branch 344074 (.leaf ((84, 9), [wI28, wI29])) (.leaf ((84, 10), [wI30, wI31]))) (.branch 344076 (.leaf ((84, 11), [wI32, wI33])) (.leaf ((84, 12), [wI34, wI35])))) (.branch 344079 (.branch 344078 (.leaf ((84, 13), [wI36, wI37])) (.leaf ((84, 14), [wI38, wI39]))) (.branch 344080 (.leaf ((84, 15), [wI40, wI41])) (.leaf ((84, 16), [wI42, wI43]))))))) (.branch 348172 (.branch 348164 (.branch 348160 (.branch 344082 (.leaf ((84, 17), [wI44, wI45])) (.branch 344083 (.leaf ((84, 18), [wI46, wI47])) (.leaf ((84, 19), [wI48, wI49])))) (.branch 348162 (.branch 348161 (.leaf ((85, 0), [wI10, wI11])) (.leaf ((85, 1), [wI12, wI13]))) (.branch 348163 (.leaf ((85, 2), [wI14, wI15])) (.leaf ((85, 3), [wI16, wI17]))))) (.branch 348168 (.branch 348166 (.branch 348165 (.leaf ((85, 4), [wI18, wI19])) (.leaf ((85, 5), [wI20, wI21]))) (.branch 348167 (.leaf ((85, 6), [wI22, wI23])) (.leaf ((85, 7), [wI24, wI25])))) (.branch 348170 (.branch 348169 (.leaf ((85, 8), [wI26, wI27])) (.leaf ((85, 9), [wI28, wI29]))) (.branch 348171 (.leaf ((85, 10), [wI30, wI31])) (.leaf ((85, 11), [wI32, wI33])))))) (.branch 348179 (.branch 348175 (.branch 348173 (.leaf ((85, 12), [wI34, wI35])) (.branch 348174 (.leaf ((85, 13), [wI36, wI37])) (.leaf ((85, 14), [wI38, wI39])))) (.branch 348177 (.branch 348176 (.leaf ((85, 15), [wI40, wI41])) (.leaf ((85, 16), [wI42, wI43]))) (.branch 348178 (.leaf ((85, 17), [wI44, wI45])) (.leaf ((85, 18), [wI46, wI47]))))) (.branch 815104 (.branch 802829 (.branch 802825 (.leaf ((85, 19), [wI48, wI49])) (.leaf ((196, 9), [wI52]))) (.branch 802830 (.leaf ((196, 13), [wI52])) (.leaf ((196, 14), [wI50, wI51])))) (.branch 815109 (.branch 815108 (.leaf ((199, 0), [wI50, wI84, wI85, wI86, wI87, wI88, wI89, wI90, wI91, wI92, wI93, wI94, wI95, wI96, wI97, wI98, wI99, wI100, wI101, wI102, wI103, wI104, wI105, wI106, wI107, wI108, wI109, wI110, wI111, wI112, wI113, wI114, wI115, wI116, wI117, wI118, wI119, wI120, wI121, wI122, wI123, wI124, wI125, wI126, wI127, wI128, wI129, wI130, wI131])) (.leaf ((199, 4), [wI51, wI77, wI78, wI79, wI80, wI81, wI82, wI83, wI84, wI85, wI86, wI87, wI88, wI89, wI90, wI91, wI92, wI93, wI94, wI95, wI96, wI97, wI98, wI99, wI100, wI101, wI102, wI103, wI104, wI105, wI106, wI107, wI108, wI109, wI110, wI111, wI112, wI113, wI114, wI115, wI116, wI117, wI118, wI119, wI120, wI121, wI122, wI123, wI124, wI125, wI126, wI127, wI128, wI129, wI130, wI131]))) (.branch 815111 (.leaf ((199, 5), [wI53, wI54, wI55, wI56, wI57, wI58, wI59, wI60, wI61, wI62, wI63, wI64])) (.leaf ((199, 7), [wI84, wI85, wI86, wI87, wI88, wI89, wI90, wI91, wI92, wI93, wI94, wI95, wI96, wI97, wI98, wI99, wI100, wI101, wI102, wI103, wI104, wI105, wI106, wI107, wI108, wI109, wI110, wI111, wI112, wI113, wI114, wI115, wI116, wI117, wI118, wI119, wI120, wI121, wI122, wI123, wI124, wI125, wI126, wI127, wI128, wI129, wI130, wI131, wI132])))))))) (.branch 819205 (.branch 815194 (.branch 815156 (.branch 815128 (.branch 815114 (.leaf ((199, 9), [wI132])) (.branch 815121 (.leaf ((199, 10), [wI77])) (.leaf ((199, 17), [wI78])))) (.branch 815142 (.branch 815135 (.leaf ((199, 24), [wI79])) (.leaf ((199, 31), [wI80]))) (.branch 815149 (.leaf ((199, 38), [wI81])) (.leaf ((199, 45), [wI82]))))) (.branch 815178 (.branch 815170 (.branch 815166 (.leaf ((199, 52), [wI83])) (.leaf ((199, 62), [wI53]))) (.branch 815174 (.leaf ((199, 66), [wI54])) (.leaf ((199, 70), [wI55])))) (.branch 815186 (.branch 815182 (.leaf ((199, 74), [wI56])) (.leaf ((199, 78), [wI57]))) (.branch 815190 (.leaf ((199, 82), [wI58])) (.leaf ((199, 86), [wI59])))))) (.branch 815240 (.branch 815206 (.branch 815198 (.leaf ((199, 90), [wI60])) (.branch 815202 (.leaf ((199, 94), [wI61])) (.leaf ((199, 98), [wI62])))) (.branch 815232 (.branch 815210 (.leaf ((199, 102), [wI63])) (.leaf ((199, 106), [wI64]))) (.branch 815236 (.leaf ((199, 128), [wI84, wI85, wI86, wI87, wI88, wI89])) (.leaf ((199, 132), [wI90, wI91, wI92, wI93, wI94, wI95]))))) (.branch 815256 (.branch 815248 (.branch 815244 (.leaf ((199, 136), [wI96, wI97, wI98, wI99, wI100, wI101])) (.leaf ((199, 140), [wI102, wI103, wI104, wI105, wI106, wI107]))) (.branch 815252 (.leaf ((199, 144), [wI108, wI109, wI110, wI111, wI112, wI113])) (.leaf ((199, 148), [wI114, wI115, wI116, wI117, wI118, wI119])))) (.branch 819200 (.branch 815260 (.leaf ((199, 152), [wI120, wI121, wI122, wI123, wI124, wI125])) (.leaf ((199, 156), [wI126, wI127, wI128, wI129, wI130, wI131]))) (.branch 819204 (.leaf ((200, 0), [wI140, wI141, wI142, wI143, wI144, wI145, wI146, wI147, wI148, wI149, wI150, wI151, wI152, wI153, wI154, wI155, wI156, wI157, wI158, wI159, wI160, wI161, wI162, wI163, wI164, wI165, wI166, wI167, wI168, wI169, wI170, wI171, wI172, wI173, wI174, wI175, wI176, wI177, wI178, wI179, wI180, wI181, wI182, wI183, wI184, wI185, wI186, wI187])) (.leaf ((200, 4), [wI133, wI134, wI135, wI136, wI137, wI138, wI139, wI140, wI141, wI142, wI143, wI144, wI145, wI146, wI147, wI148, wI149, wI150, wI151, wI152, wI153, wI154, wI155, wI156, wI157, wI158, wI159, wI160, wI161, wI162, wI163, wI164, wI165, wI166, wI167, wI168, wI169, wI170, wI171, wI172, wI173, wI174, wI175, wI176, wI177, wI178, wI179, wI180, wI181, wI182, wI183, wI184, wI185, wI186, wI187]))))))) (.branch 819282 (.branch 819238 (.branch 819210 (.branch 819207 (.leaf ((200, 5), [wI65, wI66, wI67, wI68, wI69, wI70, wI71, wI72, wI73, wI74, wI75, wI76])) (.branch 819209 (.leaf ((200, 7), [wI140, wI141, wI142, wI143, wI144, wI145, wI146, wI147, wI148, wI149, wI150, wI151, wI152, wI153, wI154, wI155, wI156, wI157, wI158, wI159, wI160, wI161, wI162, wI163, wI164, wI165, wI166, wI167, wI168, wI169, wI170, wI171, wI172, wI173, wI174, wI175, wI176, wI177, wI178, wI179, wI180, wI181, wI182, wI183, wI184, wI185, wI186, wI187, wI188])) (.leaf ((200, 9), [wI188])))) (.branch 819224 (.branch 819217 (.leaf ((200, 10), [wI133])) (.leaf ((200, 17), [wI134]))) (.branch 819231 (.leaf ((200, 24), [wI135])) (.leaf ((200, 31), [wI136]))))) (.branch 819266 (.branch 819252 (.branch 819245 (.leaf ((200, 38), [wI137])) (.leaf ((200, 45), [wI138]))) (.branch 819262 (.leaf ((200, 52), [wI139])) (.leaf ((200, 62), [wI65])))) (.branch 819274 (.branch 819270 (.leaf ((200, 66), [wI66])) (.leaf ((200, 70), [wI67]))) (.branch 819278 (.leaf ((200, 74), [wI68])) (.leaf ((200, 78), [wI69])))))) (.branch 819328 (.branch 819294 (.branch 819286 (.leaf ((200, 82), [wI70])) (.branch 819290 (.leaf ((200, 86), [wI71])) (.leaf ((200, 90), [wI72])))) (.branch 819302 (.branch 819298 (.leaf ((200, 94), [wI73])) (.leaf ((200, 98), [wI74]))) (.branch 819306 (.leaf ((200, 102), [wI75])) (.leaf ((200, 106), [wI76]))))) (.branch 819344 (.branch 819336 (.branch 819332 (.leaf ((200, 128), [wI140, wI141, wI142, wI143, wI144, wI145])) (.leaf ((200, 132), [wI146, wI147, wI148, wI149, wI150, wI151]))) (.branch 819340 (.leaf ((200, 136), [wI152, wI153, wI154, wI155, wI156, wI157])) (.leaf ((200, 140), [wI158, wI159, wI160, wI161, wI162, wI163])))) (.branch 819352 (.branch 819348 (.leaf ((200, 144), [wI164, wI165, wI166, wI167, wI168, wI169])) (.leaf ((200, 148), [wI170, wI171, wI172, wI173, wI174, wI175]))) (.branch 819356 (.leaf ((200, 152), [wI176, wI177, wI178, wI179, wI180, wI181])) (.leaf ((200, 156), [wI182, wI183, wI184, wI185, wI186, wI187]))))))))
noncomputable def wx : bWd := (bOat wxS, fun a => bLat wxG a, fun a k => bSat wxT a k, fun a k => bRat wxR a k, fun a k => bKlk wxI a k, fun a k => bKlk wxJ a k)
set_option maxRecDepth 100000 in
theorem wx_ok : bWok wd wx := bWok_of (sh := wSh) (G := wG) (R := wR) (I := wI) (by decide +kernel) (by decide +kernel) (by decide +kernel) (by decide +kernel) (by decide +kernel) (by decide +kernel) (by decide +kernel) (by decide +kernel) (by decide +kernel) (by decide +kernel) (by decide +kernel) (by decide +kernel)
