/-! the cells of the class that stay: what they are, and where their fields lead -/
def CK : List (Nat × Nat × Nat) := [(64, 12, 19), (65, 7, 20), (66, 9, 8), (67, 101, 3000), (68, 100, 3001), (69, 100, 3001), (70, 104, 3001), (71, 104, 28), (72, 100, 4096), (73, 100, 4096), (74, 100, 4096), (75, 102, 4096), (76, 104, 10), (77, 113, 6), (78, 100, 1500), (79, 100, 1500), (80, 100, 1500), (81, 100, 1500), (82, 100, 1500), (83, 100, 1500), (84, 114, 2), (85, 104, 1500), (86, 104, 1500), (87, 0, 3), (88, 4, 22), (89, 5, 5), (90, 112, 8), (91, 111, 2), (92, 100, 2520), (93, 113, 12), (94, 100, 4), (95, 100, 4), (96, 100, 4), (97, 100, 4), (98, 100, 4), (99, 100, 4), (100, 100, 4), (101, 100, 4), (102, 100, 4), (103, 100, 4), (104, 100, 4), (105, 100, 4), (106, 100, 9600), (107, 100, 16), (108, 10, 9), (109, 100, 32), (110, 100, 200), (111, 100, 50), (112, 10, 9), (113, 100, 32), (114, 100, 200), (115, 100, 50), (116, 10, 9), (117, 100, 32), (118, 100, 200), (119, 100, 50), (120, 10, 9), (121, 100, 32), (122, 100, 200), (123, 100, 50), (124, 10, 9), (125, 100, 32), (126, 100, 200), (127, 100, 50), (128, 10, 9), (129, 100, 32), (130, 100, 200), (131, 100, 50), (132, 10, 9), (133, 100, 32), (134, 100, 200), (135, 100, 50), (136, 10, 9), (137, 100, 32), (138, 100, 200), (139, 100, 50), (140, 0, 3), (141, 0, 3), (142, 5, 5), (143, 3, 7), (144, 100, 1000), (145, 100, 1000), (146, 100, 6), (147, 100, 6), (148, 100, 16), (149, 100, 16), (150, 113, 4), (151, 100, 16), (152, 100, 16), (153, 100, 16), (154, 100, 16), (155, 113, 4), (156, 100, 16), (157, 100, 16), (158, 100, 16), (159, 100, 16)]
def CFd : List (Nat × Nat × Nat) := [(64, 0, 65), (64, 1, 87), (64, 2, 88), (64, 4, 140), (64, 5, 141), (64, 6, 142), (64, 8, 143), (64, 11, 146), (64, 12, 147), (64, 14, 148), (64, 15, 149), (64, 17, 150), (64, 18, 155), (65, 0, 66), (65, 5, 72), (65, 6, 73), (65, 7, 74), (65, 8, 75), (65, 15, 76), (65, 17, 77), (65, 18, 84), (66, 0, 67), (66, 2, 68), (66, 3, 69), (66, 4, 70), (66, 5, 71), (77, 0, 78), (77, 1, 79), (77, 2, 80), (77, 3, 81), (77, 4, 82), (77, 5, 83), (84, 0, 85), (84, 1, 86), (88, 0, 89), (88, 7, 90), (88, 8, 91), (88, 11, 92), (88, 13, 93), (88, 16, 106), (88, 17, 107), (90, 0, 108), (90, 1, 112), (90, 2, 116), (90, 3, 120), (90, 4, 124), (90, 5, 128), (90, 6, 132), (90, 7, 136), (93, 0, 94), (93, 1, 95), (93, 2, 96), (93, 3, 97), (93, 4, 98), (93, 5, 99), (93, 6, 100), (93, 7, 101), (93, 8, 102), (93, 9, 103), (93, 10, 104), (93, 11, 105), (108, 3, 109), (108, 5, 110), (108, 6, 111), (112, 3, 113), (112, 5, 114), (112, 6, 115), (116, 3, 117), (116, 5, 118), (116, 6, 119), (120, 3, 121), (120, 5, 122), (120, 6, 123), (124, 3, 125), (124, 5, 126), (124, 6, 127), (128, 3, 129), (128, 5, 130), (128, 6, 131), (132, 3, 133), (132, 5, 134), (132, 6, 135), (136, 3, 137), (136, 5, 138), (136, 6, 139), (143, 3, 144), (143, 4, 145), (150, 0, 151), (150, 1, 152), (150, 2, 153), (150, 3, 154), (155, 0, 156), (155, 1, 157), (155, 2, 158), (155, 3, 159)]
def CT (M : Mem) : Prop := (∀ q, q ∈ CK → M.2.2.2[q.1]? = some q.2) ∧ ∀ q, q ∈ CFd → M.2.2.1 q.1 q.2.1 = some q.2.2
theorem ck_64 {M : Mem} (h : CT M) : M.2.2.2[64]? = some (12, 19) := h.1 (64, 12, 19) (by decide +kernel)
theorem ck_65 {M : Mem} (h : CT M) : M.2.2.2[65]? = some (7, 20) := h.1 (65, 7, 20) (by decide +kernel)
theorem ck_66 {M : Mem} (h : CT M) : M.2.2.2[66]? = some (9, 8) := h.1 (66, 9, 8) (by decide +kernel)
theorem ck_67 {M : Mem} (h : CT M) : M.2.2.2[67]? = some (101, 3000) := h.1 (67, 101, 3000) (by decide +kernel)
theorem ck_68 {M : Mem} (h : CT M) : M.2.2.2[68]? = some (100, 3001) := h.1 (68, 100, 3001) (by decide +kernel)
theorem ck_69 {M : Mem} (h : CT M) : M.2.2.2[69]? = some (100, 3001) := h.1 (69, 100, 3001) (by decide +kernel)
theorem ck_70 {M : Mem} (h : CT M) : M.2.2.2[70]? = some (104, 3001) := h.1 (70, 104, 3001) (by decide +kernel)
theorem ck_71 {M : Mem} (h : CT M) : M.2.2.2[71]? = some (104, 28) := h.1 (71, 104, 28) (by decide +kernel)
theorem ck_72 {M : Mem} (h : CT M) : M.2.2.2[72]? = some (100, 4096) := h.1 (72, 100, 4096) (by decide +kernel)
theorem ck_73 {M : Mem} (h : CT M) : M.2.2.2[73]? = some (100, 4096) := h.1 (73, 100, 4096) (by decide +kernel)
theorem ck_74 {M : Mem} (h : CT M) : M.2.2.2[74]? = some (100, 4096) := h.1 (74, 100, 4096) (by decide +kernel)
theorem ck_75 {M : Mem} (h : CT M) : M.2.2.2[75]? = some (102, 4096) := h.1 (75, 102, 4096) (by decide +kernel)
theorem ck_76 {M : Mem} (h : CT M) : M.2.2.2[76]? = some (104, 10) := h.1 (76, 104, 10) (by decide +kernel)
theorem ck_77 {M : Mem} (h : CT M) : M.2.2.2[77]? = some (113, 6) := h.1 (77, 113, 6) (by decide +kernel)
theorem ck_78 {M : Mem} (h : CT M) : M.2.2.2[78]? = some (100, 1500) := h.1 (78, 100, 1500) (by decide +kernel)
theorem ck_79 {M : Mem} (h : CT M) : M.2.2.2[79]? = some (100, 1500) := h.1 (79, 100, 1500) (by decide +kernel)
theorem ck_80 {M : Mem} (h : CT M) : M.2.2.2[80]? = some (100, 1500) := h.1 (80, 100, 1500) (by decide +kernel)
theorem ck_81 {M : Mem} (h : CT M) : M.2.2.2[81]? = some (100, 1500) := h.1 (81, 100, 1500) (by decide +kernel)
theorem ck_82 {M : Mem} (h : CT M) : M.2.2.2[82]? = some (100, 1500) := h.1 (82, 100, 1500) (by decide +kernel)
theorem ck_83 {M : Mem} (h : CT M) : M.2.2.2[83]? = some (100, 1500) := h.1 (83, 100, 1500) (by decide +kernel)
theorem ck_84 {M : Mem} (h : CT M) : M.2.2.2[84]? = some (114, 2) := h.1 (84, 114, 2) (by decide +kernel)
theorem ck_85 {M : Mem} (h : CT M) : M.2.2.2[85]? = some (104, 1500) := h.1 (85, 104, 1500) (by decide +kernel)
theorem ck_86 {M : Mem} (h : CT M) : M.2.2.2[86]? = some (104, 1500) := h.1 (86, 104, 1500) (by decide +kernel)
theorem ck_87 {M : Mem} (h : CT M) : M.2.2.2[87]? = some (0, 3) := h.1 (87, 0, 3) (by decide +kernel)
theorem ck_88 {M : Mem} (h : CT M) : M.2.2.2[88]? = some (4, 22) := h.1 (88, 4, 22) (by decide +kernel)
theorem ck_89 {M : Mem} (h : CT M) : M.2.2.2[89]? = some (5, 5) := h.1 (89, 5, 5) (by decide +kernel)
theorem ck_90 {M : Mem} (h : CT M) : M.2.2.2[90]? = some (112, 8) := h.1 (90, 112, 8) (by decide +kernel)
theorem ck_91 {M : Mem} (h : CT M) : M.2.2.2[91]? = some (111, 2) := h.1 (91, 111, 2) (by decide +kernel)
theorem ck_92 {M : Mem} (h : CT M) : M.2.2.2[92]? = some (100, 2520) := h.1 (92, 100, 2520) (by decide +kernel)
theorem ck_93 {M : Mem} (h : CT M) : M.2.2.2[93]? = some (113, 12) := h.1 (93, 113, 12) (by decide +kernel)
theorem ck_94 {M : Mem} (h : CT M) : M.2.2.2[94]? = some (100, 4) := h.1 (94, 100, 4) (by decide +kernel)
theorem ck_95 {M : Mem} (h : CT M) : M.2.2.2[95]? = some (100, 4) := h.1 (95, 100, 4) (by decide +kernel)
theorem ck_96 {M : Mem} (h : CT M) : M.2.2.2[96]? = some (100, 4) := h.1 (96, 100, 4) (by decide +kernel)
theorem ck_97 {M : Mem} (h : CT M) : M.2.2.2[97]? = some (100, 4) := h.1 (97, 100, 4) (by decide +kernel)
theorem ck_98 {M : Mem} (h : CT M) : M.2.2.2[98]? = some (100, 4) := h.1 (98, 100, 4) (by decide +kernel)
theorem ck_99 {M : Mem} (h : CT M) : M.2.2.2[99]? = some (100, 4) := h.1 (99, 100, 4) (by decide +kernel)
theorem ck_100 {M : Mem} (h : CT M) : M.2.2.2[100]? = some (100, 4) := h.1 (100, 100, 4) (by decide +kernel)
theorem ck_101 {M : Mem} (h : CT M) : M.2.2.2[101]? = some (100, 4) := h.1 (101, 100, 4) (by decide +kernel)
theorem ck_102 {M : Mem} (h : CT M) : M.2.2.2[102]? = some (100, 4) := h.1 (102, 100, 4) (by decide +kernel)
theorem ck_103 {M : Mem} (h : CT M) : M.2.2.2[103]? = some (100, 4) := h.1 (103, 100, 4) (by decide +kernel)
theorem ck_104 {M : Mem} (h : CT M) : M.2.2.2[104]? = some (100, 4) := h.1 (104, 100, 4) (by decide +kernel)
theorem ck_105 {M : Mem} (h : CT M) : M.2.2.2[105]? = some (100, 4) := h.1 (105, 100, 4) (by decide +kernel)
theorem ck_106 {M : Mem} (h : CT M) : M.2.2.2[106]? = some (100, 9600) := h.1 (106, 100, 9600) (by decide +kernel)
theorem ck_107 {M : Mem} (h : CT M) : M.2.2.2[107]? = some (100, 16) := h.1 (107, 100, 16) (by decide +kernel)
theorem ck_108 {M : Mem} (h : CT M) : M.2.2.2[108]? = some (10, 9) := h.1 (108, 10, 9) (by decide +kernel)
theorem ck_109 {M : Mem} (h : CT M) : M.2.2.2[109]? = some (100, 32) := h.1 (109, 100, 32) (by decide +kernel)
theorem ck_110 {M : Mem} (h : CT M) : M.2.2.2[110]? = some (100, 200) := h.1 (110, 100, 200) (by decide +kernel)
theorem ck_111 {M : Mem} (h : CT M) : M.2.2.2[111]? = some (100, 50) := h.1 (111, 100, 50) (by decide +kernel)
theorem ck_112 {M : Mem} (h : CT M) : M.2.2.2[112]? = some (10, 9) := h.1 (112, 10, 9) (by decide +kernel)
theorem ck_113 {M : Mem} (h : CT M) : M.2.2.2[113]? = some (100, 32) := h.1 (113, 100, 32) (by decide +kernel)
theorem ck_114 {M : Mem} (h : CT M) : M.2.2.2[114]? = some (100, 200) := h.1 (114, 100, 200) (by decide +kernel)
theorem ck_115 {M : Mem} (h : CT M) : M.2.2.2[115]? = some (100, 50) := h.1 (115, 100, 50) (by decide +kernel)
theorem ck_116 {M : Mem} (h : CT M) : M.2.2.2[116]? = some (10, 9) := h.1 (116, 10, 9) (by decide +kernel)
theorem ck_117 {M : Mem} (h : CT M) : M.2.2.2[117]? = some (100, 32) := h.1 (117, 100, 32) (by decide +kernel)
theorem ck_118 {M : Mem} (h : CT M) : M.2.2.2[118]? = some (100, 200) := h.1 (118, 100, 200) (by decide +kernel)
theorem ck_119 {M : Mem} (h : CT M) : M.2.2.2[119]? = some (100, 50) := h.1 (119, 100, 50) (by decide +kernel)
theorem ck_120 {M : Mem} (h : CT M) : M.2.2.2[120]? = some (10, 9) := h.1 (120, 10, 9) (by decide +kernel)
theorem ck_121 {M : Mem} (h : CT M) : M.2.2.2[121]? = some (100, 32) := h.1 (121, 100, 32) (by decide +kernel)
theorem ck_122 {M : Mem} (h : CT M) : M.2.2.2[122]? = some (100, 200) := h.1 (122, 100, 200) (by decide +kernel)
theorem ck_123 {M : Mem} (h : CT M) : M.2.2.2[123]? = some (100, 50) := h.1 (123, 100, 50) (by decide +kernel)
theorem ck_124 {M : Mem} (h : CT M) : M.2.2.2[124]? = some (10, 9) := h.1 (124, 10, 9) (by decide +kernel)
theorem ck_125 {M : Mem} (h : CT M) : M.2.2.2[125]? = some (100, 32) := h.1 (125, 100, 32) (by decide +kernel)
theorem ck_126 {M : Mem} (h : CT M) : M.2.2.2[126]? = some (100, 200) := h.1 (126, 100, 200) (by decide +kernel)
theorem ck_127 {M : Mem} (h : CT M) : M.2.2.2[127]? = some (100, 50) := h.1 (127, 100, 50) (by decide +kernel)
theorem ck_128 {M : Mem} (h : CT M) : M.2.2.2[128]? = some (10, 9) := h.1 (128, 10, 9) (by decide +kernel)
theorem ck_129 {M : Mem} (h : CT M) : M.2.2.2[129]? = some (100, 32) := h.1 (129, 100, 32) (by decide +kernel)
theorem ck_130 {M : Mem} (h : CT M) : M.2.2.2[130]? = some (100, 200) := h.1 (130, 100, 200) (by decide +kernel)
theorem ck_131 {M : Mem} (h : CT M) : M.2.2.2[131]? = some (100, 50) := h.1 (131, 100, 50) (by decide +kernel)
theorem ck_132 {M : Mem} (h : CT M) : M.2.2.2[132]? = some (10, 9) := h.1 (132, 10, 9) (by decide +kernel)
theorem ck_133 {M : Mem} (h : CT M) : M.2.2.2[133]? = some (100, 32) := h.1 (133, 100, 32) (by decide +kernel)
theorem ck_134 {M : Mem} (h : CT M) : M.2.2.2[134]? = some (100, 200) := h.1 (134, 100, 200) (by decide +kernel)
theorem ck_135 {M : Mem} (h : CT M) : M.2.2.2[135]? = some (100, 50) := h.1 (135, 100, 50) (by decide +kernel)
theorem ck_136 {M : Mem} (h : CT M) : M.2.2.2[136]? = some (10, 9) := h.1 (136, 10, 9) (by decide +kernel)
theorem ck_137 {M : Mem} (h : CT M) : M.2.2.2[137]? = some (100, 32) := h.1 (137, 100, 32) (by decide +kernel)
theorem ck_138 {M : Mem} (h : CT M) : M.2.2.2[138]? = some (100, 200) := h.1 (138, 100, 200) (by decide +kernel)
theorem ck_139 {M : Mem} (h : CT M) : M.2.2.2[139]? = some (100, 50) := h.1 (139, 100, 50) (by decide +kernel)
theorem ck_140 {M : Mem} (h : CT M) : M.2.2.2[140]? = some (0, 3) := h.1 (140, 0, 3) (by decide +kernel)
theorem ck_141 {M : Mem} (h : CT M) : M.2.2.2[141]? = some (0, 3) := h.1 (141, 0, 3) (by decide +kernel)
theorem ck_142 {M : Mem} (h : CT M) : M.2.2.2[142]? = some (5, 5) := h.1 (142, 5, 5) (by decide +kernel)
theorem ck_143 {M : Mem} (h : CT M) : M.2.2.2[143]? = some (3, 7) := h.1 (143, 3, 7) (by decide +kernel)
theorem ck_144 {M : Mem} (h : CT M) : M.2.2.2[144]? = some (100, 1000) := h.1 (144, 100, 1000) (by decide +kernel)
theorem ck_145 {M : Mem} (h : CT M) : M.2.2.2[145]? = some (100, 1000) := h.1 (145, 100, 1000) (by decide +kernel)
theorem ck_146 {M : Mem} (h : CT M) : M.2.2.2[146]? = some (100, 6) := h.1 (146, 100, 6) (by decide +kernel)
theorem ck_147 {M : Mem} (h : CT M) : M.2.2.2[147]? = some (100, 6) := h.1 (147, 100, 6) (by decide +kernel)
theorem ck_148 {M : Mem} (h : CT M) : M.2.2.2[148]? = some (100, 16) := h.1 (148, 100, 16) (by decide +kernel)
theorem ck_149 {M : Mem} (h : CT M) : M.2.2.2[149]? = some (100, 16) := h.1 (149, 100, 16) (by decide +kernel)
theorem ck_150 {M : Mem} (h : CT M) : M.2.2.2[150]? = some (113, 4) := h.1 (150, 113, 4) (by decide +kernel)
theorem ck_151 {M : Mem} (h : CT M) : M.2.2.2[151]? = some (100, 16) := h.1 (151, 100, 16) (by decide +kernel)
theorem ck_152 {M : Mem} (h : CT M) : M.2.2.2[152]? = some (100, 16) := h.1 (152, 100, 16) (by decide +kernel)
theorem ck_153 {M : Mem} (h : CT M) : M.2.2.2[153]? = some (100, 16) := h.1 (153, 100, 16) (by decide +kernel)
theorem ck_154 {M : Mem} (h : CT M) : M.2.2.2[154]? = some (100, 16) := h.1 (154, 100, 16) (by decide +kernel)
theorem ck_155 {M : Mem} (h : CT M) : M.2.2.2[155]? = some (113, 4) := h.1 (155, 113, 4) (by decide +kernel)
theorem ck_156 {M : Mem} (h : CT M) : M.2.2.2[156]? = some (100, 16) := h.1 (156, 100, 16) (by decide +kernel)
theorem ck_157 {M : Mem} (h : CT M) : M.2.2.2[157]? = some (100, 16) := h.1 (157, 100, 16) (by decide +kernel)
theorem ck_158 {M : Mem} (h : CT M) : M.2.2.2[158]? = some (100, 16) := h.1 (158, 100, 16) (by decide +kernel)
theorem ck_159 {M : Mem} (h : CT M) : M.2.2.2[159]? = some (100, 16) := h.1 (159, 100, 16) (by decide +kernel)
theorem cf_64_0 {M : Mem} (h : CT M) : M.2.2.1 64 0 = some 65 := h.2 (64, 0, 65) (by decide +kernel)
theorem cf_64_1 {M : Mem} (h : CT M) : M.2.2.1 64 1 = some 87 := h.2 (64, 1, 87) (by decide +kernel)
theorem cf_64_2 {M : Mem} (h : CT M) : M.2.2.1 64 2 = some 88 := h.2 (64, 2, 88) (by decide +kernel)
theorem cf_64_4 {M : Mem} (h : CT M) : M.2.2.1 64 4 = some 140 := h.2 (64, 4, 140) (by decide +kernel)
theorem cf_64_5 {M : Mem} (h : CT M) : M.2.2.1 64 5 = some 141 := h.2 (64, 5, 141) (by decide +kernel)
theorem cf_64_6 {M : Mem} (h : CT M) : M.2.2.1 64 6 = some 142 := h.2 (64, 6, 142) (by decide +kernel)
theorem cf_64_8 {M : Mem} (h : CT M) : M.2.2.1 64 8 = some 143 := h.2 (64, 8, 143) (by decide +kernel)
theorem cf_64_11 {M : Mem} (h : CT M) : M.2.2.1 64 11 = some 146 := h.2 (64, 11, 146) (by decide +kernel)
theorem cf_64_12 {M : Mem} (h : CT M) : M.2.2.1 64 12 = some 147 := h.2 (64, 12, 147) (by decide +kernel)
theorem cf_64_14 {M : Mem} (h : CT M) : M.2.2.1 64 14 = some 148 := h.2 (64, 14, 148) (by decide +kernel)
theorem cf_64_15 {M : Mem} (h : CT M) : M.2.2.1 64 15 = some 149 := h.2 (64, 15, 149) (by decide +kernel)
theorem cf_64_17 {M : Mem} (h : CT M) : M.2.2.1 64 17 = some 150 := h.2 (64, 17, 150) (by decide +kernel)
theorem cf_64_18 {M : Mem} (h : CT M) : M.2.2.1 64 18 = some 155 := h.2 (64, 18, 155) (by decide +kernel)
theorem cf_65_0 {M : Mem} (h : CT M) : M.2.2.1 65 0 = some 66 := h.2 (65, 0, 66) (by decide +kernel)
theorem cf_65_5 {M : Mem} (h : CT M) : M.2.2.1 65 5 = some 72 := h.2 (65, 5, 72) (by decide +kernel)
theorem cf_65_6 {M : Mem} (h : CT M) : M.2.2.1 65 6 = some 73 := h.2 (65, 6, 73) (by decide +kernel)
theorem cf_65_7 {M : Mem} (h : CT M) : M.2.2.1 65 7 = some 74 := h.2 (65, 7, 74) (by decide +kernel)
theorem cf_65_8 {M : Mem} (h : CT M) : M.2.2.1 65 8 = some 75 := h.2 (65, 8, 75) (by decide +kernel)
theorem cf_65_15 {M : Mem} (h : CT M) : M.2.2.1 65 15 = some 76 := h.2 (65, 15, 76) (by decide +kernel)
theorem cf_65_17 {M : Mem} (h : CT M) : M.2.2.1 65 17 = some 77 := h.2 (65, 17, 77) (by decide +kernel)
theorem cf_65_18 {M : Mem} (h : CT M) : M.2.2.1 65 18 = some 84 := h.2 (65, 18, 84) (by decide +kernel)
theorem cf_66_0 {M : Mem} (h : CT M) : M.2.2.1 66 0 = some 67 := h.2 (66, 0, 67) (by decide +kernel)
theorem cf_66_2 {M : Mem} (h : CT M) : M.2.2.1 66 2 = some 68 := h.2 (66, 2, 68) (by decide +kernel)
theorem cf_66_3 {M : Mem} (h : CT M) : M.2.2.1 66 3 = some 69 := h.2 (66, 3, 69) (by decide +kernel)
theorem cf_66_4 {M : Mem} (h : CT M) : M.2.2.1 66 4 = some 70 := h.2 (66, 4, 70) (by decide +kernel)
theorem cf_66_5 {M : Mem} (h : CT M) : M.2.2.1 66 5 = some 71 := h.2 (66, 5, 71) (by decide +kernel)
theorem cf_77_0 {M : Mem} (h : CT M) : M.2.2.1 77 0 = some 78 := h.2 (77, 0, 78) (by decide +kernel)
theorem cf_77_1 {M : Mem} (h : CT M) : M.2.2.1 77 1 = some 79 := h.2 (77, 1, 79) (by decide +kernel)
theorem cf_77_2 {M : Mem} (h : CT M) : M.2.2.1 77 2 = some 80 := h.2 (77, 2, 80) (by decide +kernel)
theorem cf_77_3 {M : Mem} (h : CT M) : M.2.2.1 77 3 = some 81 := h.2 (77, 3, 81) (by decide +kernel)
theorem cf_77_4 {M : Mem} (h : CT M) : M.2.2.1 77 4 = some 82 := h.2 (77, 4, 82) (by decide +kernel)
theorem cf_77_5 {M : Mem} (h : CT M) : M.2.2.1 77 5 = some 83 := h.2 (77, 5, 83) (by decide +kernel)
theorem cf_84_0 {M : Mem} (h : CT M) : M.2.2.1 84 0 = some 85 := h.2 (84, 0, 85) (by decide +kernel)
theorem cf_84_1 {M : Mem} (h : CT M) : M.2.2.1 84 1 = some 86 := h.2 (84, 1, 86) (by decide +kernel)
theorem cf_88_0 {M : Mem} (h : CT M) : M.2.2.1 88 0 = some 89 := h.2 (88, 0, 89) (by decide +kernel)
theorem cf_88_7 {M : Mem} (h : CT M) : M.2.2.1 88 7 = some 90 := h.2 (88, 7, 90) (by decide +kernel)
theorem cf_88_8 {M : Mem} (h : CT M) : M.2.2.1 88 8 = some 91 := h.2 (88, 8, 91) (by decide +kernel)
theorem cf_88_11 {M : Mem} (h : CT M) : M.2.2.1 88 11 = some 92 := h.2 (88, 11, 92) (by decide +kernel)
theorem cf_88_13 {M : Mem} (h : CT M) : M.2.2.1 88 13 = some 93 := h.2 (88, 13, 93) (by decide +kernel)
theorem cf_88_16 {M : Mem} (h : CT M) : M.2.2.1 88 16 = some 106 := h.2 (88, 16, 106) (by decide +kernel)
theorem cf_88_17 {M : Mem} (h : CT M) : M.2.2.1 88 17 = some 107 := h.2 (88, 17, 107) (by decide +kernel)
theorem cf_90_0 {M : Mem} (h : CT M) : M.2.2.1 90 0 = some 108 := h.2 (90, 0, 108) (by decide +kernel)
theorem cf_90_1 {M : Mem} (h : CT M) : M.2.2.1 90 1 = some 112 := h.2 (90, 1, 112) (by decide +kernel)
theorem cf_90_2 {M : Mem} (h : CT M) : M.2.2.1 90 2 = some 116 := h.2 (90, 2, 116) (by decide +kernel)
theorem cf_90_3 {M : Mem} (h : CT M) : M.2.2.1 90 3 = some 120 := h.2 (90, 3, 120) (by decide +kernel)
theorem cf_90_4 {M : Mem} (h : CT M) : M.2.2.1 90 4 = some 124 := h.2 (90, 4, 124) (by decide +kernel)
theorem cf_90_5 {M : Mem} (h : CT M) : M.2.2.1 90 5 = some 128 := h.2 (90, 5, 128) (by decide +kernel)
theorem cf_90_6 {M : Mem} (h : CT M) : M.2.2.1 90 6 = some 132 := h.2 (90, 6, 132) (by decide +kernel)
theorem cf_90_7 {M : Mem} (h : CT M) : M.2.2.1 90 7 = some 136 := h.2 (90, 7, 136) (by decide +kernel)
theorem cf_93_0 {M : Mem} (h : CT M) : M.2.2.1 93 0 = some 94 := h.2 (93, 0, 94) (by decide +kernel)
theorem cf_93_1 {M : Mem} (h : CT M) : M.2.2.1 93 1 = some 95 := h.2 (93, 1, 95) (by decide +kernel)
theorem cf_93_2 {M : Mem} (h : CT M) : M.2.2.1 93 2 = some 96 := h.2 (93, 2, 96) (by decide +kernel)
theorem cf_93_3 {M : Mem} (h : CT M) : M.2.2.1 93 3 = some 97 := h.2 (93, 3, 97) (by decide +kernel)
theorem cf_93_4 {M : Mem} (h : CT M) : M.2.2.1 93 4 = some 98 := h.2 (93, 4, 98) (by decide +kernel)
theorem cf_93_5 {M : Mem} (h : CT M) : M.2.2.1 93 5 = some 99 := h.2 (93, 5, 99) (by decide +kernel)
theorem cf_93_6 {M : Mem} (h : CT M) : M.2.2.1 93 6 = some 100 := h.2 (93, 6, 100) (by decide +kernel)
theorem cf_93_7 {M : Mem} (h : CT M) : M.2.2.1 93 7 = some 101 := h.2 (93, 7, 101) (by decide +kernel)
theorem cf_93_8 {M : Mem} (h : CT M) : M.2.2.1 93 8 = some 102 := h.2 (93, 8, 102) (by decide +kernel)
theorem cf_93_9 {M : Mem} (h : CT M) : M.2.2.1 93 9 = some 103 := h.2 (93, 9, 103) (by decide +kernel)
theorem cf_93_10 {M : Mem} (h : CT M) : M.2.2.1 93 10 = some 104 := h.2 (93, 10, 104) (by decide +kernel)
theorem cf_93_11 {M : Mem} (h : CT M) : M.2.2.1 93 11 = some 105 := h.2 (93, 11, 105) (by decide +kernel)
theorem cf_108_3 {M : Mem} (h : CT M) : M.2.2.1 108 3 = some 109 := h.2 (108, 3, 109) (by decide +kernel)
theorem cf_108_5 {M : Mem} (h : CT M) : M.2.2.1 108 5 = some 110 := h.2 (108, 5, 110) (by decide +kernel)
theorem cf_108_6 {M : Mem} (h : CT M) : M.2.2.1 108 6 = some 111 := h.2 (108, 6, 111) (by decide +kernel)
theorem cf_112_3 {M : Mem} (h : CT M) : M.2.2.1 112 3 = some 113 := h.2 (112, 3, 113) (by decide +kernel)
theorem cf_112_5 {M : Mem} (h : CT M) : M.2.2.1 112 5 = some 114 := h.2 (112, 5, 114) (by decide +kernel)
theorem cf_112_6 {M : Mem} (h : CT M) : M.2.2.1 112 6 = some 115 := h.2 (112, 6, 115) (by decide +kernel)
theorem cf_116_3 {M : Mem} (h : CT M) : M.2.2.1 116 3 = some 117 := h.2 (116, 3, 117) (by decide +kernel)
theorem cf_116_5 {M : Mem} (h : CT M) : M.2.2.1 116 5 = some 118 := h.2 (116, 5, 118) (by decide +kernel)
theorem cf_116_6 {M : Mem} (h : CT M) : M.2.2.1 116 6 = some 119 := h.2 (116, 6, 119) (by decide +kernel)
theorem cf_120_3 {M : Mem} (h : CT M) : M.2.2.1 120 3 = some 121 := h.2 (120, 3, 121) (by decide +kernel)
theorem cf_120_5 {M : Mem} (h : CT M) : M.2.2.1 120 5 = some 122 := h.2 (120, 5, 122) (by decide +kernel)
theorem cf_120_6 {M : Mem} (h : CT M) : M.2.2.1 120 6 = some 123 := h.2 (120, 6, 123) (by decide +kernel)
theorem cf_124_3 {M : Mem} (h : CT M) : M.2.2.1 124 3 = some 125 := h.2 (124, 3, 125) (by decide +kernel)
theorem cf_124_5 {M : Mem} (h : CT M) : M.2.2.1 124 5 = some 126 := h.2 (124, 5, 126) (by decide +kernel)
theorem cf_124_6 {M : Mem} (h : CT M) : M.2.2.1 124 6 = some 127 := h.2 (124, 6, 127) (by decide +kernel)
theorem cf_128_3 {M : Mem} (h : CT M) : M.2.2.1 128 3 = some 129 := h.2 (128, 3, 129) (by decide +kernel)
theorem cf_128_5 {M : Mem} (h : CT M) : M.2.2.1 128 5 = some 130 := h.2 (128, 5, 130) (by decide +kernel)
theorem cf_128_6 {M : Mem} (h : CT M) : M.2.2.1 128 6 = some 131 := h.2 (128, 6, 131) (by decide +kernel)
theorem cf_132_3 {M : Mem} (h : CT M) : M.2.2.1 132 3 = some 133 := h.2 (132, 3, 133) (by decide +kernel)
theorem cf_132_5 {M : Mem} (h : CT M) : M.2.2.1 132 5 = some 134 := h.2 (132, 5, 134) (by decide +kernel)
theorem cf_132_6 {M : Mem} (h : CT M) : M.2.2.1 132 6 = some 135 := h.2 (132, 6, 135) (by decide +kernel)
theorem cf_136_3 {M : Mem} (h : CT M) : M.2.2.1 136 3 = some 137 := h.2 (136, 3, 137) (by decide +kernel)
theorem cf_136_5 {M : Mem} (h : CT M) : M.2.2.1 136 5 = some 138 := h.2 (136, 5, 138) (by decide +kernel)
theorem cf_136_6 {M : Mem} (h : CT M) : M.2.2.1 136 6 = some 139 := h.2 (136, 6, 139) (by decide +kernel)
theorem cf_143_3 {M : Mem} (h : CT M) : M.2.2.1 143 3 = some 144 := h.2 (143, 3, 144) (by decide +kernel)
theorem cf_143_4 {M : Mem} (h : CT M) : M.2.2.1 143 4 = some 145 := h.2 (143, 4, 145) (by decide +kernel)
theorem cf_150_0 {M : Mem} (h : CT M) : M.2.2.1 150 0 = some 151 := h.2 (150, 0, 151) (by decide +kernel)
theorem cf_150_1 {M : Mem} (h : CT M) : M.2.2.1 150 1 = some 152 := h.2 (150, 1, 152) (by decide +kernel)
theorem cf_150_2 {M : Mem} (h : CT M) : M.2.2.1 150 2 = some 153 := h.2 (150, 2, 153) (by decide +kernel)
theorem cf_150_3 {M : Mem} (h : CT M) : M.2.2.1 150 3 = some 154 := h.2 (150, 3, 154) (by decide +kernel)
theorem cf_155_0 {M : Mem} (h : CT M) : M.2.2.1 155 0 = some 156 := h.2 (155, 0, 156) (by decide +kernel)
theorem cf_155_1 {M : Mem} (h : CT M) : M.2.2.1 155 1 = some 157 := h.2 (155, 1, 157) (by decide +kernel)
theorem cf_155_2 {M : Mem} (h : CT M) : M.2.2.1 155 2 = some 158 := h.2 (155, 2, 158) (by decide +kernel)
theorem cf_155_3 {M : Mem} (h : CT M) : M.2.2.1 155 3 = some 159 := h.2 (155, 3, 159) (by decide +kernel)
theorem CT.fr {W : List (Nat × Nat)} {M M2 : Mem} (h : CT M) (f : Fr W M M2) : CT M2 := ⟨fun q e => by rw [f.k]; exact h.1 q e, fun q e => by rw [f.p]; exact h.2 q e⟩
theorem CT.sI {M : Mem} {a j : Nat} {v : Int32} (h : CT M) : CT (sI M a j v) := h
theorem CT.sL {M : Mem} {a j : Nat} {v : Int64} (h : CT M) : CT (sL M a j v) := h
theorem z115_1 {d : Nat} {M : Mem} (hd : 1 ≤ d) {T : Int → Int} {n : Int} (hR : CT M) (hT : Tp 66 1 67 T n M) {v : Int32} {x : Int} (hv : v = iI x) (h : 0 ≤ x ∧ x ≤ 2147483647 ∧ 97 ≤ T x ∧ T x ≤ 122) : runX d 115 [va_rf (some 66), .int (v)] M = some (.int (iI 1), M) := by
  obtain ⟨d, rfl⟩ : ∃ e, d = e + 1 := ⟨d - 1, by omega⟩
  refine Rt.e ?_
  rw [r115]; unfold b115; rw [aR_e, aI_e, aZ_e]; unfold c115
  have hn := hT.2.1
  have hm := hT.2.2.1
  refine rs1 (gtI_q (w := iI n) (ck_66 hR) (hT.1)) ?_
  refine rs1 (jn_v) ?_
  refine rs1 (jn_v) ?_
  by_cases c1 : n ≤ x
  · refine rs1 (if_pos (leI_p (rfl) (hv) (by omega))) ?_
    refine rs1 (jv_e) ?_
    refine rs1 (jv_e) ?_
    refine rs1 (rtZ_q (z := 0) (li_0) (by omega)) ?_
    exfalso; first | omega | (have q := hT.z x (by omega); omega)
  · refine rs1 (if_neg (leI_n (rfl) (hv) (by omega))) ?_
    refine rs1 (gtP_q (w := some 67) (ck_66 hR) (cf_66_0 hR)) ?_
    refine rs1 (alI_q (n := 3000) (z := x) (w := iI ((T x))) (ck_67 hR) (hv) (by omega) (hT.2.2.2.1 x (by omega) (by omega))) ?_
    refine rs1 (if_neg (lsI_n (rfl) (li_97) (by omega))) ?_
    refine rs1 (gtP_q (w := some 67) (ck_66 hR) (cf_66_0 hR)) ?_
    refine rs1 (alI_q (n := 3000) (z := x) (w := iI ((T x))) (ck_67 hR) (hv) (by omega) (hT.2.2.2.1 x (by omega) (by omega))) ?_
    refine rs1 (if_neg (lsI_n (li_122) (rfl) (by omega))) ?_
    refine rs1 (jv_e) ?_
    refine rs1 (rtZ_q (z := 1) (li_1) (by omega)) ?_
    exact Rt.ok ⟨rfl, rfl⟩
theorem z115_0 {d : Nat} {M : Mem} (hd : 1 ≤ d) {T : Int → Int} {n : Int} (hR : CT M) (hT : Tp 66 1 67 T n M) {v : Int32} {x : Int} (hv : v = iI x) (h : 0 ≤ x ∧ x ≤ 2147483647 ∧ ¬ (97 ≤ T x ∧ T x ≤ 122)) : runX d 115 [va_rf (some 66), .int (v)] M = some (.int (iI 0), M) := by
  obtain ⟨d, rfl⟩ : ∃ e, d = e + 1 := ⟨d - 1, by omega⟩
  refine Rt.e ?_
  rw [r115]; unfold b115; rw [aR_e, aI_e, aZ_e]; unfold c115
  have hn := hT.2.1
  have hm := hT.2.2.1
  refine rs1 (gtI_q (w := iI n) (ck_66 hR) (hT.1)) ?_
  refine rs1 (jn_v) ?_
  refine rs1 (jn_v) ?_
  by_cases c1 : n ≤ x
  · refine rs1 (if_pos (leI_p (rfl) (hv) (by omega))) ?_
    refine rs1 (jv_e) ?_
    refine rs1 (jv_e) ?_
    refine rs1 (rtZ_q (z := 0) (li_0) (by omega)) ?_
    exact Rt.ok ⟨rfl, rfl⟩
  · refine rs1 (if_neg (leI_n (rfl) (hv) (by omega))) ?_
    refine rs1 (gtP_q (w := some 67) (ck_66 hR) (cf_66_0 hR)) ?_
    have b2 := hT.b x
    refine rs1 (alI_q (n := 3000) (z := x) (w := iI ((T x))) (ck_67 hR) (hv) (by omega) (hT.2.2.2.1 x (by omega) (by omega))) ?_
    by_cases c3 : ((T x)) < 97
    · refine rs1 (if_pos (lsI_p (rfl) (li_97) (by omega))) ?_
      refine rs1 (jv_e) ?_
      refine rs1 (jv_e) ?_
      refine rs1 (rtZ_q (z := 0) (li_0) (by omega)) ?_
      exact Rt.ok ⟨rfl, rfl⟩
    · refine rs1 (if_neg (lsI_n (rfl) (li_97) (by omega))) ?_
      refine rs1 (gtP_q (w := some 67) (ck_66 hR) (cf_66_0 hR)) ?_
      refine rs1 (alI_q (n := 3000) (z := x) (w := iI ((T x))) (ck_67 hR) (hv) (by omega) (hT.2.2.2.1 x (by omega) (by omega))) ?_
      by_cases c4 : 122 < ((T x))
      · refine rs1 (if_pos (lsI_p (li_122) (rfl) (by omega))) ?_
        refine rs1 (jv_e) ?_
        refine rs1 (jv_e) ?_
        refine rs1 (rtZ_q (z := 0) (li_0) (by omega)) ?_
        exact Rt.ok ⟨rfl, rfl⟩
      · refine rs1 (if_neg (lsI_n (li_122) (rfl) (by omega))) ?_
        refine rs1 (jv_e) ?_
        refine rs1 (rtZ_q (z := 1) (li_1) (by omega)) ?_
        exfalso; first | omega | (have q := hT.z x (by omega); omega)
theorem z116_1 {d : Nat} {M : Mem} (hd : 1 ≤ d) {T : Int → Int} {n : Int} (hR : CT M) (hT : Tp 66 1 67 T n M) {v : Int32} {x : Int} (hv : v = iI x) (h : 0 ≤ x ∧ x ≤ 2147483647 ∧ 48 ≤ T x ∧ T x ≤ 57) : runX d 116 [va_rf (some 66), .int (v)] M = some (.int (iI 1), M) := by
  obtain ⟨d, rfl⟩ : ∃ e, d = e + 1 := ⟨d - 1, by omega⟩
  refine Rt.e ?_
  rw [r116]; unfold b116; rw [aR_e, aI_e, aZ_e]; unfold c116
  have hn := hT.2.1
  have hm := hT.2.2.1
  refine rs1 (gtI_q (w := iI n) (ck_66 hR) (hT.1)) ?_
  refine rs1 (jn_v) ?_
  refine rs1 (jn_v) ?_
  by_cases c1 : n ≤ x
  · refine rs1 (if_pos (leI_p (rfl) (hv) (by omega))) ?_
    refine rs1 (jv_e) ?_
    refine rs1 (jv_e) ?_
    refine rs1 (rtZ_q (z := 0) (li_0) (by omega)) ?_
    exfalso; first | omega | (have q := hT.z x (by omega); omega)
  · refine rs1 (if_neg (leI_n (rfl) (hv) (by omega))) ?_
    refine rs1 (gtP_q (w := some 67) (ck_66 hR) (cf_66_0 hR)) ?_
    refine rs1 (alI_q (n := 3000) (z := x) (w := iI ((T x))) (ck_67 hR) (hv) (by omega) (hT.2.2.2.1 x (by omega) (by omega))) ?_
    refine rs1 (if_neg (lsI_n (rfl) (li_48) (by omega))) ?_
    refine rs1 (gtP_q (w := some 67) (ck_66 hR) (cf_66_0 hR)) ?_
    refine rs1 (alI_q (n := 3000) (z := x) (w := iI ((T x))) (ck_67 hR) (hv) (by omega) (hT.2.2.2.1 x (by omega) (by omega))) ?_
    refine rs1 (if_neg (lsI_n (li_57) (rfl) (by omega))) ?_
    refine rs1 (jv_e) ?_
    refine rs1 (rtZ_q (z := 1) (li_1) (by omega)) ?_
    exact Rt.ok ⟨rfl, rfl⟩
theorem z116_0 {d : Nat} {M : Mem} (hd : 1 ≤ d) {T : Int → Int} {n : Int} (hR : CT M) (hT : Tp 66 1 67 T n M) {v : Int32} {x : Int} (hv : v = iI x) (h : 0 ≤ x ∧ x ≤ 2147483647 ∧ ¬ (48 ≤ T x ∧ T x ≤ 57)) : runX d 116 [va_rf (some 66), .int (v)] M = some (.int (iI 0), M) := by
  obtain ⟨d, rfl⟩ : ∃ e, d = e + 1 := ⟨d - 1, by omega⟩
  refine Rt.e ?_
  rw [r116]; unfold b116; rw [aR_e, aI_e, aZ_e]; unfold c116
  have hn := hT.2.1
  have hm := hT.2.2.1
  refine rs1 (gtI_q (w := iI n) (ck_66 hR) (hT.1)) ?_
  refine rs1 (jn_v) ?_
  refine rs1 (jn_v) ?_
  by_cases c1 : n ≤ x
  · refine rs1 (if_pos (leI_p (rfl) (hv) (by omega))) ?_
    refine rs1 (jv_e) ?_
    refine rs1 (jv_e) ?_
    refine rs1 (rtZ_q (z := 0) (li_0) (by omega)) ?_
    exact Rt.ok ⟨rfl, rfl⟩
  · refine rs1 (if_neg (leI_n (rfl) (hv) (by omega))) ?_
    refine rs1 (gtP_q (w := some 67) (ck_66 hR) (cf_66_0 hR)) ?_
    have b2 := hT.b x
    refine rs1 (alI_q (n := 3000) (z := x) (w := iI ((T x))) (ck_67 hR) (hv) (by omega) (hT.2.2.2.1 x (by omega) (by omega))) ?_
    by_cases c3 : ((T x)) < 48
    · refine rs1 (if_pos (lsI_p (rfl) (li_48) (by omega))) ?_
      refine rs1 (jv_e) ?_
      refine rs1 (jv_e) ?_
      refine rs1 (rtZ_q (z := 0) (li_0) (by omega)) ?_
      exact Rt.ok ⟨rfl, rfl⟩
    · refine rs1 (if_neg (lsI_n (rfl) (li_48) (by omega))) ?_
      refine rs1 (gtP_q (w := some 67) (ck_66 hR) (cf_66_0 hR)) ?_
      refine rs1 (alI_q (n := 3000) (z := x) (w := iI ((T x))) (ck_67 hR) (hv) (by omega) (hT.2.2.2.1 x (by omega) (by omega))) ?_
      by_cases c4 : 57 < ((T x))
      · refine rs1 (if_pos (lsI_p (li_57) (rfl) (by omega))) ?_
        refine rs1 (jv_e) ?_
        refine rs1 (jv_e) ?_
        refine rs1 (rtZ_q (z := 0) (li_0) (by omega)) ?_
        exact Rt.ok ⟨rfl, rfl⟩
      · refine rs1 (if_neg (lsI_n (li_57) (rfl) (by omega))) ?_
        refine rs1 (jv_e) ?_
        refine rs1 (rtZ_q (z := 1) (li_1) (by omega)) ?_
        exfalso; first | omega | (have q := hT.z x (by omega); omega)
def W_sb : List (Nat × Nat) := [(66, 7)]
theorem z114 {d : Nat} {M : Mem} (hd : 1 ≤ d) {T : Int → Int} {n : Int} (hR : CT M) (hT : Tp 66 1 67 T n M) {p0 : Int} (hp : M.1 66 7 = iI p0) (h : 0 ≤ p0 ∧ p0 ≤ n) : Rt (runX d 114 [va_rf (some 66)] M) (fun _ M2 => ∃ (f : Int), Fr W_sb M M2 ∧ M2.1 66 7 = iI f ∧ (f ≤ n) ∧ (SkR T p0 f)) := by
  obtain ⟨d, rfl⟩ : ∃ e, d = e + 1 := ⟨d - 1, by omega⟩
  rw [r114]; unfold b114; rw [aR_e, aZ_e]; unfold c114
  have hn := hT.2.1
  have hm := hT.2.2.1
  refine Rt.jn (fun s => ∃ (f : Int), Fr W_sb M s ∧ s.1 66 7 = iI f ∧ (f ≤ n) ∧ (SkR T p0 f)) (fun s hs => ?_) (fun j66 hj66 => ?_)
  ·
    exact Rt.ok hs
  ·
    refine Rt.lp (fun m s => ∃ (p : Int), Fr W_sb M s ∧ s.1 66 7 = iI p ∧ (p0 ≤ p) ∧ (p ≤ n) ∧ (Al bl T p0 p) ∧ ((m : Int) = n - p)) (fun m s go hs hgo => ?_) (n - p0).toNat _ _ (by omega) ⟨p0, Fr.r, hp, by omega, by omega, by first | exact Al.z (by omega) | exact Al.s (by assumption) (by omega) (by unfold bl; omega), by omega⟩
    obtain ⟨p, f1, e1_p, p1_0, p1_1, p1_2, p1_3⟩ := hs
    unfold c114_0
    refine rs1 (gtI_q (w := iI p) (ck_66 (hR.fr f1)) (e1_p)) ?_
    refine rs1 (gtI_q (w := iI n) (ck_66 (hR.fr f1)) ((f1.i _ _ (by decide)).trans (hT.1))) ?_
    by_cases c2 : n ≤ p
    · refine rs1 (if_pos (leI_p (rfl) (rfl) (by omega))) ?_
      exact hj66 _ ⟨p, f1, e1_p, by omega, SkR.mk (by omega) (by assumption) (by first | omega | (have hz := hT.z p (by omega); omega))⟩
    · refine rs1 (if_neg (leI_n (rfl) (rfl) (by omega))) ?_
      refine rs1 (gtP_q (w := some 67) (ck_66 (hR.fr f1)) (cf_66_0 (hR.fr f1))) ?_
      refine rs1 (gtI_q (w := iI p) (ck_66 (hR.fr f1)) (e1_p)) ?_
      have b3 := hT.b p
      refine rs1 (alI_q (n := 3000) (z := p) (w := iI ((T p))) (ck_67 (hR.fr f1)) (rfl) (by omega) ((f1.c _ (by decide) _).trans (hT.2.2.2.1 p (by omega) (by omega)))) ?_
      refine rs1 (jn_v) ?_
      by_cases c4 : ((T p)) = 10
      · refine rs1 (if_pos (eqI_p (rfl) (li_10) (by omega))) ?_
        refine rs1 (jv_e) ?_
        refine rs1 (gtI_q (w := iI p) (ck_66 (hR.fr f1)) (e1_p)) ?_
        refine rs1 (ptI_q (z := (p + 1)) (ck_66 (hR.fr f1)) (adI (rfl) (li_1))) ?_
        exact hgo (n - p - 1).toNat _ (by omega) ⟨(p + 1), (Fr.sI (by decide) f1), sI_eq, by omega, by omega, by first | exact Al.z (by omega) | exact Al.s (by assumption) (by omega) (by unfold bl; omega), by omega⟩
      · refine rs1 (if_neg (eqI_n (rfl) (li_10) (by omega))) ?_
        refine rs1 (gtP_q (w := some 67) (ck_66 (hR.fr f1)) (cf_66_0 (hR.fr f1))) ?_
        refine rs1 (gtI_q (w := iI p) (ck_66 (hR.fr f1)) (e1_p)) ?_
        refine rs1 (alI_q (n := 3000) (z := p) (w := iI ((T p))) (ck_67 (hR.fr f1)) (rfl) (by omega) ((f1.c _ (by decide) _).trans (hT.2.2.2.1 p (by omega) (by omega)))) ?_
        by_cases c5 : ((T p)) = 13
        · refine rs1 (if_pos (eqI_p (rfl) (li_13) (by omega))) ?_
          refine rs1 (jv_e) ?_
          refine rs1 (gtI_q (w := iI p) (ck_66 (hR.fr f1)) (e1_p)) ?_
          refine rs1 (ptI_q (z := (p + 1)) (ck_66 (hR.fr f1)) (adI (rfl) (li_1))) ?_
          exact hgo (n - p - 1).toNat _ (by omega) ⟨(p + 1), (Fr.sI (by decide) f1), sI_eq, by omega, by omega, by first | exact Al.z (by omega) | exact Al.s (by assumption) (by omega) (by unfold bl; omega), by omega⟩
        · refine rs1 (if_neg (eqI_n (rfl) (li_13) (by omega))) ?_
          refine rs1 (gtP_q (w := some 67) (ck_66 (hR.fr f1)) (cf_66_0 (hR.fr f1))) ?_
          refine rs1 (gtI_q (w := iI p) (ck_66 (hR.fr f1)) (e1_p)) ?_
          refine rs1 (alI_q (n := 3000) (z := p) (w := iI ((T p))) (ck_67 (hR.fr f1)) (rfl) (by omega) ((f1.c _ (by decide) _).trans (hT.2.2.2.1 p (by omega) (by omega)))) ?_
          by_cases c6 : ((T p)) = 32
          · refine rs1 (if_pos (eqI_p (rfl) (li_32) (by omega))) ?_
            refine rs1 (jv_e) ?_
            refine rs1 (gtI_q (w := iI p) (ck_66 (hR.fr f1)) (e1_p)) ?_
            refine rs1 (ptI_q (z := (p + 1)) (ck_66 (hR.fr f1)) (adI (rfl) (li_1))) ?_
            exact hgo (n - p - 1).toNat _ (by omega) ⟨(p + 1), (Fr.sI (by decide) f1), sI_eq, by omega, by omega, by first | exact Al.z (by omega) | exact Al.s (by assumption) (by omega) (by unfold bl; omega), by omega⟩
          · refine rs1 (if_neg (eqI_n (rfl) (li_32) (by omega))) ?_
            exact hj66 _ ⟨p, f1, e1_p, by omega, SkR.mk (by omega) (by assumption) (by first | omega | (have hz := hT.z p (by omega); omega))⟩
def W_wd : List (Nat × Nat) := [(66, 7), (70, 9999)]
