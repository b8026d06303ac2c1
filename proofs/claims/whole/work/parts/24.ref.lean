/-! the cells of the reference: what they are, and where its fields lead -/
def RK : List (Nat × Nat × Nat) := [(160, 13, 157), (161, 101, 3000), (162, 100, 8), (163, 104, 64), (164, 100, 64), (165, 100, 64), (166, 100, 192), (167, 100, 64), (168, 100, 192), (169, 100, 8), (170, 104, 768), (171, 100, 768), (172, 100, 768), (173, 102, 768), (174, 100, 768), (175, 100, 768), (176, 100, 8), (177, 104, 128), (178, 100, 128), (179, 100, 128), (180, 100, 128), (181, 102, 128), (182, 100, 128), (183, 100, 128), (184, 100, 8), (185, 104, 48), (186, 100, 48), (187, 100, 48), (188, 100, 8), (189, 101, 8000), (190, 100, 8000), (191, 101, 8000), (192, 100, 8), (193, 103, 8000), (194, 104, 28), (195, 101, 4000), (196, 100, 4000), (197, 101, 4000), (198, 102, 4000), (199, 104, 11), (200, 100, 2000), (201, 100, 2000), (202, 104, 2000), (203, 100, 2000), (204, 104, 2000), (205, 100, 2000), (206, 100, 2000), (207, 100, 2000), (208, 100, 48), (209, 100, 8), (210, 100, 16), (211, 100, 192), (212, 100, 9600), (213, 100, 3000), (214, 100, 120), (215, 100, 300), (216, 100, 8000), (217, 100, 8000), (218, 100, 8000), (219, 100, 1001), (220, 100, 1001), (221, 102, 8), (222, 100, 128), (223, 100, 128), (224, 100, 128), (225, 100, 128), (226, 100, 4), (227, 100, 8), (228, 100, 8), (229, 100, 8), (230, 100, 8), (231, 100, 64), (232, 100, 64), (233, 102, 64), (234, 100, 64), (235, 100, 8), (236, 100, 400), (237, 100, 1600), (238, 102, 8), (239, 100, 8000), (240, 100, 1000), (241, 100, 8), (242, 100, 16), (243, 100, 16), (244, 100, 4), (245, 100, 4), (246, 100, 8), (247, 100, 8), (248, 100, 64), (249, 100, 64), (250, 100, 64), (251, 100, 64), (252, 100, 64), (253, 100, 8), (254, 100, 9), (255, 100, 16), (256, 100, 16), (257, 100, 8), (258, 100, 8)]
def RFd : List (Nat × Nat) := [(0, 161), (3, 162), (4, 163), (5, 164), (6, 165), (7, 166), (8, 167), (9, 168), (10, 169), (11, 170), (12, 171), (13, 172), (14, 173), (15, 174), (16, 175), (17, 176), (18, 177), (19, 178), (20, 179), (21, 180), (22, 181), (23, 182), (24, 183), (25, 184), (26, 185), (27, 186), (28, 187), (29, 188), (30, 189), (31, 190), (32, 191), (33, 192), (34, 193), (35, 194), (44, 195), (45, 196), (46, 197), (47, 198), (52, 199), (54, 200), (55, 201), (56, 202), (57, 203), (58, 204), (59, 205), (60, 206), (61, 207), (63, 208), (68, 209), (69, 210), (70, 211), (71, 212), (72, 213), (74, 214), (75, 215), (94, 216), (95, 217), (96, 218), (99, 219), (100, 220), (104, 221), (105, 222), (106, 223), (107, 224), (108, 225), (110, 226), (112, 227), (113, 228), (114, 229), (115, 230), (116, 231), (117, 232), (118, 233), (119, 234), (120, 235), (121, 236), (122, 237), (123, 238), (124, 239), (125, 240), (126, 241), (127, 242), (128, 243), (134, 244), (135, 245), (139, 246), (140, 247), (141, 248), (142, 249), (143, 250), (144, 251), (145, 252), (146, 253), (147, 254), (152, 255), (153, 256), (155, 257), (156, 258)]
def RT (M : Mem) : Prop := (∀ q, q ∈ RK → M.2.2.2[q.1]? = some q.2) ∧ ∀ q, q ∈ RFd → M.2.2.1 160 q.1 = some q.2
theorem rk_160 {M : Mem} (h : RT M) : M.2.2.2[160]? = some (13, 157) := h.1 (160, 13, 157) (by decide +kernel)
theorem rk_161 {M : Mem} (h : RT M) : M.2.2.2[161]? = some (101, 3000) := h.1 (161, 101, 3000) (by decide +kernel)
theorem rk_162 {M : Mem} (h : RT M) : M.2.2.2[162]? = some (100, 8) := h.1 (162, 100, 8) (by decide +kernel)
theorem rk_163 {M : Mem} (h : RT M) : M.2.2.2[163]? = some (104, 64) := h.1 (163, 104, 64) (by decide +kernel)
theorem rk_164 {M : Mem} (h : RT M) : M.2.2.2[164]? = some (100, 64) := h.1 (164, 100, 64) (by decide +kernel)
theorem rk_165 {M : Mem} (h : RT M) : M.2.2.2[165]? = some (100, 64) := h.1 (165, 100, 64) (by decide +kernel)
theorem rk_166 {M : Mem} (h : RT M) : M.2.2.2[166]? = some (100, 192) := h.1 (166, 100, 192) (by decide +kernel)
theorem rk_167 {M : Mem} (h : RT M) : M.2.2.2[167]? = some (100, 64) := h.1 (167, 100, 64) (by decide +kernel)
theorem rk_168 {M : Mem} (h : RT M) : M.2.2.2[168]? = some (100, 192) := h.1 (168, 100, 192) (by decide +kernel)
theorem rk_169 {M : Mem} (h : RT M) : M.2.2.2[169]? = some (100, 8) := h.1 (169, 100, 8) (by decide +kernel)
theorem rk_170 {M : Mem} (h : RT M) : M.2.2.2[170]? = some (104, 768) := h.1 (170, 104, 768) (by decide +kernel)
theorem rk_171 {M : Mem} (h : RT M) : M.2.2.2[171]? = some (100, 768) := h.1 (171, 100, 768) (by decide +kernel)
theorem rk_172 {M : Mem} (h : RT M) : M.2.2.2[172]? = some (100, 768) := h.1 (172, 100, 768) (by decide +kernel)
theorem rk_173 {M : Mem} (h : RT M) : M.2.2.2[173]? = some (102, 768) := h.1 (173, 102, 768) (by decide +kernel)
theorem rk_174 {M : Mem} (h : RT M) : M.2.2.2[174]? = some (100, 768) := h.1 (174, 100, 768) (by decide +kernel)
theorem rk_175 {M : Mem} (h : RT M) : M.2.2.2[175]? = some (100, 768) := h.1 (175, 100, 768) (by decide +kernel)
theorem rk_176 {M : Mem} (h : RT M) : M.2.2.2[176]? = some (100, 8) := h.1 (176, 100, 8) (by decide +kernel)
theorem rk_177 {M : Mem} (h : RT M) : M.2.2.2[177]? = some (104, 128) := h.1 (177, 104, 128) (by decide +kernel)
theorem rk_178 {M : Mem} (h : RT M) : M.2.2.2[178]? = some (100, 128) := h.1 (178, 100, 128) (by decide +kernel)
theorem rk_179 {M : Mem} (h : RT M) : M.2.2.2[179]? = some (100, 128) := h.1 (179, 100, 128) (by decide +kernel)
theorem rk_180 {M : Mem} (h : RT M) : M.2.2.2[180]? = some (100, 128) := h.1 (180, 100, 128) (by decide +kernel)
theorem rk_181 {M : Mem} (h : RT M) : M.2.2.2[181]? = some (102, 128) := h.1 (181, 102, 128) (by decide +kernel)
theorem rk_182 {M : Mem} (h : RT M) : M.2.2.2[182]? = some (100, 128) := h.1 (182, 100, 128) (by decide +kernel)
theorem rk_183 {M : Mem} (h : RT M) : M.2.2.2[183]? = some (100, 128) := h.1 (183, 100, 128) (by decide +kernel)
theorem rk_184 {M : Mem} (h : RT M) : M.2.2.2[184]? = some (100, 8) := h.1 (184, 100, 8) (by decide +kernel)
theorem rk_185 {M : Mem} (h : RT M) : M.2.2.2[185]? = some (104, 48) := h.1 (185, 104, 48) (by decide +kernel)
theorem rk_186 {M : Mem} (h : RT M) : M.2.2.2[186]? = some (100, 48) := h.1 (186, 100, 48) (by decide +kernel)
theorem rk_187 {M : Mem} (h : RT M) : M.2.2.2[187]? = some (100, 48) := h.1 (187, 100, 48) (by decide +kernel)
theorem rk_188 {M : Mem} (h : RT M) : M.2.2.2[188]? = some (100, 8) := h.1 (188, 100, 8) (by decide +kernel)
theorem rk_189 {M : Mem} (h : RT M) : M.2.2.2[189]? = some (101, 8000) := h.1 (189, 101, 8000) (by decide +kernel)
theorem rk_190 {M : Mem} (h : RT M) : M.2.2.2[190]? = some (100, 8000) := h.1 (190, 100, 8000) (by decide +kernel)
theorem rk_191 {M : Mem} (h : RT M) : M.2.2.2[191]? = some (101, 8000) := h.1 (191, 101, 8000) (by decide +kernel)
theorem rk_192 {M : Mem} (h : RT M) : M.2.2.2[192]? = some (100, 8) := h.1 (192, 100, 8) (by decide +kernel)
theorem rk_193 {M : Mem} (h : RT M) : M.2.2.2[193]? = some (103, 8000) := h.1 (193, 103, 8000) (by decide +kernel)
theorem rk_194 {M : Mem} (h : RT M) : M.2.2.2[194]? = some (104, 28) := h.1 (194, 104, 28) (by decide +kernel)
theorem rk_195 {M : Mem} (h : RT M) : M.2.2.2[195]? = some (101, 4000) := h.1 (195, 101, 4000) (by decide +kernel)
theorem rk_196 {M : Mem} (h : RT M) : M.2.2.2[196]? = some (100, 4000) := h.1 (196, 100, 4000) (by decide +kernel)
theorem rk_197 {M : Mem} (h : RT M) : M.2.2.2[197]? = some (101, 4000) := h.1 (197, 101, 4000) (by decide +kernel)
theorem rk_198 {M : Mem} (h : RT M) : M.2.2.2[198]? = some (102, 4000) := h.1 (198, 102, 4000) (by decide +kernel)
theorem rk_199 {M : Mem} (h : RT M) : M.2.2.2[199]? = some (104, 11) := h.1 (199, 104, 11) (by decide +kernel)
theorem rk_200 {M : Mem} (h : RT M) : M.2.2.2[200]? = some (100, 2000) := h.1 (200, 100, 2000) (by decide +kernel)
theorem rk_201 {M : Mem} (h : RT M) : M.2.2.2[201]? = some (100, 2000) := h.1 (201, 100, 2000) (by decide +kernel)
theorem rk_202 {M : Mem} (h : RT M) : M.2.2.2[202]? = some (104, 2000) := h.1 (202, 104, 2000) (by decide +kernel)
theorem rk_203 {M : Mem} (h : RT M) : M.2.2.2[203]? = some (100, 2000) := h.1 (203, 100, 2000) (by decide +kernel)
theorem rk_204 {M : Mem} (h : RT M) : M.2.2.2[204]? = some (104, 2000) := h.1 (204, 104, 2000) (by decide +kernel)
theorem rk_205 {M : Mem} (h : RT M) : M.2.2.2[205]? = some (100, 2000) := h.1 (205, 100, 2000) (by decide +kernel)
theorem rk_206 {M : Mem} (h : RT M) : M.2.2.2[206]? = some (100, 2000) := h.1 (206, 100, 2000) (by decide +kernel)
theorem rk_207 {M : Mem} (h : RT M) : M.2.2.2[207]? = some (100, 2000) := h.1 (207, 100, 2000) (by decide +kernel)
theorem rk_208 {M : Mem} (h : RT M) : M.2.2.2[208]? = some (100, 48) := h.1 (208, 100, 48) (by decide +kernel)
theorem rk_209 {M : Mem} (h : RT M) : M.2.2.2[209]? = some (100, 8) := h.1 (209, 100, 8) (by decide +kernel)
theorem rk_210 {M : Mem} (h : RT M) : M.2.2.2[210]? = some (100, 16) := h.1 (210, 100, 16) (by decide +kernel)
theorem rk_211 {M : Mem} (h : RT M) : M.2.2.2[211]? = some (100, 192) := h.1 (211, 100, 192) (by decide +kernel)
theorem rk_212 {M : Mem} (h : RT M) : M.2.2.2[212]? = some (100, 9600) := h.1 (212, 100, 9600) (by decide +kernel)
theorem rk_213 {M : Mem} (h : RT M) : M.2.2.2[213]? = some (100, 3000) := h.1 (213, 100, 3000) (by decide +kernel)
theorem rk_214 {M : Mem} (h : RT M) : M.2.2.2[214]? = some (100, 120) := h.1 (214, 100, 120) (by decide +kernel)
theorem rk_215 {M : Mem} (h : RT M) : M.2.2.2[215]? = some (100, 300) := h.1 (215, 100, 300) (by decide +kernel)
theorem rk_216 {M : Mem} (h : RT M) : M.2.2.2[216]? = some (100, 8000) := h.1 (216, 100, 8000) (by decide +kernel)
theorem rk_217 {M : Mem} (h : RT M) : M.2.2.2[217]? = some (100, 8000) := h.1 (217, 100, 8000) (by decide +kernel)
theorem rk_218 {M : Mem} (h : RT M) : M.2.2.2[218]? = some (100, 8000) := h.1 (218, 100, 8000) (by decide +kernel)
theorem rk_219 {M : Mem} (h : RT M) : M.2.2.2[219]? = some (100, 1001) := h.1 (219, 100, 1001) (by decide +kernel)
theorem rk_220 {M : Mem} (h : RT M) : M.2.2.2[220]? = some (100, 1001) := h.1 (220, 100, 1001) (by decide +kernel)
theorem rk_221 {M : Mem} (h : RT M) : M.2.2.2[221]? = some (102, 8) := h.1 (221, 102, 8) (by decide +kernel)
theorem rk_222 {M : Mem} (h : RT M) : M.2.2.2[222]? = some (100, 128) := h.1 (222, 100, 128) (by decide +kernel)
theorem rk_223 {M : Mem} (h : RT M) : M.2.2.2[223]? = some (100, 128) := h.1 (223, 100, 128) (by decide +kernel)
theorem rk_224 {M : Mem} (h : RT M) : M.2.2.2[224]? = some (100, 128) := h.1 (224, 100, 128) (by decide +kernel)
theorem rk_225 {M : Mem} (h : RT M) : M.2.2.2[225]? = some (100, 128) := h.1 (225, 100, 128) (by decide +kernel)
theorem rk_226 {M : Mem} (h : RT M) : M.2.2.2[226]? = some (100, 4) := h.1 (226, 100, 4) (by decide +kernel)
theorem rk_227 {M : Mem} (h : RT M) : M.2.2.2[227]? = some (100, 8) := h.1 (227, 100, 8) (by decide +kernel)
theorem rk_228 {M : Mem} (h : RT M) : M.2.2.2[228]? = some (100, 8) := h.1 (228, 100, 8) (by decide +kernel)
theorem rk_229 {M : Mem} (h : RT M) : M.2.2.2[229]? = some (100, 8) := h.1 (229, 100, 8) (by decide +kernel)
theorem rk_230 {M : Mem} (h : RT M) : M.2.2.2[230]? = some (100, 8) := h.1 (230, 100, 8) (by decide +kernel)
theorem rk_231 {M : Mem} (h : RT M) : M.2.2.2[231]? = some (100, 64) := h.1 (231, 100, 64) (by decide +kernel)
theorem rk_232 {M : Mem} (h : RT M) : M.2.2.2[232]? = some (100, 64) := h.1 (232, 100, 64) (by decide +kernel)
theorem rk_233 {M : Mem} (h : RT M) : M.2.2.2[233]? = some (102, 64) := h.1 (233, 102, 64) (by decide +kernel)
theorem rk_234 {M : Mem} (h : RT M) : M.2.2.2[234]? = some (100, 64) := h.1 (234, 100, 64) (by decide +kernel)
theorem rk_235 {M : Mem} (h : RT M) : M.2.2.2[235]? = some (100, 8) := h.1 (235, 100, 8) (by decide +kernel)
theorem rk_236 {M : Mem} (h : RT M) : M.2.2.2[236]? = some (100, 400) := h.1 (236, 100, 400) (by decide +kernel)
theorem rk_237 {M : Mem} (h : RT M) : M.2.2.2[237]? = some (100, 1600) := h.1 (237, 100, 1600) (by decide +kernel)
theorem rk_238 {M : Mem} (h : RT M) : M.2.2.2[238]? = some (102, 8) := h.1 (238, 102, 8) (by decide +kernel)
theorem rk_239 {M : Mem} (h : RT M) : M.2.2.2[239]? = some (100, 8000) := h.1 (239, 100, 8000) (by decide +kernel)
theorem rk_240 {M : Mem} (h : RT M) : M.2.2.2[240]? = some (100, 1000) := h.1 (240, 100, 1000) (by decide +kernel)
theorem rk_241 {M : Mem} (h : RT M) : M.2.2.2[241]? = some (100, 8) := h.1 (241, 100, 8) (by decide +kernel)
theorem rk_242 {M : Mem} (h : RT M) : M.2.2.2[242]? = some (100, 16) := h.1 (242, 100, 16) (by decide +kernel)
theorem rk_243 {M : Mem} (h : RT M) : M.2.2.2[243]? = some (100, 16) := h.1 (243, 100, 16) (by decide +kernel)
theorem rk_244 {M : Mem} (h : RT M) : M.2.2.2[244]? = some (100, 4) := h.1 (244, 100, 4) (by decide +kernel)
theorem rk_245 {M : Mem} (h : RT M) : M.2.2.2[245]? = some (100, 4) := h.1 (245, 100, 4) (by decide +kernel)
theorem rk_246 {M : Mem} (h : RT M) : M.2.2.2[246]? = some (100, 8) := h.1 (246, 100, 8) (by decide +kernel)
theorem rk_247 {M : Mem} (h : RT M) : M.2.2.2[247]? = some (100, 8) := h.1 (247, 100, 8) (by decide +kernel)
theorem rk_248 {M : Mem} (h : RT M) : M.2.2.2[248]? = some (100, 64) := h.1 (248, 100, 64) (by decide +kernel)
theorem rk_249 {M : Mem} (h : RT M) : M.2.2.2[249]? = some (100, 64) := h.1 (249, 100, 64) (by decide +kernel)
theorem rk_250 {M : Mem} (h : RT M) : M.2.2.2[250]? = some (100, 64) := h.1 (250, 100, 64) (by decide +kernel)
theorem rk_251 {M : Mem} (h : RT M) : M.2.2.2[251]? = some (100, 64) := h.1 (251, 100, 64) (by decide +kernel)
theorem rk_252 {M : Mem} (h : RT M) : M.2.2.2[252]? = some (100, 64) := h.1 (252, 100, 64) (by decide +kernel)
theorem rk_253 {M : Mem} (h : RT M) : M.2.2.2[253]? = some (100, 8) := h.1 (253, 100, 8) (by decide +kernel)
theorem rk_254 {M : Mem} (h : RT M) : M.2.2.2[254]? = some (100, 9) := h.1 (254, 100, 9) (by decide +kernel)
theorem rk_255 {M : Mem} (h : RT M) : M.2.2.2[255]? = some (100, 16) := h.1 (255, 100, 16) (by decide +kernel)
theorem rk_256 {M : Mem} (h : RT M) : M.2.2.2[256]? = some (100, 16) := h.1 (256, 100, 16) (by decide +kernel)
theorem rk_257 {M : Mem} (h : RT M) : M.2.2.2[257]? = some (100, 8) := h.1 (257, 100, 8) (by decide +kernel)
theorem rk_258 {M : Mem} (h : RT M) : M.2.2.2[258]? = some (100, 8) := h.1 (258, 100, 8) (by decide +kernel)
theorem rf_0 {M : Mem} (h : RT M) : M.2.2.1 160 0 = some 161 := h.2 (0, 161) (by decide +kernel)
theorem rf_3 {M : Mem} (h : RT M) : M.2.2.1 160 3 = some 162 := h.2 (3, 162) (by decide +kernel)
theorem rf_4 {M : Mem} (h : RT M) : M.2.2.1 160 4 = some 163 := h.2 (4, 163) (by decide +kernel)
theorem rf_5 {M : Mem} (h : RT M) : M.2.2.1 160 5 = some 164 := h.2 (5, 164) (by decide +kernel)
theorem rf_6 {M : Mem} (h : RT M) : M.2.2.1 160 6 = some 165 := h.2 (6, 165) (by decide +kernel)
theorem rf_7 {M : Mem} (h : RT M) : M.2.2.1 160 7 = some 166 := h.2 (7, 166) (by decide +kernel)
theorem rf_8 {M : Mem} (h : RT M) : M.2.2.1 160 8 = some 167 := h.2 (8, 167) (by decide +kernel)
theorem rf_9 {M : Mem} (h : RT M) : M.2.2.1 160 9 = some 168 := h.2 (9, 168) (by decide +kernel)
theorem rf_10 {M : Mem} (h : RT M) : M.2.2.1 160 10 = some 169 := h.2 (10, 169) (by decide +kernel)
theorem rf_11 {M : Mem} (h : RT M) : M.2.2.1 160 11 = some 170 := h.2 (11, 170) (by decide +kernel)
theorem rf_12 {M : Mem} (h : RT M) : M.2.2.1 160 12 = some 171 := h.2 (12, 171) (by decide +kernel)
theorem rf_13 {M : Mem} (h : RT M) : M.2.2.1 160 13 = some 172 := h.2 (13, 172) (by decide +kernel)
theorem rf_14 {M : Mem} (h : RT M) : M.2.2.1 160 14 = some 173 := h.2 (14, 173) (by decide +kernel)
theorem rf_15 {M : Mem} (h : RT M) : M.2.2.1 160 15 = some 174 := h.2 (15, 174) (by decide +kernel)
theorem rf_16 {M : Mem} (h : RT M) : M.2.2.1 160 16 = some 175 := h.2 (16, 175) (by decide +kernel)
theorem rf_17 {M : Mem} (h : RT M) : M.2.2.1 160 17 = some 176 := h.2 (17, 176) (by decide +kernel)
theorem rf_18 {M : Mem} (h : RT M) : M.2.2.1 160 18 = some 177 := h.2 (18, 177) (by decide +kernel)
theorem rf_19 {M : Mem} (h : RT M) : M.2.2.1 160 19 = some 178 := h.2 (19, 178) (by decide +kernel)
theorem rf_20 {M : Mem} (h : RT M) : M.2.2.1 160 20 = some 179 := h.2 (20, 179) (by decide +kernel)
theorem rf_21 {M : Mem} (h : RT M) : M.2.2.1 160 21 = some 180 := h.2 (21, 180) (by decide +kernel)
theorem rf_22 {M : Mem} (h : RT M) : M.2.2.1 160 22 = some 181 := h.2 (22, 181) (by decide +kernel)
theorem rf_23 {M : Mem} (h : RT M) : M.2.2.1 160 23 = some 182 := h.2 (23, 182) (by decide +kernel)
theorem rf_24 {M : Mem} (h : RT M) : M.2.2.1 160 24 = some 183 := h.2 (24, 183) (by decide +kernel)
theorem rf_25 {M : Mem} (h : RT M) : M.2.2.1 160 25 = some 184 := h.2 (25, 184) (by decide +kernel)
theorem rf_26 {M : Mem} (h : RT M) : M.2.2.1 160 26 = some 185 := h.2 (26, 185) (by decide +kernel)
theorem rf_27 {M : Mem} (h : RT M) : M.2.2.1 160 27 = some 186 := h.2 (27, 186) (by decide +kernel)
theorem rf_28 {M : Mem} (h : RT M) : M.2.2.1 160 28 = some 187 := h.2 (28, 187) (by decide +kernel)
theorem rf_29 {M : Mem} (h : RT M) : M.2.2.1 160 29 = some 188 := h.2 (29, 188) (by decide +kernel)
theorem rf_30 {M : Mem} (h : RT M) : M.2.2.1 160 30 = some 189 := h.2 (30, 189) (by decide +kernel)
theorem rf_31 {M : Mem} (h : RT M) : M.2.2.1 160 31 = some 190 := h.2 (31, 190) (by decide +kernel)
theorem rf_32 {M : Mem} (h : RT M) : M.2.2.1 160 32 = some 191 := h.2 (32, 191) (by decide +kernel)
theorem rf_33 {M : Mem} (h : RT M) : M.2.2.1 160 33 = some 192 := h.2 (33, 192) (by decide +kernel)
theorem rf_34 {M : Mem} (h : RT M) : M.2.2.1 160 34 = some 193 := h.2 (34, 193) (by decide +kernel)
theorem rf_35 {M : Mem} (h : RT M) : M.2.2.1 160 35 = some 194 := h.2 (35, 194) (by decide +kernel)
theorem rf_44 {M : Mem} (h : RT M) : M.2.2.1 160 44 = some 195 := h.2 (44, 195) (by decide +kernel)
theorem rf_45 {M : Mem} (h : RT M) : M.2.2.1 160 45 = some 196 := h.2 (45, 196) (by decide +kernel)
theorem rf_46 {M : Mem} (h : RT M) : M.2.2.1 160 46 = some 197 := h.2 (46, 197) (by decide +kernel)
theorem rf_47 {M : Mem} (h : RT M) : M.2.2.1 160 47 = some 198 := h.2 (47, 198) (by decide +kernel)
theorem rf_52 {M : Mem} (h : RT M) : M.2.2.1 160 52 = some 199 := h.2 (52, 199) (by decide +kernel)
theorem rf_54 {M : Mem} (h : RT M) : M.2.2.1 160 54 = some 200 := h.2 (54, 200) (by decide +kernel)
theorem rf_55 {M : Mem} (h : RT M) : M.2.2.1 160 55 = some 201 := h.2 (55, 201) (by decide +kernel)
theorem rf_56 {M : Mem} (h : RT M) : M.2.2.1 160 56 = some 202 := h.2 (56, 202) (by decide +kernel)
theorem rf_57 {M : Mem} (h : RT M) : M.2.2.1 160 57 = some 203 := h.2 (57, 203) (by decide +kernel)
theorem rf_58 {M : Mem} (h : RT M) : M.2.2.1 160 58 = some 204 := h.2 (58, 204) (by decide +kernel)
theorem rf_59 {M : Mem} (h : RT M) : M.2.2.1 160 59 = some 205 := h.2 (59, 205) (by decide +kernel)
theorem rf_60 {M : Mem} (h : RT M) : M.2.2.1 160 60 = some 206 := h.2 (60, 206) (by decide +kernel)
theorem rf_61 {M : Mem} (h : RT M) : M.2.2.1 160 61 = some 207 := h.2 (61, 207) (by decide +kernel)
theorem rf_63 {M : Mem} (h : RT M) : M.2.2.1 160 63 = some 208 := h.2 (63, 208) (by decide +kernel)
theorem rf_68 {M : Mem} (h : RT M) : M.2.2.1 160 68 = some 209 := h.2 (68, 209) (by decide +kernel)
theorem rf_69 {M : Mem} (h : RT M) : M.2.2.1 160 69 = some 210 := h.2 (69, 210) (by decide +kernel)
theorem rf_70 {M : Mem} (h : RT M) : M.2.2.1 160 70 = some 211 := h.2 (70, 211) (by decide +kernel)
theorem rf_71 {M : Mem} (h : RT M) : M.2.2.1 160 71 = some 212 := h.2 (71, 212) (by decide +kernel)
theorem rf_72 {M : Mem} (h : RT M) : M.2.2.1 160 72 = some 213 := h.2 (72, 213) (by decide +kernel)
theorem rf_74 {M : Mem} (h : RT M) : M.2.2.1 160 74 = some 214 := h.2 (74, 214) (by decide +kernel)
theorem rf_75 {M : Mem} (h : RT M) : M.2.2.1 160 75 = some 215 := h.2 (75, 215) (by decide +kernel)
theorem rf_94 {M : Mem} (h : RT M) : M.2.2.1 160 94 = some 216 := h.2 (94, 216) (by decide +kernel)
theorem rf_95 {M : Mem} (h : RT M) : M.2.2.1 160 95 = some 217 := h.2 (95, 217) (by decide +kernel)
theorem rf_96 {M : Mem} (h : RT M) : M.2.2.1 160 96 = some 218 := h.2 (96, 218) (by decide +kernel)
theorem rf_99 {M : Mem} (h : RT M) : M.2.2.1 160 99 = some 219 := h.2 (99, 219) (by decide +kernel)
theorem rf_100 {M : Mem} (h : RT M) : M.2.2.1 160 100 = some 220 := h.2 (100, 220) (by decide +kernel)
theorem rf_104 {M : Mem} (h : RT M) : M.2.2.1 160 104 = some 221 := h.2 (104, 221) (by decide +kernel)
theorem rf_105 {M : Mem} (h : RT M) : M.2.2.1 160 105 = some 222 := h.2 (105, 222) (by decide +kernel)
theorem rf_106 {M : Mem} (h : RT M) : M.2.2.1 160 106 = some 223 := h.2 (106, 223) (by decide +kernel)
theorem rf_107 {M : Mem} (h : RT M) : M.2.2.1 160 107 = some 224 := h.2 (107, 224) (by decide +kernel)
theorem rf_108 {M : Mem} (h : RT M) : M.2.2.1 160 108 = some 225 := h.2 (108, 225) (by decide +kernel)
theorem rf_110 {M : Mem} (h : RT M) : M.2.2.1 160 110 = some 226 := h.2 (110, 226) (by decide +kernel)
theorem rf_112 {M : Mem} (h : RT M) : M.2.2.1 160 112 = some 227 := h.2 (112, 227) (by decide +kernel)
theorem rf_113 {M : Mem} (h : RT M) : M.2.2.1 160 113 = some 228 := h.2 (113, 228) (by decide +kernel)
theorem rf_114 {M : Mem} (h : RT M) : M.2.2.1 160 114 = some 229 := h.2 (114, 229) (by decide +kernel)
theorem rf_115 {M : Mem} (h : RT M) : M.2.2.1 160 115 = some 230 := h.2 (115, 230) (by decide +kernel)
theorem rf_116 {M : Mem} (h : RT M) : M.2.2.1 160 116 = some 231 := h.2 (116, 231) (by decide +kernel)
theorem rf_117 {M : Mem} (h : RT M) : M.2.2.1 160 117 = some 232 := h.2 (117, 232) (by decide +kernel)
theorem rf_118 {M : Mem} (h : RT M) : M.2.2.1 160 118 = some 233 := h.2 (118, 233) (by decide +kernel)
theorem rf_119 {M : Mem} (h : RT M) : M.2.2.1 160 119 = some 234 := h.2 (119, 234) (by decide +kernel)
theorem rf_120 {M : Mem} (h : RT M) : M.2.2.1 160 120 = some 235 := h.2 (120, 235) (by decide +kernel)
theorem rf_121 {M : Mem} (h : RT M) : M.2.2.1 160 121 = some 236 := h.2 (121, 236) (by decide +kernel)
theorem rf_122 {M : Mem} (h : RT M) : M.2.2.1 160 122 = some 237 := h.2 (122, 237) (by decide +kernel)
theorem rf_123 {M : Mem} (h : RT M) : M.2.2.1 160 123 = some 238 := h.2 (123, 238) (by decide +kernel)
theorem rf_124 {M : Mem} (h : RT M) : M.2.2.1 160 124 = some 239 := h.2 (124, 239) (by decide +kernel)
theorem rf_125 {M : Mem} (h : RT M) : M.2.2.1 160 125 = some 240 := h.2 (125, 240) (by decide +kernel)
theorem rf_126 {M : Mem} (h : RT M) : M.2.2.1 160 126 = some 241 := h.2 (126, 241) (by decide +kernel)
theorem rf_127 {M : Mem} (h : RT M) : M.2.2.1 160 127 = some 242 := h.2 (127, 242) (by decide +kernel)
theorem rf_128 {M : Mem} (h : RT M) : M.2.2.1 160 128 = some 243 := h.2 (128, 243) (by decide +kernel)
theorem rf_134 {M : Mem} (h : RT M) : M.2.2.1 160 134 = some 244 := h.2 (134, 244) (by decide +kernel)
theorem rf_135 {M : Mem} (h : RT M) : M.2.2.1 160 135 = some 245 := h.2 (135, 245) (by decide +kernel)
theorem rf_139 {M : Mem} (h : RT M) : M.2.2.1 160 139 = some 246 := h.2 (139, 246) (by decide +kernel)
theorem rf_140 {M : Mem} (h : RT M) : M.2.2.1 160 140 = some 247 := h.2 (140, 247) (by decide +kernel)
theorem rf_141 {M : Mem} (h : RT M) : M.2.2.1 160 141 = some 248 := h.2 (141, 248) (by decide +kernel)
theorem rf_142 {M : Mem} (h : RT M) : M.2.2.1 160 142 = some 249 := h.2 (142, 249) (by decide +kernel)
theorem rf_143 {M : Mem} (h : RT M) : M.2.2.1 160 143 = some 250 := h.2 (143, 250) (by decide +kernel)
theorem rf_144 {M : Mem} (h : RT M) : M.2.2.1 160 144 = some 251 := h.2 (144, 251) (by decide +kernel)
theorem rf_145 {M : Mem} (h : RT M) : M.2.2.1 160 145 = some 252 := h.2 (145, 252) (by decide +kernel)
theorem rf_146 {M : Mem} (h : RT M) : M.2.2.1 160 146 = some 253 := h.2 (146, 253) (by decide +kernel)
theorem rf_147 {M : Mem} (h : RT M) : M.2.2.1 160 147 = some 254 := h.2 (147, 254) (by decide +kernel)
theorem rf_152 {M : Mem} (h : RT M) : M.2.2.1 160 152 = some 255 := h.2 (152, 255) (by decide +kernel)
theorem rf_153 {M : Mem} (h : RT M) : M.2.2.1 160 153 = some 256 := h.2 (153, 256) (by decide +kernel)
theorem rf_155 {M : Mem} (h : RT M) : M.2.2.1 160 155 = some 257 := h.2 (155, 257) (by decide +kernel)
theorem rf_156 {M : Mem} (h : RT M) : M.2.2.1 160 156 = some 258 := h.2 (156, 258) (by decide +kernel)
theorem RT.fr {W : List (Nat × Nat)} {M M2 : Mem} (h : RT M) (f : Fr W M M2) : RT M2 := ⟨fun q e => by rw [f.k]; exact h.1 q e, fun q e => by rw [f.p]; exact h.2 q e⟩
theorem RT.sI {M : Mem} {a j : Nat} {v : Int32} (h : RT M) : RT (sI M a j v) := h
theorem RT.sL {M : Mem} {a j : Nat} {v : Int64} (h : RT M) : RT (sL M a j v) := h
theorem li_m16 : (-16 : Int32) = iI (-16) := by decide +kernel
theorem li_m13 : (-13 : Int32) = iI (-13) := by decide +kernel
theorem li_m12 : (-12 : Int32) = iI (-12) := by decide +kernel
theorem li_m11 : (-11 : Int32) = iI (-11) := by decide +kernel
theorem li_m10 : (-10 : Int32) = iI (-10) := by decide +kernel
theorem li_m8 : (-8 : Int32) = iI (-8) := by decide +kernel
theorem li_m5 : (-5 : Int32) = iI (-5) := by decide +kernel
theorem li_m4 : (-4 : Int32) = iI (-4) := by decide +kernel
theorem li_m3 : (-3 : Int32) = iI (-3) := by decide +kernel
theorem li_m2 : (-2 : Int32) = iI (-2) := by decide +kernel
theorem li_m1 : (-1 : Int32) = iI (-1) := by decide +kernel
theorem li_0 : (0 : Int32) = iI 0 := by decide +kernel
theorem li_1 : (1 : Int32) = iI 1 := by decide +kernel
theorem li_2 : (2 : Int32) = iI 2 := by decide +kernel
theorem li_3 : (3 : Int32) = iI 3 := by decide +kernel
theorem li_4 : (4 : Int32) = iI 4 := by decide +kernel
theorem li_5 : (5 : Int32) = iI 5 := by decide +kernel
theorem li_6 : (6 : Int32) = iI 6 := by decide +kernel
theorem li_7 : (7 : Int32) = iI 7 := by decide +kernel
theorem li_8 : (8 : Int32) = iI 8 := by decide +kernel
theorem li_9 : (9 : Int32) = iI 9 := by decide +kernel
theorem li_10 : (10 : Int32) = iI 10 := by decide +kernel
theorem li_11 : (11 : Int32) = iI 11 := by decide +kernel
theorem li_12 : (12 : Int32) = iI 12 := by decide +kernel
theorem li_13 : (13 : Int32) = iI 13 := by decide +kernel
theorem li_14 : (14 : Int32) = iI 14 := by decide +kernel
theorem li_15 : (15 : Int32) = iI 15 := by decide +kernel
theorem li_16 : (16 : Int32) = iI 16 := by decide +kernel
theorem li_17 : (17 : Int32) = iI 17 := by decide +kernel
theorem li_18 : (18 : Int32) = iI 18 := by decide +kernel
theorem li_19 : (19 : Int32) = iI 19 := by decide +kernel
theorem li_20 : (20 : Int32) = iI 20 := by decide +kernel
theorem li_21 : (21 : Int32) = iI 21 := by decide +kernel
theorem li_22 : (22 : Int32) = iI 22 := by decide +kernel
theorem li_23 : (23 : Int32) = iI 23 := by decide +kernel
theorem li_24 : (24 : Int32) = iI 24 := by decide +kernel
theorem li_25 : (25 : Int32) = iI 25 := by decide +kernel
theorem li_26 : (26 : Int32) = iI 26 := by decide +kernel
theorem li_27 : (27 : Int32) = iI 27 := by decide +kernel
theorem li_28 : (28 : Int32) = iI 28 := by decide +kernel
theorem li_29 : (29 : Int32) = iI 29 := by decide +kernel
theorem li_30 : (30 : Int32) = iI 30 := by decide +kernel
theorem li_31 : (31 : Int32) = iI 31 := by decide +kernel
theorem li_32 : (32 : Int32) = iI 32 := by decide +kernel
theorem li_33 : (33 : Int32) = iI 33 := by decide +kernel
theorem li_34 : (34 : Int32) = iI 34 := by decide +kernel
theorem li_35 : (35 : Int32) = iI 35 := by decide +kernel
theorem li_36 : (36 : Int32) = iI 36 := by decide +kernel
theorem li_37 : (37 : Int32) = iI 37 := by decide +kernel
theorem li_38 : (38 : Int32) = iI 38 := by decide +kernel
theorem li_39 : (39 : Int32) = iI 39 := by decide +kernel
theorem li_40 : (40 : Int32) = iI 40 := by decide +kernel
theorem li_41 : (41 : Int32) = iI 41 := by decide +kernel
theorem li_42 : (42 : Int32) = iI 42 := by decide +kernel
theorem li_43 : (43 : Int32) = iI 43 := by decide +kernel
theorem li_44 : (44 : Int32) = iI 44 := by decide +kernel
theorem li_45 : (45 : Int32) = iI 45 := by decide +kernel
theorem li_46 : (46 : Int32) = iI 46 := by decide +kernel
theorem li_47 : (47 : Int32) = iI 47 := by decide +kernel
theorem li_48 : (48 : Int32) = iI 48 := by decide +kernel
theorem li_50 : (50 : Int32) = iI 50 := by decide +kernel
theorem li_57 : (57 : Int32) = iI 57 := by decide +kernel
theorem li_59 : (59 : Int32) = iI 59 := by decide +kernel
theorem li_60 : (60 : Int32) = iI 60 := by decide +kernel
theorem li_61 : (61 : Int32) = iI 61 := by decide +kernel
theorem li_63 : (63 : Int32) = iI 63 := by decide +kernel
theorem li_64 : (64 : Int32) = iI 64 := by decide +kernel
theorem li_71 : (71 : Int32) = iI 71 := by decide +kernel
theorem li_91 : (91 : Int32) = iI 91 := by decide +kernel
theorem li_93 : (93 : Int32) = iI 93 := by decide +kernel
theorem li_96 : (96 : Int32) = iI 96 := by decide +kernel
theorem li_97 : (97 : Int32) = iI 97 := by decide +kernel
theorem li_100 : (100 : Int32) = iI 100 := by decide +kernel
theorem li_120 : (120 : Int32) = iI 120 := by decide +kernel
theorem li_122 : (122 : Int32) = iI 122 := by decide +kernel
theorem li_123 : (123 : Int32) = iI 123 := by decide +kernel
theorem li_125 : (125 : Int32) = iI 125 := by decide +kernel
theorem li_128 : (128 : Int32) = iI 128 := by decide +kernel
theorem li_129 : (129 : Int32) = iI 129 := by decide +kernel
theorem li_130 : (130 : Int32) = iI 130 := by decide +kernel
theorem li_192 : (192 : Int32) = iI 192 := by decide +kernel
theorem li_200 : (200 : Int32) = iI 200 := by decide +kernel
theorem li_201 : (201 : Int32) = iI 201 := by decide +kernel
theorem li_202 : (202 : Int32) = iI 202 := by decide +kernel
theorem li_203 : (203 : Int32) = iI 203 := by decide +kernel
theorem li_204 : (204 : Int32) = iI 204 := by decide +kernel
theorem li_205 : (205 : Int32) = iI 205 := by decide +kernel
theorem li_206 : (206 : Int32) = iI 206 := by decide +kernel
theorem li_207 : (207 : Int32) = iI 207 := by decide +kernel
theorem li_208 : (208 : Int32) = iI 208 := by decide +kernel
theorem li_209 : (209 : Int32) = iI 209 := by decide +kernel
theorem li_210 : (210 : Int32) = iI 210 := by decide +kernel
theorem li_211 : (211 : Int32) = iI 211 := by decide +kernel
theorem li_212 : (212 : Int32) = iI 212 := by decide +kernel
theorem li_213 : (213 : Int32) = iI 213 := by decide +kernel
theorem li_214 : (214 : Int32) = iI 214 := by decide +kernel
theorem li_215 : (215 : Int32) = iI 215 := by decide +kernel
theorem li_216 : (216 : Int32) = iI 216 := by decide +kernel
theorem li_217 : (217 : Int32) = iI 217 := by decide +kernel
theorem li_218 : (218 : Int32) = iI 218 := by decide +kernel
theorem li_219 : (219 : Int32) = iI 219 := by decide +kernel
theorem li_220 : (220 : Int32) = iI 220 := by decide +kernel
theorem li_221 : (221 : Int32) = iI 221 := by decide +kernel
theorem li_222 : (222 : Int32) = iI 222 := by decide +kernel
theorem li_223 : (223 : Int32) = iI 223 := by decide +kernel
theorem li_224 : (224 : Int32) = iI 224 := by decide +kernel
theorem li_225 : (225 : Int32) = iI 225 := by decide +kernel
theorem li_226 : (226 : Int32) = iI 226 := by decide +kernel
theorem li_227 : (227 : Int32) = iI 227 := by decide +kernel
theorem li_255 : (255 : Int32) = iI 255 := by decide +kernel
theorem li_256 : (256 : Int32) = iI 256 := by decide +kernel
theorem li_300 : (300 : Int32) = iI 300 := by decide +kernel
theorem li_301 : (301 : Int32) = iI 301 := by decide +kernel
theorem li_302 : (302 : Int32) = iI 302 := by decide +kernel
theorem li_400 : (400 : Int32) = iI 400 := by decide +kernel
theorem li_401 : (401 : Int32) = iI 401 := by decide +kernel
theorem li_402 : (402 : Int32) = iI 402 := by decide +kernel
theorem li_403 : (403 : Int32) = iI 403 := by decide +kernel
theorem li_407 : (407 : Int32) = iI 407 := by decide +kernel
theorem li_408 : (408 : Int32) = iI 408 := by decide +kernel
theorem li_409 : (409 : Int32) = iI 409 := by decide +kernel
theorem li_410 : (410 : Int32) = iI 410 := by decide +kernel
theorem li_411 : (411 : Int32) = iI 411 := by decide +kernel
theorem li_412 : (412 : Int32) = iI 412 := by decide +kernel
theorem li_413 : (413 : Int32) = iI 413 := by decide +kernel
theorem li_414 : (414 : Int32) = iI 414 := by decide +kernel
theorem li_415 : (415 : Int32) = iI 415 := by decide +kernel
theorem li_416 : (416 : Int32) = iI 416 := by decide +kernel
theorem li_417 : (417 : Int32) = iI 417 := by decide +kernel
theorem li_418 : (418 : Int32) = iI 418 := by decide +kernel
theorem li_419 : (419 : Int32) = iI 419 := by decide +kernel
theorem li_420 : (420 : Int32) = iI 420 := by decide +kernel
theorem li_421 : (421 : Int32) = iI 421 := by decide +kernel
theorem li_422 : (422 : Int32) = iI 422 := by decide +kernel
theorem li_423 : (423 : Int32) = iI 423 := by decide +kernel
theorem li_424 : (424 : Int32) = iI 424 := by decide +kernel
theorem li_425 : (425 : Int32) = iI 425 := by decide +kernel
theorem li_426 : (426 : Int32) = iI 426 := by decide +kernel
theorem li_427 : (427 : Int32) = iI 427 := by decide +kernel
theorem li_428 : (428 : Int32) = iI 428 := by decide +kernel
theorem li_768 : (768 : Int32) = iI 768 := by decide +kernel
theorem li_1000 : (1000 : Int32) = iI 1000 := by decide +kernel
theorem li_1001 : (1001 : Int32) = iI 1001 := by decide +kernel
theorem li_1023 : (1023 : Int32) = iI 1023 := by decide +kernel
theorem li_1499 : (1499 : Int32) = iI 1499 := by decide +kernel
theorem li_1500 : (1500 : Int32) = iI 1500 := by decide +kernel
theorem li_1600 : (1600 : Int32) = iI 1600 := by decide +kernel
theorem li_2000 : (2000 : Int32) = iI 2000 := by decide +kernel
theorem li_2520 : (2520 : Int32) = iI 2520 := by decide +kernel
theorem li_3000 : (3000 : Int32) = iI 3000 := by decide +kernel
theorem li_3001 : (3001 : Int32) = iI 3001 := by decide +kernel
theorem li_4000 : (4000 : Int32) = iI 4000 := by decide +kernel
theorem li_4095 : (4095 : Int32) = iI 4095 := by decide +kernel
theorem li_4096 : (4096 : Int32) = iI 4096 := by decide +kernel
theorem li_4800 : (4800 : Int32) = iI 4800 := by decide +kernel
theorem li_8000 : (8000 : Int32) = iI 8000 := by decide +kernel
theorem li_9600 : (9600 : Int32) = iI 9600 := by decide +kernel
theorem li_12345 : (12345 : Int32) = iI 12345 := by decide +kernel
theorem li_20000 : (20000 : Int32) = iI 20000 := by decide +kernel
theorem li_40000 : (40000 : Int32) = iI 40000 := by decide +kernel
theorem li_55232 : (55232 : Int32) = iI 55232 := by decide +kernel
theorem li_56320 : (56320 : Int32) = iI 56320 := by decide +kernel
theorem li_65536 : (65536 : Int32) = iI 65536 := by decide +kernel
theorem li_1000000 : (1000000 : Int32) = iI 1000000 := by decide +kernel
theorem li_252645135 : (252645135 : Int32) = iI 252645135 := by decide +kernel
theorem li_858993459 : (858993459 : Int32) = iI 858993459 := by decide +kernel
theorem li_999999999 : (999999999 : Int32) = iI 999999999 := by decide +kernel
theorem li_1103515245 : (1103515245 : Int32) = iI 1103515245 := by decide +kernel
theorem li_1431655765 : (1431655765 : Int32) = iI 1431655765 := by decide +kernel
theorem li_2147483639 : (2147483639 : Int32) = iI 2147483639 := by decide +kernel
theorem li_2147483647 : (2147483647 : Int32) = iI 2147483647 := by decide +kernel
theorem z184_1 {d : Nat} {M : Mem} (hd : 1 ≤ d) {v a b : Int32} {x y z : Int} (hv : v = iI x) (ha : a = iI y) (hb : b = iI z) (h : -2147483648 ≤ y ∧ y ≤ x ∧ x ≤ z ∧ z ≤ 2147483647) : runX d 184 [.int (v), .int (a), .int (b)] M = some (.int (iI 1), M) := by
  obtain ⟨d, rfl⟩ : ∃ e, d = e + 1 := ⟨d - 1, by omega⟩
  refine Rt.e ?_
  rw [r184]; unfold b184; rw [aI_e, aI_e, aI_e, aZ_e]; unfold c184
  refine rs1 (jn_v) ?_
  refine rs1 (jn_v) ?_
  refine rs1 (if_neg (lsI_n (hv) (ha) (by omega))) ?_
  refine rs1 (if_neg (lsI_n (hb) (hv) (by omega))) ?_
  refine rs1 (jv_e) ?_
  refine rs1 (rtZ_q (z := 1) (li_1) (by omega)) ?_
  exact Rt.ok ⟨rfl, rfl⟩
theorem z184_0 {d : Nat} {M : Mem} (hd : 1 ≤ d) {v a b : Int32} {x y z : Int} (hv : v = iI x) (ha : a = iI y) (hb : b = iI z) (h : -2147483648 ≤ x ∧ x ≤ 2147483647 ∧ -2147483648 ≤ y ∧ y ≤ 2147483647 ∧ -2147483648 ≤ z ∧ z ≤ 2147483647 ∧ (x < y ∨ z < x)) : runX d 184 [.int v, .int a, .int b] M = some (.int (iI 0), M) := by
  obtain ⟨d, rfl⟩ : ∃ e, d = e + 1 := ⟨d - 1, by omega⟩
  rw [r184]; unfold b184; rw [aI_e, aI_e, aI_e, aZ_e]; unfold c184
  rw [jn_e, jn_e]
  by_cases c1 : x < y
  · rw [if_pos (lsI_p hv ha (by omega))]; exact rtZ_q li_0 (by omega)
  · rw [if_neg (lsI_n hv ha (by omega)), if_pos (lsI_p hb hv (by omega))]; exact rtZ_q li_0 (by omega)
theorem z188_1 {d : Nat} {M : Mem} (hd : 2 ≤ d) {v : Int32} {x : Int} (hv : v = iI x) (h : 97 ≤ x ∧ x ≤ 122) : runX d 188 [.int v] M = some (.int (iI 1), M) := by
  obtain ⟨d, rfl⟩ : ∃ e, d = e + 1 := ⟨d - 1, by omega⟩
  rw [r188]; unfold b188; rw [aI_e, aZ_e]; unfold c188
  rw [cI_e (z184_1 (by omega) hv li_97 li_122 (by omega)), rtZ_q rfl (by omega)]
theorem z188_0 {d : Nat} {M : Mem} (hd : 2 ≤ d) {v : Int32} {x : Int} (hv : v = iI x) (h : -2147483648 ≤ x ∧ x ≤ 2147483647 ∧ (x < 97 ∨ 122 < x)) : runX d 188 [.int v] M = some (.int (iI 0), M) := by
  obtain ⟨d, rfl⟩ : ∃ e, d = e + 1 := ⟨d - 1, by omega⟩
  rw [r188]; unfold b188; rw [aI_e, aZ_e]; unfold c188
  rw [cI_e (z184_0 (by omega) hv li_97 li_122 (by omega)), rtZ_q rfl (by omega)]
theorem z189_1 {d : Nat} {M : Mem} (hd : 2 ≤ d) {v : Int32} {x : Int} (hv : v = iI x) (h : 48 ≤ x ∧ x ≤ 57) : runX d 189 [.int v] M = some (.int (iI 1), M) := by
  obtain ⟨d, rfl⟩ : ∃ e, d = e + 1 := ⟨d - 1, by omega⟩
  rw [r189]; unfold b189; rw [aI_e, aZ_e]; unfold c189
  rw [cI_e (z184_1 (by omega) hv li_48 li_57 (by omega)), rtZ_q rfl (by omega)]
theorem z189_0 {d : Nat} {M : Mem} (hd : 2 ≤ d) {v : Int32} {x : Int} (hv : v = iI x) (h : -2147483648 ≤ x ∧ x ≤ 2147483647 ∧ (x < 48 ∨ 57 < x)) : runX d 189 [.int v] M = some (.int (iI 0), M) := by
  obtain ⟨d, rfl⟩ : ∃ e, d = e + 1 := ⟨d - 1, by omega⟩
  rw [r189]; unfold b189; rw [aI_e, aZ_e]; unfold c189
  rw [cI_e (z184_0 (by omega) hv li_48 li_57 (by omega)), rtZ_q rfl (by omega)]
