theorem dL_law_211 : decode cL_law 211 = .ok (.iload_n 3, 1) := tb_d tk_L_law_1 29 (211, .iload_n 3, 1) rfl
theorem dL_law_212 : decode cL_law 212 = .ok (.iconst 2, 1) := tb_d tk_L_law_1 30 (212, .iconst 2, 1) rfl
theorem dL_law_213 : decode cL_law 213 = .ok (.iadd, 1) := tb_d tk_L_law_1 31 (213, .iadd, 1) rfl
theorem dL_law_214 : decode cL_law 214 = .ok (.iaload, 1) := tb_d tk_L_law_1 32 (214, .iaload, 1) rfl
theorem dL_law_215 : decode cL_law 215 = .ok (.aload_n 0, 1) := tb_d tk_L_law_1 33 (215, .aload_n 0, 1) rfl
theorem dL_law_216 : decode cL_law 216 = .ok (.iload_n 3, 1) := tb_d tk_L_law_1 34 (216, .iload_n 3, 1) rfl
theorem dL_law_217 : decode cL_law 217 = .ok (.iconst 3, 1) := tb_d tk_L_law_1 35 (217, .iconst 3, 1) rfl
theorem dL_law_218 : decode cL_law 218 = .ok (.iadd, 1) := tb_d tk_L_law_1 36 (218, .iadd, 1) rfl
theorem dL_law_219 : decode cL_law 219 = .ok (.iaload, 1) := tb_d tk_L_law_1 37 (219, .iaload, 1) rfl
theorem dL_law_220 : decode cL_law 220 = .ok (.invokevirtual 13, 3) := tb_d tk_L_law_1 38 (220, .invokevirtual 13, 3) rfl
theorem dL_law_223 : decode cL_law 223 = .ok (.pop, 1) := tb_d tk_L_law_1 39 (223, .pop, 1) rfl
def tb_L_law_2 : List (Nat × Instr × Nat) := [(224, .aload_n 2, 1), (225, .aload_n 0, 1), (226, .iload_n 3, 1), (227, .iconst 1, 1), (228, .iadd, 1), (229, .iaload, 1), (230, .aload_n 0, 1), (231, .iload_n 3, 1), (232, .iconst 2, 1), (233, .iadd, 1), (234, .iaload, 1), (235, .aload_n 0, 1), (236, .iload_n 3, 1), (237, .iconst 3, 1), (238, .iadd, 1), (239, .iaload, 1), (240, .invokevirtual 17, 3), (243, .pop, 1), (244, .goto 1177, 3), (247, .aload_n 1, 1), (248, .aload_n 0, 1), (249, .iload_n 3, 1), (250, .iconst 1, 1), (251, .iadd, 1), (252, .iaload, 1), (253, .aload_n 0, 1), (254, .iload_n 3, 1), (255, .iconst 2, 1), (256, .iadd, 1), (257, .iaload, 1), (258, .aload_n 0, 1), (259, .iload_n 3, 1), (260, .iconst 3, 1), (261, .iadd, 1), (262, .iaload, 1), (263, .invokevirtual 18, 3), (266, .pop, 1), (267, .aload_n 2, 1), (268, .aload_n 0, 1), (269, .iload_n 3, 1)]
set_option maxRecDepth 100000 in
theorem tk_L_law_2 : (tb_L_law_2.all fun q => decide (decode cL_law q.1 = .ok q.2)) = true := by decide +kernel
theorem dL_law_224 : decode cL_law 224 = .ok (.aload_n 2, 1) := tb_d tk_L_law_2 0 (224, .aload_n 2, 1) rfl
theorem dL_law_225 : decode cL_law 225 = .ok (.aload_n 0, 1) := tb_d tk_L_law_2 1 (225, .aload_n 0, 1) rfl
theorem dL_law_226 : decode cL_law 226 = .ok (.iload_n 3, 1) := tb_d tk_L_law_2 2 (226, .iload_n 3, 1) rfl
theorem dL_law_227 : decode cL_law 227 = .ok (.iconst 1, 1) := tb_d tk_L_law_2 3 (227, .iconst 1, 1) rfl
theorem dL_law_228 : decode cL_law 228 = .ok (.iadd, 1) := tb_d tk_L_law_2 4 (228, .iadd, 1) rfl
theorem dL_law_229 : decode cL_law 229 = .ok (.iaload, 1) := tb_d tk_L_law_2 5 (229, .iaload, 1) rfl
theorem dL_law_230 : decode cL_law 230 = .ok (.aload_n 0, 1) := tb_d tk_L_law_2 6 (230, .aload_n 0, 1) rfl
theorem dL_law_231 : decode cL_law 231 = .ok (.iload_n 3, 1) := tb_d tk_L_law_2 7 (231, .iload_n 3, 1) rfl
theorem dL_law_232 : decode cL_law 232 = .ok (.iconst 2, 1) := tb_d tk_L_law_2 8 (232, .iconst 2, 1) rfl
theorem dL_law_233 : decode cL_law 233 = .ok (.iadd, 1) := tb_d tk_L_law_2 9 (233, .iadd, 1) rfl
theorem dL_law_234 : decode cL_law 234 = .ok (.iaload, 1) := tb_d tk_L_law_2 10 (234, .iaload, 1) rfl
theorem dL_law_235 : decode cL_law 235 = .ok (.aload_n 0, 1) := tb_d tk_L_law_2 11 (235, .aload_n 0, 1) rfl
theorem dL_law_236 : decode cL_law 236 = .ok (.iload_n 3, 1) := tb_d tk_L_law_2 12 (236, .iload_n 3, 1) rfl
theorem dL_law_237 : decode cL_law 237 = .ok (.iconst 3, 1) := tb_d tk_L_law_2 13 (237, .iconst 3, 1) rfl
theorem dL_law_238 : decode cL_law 238 = .ok (.iadd, 1) := tb_d tk_L_law_2 14 (238, .iadd, 1) rfl
theorem dL_law_239 : decode cL_law 239 = .ok (.iaload, 1) := tb_d tk_L_law_2 15 (239, .iaload, 1) rfl
theorem dL_law_240 : decode cL_law 240 = .ok (.invokevirtual 17, 3) := tb_d tk_L_law_2 16 (240, .invokevirtual 17, 3) rfl
theorem dL_law_243 : decode cL_law 243 = .ok (.pop, 1) := tb_d tk_L_law_2 17 (243, .pop, 1) rfl
theorem dL_law_244 : decode cL_law 244 = .ok (.goto 1177, 3) := tb_d tk_L_law_2 18 (244, .goto 1177, 3) rfl
theorem dL_law_247 : decode cL_law 247 = .ok (.aload_n 1, 1) := tb_d tk_L_law_2 19 (247, .aload_n 1, 1) rfl
theorem dL_law_248 : decode cL_law 248 = .ok (.aload_n 0, 1) := tb_d tk_L_law_2 20 (248, .aload_n 0, 1) rfl
theorem dL_law_249 : decode cL_law 249 = .ok (.iload_n 3, 1) := tb_d tk_L_law_2 21 (249, .iload_n 3, 1) rfl
theorem dL_law_250 : decode cL_law 250 = .ok (.iconst 1, 1) := tb_d tk_L_law_2 22 (250, .iconst 1, 1) rfl
theorem dL_law_251 : decode cL_law 251 = .ok (.iadd, 1) := tb_d tk_L_law_2 23 (251, .iadd, 1) rfl
theorem dL_law_252 : decode cL_law 252 = .ok (.iaload, 1) := tb_d tk_L_law_2 24 (252, .iaload, 1) rfl
theorem dL_law_253 : decode cL_law 253 = .ok (.aload_n 0, 1) := tb_d tk_L_law_2 25 (253, .aload_n 0, 1) rfl
theorem dL_law_254 : decode cL_law 254 = .ok (.iload_n 3, 1) := tb_d tk_L_law_2 26 (254, .iload_n 3, 1) rfl
theorem dL_law_255 : decode cL_law 255 = .ok (.iconst 2, 1) := tb_d tk_L_law_2 27 (255, .iconst 2, 1) rfl
theorem dL_law_256 : decode cL_law 256 = .ok (.iadd, 1) := tb_d tk_L_law_2 28 (256, .iadd, 1) rfl
theorem dL_law_257 : decode cL_law 257 = .ok (.iaload, 1) := tb_d tk_L_law_2 29 (257, .iaload, 1) rfl
theorem dL_law_258 : decode cL_law 258 = .ok (.aload_n 0, 1) := tb_d tk_L_law_2 30 (258, .aload_n 0, 1) rfl
theorem dL_law_259 : decode cL_law 259 = .ok (.iload_n 3, 1) := tb_d tk_L_law_2 31 (259, .iload_n 3, 1) rfl
theorem dL_law_260 : decode cL_law 260 = .ok (.iconst 3, 1) := tb_d tk_L_law_2 32 (260, .iconst 3, 1) rfl
theorem dL_law_261 : decode cL_law 261 = .ok (.iadd, 1) := tb_d tk_L_law_2 33 (261, .iadd, 1) rfl
theorem dL_law_262 : decode cL_law 262 = .ok (.iaload, 1) := tb_d tk_L_law_2 34 (262, .iaload, 1) rfl
theorem dL_law_263 : decode cL_law 263 = .ok (.invokevirtual 18, 3) := tb_d tk_L_law_2 35 (263, .invokevirtual 18, 3) rfl
theorem dL_law_266 : decode cL_law 266 = .ok (.pop, 1) := tb_d tk_L_law_2 36 (266, .pop, 1) rfl
theorem dL_law_267 : decode cL_law 267 = .ok (.aload_n 2, 1) := tb_d tk_L_law_2 37 (267, .aload_n 2, 1) rfl
theorem dL_law_268 : decode cL_law 268 = .ok (.aload_n 0, 1) := tb_d tk_L_law_2 38 (268, .aload_n 0, 1) rfl
theorem dL_law_269 : decode cL_law 269 = .ok (.iload_n 3, 1) := tb_d tk_L_law_2 39 (269, .iload_n 3, 1) rfl
def tb_L_law_3 : List (Nat × Instr × Nat) := [(270, .iconst 1, 1), (271, .iadd, 1), (272, .iaload, 1), (273, .aload_n 0, 1), (274, .iload_n 3, 1), (275, .iconst 2, 1), (276, .iadd, 1), (277, .iaload, 1), (278, .aload_n 0, 1), (279, .iload_n 3, 1), (280, .iconst 3, 1), (281, .iadd, 1), (282, .iaload, 1), (283, .invokevirtual 21, 3), (286, .pop, 1), (287, .goto 1134, 3), (290, .aload_n 1, 1), (291, .aload_n 0, 1), (292, .iload_n 3, 1), (293, .iconst 1, 1), (294, .iadd, 1), (295, .iaload, 1), (296, .aload_n 0, 1), (297, .iload_n 3, 1), (298, .iconst 2, 1), (299, .iadd, 1), (300, .iaload, 1), (301, .aload_n 0, 1), (302, .iload_n 3, 1), (303, .iconst 3, 1), (304, .iadd, 1), (305, .iaload, 1), (306, .aload_n 0, 1), (307, .iload_n 3, 1), (308, .iconst 4, 1), (309, .iadd, 1), (310, .iaload, 1), (311, .aload_n 0, 1), (312, .iload_n 3, 1), (313, .iconst 5, 1)]
set_option maxRecDepth 100000 in
theorem tk_L_law_3 : (tb_L_law_3.all fun q => decide (decode cL_law q.1 = .ok q.2)) = true := by decide +kernel
theorem dL_law_270 : decode cL_law 270 = .ok (.iconst 1, 1) := tb_d tk_L_law_3 0 (270, .iconst 1, 1) rfl
theorem dL_law_271 : decode cL_law 271 = .ok (.iadd, 1) := tb_d tk_L_law_3 1 (271, .iadd, 1) rfl
theorem dL_law_272 : decode cL_law 272 = .ok (.iaload, 1) := tb_d tk_L_law_3 2 (272, .iaload, 1) rfl
theorem dL_law_273 : decode cL_law 273 = .ok (.aload_n 0, 1) := tb_d tk_L_law_3 3 (273, .aload_n 0, 1) rfl
theorem dL_law_274 : decode cL_law 274 = .ok (.iload_n 3, 1) := tb_d tk_L_law_3 4 (274, .iload_n 3, 1) rfl
theorem dL_law_275 : decode cL_law 275 = .ok (.iconst 2, 1) := tb_d tk_L_law_3 5 (275, .iconst 2, 1) rfl
theorem dL_law_276 : decode cL_law 276 = .ok (.iadd, 1) := tb_d tk_L_law_3 6 (276, .iadd, 1) rfl
theorem dL_law_277 : decode cL_law 277 = .ok (.iaload, 1) := tb_d tk_L_law_3 7 (277, .iaload, 1) rfl
theorem dL_law_278 : decode cL_law 278 = .ok (.aload_n 0, 1) := tb_d tk_L_law_3 8 (278, .aload_n 0, 1) rfl
theorem dL_law_279 : decode cL_law 279 = .ok (.iload_n 3, 1) := tb_d tk_L_law_3 9 (279, .iload_n 3, 1) rfl
theorem dL_law_280 : decode cL_law 280 = .ok (.iconst 3, 1) := tb_d tk_L_law_3 10 (280, .iconst 3, 1) rfl
theorem dL_law_281 : decode cL_law 281 = .ok (.iadd, 1) := tb_d tk_L_law_3 11 (281, .iadd, 1) rfl
theorem dL_law_282 : decode cL_law 282 = .ok (.iaload, 1) := tb_d tk_L_law_3 12 (282, .iaload, 1) rfl
theorem dL_law_283 : decode cL_law 283 = .ok (.invokevirtual 21, 3) := tb_d tk_L_law_3 13 (283, .invokevirtual 21, 3) rfl
theorem dL_law_286 : decode cL_law 286 = .ok (.pop, 1) := tb_d tk_L_law_3 14 (286, .pop, 1) rfl
theorem dL_law_287 : decode cL_law 287 = .ok (.goto 1134, 3) := tb_d tk_L_law_3 15 (287, .goto 1134, 3) rfl
theorem dL_law_290 : decode cL_law 290 = .ok (.aload_n 1, 1) := tb_d tk_L_law_3 16 (290, .aload_n 1, 1) rfl
theorem dL_law_291 : decode cL_law 291 = .ok (.aload_n 0, 1) := tb_d tk_L_law_3 17 (291, .aload_n 0, 1) rfl
theorem dL_law_292 : decode cL_law 292 = .ok (.iload_n 3, 1) := tb_d tk_L_law_3 18 (292, .iload_n 3, 1) rfl
theorem dL_law_293 : decode cL_law 293 = .ok (.iconst 1, 1) := tb_d tk_L_law_3 19 (293, .iconst 1, 1) rfl
theorem dL_law_294 : decode cL_law 294 = .ok (.iadd, 1) := tb_d tk_L_law_3 20 (294, .iadd, 1) rfl
theorem dL_law_295 : decode cL_law 295 = .ok (.iaload, 1) := tb_d tk_L_law_3 21 (295, .iaload, 1) rfl
theorem dL_law_296 : decode cL_law 296 = .ok (.aload_n 0, 1) := tb_d tk_L_law_3 22 (296, .aload_n 0, 1) rfl
theorem dL_law_297 : decode cL_law 297 = .ok (.iload_n 3, 1) := tb_d tk_L_law_3 23 (297, .iload_n 3, 1) rfl
theorem dL_law_298 : decode cL_law 298 = .ok (.iconst 2, 1) := tb_d tk_L_law_3 24 (298, .iconst 2, 1) rfl
theorem dL_law_299 : decode cL_law 299 = .ok (.iadd, 1) := tb_d tk_L_law_3 25 (299, .iadd, 1) rfl
theorem dL_law_300 : decode cL_law 300 = .ok (.iaload, 1) := tb_d tk_L_law_3 26 (300, .iaload, 1) rfl
theorem dL_law_301 : decode cL_law 301 = .ok (.aload_n 0, 1) := tb_d tk_L_law_3 27 (301, .aload_n 0, 1) rfl
theorem dL_law_302 : decode cL_law 302 = .ok (.iload_n 3, 1) := tb_d tk_L_law_3 28 (302, .iload_n 3, 1) rfl
theorem dL_law_303 : decode cL_law 303 = .ok (.iconst 3, 1) := tb_d tk_L_law_3 29 (303, .iconst 3, 1) rfl
theorem dL_law_304 : decode cL_law 304 = .ok (.iadd, 1) := tb_d tk_L_law_3 30 (304, .iadd, 1) rfl
theorem dL_law_305 : decode cL_law 305 = .ok (.iaload, 1) := tb_d tk_L_law_3 31 (305, .iaload, 1) rfl
theorem dL_law_306 : decode cL_law 306 = .ok (.aload_n 0, 1) := tb_d tk_L_law_3 32 (306, .aload_n 0, 1) rfl
theorem dL_law_307 : decode cL_law 307 = .ok (.iload_n 3, 1) := tb_d tk_L_law_3 33 (307, .iload_n 3, 1) rfl
theorem dL_law_308 : decode cL_law 308 = .ok (.iconst 4, 1) := tb_d tk_L_law_3 34 (308, .iconst 4, 1) rfl
theorem dL_law_309 : decode cL_law 309 = .ok (.iadd, 1) := tb_d tk_L_law_3 35 (309, .iadd, 1) rfl
theorem dL_law_310 : decode cL_law 310 = .ok (.iaload, 1) := tb_d tk_L_law_3 36 (310, .iaload, 1) rfl
theorem dL_law_311 : decode cL_law 311 = .ok (.aload_n 0, 1) := tb_d tk_L_law_3 37 (311, .aload_n 0, 1) rfl
theorem dL_law_312 : decode cL_law 312 = .ok (.iload_n 3, 1) := tb_d tk_L_law_3 38 (312, .iload_n 3, 1) rfl
theorem dL_law_313 : decode cL_law 313 = .ok (.iconst 5, 1) := tb_d tk_L_law_3 39 (313, .iconst 5, 1) rfl
def tb_L_law_4 : List (Nat × Instr × Nat) := [(314, .iadd, 1), (315, .iaload, 1), (316, .invokevirtual 22, 3), (319, .pop, 1), (320, .aload_n 2, 1), (321, .aload_n 0, 1), (322, .iload_n 3, 1), (323, .iconst 1, 1), (324, .iadd, 1), (325, .iaload, 1), (326, .aload_n 0, 1), (327, .iload_n 3, 1), (328, .iconst 2, 1), (329, .iadd, 1), (330, .iaload, 1), (331, .aload_n 0, 1), (332, .iload_n 3, 1), (333, .iconst 3, 1), (334, .iadd, 1), (335, .iaload, 1), (336, .aload_n 0, 1), (337, .iload_n 3, 1), (338, .iconst 4, 1), (339, .iadd, 1), (340, .iaload, 1), (341, .aload_n 0, 1), (342, .iload_n 3, 1), (343, .iconst 5, 1), (344, .iadd, 1), (345, .iaload, 1), (346, .invokevirtual 26, 3), (349, .pop, 1), (350, .goto 1071, 3), (353, .aload_n 1, 1), (354, .aload_n 0, 1), (355, .iload_n 3, 1), (356, .iconst 1, 1), (357, .iadd, 1), (358, .iaload, 1), (359, .invokevirtual 27, 3)]
set_option maxRecDepth 100000 in
theorem tk_L_law_4 : (tb_L_law_4.all fun q => decide (decode cL_law q.1 = .ok q.2)) = true := by decide +kernel
theorem dL_law_314 : decode cL_law 314 = .ok (.iadd, 1) := tb_d tk_L_law_4 0 (314, .iadd, 1) rfl
theorem dL_law_315 : decode cL_law 315 = .ok (.iaload, 1) := tb_d tk_L_law_4 1 (315, .iaload, 1) rfl
theorem dL_law_316 : decode cL_law 316 = .ok (.invokevirtual 22, 3) := tb_d tk_L_law_4 2 (316, .invokevirtual 22, 3) rfl
theorem dL_law_319 : decode cL_law 319 = .ok (.pop, 1) := tb_d tk_L_law_4 3 (319, .pop, 1) rfl
theorem dL_law_320 : decode cL_law 320 = .ok (.aload_n 2, 1) := tb_d tk_L_law_4 4 (320, .aload_n 2, 1) rfl
theorem dL_law_321 : decode cL_law 321 = .ok (.aload_n 0, 1) := tb_d tk_L_law_4 5 (321, .aload_n 0, 1) rfl
theorem dL_law_322 : decode cL_law 322 = .ok (.iload_n 3, 1) := tb_d tk_L_law_4 6 (322, .iload_n 3, 1) rfl
theorem dL_law_323 : decode cL_law 323 = .ok (.iconst 1, 1) := tb_d tk_L_law_4 7 (323, .iconst 1, 1) rfl
theorem dL_law_324 : decode cL_law 324 = .ok (.iadd, 1) := tb_d tk_L_law_4 8 (324, .iadd, 1) rfl
theorem dL_law_325 : decode cL_law 325 = .ok (.iaload, 1) := tb_d tk_L_law_4 9 (325, .iaload, 1) rfl
theorem dL_law_326 : decode cL_law 326 = .ok (.aload_n 0, 1) := tb_d tk_L_law_4 10 (326, .aload_n 0, 1) rfl
theorem dL_law_327 : decode cL_law 327 = .ok (.iload_n 3, 1) := tb_d tk_L_law_4 11 (327, .iload_n 3, 1) rfl
theorem dL_law_328 : decode cL_law 328 = .ok (.iconst 2, 1) := tb_d tk_L_law_4 12 (328, .iconst 2, 1) rfl
theorem dL_law_329 : decode cL_law 329 = .ok (.iadd, 1) := tb_d tk_L_law_4 13 (329, .iadd, 1) rfl
theorem dL_law_330 : decode cL_law 330 = .ok (.iaload, 1) := tb_d tk_L_law_4 14 (330, .iaload, 1) rfl
theorem dL_law_331 : decode cL_law 331 = .ok (.aload_n 0, 1) := tb_d tk_L_law_4 15 (331, .aload_n 0, 1) rfl
theorem dL_law_332 : decode cL_law 332 = .ok (.iload_n 3, 1) := tb_d tk_L_law_4 16 (332, .iload_n 3, 1) rfl
theorem dL_law_333 : decode cL_law 333 = .ok (.iconst 3, 1) := tb_d tk_L_law_4 17 (333, .iconst 3, 1) rfl
theorem dL_law_334 : decode cL_law 334 = .ok (.iadd, 1) := tb_d tk_L_law_4 18 (334, .iadd, 1) rfl
theorem dL_law_335 : decode cL_law 335 = .ok (.iaload, 1) := tb_d tk_L_law_4 19 (335, .iaload, 1) rfl
theorem dL_law_336 : decode cL_law 336 = .ok (.aload_n 0, 1) := tb_d tk_L_law_4 20 (336, .aload_n 0, 1) rfl
theorem dL_law_337 : decode cL_law 337 = .ok (.iload_n 3, 1) := tb_d tk_L_law_4 21 (337, .iload_n 3, 1) rfl
theorem dL_law_338 : decode cL_law 338 = .ok (.iconst 4, 1) := tb_d tk_L_law_4 22 (338, .iconst 4, 1) rfl
theorem dL_law_339 : decode cL_law 339 = .ok (.iadd, 1) := tb_d tk_L_law_4 23 (339, .iadd, 1) rfl
theorem dL_law_340 : decode cL_law 340 = .ok (.iaload, 1) := tb_d tk_L_law_4 24 (340, .iaload, 1) rfl
theorem dL_law_341 : decode cL_law 341 = .ok (.aload_n 0, 1) := tb_d tk_L_law_4 25 (341, .aload_n 0, 1) rfl
theorem dL_law_342 : decode cL_law 342 = .ok (.iload_n 3, 1) := tb_d tk_L_law_4 26 (342, .iload_n 3, 1) rfl
theorem dL_law_343 : decode cL_law 343 = .ok (.iconst 5, 1) := tb_d tk_L_law_4 27 (343, .iconst 5, 1) rfl
theorem dL_law_344 : decode cL_law 344 = .ok (.iadd, 1) := tb_d tk_L_law_4 28 (344, .iadd, 1) rfl
theorem dL_law_345 : decode cL_law 345 = .ok (.iaload, 1) := tb_d tk_L_law_4 29 (345, .iaload, 1) rfl
theorem dL_law_346 : decode cL_law 346 = .ok (.invokevirtual 26, 3) := tb_d tk_L_law_4 30 (346, .invokevirtual 26, 3) rfl
theorem dL_law_349 : decode cL_law 349 = .ok (.pop, 1) := tb_d tk_L_law_4 31 (349, .pop, 1) rfl
theorem dL_law_350 : decode cL_law 350 = .ok (.goto 1071, 3) := tb_d tk_L_law_4 32 (350, .goto 1071, 3) rfl
theorem dL_law_353 : decode cL_law 353 = .ok (.aload_n 1, 1) := tb_d tk_L_law_4 33 (353, .aload_n 1, 1) rfl
theorem dL_law_354 : decode cL_law 354 = .ok (.aload_n 0, 1) := tb_d tk_L_law_4 34 (354, .aload_n 0, 1) rfl
theorem dL_law_355 : decode cL_law 355 = .ok (.iload_n 3, 1) := tb_d tk_L_law_4 35 (355, .iload_n 3, 1) rfl
theorem dL_law_356 : decode cL_law 356 = .ok (.iconst 1, 1) := tb_d tk_L_law_4 36 (356, .iconst 1, 1) rfl
theorem dL_law_357 : decode cL_law 357 = .ok (.iadd, 1) := tb_d tk_L_law_4 37 (357, .iadd, 1) rfl
theorem dL_law_358 : decode cL_law 358 = .ok (.iaload, 1) := tb_d tk_L_law_4 38 (358, .iaload, 1) rfl
theorem dL_law_359 : decode cL_law 359 = .ok (.invokevirtual 27, 3) := tb_d tk_L_law_4 39 (359, .invokevirtual 27, 3) rfl
def tb_L_law_5 : List (Nat × Instr × Nat) := [(362, .pop, 1), (363, .aload_n 2, 1), (364, .aload_n 0, 1), (365, .iload_n 3, 1), (366, .iconst 1, 1), (367, .iadd, 1), (368, .iaload, 1), (369, .invokevirtual 31, 3), (372, .pop, 1), (373, .goto 1048, 3), (376, .aload_n 1, 1), (377, .aload_n 0, 1), (378, .iload_n 3, 1), (379, .iconst 1, 1), (380, .iadd, 1), (381, .iaload, 1), (382, .invokevirtual 32, 3), (385, .pop, 1), (386, .aload_n 2, 1), (387, .aload_n 0, 1), (388, .iload_n 3, 1), (389, .iconst 1, 1), (390, .iadd, 1), (391, .iaload, 1), (392, .invokevirtual 35, 3), (395, .pop, 1), (396, .goto 1025, 3), (399, .aload_n 1, 1), (400, .invokevirtual 36, 3), (403, .pop, 1), (404, .aload_n 2, 1), (405, .invokevirtual 40, 3), (408, .pop, 1), (409, .goto 1012, 3), (412, .aload_n 1, 1), (413, .invokevirtual 41, 3), (416, .pop, 1), (417, .aload_n 2, 1), (418, .invokevirtual 44, 3), (421, .pop, 1)]
set_option maxRecDepth 100000 in
theorem tk_L_law_5 : (tb_L_law_5.all fun q => decide (decode cL_law q.1 = .ok q.2)) = true := by decide +kernel
theorem dL_law_362 : decode cL_law 362 = .ok (.pop, 1) := tb_d tk_L_law_5 0 (362, .pop, 1) rfl
theorem dL_law_363 : decode cL_law 363 = .ok (.aload_n 2, 1) := tb_d tk_L_law_5 1 (363, .aload_n 2, 1) rfl
theorem dL_law_364 : decode cL_law 364 = .ok (.aload_n 0, 1) := tb_d tk_L_law_5 2 (364, .aload_n 0, 1) rfl
theorem dL_law_365 : decode cL_law 365 = .ok (.iload_n 3, 1) := tb_d tk_L_law_5 3 (365, .iload_n 3, 1) rfl
theorem dL_law_366 : decode cL_law 366 = .ok (.iconst 1, 1) := tb_d tk_L_law_5 4 (366, .iconst 1, 1) rfl
theorem dL_law_367 : decode cL_law 367 = .ok (.iadd, 1) := tb_d tk_L_law_5 5 (367, .iadd, 1) rfl
theorem dL_law_368 : decode cL_law 368 = .ok (.iaload, 1) := tb_d tk_L_law_5 6 (368, .iaload, 1) rfl
theorem dL_law_369 : decode cL_law 369 = .ok (.invokevirtual 31, 3) := tb_d tk_L_law_5 7 (369, .invokevirtual 31, 3) rfl
theorem dL_law_372 : decode cL_law 372 = .ok (.pop, 1) := tb_d tk_L_law_5 8 (372, .pop, 1) rfl
theorem dL_law_373 : decode cL_law 373 = .ok (.goto 1048, 3) := tb_d tk_L_law_5 9 (373, .goto 1048, 3) rfl
theorem dL_law_376 : decode cL_law 376 = .ok (.aload_n 1, 1) := tb_d tk_L_law_5 10 (376, .aload_n 1, 1) rfl
theorem dL_law_377 : decode cL_law 377 = .ok (.aload_n 0, 1) := tb_d tk_L_law_5 11 (377, .aload_n 0, 1) rfl
theorem dL_law_378 : decode cL_law 378 = .ok (.iload_n 3, 1) := tb_d tk_L_law_5 12 (378, .iload_n 3, 1) rfl
theorem dL_law_379 : decode cL_law 379 = .ok (.iconst 1, 1) := tb_d tk_L_law_5 13 (379, .iconst 1, 1) rfl
theorem dL_law_380 : decode cL_law 380 = .ok (.iadd, 1) := tb_d tk_L_law_5 14 (380, .iadd, 1) rfl
theorem dL_law_381 : decode cL_law 381 = .ok (.iaload, 1) := tb_d tk_L_law_5 15 (381, .iaload, 1) rfl
theorem dL_law_382 : decode cL_law 382 = .ok (.invokevirtual 32, 3) := tb_d tk_L_law_5 16 (382, .invokevirtual 32, 3) rfl
theorem dL_law_385 : decode cL_law 385 = .ok (.pop, 1) := tb_d tk_L_law_5 17 (385, .pop, 1) rfl
theorem dL_law_386 : decode cL_law 386 = .ok (.aload_n 2, 1) := tb_d tk_L_law_5 18 (386, .aload_n 2, 1) rfl
theorem dL_law_387 : decode cL_law 387 = .ok (.aload_n 0, 1) := tb_d tk_L_law_5 19 (387, .aload_n 0, 1) rfl
theorem dL_law_388 : decode cL_law 388 = .ok (.iload_n 3, 1) := tb_d tk_L_law_5 20 (388, .iload_n 3, 1) rfl
theorem dL_law_389 : decode cL_law 389 = .ok (.iconst 1, 1) := tb_d tk_L_law_5 21 (389, .iconst 1, 1) rfl
theorem dL_law_390 : decode cL_law 390 = .ok (.iadd, 1) := tb_d tk_L_law_5 22 (390, .iadd, 1) rfl
theorem dL_law_391 : decode cL_law 391 = .ok (.iaload, 1) := tb_d tk_L_law_5 23 (391, .iaload, 1) rfl
theorem dL_law_392 : decode cL_law 392 = .ok (.invokevirtual 35, 3) := tb_d tk_L_law_5 24 (392, .invokevirtual 35, 3) rfl
theorem dL_law_395 : decode cL_law 395 = .ok (.pop, 1) := tb_d tk_L_law_5 25 (395, .pop, 1) rfl
theorem dL_law_396 : decode cL_law 396 = .ok (.goto 1025, 3) := tb_d tk_L_law_5 26 (396, .goto 1025, 3) rfl
theorem dL_law_399 : decode cL_law 399 = .ok (.aload_n 1, 1) := tb_d tk_L_law_5 27 (399, .aload_n 1, 1) rfl
theorem dL_law_400 : decode cL_law 400 = .ok (.invokevirtual 36, 3) := tb_d tk_L_law_5 28 (400, .invokevirtual 36, 3) rfl
theorem dL_law_403 : decode cL_law 403 = .ok (.pop, 1) := tb_d tk_L_law_5 29 (403, .pop, 1) rfl
theorem dL_law_404 : decode cL_law 404 = .ok (.aload_n 2, 1) := tb_d tk_L_law_5 30 (404, .aload_n 2, 1) rfl
theorem dL_law_405 : decode cL_law 405 = .ok (.invokevirtual 40, 3) := tb_d tk_L_law_5 31 (405, .invokevirtual 40, 3) rfl
theorem dL_law_408 : decode cL_law 408 = .ok (.pop, 1) := tb_d tk_L_law_5 32 (408, .pop, 1) rfl
theorem dL_law_409 : decode cL_law 409 = .ok (.goto 1012, 3) := tb_d tk_L_law_5 33 (409, .goto 1012, 3) rfl
theorem dL_law_412 : decode cL_law 412 = .ok (.aload_n 1, 1) := tb_d tk_L_law_5 34 (412, .aload_n 1, 1) rfl
theorem dL_law_413 : decode cL_law 413 = .ok (.invokevirtual 41, 3) := tb_d tk_L_law_5 35 (413, .invokevirtual 41, 3) rfl
theorem dL_law_416 : decode cL_law 416 = .ok (.pop, 1) := tb_d tk_L_law_5 36 (416, .pop, 1) rfl
theorem dL_law_417 : decode cL_law 417 = .ok (.aload_n 2, 1) := tb_d tk_L_law_5 37 (417, .aload_n 2, 1) rfl
theorem dL_law_418 : decode cL_law 418 = .ok (.invokevirtual 44, 3) := tb_d tk_L_law_5 38 (418, .invokevirtual 44, 3) rfl
theorem dL_law_421 : decode cL_law 421 = .ok (.pop, 1) := tb_d tk_L_law_5 39 (421, .pop, 1) rfl
def tb_L_law_6 : List (Nat × Instr × Nat) := [(422, .goto 999, 3), (425, .aload_n 1, 1), (426, .aload_n 0, 1), (427, .iload_n 3, 1), (428, .iconst 1, 1), (429, .iadd, 1), (430, .iaload, 1), (431, .invokevirtual 45, 3), (434, .pop, 1), (435, .aload_n 2, 1), (436, .aload_n 0, 1), (437, .iload_n 3, 1), (438, .iconst 1, 1), (439, .iadd, 1), (440, .iaload, 1), (441, .invokevirtual 48, 3), (444, .pop, 1), (445, .goto 976, 3), (448, .aload_n 1, 1), (449, .aload_n 0, 1), (450, .iload_n 3, 1), (451, .iconst 1, 1), (452, .iadd, 1), (453, .iaload, 1), (454, .aload_n 0, 1), (455, .iload_n 3, 1), (456, .iconst 2, 1), (457, .iadd, 1), (458, .iaload, 1), (459, .invokevirtual 49, 3), (462, .pop, 1), (463, .aload_n 2, 1), (464, .aload_n 0, 1), (465, .iload_n 3, 1), (466, .iconst 1, 1), (467, .iadd, 1), (468, .iaload, 1), (469, .aload_n 0, 1), (470, .iload_n 3, 1), (471, .iconst 2, 1)]
set_option maxRecDepth 100000 in
theorem tk_L_law_6 : (tb_L_law_6.all fun q => decide (decode cL_law q.1 = .ok q.2)) = true := by decide +kernel
theorem dL_law_422 : decode cL_law 422 = .ok (.goto 999, 3) := tb_d tk_L_law_6 0 (422, .goto 999, 3) rfl
theorem dL_law_425 : decode cL_law 425 = .ok (.aload_n 1, 1) := tb_d tk_L_law_6 1 (425, .aload_n 1, 1) rfl
theorem dL_law_426 : decode cL_law 426 = .ok (.aload_n 0, 1) := tb_d tk_L_law_6 2 (426, .aload_n 0, 1) rfl
theorem dL_law_427 : decode cL_law 427 = .ok (.iload_n 3, 1) := tb_d tk_L_law_6 3 (427, .iload_n 3, 1) rfl
theorem dL_law_428 : decode cL_law 428 = .ok (.iconst 1, 1) := tb_d tk_L_law_6 4 (428, .iconst 1, 1) rfl
theorem dL_law_429 : decode cL_law 429 = .ok (.iadd, 1) := tb_d tk_L_law_6 5 (429, .iadd, 1) rfl
theorem dL_law_430 : decode cL_law 430 = .ok (.iaload, 1) := tb_d tk_L_law_6 6 (430, .iaload, 1) rfl
theorem dL_law_431 : decode cL_law 431 = .ok (.invokevirtual 45, 3) := tb_d tk_L_law_6 7 (431, .invokevirtual 45, 3) rfl
theorem dL_law_434 : decode cL_law 434 = .ok (.pop, 1) := tb_d tk_L_law_6 8 (434, .pop, 1) rfl
theorem dL_law_435 : decode cL_law 435 = .ok (.aload_n 2, 1) := tb_d tk_L_law_6 9 (435, .aload_n 2, 1) rfl
theorem dL_law_436 : decode cL_law 436 = .ok (.aload_n 0, 1) := tb_d tk_L_law_6 10 (436, .aload_n 0, 1) rfl
theorem dL_law_437 : decode cL_law 437 = .ok (.iload_n 3, 1) := tb_d tk_L_law_6 11 (437, .iload_n 3, 1) rfl
theorem dL_law_438 : decode cL_law 438 = .ok (.iconst 1, 1) := tb_d tk_L_law_6 12 (438, .iconst 1, 1) rfl
theorem dL_law_439 : decode cL_law 439 = .ok (.iadd, 1) := tb_d tk_L_law_6 13 (439, .iadd, 1) rfl
theorem dL_law_440 : decode cL_law 440 = .ok (.iaload, 1) := tb_d tk_L_law_6 14 (440, .iaload, 1) rfl
theorem dL_law_441 : decode cL_law 441 = .ok (.invokevirtual 48, 3) := tb_d tk_L_law_6 15 (441, .invokevirtual 48, 3) rfl
theorem dL_law_444 : decode cL_law 444 = .ok (.pop, 1) := tb_d tk_L_law_6 16 (444, .pop, 1) rfl
theorem dL_law_445 : decode cL_law 445 = .ok (.goto 976, 3) := tb_d tk_L_law_6 17 (445, .goto 976, 3) rfl
theorem dL_law_448 : decode cL_law 448 = .ok (.aload_n 1, 1) := tb_d tk_L_law_6 18 (448, .aload_n 1, 1) rfl
theorem dL_law_449 : decode cL_law 449 = .ok (.aload_n 0, 1) := tb_d tk_L_law_6 19 (449, .aload_n 0, 1) rfl
theorem dL_law_450 : decode cL_law 450 = .ok (.iload_n 3, 1) := tb_d tk_L_law_6 20 (450, .iload_n 3, 1) rfl
theorem dL_law_451 : decode cL_law 451 = .ok (.iconst 1, 1) := tb_d tk_L_law_6 21 (451, .iconst 1, 1) rfl
theorem dL_law_452 : decode cL_law 452 = .ok (.iadd, 1) := tb_d tk_L_law_6 22 (452, .iadd, 1) rfl
theorem dL_law_453 : decode cL_law 453 = .ok (.iaload, 1) := tb_d tk_L_law_6 23 (453, .iaload, 1) rfl
theorem dL_law_454 : decode cL_law 454 = .ok (.aload_n 0, 1) := tb_d tk_L_law_6 24 (454, .aload_n 0, 1) rfl
theorem dL_law_455 : decode cL_law 455 = .ok (.iload_n 3, 1) := tb_d tk_L_law_6 25 (455, .iload_n 3, 1) rfl
theorem dL_law_456 : decode cL_law 456 = .ok (.iconst 2, 1) := tb_d tk_L_law_6 26 (456, .iconst 2, 1) rfl
theorem dL_law_457 : decode cL_law 457 = .ok (.iadd, 1) := tb_d tk_L_law_6 27 (457, .iadd, 1) rfl
theorem dL_law_458 : decode cL_law 458 = .ok (.iaload, 1) := tb_d tk_L_law_6 28 (458, .iaload, 1) rfl
theorem dL_law_459 : decode cL_law 459 = .ok (.invokevirtual 49, 3) := tb_d tk_L_law_6 29 (459, .invokevirtual 49, 3) rfl
theorem dL_law_462 : decode cL_law 462 = .ok (.pop, 1) := tb_d tk_L_law_6 30 (462, .pop, 1) rfl
theorem dL_law_463 : decode cL_law 463 = .ok (.aload_n 2, 1) := tb_d tk_L_law_6 31 (463, .aload_n 2, 1) rfl
theorem dL_law_464 : decode cL_law 464 = .ok (.aload_n 0, 1) := tb_d tk_L_law_6 32 (464, .aload_n 0, 1) rfl
theorem dL_law_465 : decode cL_law 465 = .ok (.iload_n 3, 1) := tb_d tk_L_law_6 33 (465, .iload_n 3, 1) rfl
theorem dL_law_466 : decode cL_law 466 = .ok (.iconst 1, 1) := tb_d tk_L_law_6 34 (466, .iconst 1, 1) rfl
theorem dL_law_467 : decode cL_law 467 = .ok (.iadd, 1) := tb_d tk_L_law_6 35 (467, .iadd, 1) rfl
theorem dL_law_468 : decode cL_law 468 = .ok (.iaload, 1) := tb_d tk_L_law_6 36 (468, .iaload, 1) rfl
theorem dL_law_469 : decode cL_law 469 = .ok (.aload_n 0, 1) := tb_d tk_L_law_6 37 (469, .aload_n 0, 1) rfl
theorem dL_law_470 : decode cL_law 470 = .ok (.iload_n 3, 1) := tb_d tk_L_law_6 38 (470, .iload_n 3, 1) rfl
theorem dL_law_471 : decode cL_law 471 = .ok (.iconst 2, 1) := tb_d tk_L_law_6 39 (471, .iconst 2, 1) rfl
def tb_L_law_7 : List (Nat × Instr × Nat) := [(472, .iadd, 1), (473, .iaload, 1), (474, .invokevirtual 53, 3), (477, .pop, 1), (478, .goto 943, 3), (481, .aload_n 1, 1), (482, .aload_n 0, 1), (483, .iload_n 3, 1), (484, .iconst 1, 1), (485, .iadd, 1), (486, .iaload, 1), (487, .invokevirtual 54, 3), (490, .pop, 1), (491, .aload_n 2, 1), (492, .aload_n 0, 1), (493, .iload_n 3, 1), (494, .iconst 1, 1), (495, .iadd, 1), (496, .iaload, 1), (497, .invokevirtual 57, 3), (500, .pop, 1), (501, .goto 920, 3), (504, .aload_n 1, 1), (505, .aload_n 0, 1), (506, .iload_n 3, 1), (507, .iconst 1, 1), (508, .iadd, 1), (509, .iaload, 1), (510, .aload_n 0, 1), (511, .iload_n 3, 1), (512, .iconst 2, 1), (513, .iadd, 1), (514, .iaload, 1), (515, .invokevirtual 58, 3), (518, .pop, 1), (519, .aload_n 2, 1), (520, .aload_n 0, 1), (521, .iload_n 3, 1), (522, .iconst 1, 1), (523, .iadd, 1)]
set_option maxRecDepth 100000 in
theorem tk_L_law_7 : (tb_L_law_7.all fun q => decide (decode cL_law q.1 = .ok q.2)) = true := by decide +kernel
theorem dL_law_472 : decode cL_law 472 = .ok (.iadd, 1) := tb_d tk_L_law_7 0 (472, .iadd, 1) rfl
theorem dL_law_473 : decode cL_law 473 = .ok (.iaload, 1) := tb_d tk_L_law_7 1 (473, .iaload, 1) rfl
theorem dL_law_474 : decode cL_law 474 = .ok (.invokevirtual 53, 3) := tb_d tk_L_law_7 2 (474, .invokevirtual 53, 3) rfl
theorem dL_law_477 : decode cL_law 477 = .ok (.pop, 1) := tb_d tk_L_law_7 3 (477, .pop, 1) rfl
theorem dL_law_478 : decode cL_law 478 = .ok (.goto 943, 3) := tb_d tk_L_law_7 4 (478, .goto 943, 3) rfl
theorem dL_law_481 : decode cL_law 481 = .ok (.aload_n 1, 1) := tb_d tk_L_law_7 5 (481, .aload_n 1, 1) rfl
theorem dL_law_482 : decode cL_law 482 = .ok (.aload_n 0, 1) := tb_d tk_L_law_7 6 (482, .aload_n 0, 1) rfl
theorem dL_law_483 : decode cL_law 483 = .ok (.iload_n 3, 1) := tb_d tk_L_law_7 7 (483, .iload_n 3, 1) rfl
theorem dL_law_484 : decode cL_law 484 = .ok (.iconst 1, 1) := tb_d tk_L_law_7 8 (484, .iconst 1, 1) rfl
theorem dL_law_485 : decode cL_law 485 = .ok (.iadd, 1) := tb_d tk_L_law_7 9 (485, .iadd, 1) rfl
theorem dL_law_486 : decode cL_law 486 = .ok (.iaload, 1) := tb_d tk_L_law_7 10 (486, .iaload, 1) rfl
theorem dL_law_487 : decode cL_law 487 = .ok (.invokevirtual 54, 3) := tb_d tk_L_law_7 11 (487, .invokevirtual 54, 3) rfl
theorem dL_law_490 : decode cL_law 490 = .ok (.pop, 1) := tb_d tk_L_law_7 12 (490, .pop, 1) rfl
theorem dL_law_491 : decode cL_law 491 = .ok (.aload_n 2, 1) := tb_d tk_L_law_7 13 (491, .aload_n 2, 1) rfl
theorem dL_law_492 : decode cL_law 492 = .ok (.aload_n 0, 1) := tb_d tk_L_law_7 14 (492, .aload_n 0, 1) rfl
theorem dL_law_493 : decode cL_law 493 = .ok (.iload_n 3, 1) := tb_d tk_L_law_7 15 (493, .iload_n 3, 1) rfl
theorem dL_law_494 : decode cL_law 494 = .ok (.iconst 1, 1) := tb_d tk_L_law_7 16 (494, .iconst 1, 1) rfl
theorem dL_law_495 : decode cL_law 495 = .ok (.iadd, 1) := tb_d tk_L_law_7 17 (495, .iadd, 1) rfl
theorem dL_law_496 : decode cL_law 496 = .ok (.iaload, 1) := tb_d tk_L_law_7 18 (496, .iaload, 1) rfl
theorem dL_law_497 : decode cL_law 497 = .ok (.invokevirtual 57, 3) := tb_d tk_L_law_7 19 (497, .invokevirtual 57, 3) rfl
theorem dL_law_500 : decode cL_law 500 = .ok (.pop, 1) := tb_d tk_L_law_7 20 (500, .pop, 1) rfl
theorem dL_law_501 : decode cL_law 501 = .ok (.goto 920, 3) := tb_d tk_L_law_7 21 (501, .goto 920, 3) rfl
theorem dL_law_504 : decode cL_law 504 = .ok (.aload_n 1, 1) := tb_d tk_L_law_7 22 (504, .aload_n 1, 1) rfl
theorem dL_law_505 : decode cL_law 505 = .ok (.aload_n 0, 1) := tb_d tk_L_law_7 23 (505, .aload_n 0, 1) rfl
theorem dL_law_506 : decode cL_law 506 = .ok (.iload_n 3, 1) := tb_d tk_L_law_7 24 (506, .iload_n 3, 1) rfl
theorem dL_law_507 : decode cL_law 507 = .ok (.iconst 1, 1) := tb_d tk_L_law_7 25 (507, .iconst 1, 1) rfl
theorem dL_law_508 : decode cL_law 508 = .ok (.iadd, 1) := tb_d tk_L_law_7 26 (508, .iadd, 1) rfl
theorem dL_law_509 : decode cL_law 509 = .ok (.iaload, 1) := tb_d tk_L_law_7 27 (509, .iaload, 1) rfl
theorem dL_law_510 : decode cL_law 510 = .ok (.aload_n 0, 1) := tb_d tk_L_law_7 28 (510, .aload_n 0, 1) rfl
theorem dL_law_511 : decode cL_law 511 = .ok (.iload_n 3, 1) := tb_d tk_L_law_7 29 (511, .iload_n 3, 1) rfl
theorem dL_law_512 : decode cL_law 512 = .ok (.iconst 2, 1) := tb_d tk_L_law_7 30 (512, .iconst 2, 1) rfl
theorem dL_law_513 : decode cL_law 513 = .ok (.iadd, 1) := tb_d tk_L_law_7 31 (513, .iadd, 1) rfl
theorem dL_law_514 : decode cL_law 514 = .ok (.iaload, 1) := tb_d tk_L_law_7 32 (514, .iaload, 1) rfl
theorem dL_law_515 : decode cL_law 515 = .ok (.invokevirtual 58, 3) := tb_d tk_L_law_7 33 (515, .invokevirtual 58, 3) rfl
theorem dL_law_518 : decode cL_law 518 = .ok (.pop, 1) := tb_d tk_L_law_7 34 (518, .pop, 1) rfl
theorem dL_law_519 : decode cL_law 519 = .ok (.aload_n 2, 1) := tb_d tk_L_law_7 35 (519, .aload_n 2, 1) rfl
theorem dL_law_520 : decode cL_law 520 = .ok (.aload_n 0, 1) := tb_d tk_L_law_7 36 (520, .aload_n 0, 1) rfl
theorem dL_law_521 : decode cL_law 521 = .ok (.iload_n 3, 1) := tb_d tk_L_law_7 37 (521, .iload_n 3, 1) rfl
theorem dL_law_522 : decode cL_law 522 = .ok (.iconst 1, 1) := tb_d tk_L_law_7 38 (522, .iconst 1, 1) rfl
theorem dL_law_523 : decode cL_law 523 = .ok (.iadd, 1) := tb_d tk_L_law_7 39 (523, .iadd, 1) rfl
def tb_L_law_8 : List (Nat × Instr × Nat) := [(524, .iaload, 1), (525, .aload_n 0, 1), (526, .iload_n 3, 1), (527, .iconst 2, 1), (528, .iadd, 1), (529, .iaload, 1), (530, .invokevirtual 61, 3), (533, .pop, 1), (534, .goto 887, 3), (537, .aload_n 1, 1), (538, .invokevirtual 62, 3), (541, .pop, 1), (542, .aload_n 2, 1), (543, .invokevirtual 65, 3), (546, .pop, 1), (547, .goto 874, 3), (550, .aload_n 1, 1), (551, .aload_n 0, 1), (552, .iload_n 3, 1), (553, .iconst 1, 1), (554, .iadd, 1), (555, .iaload, 1), (556, .aload_n 0, 1), (557, .iload_n 3, 1), (558, .iconst 2, 1), (559, .iadd, 1), (560, .iaload, 1), (561, .invokevirtual 66, 3), (564, .pop, 1), (565, .aload_n 2, 1), (566, .aload_n 0, 1), (567, .iload_n 3, 1), (568, .iconst 1, 1), (569, .iadd, 1), (570, .iaload, 1), (571, .aload_n 0, 1), (572, .iload_n 3, 1), (573, .iconst 2, 1), (574, .iadd, 1), (575, .iaload, 1)]
set_option maxRecDepth 100000 in
theorem tk_L_law_8 : (tb_L_law_8.all fun q => decide (decode cL_law q.1 = .ok q.2)) = true := by decide +kernel
theorem dL_law_524 : decode cL_law 524 = .ok (.iaload, 1) := tb_d tk_L_law_8 0 (524, .iaload, 1) rfl
theorem dL_law_525 : decode cL_law 525 = .ok (.aload_n 0, 1) := tb_d tk_L_law_8 1 (525, .aload_n 0, 1) rfl
theorem dL_law_526 : decode cL_law 526 = .ok (.iload_n 3, 1) := tb_d tk_L_law_8 2 (526, .iload_n 3, 1) rfl
theorem dL_law_527 : decode cL_law 527 = .ok (.iconst 2, 1) := tb_d tk_L_law_8 3 (527, .iconst 2, 1) rfl
theorem dL_law_528 : decode cL_law 528 = .ok (.iadd, 1) := tb_d tk_L_law_8 4 (528, .iadd, 1) rfl
theorem dL_law_529 : decode cL_law 529 = .ok (.iaload, 1) := tb_d tk_L_law_8 5 (529, .iaload, 1) rfl
theorem dL_law_530 : decode cL_law 530 = .ok (.invokevirtual 61, 3) := tb_d tk_L_law_8 6 (530, .invokevirtual 61, 3) rfl
theorem dL_law_533 : decode cL_law 533 = .ok (.pop, 1) := tb_d tk_L_law_8 7 (533, .pop, 1) rfl
theorem dL_law_534 : decode cL_law 534 = .ok (.goto 887, 3) := tb_d tk_L_law_8 8 (534, .goto 887, 3) rfl
theorem dL_law_537 : decode cL_law 537 = .ok (.aload_n 1, 1) := tb_d tk_L_law_8 9 (537, .aload_n 1, 1) rfl
theorem dL_law_538 : decode cL_law 538 = .ok (.invokevirtual 62, 3) := tb_d tk_L_law_8 10 (538, .invokevirtual 62, 3) rfl
theorem dL_law_541 : decode cL_law 541 = .ok (.pop, 1) := tb_d tk_L_law_8 11 (541, .pop, 1) rfl
theorem dL_law_542 : decode cL_law 542 = .ok (.aload_n 2, 1) := tb_d tk_L_law_8 12 (542, .aload_n 2, 1) rfl
theorem dL_law_543 : decode cL_law 543 = .ok (.invokevirtual 65, 3) := tb_d tk_L_law_8 13 (543, .invokevirtual 65, 3) rfl
theorem dL_law_546 : decode cL_law 546 = .ok (.pop, 1) := tb_d tk_L_law_8 14 (546, .pop, 1) rfl
theorem dL_law_547 : decode cL_law 547 = .ok (.goto 874, 3) := tb_d tk_L_law_8 15 (547, .goto 874, 3) rfl
theorem dL_law_550 : decode cL_law 550 = .ok (.aload_n 1, 1) := tb_d tk_L_law_8 16 (550, .aload_n 1, 1) rfl
theorem dL_law_551 : decode cL_law 551 = .ok (.aload_n 0, 1) := tb_d tk_L_law_8 17 (551, .aload_n 0, 1) rfl
theorem dL_law_552 : decode cL_law 552 = .ok (.iload_n 3, 1) := tb_d tk_L_law_8 18 (552, .iload_n 3, 1) rfl
theorem dL_law_553 : decode cL_law 553 = .ok (.iconst 1, 1) := tb_d tk_L_law_8 19 (553, .iconst 1, 1) rfl
theorem dL_law_554 : decode cL_law 554 = .ok (.iadd, 1) := tb_d tk_L_law_8 20 (554, .iadd, 1) rfl
theorem dL_law_555 : decode cL_law 555 = .ok (.iaload, 1) := tb_d tk_L_law_8 21 (555, .iaload, 1) rfl
theorem dL_law_556 : decode cL_law 556 = .ok (.aload_n 0, 1) := tb_d tk_L_law_8 22 (556, .aload_n 0, 1) rfl
theorem dL_law_557 : decode cL_law 557 = .ok (.iload_n 3, 1) := tb_d tk_L_law_8 23 (557, .iload_n 3, 1) rfl
theorem dL_law_558 : decode cL_law 558 = .ok (.iconst 2, 1) := tb_d tk_L_law_8 24 (558, .iconst 2, 1) rfl
theorem dL_law_559 : decode cL_law 559 = .ok (.iadd, 1) := tb_d tk_L_law_8 25 (559, .iadd, 1) rfl
theorem dL_law_560 : decode cL_law 560 = .ok (.iaload, 1) := tb_d tk_L_law_8 26 (560, .iaload, 1) rfl
theorem dL_law_561 : decode cL_law 561 = .ok (.invokevirtual 66, 3) := tb_d tk_L_law_8 27 (561, .invokevirtual 66, 3) rfl
