/-! the law's own segments -/
abbrev jdL_law : JD := (yL_law, cL_law, 9, ret, 1)
theorem sL_law_0 : JSeg (jm jdL_law) [(0, .aload_n 0, 0, 0)] := ⟨by decide +kernel, trivial, trivial⟩
theorem sL_law_4 : JSeg (jm jdL_law) [(4, .astore_n 1, 0, 0), (5, .aload_n 0, 0, 0)] := ⟨by decide +kernel, trivial, trivial, trivial⟩
theorem sL_law_9 : JSeg (jm jdL_law) [(9, .astore_n 2, 0, 0), (10, .aload_n 1, 0, 0)] := ⟨by decide +kernel, trivial, trivial, trivial⟩
theorem sL_law_14 : JSeg (jm jdL_law) [(14, .aload_n 1, 0, 0)] := ⟨by decide +kernel, trivial, trivial⟩
theorem sL_law_18 : JSeg (jm jdL_law) [(18, .istore_n 3, 0, 0), (19, .aload_n 1, 0, 0)] := ⟨by decide +kernel, trivial, trivial, trivial⟩
theorem sL_law_23 : JSeg (jm jdL_law) [(23, .istore 4, 0, 0), (25, .iload 4, 0, 0), (27, .bipush 7, 0, 0)] := ⟨by decide +kernel, trivial, trivial, trivial, trivial⟩
theorem sL_law_32 : JSeg (jm jdL_law) [(32, .aload_n 1, 0, 0)] := ⟨by decide +kernel, trivial, trivial⟩
theorem sL_law_36 : JSeg (jm jdL_law) [(36, .dup, 0, 0)] := ⟨by decide +kernel, trivial, trivial⟩
theorem sL_law_45 : JSeg (jm jdL_law) [(45, .iload 4, 0, 0)] := ⟨by decide +kernel, trivial, trivial⟩
theorem sL_law_55 : JSeg (jm jdL_law) [(55, .iload 4, 0, 0), (57, .iconst 1, 0, 0), (58, .iadd, 0, 0)] := ⟨by decide +kernel, trivial, trivial, trivial, trivial⟩
theorem sL_law_68 : JSeg (jm jdL_law) [(68, .aload_n 1, 0, 0)] := ⟨by decide +kernel, trivial, trivial⟩
theorem sL_law_72 : JSeg (jm jdL_law) [(72, .iconst 3, 0, 0)] := ⟨by decide +kernel, trivial, trivial⟩
theorem sL_law_76 : JSeg (jm jdL_law) [(76, .aload_n 2, 0, 0), (77, .bipush 30, 0, 0), (79, .iconst 1, 0, 0)] := ⟨by decide +kernel, trivial, trivial, trivial, trivial⟩
theorem sL_law_83 : JSeg (jm jdL_law) [(83, .iload 4, 0, 0)] := ⟨by decide +kernel, trivial, trivial⟩
theorem sL_law_88 : JSeg (jm jdL_law) [(88, .aload_n 2, 0, 0), (89, .bipush 99, 0, 0), (91, .iconst 5, 0, 0)] := ⟨by decide +kernel, trivial, trivial, trivial, trivial⟩
theorem sL_law_95 : JSeg (jm jdL_law) [(95, .iload 4, 0, 0), (97, .iconst 1, 0, 0), (98, .iadd, 0, 0)] := ⟨by decide +kernel, trivial, trivial, trivial, trivial⟩
theorem sL_law_102 : JSeg (jm jdL_law) [(102, .aload_n 2, 0, 0), (103, .iload 4, 0, 0), (105, .iload 4, 0, 0), (107, .iconst 1, 0, 0), (108, .iadd, 0, 0)] := ⟨by decide +kernel, trivial, trivial, trivial, trivial, trivial, trivial⟩
theorem sL_law_112 : JSeg (jm jdL_law) [(112, .iconst 1, 0, 0)] := ⟨by decide +kernel, trivial, trivial⟩
theorem sL_law_116 : JSeg (jm jdL_law) [(116, .aload_n 1, 0, 0)] := ⟨by decide +kernel, trivial, trivial⟩
theorem sL_law_120 : JSeg (jm jdL_law) [(120, .aload_n 2, 0, 0)] := ⟨by decide +kernel, trivial, trivial⟩
theorem sL_law_127 : JSeg (jm jdL_law) [(127, .iconst 0, 0, 0)] := ⟨by decide +kernel, trivial, trivial⟩
theorem sL_law_129 : JSeg (jm jdL_law) [(129, .aload_n 1, 0, 0)] := ⟨by decide +kernel, trivial, trivial⟩
theorem sL_law_136 : JSeg (jm jdL_law) [(136, .aload_n 1, 0, 0)] := ⟨by decide +kernel, trivial, trivial⟩
theorem sL_law_140 : JSeg (jm jdL_law) [(140, .iload_n 3, 0, 0)] := ⟨by decide +kernel, trivial, trivial⟩
theorem sL_law_144 : JSeg (jm jdL_law) [(144, .aload_n 2, 0, 0)] := ⟨by decide +kernel, trivial, trivial⟩
theorem sL_law_151 : JSeg (jm jdL_law) [(151, .aload_n 2, 0, 0)] := ⟨by decide +kernel, trivial, trivial⟩
theorem sL_law_158 : JSeg (jm jdL_law) [(158, .aload_n 2, 0, 0)] := ⟨by decide +kernel, trivial, trivial⟩
theorem sL_law_165 : JSeg (jm jdL_law) [(165, .aload_n 2, 0, 0)] := ⟨by decide +kernel, trivial, trivial⟩
theorem sL_law_169 : JSeg (jm jdL_law) [(169, .iload_n 3, 0, 0)] := ⟨by decide +kernel, trivial, trivial⟩
theorem sL_law_173 : JSeg (jm jdL_law) [(173, .iconst 0, 0, 0)] := ⟨by decide +kernel, trivial, trivial⟩
theorem sL_law_175 : JSeg (jm jdL_law) [(175, .aload_n 1, 0, 0)] := ⟨by decide +kernel, trivial, trivial⟩
theorem sL_law_181 : JSeg (jm jdL_law) [(181, .aload_n 1, 0, 0)] := ⟨by decide +kernel, trivial, trivial⟩
theorem sL_law_185 : JSeg (jm jdL_law) [(185, .bipush (-2), 0, 0)] := ⟨by decide +kernel, trivial, trivial⟩
theorem sL_law_190 : JSeg (jm jdL_law) [(190, .aload_n 1, 0, 0)] := ⟨by decide +kernel, trivial, trivial⟩
theorem sL_law_194 : JSeg (jm jdL_law) [(194, .iconst 1, 0, 0)] := ⟨by decide +kernel, trivial, trivial⟩
theorem sL_law_198 : JSeg (jm jdL_law) [(198, .aload_n 1, 0, 0)] := ⟨by decide +kernel, trivial, trivial⟩
theorem sL_law_202 : JSeg (jm jdL_law) [(202, .iload_n 3, 0, 0)] := ⟨by decide +kernel, trivial, trivial⟩
theorem sL_law_206 : JSeg (jm jdL_law) [(206, .iconst 0, 0, 0)] := ⟨by decide +kernel, trivial, trivial⟩
theorem sL_law_208 : JSeg (jm jdL_law) [(208, .aload_n 1, 0, 0)] := ⟨by decide +kernel, trivial, trivial⟩
theorem sL_law_214 : JSeg (jm jdL_law) [(214, .aload_n 1, 0, 0)] := ⟨by decide +kernel, trivial, trivial⟩
theorem sL_law_218 : JSeg (jm jdL_law) [(218, .bipush (-2), 0, 0)] := ⟨by decide +kernel, trivial, trivial⟩
theorem sL_law_223 : JSeg (jm jdL_law) [(223, .aload_n 1, 0, 0)] := ⟨by decide +kernel, trivial, trivial⟩
theorem sL_law_230 : JSeg (jm jdL_law) [(230, .aload_n 1, 0, 0)] := ⟨by decide +kernel, trivial, trivial⟩
theorem sL_law_234 : JSeg (jm jdL_law) [(234, .iload_n 3, 0, 0)] := ⟨by decide +kernel, trivial, trivial⟩
theorem sL_law_238 : JSeg (jm jdL_law) [(238, .iconst 0, 0, 0)] := ⟨by decide +kernel, trivial, trivial⟩
theorem sL_law_240 : JSeg (jm jdL_law) [(240, .aload_n 1, 0, 0)] := ⟨by decide +kernel, trivial, trivial⟩
theorem sL_law_243 : JSeg (jm jdL_law) [(243, .iconst 3, 0, 0)] := ⟨by decide +kernel, trivial, trivial⟩
theorem sL_law_250 : JSeg (jm jdL_law) [(250, .aload_n 1, 0, 0)] := ⟨by decide +kernel, trivial, trivial⟩
theorem sL_law_253 : JSeg (jm jdL_law) [(253, .iconst 1, 0, 0)] := ⟨by decide +kernel, trivial, trivial⟩
theorem sL_law_260 : JSeg (jm jdL_law) [(260, .aload_n 1, 0, 0)] := ⟨by decide +kernel, trivial, trivial⟩
theorem sL_law_263 : JSeg (jm jdL_law) [(263, .iconst 1, 0, 0)] := ⟨by decide +kernel, trivial, trivial⟩
theorem sL_law_270 : JSeg (jm jdL_law) [(270, .aload_n 1, 0, 0)] := ⟨by decide +kernel, trivial, trivial⟩
theorem sL_law_273 : JSeg (jm jdL_law) [(273, .bipush 11, 0, 0)] := ⟨by decide +kernel, trivial, trivial⟩
theorem sL_law_281 : JSeg (jm jdL_law) [(281, .aload_n 1, 0, 0)] := ⟨by decide +kernel, trivial, trivial⟩
theorem sL_law_284 : JSeg (jm jdL_law) [(284, .bipush 8, 0, 0)] := ⟨by decide +kernel, trivial, trivial⟩
theorem sL_law_292 : JSeg (jm jdL_law) [(292, .aload_n 1, 0, 0)] := ⟨by decide +kernel, trivial, trivial⟩
theorem sL_law_295 : JSeg (jm jdL_law) [(295, .bipush 9, 0, 0)] := ⟨by decide +kernel, trivial, trivial⟩
theorem sL_law_303 : JSeg (jm jdL_law) [(303, .aload_n 1, 0, 0)] := ⟨by decide +kernel, trivial, trivial⟩
theorem sL_law_306 : JSeg (jm jdL_law) [(306, .iconst 0, 0, 0)] := ⟨by decide +kernel, trivial, trivial⟩
theorem sL_law_313 : JSeg (jm jdL_law) [(313, .aload_n 1, 0, 0)] := ⟨by decide +kernel, trivial, trivial⟩
theorem sL_law_316 : JSeg (jm jdL_law) [(316, .bipush 8, 0, 0)] := ⟨by decide +kernel, trivial, trivial⟩
theorem sL_law_324 : JSeg (jm jdL_law) [(324, .aload_n 1, 0, 0)] := ⟨by decide +kernel, trivial, trivial⟩
theorem sL_law_327 : JSeg (jm jdL_law) [(327, .bipush 14, 0, 0)] := ⟨by decide +kernel, trivial, trivial⟩
theorem sL_law_335 : JSeg (jm jdL_law) [(335, .aload_n 1, 0, 0)] := ⟨by decide +kernel, trivial, trivial⟩
theorem sL_law_338 : JSeg (jm jdL_law) [(338, .bipush 9, 0, 0)] := ⟨by decide +kernel, trivial, trivial⟩
theorem sL_law_346 : JSeg (jm jdL_law) [(346, .aload_n 1, 0, 0)] := ⟨by decide +kernel, trivial, trivial⟩
theorem sL_law_349 : JSeg (jm jdL_law) [(349, .iconst 0, 0, 0)] := ⟨by decide +kernel, trivial, trivial⟩
theorem sL_law_356 : JSeg (jm jdL_law) [(356, .aload_n 1, 0, 0)] := ⟨by decide +kernel, trivial, trivial⟩
theorem sL_law_363 : JSeg (jm jdL_law) [(363, .aload_n 1, 0, 0)] := ⟨by decide +kernel, trivial, trivial⟩
theorem sL_law_367 : JSeg (jm jdL_law) [(367, .iload_n 3, 0, 0)] := ⟨by decide +kernel, trivial, trivial⟩
theorem sL_law_371 : JSeg (jm jdL_law) [(371, .iconst 0, 0, 0)] := ⟨by decide +kernel, trivial, trivial⟩
theorem sL_law_373 : JSeg (jm jdL_law) [(373, .aload_n 0, 0, 0), (374, .bipush 13, 0, 0)] := ⟨by decide +kernel, trivial, trivial, trivial⟩
theorem sL_law_379 : JSeg (jm jdL_law) [(379, .istore 5, 0, 0), (381, .iload 5, 0, 0), (383, .iconst 3, 0, 0), (384, .iand, 0, 0), (385, .istore 6, 0, 0), (387, .bipush 10, 0, 0), (389, .iload 5, 0, 0), (391, .iconst 2, 0, 0), (392, .ishr, 0, 0), (393, .bipush 63, 0, 0), (395, .iand, 0, 0), (396, .iadd, 0, 0), (397, .istore 7, 0, 0)] := ⟨by decide +kernel, trivial, trivial, trivial, trivial, trivial, trivial, trivial, trivial, trivial, trivial, trivial, trivial, trivial, trivial⟩
theorem sL_law_402 : JSeg (jm jdL_law) [(402, .dup, 0, 0)] := ⟨by decide +kernel, trivial, trivial⟩
theorem sL_law_406 : JSeg (jm jdL_law) [(406, .astore 8, 0, 0), (408, .aload 8, 0, 0)] := ⟨by decide +kernel, trivial, trivial, trivial⟩
theorem sL_law_416 : JSeg (jm jdL_law) [(416, .aload 8, 0, 0)] := ⟨by decide +kernel, trivial, trivial⟩
theorem sL_law_424 : JSeg (jm jdL_law) [(424, .aload 8, 0, 0)] := ⟨by decide +kernel, trivial, trivial⟩
theorem sL_law_429 : JSeg (jm jdL_law) [(429, .lconst 0, 0, 0), (430, .lcmp, 0, 0)] := ⟨by decide +kernel, trivial, trivial, trivial⟩
theorem sL_law_434 : JSeg (jm jdL_law) [(434, .aload 8, 0, 0), (436, .iconst 1, 0, 0)] := ⟨by decide +kernel, trivial, trivial, trivial⟩
theorem sL_law_443 : JSeg (jm jdL_law) [(443, .aload 8, 0, 0), (445, .iconst 5, 0, 0), (446, .iconst 0, 0, 0), (447, .iconst 0, 0, 0), (448, .iconst 0, 0, 0)] := ⟨by decide +kernel, trivial, trivial, trivial, trivial, trivial, trivial⟩
theorem sL_law_452 : JSeg (jm jdL_law) [(452, .iconst (-1), 0, 0)] := ⟨by decide +kernel, trivial, trivial⟩
theorem sL_law_456 : JSeg (jm jdL_law) [(456, .aload 8, 0, 0), (458, .iconst 4, 0, 0), (459, .iconst 1, 0, 0), (460, .iconst 0, 0, 0), (461, .iconst 0, 0, 0)] := ⟨by decide +kernel, trivial, trivial, trivial, trivial, trivial, trivial⟩
theorem sL_law_465 : JSeg (jm jdL_law) [(465, .bipush (-4), 0, 0)] := ⟨by decide +kernel, trivial, trivial⟩
theorem sL_law_470 : JSeg (jm jdL_law) [(470, .iconst 0, 0, 0)] := ⟨by decide +kernel, trivial, trivial⟩
theorem sL_law_472 : JSeg (jm jdL_law) [(472, .aload 8, 0, 0)] := ⟨by decide +kernel, trivial, trivial⟩
theorem sL_law_477 : JSeg (jm jdL_law) [(477, .dup, 0, 0)] := ⟨by decide +kernel, trivial, trivial⟩
theorem sL_law_486 : JSeg (jm jdL_law) [(486, .iload 6, 0, 0)] := ⟨by decide +kernel, trivial, trivial⟩
theorem sL_law_502 : JSeg (jm jdL_law) [(502, .aload 8, 0, 0)] := ⟨by decide +kernel, trivial, trivial⟩
theorem sL_law_507 : JSeg (jm jdL_law) [(507, .iconst 5, 0, 0)] := ⟨by decide +kernel, trivial, trivial⟩
theorem sL_law_511 : JSeg (jm jdL_law) [(511, .aload 8, 0, 0), (513, .iconst 0, 0, 0), (514, .iconst 2, 0, 0)] := ⟨by decide +kernel, trivial, trivial, trivial, trivial⟩
theorem sL_law_518 : JSeg (jm jdL_law) [(518, .iconst 2, 0, 0)] := ⟨by decide +kernel, trivial, trivial⟩
theorem sL_law_522 : JSeg (jm jdL_law) [(522, .aload 8, 0, 0), (524, .iconst 0, 0, 0), (525, .iconst 2, 0, 0), (526, .iconst 1, 0, 0)] := ⟨by decide +kernel, trivial, trivial, trivial, trivial, trivial⟩
theorem sL_law_530 : JSeg (jm jdL_law) [(530, .iconst 1, 0, 0)] := ⟨by decide +kernel, trivial, trivial⟩
theorem sL_law_534 : JSeg (jm jdL_law) [(534, .aload 8, 0, 0), (536, .iconst 0, 0, 0), (537, .bipush 15, 0, 0), (539, .iload 7, 0, 0), (541, .bipush 7, 0, 0), (543, .iconst 1, 0, 0)] := ⟨by decide +kernel, trivial, trivial, trivial, trivial, trivial, trivial, trivial⟩
theorem sL_law_547 : JSeg (jm jdL_law) [(547, .iconst 1, 0, 0)] := ⟨by decide +kernel, trivial, trivial⟩
theorem sL_law_551 : JSeg (jm jdL_law) [(551, .aload 8, 0, 0), (553, .iconst 0, 0, 0), (554, .bipush 20, 0, 0), (556, .bipush 90, 0, 0), (558, .iconst 2, 0, 0), (559, .iconst 0, 0, 0)] := ⟨by decide +kernel, trivial, trivial, trivial, trivial, trivial, trivial, trivial⟩
theorem sL_law_563 : JSeg (jm jdL_law) [(563, .iconst 2, 0, 0)] := ⟨by decide +kernel, trivial, trivial⟩
theorem sL_law_567 : JSeg (jm jdL_law) [(567, .aload 8, 0, 0), (569, .iconst 0, 0, 0), (570, .bipush 10, 0, 0), (572, .bipush 10, 0, 0), (574, .bipush 7, 0, 0), (576, .iconst 1, 0, 0)] := ⟨by decide +kernel, trivial, trivial, trivial, trivial, trivial, trivial, trivial⟩
theorem sL_law_580 : JSeg (jm jdL_law) [(580, .iconst 3, 0, 0)] := ⟨by decide +kernel, trivial, trivial⟩
theorem sL_law_584 : JSeg (jm jdL_law) [(584, .aload 8, 0, 0), (586, .iconst 0, 0, 0), (587, .bipush 16, 0, 0), (589, .bipush 10, 0, 0), (591, .iconst 1, 0, 0), (592, .iconst 1, 0, 0)] := ⟨by decide +kernel, trivial, trivial, trivial, trivial, trivial, trivial, trivial⟩
theorem sL_law_596 : JSeg (jm jdL_law) [(596, .bipush (-5), 0, 0)] := ⟨by decide +kernel, trivial, trivial⟩
theorem sL_law_601 : JSeg (jm jdL_law) [(601, .aload 8, 0, 0), (603, .iconst 0, 0, 0)] := ⟨by decide +kernel, trivial, trivial, trivial⟩
theorem sL_law_607 : JSeg (jm jdL_law) [(607, .iconst 1, 0, 0)] := ⟨by decide +kernel, trivial, trivial⟩
theorem sL_law_611 : JSeg (jm jdL_law) [(611, .aload 8, 0, 0), (613, .iconst 0, 0, 0)] := ⟨by decide +kernel, trivial, trivial, trivial⟩
theorem sL_law_617 : JSeg (jm jdL_law) [(617, .iconst 1, 0, 0)] := ⟨by decide +kernel, trivial, trivial⟩
theorem sL_law_621 : JSeg (jm jdL_law) [(621, .aload 8, 0, 0), (623, .iconst 0, 0, 0)] := ⟨by decide +kernel, trivial, trivial, trivial⟩
theorem sL_law_630 : JSeg (jm jdL_law) [(630, .aload 8, 0, 0), (632, .iconst 0, 0, 0)] := ⟨by decide +kernel, trivial, trivial, trivial⟩
theorem sL_law_636 : JSeg (jm jdL_law) [(636, .iconst 1, 0, 0)] := ⟨by decide +kernel, trivial, trivial⟩
theorem sL_law_640 : JSeg (jm jdL_law) [(640, .aload 8, 0, 0), (642, .iconst 0, 0, 0)] := ⟨by decide +kernel, trivial, trivial, trivial⟩
theorem sL_law_646 : JSeg (jm jdL_law) [(646, .bipush 15, 0, 0)] := ⟨by decide +kernel, trivial, trivial⟩
theorem sL_law_651 : JSeg (jm jdL_law) [(651, .aload 8, 0, 0), (653, .iconst 5, 0, 0), (654, .iconst 0, 0, 0), (655, .bipush 7, 0, 0), (657, .iconst 0, 0, 0)] := ⟨by decide +kernel, trivial, trivial, trivial, trivial, trivial, trivial⟩
theorem sL_law_661 : JSeg (jm jdL_law) [(661, .bipush (-5), 0, 0)] := ⟨by decide +kernel, trivial, trivial⟩
theorem sL_law_666 : JSeg (jm jdL_law) [(666, .aload 8, 0, 0), (668, .iconst 5, 0, 0), (669, .iconst 0, 0, 0), (670, .iconst 2, 0, 0), (671, .iconst 0, 0, 0)] := ⟨by decide +kernel, trivial, trivial, trivial, trivial, trivial, trivial⟩
theorem sL_law_675 : JSeg (jm jdL_law) [(675, .bipush (-3), 0, 0)] := ⟨by decide +kernel, trivial, trivial⟩
theorem sL_law_680 : JSeg (jm jdL_law) [(680, .iconst 0, 0, 0)] := ⟨by decide +kernel, trivial, trivial⟩
theorem sL_law_682 : JSeg (jm jdL_law) [(682, .aload 8, 0, 0), (684, .iconst 0, 0, 0), (685, .iconst 1, 0, 0), (686, .iconst 2, 0, 0)] := ⟨by decide +kernel, trivial, trivial, trivial, trivial, trivial⟩
theorem sL_law_690 : JSeg (jm jdL_law) [(690, .iconst 3, 0, 0), (691, .iload 6, 0, 0), (693, .iadd, 0, 0)] := ⟨by decide +kernel, trivial, trivial, trivial, trivial⟩
theorem sL_law_697 : JSeg (jm jdL_law) [(697, .aload 8, 0, 0), (699, .iconst 0, 0, 0), (700, .iconst 2, 0, 0), (701, .iconst 3, 0, 0)] := ⟨by decide +kernel, trivial, trivial, trivial, trivial, trivial⟩
theorem sL_law_705 : JSeg (jm jdL_law) [(705, .bipush 14, 0, 0)] := ⟨by decide +kernel, trivial, trivial⟩
theorem sL_law_710 : JSeg (jm jdL_law) [(710, .aload 8, 0, 0), (712, .iconst 3, 0, 0), (713, .iconst 0, 0, 0), (714, .iconst 1, 0, 0), (715, .iconst 3, 0, 0)] := ⟨by decide +kernel, trivial, trivial, trivial, trivial, trivial, trivial⟩
theorem sL_law_719 : JSeg (jm jdL_law) [(719, .bipush (-5), 0, 0)] := ⟨by decide +kernel, trivial, trivial⟩
theorem sL_law_724 : JSeg (jm jdL_law) [(724, .aload 8, 0, 0), (726, .iconst 0, 0, 0)] := ⟨by decide +kernel, trivial, trivial, trivial⟩
theorem sL_law_730 : JSeg (jm jdL_law) [(730, .iconst 1, 0, 0)] := ⟨by decide +kernel, trivial, trivial⟩
theorem sL_law_734 : JSeg (jm jdL_law) [(734, .aload 8, 0, 0), (736, .iconst 0, 0, 0), (737, .iconst 1, 0, 0), (738, .iconst 2, 0, 0)] := ⟨by decide +kernel, trivial, trivial, trivial, trivial, trivial⟩
theorem sL_law_742 : JSeg (jm jdL_law) [(742, .iconst 3, 0, 0), (743, .iload 6, 0, 0), (745, .iadd, 0, 0)] := ⟨by decide +kernel, trivial, trivial, trivial, trivial⟩
theorem sL_law_749 : JSeg (jm jdL_law) [(749, .aload 8, 0, 0), (751, .iconst 1, 0, 0), (752, .iconst 0, 0, 0)] := ⟨by decide +kernel, trivial, trivial, trivial, trivial⟩
theorem sL_law_756 : JSeg (jm jdL_law) [(756, .iconst 3, 0, 0)] := ⟨by decide +kernel, trivial, trivial⟩
theorem sL_law_760 : JSeg (jm jdL_law) [(760, .aload 8, 0, 0), (762, .iconst 1, 0, 0), (763, .iconst 1, 0, 0)] := ⟨by decide +kernel, trivial, trivial, trivial, trivial⟩
theorem sL_law_767 : JSeg (jm jdL_law) [(767, .iconst 2, 0, 0)] := ⟨by decide +kernel, trivial, trivial⟩
theorem sL_law_771 : JSeg (jm jdL_law) [(771, .aload 8, 0, 0)] := ⟨by decide +kernel, trivial, trivial⟩
theorem sL_law_779 : JSeg (jm jdL_law) [(779, .iload 6, 0, 0), (781, .i2l, 0, 0), (782, .ladd, 0, 0), (783, .lcmp, 0, 0)] := ⟨by decide +kernel, trivial, trivial, trivial, trivial, trivial⟩
theorem sL_law_787 : JSeg (jm jdL_law) [(787, .aload 8, 0, 0), (789, .iconst 1, 0, 0), (790, .iconst 2, 0, 0), (791, .iconst 1, 0, 0)] := ⟨by decide +kernel, trivial, trivial, trivial, trivial, trivial⟩
theorem sL_law_795 : JSeg (jm jdL_law) [(795, .iconst 3, 0, 0)] := ⟨by decide +kernel, trivial, trivial⟩
theorem sL_law_799 : JSeg (jm jdL_law) [(799, .aload 8, 0, 0), (801, .iconst 2, 0, 0), (802, .iconst 0, 0, 0)] := ⟨by decide +kernel, trivial, trivial, trivial, trivial⟩
theorem sL_law_806 : JSeg (jm jdL_law) [(806, .iconst 2, 0, 0)] := ⟨by decide +kernel, trivial, trivial⟩
theorem sL_law_810 : JSeg (jm jdL_law) [(810, .aload 8, 0, 0), (812, .iconst 1, 0, 0), (813, .iconst 0, 0, 0), (814, .iconst 1, 0, 0)] := ⟨by decide +kernel, trivial, trivial, trivial, trivial, trivial⟩
theorem sL_law_818 : JSeg (jm jdL_law) [(818, .iconst 4, 0, 0)] := ⟨by decide +kernel, trivial, trivial⟩
theorem sL_law_822 : JSeg (jm jdL_law) [(822, .aload 8, 0, 0), (824, .iconst 0, 0, 0)] := ⟨by decide +kernel, trivial, trivial, trivial⟩
theorem sL_law_828 : JSeg (jm jdL_law) [(828, .iconst 2, 0, 0)] := ⟨by decide +kernel, trivial, trivial⟩
theorem sL_law_832 : JSeg (jm jdL_law) [(832, .aload 8, 0, 0), (834, .iconst 1, 0, 0)] := ⟨by decide +kernel, trivial, trivial, trivial⟩
theorem sL_law_838 : JSeg (jm jdL_law) [(838, .iconst 1, 0, 0)] := ⟨by decide +kernel, trivial, trivial⟩
theorem sL_law_842 : JSeg (jm jdL_law) [(842, .aload 8, 0, 0), (844, .iconst 0, 0, 0)] := ⟨by decide +kernel, trivial, trivial, trivial⟩
theorem sL_law_851 : JSeg (jm jdL_law) [(851, .aload 8, 0, 0)] := ⟨by decide +kernel, trivial, trivial⟩
theorem sL_law_856 : JSeg (jm jdL_law) [(856, .bipush 10, 0, 0), (858, .iload 6, 0, 0), (860, .iadd, 0, 0), (861, .i2d, 0, 0)] := ⟨by decide +kernel, trivial, trivial, trivial, trivial, trivial⟩
theorem sL_law_866 : JSeg (jm jdL_law) [(866, .dcmp .l, 0, 0)] := ⟨by decide +kernel, trivial, trivial⟩
theorem sL_law_870 : JSeg (jm jdL_law) [(870, .iconst 0, 0, 0)] := ⟨by decide +kernel, trivial, trivial⟩
theorem sL_law_872 : JSeg (jm jdL_law) [(872, .aload 8, 0, 0), (874, .iconst 3, 0, 0)] := ⟨by decide +kernel, trivial, trivial, trivial⟩
theorem sL_law_878 : JSeg (jm jdL_law) [(878, .iconst 1, 0, 0)] := ⟨by decide +kernel, trivial, trivial⟩
theorem sL_law_882 : JSeg (jm jdL_law) [(882, .aload 8, 0, 0), (884, .iconst 5, 0, 0), (885, .iconst 0, 0, 0), (886, .bipush 7, 0, 0), (888, .iconst 0, 0, 0)] := ⟨by decide +kernel, trivial, trivial, trivial, trivial, trivial, trivial⟩
theorem sL_law_892 : JSeg (jm jdL_law) [(892, .bipush (-5), 0, 0)] := ⟨by decide +kernel, trivial, trivial⟩
theorem sL_law_897 : JSeg (jm jdL_law) [(897, .aload 8, 0, 0), (899, .iconst 4, 0, 0), (900, .iconst 3, 0, 0), (901, .iconst 0, 0, 0), (902, .iconst 0, 0, 0)] := ⟨by decide +kernel, trivial, trivial, trivial, trivial, trivial, trivial⟩
theorem sL_law_906 : JSeg (jm jdL_law) [(906, .bipush (-3), 0, 0)] := ⟨by decide +kernel, trivial, trivial⟩
theorem sL_law_911 : JSeg (jm jdL_law) [(911, .aload 8, 0, 0), (913, .iconst 1, 0, 0)] := ⟨by decide +kernel, trivial, trivial, trivial⟩
theorem sL_law_920 : JSeg (jm jdL_law) [(920, .aload 8, 0, 0), (922, .iconst 0, 0, 0), (923, .bipush 7, 0, 0)] := ⟨by decide +kernel, trivial, trivial, trivial, trivial⟩
theorem sL_law_928 : JSeg (jm jdL_law) [(928, .iconst 2, 0, 0)] := ⟨by decide +kernel, trivial, trivial⟩
theorem sL_law_932 : JSeg (jm jdL_law) [(932, .aload 8, 0, 0)] := ⟨by decide +kernel, trivial, trivial⟩
theorem sL_law_937 : JSeg (jm jdL_law) [(937, .iconst 2, 0, 0)] := ⟨by decide +kernel, trivial, trivial⟩
theorem sL_law_941 : JSeg (jm jdL_law) [(941, .aload 8, 0, 0)] := ⟨by decide +kernel, trivial, trivial⟩
theorem sL_law_946 : JSeg (jm jdL_law) [(946, .iload 7, 0, 0), (948, .i2l, 0, 0)] := ⟨by decide +kernel, trivial, trivial, trivial⟩
theorem sL_law_952 : JSeg (jm jdL_law) [(952, .ladd, 0, 0), (953, .lcmp, 0, 0)] := ⟨by decide +kernel, trivial, trivial, trivial⟩
theorem sL_law_957 : JSeg (jm jdL_law) [(957, .aload 8, 0, 0)] := ⟨by decide +kernel, trivial, trivial⟩
theorem sL_law_962 : JSeg (jm jdL_law) [(962, .iconst 1, 0, 0)] := ⟨by decide +kernel, trivial, trivial⟩
theorem sL_law_966 : JSeg (jm jdL_law) [(966, .aload 8, 0, 0), (968, .iconst 1, 0, 0)] := ⟨by decide +kernel, trivial, trivial, trivial⟩
theorem sL_law_975 : JSeg (jm jdL_law) [(975, .aload 8, 0, 0), (977, .iconst 2, 0, 0)] := ⟨by decide +kernel, trivial, trivial, trivial⟩
theorem sL_law_984 : JSeg (jm jdL_law) [(984, .aload 8, 0, 0), (986, .bipush 7, 0, 0)] := ⟨by decide +kernel, trivial, trivial, trivial⟩
theorem sL_law_994 : JSeg (jm jdL_law) [(994, .aload 8, 0, 0), (996, .iconst 0, 0, 0)] := ⟨by decide +kernel, trivial, trivial, trivial⟩
theorem sL_law_1000 : JSeg (jm jdL_law) [(1000, .iconst 2, 0, 0)] := ⟨by decide +kernel, trivial, trivial⟩
theorem sL_law_1004 : JSeg (jm jdL_law) [(1004, .aload 8, 0, 0)] := ⟨by decide +kernel, trivial, trivial⟩
theorem sL_law_1012 : JSeg (jm jdL_law) [(1012, .fcmp .l, 0, 0)] := ⟨by decide +kernel, trivial, trivial⟩
theorem sL_law_1016 : JSeg (jm jdL_law) [(1016, .aload 8, 0, 0), (1018, .iconst 2, 0, 0), (1019, .bipush 30, 0, 0), (1021, .bipush 10, 0, 0), (1023, .bipush 9, 0, 0), (1025, .iconst 0, 0, 0)] := ⟨by decide +kernel, trivial, trivial, trivial, trivial, trivial, trivial, trivial⟩
theorem sL_law_1029 : JSeg (jm jdL_law) [(1029, .iconst 4, 0, 0)] := ⟨by decide +kernel, trivial, trivial⟩
theorem sL_law_1033 : JSeg (jm jdL_law) [(1033, .iconst 0, 0, 0)] := ⟨by decide +kernel, trivial, trivial⟩
theorem sL_law_1035 : JSeg (jm jdL_law) [(1035, .aload 8, 0, 0), (1037, .aload 8, 0, 0), (1039, .iconst 2, 0, 0)] := ⟨by decide +kernel, trivial, trivial, trivial, trivial⟩
theorem sL_law_1052 : JSeg (jm jdL_law) [(1052, .aload 8, 0, 0), (1054, .iconst 2, 0, 0)] := ⟨by decide +kernel, trivial, trivial, trivial⟩
theorem sL_law_1058 : JSeg (jm jdL_law) [(1058, .iconst 1, 0, 0)] := ⟨by decide +kernel, trivial, trivial⟩
theorem sL_law_1062 : JSeg (jm jdL_law) [(1062, .aload 8, 0, 0), (1064, .iconst 1, 0, 0), (1065, .iconst 2, 0, 0)] := ⟨by decide +kernel, trivial, trivial, trivial, trivial⟩
theorem sL_law_1069 : JSeg (jm jdL_law) [(1069, .iconst 1, 0, 0)] := ⟨by decide +kernel, trivial, trivial⟩
theorem sL_law_1073 : JSeg (jm jdL_law) [(1073, .aload 8, 0, 0), (1075, .iconst 3, 0, 0), (1076, .iconst 2, 0, 0), (1077, .iconst 0, 0, 0), (1078, .iconst 1, 0, 0)] := ⟨by decide +kernel, trivial, trivial, trivial, trivial, trivial, trivial⟩
theorem sL_law_1082 : JSeg (jm jdL_law) [(1082, .bipush (-4), 0, 0)] := ⟨by decide +kernel, trivial, trivial⟩
theorem sL_law_1087 : JSeg (jm jdL_law) [(1087, .aload 8, 0, 0), (1089, .iconst 2, 0, 0), (1090, .iconst 1, 0, 0), (1091, .iconst 1, 0, 0), (1092, .iconst 0, 0, 0)] := ⟨by decide +kernel, trivial, trivial, trivial, trivial, trivial, trivial⟩
theorem sL_law_1096 : JSeg (jm jdL_law) [(1096, .bipush (-3), 0, 0)] := ⟨by decide +kernel, trivial, trivial⟩
theorem sL_law_1101 : JSeg (jm jdL_law) [(1101, .aload 8, 0, 0), (1103, .iconst 0, 0, 0)] := ⟨by decide +kernel, trivial, trivial, trivial⟩
theorem sL_law_1110 : JSeg (jm jdL_law) [(1110, .aload 8, 0, 0), (1112, .iconst 2, 0, 0)] := ⟨by decide +kernel, trivial, trivial, trivial⟩
theorem sL_law_1116 : JSeg (jm jdL_law) [(1116, .iconst 2, 0, 0)] := ⟨by decide +kernel, trivial, trivial⟩
theorem sL_law_1120 : JSeg (jm jdL_law) [(1120, .aload 8, 0, 0), (1122, .bipush 6, 0, 0), (1124, .iconst 2, 0, 0), (1125, .iconst 2, 0, 0), (1126, .iconst 1, 0, 0)] := ⟨by decide +kernel, trivial, trivial, trivial, trivial, trivial, trivial⟩
theorem sL_law_1130 : JSeg (jm jdL_law) [(1130, .bipush (-2), 0, 0)] := ⟨by decide +kernel, trivial, trivial⟩
theorem sL_law_1135 : JSeg (jm jdL_law) [(1135, .aload 8, 0, 0)] := ⟨by decide +kernel, trivial, trivial⟩
theorem sL_law_1143 : JSeg (jm jdL_law) [(1143, .aload 8, 0, 0), (1145, .iconst 2, 0, 0), (1146, .iconst 0, 0, 0)] := ⟨by decide +kernel, trivial, trivial, trivial, trivial⟩
theorem sL_law_1150 : JSeg (jm jdL_law) [(1150, .iconst 2, 0, 0)] := ⟨by decide +kernel, trivial, trivial⟩
theorem sL_law_1154 : JSeg (jm jdL_law) [(1154, .aload 8, 0, 0)] := ⟨by decide +kernel, trivial, trivial⟩
theorem sL_law_1159 : JSeg (jm jdL_law) [(1159, .iconst 3, 0, 0)] := ⟨by decide +kernel, trivial, trivial⟩
theorem sL_law_1163 : JSeg (jm jdL_law) [(1163, .iconst 0, 0, 0)] := ⟨by decide +kernel, trivial, trivial⟩
theorem sL_law_1165 : JSeg (jm jdL_law) [(1165, .aload_n 1, 0, 0)] := ⟨by decide +kernel, trivial, trivial⟩
theorem sL_law_1169 : JSeg (jm jdL_law) [(1169, .aload_n 1, 0, 0)] := ⟨by decide +kernel, trivial, trivial⟩
theorem sL_law_1173 : JSeg (jm jdL_law) [(1173, .iload_n 3, 0, 0)] := ⟨by decide +kernel, trivial, trivial⟩
theorem sL_law_1177 : JSeg (jm jdL_law) [(1177, .iconst 1, 0, 0), (1178, .goto 4, 0, 0)] := ⟨by decide +kernel, trivial, trivial, trivial⟩
theorem sL_law_1181 : JSeg (jm jdL_law) [(1181, .iconst 0, 0, 0)] := ⟨by decide +kernel, trivial, trivial⟩
theorem dL_law_1 : decode cL_law 1 = .ok (.invokestatic 132, 3) := by decide +kernel
theorem dL_law_6 : decode cL_law 6 = .ok (.invokestatic 132, 3) := by decide +kernel
theorem dL_law_11 : decode cL_law 11 = .ok (.invokevirtual 136, 3) := by decide +kernel
theorem dL_law_15 : decode cL_law 15 = .ok (.invokestatic 139, 3) := by decide +kernel
theorem dL_law_20 : decode cL_law 20 = .ok (.invokevirtual 34, 3) := by decide +kernel
theorem dL_law_29 : decode cL_law 29 = .ok (.if_icmp .ge 179, 3) := by decide +kernel
theorem dL_law_33 : decode cL_law 33 = .ok (.new 143, 3) := by decide +kernel
theorem dL_law_37 : decode cL_law 37 = .ok (.invokespecial 145, 3) := by decide +kernel
theorem dL_law_40 : decode cL_law 40 = .ok (.ldc 146, 2) := by decide +kernel
theorem dL_law_42 : decode cL_law 42 = .ok (.invokevirtual 148, 3) := by decide +kernel
theorem dL_law_47 : decode cL_law 47 = .ok (.invokevirtual 151, 3) := by decide +kernel
theorem dL_law_50 : decode cL_law 50 = .ok (.ldc 154, 2) := by decide +kernel
theorem dL_law_52 : decode cL_law 52 = .ok (.invokevirtual 148, 3) := by decide +kernel
theorem dL_law_59 : decode cL_law 59 = .ok (.invokevirtual 151, 3) := by decide +kernel
theorem dL_law_62 : decode cL_law 62 = .ok (.invokevirtual 156, 3) := by decide +kernel
theorem dL_law_65 : decode cL_law 65 = .ok (.invokestatic 160, 3) := by decide +kernel
theorem dL_law_69 : decode cL_law 69 = .ok (.invokevirtual 164, 3) := by decide +kernel
theorem dL_law_73 : decode cL_law 73 = .ok (.if_icmp .ne 54, 3) := by decide +kernel
theorem dL_law_80 : decode cL_law 80 = .ok (.invokevirtual 41, 3) := by decide +kernel
theorem dL_law_85 : decode cL_law 85 = .ok (.if_icmp .ne 42, 3) := by decide +kernel
theorem dL_law_92 : decode cL_law 92 = .ok (.invokevirtual 41, 3) := by decide +kernel
theorem dL_law_99 : decode cL_law 99 = .ok (.if_icmp .ne 28, 3) := by decide +kernel
theorem dL_law_109 : decode cL_law 109 = .ok (.invokevirtual 45, 3) := by decide +kernel
theorem dL_law_113 : decode cL_law 113 = .ok (.if_icmp .lt 14, 3) := by decide +kernel
theorem dL_law_117 : decode cL_law 117 = .ok (.invokestatic 139, 3) := by decide +kernel
theorem dL_law_121 : decode cL_law 121 = .ok (.invokestatic 139, 3) := by decide +kernel
theorem dL_law_124 : decode cL_law 124 = .ok (.if_icmp .eq 5, 3) := by decide +kernel
theorem dL_law_128 : decode cL_law 128 = .ok (.ireturn, 1) := by decide +kernel
theorem dL_law_130 : decode cL_law 130 = .ok (.invokevirtual 167, 3) := by decide +kernel
theorem dL_law_133 : decode cL_law 133 = .ok (.ifCond .lt 40, 3) := by decide +kernel
theorem dL_law_137 : decode cL_law 137 = .ok (.invokestatic 139, 3) := by decide +kernel
theorem dL_law_141 : decode cL_law 141 = .ok (.if_icmp .ne 32, 3) := by decide +kernel
theorem dL_law_145 : decode cL_law 145 = .ok (.invokevirtual 167, 3) := by decide +kernel
theorem dL_law_148 : decode cL_law 148 = .ok (.ifCond .lt 25, 3) := by decide +kernel
theorem dL_law_152 : decode cL_law 152 = .ok (.invokevirtual 167, 3) := by decide +kernel
theorem dL_law_155 : decode cL_law 155 = .ok (.ifCond .lt 18, 3) := by decide +kernel
theorem dL_law_159 : decode cL_law 159 = .ok (.invokevirtual 167, 3) := by decide +kernel
theorem dL_law_162 : decode cL_law 162 = .ok (.ifCond .lt 11, 3) := by decide +kernel
theorem dL_law_166 : decode cL_law 166 = .ok (.invokestatic 139, 3) := by decide +kernel
theorem dL_law_170 : decode cL_law 170 = .ok (.if_icmp .eq 5, 3) := by decide +kernel
theorem dL_law_174 : decode cL_law 174 = .ok (.ireturn, 1) := by decide +kernel
theorem dL_law_176 : decode cL_law 176 = .ok (.ldc 170, 2) := by decide +kernel
theorem dL_law_178 : decode cL_law 178 = .ok (.invokestatic 160, 3) := by decide +kernel
theorem dL_law_182 : decode cL_law 182 = .ok (.invokestatic 172, 3) := by decide +kernel
theorem dL_law_187 : decode cL_law 187 = .ok (.if_icmp .ne 19, 3) := by decide +kernel
theorem dL_law_191 : decode cL_law 191 = .ok (.invokevirtual 175, 3) := by decide +kernel
theorem dL_law_195 : decode cL_law 195 = .ok (.if_icmp .ne 11, 3) := by decide +kernel
theorem dL_law_199 : decode cL_law 199 = .ok (.invokestatic 139, 3) := by decide +kernel
theorem dL_law_203 : decode cL_law 203 = .ok (.if_icmp .eq 5, 3) := by decide +kernel
theorem dL_law_207 : decode cL_law 207 = .ok (.ireturn, 1) := by decide +kernel
theorem dL_law_209 : decode cL_law 209 = .ok (.ldc 178, 2) := by decide +kernel
theorem dL_law_211 : decode cL_law 211 = .ok (.invokestatic 160, 3) := by decide +kernel
theorem dL_law_215 : decode cL_law 215 = .ok (.invokestatic 172, 3) := by decide +kernel
theorem dL_law_220 : decode cL_law 220 = .ok (.if_icmp .ne 18, 3) := by decide +kernel
theorem dL_law_224 : decode cL_law 224 = .ok (.invokevirtual 175, 3) := by decide +kernel
theorem dL_law_227 : decode cL_law 227 = .ok (.ifCond .ne 11, 3) := by decide +kernel
theorem dL_law_231 : decode cL_law 231 = .ok (.invokestatic 139, 3) := by decide +kernel
theorem dL_law_235 : decode cL_law 235 = .ok (.if_icmp .eq 5, 3) := by decide +kernel
theorem dL_law_239 : decode cL_law 239 = .ok (.ireturn, 1) := by decide +kernel
theorem dL_law_241 : decode cL_law 241 = .ok (.ldc 180, 2) := by decide +kernel
theorem dL_law_244 : decode cL_law 244 = .ok (.invokestatic 182, 3) := by decide +kernel
theorem dL_law_247 : decode cL_law 247 = .ok (.ifCond .eq 124, 3) := by decide +kernel
theorem dL_law_251 : decode cL_law 251 = .ok (.ldc 186, 2) := by decide +kernel
theorem dL_law_254 : decode cL_law 254 = .ok (.invokestatic 182, 3) := by decide +kernel
theorem dL_law_257 : decode cL_law 257 = .ok (.ifCond .eq 114, 3) := by decide +kernel
theorem dL_law_261 : decode cL_law 261 = .ok (.ldc 188, 2) := by decide +kernel
theorem dL_law_264 : decode cL_law 264 = .ok (.invokestatic 182, 3) := by decide +kernel
theorem dL_law_267 : decode cL_law 267 = .ok (.ifCond .eq 104, 3) := by decide +kernel
theorem dL_law_271 : decode cL_law 271 = .ok (.ldc 190, 2) := by decide +kernel
theorem dL_law_275 : decode cL_law 275 = .ok (.invokestatic 182, 3) := by decide +kernel
theorem dL_law_278 : decode cL_law 278 = .ok (.ifCond .eq 93, 3) := by decide +kernel
theorem dL_law_282 : decode cL_law 282 = .ok (.ldc 192, 2) := by decide +kernel
theorem dL_law_286 : decode cL_law 286 = .ok (.invokestatic 182, 3) := by decide +kernel
theorem dL_law_289 : decode cL_law 289 = .ok (.ifCond .eq 82, 3) := by decide +kernel
theorem dL_law_293 : decode cL_law 293 = .ok (.ldc 194, 2) := by decide +kernel
theorem dL_law_297 : decode cL_law 297 = .ok (.invokestatic 182, 3) := by decide +kernel
theorem dL_law_300 : decode cL_law 300 = .ok (.ifCond .eq 71, 3) := by decide +kernel
theorem dL_law_304 : decode cL_law 304 = .ok (.ldc 196, 2) := by decide +kernel
theorem dL_law_307 : decode cL_law 307 = .ok (.invokestatic 182, 3) := by decide +kernel
theorem dL_law_310 : decode cL_law 310 = .ok (.ifCond .eq 61, 3) := by decide +kernel
theorem dL_law_314 : decode cL_law 314 = .ok (.ldc 198, 2) := by decide +kernel
theorem dL_law_318 : decode cL_law 318 = .ok (.invokestatic 182, 3) := by decide +kernel
theorem dL_law_321 : decode cL_law 321 = .ok (.ifCond .eq 50, 3) := by decide +kernel
theorem dL_law_325 : decode cL_law 325 = .ok (.ldc 200, 2) := by decide +kernel
theorem dL_law_329 : decode cL_law 329 = .ok (.invokestatic 182, 3) := by decide +kernel
theorem dL_law_332 : decode cL_law 332 = .ok (.ifCond .eq 39, 3) := by decide +kernel
theorem dL_law_336 : decode cL_law 336 = .ok (.ldc 202, 2) := by decide +kernel
theorem dL_law_340 : decode cL_law 340 = .ok (.invokestatic 182, 3) := by decide +kernel
theorem dL_law_343 : decode cL_law 343 = .ok (.ifCond .eq 28, 3) := by decide +kernel
theorem dL_law_347 : decode cL_law 347 = .ok (.ldc 204, 2) := by decide +kernel
theorem dL_law_350 : decode cL_law 350 = .ok (.invokestatic 182, 3) := by decide +kernel
theorem dL_law_353 : decode cL_law 353 = .ok (.ifCond .eq 18, 3) := by decide +kernel
theorem dL_law_357 : decode cL_law 357 = .ok (.invokevirtual 175, 3) := by decide +kernel
theorem dL_law_360 : decode cL_law 360 = .ok (.ifCond .ne 11, 3) := by decide +kernel
theorem dL_law_364 : decode cL_law 364 = .ok (.invokestatic 139, 3) := by decide +kernel
theorem dL_law_368 : decode cL_law 368 = .ok (.if_icmp .eq 5, 3) := by decide +kernel
theorem dL_law_372 : decode cL_law 372 = .ok (.ireturn, 1) := by decide +kernel
theorem dL_law_376 : decode cL_law 376 = .ok (.invokestatic 24, 3) := by decide +kernel
theorem dL_law_399 : decode cL_law 399 = .ok (.new 18, 3) := by decide +kernel
theorem dL_law_403 : decode cL_law 403 = .ok (.invokespecial 23, 3) := by decide +kernel
theorem dL_law_410 : decode cL_law 410 = .ok (.invokevirtual 206, 3) := by decide +kernel
theorem dL_law_413 : decode cL_law 413 = .ok (.ifCond .eq 57, 3) := by decide +kernel
theorem dL_law_418 : decode cL_law 418 = .ok (.invokevirtual 210, 3) := by decide +kernel
theorem dL_law_421 : decode cL_law 421 = .ok (.ifCond .ne 49, 3) := by decide +kernel
theorem dL_law_426 : decode cL_law 426 = .ok (.invokevirtual 88, 3) := by decide +kernel
theorem dL_law_431 : decode cL_law 431 = .ok (.ifCond .ne 39, 3) := by decide +kernel
theorem dL_law_437 : decode cL_law 437 = .ok (.invokevirtual 213, 3) := by decide +kernel
theorem dL_law_440 : decode cL_law 440 = .ok (.ifCond .ne 30, 3) := by decide +kernel
theorem dL_law_449 : decode cL_law 449 = .ok (.invokestatic 30, 3) := by decide +kernel
theorem dL_law_453 : decode cL_law 453 = .ok (.if_icmp .ne 17, 3) := by decide +kernel
theorem dL_law_462 : decode cL_law 462 = .ok (.invokestatic 30, 3) := by decide +kernel
theorem dL_law_467 : decode cL_law 467 = .ok (.if_icmp .eq 5, 3) := by decide +kernel
theorem dL_law_471 : decode cL_law 471 = .ok (.ireturn, 1) := by decide +kernel
theorem dL_law_474 : decode cL_law 474 = .ok (.new 143, 3) := by decide +kernel
theorem dL_law_478 : decode cL_law 478 = .ok (.invokespecial 145, 3) := by decide +kernel
theorem dL_law_481 : decode cL_law 481 = .ok (.ldc 216, 2) := by decide +kernel
theorem dL_law_483 : decode cL_law 483 = .ok (.invokevirtual 148, 3) := by decide +kernel
theorem dL_law_488 : decode cL_law 488 = .ok (.invokevirtual 151, 3) := by decide +kernel
theorem dL_law_491 : decode cL_law 491 = .ok (.ldc 218, 2) := by decide +kernel
theorem dL_law_493 : decode cL_law 493 = .ok (.invokevirtual 148, 3) := by decide +kernel
theorem dL_law_496 : decode cL_law 496 = .ok (.invokevirtual 156, 3) := by decide +kernel
theorem dL_law_499 : decode cL_law 499 = .ok (.invokestatic 160, 3) := by decide +kernel
theorem dL_law_504 : decode cL_law 504 = .ok (.invokevirtual 164, 3) := by decide +kernel
theorem dL_law_508 : decode cL_law 508 = .ok (.if_icmp .ne 172, 3) := by decide +kernel
theorem dL_law_515 : decode cL_law 515 = .ok (.invokevirtual 129, 3) := by decide +kernel
theorem dL_law_519 : decode cL_law 519 = .ok (.if_icmp .ne 161, 3) := by decide +kernel
theorem dL_law_527 : decode cL_law 527 = .ok (.invokevirtual 220, 3) := by decide +kernel
theorem dL_law_531 : decode cL_law 531 = .ok (.if_icmp .ne 149, 3) := by decide +kernel
theorem dL_law_544 : decode cL_law 544 = .ok (.invokestatic 37, 3) := by decide +kernel
theorem dL_law_548 : decode cL_law 548 = .ok (.if_icmp .ne 132, 3) := by decide +kernel
theorem dL_law_560 : decode cL_law 560 = .ok (.invokestatic 37, 3) := by decide +kernel
theorem dL_law_564 : decode cL_law 564 = .ok (.if_icmp .ne 116, 3) := by decide +kernel
theorem dL_law_577 : decode cL_law 577 = .ok (.invokestatic 37, 3) := by decide +kernel
theorem dL_law_581 : decode cL_law 581 = .ok (.if_icmp .ne 99, 3) := by decide +kernel
theorem dL_law_593 : decode cL_law 593 = .ok (.invokestatic 37, 3) := by decide +kernel
theorem dL_law_598 : decode cL_law 598 = .ok (.if_icmp .ne 82, 3) := by decide +kernel
theorem dL_law_604 : decode cL_law 604 = .ok (.invokevirtual 223, 3) := by decide +kernel
theorem dL_law_608 : decode cL_law 608 = .ok (.if_icmp .ne 72, 3) := by decide +kernel
theorem dL_law_614 : decode cL_law 614 = .ok (.invokevirtual 226, 3) := by decide +kernel
theorem dL_law_618 : decode cL_law 618 = .ok (.if_icmp .ne 62, 3) := by decide +kernel
theorem dL_law_624 : decode cL_law 624 = .ok (.invokevirtual 229, 3) := by decide +kernel
theorem dL_law_627 : decode cL_law 627 = .ok (.ifCond .ne 53, 3) := by decide +kernel
theorem dL_law_633 : decode cL_law 633 = .ok (.invokevirtual 232, 3) := by decide +kernel
theorem dL_law_637 : decode cL_law 637 = .ok (.if_icmp .ne 43, 3) := by decide +kernel
theorem dL_law_643 : decode cL_law 643 = .ok (.invokevirtual 98, 3) := by decide +kernel
theorem dL_law_648 : decode cL_law 648 = .ok (.if_icmp .ne 32, 3) := by decide +kernel
theorem dL_law_658 : decode cL_law 658 = .ok (.invokestatic 30, 3) := by decide +kernel
theorem dL_law_663 : decode cL_law 663 = .ok (.if_icmp .ne 17, 3) := by decide +kernel
theorem dL_law_672 : decode cL_law 672 = .ok (.invokestatic 30, 3) := by decide +kernel
theorem dL_law_677 : decode cL_law 677 = .ok (.if_icmp .eq 5, 3) := by decide +kernel
theorem dL_law_681 : decode cL_law 681 = .ok (.ireturn, 1) := by decide +kernel
theorem dL_law_687 : decode cL_law 687 = .ok (.invokevirtual 62, 3) := by decide +kernel
theorem dL_law_694 : decode cL_law 694 = .ok (.if_icmp .ne 176, 3) := by decide +kernel
theorem dL_law_702 : decode cL_law 702 = .ok (.invokevirtual 62, 3) := by decide +kernel
theorem dL_law_707 : decode cL_law 707 = .ok (.if_icmp .ne 163, 3) := by decide +kernel
theorem dL_law_716 : decode cL_law 716 = .ok (.invokestatic 30, 3) := by decide +kernel
theorem dL_law_721 : decode cL_law 721 = .ok (.if_icmp .ne 149, 3) := by decide +kernel
theorem dL_law_727 : decode cL_law 727 = .ok (.invokevirtual 235, 3) := by decide +kernel
theorem dL_law_731 : decode cL_law 731 = .ok (.if_icmp .ne 139, 3) := by decide +kernel
theorem dL_law_739 : decode cL_law 739 = .ok (.invokevirtual 51, 3) := by decide +kernel
theorem dL_law_746 : decode cL_law 746 = .ok (.if_icmp .ne 124, 3) := by decide +kernel
theorem dL_law_753 : decode cL_law 753 = .ok (.invokevirtual 82, 3) := by decide +kernel
theorem dL_law_757 : decode cL_law 757 = .ok (.if_icmp .ne 113, 3) := by decide +kernel
theorem dL_law_764 : decode cL_law 764 = .ok (.invokevirtual 82, 3) := by decide +kernel
theorem dL_law_768 : decode cL_law 768 = .ok (.if_icmp .ne 102, 3) := by decide +kernel
theorem dL_law_773 : decode cL_law 773 = .ok (.invokevirtual 88, 3) := by decide +kernel
theorem dL_law_776 : decode cL_law 776 = .ok (.ldc2_w 238, 3) := by decide +kernel
theorem dL_law_784 : decode cL_law 784 = .ok (.ifCond .ne 86, 3) := by decide +kernel
theorem dL_law_792 : decode cL_law 792 = .ok (.invokevirtual 51, 3) := by decide +kernel
theorem dL_law_796 : decode cL_law 796 = .ok (.if_icmp .ne 74, 3) := by decide +kernel
theorem dL_law_803 : decode cL_law 803 = .ok (.invokevirtual 82, 3) := by decide +kernel
theorem dL_law_807 : decode cL_law 807 = .ok (.if_icmp .ne 63, 3) := by decide +kernel
theorem dL_law_815 : decode cL_law 815 = .ok (.invokevirtual 51, 3) := by decide +kernel
theorem dL_law_819 : decode cL_law 819 = .ok (.if_icmp .ne 51, 3) := by decide +kernel
theorem dL_law_825 : decode cL_law 825 = .ok (.invokevirtual 232, 3) := by decide +kernel
theorem dL_law_829 : decode cL_law 829 = .ok (.if_icmp .ne 41, 3) := by decide +kernel
theorem dL_law_835 : decode cL_law 835 = .ok (.invokevirtual 240, 3) := by decide +kernel
theorem dL_law_839 : decode cL_law 839 = .ok (.if_icmp .ne 31, 3) := by decide +kernel
theorem dL_law_845 : decode cL_law 845 = .ok (.invokevirtual 229, 3) := by decide +kernel
theorem dL_law_848 : decode cL_law 848 = .ok (.ifCond .eq 22, 3) := by decide +kernel
theorem dL_law_853 : decode cL_law 853 = .ok (.invokevirtual 243, 3) := by decide +kernel
theorem dL_law_862 : decode cL_law 862 = .ok (.ldc2_w 247, 3) := by decide +kernel
theorem dL_law_865 : decode cL_law 865 = .ok (.ddiv, 1) := by decide +kernel
theorem dL_law_867 : decode cL_law 867 = .ok (.ifCond .eq 5, 3) := by decide +kernel
theorem dL_law_871 : decode cL_law 871 = .ok (.ireturn, 1) := by decide +kernel
theorem dL_law_875 : decode cL_law 875 = .ok (.invokevirtual 55, 3) := by decide +kernel
theorem dL_law_879 : decode cL_law 879 = .ok (.if_icmp .ne 154, 3) := by decide +kernel
theorem dL_law_889 : decode cL_law 889 = .ok (.invokestatic 30, 3) := by decide +kernel
theorem dL_law_894 : decode cL_law 894 = .ok (.if_icmp .ne 139, 3) := by decide +kernel
theorem dL_law_903 : decode cL_law 903 = .ok (.invokestatic 30, 3) := by decide +kernel
theorem dL_law_908 : decode cL_law 908 = .ok (.if_icmp .ne 125, 3) := by decide +kernel
theorem dL_law_914 : decode cL_law 914 = .ok (.invokevirtual 55, 3) := by decide +kernel
theorem dL_law_917 : decode cL_law 917 = .ok (.ifCond .ne 116, 3) := by decide +kernel
theorem dL_law_925 : decode cL_law 925 = .ok (.invokevirtual 59, 3) := by decide +kernel
theorem dL_law_929 : decode cL_law 929 = .ok (.if_icmp .ne 104, 3) := by decide +kernel
theorem dL_law_934 : decode cL_law 934 = .ok (.invokevirtual 92, 3) := by decide +kernel
theorem dL_law_938 : decode cL_law 938 = .ok (.if_icmp .ne 95, 3) := by decide +kernel
theorem dL_law_943 : decode cL_law 943 = .ok (.invokevirtual 95, 3) := by decide +kernel
theorem dL_law_949 : decode cL_law 949 = .ok (.ldc2_w 249, 3) := by decide +kernel
theorem dL_law_954 : decode cL_law 954 = .ok (.ifCond .ne 79, 3) := by decide +kernel
theorem dL_law_959 : decode cL_law 959 = .ok (.invokevirtual 210, 3) := by decide +kernel
theorem dL_law_963 : decode cL_law 963 = .ok (.if_icmp .ne 70, 3) := by decide +kernel
theorem dL_law_969 : decode cL_law 969 = .ok (.invokevirtual 213, 3) := by decide +kernel
theorem dL_law_972 : decode cL_law 972 = .ok (.ifCond .ne 61, 3) := by decide +kernel
theorem dL_law_978 : decode cL_law 978 = .ok (.invokevirtual 213, 3) := by decide +kernel
theorem dL_law_981 : decode cL_law 981 = .ok (.ifCond .eq 52, 3) := by decide +kernel
theorem dL_law_988 : decode cL_law 988 = .ok (.invokevirtual 251, 3) := by decide +kernel
theorem dL_law_991 : decode cL_law 991 = .ok (.ifCond .ne 42, 3) := by decide +kernel
theorem dL_law_997 : decode cL_law 997 = .ok (.invokevirtual 254, 3) := by decide +kernel
theorem dL_law_1001 : decode cL_law 1001 = .ok (.if_icmp .ne 32, 3) := by decide +kernel
theorem dL_law_1006 : decode cL_law 1006 = .ok (.invokevirtual 257, 3) := by decide +kernel
theorem dL_law_1009 : decode cL_law 1009 = .ok (.ldc_w 261, 3) := by decide +kernel
theorem dL_law_1013 : decode cL_law 1013 = .ok (.ifCond .ne 20, 3) := by decide +kernel
theorem dL_law_1026 : decode cL_law 1026 = .ok (.invokestatic 37, 3) := by decide +kernel
theorem dL_law_1030 : decode cL_law 1030 = .ok (.if_icmp .eq 5, 3) := by decide +kernel
theorem dL_law_1034 : decode cL_law 1034 = .ok (.ireturn, 1) := by decide +kernel
theorem dL_law_1040 : decode cL_law 1040 = .ok (.invokevirtual 262, 3) := by decide +kernel
theorem dL_law_1043 : decode cL_law 1043 = .ok (.ldc_w 265, 3) := by decide +kernel
theorem dL_law_1046 : decode cL_law 1046 = .ok (.invokestatic 267, 3) := by decide +kernel
theorem dL_law_1049 : decode cL_law 1049 = .ok (.ifCond .eq 114, 3) := by decide +kernel
theorem dL_law_1055 : decode cL_law 1055 = .ok (.invokevirtual 223, 3) := by decide +kernel
theorem dL_law_1059 : decode cL_law 1059 = .ok (.if_icmp .ne 104, 3) := by decide +kernel
theorem dL_law_1066 : decode cL_law 1066 = .ok (.invokevirtual 48, 3) := by decide +kernel
theorem dL_law_1070 : decode cL_law 1070 = .ok (.if_icmp .ne 93, 3) := by decide +kernel
theorem dL_law_1079 : decode cL_law 1079 = .ok (.invokestatic 30, 3) := by decide +kernel
theorem dL_law_1084 : decode cL_law 1084 = .ok (.if_icmp .ne 79, 3) := by decide +kernel
theorem dL_law_1093 : decode cL_law 1093 = .ok (.invokestatic 30, 3) := by decide +kernel
theorem dL_law_1098 : decode cL_law 1098 = .ok (.if_icmp .ne 65, 3) := by decide +kernel
theorem dL_law_1104 : decode cL_law 1104 = .ok (.invokevirtual 271, 3) := by decide +kernel
theorem dL_law_1107 : decode cL_law 1107 = .ok (.ifCond .ne 56, 3) := by decide +kernel
theorem dL_law_1113 : decode cL_law 1113 = .ok (.invokevirtual 271, 3) := by decide +kernel
theorem dL_law_1117 : decode cL_law 1117 = .ok (.if_icmp .ne 46, 3) := by decide +kernel
theorem dL_law_1127 : decode cL_law 1127 = .ok (.invokestatic 30, 3) := by decide +kernel
theorem dL_law_1132 : decode cL_law 1132 = .ok (.if_icmp .ne 31, 3) := by decide +kernel
theorem dL_law_1137 : decode cL_law 1137 = .ok (.invokevirtual 167, 3) := by decide +kernel
theorem dL_law_1140 : decode cL_law 1140 = .ok (.ifCond .lt 23, 3) := by decide +kernel
theorem dL_law_1147 : decode cL_law 1147 = .ok (.invokevirtual 126, 3) := by decide +kernel
theorem dL_law_1151 : decode cL_law 1151 = .ok (.if_icmp .ne 12, 3) := by decide +kernel
theorem dL_law_1156 : decode cL_law 1156 = .ok (.invokevirtual 85, 3) := by decide +kernel
theorem dL_law_1160 : decode cL_law 1160 = .ok (.if_icmp .eq 5, 3) := by decide +kernel
theorem dL_law_1164 : decode cL_law 1164 = .ok (.ireturn, 1) := by decide +kernel
theorem dL_law_1166 : decode cL_law 1166 = .ok (.invokevirtual 274, 3) := by decide +kernel
theorem dL_law_1170 : decode cL_law 1170 = .ok (.invokestatic 139, 3) := by decide +kernel
theorem dL_law_1174 : decode cL_law 1174 = .ok (.if_icmp .ne 7, 3) := by decide +kernel
theorem dL_law_1182 : decode cL_law 1182 = .ok (.ireturn, 1) := by decide +kernel
