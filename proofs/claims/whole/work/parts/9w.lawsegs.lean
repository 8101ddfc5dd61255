/-! the law's loop: its code -/
theorem sL_law_3 : JSeg (jm jdL_law) [(3, .dup, 0, 0)] := ⟨by decide +kernel, trivial, trivial⟩
theorem sL_law_7 : JSeg (jm jdL_law) [(7, .astore_n 1, 0, 0)] := ⟨by decide +kernel, trivial, trivial⟩
theorem sL_law_11 : JSeg (jm jdL_law) [(11, .dup, 0, 0)] := ⟨by decide +kernel, trivial, trivial⟩
theorem sL_law_15 : JSeg (jm jdL_law) [(15, .astore_n 2, 0, 0), (16, .iconst 1, 0, 0)] := ⟨by decide +kernel, trivial, trivial, trivial⟩
theorem sL_law_19 : JSeg (jm jdL_law) [(19, .astore_n 3, 0, 0), (20, .iconst 1, 0, 0)] := ⟨by decide +kernel, trivial, trivial, trivial⟩
theorem sL_law_23 : JSeg (jm jdL_law) [(23, .astore 4, 0, 0), (25, .iconst 0, 0, 0), (26, .istore 5, 0, 0)] := ⟨by decide +kernel, trivial, trivial, trivial, trivial⟩
theorem sL_law_28 : JSeg (jm jdL_law) [(28, .iload 5, 0, 0), (30, .aload_n 0, 0, 0), (31, .arraylength, 0, 0), (32, .bipush 6, 0, 0), (34, .isub, 0, 0)] := ⟨by decide +kernel, trivial, trivial, trivial, trivial, trivial, trivial⟩
theorem sL_law_38 : JSeg (jm jdL_law) [(38, .aload_n 0, 0, 0), (39, .iload 5, 0, 0)] := ⟨by decide +kernel, trivial, trivial, trivial⟩
theorem sL_law_42 : JSeg (jm jdL_law) [(42, .bipush 63, 0, 0), (44, .iand, 0, 0)] := ⟨by decide +kernel, trivial, trivial, trivial⟩
theorem sL_law_248 : JSeg (jm jdL_law) [(248, .aload_n 1, 0, 0), (249, .aload_n 0, 0, 0), (250, .iload 5, 0, 0), (252, .iconst 1, 0, 0), (253, .iadd, 0, 0)] := ⟨by decide +kernel, trivial, trivial, trivial, trivial, trivial, trivial⟩
theorem sL_law_255 : JSeg (jm jdL_law) [(255, .aload_n 0, 0, 0), (256, .iload 5, 0, 0), (258, .iconst 2, 0, 0), (259, .iadd, 0, 0)] := ⟨by decide +kernel, trivial, trivial, trivial, trivial, trivial⟩
theorem sL_law_261 : JSeg (jm jdL_law) [(261, .aload_n 3, 0, 0)] := ⟨by decide +kernel, trivial, trivial⟩
theorem sL_law_265 : JSeg (jm jdL_law) [(265, .istore 6, 0, 0), (267, .aload_n 2, 0, 0), (268, .aload_n 0, 0, 0), (269, .iload 5, 0, 0), (271, .iconst 1, 0, 0), (272, .iadd, 0, 0)] := ⟨by decide +kernel, trivial, trivial, trivial, trivial, trivial, trivial, trivial⟩
theorem sL_law_274 : JSeg (jm jdL_law) [(274, .aload_n 0, 0, 0), (275, .iload 5, 0, 0), (277, .iconst 2, 0, 0), (278, .iadd, 0, 0)] := ⟨by decide +kernel, trivial, trivial, trivial, trivial, trivial⟩
theorem sL_law_283 : JSeg (jm jdL_law) [(283, .istore 7, 0, 0), (285, .aload_n 2, 0, 0)] := ⟨by decide +kernel, trivial, trivial, trivial⟩
theorem sL_law_289 : JSeg (jm jdL_law) [(289, .iload 6, 0, 0)] := ⟨by decide +kernel, trivial, trivial⟩
theorem sL_law_294 : JSeg (jm jdL_law) [(294, .iconst 0, 0, 0)] := ⟨by decide +kernel, trivial, trivial⟩
theorem sL_law_296 : JSeg (jm jdL_law) [(296, .iload 6, 0, 0)] := ⟨by decide +kernel, trivial, trivial⟩
theorem sL_law_301 : JSeg (jm jdL_law) [(301, .aload_n 3, 0, 0), (302, .iconst 0, 0, 0)] := ⟨by decide +kernel, trivial, trivial, trivial⟩
theorem sL_law_304 : JSeg (jm jdL_law) [(304, .iload 7, 0, 0), (306, .i2l, 0, 0), (307, .lcmp, 0, 0)] := ⟨by decide +kernel, trivial, trivial, trivial, trivial⟩
theorem sL_law_311 : JSeg (jm jdL_law) [(311, .iconst 0, 0, 0)] := ⟨by decide +kernel, trivial, trivial⟩
theorem sL_law_313 : JSeg (jm jdL_law) [(313, .goto 2386, 0, 0)] := ⟨by decide +kernel, trivial, trivial⟩
theorem sL_law_316 : JSeg (jm jdL_law) [(316, .aload_n 1, 0, 0), (317, .aload_n 0, 0, 0), (318, .iload 5, 0, 0), (320, .iconst 1, 0, 0), (321, .iadd, 0, 0)] := ⟨by decide +kernel, trivial, trivial, trivial, trivial, trivial, trivial⟩
theorem sL_law_323 : JSeg (jm jdL_law) [(323, .aload_n 0, 0, 0), (324, .iload 5, 0, 0), (326, .iconst 2, 0, 0), (327, .iadd, 0, 0)] := ⟨by decide +kernel, trivial, trivial, trivial, trivial, trivial⟩
theorem sL_law_329 : JSeg (jm jdL_law) [(329, .aload_n 3, 0, 0)] := ⟨by decide +kernel, trivial, trivial⟩
theorem sL_law_333 : JSeg (jm jdL_law) [(333, .istore 6, 0, 0), (335, .aload_n 2, 0, 0), (336, .aload_n 0, 0, 0), (337, .iload 5, 0, 0), (339, .iconst 1, 0, 0), (340, .iadd, 0, 0)] := ⟨by decide +kernel, trivial, trivial, trivial, trivial, trivial, trivial, trivial⟩
theorem sL_law_342 : JSeg (jm jdL_law) [(342, .aload_n 0, 0, 0), (343, .iload 5, 0, 0), (345, .iconst 2, 0, 0), (346, .iadd, 0, 0)] := ⟨by decide +kernel, trivial, trivial, trivial, trivial, trivial⟩
theorem sL_law_351 : JSeg (jm jdL_law) [(351, .istore 7, 0, 0), (353, .aload_n 2, 0, 0)] := ⟨by decide +kernel, trivial, trivial, trivial⟩
theorem sL_law_357 : JSeg (jm jdL_law) [(357, .iload 6, 0, 0)] := ⟨by decide +kernel, trivial, trivial⟩
theorem sL_law_362 : JSeg (jm jdL_law) [(362, .iconst 0, 0, 0)] := ⟨by decide +kernel, trivial, trivial⟩
theorem sL_law_364 : JSeg (jm jdL_law) [(364, .iload 6, 0, 0)] := ⟨by decide +kernel, trivial, trivial⟩
theorem sL_law_369 : JSeg (jm jdL_law) [(369, .aload_n 3, 0, 0), (370, .iconst 0, 0, 0)] := ⟨by decide +kernel, trivial, trivial, trivial⟩
theorem sL_law_372 : JSeg (jm jdL_law) [(372, .iload 7, 0, 0), (374, .i2l, 0, 0), (375, .lcmp, 0, 0)] := ⟨by decide +kernel, trivial, trivial, trivial, trivial⟩
theorem sL_law_379 : JSeg (jm jdL_law) [(379, .iconst 0, 0, 0)] := ⟨by decide +kernel, trivial, trivial⟩
theorem sL_law_381 : JSeg (jm jdL_law) [(381, .goto 2318, 0, 0)] := ⟨by decide +kernel, trivial, trivial⟩
theorem sL_law_384 : JSeg (jm jdL_law) [(384, .aload_n 1, 0, 0), (385, .aload_n 0, 0, 0), (386, .iload 5, 0, 0), (388, .iconst 1, 0, 0), (389, .iadd, 0, 0)] := ⟨by decide +kernel, trivial, trivial, trivial, trivial, trivial, trivial⟩
theorem sL_law_391 : JSeg (jm jdL_law) [(391, .aload_n 0, 0, 0), (392, .iload 5, 0, 0), (394, .iconst 2, 0, 0), (395, .iadd, 0, 0)] := ⟨by decide +kernel, trivial, trivial, trivial, trivial, trivial⟩
theorem sL_law_397 : JSeg (jm jdL_law) [(397, .aload_n 3, 0, 0)] := ⟨by decide +kernel, trivial, trivial⟩
theorem sL_law_401 : JSeg (jm jdL_law) [(401, .istore 6, 0, 0), (403, .aload_n 2, 0, 0), (404, .aload_n 0, 0, 0), (405, .iload 5, 0, 0), (407, .iconst 1, 0, 0), (408, .iadd, 0, 0)] := ⟨by decide +kernel, trivial, trivial, trivial, trivial, trivial, trivial, trivial⟩
theorem sL_law_410 : JSeg (jm jdL_law) [(410, .aload_n 0, 0, 0), (411, .iload 5, 0, 0), (413, .iconst 2, 0, 0), (414, .iadd, 0, 0)] := ⟨by decide +kernel, trivial, trivial, trivial, trivial, trivial⟩
theorem sL_law_419 : JSeg (jm jdL_law) [(419, .istore 7, 0, 0), (421, .aload_n 2, 0, 0)] := ⟨by decide +kernel, trivial, trivial, trivial⟩
theorem sL_law_425 : JSeg (jm jdL_law) [(425, .iload 6, 0, 0)] := ⟨by decide +kernel, trivial, trivial⟩
theorem sL_law_430 : JSeg (jm jdL_law) [(430, .iconst 0, 0, 0)] := ⟨by decide +kernel, trivial, trivial⟩
theorem sL_law_432 : JSeg (jm jdL_law) [(432, .iload 6, 0, 0)] := ⟨by decide +kernel, trivial, trivial⟩
theorem sL_law_437 : JSeg (jm jdL_law) [(437, .aload_n 3, 0, 0), (438, .iconst 0, 0, 0)] := ⟨by decide +kernel, trivial, trivial, trivial⟩
theorem sL_law_440 : JSeg (jm jdL_law) [(440, .iload 7, 0, 0), (442, .i2l, 0, 0), (443, .lcmp, 0, 0)] := ⟨by decide +kernel, trivial, trivial, trivial, trivial⟩
theorem sL_law_447 : JSeg (jm jdL_law) [(447, .iconst 0, 0, 0)] := ⟨by decide +kernel, trivial, trivial⟩
theorem sL_law_449 : JSeg (jm jdL_law) [(449, .goto 2250, 0, 0)] := ⟨by decide +kernel, trivial, trivial⟩
theorem sL_law_452 : JSeg (jm jdL_law) [(452, .aload_n 1, 0, 0), (453, .aload_n 0, 0, 0), (454, .iload 5, 0, 0), (456, .iconst 1, 0, 0), (457, .iadd, 0, 0)] := ⟨by decide +kernel, trivial, trivial, trivial, trivial, trivial, trivial⟩
theorem sL_law_459 : JSeg (jm jdL_law) [(459, .aload_n 0, 0, 0), (460, .iload 5, 0, 0), (462, .iconst 2, 0, 0), (463, .iadd, 0, 0)] := ⟨by decide +kernel, trivial, trivial, trivial, trivial, trivial⟩
theorem sL_law_465 : JSeg (jm jdL_law) [(465, .aload_n 0, 0, 0), (466, .iload 5, 0, 0), (468, .iconst 3, 0, 0), (469, .iadd, 0, 0)] := ⟨by decide +kernel, trivial, trivial, trivial, trivial, trivial⟩
theorem sL_law_471 : JSeg (jm jdL_law) [(471, .aload_n 0, 0, 0), (472, .iload 5, 0, 0), (474, .iconst 4, 0, 0), (475, .iadd, 0, 0)] := ⟨by decide +kernel, trivial, trivial, trivial, trivial, trivial⟩
theorem sL_law_477 : JSeg (jm jdL_law) [(477, .aload_n 0, 0, 0), (478, .iload 5, 0, 0), (480, .iconst 5, 0, 0), (481, .iadd, 0, 0)] := ⟨by decide +kernel, trivial, trivial, trivial, trivial, trivial⟩
theorem sL_law_486 : JSeg (jm jdL_law) [(486, .iconst 1, 0, 0), (487, .goto 4, 0, 0)] := ⟨by decide +kernel, trivial, trivial, trivial⟩
theorem sL_law_490 : JSeg (jm jdL_law) [(490, .iconst 0, 0, 0)] := ⟨by decide +kernel, trivial, trivial⟩
theorem sL_law_491 : JSeg (jm jdL_law) [(491, .aload_n 3, 0, 0)] := ⟨by decide +kernel, trivial, trivial⟩
theorem sL_law_495 : JSeg (jm jdL_law) [(495, .istore 6, 0, 0), (497, .aload_n 2, 0, 0), (498, .aload_n 0, 0, 0), (499, .iload 5, 0, 0), (501, .iconst 1, 0, 0), (502, .iadd, 0, 0)] := ⟨by decide +kernel, trivial, trivial, trivial, trivial, trivial, trivial, trivial⟩
theorem sL_law_504 : JSeg (jm jdL_law) [(504, .aload_n 0, 0, 0), (505, .iload 5, 0, 0), (507, .iconst 2, 0, 0), (508, .iadd, 0, 0)] := ⟨by decide +kernel, trivial, trivial, trivial, trivial, trivial⟩
theorem sL_law_510 : JSeg (jm jdL_law) [(510, .aload_n 0, 0, 0), (511, .iload 5, 0, 0), (513, .iconst 3, 0, 0), (514, .iadd, 0, 0)] := ⟨by decide +kernel, trivial, trivial, trivial, trivial, trivial⟩
theorem sL_law_516 : JSeg (jm jdL_law) [(516, .aload_n 0, 0, 0), (517, .iload 5, 0, 0), (519, .iconst 4, 0, 0), (520, .iadd, 0, 0)] := ⟨by decide +kernel, trivial, trivial, trivial, trivial, trivial⟩
theorem sL_law_522 : JSeg (jm jdL_law) [(522, .aload_n 0, 0, 0), (523, .iload 5, 0, 0), (525, .iconst 5, 0, 0), (526, .iadd, 0, 0)] := ⟨by decide +kernel, trivial, trivial, trivial, trivial, trivial⟩
theorem sL_law_531 : JSeg (jm jdL_law) [(531, .iconst 1, 0, 0), (532, .goto 4, 0, 0)] := ⟨by decide +kernel, trivial, trivial, trivial⟩
theorem sL_law_535 : JSeg (jm jdL_law) [(535, .iconst 0, 0, 0)] := ⟨by decide +kernel, trivial, trivial⟩
theorem sL_law_539 : JSeg (jm jdL_law) [(539, .istore 7, 0, 0), (541, .aload_n 2, 0, 0)] := ⟨by decide +kernel, trivial, trivial, trivial⟩
theorem sL_law_545 : JSeg (jm jdL_law) [(545, .iload 6, 0, 0)] := ⟨by decide +kernel, trivial, trivial⟩
theorem sL_law_550 : JSeg (jm jdL_law) [(550, .iconst 0, 0, 0)] := ⟨by decide +kernel, trivial, trivial⟩
theorem sL_law_552 : JSeg (jm jdL_law) [(552, .iload 6, 0, 0)] := ⟨by decide +kernel, trivial, trivial⟩
theorem sL_law_557 : JSeg (jm jdL_law) [(557, .aload_n 3, 0, 0), (558, .iconst 0, 0, 0)] := ⟨by decide +kernel, trivial, trivial, trivial⟩
theorem sL_law_560 : JSeg (jm jdL_law) [(560, .iload 7, 0, 0), (562, .i2l, 0, 0), (563, .lcmp, 0, 0)] := ⟨by decide +kernel, trivial, trivial, trivial, trivial⟩
theorem sL_law_567 : JSeg (jm jdL_law) [(567, .iconst 0, 0, 0)] := ⟨by decide +kernel, trivial, trivial⟩
theorem sL_law_569 : JSeg (jm jdL_law) [(569, .goto 2130, 0, 0)] := ⟨by decide +kernel, trivial, trivial⟩
theorem sL_law_572 : JSeg (jm jdL_law) [(572, .aload_n 1, 0, 0), (573, .aload_n 0, 0, 0), (574, .iload 5, 0, 0), (576, .iconst 1, 0, 0), (577, .iadd, 0, 0)] := ⟨by decide +kernel, trivial, trivial, trivial, trivial, trivial, trivial⟩
theorem sL_law_579 : JSeg (jm jdL_law) [(579, .aload_n 0, 0, 0), (580, .iload 5, 0, 0), (582, .iconst 2, 0, 0), (583, .iadd, 0, 0)] := ⟨by decide +kernel, trivial, trivial, trivial, trivial, trivial⟩
theorem sL_law_585 : JSeg (jm jdL_law) [(585, .aload_n 0, 0, 0), (586, .iload 5, 0, 0), (588, .iconst 3, 0, 0), (589, .iadd, 0, 0)] := ⟨by decide +kernel, trivial, trivial, trivial, trivial, trivial⟩
theorem sL_law_591 : JSeg (jm jdL_law) [(591, .aload_n 3, 0, 0)] := ⟨by decide +kernel, trivial, trivial⟩
theorem sL_law_595 : JSeg (jm jdL_law) [(595, .istore 6, 0, 0), (597, .aload_n 2, 0, 0), (598, .aload_n 0, 0, 0), (599, .iload 5, 0, 0), (601, .iconst 1, 0, 0), (602, .iadd, 0, 0)] := ⟨by decide +kernel, trivial, trivial, trivial, trivial, trivial, trivial, trivial⟩
theorem sL_law_604 : JSeg (jm jdL_law) [(604, .aload_n 0, 0, 0), (605, .iload 5, 0, 0), (607, .iconst 2, 0, 0), (608, .iadd, 0, 0)] := ⟨by decide +kernel, trivial, trivial, trivial, trivial, trivial⟩
theorem sL_law_610 : JSeg (jm jdL_law) [(610, .aload_n 0, 0, 0), (611, .iload 5, 0, 0), (613, .iconst 3, 0, 0), (614, .iadd, 0, 0)] := ⟨by decide +kernel, trivial, trivial, trivial, trivial, trivial⟩
theorem sL_law_619 : JSeg (jm jdL_law) [(619, .istore 7, 0, 0), (621, .aload_n 2, 0, 0)] := ⟨by decide +kernel, trivial, trivial, trivial⟩
theorem sL_law_625 : JSeg (jm jdL_law) [(625, .iload 6, 0, 0)] := ⟨by decide +kernel, trivial, trivial⟩
theorem sL_law_630 : JSeg (jm jdL_law) [(630, .iconst 0, 0, 0)] := ⟨by decide +kernel, trivial, trivial⟩
theorem sL_law_632 : JSeg (jm jdL_law) [(632, .iload 6, 0, 0)] := ⟨by decide +kernel, trivial, trivial⟩
theorem sL_law_637 : JSeg (jm jdL_law) [(637, .aload_n 3, 0, 0), (638, .iconst 0, 0, 0)] := ⟨by decide +kernel, trivial, trivial, trivial⟩
theorem sL_law_640 : JSeg (jm jdL_law) [(640, .iload 7, 0, 0), (642, .i2l, 0, 0), (643, .lcmp, 0, 0)] := ⟨by decide +kernel, trivial, trivial, trivial, trivial⟩
theorem sL_law_647 : JSeg (jm jdL_law) [(647, .iconst 0, 0, 0)] := ⟨by decide +kernel, trivial, trivial⟩
theorem sL_law_649 : JSeg (jm jdL_law) [(649, .goto 2050, 0, 0)] := ⟨by decide +kernel, trivial, trivial⟩
theorem sL_law_652 : JSeg (jm jdL_law) [(652, .aload_n 1, 0, 0), (653, .aload_n 0, 0, 0), (654, .iload 5, 0, 0), (656, .iconst 1, 0, 0), (657, .iadd, 0, 0)] := ⟨by decide +kernel, trivial, trivial, trivial, trivial, trivial, trivial⟩
theorem sL_law_659 : JSeg (jm jdL_law) [(659, .aload_n 3, 0, 0)] := ⟨by decide +kernel, trivial, trivial⟩
theorem sL_law_663 : JSeg (jm jdL_law) [(663, .istore 6, 0, 0), (665, .aload_n 2, 0, 0), (666, .aload_n 0, 0, 0), (667, .iload 5, 0, 0), (669, .iconst 1, 0, 0), (670, .iadd, 0, 0)] := ⟨by decide +kernel, trivial, trivial, trivial, trivial, trivial, trivial, trivial⟩
theorem sL_law_675 : JSeg (jm jdL_law) [(675, .istore 7, 0, 0), (677, .aload_n 2, 0, 0)] := ⟨by decide +kernel, trivial, trivial, trivial⟩
theorem sL_law_681 : JSeg (jm jdL_law) [(681, .iload 6, 0, 0)] := ⟨by decide +kernel, trivial, trivial⟩
theorem sL_law_686 : JSeg (jm jdL_law) [(686, .iconst 0, 0, 0)] := ⟨by decide +kernel, trivial, trivial⟩
theorem sL_law_688 : JSeg (jm jdL_law) [(688, .iload 6, 0, 0)] := ⟨by decide +kernel, trivial, trivial⟩
theorem sL_law_693 : JSeg (jm jdL_law) [(693, .aload_n 3, 0, 0), (694, .iconst 0, 0, 0)] := ⟨by decide +kernel, trivial, trivial, trivial⟩
theorem sL_law_696 : JSeg (jm jdL_law) [(696, .iload 7, 0, 0), (698, .i2l, 0, 0), (699, .lcmp, 0, 0)] := ⟨by decide +kernel, trivial, trivial, trivial, trivial⟩
theorem sL_law_703 : JSeg (jm jdL_law) [(703, .iconst 0, 0, 0)] := ⟨by decide +kernel, trivial, trivial⟩
theorem sL_law_705 : JSeg (jm jdL_law) [(705, .goto 1994, 0, 0)] := ⟨by decide +kernel, trivial, trivial⟩
theorem sL_law_708 : JSeg (jm jdL_law) [(708, .aload_n 1, 0, 0), (709, .aload_n 0, 0, 0), (710, .iload 5, 0, 0), (712, .iconst 1, 0, 0), (713, .iadd, 0, 0)] := ⟨by decide +kernel, trivial, trivial, trivial, trivial, trivial, trivial⟩
theorem sL_law_715 : JSeg (jm jdL_law) [(715, .aload_n 0, 0, 0), (716, .iload 5, 0, 0), (718, .iconst 2, 0, 0), (719, .iadd, 0, 0)] := ⟨by decide +kernel, trivial, trivial, trivial, trivial, trivial⟩
theorem sL_law_721 : JSeg (jm jdL_law) [(721, .aload_n 3, 0, 0)] := ⟨by decide +kernel, trivial, trivial⟩
theorem sL_law_725 : JSeg (jm jdL_law) [(725, .istore 6, 0, 0), (727, .aload_n 2, 0, 0), (728, .aload_n 0, 0, 0), (729, .iload 5, 0, 0), (731, .iconst 1, 0, 0), (732, .iadd, 0, 0)] := ⟨by decide +kernel, trivial, trivial, trivial, trivial, trivial, trivial, trivial⟩
theorem sL_law_734 : JSeg (jm jdL_law) [(734, .aload_n 0, 0, 0), (735, .iload 5, 0, 0), (737, .iconst 2, 0, 0), (738, .iadd, 0, 0)] := ⟨by decide +kernel, trivial, trivial, trivial, trivial, trivial⟩
theorem sL_law_743 : JSeg (jm jdL_law) [(743, .istore 7, 0, 0), (745, .aload_n 2, 0, 0)] := ⟨by decide +kernel, trivial, trivial, trivial⟩
theorem sL_law_749 : JSeg (jm jdL_law) [(749, .iload 6, 0, 0)] := ⟨by decide +kernel, trivial, trivial⟩
theorem sL_law_754 : JSeg (jm jdL_law) [(754, .iconst 0, 0, 0)] := ⟨by decide +kernel, trivial, trivial⟩
theorem sL_law_756 : JSeg (jm jdL_law) [(756, .iload 6, 0, 0)] := ⟨by decide +kernel, trivial, trivial⟩
theorem sL_law_761 : JSeg (jm jdL_law) [(761, .aload_n 3, 0, 0), (762, .iconst 0, 0, 0)] := ⟨by decide +kernel, trivial, trivial, trivial⟩
theorem sL_law_764 : JSeg (jm jdL_law) [(764, .iload 7, 0, 0), (766, .i2l, 0, 0), (767, .lcmp, 0, 0)] := ⟨by decide +kernel, trivial, trivial, trivial, trivial⟩
theorem sL_law_771 : JSeg (jm jdL_law) [(771, .iconst 0, 0, 0)] := ⟨by decide +kernel, trivial, trivial⟩
theorem sL_law_773 : JSeg (jm jdL_law) [(773, .goto 1926, 0, 0)] := ⟨by decide +kernel, trivial, trivial⟩
theorem sL_law_776 : JSeg (jm jdL_law) [(776, .aload_n 1, 0, 0)] := ⟨by decide +kernel, trivial, trivial⟩
theorem sL_law_780 : JSeg (jm jdL_law) [(780, .aload_n 2, 0, 0)] := ⟨by decide +kernel, trivial, trivial⟩
theorem sL_law_787 : JSeg (jm jdL_law) [(787, .iconst 0, 0, 0)] := ⟨by decide +kernel, trivial, trivial⟩
theorem sL_law_789 : JSeg (jm jdL_law) [(789, .aload_n 1, 0, 0), (790, .aload_n 0, 0, 0), (791, .iload 5, 0, 0), (793, .iconst 1, 0, 0), (794, .iadd, 0, 0)] := ⟨by decide +kernel, trivial, trivial, trivial, trivial, trivial, trivial⟩
theorem sL_law_796 : JSeg (jm jdL_law) [(796, .aload_n 3, 0, 0)] := ⟨by decide +kernel, trivial, trivial⟩
theorem sL_law_800 : JSeg (jm jdL_law) [(800, .istore 6, 0, 0), (802, .aload_n 2, 0, 0), (803, .aload_n 0, 0, 0), (804, .iload 5, 0, 0), (806, .iconst 1, 0, 0), (807, .iadd, 0, 0)] := ⟨by decide +kernel, trivial, trivial, trivial, trivial, trivial, trivial, trivial⟩
theorem sL_law_812 : JSeg (jm jdL_law) [(812, .istore 7, 0, 0), (814, .aload_n 2, 0, 0)] := ⟨by decide +kernel, trivial, trivial, trivial⟩
theorem sL_law_818 : JSeg (jm jdL_law) [(818, .iload 6, 0, 0)] := ⟨by decide +kernel, trivial, trivial⟩
theorem sL_law_823 : JSeg (jm jdL_law) [(823, .iconst 0, 0, 0)] := ⟨by decide +kernel, trivial, trivial⟩
theorem sL_law_825 : JSeg (jm jdL_law) [(825, .iload 6, 0, 0)] := ⟨by decide +kernel, trivial, trivial⟩
theorem sL_law_830 : JSeg (jm jdL_law) [(830, .aload_n 3, 0, 0), (831, .iconst 0, 0, 0)] := ⟨by decide +kernel, trivial, trivial, trivial⟩
theorem sL_law_833 : JSeg (jm jdL_law) [(833, .iload 7, 0, 0), (835, .i2l, 0, 0), (836, .lcmp, 0, 0)] := ⟨by decide +kernel, trivial, trivial, trivial, trivial⟩
theorem sL_law_840 : JSeg (jm jdL_law) [(840, .iconst 0, 0, 0)] := ⟨by decide +kernel, trivial, trivial⟩
theorem sL_law_842 : JSeg (jm jdL_law) [(842, .goto 1857, 0, 0)] := ⟨by decide +kernel, trivial, trivial⟩
theorem sL_law_845 : JSeg (jm jdL_law) [(845, .aload_n 1, 0, 0), (846, .aload_n 0, 0, 0), (847, .iload 5, 0, 0), (849, .iconst 1, 0, 0), (850, .iadd, 0, 0)] := ⟨by decide +kernel, trivial, trivial, trivial, trivial, trivial, trivial⟩
theorem sL_law_852 : JSeg (jm jdL_law) [(852, .aload_n 3, 0, 0)] := ⟨by decide +kernel, trivial, trivial⟩
theorem sL_law_856 : JSeg (jm jdL_law) [(856, .istore 6, 0, 0), (858, .aload_n 2, 0, 0), (859, .aload_n 0, 0, 0), (860, .iload 5, 0, 0), (862, .iconst 1, 0, 0), (863, .iadd, 0, 0)] := ⟨by decide +kernel, trivial, trivial, trivial, trivial, trivial, trivial, trivial⟩
theorem sL_law_868 : JSeg (jm jdL_law) [(868, .istore 7, 0, 0), (870, .aload_n 2, 0, 0)] := ⟨by decide +kernel, trivial, trivial, trivial⟩
theorem sL_law_874 : JSeg (jm jdL_law) [(874, .iload 6, 0, 0)] := ⟨by decide +kernel, trivial, trivial⟩
theorem sL_law_879 : JSeg (jm jdL_law) [(879, .iconst 0, 0, 0)] := ⟨by decide +kernel, trivial, trivial⟩
theorem sL_law_881 : JSeg (jm jdL_law) [(881, .iload 6, 0, 0)] := ⟨by decide +kernel, trivial, trivial⟩
theorem sL_law_886 : JSeg (jm jdL_law) [(886, .aload_n 3, 0, 0), (887, .iconst 0, 0, 0)] := ⟨by decide +kernel, trivial, trivial, trivial⟩
theorem sL_law_889 : JSeg (jm jdL_law) [(889, .iload 7, 0, 0), (891, .i2l, 0, 0), (892, .lcmp, 0, 0)] := ⟨by decide +kernel, trivial, trivial, trivial, trivial⟩
theorem sL_law_896 : JSeg (jm jdL_law) [(896, .iconst 0, 0, 0)] := ⟨by decide +kernel, trivial, trivial⟩
theorem sL_law_898 : JSeg (jm jdL_law) [(898, .goto 1801, 0, 0)] := ⟨by decide +kernel, trivial, trivial⟩
theorem sL_law_901 : JSeg (jm jdL_law) [(901, .aload_n 1, 0, 0), (902, .aload_n 0, 0, 0), (903, .iload 5, 0, 0), (905, .iconst 1, 0, 0), (906, .iadd, 0, 0)] := ⟨by decide +kernel, trivial, trivial, trivial, trivial, trivial, trivial⟩
theorem sL_law_908 : JSeg (jm jdL_law) [(908, .aload_n 3, 0, 0)] := ⟨by decide +kernel, trivial, trivial⟩
theorem sL_law_912 : JSeg (jm jdL_law) [(912, .istore 6, 0, 0), (914, .aload_n 2, 0, 0), (915, .aload_n 0, 0, 0), (916, .iload 5, 0, 0), (918, .iconst 1, 0, 0), (919, .iadd, 0, 0)] := ⟨by decide +kernel, trivial, trivial, trivial, trivial, trivial, trivial, trivial⟩
theorem sL_law_924 : JSeg (jm jdL_law) [(924, .istore 7, 0, 0), (926, .aload_n 2, 0, 0)] := ⟨by decide +kernel, trivial, trivial, trivial⟩
theorem sL_law_930 : JSeg (jm jdL_law) [(930, .iload 6, 0, 0)] := ⟨by decide +kernel, trivial, trivial⟩
theorem sL_law_935 : JSeg (jm jdL_law) [(935, .iconst 0, 0, 0)] := ⟨by decide +kernel, trivial, trivial⟩
theorem sL_law_937 : JSeg (jm jdL_law) [(937, .iload 6, 0, 0)] := ⟨by decide +kernel, trivial, trivial⟩
theorem sL_law_942 : JSeg (jm jdL_law) [(942, .aload_n 3, 0, 0), (943, .iconst 0, 0, 0)] := ⟨by decide +kernel, trivial, trivial, trivial⟩
theorem sL_law_945 : JSeg (jm jdL_law) [(945, .iload 7, 0, 0), (947, .i2l, 0, 0), (948, .lcmp, 0, 0)] := ⟨by decide +kernel, trivial, trivial, trivial, trivial⟩
theorem sL_law_952 : JSeg (jm jdL_law) [(952, .iconst 0, 0, 0)] := ⟨by decide +kernel, trivial, trivial⟩
theorem sL_law_954 : JSeg (jm jdL_law) [(954, .goto 1745, 0, 0)] := ⟨by decide +kernel, trivial, trivial⟩
theorem sL_law_957 : JSeg (jm jdL_law) [(957, .aload_n 1, 0, 0), (958, .aload_n 0, 0, 0), (959, .iload 5, 0, 0), (961, .iconst 1, 0, 0), (962, .iadd, 0, 0)] := ⟨by decide +kernel, trivial, trivial, trivial, trivial, trivial, trivial⟩
theorem sL_law_964 : JSeg (jm jdL_law) [(964, .aload_n 0, 0, 0), (965, .iload 5, 0, 0), (967, .iconst 2, 0, 0), (968, .iadd, 0, 0)] := ⟨by decide +kernel, trivial, trivial, trivial, trivial, trivial⟩
theorem sL_law_970 : JSeg (jm jdL_law) [(970, .aload_n 3, 0, 0)] := ⟨by decide +kernel, trivial, trivial⟩
theorem sL_law_974 : JSeg (jm jdL_law) [(974, .istore 6, 0, 0), (976, .aload_n 2, 0, 0), (977, .aload_n 0, 0, 0), (978, .iload 5, 0, 0), (980, .iconst 1, 0, 0), (981, .iadd, 0, 0)] := ⟨by decide +kernel, trivial, trivial, trivial, trivial, trivial, trivial, trivial⟩
theorem sL_law_983 : JSeg (jm jdL_law) [(983, .aload_n 0, 0, 0), (984, .iload 5, 0, 0), (986, .iconst 2, 0, 0), (987, .iadd, 0, 0)] := ⟨by decide +kernel, trivial, trivial, trivial, trivial, trivial⟩
theorem sL_law_992 : JSeg (jm jdL_law) [(992, .istore 7, 0, 0), (994, .aload_n 2, 0, 0)] := ⟨by decide +kernel, trivial, trivial, trivial⟩
theorem sL_law_998 : JSeg (jm jdL_law) [(998, .iload 6, 0, 0)] := ⟨by decide +kernel, trivial, trivial⟩
theorem sL_law_1003 : JSeg (jm jdL_law) [(1003, .iconst 0, 0, 0)] := ⟨by decide +kernel, trivial, trivial⟩
theorem sL_law_1005 : JSeg (jm jdL_law) [(1005, .iload 6, 0, 0)] := ⟨by decide +kernel, trivial, trivial⟩
theorem sL_law_1010 : JSeg (jm jdL_law) [(1010, .aload_n 3, 0, 0), (1011, .iconst 0, 0, 0)] := ⟨by decide +kernel, trivial, trivial, trivial⟩
theorem sL_law_1013 : JSeg (jm jdL_law) [(1013, .iload 7, 0, 0), (1015, .i2l, 0, 0), (1016, .lcmp, 0, 0)] := ⟨by decide +kernel, trivial, trivial, trivial, trivial⟩
theorem sL_law_1020 : JSeg (jm jdL_law) [(1020, .iconst 0, 0, 0)] := ⟨by decide +kernel, trivial, trivial⟩
theorem sL_law_1022 : JSeg (jm jdL_law) [(1022, .goto 1677, 0, 0)] := ⟨by decide +kernel, trivial, trivial⟩
theorem sL_law_1025 : JSeg (jm jdL_law) [(1025, .aload_n 1, 0, 0), (1026, .aload_n 0, 0, 0), (1027, .iload 5, 0, 0), (1029, .iconst 1, 0, 0), (1030, .iadd, 0, 0)] := ⟨by decide +kernel, trivial, trivial, trivial, trivial, trivial, trivial⟩
theorem sL_law_1032 : JSeg (jm jdL_law) [(1032, .aload_n 3, 0, 0)] := ⟨by decide +kernel, trivial, trivial⟩
theorem sL_law_1036 : JSeg (jm jdL_law) [(1036, .istore 6, 0, 0), (1038, .aload_n 2, 0, 0), (1039, .aload_n 0, 0, 0), (1040, .iload 5, 0, 0), (1042, .iconst 1, 0, 0), (1043, .iadd, 0, 0)] := ⟨by decide +kernel, trivial, trivial, trivial, trivial, trivial, trivial, trivial⟩
theorem sL_law_1048 : JSeg (jm jdL_law) [(1048, .istore 7, 0, 0), (1050, .aload_n 2, 0, 0)] := ⟨by decide +kernel, trivial, trivial, trivial⟩
theorem sL_law_1054 : JSeg (jm jdL_law) [(1054, .iload 6, 0, 0)] := ⟨by decide +kernel, trivial, trivial⟩
theorem sL_law_1059 : JSeg (jm jdL_law) [(1059, .iconst 0, 0, 0)] := ⟨by decide +kernel, trivial, trivial⟩
theorem sL_law_1061 : JSeg (jm jdL_law) [(1061, .iload 6, 0, 0)] := ⟨by decide +kernel, trivial, trivial⟩
theorem sL_law_1066 : JSeg (jm jdL_law) [(1066, .aload_n 3, 0, 0), (1067, .iconst 0, 0, 0)] := ⟨by decide +kernel, trivial, trivial, trivial⟩
theorem sL_law_1069 : JSeg (jm jdL_law) [(1069, .iload 7, 0, 0)] := ⟨by decide +kernel, trivial, trivial⟩
theorem sL_law_1074 : JSeg (jm jdL_law) [(1074, .lconst 1, 0, 0), (1075, .goto 4, 0, 0)] := ⟨by decide +kernel, trivial, trivial, trivial⟩
theorem sL_law_1078 : JSeg (jm jdL_law) [(1078, .lconst 0, 0, 0)] := ⟨by decide +kernel, trivial, trivial⟩
theorem sL_law_1079 : JSeg (jm jdL_law) [(1079, .lcmp, 0, 0)] := ⟨by decide +kernel, trivial, trivial⟩
theorem sL_law_1083 : JSeg (jm jdL_law) [(1083, .iconst 0, 0, 0)] := ⟨by decide +kernel, trivial, trivial⟩
theorem sL_law_1085 : JSeg (jm jdL_law) [(1085, .goto 1614, 0, 0)] := ⟨by decide +kernel, trivial, trivial⟩
theorem sL_law_1088 : JSeg (jm jdL_law) [(1088, .aload_n 1, 0, 0), (1089, .aload_n 0, 0, 0), (1090, .iload 5, 0, 0), (1092, .iconst 1, 0, 0), (1093, .iadd, 0, 0)] := ⟨by decide +kernel, trivial, trivial, trivial, trivial, trivial, trivial⟩
theorem sL_law_1095 : JSeg (jm jdL_law) [(1095, .aload_n 3, 0, 0)] := ⟨by decide +kernel, trivial, trivial⟩
theorem sL_law_1099 : JSeg (jm jdL_law) [(1099, .istore 6, 0, 0), (1101, .aload_n 2, 0, 0), (1102, .aload_n 0, 0, 0), (1103, .iload 5, 0, 0), (1105, .iconst 1, 0, 0), (1106, .iadd, 0, 0)] := ⟨by decide +kernel, trivial, trivial, trivial, trivial, trivial, trivial, trivial⟩
theorem sL_law_1111 : JSeg (jm jdL_law) [(1111, .istore 7, 0, 0), (1113, .aload_n 2, 0, 0)] := ⟨by decide +kernel, trivial, trivial, trivial⟩
theorem sL_law_1117 : JSeg (jm jdL_law) [(1117, .iload 6, 0, 0)] := ⟨by decide +kernel, trivial, trivial⟩
theorem sL_law_1122 : JSeg (jm jdL_law) [(1122, .iconst 0, 0, 0)] := ⟨by decide +kernel, trivial, trivial⟩
theorem sL_law_1124 : JSeg (jm jdL_law) [(1124, .iload 6, 0, 0)] := ⟨by decide +kernel, trivial, trivial⟩
theorem sL_law_1129 : JSeg (jm jdL_law) [(1129, .aload_n 3, 0, 0), (1130, .iconst 0, 0, 0)] := ⟨by decide +kernel, trivial, trivial, trivial⟩
theorem sL_law_1132 : JSeg (jm jdL_law) [(1132, .iload 7, 0, 0), (1134, .i2l, 0, 0), (1135, .lcmp, 0, 0)] := ⟨by decide +kernel, trivial, trivial, trivial, trivial⟩
theorem sL_law_1139 : JSeg (jm jdL_law) [(1139, .iconst 0, 0, 0)] := ⟨by decide +kernel, trivial, trivial⟩
theorem sL_law_1141 : JSeg (jm jdL_law) [(1141, .goto 1558, 0, 0)] := ⟨by decide +kernel, trivial, trivial⟩
theorem sL_law_1144 : JSeg (jm jdL_law) [(1144, .aload_n 1, 0, 0), (1145, .aload_n 0, 0, 0), (1146, .iload 5, 0, 0), (1148, .iconst 1, 0, 0), (1149, .iadd, 0, 0)] := ⟨by decide +kernel, trivial, trivial, trivial, trivial, trivial, trivial⟩
theorem sL_law_1151 : JSeg (jm jdL_law) [(1151, .aload_n 3, 0, 0)] := ⟨by decide +kernel, trivial, trivial⟩
theorem sL_law_1155 : JSeg (jm jdL_law) [(1155, .istore 6, 0, 0), (1157, .aload_n 2, 0, 0), (1158, .aload_n 0, 0, 0), (1159, .iload 5, 0, 0), (1161, .iconst 1, 0, 0), (1162, .iadd, 0, 0)] := ⟨by decide +kernel, trivial, trivial, trivial, trivial, trivial, trivial, trivial⟩
theorem sL_law_1167 : JSeg (jm jdL_law) [(1167, .istore 7, 0, 0), (1169, .aload_n 2, 0, 0)] := ⟨by decide +kernel, trivial, trivial, trivial⟩
theorem sL_law_1173 : JSeg (jm jdL_law) [(1173, .iload 6, 0, 0)] := ⟨by decide +kernel, trivial, trivial⟩
theorem sL_law_1178 : JSeg (jm jdL_law) [(1178, .iconst 0, 0, 0)] := ⟨by decide +kernel, trivial, trivial⟩
theorem sL_law_1180 : JSeg (jm jdL_law) [(1180, .iload 6, 0, 0)] := ⟨by decide +kernel, trivial, trivial⟩
theorem sL_law_1185 : JSeg (jm jdL_law) [(1185, .aload_n 3, 0, 0), (1186, .iconst 0, 0, 0)] := ⟨by decide +kernel, trivial, trivial, trivial⟩
theorem sL_law_1188 : JSeg (jm jdL_law) [(1188, .iload 7, 0, 0), (1190, .i2l, 0, 0), (1191, .lcmp, 0, 0)] := ⟨by decide +kernel, trivial, trivial, trivial, trivial⟩
theorem sL_law_1195 : JSeg (jm jdL_law) [(1195, .iconst 0, 0, 0)] := ⟨by decide +kernel, trivial, trivial⟩
theorem sL_law_1197 : JSeg (jm jdL_law) [(1197, .goto 1502, 0, 0)] := ⟨by decide +kernel, trivial, trivial⟩
theorem sL_law_1200 : JSeg (jm jdL_law) [(1200, .aload_n 1, 0, 0), (1201, .aload_n 0, 0, 0), (1202, .iload 5, 0, 0), (1204, .iconst 1, 0, 0), (1205, .iadd, 0, 0)] := ⟨by decide +kernel, trivial, trivial, trivial, trivial, trivial, trivial⟩
theorem sL_law_1207 : JSeg (jm jdL_law) [(1207, .aload_n 3, 0, 0)] := ⟨by decide +kernel, trivial, trivial⟩
theorem sL_law_1211 : JSeg (jm jdL_law) [(1211, .istore 6, 0, 0), (1213, .aload_n 2, 0, 0), (1214, .aload_n 0, 0, 0), (1215, .iload 5, 0, 0), (1217, .iconst 1, 0, 0), (1218, .iadd, 0, 0)] := ⟨by decide +kernel, trivial, trivial, trivial, trivial, trivial, trivial, trivial⟩
theorem sL_law_1223 : JSeg (jm jdL_law) [(1223, .istore 7, 0, 0), (1225, .aload_n 2, 0, 0)] := ⟨by decide +kernel, trivial, trivial, trivial⟩
theorem sL_law_1229 : JSeg (jm jdL_law) [(1229, .iload 6, 0, 0)] := ⟨by decide +kernel, trivial, trivial⟩
theorem sL_law_1234 : JSeg (jm jdL_law) [(1234, .iconst 0, 0, 0)] := ⟨by decide +kernel, trivial, trivial⟩
theorem sL_law_1236 : JSeg (jm jdL_law) [(1236, .iload 6, 0, 0)] := ⟨by decide +kernel, trivial, trivial⟩
theorem sL_law_1241 : JSeg (jm jdL_law) [(1241, .aload_n 3, 0, 0), (1242, .iconst 0, 0, 0)] := ⟨by decide +kernel, trivial, trivial, trivial⟩
theorem sL_law_1244 : JSeg (jm jdL_law) [(1244, .iload 7, 0, 0), (1246, .i2l, 0, 0), (1247, .lcmp, 0, 0)] := ⟨by decide +kernel, trivial, trivial, trivial, trivial⟩
theorem sL_law_1251 : JSeg (jm jdL_law) [(1251, .iconst 0, 0, 0)] := ⟨by decide +kernel, trivial, trivial⟩
theorem sL_law_1253 : JSeg (jm jdL_law) [(1253, .goto 1446, 0, 0)] := ⟨by decide +kernel, trivial, trivial⟩
theorem sL_law_1256 : JSeg (jm jdL_law) [(1256, .aload_n 1, 0, 0), (1257, .aload_n 0, 0, 0), (1258, .iload 5, 0, 0), (1260, .iconst 1, 0, 0), (1261, .iadd, 0, 0)] := ⟨by decide +kernel, trivial, trivial, trivial, trivial, trivial, trivial⟩
theorem sL_law_1263 : JSeg (jm jdL_law) [(1263, .aload_n 3, 0, 0)] := ⟨by decide +kernel, trivial, trivial⟩
theorem sL_law_1267 : JSeg (jm jdL_law) [(1267, .istore 6, 0, 0), (1269, .aload_n 2, 0, 0), (1270, .aload_n 0, 0, 0), (1271, .iload 5, 0, 0), (1273, .iconst 1, 0, 0), (1274, .iadd, 0, 0)] := ⟨by decide +kernel, trivial, trivial, trivial, trivial, trivial, trivial, trivial⟩
theorem sL_law_1279 : JSeg (jm jdL_law) [(1279, .istore 7, 0, 0), (1281, .aload_n 2, 0, 0)] := ⟨by decide +kernel, trivial, trivial, trivial⟩
theorem sL_law_1285 : JSeg (jm jdL_law) [(1285, .iload 6, 0, 0)] := ⟨by decide +kernel, trivial, trivial⟩
theorem sL_law_1290 : JSeg (jm jdL_law) [(1290, .iconst 0, 0, 0)] := ⟨by decide +kernel, trivial, trivial⟩
theorem sL_law_1292 : JSeg (jm jdL_law) [(1292, .iload 6, 0, 0)] := ⟨by decide +kernel, trivial, trivial⟩
theorem sL_law_1297 : JSeg (jm jdL_law) [(1297, .aload_n 3, 0, 0), (1298, .iconst 0, 0, 0)] := ⟨by decide +kernel, trivial, trivial, trivial⟩
theorem sL_law_1300 : JSeg (jm jdL_law) [(1300, .iload 7, 0, 0), (1302, .i2l, 0, 0), (1303, .lcmp, 0, 0)] := ⟨by decide +kernel, trivial, trivial, trivial, trivial⟩
theorem sL_law_1307 : JSeg (jm jdL_law) [(1307, .iconst 0, 0, 0)] := ⟨by decide +kernel, trivial, trivial⟩
theorem sL_law_1309 : JSeg (jm jdL_law) [(1309, .goto 1390, 0, 0)] := ⟨by decide +kernel, trivial, trivial⟩
theorem sL_law_1312 : JSeg (jm jdL_law) [(1312, .aload_n 1, 0, 0), (1313, .aload_n 0, 0, 0), (1314, .iload 5, 0, 0), (1316, .iconst 1, 0, 0), (1317, .iadd, 0, 0)] := ⟨by decide +kernel, trivial, trivial, trivial, trivial, trivial, trivial⟩
theorem sL_law_1319 : JSeg (jm jdL_law) [(1319, .aload_n 0, 0, 0), (1320, .iload 5, 0, 0), (1322, .iconst 2, 0, 0), (1323, .iadd, 0, 0)] := ⟨by decide +kernel, trivial, trivial, trivial, trivial, trivial⟩
theorem sL_law_1325 : JSeg (jm jdL_law) [(1325, .aload_n 3, 0, 0)] := ⟨by decide +kernel, trivial, trivial⟩
theorem sL_law_1329 : JSeg (jm jdL_law) [(1329, .istore 6, 0, 0), (1331, .aload_n 2, 0, 0), (1332, .aload_n 0, 0, 0), (1333, .iload 5, 0, 0), (1335, .iconst 1, 0, 0), (1336, .iadd, 0, 0)] := ⟨by decide +kernel, trivial, trivial, trivial, trivial, trivial, trivial, trivial⟩
theorem sL_law_1338 : JSeg (jm jdL_law) [(1338, .aload_n 0, 0, 0), (1339, .iload 5, 0, 0), (1341, .iconst 2, 0, 0), (1342, .iadd, 0, 0)] := ⟨by decide +kernel, trivial, trivial, trivial, trivial, trivial⟩
theorem sL_law_1347 : JSeg (jm jdL_law) [(1347, .istore 7, 0, 0), (1349, .aload_n 2, 0, 0)] := ⟨by decide +kernel, trivial, trivial, trivial⟩
theorem sL_law_1353 : JSeg (jm jdL_law) [(1353, .iload 6, 0, 0)] := ⟨by decide +kernel, trivial, trivial⟩
theorem sL_law_1358 : JSeg (jm jdL_law) [(1358, .iconst 0, 0, 0)] := ⟨by decide +kernel, trivial, trivial⟩
theorem sL_law_1360 : JSeg (jm jdL_law) [(1360, .iload 6, 0, 0)] := ⟨by decide +kernel, trivial, trivial⟩
theorem sL_law_1365 : JSeg (jm jdL_law) [(1365, .aload_n 3, 0, 0), (1366, .iconst 0, 0, 0)] := ⟨by decide +kernel, trivial, trivial, trivial⟩
theorem sL_law_1368 : JSeg (jm jdL_law) [(1368, .iload 7, 0, 0)] := ⟨by decide +kernel, trivial, trivial⟩
theorem sL_law_1373 : JSeg (jm jdL_law) [(1373, .lconst 1, 0, 0), (1374, .goto 4, 0, 0)] := ⟨by decide +kernel, trivial, trivial, trivial⟩
theorem sL_law_1377 : JSeg (jm jdL_law) [(1377, .lconst 0, 0, 0)] := ⟨by decide +kernel, trivial, trivial⟩
theorem sL_law_1378 : JSeg (jm jdL_law) [(1378, .lcmp, 0, 0)] := ⟨by decide +kernel, trivial, trivial⟩
theorem sL_law_1382 : JSeg (jm jdL_law) [(1382, .iconst 0, 0, 0)] := ⟨by decide +kernel, trivial, trivial⟩
theorem sL_law_1384 : JSeg (jm jdL_law) [(1384, .goto 1315, 0, 0)] := ⟨by decide +kernel, trivial, trivial⟩
theorem sL_law_1387 : JSeg (jm jdL_law) [(1387, .aload_n 1, 0, 0), (1388, .aload_n 0, 0, 0), (1389, .iload 5, 0, 0), (1391, .iconst 1, 0, 0), (1392, .iadd, 0, 0)] := ⟨by decide +kernel, trivial, trivial, trivial, trivial, trivial, trivial⟩
theorem sL_law_1394 : JSeg (jm jdL_law) [(1394, .aload_n 0, 0, 0), (1395, .iload 5, 0, 0), (1397, .iconst 2, 0, 0), (1398, .iadd, 0, 0)] := ⟨by decide +kernel, trivial, trivial, trivial, trivial, trivial⟩
theorem sL_law_1400 : JSeg (jm jdL_law) [(1400, .aload_n 3, 0, 0)] := ⟨by decide +kernel, trivial, trivial⟩
theorem sL_law_1404 : JSeg (jm jdL_law) [(1404, .istore 6, 0, 0), (1406, .aload_n 2, 0, 0), (1407, .aload_n 0, 0, 0), (1408, .iload 5, 0, 0), (1410, .iconst 1, 0, 0), (1411, .iadd, 0, 0)] := ⟨by decide +kernel, trivial, trivial, trivial, trivial, trivial, trivial, trivial⟩
theorem sL_law_1413 : JSeg (jm jdL_law) [(1413, .aload_n 0, 0, 0), (1414, .iload 5, 0, 0), (1416, .iconst 2, 0, 0), (1417, .iadd, 0, 0)] := ⟨by decide +kernel, trivial, trivial, trivial, trivial, trivial⟩
theorem sL_law_1422 : JSeg (jm jdL_law) [(1422, .istore 7, 0, 0), (1424, .aload_n 2, 0, 0)] := ⟨by decide +kernel, trivial, trivial, trivial⟩
theorem sL_law_1428 : JSeg (jm jdL_law) [(1428, .iload 6, 0, 0)] := ⟨by decide +kernel, trivial, trivial⟩
theorem sL_law_1433 : JSeg (jm jdL_law) [(1433, .iconst 0, 0, 0)] := ⟨by decide +kernel, trivial, trivial⟩
theorem sL_law_1435 : JSeg (jm jdL_law) [(1435, .iload 6, 0, 0)] := ⟨by decide +kernel, trivial, trivial⟩
theorem sL_law_1440 : JSeg (jm jdL_law) [(1440, .aload_n 3, 0, 0), (1441, .iconst 0, 0, 0)] := ⟨by decide +kernel, trivial, trivial, trivial⟩
theorem sL_law_1443 : JSeg (jm jdL_law) [(1443, .iload 7, 0, 0), (1445, .i2l, 0, 0), (1446, .lcmp, 0, 0)] := ⟨by decide +kernel, trivial, trivial, trivial, trivial⟩
theorem sL_law_1450 : JSeg (jm jdL_law) [(1450, .iconst 0, 0, 0)] := ⟨by decide +kernel, trivial, trivial⟩
theorem sL_law_1452 : JSeg (jm jdL_law) [(1452, .goto 1247, 0, 0)] := ⟨by decide +kernel, trivial, trivial⟩
theorem sL_law_1455 : JSeg (jm jdL_law) [(1455, .aload_n 1, 0, 0), (1456, .aload_n 0, 0, 0), (1457, .iload 5, 0, 0), (1459, .iconst 1, 0, 0), (1460, .iadd, 0, 0)] := ⟨by decide +kernel, trivial, trivial, trivial, trivial, trivial, trivial⟩
theorem sL_law_1462 : JSeg (jm jdL_law) [(1462, .aload_n 0, 0, 0), (1463, .iload 5, 0, 0), (1465, .iconst 2, 0, 0), (1466, .iadd, 0, 0)] := ⟨by decide +kernel, trivial, trivial, trivial, trivial, trivial⟩
theorem sL_law_1468 : JSeg (jm jdL_law) [(1468, .aload_n 3, 0, 0)] := ⟨by decide +kernel, trivial, trivial⟩
theorem sL_law_1472 : JSeg (jm jdL_law) [(1472, .istore 6, 0, 0), (1474, .aload_n 2, 0, 0), (1475, .aload_n 0, 0, 0), (1476, .iload 5, 0, 0), (1478, .iconst 1, 0, 0), (1479, .iadd, 0, 0)] := ⟨by decide +kernel, trivial, trivial, trivial, trivial, trivial, trivial, trivial⟩
theorem sL_law_1481 : JSeg (jm jdL_law) [(1481, .aload_n 0, 0, 0), (1482, .iload 5, 0, 0), (1484, .iconst 2, 0, 0), (1485, .iadd, 0, 0)] := ⟨by decide +kernel, trivial, trivial, trivial, trivial, trivial⟩
theorem sL_law_1490 : JSeg (jm jdL_law) [(1490, .istore 7, 0, 0), (1492, .aload_n 2, 0, 0)] := ⟨by decide +kernel, trivial, trivial, trivial⟩
theorem sL_law_1496 : JSeg (jm jdL_law) [(1496, .iload 6, 0, 0)] := ⟨by decide +kernel, trivial, trivial⟩
theorem sL_law_1501 : JSeg (jm jdL_law) [(1501, .iconst 0, 0, 0)] := ⟨by decide +kernel, trivial, trivial⟩
theorem sL_law_1503 : JSeg (jm jdL_law) [(1503, .iload 6, 0, 0)] := ⟨by decide +kernel, trivial, trivial⟩
theorem sL_law_1508 : JSeg (jm jdL_law) [(1508, .aload_n 3, 0, 0), (1509, .iconst 0, 0, 0)] := ⟨by decide +kernel, trivial, trivial, trivial⟩
theorem sL_law_1511 : JSeg (jm jdL_law) [(1511, .iload 7, 0, 0), (1513, .i2l, 0, 0), (1514, .lcmp, 0, 0)] := ⟨by decide +kernel, trivial, trivial, trivial, trivial⟩
theorem sL_law_1518 : JSeg (jm jdL_law) [(1518, .iconst 0, 0, 0)] := ⟨by decide +kernel, trivial, trivial⟩
theorem sL_law_1520 : JSeg (jm jdL_law) [(1520, .goto 1179, 0, 0)] := ⟨by decide +kernel, trivial, trivial⟩
theorem sL_law_1523 : JSeg (jm jdL_law) [(1523, .aload_n 1, 0, 0), (1524, .aload_n 0, 0, 0), (1525, .iload 5, 0, 0), (1527, .iconst 1, 0, 0), (1528, .iadd, 0, 0)] := ⟨by decide +kernel, trivial, trivial, trivial, trivial, trivial, trivial⟩
theorem sL_law_1530 : JSeg (jm jdL_law) [(1530, .aload_n 0, 0, 0), (1531, .iload 5, 0, 0), (1533, .iconst 2, 0, 0), (1534, .iadd, 0, 0)] := ⟨by decide +kernel, trivial, trivial, trivial, trivial, trivial⟩
theorem sL_law_1536 : JSeg (jm jdL_law) [(1536, .aload_n 0, 0, 0), (1537, .iload 5, 0, 0), (1539, .iconst 3, 0, 0), (1540, .iadd, 0, 0)] := ⟨by decide +kernel, trivial, trivial, trivial, trivial, trivial⟩
theorem sL_law_1542 : JSeg (jm jdL_law) [(1542, .aload_n 3, 0, 0)] := ⟨by decide +kernel, trivial, trivial⟩
theorem sL_law_1546 : JSeg (jm jdL_law) [(1546, .istore 6, 0, 0), (1548, .aload_n 2, 0, 0), (1549, .aload_n 0, 0, 0), (1550, .iload 5, 0, 0), (1552, .iconst 1, 0, 0), (1553, .iadd, 0, 0)] := ⟨by decide +kernel, trivial, trivial, trivial, trivial, trivial, trivial, trivial⟩
theorem sL_law_1555 : JSeg (jm jdL_law) [(1555, .aload_n 0, 0, 0), (1556, .iload 5, 0, 0), (1558, .iconst 2, 0, 0), (1559, .iadd, 0, 0)] := ⟨by decide +kernel, trivial, trivial, trivial, trivial, trivial⟩
theorem sL_law_1561 : JSeg (jm jdL_law) [(1561, .aload_n 0, 0, 0), (1562, .iload 5, 0, 0), (1564, .iconst 3, 0, 0), (1565, .iadd, 0, 0)] := ⟨by decide +kernel, trivial, trivial, trivial, trivial, trivial⟩
theorem sL_law_1570 : JSeg (jm jdL_law) [(1570, .istore 7, 0, 0), (1572, .aload_n 2, 0, 0)] := ⟨by decide +kernel, trivial, trivial, trivial⟩
theorem sL_law_1576 : JSeg (jm jdL_law) [(1576, .iload 6, 0, 0)] := ⟨by decide +kernel, trivial, trivial⟩
theorem sL_law_1581 : JSeg (jm jdL_law) [(1581, .iconst 0, 0, 0)] := ⟨by decide +kernel, trivial, trivial⟩
theorem sL_law_1583 : JSeg (jm jdL_law) [(1583, .iload 6, 0, 0)] := ⟨by decide +kernel, trivial, trivial⟩
theorem sL_law_1588 : JSeg (jm jdL_law) [(1588, .aload_n 3, 0, 0), (1589, .iconst 0, 0, 0)] := ⟨by decide +kernel, trivial, trivial, trivial⟩
theorem sL_law_1591 : JSeg (jm jdL_law) [(1591, .iload 7, 0, 0), (1593, .i2l, 0, 0), (1594, .lcmp, 0, 0)] := ⟨by decide +kernel, trivial, trivial, trivial, trivial⟩
theorem sL_law_1598 : JSeg (jm jdL_law) [(1598, .iconst 0, 0, 0)] := ⟨by decide +kernel, trivial, trivial⟩
theorem sL_law_1600 : JSeg (jm jdL_law) [(1600, .goto 1099, 0, 0)] := ⟨by decide +kernel, trivial, trivial⟩
theorem sL_law_1603 : JSeg (jm jdL_law) [(1603, .aload_n 1, 0, 0), (1604, .aload_n 0, 0, 0), (1605, .iload 5, 0, 0), (1607, .iconst 1, 0, 0), (1608, .iadd, 0, 0)] := ⟨by decide +kernel, trivial, trivial, trivial, trivial, trivial, trivial⟩
theorem sL_law_1610 : JSeg (jm jdL_law) [(1610, .aload_n 0, 0, 0), (1611, .iload 5, 0, 0), (1613, .iconst 2, 0, 0), (1614, .iadd, 0, 0)] := ⟨by decide +kernel, trivial, trivial, trivial, trivial, trivial⟩
theorem sL_law_1616 : JSeg (jm jdL_law) [(1616, .aload_n 0, 0, 0), (1617, .iload 5, 0, 0), (1619, .iconst 3, 0, 0), (1620, .iadd, 0, 0)] := ⟨by decide +kernel, trivial, trivial, trivial, trivial, trivial⟩
theorem sL_law_1622 : JSeg (jm jdL_law) [(1622, .aload_n 3, 0, 0)] := ⟨by decide +kernel, trivial, trivial⟩
theorem sL_law_1626 : JSeg (jm jdL_law) [(1626, .istore 6, 0, 0), (1628, .aload_n 2, 0, 0), (1629, .aload_n 0, 0, 0), (1630, .iload 5, 0, 0), (1632, .iconst 1, 0, 0), (1633, .iadd, 0, 0)] := ⟨by decide +kernel, trivial, trivial, trivial, trivial, trivial, trivial, trivial⟩
theorem sL_law_1635 : JSeg (jm jdL_law) [(1635, .aload_n 0, 0, 0), (1636, .iload 5, 0, 0), (1638, .iconst 2, 0, 0), (1639, .iadd, 0, 0)] := ⟨by decide +kernel, trivial, trivial, trivial, trivial, trivial⟩
theorem sL_law_1641 : JSeg (jm jdL_law) [(1641, .aload_n 0, 0, 0), (1642, .iload 5, 0, 0), (1644, .iconst 3, 0, 0), (1645, .iadd, 0, 0)] := ⟨by decide +kernel, trivial, trivial, trivial, trivial, trivial⟩
theorem sL_law_1650 : JSeg (jm jdL_law) [(1650, .istore 7, 0, 0), (1652, .aload_n 2, 0, 0)] := ⟨by decide +kernel, trivial, trivial, trivial⟩
theorem sL_law_1656 : JSeg (jm jdL_law) [(1656, .iload 6, 0, 0)] := ⟨by decide +kernel, trivial, trivial⟩
theorem sL_law_1661 : JSeg (jm jdL_law) [(1661, .iconst 0, 0, 0)] := ⟨by decide +kernel, trivial, trivial⟩
theorem sL_law_1663 : JSeg (jm jdL_law) [(1663, .iload 6, 0, 0)] := ⟨by decide +kernel, trivial, trivial⟩
theorem sL_law_1668 : JSeg (jm jdL_law) [(1668, .aload_n 3, 0, 0), (1669, .iconst 0, 0, 0)] := ⟨by decide +kernel, trivial, trivial, trivial⟩
theorem sL_law_1671 : JSeg (jm jdL_law) [(1671, .iload 7, 0, 0), (1673, .i2l, 0, 0), (1674, .lcmp, 0, 0)] := ⟨by decide +kernel, trivial, trivial, trivial, trivial⟩
theorem sL_law_1678 : JSeg (jm jdL_law) [(1678, .iconst 0, 0, 0)] := ⟨by decide +kernel, trivial, trivial⟩
theorem sL_law_1680 : JSeg (jm jdL_law) [(1680, .goto 1019, 0, 0)] := ⟨by decide +kernel, trivial, trivial⟩
theorem sL_law_1683 : JSeg (jm jdL_law) [(1683, .aload_n 1, 0, 0), (1684, .aload_n 0, 0, 0), (1685, .iload 5, 0, 0), (1687, .iconst 1, 0, 0), (1688, .iadd, 0, 0)] := ⟨by decide +kernel, trivial, trivial, trivial, trivial, trivial, trivial⟩
theorem sL_law_1690 : JSeg (jm jdL_law) [(1690, .aload_n 3, 0, 0)] := ⟨by decide +kernel, trivial, trivial⟩
theorem sL_law_1694 : JSeg (jm jdL_law) [(1694, .istore 6, 0, 0), (1696, .aload_n 2, 0, 0), (1697, .aload_n 0, 0, 0), (1698, .iload 5, 0, 0), (1700, .iconst 1, 0, 0), (1701, .iadd, 0, 0)] := ⟨by decide +kernel, trivial, trivial, trivial, trivial, trivial, trivial, trivial⟩
theorem sL_law_1706 : JSeg (jm jdL_law) [(1706, .istore 7, 0, 0), (1708, .aload_n 2, 0, 0)] := ⟨by decide +kernel, trivial, trivial, trivial⟩
theorem sL_law_1712 : JSeg (jm jdL_law) [(1712, .iload 6, 0, 0)] := ⟨by decide +kernel, trivial, trivial⟩
theorem sL_law_1717 : JSeg (jm jdL_law) [(1717, .iconst 0, 0, 0)] := ⟨by decide +kernel, trivial, trivial⟩
theorem sL_law_1719 : JSeg (jm jdL_law) [(1719, .iload 6, 0, 0)] := ⟨by decide +kernel, trivial, trivial⟩
theorem sL_law_1724 : JSeg (jm jdL_law) [(1724, .aload_n 3, 0, 0), (1725, .iconst 0, 0, 0)] := ⟨by decide +kernel, trivial, trivial, trivial⟩
theorem sL_law_1727 : JSeg (jm jdL_law) [(1727, .iload 7, 0, 0), (1729, .i2l, 0, 0), (1730, .lcmp, 0, 0)] := ⟨by decide +kernel, trivial, trivial, trivial, trivial⟩
theorem sL_law_1734 : JSeg (jm jdL_law) [(1734, .iconst 0, 0, 0)] := ⟨by decide +kernel, trivial, trivial⟩
theorem sL_law_1736 : JSeg (jm jdL_law) [(1736, .goto 963, 0, 0)] := ⟨by decide +kernel, trivial, trivial⟩
theorem sL_law_1739 : JSeg (jm jdL_law) [(1739, .aload_n 1, 0, 0)] := ⟨by decide +kernel, trivial, trivial⟩
theorem sL_law_1743 : JSeg (jm jdL_law) [(1743, .aload_n 2, 0, 0)] := ⟨by decide +kernel, trivial, trivial⟩
theorem sL_law_1750 : JSeg (jm jdL_law) [(1750, .iconst 0, 0, 0)] := ⟨by decide +kernel, trivial, trivial⟩
theorem sL_law_1752 : JSeg (jm jdL_law) [(1752, .aload_n 1, 0, 0), (1753, .aload_n 0, 0, 0), (1754, .iload 5, 0, 0), (1756, .iconst 1, 0, 0), (1757, .iadd, 0, 0)] := ⟨by decide +kernel, trivial, trivial, trivial, trivial, trivial, trivial⟩
theorem sL_law_1762 : JSeg (jm jdL_law) [(1762, .aload_n 2, 0, 0), (1763, .aload_n 0, 0, 0), (1764, .iload 5, 0, 0), (1766, .iconst 1, 0, 0), (1767, .iadd, 0, 0)] := ⟨by decide +kernel, trivial, trivial, trivial, trivial, trivial, trivial⟩
theorem sL_law_1775 : JSeg (jm jdL_law) [(1775, .iconst 0, 0, 0)] := ⟨by decide +kernel, trivial, trivial⟩
theorem sL_law_1777 : JSeg (jm jdL_law) [(1777, .aload_n 1, 0, 0), (1778, .aload_n 0, 0, 0), (1779, .iload 5, 0, 0), (1781, .iconst 1, 0, 0), (1782, .iadd, 0, 0)] := ⟨by decide +kernel, trivial, trivial, trivial, trivial, trivial, trivial⟩
theorem sL_law_1784 : JSeg (jm jdL_law) [(1784, .aload_n 3, 0, 0)] := ⟨by decide +kernel, trivial, trivial⟩
theorem sL_law_1788 : JSeg (jm jdL_law) [(1788, .istore 6, 0, 0), (1790, .aload_n 2, 0, 0), (1791, .aload_n 0, 0, 0), (1792, .iload 5, 0, 0), (1794, .iconst 1, 0, 0), (1795, .iadd, 0, 0)] := ⟨by decide +kernel, trivial, trivial, trivial, trivial, trivial, trivial, trivial⟩
theorem sL_law_1800 : JSeg (jm jdL_law) [(1800, .istore 7, 0, 0), (1802, .aload_n 2, 0, 0)] := ⟨by decide +kernel, trivial, trivial, trivial⟩
theorem sL_law_1806 : JSeg (jm jdL_law) [(1806, .iload 6, 0, 0)] := ⟨by decide +kernel, trivial, trivial⟩
theorem sL_law_1811 : JSeg (jm jdL_law) [(1811, .iconst 0, 0, 0)] := ⟨by decide +kernel, trivial, trivial⟩
theorem sL_law_1813 : JSeg (jm jdL_law) [(1813, .iload 6, 0, 0)] := ⟨by decide +kernel, trivial, trivial⟩
theorem sL_law_1818 : JSeg (jm jdL_law) [(1818, .aload_n 3, 0, 0), (1819, .iconst 0, 0, 0)] := ⟨by decide +kernel, trivial, trivial, trivial⟩
theorem sL_law_1821 : JSeg (jm jdL_law) [(1821, .iload 7, 0, 0), (1823, .i2l, 0, 0), (1824, .lcmp, 0, 0)] := ⟨by decide +kernel, trivial, trivial, trivial, trivial⟩
theorem sL_law_1828 : JSeg (jm jdL_law) [(1828, .iconst 0, 0, 0)] := ⟨by decide +kernel, trivial, trivial⟩
theorem sL_law_1830 : JSeg (jm jdL_law) [(1830, .goto 869, 0, 0)] := ⟨by decide +kernel, trivial, trivial⟩
theorem sL_law_1833 : JSeg (jm jdL_law) [(1833, .aload_n 1, 0, 0), (1834, .aload_n 0, 0, 0), (1835, .iload 5, 0, 0), (1837, .iconst 1, 0, 0), (1838, .iadd, 0, 0)] := ⟨by decide +kernel, trivial, trivial, trivial, trivial, trivial, trivial⟩
theorem sL_law_1840 : JSeg (jm jdL_law) [(1840, .aload_n 3, 0, 0)] := ⟨by decide +kernel, trivial, trivial⟩
theorem sL_law_1844 : JSeg (jm jdL_law) [(1844, .istore 6, 0, 0), (1846, .aload_n 2, 0, 0), (1847, .aload_n 0, 0, 0), (1848, .iload 5, 0, 0), (1850, .iconst 1, 0, 0), (1851, .iadd, 0, 0)] := ⟨by decide +kernel, trivial, trivial, trivial, trivial, trivial, trivial, trivial⟩
theorem sL_law_1856 : JSeg (jm jdL_law) [(1856, .istore 7, 0, 0), (1858, .aload_n 2, 0, 0)] := ⟨by decide +kernel, trivial, trivial, trivial⟩
theorem sL_law_1862 : JSeg (jm jdL_law) [(1862, .iload 6, 0, 0)] := ⟨by decide +kernel, trivial, trivial⟩
theorem sL_law_1867 : JSeg (jm jdL_law) [(1867, .iconst 0, 0, 0)] := ⟨by decide +kernel, trivial, trivial⟩
theorem sL_law_1869 : JSeg (jm jdL_law) [(1869, .iload 6, 0, 0)] := ⟨by decide +kernel, trivial, trivial⟩
theorem sL_law_1874 : JSeg (jm jdL_law) [(1874, .aload_n 3, 0, 0), (1875, .iconst 0, 0, 0)] := ⟨by decide +kernel, trivial, trivial, trivial⟩
theorem sL_law_1877 : JSeg (jm jdL_law) [(1877, .iload 7, 0, 0), (1879, .i2l, 0, 0), (1880, .lcmp, 0, 0)] := ⟨by decide +kernel, trivial, trivial, trivial, trivial⟩
theorem sL_law_1884 : JSeg (jm jdL_law) [(1884, .iconst 0, 0, 0)] := ⟨by decide +kernel, trivial, trivial⟩
theorem sL_law_1886 : JSeg (jm jdL_law) [(1886, .goto 813, 0, 0)] := ⟨by decide +kernel, trivial, trivial⟩
theorem sL_law_1889 : JSeg (jm jdL_law) [(1889, .aload_n 1, 0, 0), (1890, .aload_n 0, 0, 0), (1891, .iload 5, 0, 0), (1893, .iconst 1, 0, 0), (1894, .iadd, 0, 0)] := ⟨by decide +kernel, trivial, trivial, trivial, trivial, trivial, trivial⟩
theorem sL_law_1896 : JSeg (jm jdL_law) [(1896, .aload_n 3, 0, 0)] := ⟨by decide +kernel, trivial, trivial⟩
theorem sL_law_1900 : JSeg (jm jdL_law) [(1900, .istore 6, 0, 0), (1902, .aload_n 2, 0, 0), (1903, .aload_n 0, 0, 0), (1904, .iload 5, 0, 0), (1906, .iconst 1, 0, 0), (1907, .iadd, 0, 0)] := ⟨by decide +kernel, trivial, trivial, trivial, trivial, trivial, trivial, trivial⟩
theorem sL_law_1912 : JSeg (jm jdL_law) [(1912, .istore 7, 0, 0), (1914, .aload_n 2, 0, 0)] := ⟨by decide +kernel, trivial, trivial, trivial⟩
theorem sL_law_1918 : JSeg (jm jdL_law) [(1918, .iload 6, 0, 0)] := ⟨by decide +kernel, trivial, trivial⟩
theorem sL_law_1923 : JSeg (jm jdL_law) [(1923, .iconst 0, 0, 0)] := ⟨by decide +kernel, trivial, trivial⟩
theorem sL_law_1925 : JSeg (jm jdL_law) [(1925, .iload 6, 0, 0)] := ⟨by decide +kernel, trivial, trivial⟩
theorem sL_law_1930 : JSeg (jm jdL_law) [(1930, .aload_n 3, 0, 0), (1931, .iconst 0, 0, 0)] := ⟨by decide +kernel, trivial, trivial, trivial⟩
theorem sL_law_1933 : JSeg (jm jdL_law) [(1933, .iload 7, 0, 0), (1935, .i2l, 0, 0), (1936, .lcmp, 0, 0)] := ⟨by decide +kernel, trivial, trivial, trivial, trivial⟩
theorem sL_law_1940 : JSeg (jm jdL_law) [(1940, .iconst 0, 0, 0)] := ⟨by decide +kernel, trivial, trivial⟩
theorem sL_law_1942 : JSeg (jm jdL_law) [(1942, .goto 757, 0, 0)] := ⟨by decide +kernel, trivial, trivial⟩
theorem sL_law_1945 : JSeg (jm jdL_law) [(1945, .aload_n 1, 0, 0), (1946, .aload_n 0, 0, 0), (1947, .iload 5, 0, 0), (1949, .iconst 1, 0, 0), (1950, .iadd, 0, 0)] := ⟨by decide +kernel, trivial, trivial, trivial, trivial, trivial, trivial⟩
theorem sL_law_1952 : JSeg (jm jdL_law) [(1952, .aload_n 3, 0, 0)] := ⟨by decide +kernel, trivial, trivial⟩
theorem sL_law_1956 : JSeg (jm jdL_law) [(1956, .istore 6, 0, 0), (1958, .aload_n 2, 0, 0), (1959, .aload_n 0, 0, 0), (1960, .iload 5, 0, 0), (1962, .iconst 1, 0, 0), (1963, .iadd, 0, 0)] := ⟨by decide +kernel, trivial, trivial, trivial, trivial, trivial, trivial, trivial⟩
theorem sL_law_1968 : JSeg (jm jdL_law) [(1968, .istore 7, 0, 0), (1970, .aload_n 2, 0, 0)] := ⟨by decide +kernel, trivial, trivial, trivial⟩
theorem sL_law_1974 : JSeg (jm jdL_law) [(1974, .iload 6, 0, 0)] := ⟨by decide +kernel, trivial, trivial⟩
theorem sL_law_1979 : JSeg (jm jdL_law) [(1979, .iconst 0, 0, 0)] := ⟨by decide +kernel, trivial, trivial⟩
theorem sL_law_1981 : JSeg (jm jdL_law) [(1981, .iload 6, 0, 0)] := ⟨by decide +kernel, trivial, trivial⟩
theorem sL_law_1986 : JSeg (jm jdL_law) [(1986, .aload_n 3, 0, 0), (1987, .iconst 0, 0, 0)] := ⟨by decide +kernel, trivial, trivial, trivial⟩
theorem sL_law_1989 : JSeg (jm jdL_law) [(1989, .iload 7, 0, 0)] := ⟨by decide +kernel, trivial, trivial⟩
theorem sL_law_1994 : JSeg (jm jdL_law) [(1994, .lconst 1, 0, 0), (1995, .goto 4, 0, 0)] := ⟨by decide +kernel, trivial, trivial, trivial⟩
theorem sL_law_1998 : JSeg (jm jdL_law) [(1998, .lconst 0, 0, 0)] := ⟨by decide +kernel, trivial, trivial⟩
theorem sL_law_1999 : JSeg (jm jdL_law) [(1999, .lcmp, 0, 0)] := ⟨by decide +kernel, trivial, trivial⟩
theorem sL_law_2003 : JSeg (jm jdL_law) [(2003, .iconst 0, 0, 0)] := ⟨by decide +kernel, trivial, trivial⟩
theorem sL_law_2005 : JSeg (jm jdL_law) [(2005, .goto 694, 0, 0)] := ⟨by decide +kernel, trivial, trivial⟩
theorem sL_law_2008 : JSeg (jm jdL_law) [(2008, .aload_n 1, 0, 0), (2009, .aload_n 0, 0, 0), (2010, .iload 5, 0, 0), (2012, .iconst 1, 0, 0), (2013, .iadd, 0, 0)] := ⟨by decide +kernel, trivial, trivial, trivial, trivial, trivial, trivial⟩
theorem sL_law_2015 : JSeg (jm jdL_law) [(2015, .aload_n 3, 0, 0)] := ⟨by decide +kernel, trivial, trivial⟩
theorem sL_law_2019 : JSeg (jm jdL_law) [(2019, .istore 6, 0, 0), (2021, .aload_n 2, 0, 0), (2022, .aload_n 0, 0, 0), (2023, .iload 5, 0, 0), (2025, .iconst 1, 0, 0), (2026, .iadd, 0, 0)] := ⟨by decide +kernel, trivial, trivial, trivial, trivial, trivial, trivial, trivial⟩
theorem sL_law_2031 : JSeg (jm jdL_law) [(2031, .istore 7, 0, 0), (2033, .aload_n 2, 0, 0)] := ⟨by decide +kernel, trivial, trivial, trivial⟩
theorem sL_law_2037 : JSeg (jm jdL_law) [(2037, .iload 6, 0, 0)] := ⟨by decide +kernel, trivial, trivial⟩
theorem sL_law_2042 : JSeg (jm jdL_law) [(2042, .iconst 0, 0, 0)] := ⟨by decide +kernel, trivial, trivial⟩
theorem sL_law_2044 : JSeg (jm jdL_law) [(2044, .iload 6, 0, 0)] := ⟨by decide +kernel, trivial, trivial⟩
theorem sL_law_2049 : JSeg (jm jdL_law) [(2049, .aload_n 3, 0, 0), (2050, .iconst 0, 0, 0)] := ⟨by decide +kernel, trivial, trivial, trivial⟩
theorem sL_law_2052 : JSeg (jm jdL_law) [(2052, .iload 7, 0, 0), (2054, .i2l, 0, 0), (2055, .lcmp, 0, 0)] := ⟨by decide +kernel, trivial, trivial, trivial, trivial⟩
theorem sL_law_2059 : JSeg (jm jdL_law) [(2059, .iconst 0, 0, 0)] := ⟨by decide +kernel, trivial, trivial⟩
theorem sL_law_2061 : JSeg (jm jdL_law) [(2061, .goto 638, 0, 0)] := ⟨by decide +kernel, trivial, trivial⟩
theorem sL_law_2064 : JSeg (jm jdL_law) [(2064, .aload_n 1, 0, 0), (2065, .aload_n 0, 0, 0), (2066, .iload 5, 0, 0), (2068, .iconst 1, 0, 0), (2069, .iadd, 0, 0)] := ⟨by decide +kernel, trivial, trivial, trivial, trivial, trivial, trivial⟩
theorem sL_law_2071 : JSeg (jm jdL_law) [(2071, .aload_n 3, 0, 0)] := ⟨by decide +kernel, trivial, trivial⟩
theorem sL_law_2075 : JSeg (jm jdL_law) [(2075, .istore 6, 0, 0), (2077, .aload_n 2, 0, 0), (2078, .aload_n 0, 0, 0), (2079, .iload 5, 0, 0), (2081, .iconst 1, 0, 0), (2082, .iadd, 0, 0)] := ⟨by decide +kernel, trivial, trivial, trivial, trivial, trivial, trivial, trivial⟩
theorem sL_law_2087 : JSeg (jm jdL_law) [(2087, .istore 7, 0, 0), (2089, .aload_n 2, 0, 0)] := ⟨by decide +kernel, trivial, trivial, trivial⟩
theorem sL_law_2093 : JSeg (jm jdL_law) [(2093, .iload 6, 0, 0)] := ⟨by decide +kernel, trivial, trivial⟩
theorem sL_law_2098 : JSeg (jm jdL_law) [(2098, .iconst 0, 0, 0)] := ⟨by decide +kernel, trivial, trivial⟩
theorem sL_law_2100 : JSeg (jm jdL_law) [(2100, .iload 6, 0, 0)] := ⟨by decide +kernel, trivial, trivial⟩
theorem sL_law_2105 : JSeg (jm jdL_law) [(2105, .aload_n 3, 0, 0), (2106, .iconst 0, 0, 0)] := ⟨by decide +kernel, trivial, trivial, trivial⟩
theorem sL_law_2108 : JSeg (jm jdL_law) [(2108, .iload 7, 0, 0), (2110, .i2l, 0, 0), (2111, .lcmp, 0, 0)] := ⟨by decide +kernel, trivial, trivial, trivial, trivial⟩
theorem sL_law_2115 : JSeg (jm jdL_law) [(2115, .iconst 0, 0, 0)] := ⟨by decide +kernel, trivial, trivial⟩
theorem sL_law_2117 : JSeg (jm jdL_law) [(2117, .goto 582, 0, 0)] := ⟨by decide +kernel, trivial, trivial⟩
theorem sL_law_2120 : JSeg (jm jdL_law) [(2120, .aload_n 1, 0, 0)] := ⟨by decide +kernel, trivial, trivial⟩
theorem sL_law_2124 : JSeg (jm jdL_law) [(2124, .aload_n 2, 0, 0)] := ⟨by decide +kernel, trivial, trivial⟩
theorem sL_law_2128 : JSeg (jm jdL_law) [(2128, .lcmp, 0, 0)] := ⟨by decide +kernel, trivial, trivial⟩
theorem sL_law_2132 : JSeg (jm jdL_law) [(2132, .iconst 0, 0, 0)] := ⟨by decide +kernel, trivial, trivial⟩
theorem sL_law_2134 : JSeg (jm jdL_law) [(2134, .aload_n 1, 0, 0)] := ⟨by decide +kernel, trivial, trivial⟩
theorem sL_law_2138 : JSeg (jm jdL_law) [(2138, .aload_n 2, 0, 0)] := ⟨by decide +kernel, trivial, trivial⟩
theorem sL_law_2145 : JSeg (jm jdL_law) [(2145, .iconst 0, 0, 0)] := ⟨by decide +kernel, trivial, trivial⟩
theorem sL_law_2147 : JSeg (jm jdL_law) [(2147, .aload_n 1, 0, 0)] := ⟨by decide +kernel, trivial, trivial⟩
theorem sL_law_2151 : JSeg (jm jdL_law) [(2151, .aload_n 2, 0, 0)] := ⟨by decide +kernel, trivial, trivial⟩
theorem sL_law_2158 : JSeg (jm jdL_law) [(2158, .iconst 0, 0, 0)] := ⟨by decide +kernel, trivial, trivial⟩
theorem sL_law_2160 : JSeg (jm jdL_law) [(2160, .aload_n 1, 0, 0)] := ⟨by decide +kernel, trivial, trivial⟩
theorem sL_law_2164 : JSeg (jm jdL_law) [(2164, .aload_n 2, 0, 0)] := ⟨by decide +kernel, trivial, trivial⟩
theorem sL_law_2168 : JSeg (jm jdL_law) [(2168, .lcmp, 0, 0)] := ⟨by decide +kernel, trivial, trivial⟩
theorem sL_law_2172 : JSeg (jm jdL_law) [(2172, .iconst 0, 0, 0)] := ⟨by decide +kernel, trivial, trivial⟩
theorem sL_law_2174 : JSeg (jm jdL_law) [(2174, .aload_n 1, 0, 0), (2175, .aload 4, 0, 0)] := ⟨by decide +kernel, trivial, trivial, trivial⟩
theorem sL_law_2180 : JSeg (jm jdL_law) [(2180, .istore 6, 0, 0), (2182, .aload_n 2, 0, 0)] := ⟨by decide +kernel, trivial, trivial, trivial⟩
theorem sL_law_2186 : JSeg (jm jdL_law) [(2186, .dstore 7, 0, 0), (2188, .aload_n 2, 0, 0)] := ⟨by decide +kernel, trivial, trivial, trivial⟩
theorem sL_law_2192 : JSeg (jm jdL_law) [(2192, .iload 6, 0, 0)] := ⟨by decide +kernel, trivial, trivial⟩
theorem sL_law_2197 : JSeg (jm jdL_law) [(2197, .iconst 0, 0, 0)] := ⟨by decide +kernel, trivial, trivial⟩
theorem sL_law_2199 : JSeg (jm jdL_law) [(2199, .iload 6, 0, 0)] := ⟨by decide +kernel, trivial, trivial⟩
theorem sL_law_2204 : JSeg (jm jdL_law) [(2204, .aload 4, 0, 0), (2206, .iconst 0, 0, 0)] := ⟨by decide +kernel, trivial, trivial, trivial⟩
theorem sL_law_2208 : JSeg (jm jdL_law) [(2208, .dload 7, 0, 0), (2210, .dcmp .l, 0, 0)] := ⟨by decide +kernel, trivial, trivial, trivial⟩
theorem sL_law_2214 : JSeg (jm jdL_law) [(2214, .aload 4, 0, 0), (2216, .iconst 0, 0, 0)] := ⟨by decide +kernel, trivial, trivial, trivial⟩
theorem sL_law_2218 : JSeg (jm jdL_law) [(2218, .aload 4, 0, 0), (2220, .iconst 0, 0, 0)] := ⟨by decide +kernel, trivial, trivial, trivial⟩
theorem sL_law_2222 : JSeg (jm jdL_law) [(2222, .dcmp .l, 0, 0)] := ⟨by decide +kernel, trivial, trivial⟩
theorem sL_law_2226 : JSeg (jm jdL_law) [(2226, .dload 7, 0, 0), (2228, .dload 7, 0, 0), (2230, .dcmp .l, 0, 0)] := ⟨by decide +kernel, trivial, trivial, trivial, trivial⟩
theorem sL_law_2234 : JSeg (jm jdL_law) [(2234, .iconst 0, 0, 0)] := ⟨by decide +kernel, trivial, trivial⟩
theorem sL_law_2236 : JSeg (jm jdL_law) [(2236, .goto 463, 0, 0)] := ⟨by decide +kernel, trivial, trivial⟩
theorem sL_law_2239 : JSeg (jm jdL_law) [(2239, .aload_n 1, 0, 0), (2240, .aload 4, 0, 0)] := ⟨by decide +kernel, trivial, trivial, trivial⟩
theorem sL_law_2245 : JSeg (jm jdL_law) [(2245, .istore 6, 0, 0), (2247, .aload_n 2, 0, 0)] := ⟨by decide +kernel, trivial, trivial, trivial⟩
theorem sL_law_2251 : JSeg (jm jdL_law) [(2251, .fstore 7, 0, 0), (2253, .aload_n 2, 0, 0)] := ⟨by decide +kernel, trivial, trivial, trivial⟩
theorem sL_law_2257 : JSeg (jm jdL_law) [(2257, .iload 6, 0, 0)] := ⟨by decide +kernel, trivial, trivial⟩
theorem sL_law_2262 : JSeg (jm jdL_law) [(2262, .iconst 0, 0, 0)] := ⟨by decide +kernel, trivial, trivial⟩
theorem sL_law_2264 : JSeg (jm jdL_law) [(2264, .iload 6, 0, 0)] := ⟨by decide +kernel, trivial, trivial⟩
theorem sL_law_2269 : JSeg (jm jdL_law) [(2269, .aload 4, 0, 0), (2271, .iconst 0, 0, 0)] := ⟨by decide +kernel, trivial, trivial, trivial⟩
theorem sL_law_2273 : JSeg (jm jdL_law) [(2273, .fload 7, 0, 0)] := ⟨by decide +kernel, trivial, trivial⟩
theorem sL_law_2276 : JSeg (jm jdL_law) [(2276, .dcmp .l, 0, 0)] := ⟨by decide +kernel, trivial, trivial⟩
theorem sL_law_2280 : JSeg (jm jdL_law) [(2280, .aload 4, 0, 0), (2282, .iconst 0, 0, 0)] := ⟨by decide +kernel, trivial, trivial, trivial⟩
theorem sL_law_2284 : JSeg (jm jdL_law) [(2284, .aload 4, 0, 0), (2286, .iconst 0, 0, 0)] := ⟨by decide +kernel, trivial, trivial, trivial⟩
theorem sL_law_2288 : JSeg (jm jdL_law) [(2288, .dcmp .l, 0, 0)] := ⟨by decide +kernel, trivial, trivial⟩
theorem sL_law_2292 : JSeg (jm jdL_law) [(2292, .fload 7, 0, 0), (2294, .fload 7, 0, 0), (2296, .fcmp .l, 0, 0)] := ⟨by decide +kernel, trivial, trivial, trivial, trivial⟩
theorem sL_law_2300 : JSeg (jm jdL_law) [(2300, .iconst 0, 0, 0)] := ⟨by decide +kernel, trivial, trivial⟩
theorem sL_law_2302 : JSeg (jm jdL_law) [(2302, .goto 397, 0, 0)] := ⟨by decide +kernel, trivial, trivial⟩
theorem sL_law_2305 : JSeg (jm jdL_law) [(2305, .aload_n 1, 0, 0)] := ⟨by decide +kernel, trivial, trivial⟩
theorem sL_law_2309 : JSeg (jm jdL_law) [(2309, .aload_n 2, 0, 0)] := ⟨by decide +kernel, trivial, trivial⟩
theorem sL_law_2316 : JSeg (jm jdL_law) [(2316, .iconst 0, 0, 0)] := ⟨by decide +kernel, trivial, trivial⟩
theorem sL_law_2318 : JSeg (jm jdL_law) [(2318, .aload_n 1, 0, 0), (2319, .aload_n 0, 0, 0), (2320, .iload 5, 0, 0), (2322, .iconst 1, 0, 0), (2323, .iadd, 0, 0)] := ⟨by decide +kernel, trivial, trivial, trivial, trivial, trivial, trivial⟩
theorem sL_law_2325 : JSeg (jm jdL_law) [(2325, .i2c, 0, 0), (2326, .aload_n 3, 0, 0)] := ⟨by decide +kernel, trivial, trivial, trivial⟩
theorem sL_law_2330 : JSeg (jm jdL_law) [(2330, .istore 6, 0, 0), (2332, .aload_n 2, 0, 0), (2333, .aload_n 0, 0, 0), (2334, .iload 5, 0, 0), (2336, .iconst 1, 0, 0), (2337, .iadd, 0, 0)] := ⟨by decide +kernel, trivial, trivial, trivial, trivial, trivial, trivial, trivial⟩
theorem sL_law_2339 : JSeg (jm jdL_law) [(2339, .i2c, 0, 0)] := ⟨by decide +kernel, trivial, trivial⟩
theorem sL_law_2343 : JSeg (jm jdL_law) [(2343, .istore 7, 0, 0), (2345, .aload_n 2, 0, 0)] := ⟨by decide +kernel, trivial, trivial, trivial⟩
theorem sL_law_2349 : JSeg (jm jdL_law) [(2349, .iload 6, 0, 0)] := ⟨by decide +kernel, trivial, trivial⟩
theorem sL_law_2354 : JSeg (jm jdL_law) [(2354, .iconst 0, 0, 0)] := ⟨by decide +kernel, trivial, trivial⟩
theorem sL_law_2356 : JSeg (jm jdL_law) [(2356, .iload 6, 0, 0)] := ⟨by decide +kernel, trivial, trivial⟩
theorem sL_law_2361 : JSeg (jm jdL_law) [(2361, .aload_n 3, 0, 0), (2362, .iconst 0, 0, 0)] := ⟨by decide +kernel, trivial, trivial, trivial⟩
theorem sL_law_2364 : JSeg (jm jdL_law) [(2364, .iload 7, 0, 0), (2366, .i2l, 0, 0), (2367, .lcmp, 0, 0)] := ⟨by decide +kernel, trivial, trivial, trivial, trivial⟩
theorem sL_law_2371 : JSeg (jm jdL_law) [(2371, .iconst 0, 0, 0)] := ⟨by decide +kernel, trivial, trivial⟩
theorem sL_law_2373 : JSeg (jm jdL_law) [(2373, .goto 326, 0, 0)] := ⟨by decide +kernel, trivial, trivial⟩
theorem sL_law_2376 : JSeg (jm jdL_law) [(2376, .aload_n 1, 0, 0), (2377, .aload_n 3, 0, 0)] := ⟨by decide +kernel, trivial, trivial, trivial⟩
theorem sL_law_2381 : JSeg (jm jdL_law) [(2381, .istore 6, 0, 0), (2383, .aload_n 2, 0, 0)] := ⟨by decide +kernel, trivial, trivial, trivial⟩
theorem sL_law_2387 : JSeg (jm jdL_law) [(2387, .istore 7, 0, 0), (2389, .aload_n 2, 0, 0)] := ⟨by decide +kernel, trivial, trivial, trivial⟩
theorem sL_law_2393 : JSeg (jm jdL_law) [(2393, .iload 6, 0, 0)] := ⟨by decide +kernel, trivial, trivial⟩
theorem sL_law_2398 : JSeg (jm jdL_law) [(2398, .iconst 0, 0, 0)] := ⟨by decide +kernel, trivial, trivial⟩
theorem sL_law_2400 : JSeg (jm jdL_law) [(2400, .iload 6, 0, 0)] := ⟨by decide +kernel, trivial, trivial⟩
theorem sL_law_2405 : JSeg (jm jdL_law) [(2405, .aload_n 3, 0, 0), (2406, .iconst 0, 0, 0)] := ⟨by decide +kernel, trivial, trivial, trivial⟩
theorem sL_law_2408 : JSeg (jm jdL_law) [(2408, .iload 7, 0, 0), (2410, .i2l, 0, 0), (2411, .lcmp, 0, 0)] := ⟨by decide +kernel, trivial, trivial, trivial, trivial⟩
theorem sL_law_2415 : JSeg (jm jdL_law) [(2415, .iconst 0, 0, 0)] := ⟨by decide +kernel, trivial, trivial⟩
theorem sL_law_2417 : JSeg (jm jdL_law) [(2417, .goto 282, 0, 0)] := ⟨by decide +kernel, trivial, trivial⟩
theorem sL_law_2420 : JSeg (jm jdL_law) [(2420, .aload_n 1, 0, 0), (2421, .aload_n 3, 0, 0)] := ⟨by decide +kernel, trivial, trivial, trivial⟩
theorem sL_law_2425 : JSeg (jm jdL_law) [(2425, .istore 6, 0, 0), (2427, .aload_n 2, 0, 0)] := ⟨by decide +kernel, trivial, trivial, trivial⟩
theorem sL_law_2431 : JSeg (jm jdL_law) [(2431, .istore 7, 0, 0), (2433, .aload_n 2, 0, 0)] := ⟨by decide +kernel, trivial, trivial, trivial⟩
theorem sL_law_2437 : JSeg (jm jdL_law) [(2437, .iload 6, 0, 0)] := ⟨by decide +kernel, trivial, trivial⟩
theorem sL_law_2442 : JSeg (jm jdL_law) [(2442, .iconst 0, 0, 0)] := ⟨by decide +kernel, trivial, trivial⟩
theorem sL_law_2444 : JSeg (jm jdL_law) [(2444, .iload 6, 0, 0)] := ⟨by decide +kernel, trivial, trivial⟩
theorem sL_law_2449 : JSeg (jm jdL_law) [(2449, .aload_n 3, 0, 0), (2450, .iconst 0, 0, 0)] := ⟨by decide +kernel, trivial, trivial, trivial⟩
theorem sL_law_2452 : JSeg (jm jdL_law) [(2452, .iload 7, 0, 0), (2454, .i2l, 0, 0), (2455, .lcmp, 0, 0)] := ⟨by decide +kernel, trivial, trivial, trivial, trivial⟩
theorem sL_law_2459 : JSeg (jm jdL_law) [(2459, .iconst 0, 0, 0)] := ⟨by decide +kernel, trivial, trivial⟩
theorem sL_law_2461 : JSeg (jm jdL_law) [(2461, .goto 238, 0, 0)] := ⟨by decide +kernel, trivial, trivial⟩
theorem sL_law_2464 : JSeg (jm jdL_law) [(2464, .aload_n 1, 0, 0), (2465, .aload_n 3, 0, 0)] := ⟨by decide +kernel, trivial, trivial, trivial⟩
theorem sL_law_2469 : JSeg (jm jdL_law) [(2469, .istore 6, 0, 0), (2471, .aload_n 2, 0, 0)] := ⟨by decide +kernel, trivial, trivial, trivial⟩
theorem sL_law_2475 : JSeg (jm jdL_law) [(2475, .istore 7, 0, 0), (2477, .aload_n 2, 0, 0)] := ⟨by decide +kernel, trivial, trivial, trivial⟩
theorem sL_law_2481 : JSeg (jm jdL_law) [(2481, .iload 6, 0, 0)] := ⟨by decide +kernel, trivial, trivial⟩
theorem sL_law_2486 : JSeg (jm jdL_law) [(2486, .iconst 0, 0, 0)] := ⟨by decide +kernel, trivial, trivial⟩
theorem sL_law_2488 : JSeg (jm jdL_law) [(2488, .iload 6, 0, 0)] := ⟨by decide +kernel, trivial, trivial⟩
theorem sL_law_2493 : JSeg (jm jdL_law) [(2493, .aload_n 3, 0, 0), (2494, .iconst 0, 0, 0)] := ⟨by decide +kernel, trivial, trivial, trivial⟩
theorem sL_law_2496 : JSeg (jm jdL_law) [(2496, .iload 7, 0, 0), (2498, .i2l, 0, 0), (2499, .lcmp, 0, 0)] := ⟨by decide +kernel, trivial, trivial, trivial, trivial⟩
theorem sL_law_2503 : JSeg (jm jdL_law) [(2503, .iconst 0, 0, 0)] := ⟨by decide +kernel, trivial, trivial⟩
theorem sL_law_2505 : JSeg (jm jdL_law) [(2505, .goto 194, 0, 0)] := ⟨by decide +kernel, trivial, trivial⟩
theorem sL_law_2508 : JSeg (jm jdL_law) [(2508, .aload_n 1, 0, 0), (2509, .aload_n 0, 0, 0), (2510, .iload 5, 0, 0), (2512, .iconst 1, 0, 0), (2513, .iadd, 0, 0)] := ⟨by decide +kernel, trivial, trivial, trivial, trivial, trivial, trivial⟩
theorem sL_law_2515 : JSeg (jm jdL_law) [(2515, .aload_n 3, 0, 0)] := ⟨by decide +kernel, trivial, trivial⟩
theorem sL_law_2519 : JSeg (jm jdL_law) [(2519, .istore 6, 0, 0), (2521, .aload_n 2, 0, 0), (2522, .aload_n 0, 0, 0), (2523, .iload 5, 0, 0), (2525, .iconst 1, 0, 0), (2526, .iadd, 0, 0)] := ⟨by decide +kernel, trivial, trivial, trivial, trivial, trivial, trivial, trivial⟩
theorem sL_law_2531 : JSeg (jm jdL_law) [(2531, .istore 7, 0, 0), (2533, .aload_n 2, 0, 0)] := ⟨by decide +kernel, trivial, trivial, trivial⟩
theorem sL_law_2537 : JSeg (jm jdL_law) [(2537, .iload 6, 0, 0)] := ⟨by decide +kernel, trivial, trivial⟩
theorem sL_law_2542 : JSeg (jm jdL_law) [(2542, .iconst 0, 0, 0)] := ⟨by decide +kernel, trivial, trivial⟩
theorem sL_law_2544 : JSeg (jm jdL_law) [(2544, .iload 6, 0, 0)] := ⟨by decide +kernel, trivial, trivial⟩
theorem sL_law_2549 : JSeg (jm jdL_law) [(2549, .aload_n 3, 0, 0), (2550, .iconst 0, 0, 0)] := ⟨by decide +kernel, trivial, trivial, trivial⟩
theorem sL_law_2552 : JSeg (jm jdL_law) [(2552, .iload 7, 0, 0), (2554, .i2l, 0, 0), (2555, .lcmp, 0, 0)] := ⟨by decide +kernel, trivial, trivial, trivial, trivial⟩
theorem sL_law_2559 : JSeg (jm jdL_law) [(2559, .iconst 0, 0, 0)] := ⟨by decide +kernel, trivial, trivial⟩
theorem sL_law_2561 : JSeg (jm jdL_law) [(2561, .goto 138, 0, 0)] := ⟨by decide +kernel, trivial, trivial⟩
theorem sL_law_2564 : JSeg (jm jdL_law) [(2564, .aload_n 1, 0, 0), (2565, .aload_n 0, 0, 0), (2566, .iload 5, 0, 0), (2568, .iconst 1, 0, 0), (2569, .iadd, 0, 0)] := ⟨by decide +kernel, trivial, trivial, trivial, trivial, trivial, trivial⟩
theorem sL_law_2571 : JSeg (jm jdL_law) [(2571, .aload_n 3, 0, 0)] := ⟨by decide +kernel, trivial, trivial⟩
theorem sL_law_2575 : JSeg (jm jdL_law) [(2575, .istore 6, 0, 0), (2577, .aload_n 2, 0, 0), (2578, .aload_n 0, 0, 0), (2579, .iload 5, 0, 0), (2581, .iconst 1, 0, 0), (2582, .iadd, 0, 0)] := ⟨by decide +kernel, trivial, trivial, trivial, trivial, trivial, trivial, trivial⟩
theorem sL_law_2587 : JSeg (jm jdL_law) [(2587, .istore 7, 0, 0), (2589, .aload_n 2, 0, 0)] := ⟨by decide +kernel, trivial, trivial, trivial⟩
theorem sL_law_2593 : JSeg (jm jdL_law) [(2593, .iload 6, 0, 0)] := ⟨by decide +kernel, trivial, trivial⟩
theorem sL_law_2598 : JSeg (jm jdL_law) [(2598, .iconst 0, 0, 0)] := ⟨by decide +kernel, trivial, trivial⟩
theorem sL_law_2600 : JSeg (jm jdL_law) [(2600, .iload 6, 0, 0)] := ⟨by decide +kernel, trivial, trivial⟩
theorem sL_law_2605 : JSeg (jm jdL_law) [(2605, .aload_n 3, 0, 0), (2606, .iconst 0, 0, 0)] := ⟨by decide +kernel, trivial, trivial, trivial⟩
theorem sL_law_2608 : JSeg (jm jdL_law) [(2608, .iload 7, 0, 0), (2610, .i2l, 0, 0), (2611, .lcmp, 0, 0)] := ⟨by decide +kernel, trivial, trivial, trivial, trivial⟩
theorem sL_law_2615 : JSeg (jm jdL_law) [(2615, .iconst 0, 0, 0)] := ⟨by decide +kernel, trivial, trivial⟩
theorem sL_law_2617 : JSeg (jm jdL_law) [(2617, .goto 82, 0, 0)] := ⟨by decide +kernel, trivial, trivial⟩
theorem sL_law_2620 : JSeg (jm jdL_law) [(2620, .aload_n 1, 0, 0), (2621, .aload_n 3, 0, 0)] := ⟨by decide +kernel, trivial, trivial, trivial⟩
theorem sL_law_2625 : JSeg (jm jdL_law) [(2625, .istore 6, 0, 0), (2627, .aload_n 2, 0, 0)] := ⟨by decide +kernel, trivial, trivial, trivial⟩
theorem sL_law_2631 : JSeg (jm jdL_law) [(2631, .istore 7, 0, 0), (2633, .aload_n 2, 0, 0)] := ⟨by decide +kernel, trivial, trivial, trivial⟩
theorem sL_law_2637 : JSeg (jm jdL_law) [(2637, .iload 6, 0, 0)] := ⟨by decide +kernel, trivial, trivial⟩
theorem sL_law_2642 : JSeg (jm jdL_law) [(2642, .iconst 0, 0, 0)] := ⟨by decide +kernel, trivial, trivial⟩
theorem sL_law_2644 : JSeg (jm jdL_law) [(2644, .iload 6, 0, 0)] := ⟨by decide +kernel, trivial, trivial⟩
theorem sL_law_2649 : JSeg (jm jdL_law) [(2649, .aload_n 3, 0, 0), (2650, .iconst 0, 0, 0)] := ⟨by decide +kernel, trivial, trivial, trivial⟩
theorem sL_law_2652 : JSeg (jm jdL_law) [(2652, .iload 7, 0, 0), (2654, .i2l, 0, 0), (2655, .lcmp, 0, 0)] := ⟨by decide +kernel, trivial, trivial, trivial, trivial⟩
theorem sL_law_2659 : JSeg (jm jdL_law) [(2659, .iconst 0, 0, 0)] := ⟨by decide +kernel, trivial, trivial⟩
theorem sL_law_2661 : JSeg (jm jdL_law) [(2661, .goto 38, 0, 0)] := ⟨by decide +kernel, trivial, trivial⟩
theorem sL_law_2664 : JSeg (jm jdL_law) [(2664, .aload_n 1, 0, 0)] := ⟨by decide +kernel, trivial, trivial⟩
theorem sL_law_2668 : JSeg (jm jdL_law) [(2668, .aload_n 2, 0, 0)] := ⟨by decide +kernel, trivial, trivial⟩
theorem sL_law_2672 : JSeg (jm jdL_law) [(2672, .goto 27, 0, 0)] := ⟨by decide +kernel, trivial, trivial⟩
theorem sL_law_2675 : JSeg (jm jdL_law) [(2675, .aload_n 1, 0, 0)] := ⟨by decide +kernel, trivial, trivial⟩
theorem sL_law_2679 : JSeg (jm jdL_law) [(2679, .istore 6, 0, 0), (2681, .aload_n 2, 0, 0)] := ⟨by decide +kernel, trivial, trivial, trivial⟩
theorem sL_law_2685 : JSeg (jm jdL_law) [(2685, .aload_n 2, 0, 0)] := ⟨by decide +kernel, trivial, trivial⟩
theorem sL_law_2689 : JSeg (jm jdL_law) [(2689, .iload 6, 0, 0)] := ⟨by decide +kernel, trivial, trivial⟩
theorem sL_law_2694 : JSeg (jm jdL_law) [(2694, .iconst 0, 0, 0)] := ⟨by decide +kernel, trivial, trivial⟩
theorem sL_law_2696 : JSeg (jm jdL_law) [(2696, .goto 3, 0, 0)] := ⟨by decide +kernel, trivial, trivial⟩
theorem sL_law_2699 : JSeg (jm jdL_law) [(2699, .iinc 5 6, 0, 0), (2702, .goto (-2674), 0, 0)] := ⟨by decide +kernel, trivial, trivial, trivial⟩
theorem sL_law_2705 : JSeg (jm jdL_law) [(2705, .iconst 1, 0, 0)] := ⟨by decide +kernel, trivial, trivial⟩
theorem dL_law_0 : decode cL_law 0 = .ok (.new 8, 3) := by decide +kernel
theorem dL_law_4 : decode cL_law 4 = .ok (.invokespecial 146, 3) := by decide +kernel
theorem dL_law_8 : decode cL_law 8 = .ok (.new 147, 3) := by decide +kernel
theorem dL_law_12 : decode cL_law 12 = .ok (.invokespecial 149, 3) := by decide +kernel
theorem dL_law_17 : decode cL_law 17 = .ok (.newarray .long, 2) := by decide +kernel
theorem dL_law_21 : decode cL_law 21 = .ok (.newarray .double, 2) := by decide +kernel
theorem dL_law_35 : decode cL_law 35 = .ok (.if_icmp .gt 2670, 3) := by decide +kernel
theorem dL_law_41 : decode cL_law 41 = .ok (.iaload, 1) := by decide +kernel
theorem dL_law_45 : decode cL_law 45 = .ok (.tableswitch 2654 0 46 #[203, 271, 339, 407, 527, 607, 663, 731, 744, 800, 856, 912, 980, 1043, 1099, 1155, 1211, 1267, 1342, 1410, 1478, 1558, 1638, 1694, 1707, 1732, 1788, 1844, 1900, 1963, 2019, 2075, 2089, 2102, 2115, 2129, 2194, 2260, 2273, 2331, 2375, 2419, 2463, 2519, 2575, 2619, 2630], 203) := by decide +kernel
theorem dL_law_254 : decode cL_law 254 = .ok (.iaload, 1) := by decide +kernel
theorem dL_law_260 : decode cL_law 260 = .ok (.iaload, 1) := by decide +kernel
theorem dL_law_262 : decode cL_law 262 = .ok (.invokestatic 150, 3) := by decide +kernel
theorem dL_law_273 : decode cL_law 273 = .ok (.iaload, 1) := by decide +kernel
theorem dL_law_279 : decode cL_law 279 = .ok (.iaload, 1) := by decide +kernel
theorem dL_law_280 : decode cL_law 280 = .ok (.invokevirtual 155, 3) := by decide +kernel
theorem dL_law_286 : decode cL_law 286 = .ok (.invokevirtual 156, 3) := by decide +kernel
theorem dL_law_291 : decode cL_law 291 = .ok (.if_icmp .eq 5, 3) := by decide +kernel
theorem dL_law_295 : decode cL_law 295 = .ok (.ireturn, 1) := by decide +kernel
theorem dL_law_298 : decode cL_law 298 = .ok (.ifCond .ne 15, 3) := by decide +kernel
theorem dL_law_303 : decode cL_law 303 = .ok (.laload, 1) := by decide +kernel
theorem dL_law_308 : decode cL_law 308 = .ok (.ifCond .eq 5, 3) := by decide +kernel
theorem dL_law_312 : decode cL_law 312 = .ok (.ireturn, 1) := by decide +kernel
theorem dL_law_322 : decode cL_law 322 = .ok (.iaload, 1) := by decide +kernel
theorem dL_law_328 : decode cL_law 328 = .ok (.iaload, 1) := by decide +kernel
theorem dL_law_330 : decode cL_law 330 = .ok (.invokestatic 159, 3) := by decide +kernel
theorem dL_law_341 : decode cL_law 341 = .ok (.iaload, 1) := by decide +kernel
theorem dL_law_347 : decode cL_law 347 = .ok (.iaload, 1) := by decide +kernel
theorem dL_law_348 : decode cL_law 348 = .ok (.invokevirtual 161, 3) := by decide +kernel
theorem dL_law_354 : decode cL_law 354 = .ok (.invokevirtual 156, 3) := by decide +kernel
theorem dL_law_359 : decode cL_law 359 = .ok (.if_icmp .eq 5, 3) := by decide +kernel
theorem dL_law_363 : decode cL_law 363 = .ok (.ireturn, 1) := by decide +kernel
theorem dL_law_366 : decode cL_law 366 = .ok (.ifCond .ne 15, 3) := by decide +kernel
theorem dL_law_371 : decode cL_law 371 = .ok (.laload, 1) := by decide +kernel
theorem dL_law_376 : decode cL_law 376 = .ok (.ifCond .eq 5, 3) := by decide +kernel
theorem dL_law_380 : decode cL_law 380 = .ok (.ireturn, 1) := by decide +kernel
theorem dL_law_390 : decode cL_law 390 = .ok (.iaload, 1) := by decide +kernel
theorem dL_law_396 : decode cL_law 396 = .ok (.iaload, 1) := by decide +kernel
theorem dL_law_398 : decode cL_law 398 = .ok (.invokestatic 162, 3) := by decide +kernel
theorem dL_law_409 : decode cL_law 409 = .ok (.iaload, 1) := by decide +kernel
theorem dL_law_415 : decode cL_law 415 = .ok (.iaload, 1) := by decide +kernel
theorem dL_law_416 : decode cL_law 416 = .ok (.invokevirtual 164, 3) := by decide +kernel
theorem dL_law_422 : decode cL_law 422 = .ok (.invokevirtual 156, 3) := by decide +kernel
theorem dL_law_427 : decode cL_law 427 = .ok (.if_icmp .eq 5, 3) := by decide +kernel
theorem dL_law_431 : decode cL_law 431 = .ok (.ireturn, 1) := by decide +kernel
theorem dL_law_434 : decode cL_law 434 = .ok (.ifCond .ne 15, 3) := by decide +kernel
theorem dL_law_439 : decode cL_law 439 = .ok (.laload, 1) := by decide +kernel
theorem dL_law_444 : decode cL_law 444 = .ok (.ifCond .eq 5, 3) := by decide +kernel
theorem dL_law_448 : decode cL_law 448 = .ok (.ireturn, 1) := by decide +kernel
theorem dL_law_458 : decode cL_law 458 = .ok (.iaload, 1) := by decide +kernel
theorem dL_law_464 : decode cL_law 464 = .ok (.iaload, 1) := by decide +kernel
theorem dL_law_470 : decode cL_law 470 = .ok (.iaload, 1) := by decide +kernel
theorem dL_law_476 : decode cL_law 476 = .ok (.iaload, 1) := by decide +kernel
theorem dL_law_482 : decode cL_law 482 = .ok (.iaload, 1) := by decide +kernel
theorem dL_law_483 : decode cL_law 483 = .ok (.ifCond .eq 7, 3) := by decide +kernel
theorem dL_law_492 : decode cL_law 492 = .ok (.invokestatic 165, 3) := by decide +kernel
theorem dL_law_503 : decode cL_law 503 = .ok (.iaload, 1) := by decide +kernel
theorem dL_law_509 : decode cL_law 509 = .ok (.iaload, 1) := by decide +kernel
theorem dL_law_515 : decode cL_law 515 = .ok (.iaload, 1) := by decide +kernel
theorem dL_law_521 : decode cL_law 521 = .ok (.iaload, 1) := by decide +kernel
theorem dL_law_527 : decode cL_law 527 = .ok (.iaload, 1) := by decide +kernel
theorem dL_law_528 : decode cL_law 528 = .ok (.ifCond .eq 7, 3) := by decide +kernel
theorem dL_law_536 : decode cL_law 536 = .ok (.invokevirtual 168, 3) := by decide +kernel
theorem dL_law_542 : decode cL_law 542 = .ok (.invokevirtual 156, 3) := by decide +kernel
theorem dL_law_547 : decode cL_law 547 = .ok (.if_icmp .eq 5, 3) := by decide +kernel
theorem dL_law_551 : decode cL_law 551 = .ok (.ireturn, 1) := by decide +kernel
theorem dL_law_554 : decode cL_law 554 = .ok (.ifCond .ne 15, 3) := by decide +kernel
theorem dL_law_559 : decode cL_law 559 = .ok (.laload, 1) := by decide +kernel
theorem dL_law_564 : decode cL_law 564 = .ok (.ifCond .eq 5, 3) := by decide +kernel
theorem dL_law_568 : decode cL_law 568 = .ok (.ireturn, 1) := by decide +kernel
theorem dL_law_578 : decode cL_law 578 = .ok (.iaload, 1) := by decide +kernel
theorem dL_law_584 : decode cL_law 584 = .ok (.iaload, 1) := by decide +kernel
theorem dL_law_590 : decode cL_law 590 = .ok (.iaload, 1) := by decide +kernel
theorem dL_law_592 : decode cL_law 592 = .ok (.invokestatic 169, 3) := by decide +kernel
theorem dL_law_603 : decode cL_law 603 = .ok (.iaload, 1) := by decide +kernel
theorem dL_law_609 : decode cL_law 609 = .ok (.iaload, 1) := by decide +kernel
theorem dL_law_615 : decode cL_law 615 = .ok (.iaload, 1) := by decide +kernel
theorem dL_law_616 : decode cL_law 616 = .ok (.invokevirtual 172, 3) := by decide +kernel
theorem dL_law_622 : decode cL_law 622 = .ok (.invokevirtual 156, 3) := by decide +kernel
theorem dL_law_627 : decode cL_law 627 = .ok (.if_icmp .eq 5, 3) := by decide +kernel
theorem dL_law_631 : decode cL_law 631 = .ok (.ireturn, 1) := by decide +kernel
theorem dL_law_634 : decode cL_law 634 = .ok (.ifCond .ne 15, 3) := by decide +kernel
theorem dL_law_639 : decode cL_law 639 = .ok (.laload, 1) := by decide +kernel
theorem dL_law_644 : decode cL_law 644 = .ok (.ifCond .eq 5, 3) := by decide +kernel
theorem dL_law_648 : decode cL_law 648 = .ok (.ireturn, 1) := by decide +kernel
theorem dL_law_658 : decode cL_law 658 = .ok (.iaload, 1) := by decide +kernel
theorem dL_law_660 : decode cL_law 660 = .ok (.invokestatic 173, 3) := by decide +kernel
theorem dL_law_671 : decode cL_law 671 = .ok (.iaload, 1) := by decide +kernel
theorem dL_law_672 : decode cL_law 672 = .ok (.invokevirtual 176, 3) := by decide +kernel
theorem dL_law_678 : decode cL_law 678 = .ok (.invokevirtual 156, 3) := by decide +kernel
theorem dL_law_683 : decode cL_law 683 = .ok (.if_icmp .eq 5, 3) := by decide +kernel
theorem dL_law_687 : decode cL_law 687 = .ok (.ireturn, 1) := by decide +kernel
theorem dL_law_690 : decode cL_law 690 = .ok (.ifCond .ne 15, 3) := by decide +kernel
theorem dL_law_695 : decode cL_law 695 = .ok (.laload, 1) := by decide +kernel
theorem dL_law_700 : decode cL_law 700 = .ok (.ifCond .eq 5, 3) := by decide +kernel
theorem dL_law_704 : decode cL_law 704 = .ok (.ireturn, 1) := by decide +kernel
theorem dL_law_714 : decode cL_law 714 = .ok (.iaload, 1) := by decide +kernel
theorem dL_law_720 : decode cL_law 720 = .ok (.iaload, 1) := by decide +kernel
theorem dL_law_722 : decode cL_law 722 = .ok (.invokestatic 177, 3) := by decide +kernel
theorem dL_law_733 : decode cL_law 733 = .ok (.iaload, 1) := by decide +kernel
theorem dL_law_739 : decode cL_law 739 = .ok (.iaload, 1) := by decide +kernel
theorem dL_law_740 : decode cL_law 740 = .ok (.invokevirtual 179, 3) := by decide +kernel
theorem dL_law_746 : decode cL_law 746 = .ok (.invokevirtual 156, 3) := by decide +kernel
theorem dL_law_751 : decode cL_law 751 = .ok (.if_icmp .eq 5, 3) := by decide +kernel
theorem dL_law_755 : decode cL_law 755 = .ok (.ireturn, 1) := by decide +kernel
theorem dL_law_758 : decode cL_law 758 = .ok (.ifCond .ne 15, 3) := by decide +kernel
theorem dL_law_763 : decode cL_law 763 = .ok (.laload, 1) := by decide +kernel
theorem dL_law_768 : decode cL_law 768 = .ok (.ifCond .eq 5, 3) := by decide +kernel
theorem dL_law_772 : decode cL_law 772 = .ok (.ireturn, 1) := by decide +kernel
theorem dL_law_777 : decode cL_law 777 = .ok (.invokevirtual 180, 3) := by decide +kernel
theorem dL_law_781 : decode cL_law 781 = .ok (.invokevirtual 183, 3) := by decide +kernel
theorem dL_law_784 : decode cL_law 784 = .ok (.if_icmp .eq 1915, 3) := by decide +kernel
theorem dL_law_788 : decode cL_law 788 = .ok (.ireturn, 1) := by decide +kernel
theorem dL_law_795 : decode cL_law 795 = .ok (.iaload, 1) := by decide +kernel
theorem dL_law_797 : decode cL_law 797 = .ok (.invokestatic 184, 3) := by decide +kernel
theorem dL_law_808 : decode cL_law 808 = .ok (.iaload, 1) := by decide +kernel
theorem dL_law_809 : decode cL_law 809 = .ok (.invokevirtual 186, 3) := by decide +kernel
theorem dL_law_815 : decode cL_law 815 = .ok (.invokevirtual 156, 3) := by decide +kernel
theorem dL_law_820 : decode cL_law 820 = .ok (.if_icmp .eq 5, 3) := by decide +kernel
theorem dL_law_824 : decode cL_law 824 = .ok (.ireturn, 1) := by decide +kernel
theorem dL_law_827 : decode cL_law 827 = .ok (.ifCond .ne 15, 3) := by decide +kernel
theorem dL_law_832 : decode cL_law 832 = .ok (.laload, 1) := by decide +kernel
theorem dL_law_837 : decode cL_law 837 = .ok (.ifCond .eq 5, 3) := by decide +kernel
theorem dL_law_841 : decode cL_law 841 = .ok (.ireturn, 1) := by decide +kernel
theorem dL_law_851 : decode cL_law 851 = .ok (.iaload, 1) := by decide +kernel
theorem dL_law_853 : decode cL_law 853 = .ok (.invokestatic 187, 3) := by decide +kernel
theorem dL_law_864 : decode cL_law 864 = .ok (.iaload, 1) := by decide +kernel
theorem dL_law_865 : decode cL_law 865 = .ok (.invokevirtual 189, 3) := by decide +kernel
theorem dL_law_871 : decode cL_law 871 = .ok (.invokevirtual 156, 3) := by decide +kernel
theorem dL_law_876 : decode cL_law 876 = .ok (.if_icmp .eq 5, 3) := by decide +kernel
theorem dL_law_880 : decode cL_law 880 = .ok (.ireturn, 1) := by decide +kernel
theorem dL_law_883 : decode cL_law 883 = .ok (.ifCond .ne 15, 3) := by decide +kernel
theorem dL_law_888 : decode cL_law 888 = .ok (.laload, 1) := by decide +kernel
theorem dL_law_893 : decode cL_law 893 = .ok (.ifCond .eq 5, 3) := by decide +kernel
theorem dL_law_897 : decode cL_law 897 = .ok (.ireturn, 1) := by decide +kernel
theorem dL_law_907 : decode cL_law 907 = .ok (.iaload, 1) := by decide +kernel
theorem dL_law_909 : decode cL_law 909 = .ok (.invokestatic 190, 3) := by decide +kernel
theorem dL_law_920 : decode cL_law 920 = .ok (.iaload, 1) := by decide +kernel
theorem dL_law_921 : decode cL_law 921 = .ok (.invokevirtual 192, 3) := by decide +kernel
theorem dL_law_927 : decode cL_law 927 = .ok (.invokevirtual 156, 3) := by decide +kernel
theorem dL_law_932 : decode cL_law 932 = .ok (.if_icmp .eq 5, 3) := by decide +kernel
theorem dL_law_936 : decode cL_law 936 = .ok (.ireturn, 1) := by decide +kernel
theorem dL_law_939 : decode cL_law 939 = .ok (.ifCond .ne 15, 3) := by decide +kernel
theorem dL_law_944 : decode cL_law 944 = .ok (.laload, 1) := by decide +kernel
theorem dL_law_949 : decode cL_law 949 = .ok (.ifCond .eq 5, 3) := by decide +kernel
theorem dL_law_953 : decode cL_law 953 = .ok (.ireturn, 1) := by decide +kernel
theorem dL_law_963 : decode cL_law 963 = .ok (.iaload, 1) := by decide +kernel
theorem dL_law_969 : decode cL_law 969 = .ok (.iaload, 1) := by decide +kernel
theorem dL_law_971 : decode cL_law 971 = .ok (.invokestatic 193, 3) := by decide +kernel
theorem dL_law_982 : decode cL_law 982 = .ok (.iaload, 1) := by decide +kernel
theorem dL_law_988 : decode cL_law 988 = .ok (.iaload, 1) := by decide +kernel
theorem dL_law_989 : decode cL_law 989 = .ok (.invokevirtual 195, 3) := by decide +kernel
theorem dL_law_995 : decode cL_law 995 = .ok (.invokevirtual 156, 3) := by decide +kernel
theorem dL_law_1000 : decode cL_law 1000 = .ok (.if_icmp .eq 5, 3) := by decide +kernel
theorem dL_law_1004 : decode cL_law 1004 = .ok (.ireturn, 1) := by decide +kernel
theorem dL_law_1007 : decode cL_law 1007 = .ok (.ifCond .ne 15, 3) := by decide +kernel
theorem dL_law_1012 : decode cL_law 1012 = .ok (.laload, 1) := by decide +kernel
theorem dL_law_1017 : decode cL_law 1017 = .ok (.ifCond .eq 5, 3) := by decide +kernel
theorem dL_law_1021 : decode cL_law 1021 = .ok (.ireturn, 1) := by decide +kernel
theorem dL_law_1031 : decode cL_law 1031 = .ok (.iaload, 1) := by decide +kernel
theorem dL_law_1033 : decode cL_law 1033 = .ok (.invokestatic 196, 3) := by decide +kernel
theorem dL_law_1044 : decode cL_law 1044 = .ok (.iaload, 1) := by decide +kernel
theorem dL_law_1045 : decode cL_law 1045 = .ok (.invokevirtual 198, 3) := by decide +kernel
theorem dL_law_1051 : decode cL_law 1051 = .ok (.invokevirtual 156, 3) := by decide +kernel
theorem dL_law_1056 : decode cL_law 1056 = .ok (.if_icmp .eq 5, 3) := by decide +kernel
theorem dL_law_1060 : decode cL_law 1060 = .ok (.ireturn, 1) := by decide +kernel
theorem dL_law_1063 : decode cL_law 1063 = .ok (.ifCond .ne 22, 3) := by decide +kernel
theorem dL_law_1068 : decode cL_law 1068 = .ok (.laload, 1) := by decide +kernel
theorem dL_law_1071 : decode cL_law 1071 = .ok (.ifCond .eq 7, 3) := by decide +kernel
theorem dL_law_1080 : decode cL_law 1080 = .ok (.ifCond .eq 5, 3) := by decide +kernel
theorem dL_law_1084 : decode cL_law 1084 = .ok (.ireturn, 1) := by decide +kernel
theorem dL_law_1094 : decode cL_law 1094 = .ok (.iaload, 1) := by decide +kernel
theorem dL_law_1096 : decode cL_law 1096 = .ok (.invokestatic 199, 3) := by decide +kernel
theorem dL_law_1107 : decode cL_law 1107 = .ok (.iaload, 1) := by decide +kernel
theorem dL_law_1108 : decode cL_law 1108 = .ok (.invokevirtual 201, 3) := by decide +kernel
theorem dL_law_1114 : decode cL_law 1114 = .ok (.invokevirtual 156, 3) := by decide +kernel
theorem dL_law_1119 : decode cL_law 1119 = .ok (.if_icmp .eq 5, 3) := by decide +kernel
theorem dL_law_1123 : decode cL_law 1123 = .ok (.ireturn, 1) := by decide +kernel
theorem dL_law_1126 : decode cL_law 1126 = .ok (.ifCond .ne 15, 3) := by decide +kernel
theorem dL_law_1131 : decode cL_law 1131 = .ok (.laload, 1) := by decide +kernel
theorem dL_law_1136 : decode cL_law 1136 = .ok (.ifCond .eq 5, 3) := by decide +kernel
theorem dL_law_1140 : decode cL_law 1140 = .ok (.ireturn, 1) := by decide +kernel
theorem dL_law_1150 : decode cL_law 1150 = .ok (.iaload, 1) := by decide +kernel
theorem dL_law_1152 : decode cL_law 1152 = .ok (.invokestatic 202, 3) := by decide +kernel
theorem dL_law_1163 : decode cL_law 1163 = .ok (.iaload, 1) := by decide +kernel
theorem dL_law_1164 : decode cL_law 1164 = .ok (.invokevirtual 204, 3) := by decide +kernel
theorem dL_law_1170 : decode cL_law 1170 = .ok (.invokevirtual 156, 3) := by decide +kernel
theorem dL_law_1175 : decode cL_law 1175 = .ok (.if_icmp .eq 5, 3) := by decide +kernel
theorem dL_law_1179 : decode cL_law 1179 = .ok (.ireturn, 1) := by decide +kernel
theorem dL_law_1182 : decode cL_law 1182 = .ok (.ifCond .ne 15, 3) := by decide +kernel
theorem dL_law_1187 : decode cL_law 1187 = .ok (.laload, 1) := by decide +kernel
theorem dL_law_1192 : decode cL_law 1192 = .ok (.ifCond .eq 5, 3) := by decide +kernel
theorem dL_law_1196 : decode cL_law 1196 = .ok (.ireturn, 1) := by decide +kernel
theorem dL_law_1206 : decode cL_law 1206 = .ok (.iaload, 1) := by decide +kernel
theorem dL_law_1208 : decode cL_law 1208 = .ok (.invokestatic 205, 3) := by decide +kernel
theorem dL_law_1219 : decode cL_law 1219 = .ok (.iaload, 1) := by decide +kernel
theorem dL_law_1220 : decode cL_law 1220 = .ok (.invokevirtual 207, 3) := by decide +kernel
theorem dL_law_1226 : decode cL_law 1226 = .ok (.invokevirtual 156, 3) := by decide +kernel
theorem dL_law_1231 : decode cL_law 1231 = .ok (.if_icmp .eq 5, 3) := by decide +kernel
theorem dL_law_1235 : decode cL_law 1235 = .ok (.ireturn, 1) := by decide +kernel
theorem dL_law_1238 : decode cL_law 1238 = .ok (.ifCond .ne 15, 3) := by decide +kernel
theorem dL_law_1243 : decode cL_law 1243 = .ok (.laload, 1) := by decide +kernel
theorem dL_law_1248 : decode cL_law 1248 = .ok (.ifCond .eq 5, 3) := by decide +kernel
theorem dL_law_1252 : decode cL_law 1252 = .ok (.ireturn, 1) := by decide +kernel
theorem dL_law_1262 : decode cL_law 1262 = .ok (.iaload, 1) := by decide +kernel
theorem dL_law_1264 : decode cL_law 1264 = .ok (.invokestatic 208, 3) := by decide +kernel
theorem dL_law_1275 : decode cL_law 1275 = .ok (.iaload, 1) := by decide +kernel
theorem dL_law_1276 : decode cL_law 1276 = .ok (.invokevirtual 210, 3) := by decide +kernel
theorem dL_law_1282 : decode cL_law 1282 = .ok (.invokevirtual 156, 3) := by decide +kernel
theorem dL_law_1287 : decode cL_law 1287 = .ok (.if_icmp .eq 5, 3) := by decide +kernel
theorem dL_law_1291 : decode cL_law 1291 = .ok (.ireturn, 1) := by decide +kernel
theorem dL_law_1294 : decode cL_law 1294 = .ok (.ifCond .ne 15, 3) := by decide +kernel
theorem dL_law_1299 : decode cL_law 1299 = .ok (.laload, 1) := by decide +kernel
theorem dL_law_1304 : decode cL_law 1304 = .ok (.ifCond .eq 5, 3) := by decide +kernel
theorem dL_law_1308 : decode cL_law 1308 = .ok (.ireturn, 1) := by decide +kernel
theorem dL_law_1318 : decode cL_law 1318 = .ok (.iaload, 1) := by decide +kernel
theorem dL_law_1324 : decode cL_law 1324 = .ok (.iaload, 1) := by decide +kernel
theorem dL_law_1326 : decode cL_law 1326 = .ok (.invokestatic 211, 3) := by decide +kernel
theorem dL_law_1337 : decode cL_law 1337 = .ok (.iaload, 1) := by decide +kernel
theorem dL_law_1343 : decode cL_law 1343 = .ok (.iaload, 1) := by decide +kernel
theorem dL_law_1344 : decode cL_law 1344 = .ok (.invokevirtual 213, 3) := by decide +kernel
theorem dL_law_1350 : decode cL_law 1350 = .ok (.invokevirtual 156, 3) := by decide +kernel
theorem dL_law_1355 : decode cL_law 1355 = .ok (.if_icmp .eq 5, 3) := by decide +kernel
theorem dL_law_1359 : decode cL_law 1359 = .ok (.ireturn, 1) := by decide +kernel
theorem dL_law_1362 : decode cL_law 1362 = .ok (.ifCond .ne 22, 3) := by decide +kernel
theorem dL_law_1367 : decode cL_law 1367 = .ok (.laload, 1) := by decide +kernel
theorem dL_law_1370 : decode cL_law 1370 = .ok (.ifCond .eq 7, 3) := by decide +kernel
theorem dL_law_1379 : decode cL_law 1379 = .ok (.ifCond .eq 5, 3) := by decide +kernel
theorem dL_law_1383 : decode cL_law 1383 = .ok (.ireturn, 1) := by decide +kernel
theorem dL_law_1393 : decode cL_law 1393 = .ok (.iaload, 1) := by decide +kernel
theorem dL_law_1399 : decode cL_law 1399 = .ok (.iaload, 1) := by decide +kernel
theorem dL_law_1401 : decode cL_law 1401 = .ok (.invokestatic 214, 3) := by decide +kernel
theorem dL_law_1412 : decode cL_law 1412 = .ok (.iaload, 1) := by decide +kernel
theorem dL_law_1418 : decode cL_law 1418 = .ok (.iaload, 1) := by decide +kernel
theorem dL_law_1419 : decode cL_law 1419 = .ok (.invokevirtual 216, 3) := by decide +kernel
theorem dL_law_1425 : decode cL_law 1425 = .ok (.invokevirtual 156, 3) := by decide +kernel
theorem dL_law_1430 : decode cL_law 1430 = .ok (.if_icmp .eq 5, 3) := by decide +kernel
theorem dL_law_1434 : decode cL_law 1434 = .ok (.ireturn, 1) := by decide +kernel
theorem dL_law_1437 : decode cL_law 1437 = .ok (.ifCond .ne 15, 3) := by decide +kernel
theorem dL_law_1442 : decode cL_law 1442 = .ok (.laload, 1) := by decide +kernel
theorem dL_law_1447 : decode cL_law 1447 = .ok (.ifCond .eq 5, 3) := by decide +kernel
theorem dL_law_1451 : decode cL_law 1451 = .ok (.ireturn, 1) := by decide +kernel
theorem dL_law_1461 : decode cL_law 1461 = .ok (.iaload, 1) := by decide +kernel
theorem dL_law_1467 : decode cL_law 1467 = .ok (.iaload, 1) := by decide +kernel
theorem dL_law_1469 : decode cL_law 1469 = .ok (.invokestatic 217, 3) := by decide +kernel
theorem dL_law_1480 : decode cL_law 1480 = .ok (.iaload, 1) := by decide +kernel
theorem dL_law_1486 : decode cL_law 1486 = .ok (.iaload, 1) := by decide +kernel
theorem dL_law_1487 : decode cL_law 1487 = .ok (.invokevirtual 219, 3) := by decide +kernel
theorem dL_law_1493 : decode cL_law 1493 = .ok (.invokevirtual 156, 3) := by decide +kernel
theorem dL_law_1498 : decode cL_law 1498 = .ok (.if_icmp .eq 5, 3) := by decide +kernel
theorem dL_law_1502 : decode cL_law 1502 = .ok (.ireturn, 1) := by decide +kernel
theorem dL_law_1505 : decode cL_law 1505 = .ok (.ifCond .ne 15, 3) := by decide +kernel
theorem dL_law_1510 : decode cL_law 1510 = .ok (.laload, 1) := by decide +kernel
theorem dL_law_1515 : decode cL_law 1515 = .ok (.ifCond .eq 5, 3) := by decide +kernel
theorem dL_law_1519 : decode cL_law 1519 = .ok (.ireturn, 1) := by decide +kernel
theorem dL_law_1529 : decode cL_law 1529 = .ok (.iaload, 1) := by decide +kernel
theorem dL_law_1535 : decode cL_law 1535 = .ok (.iaload, 1) := by decide +kernel
theorem dL_law_1541 : decode cL_law 1541 = .ok (.iaload, 1) := by decide +kernel
theorem dL_law_1543 : decode cL_law 1543 = .ok (.invokestatic 220, 3) := by decide +kernel
theorem dL_law_1554 : decode cL_law 1554 = .ok (.iaload, 1) := by decide +kernel
theorem dL_law_1560 : decode cL_law 1560 = .ok (.iaload, 1) := by decide +kernel
theorem dL_law_1566 : decode cL_law 1566 = .ok (.iaload, 1) := by decide +kernel
theorem dL_law_1567 : decode cL_law 1567 = .ok (.invokevirtual 222, 3) := by decide +kernel
theorem dL_law_1573 : decode cL_law 1573 = .ok (.invokevirtual 156, 3) := by decide +kernel
theorem dL_law_1578 : decode cL_law 1578 = .ok (.if_icmp .eq 5, 3) := by decide +kernel
theorem dL_law_1582 : decode cL_law 1582 = .ok (.ireturn, 1) := by decide +kernel
theorem dL_law_1585 : decode cL_law 1585 = .ok (.ifCond .ne 15, 3) := by decide +kernel
theorem dL_law_1590 : decode cL_law 1590 = .ok (.laload, 1) := by decide +kernel
theorem dL_law_1595 : decode cL_law 1595 = .ok (.ifCond .eq 5, 3) := by decide +kernel
theorem dL_law_1599 : decode cL_law 1599 = .ok (.ireturn, 1) := by decide +kernel
theorem dL_law_1609 : decode cL_law 1609 = .ok (.iaload, 1) := by decide +kernel
theorem dL_law_1615 : decode cL_law 1615 = .ok (.iaload, 1) := by decide +kernel
theorem dL_law_1621 : decode cL_law 1621 = .ok (.iaload, 1) := by decide +kernel
theorem dL_law_1623 : decode cL_law 1623 = .ok (.invokestatic 223, 3) := by decide +kernel
theorem dL_law_1634 : decode cL_law 1634 = .ok (.iaload, 1) := by decide +kernel
theorem dL_law_1640 : decode cL_law 1640 = .ok (.iaload, 1) := by decide +kernel
theorem dL_law_1646 : decode cL_law 1646 = .ok (.iaload, 1) := by decide +kernel
theorem dL_law_1647 : decode cL_law 1647 = .ok (.invokevirtual 225, 3) := by decide +kernel
theorem dL_law_1653 : decode cL_law 1653 = .ok (.invokevirtual 156, 3) := by decide +kernel
theorem dL_law_1658 : decode cL_law 1658 = .ok (.if_icmp .eq 5, 3) := by decide +kernel
theorem dL_law_1662 : decode cL_law 1662 = .ok (.ireturn, 1) := by decide +kernel
theorem dL_law_1665 : decode cL_law 1665 = .ok (.ifCond .ne 15, 3) := by decide +kernel
theorem dL_law_1670 : decode cL_law 1670 = .ok (.laload, 1) := by decide +kernel
theorem dL_law_1675 : decode cL_law 1675 = .ok (.ifCond .eq 5, 3) := by decide +kernel
theorem dL_law_1679 : decode cL_law 1679 = .ok (.ireturn, 1) := by decide +kernel
theorem dL_law_1689 : decode cL_law 1689 = .ok (.iaload, 1) := by decide +kernel
theorem dL_law_1691 : decode cL_law 1691 = .ok (.invokestatic 226, 3) := by decide +kernel
theorem dL_law_1702 : decode cL_law 1702 = .ok (.iaload, 1) := by decide +kernel
theorem dL_law_1703 : decode cL_law 1703 = .ok (.invokevirtual 228, 3) := by decide +kernel
theorem dL_law_1709 : decode cL_law 1709 = .ok (.invokevirtual 156, 3) := by decide +kernel
theorem dL_law_1714 : decode cL_law 1714 = .ok (.if_icmp .eq 5, 3) := by decide +kernel
theorem dL_law_1718 : decode cL_law 1718 = .ok (.ireturn, 1) := by decide +kernel
theorem dL_law_1721 : decode cL_law 1721 = .ok (.ifCond .ne 15, 3) := by decide +kernel
theorem dL_law_1726 : decode cL_law 1726 = .ok (.laload, 1) := by decide +kernel
theorem dL_law_1731 : decode cL_law 1731 = .ok (.ifCond .eq 5, 3) := by decide +kernel
theorem dL_law_1735 : decode cL_law 1735 = .ok (.ireturn, 1) := by decide +kernel
theorem dL_law_1740 : decode cL_law 1740 = .ok (.invokevirtual 229, 3) := by decide +kernel
theorem dL_law_1744 : decode cL_law 1744 = .ok (.invokevirtual 232, 3) := by decide +kernel
theorem dL_law_1747 : decode cL_law 1747 = .ok (.if_icmp .eq 952, 3) := by decide +kernel
theorem dL_law_1751 : decode cL_law 1751 = .ok (.ireturn, 1) := by decide +kernel
theorem dL_law_1758 : decode cL_law 1758 = .ok (.iaload, 1) := by decide +kernel
theorem dL_law_1759 : decode cL_law 1759 = .ok (.invokevirtual 233, 3) := by decide +kernel
theorem dL_law_1768 : decode cL_law 1768 = .ok (.iaload, 1) := by decide +kernel
theorem dL_law_1769 : decode cL_law 1769 = .ok (.invokevirtual 236, 3) := by decide +kernel
theorem dL_law_1772 : decode cL_law 1772 = .ok (.if_icmp .eq 927, 3) := by decide +kernel
theorem dL_law_1776 : decode cL_law 1776 = .ok (.ireturn, 1) := by decide +kernel
theorem dL_law_1783 : decode cL_law 1783 = .ok (.iaload, 1) := by decide +kernel
theorem dL_law_1785 : decode cL_law 1785 = .ok (.invokestatic 237, 3) := by decide +kernel
theorem dL_law_1796 : decode cL_law 1796 = .ok (.iaload, 1) := by decide +kernel
theorem dL_law_1797 : decode cL_law 1797 = .ok (.invokevirtual 239, 3) := by decide +kernel
theorem dL_law_1803 : decode cL_law 1803 = .ok (.invokevirtual 156, 3) := by decide +kernel
theorem dL_law_1808 : decode cL_law 1808 = .ok (.if_icmp .eq 5, 3) := by decide +kernel
theorem dL_law_1812 : decode cL_law 1812 = .ok (.ireturn, 1) := by decide +kernel
theorem dL_law_1815 : decode cL_law 1815 = .ok (.ifCond .ne 15, 3) := by decide +kernel
theorem dL_law_1820 : decode cL_law 1820 = .ok (.laload, 1) := by decide +kernel
theorem dL_law_1825 : decode cL_law 1825 = .ok (.ifCond .eq 5, 3) := by decide +kernel
theorem dL_law_1829 : decode cL_law 1829 = .ok (.ireturn, 1) := by decide +kernel
theorem dL_law_1839 : decode cL_law 1839 = .ok (.iaload, 1) := by decide +kernel
theorem dL_law_1841 : decode cL_law 1841 = .ok (.invokestatic 240, 3) := by decide +kernel
theorem dL_law_1852 : decode cL_law 1852 = .ok (.iaload, 1) := by decide +kernel
theorem dL_law_1853 : decode cL_law 1853 = .ok (.invokevirtual 242, 3) := by decide +kernel
theorem dL_law_1859 : decode cL_law 1859 = .ok (.invokevirtual 156, 3) := by decide +kernel
theorem dL_law_1864 : decode cL_law 1864 = .ok (.if_icmp .eq 5, 3) := by decide +kernel
theorem dL_law_1868 : decode cL_law 1868 = .ok (.ireturn, 1) := by decide +kernel
theorem dL_law_1871 : decode cL_law 1871 = .ok (.ifCond .ne 15, 3) := by decide +kernel
theorem dL_law_1876 : decode cL_law 1876 = .ok (.laload, 1) := by decide +kernel
theorem dL_law_1881 : decode cL_law 1881 = .ok (.ifCond .eq 5, 3) := by decide +kernel
theorem dL_law_1885 : decode cL_law 1885 = .ok (.ireturn, 1) := by decide +kernel
theorem dL_law_1895 : decode cL_law 1895 = .ok (.iaload, 1) := by decide +kernel
theorem dL_law_1897 : decode cL_law 1897 = .ok (.invokestatic 243, 3) := by decide +kernel
theorem dL_law_1908 : decode cL_law 1908 = .ok (.iaload, 1) := by decide +kernel
theorem dL_law_1909 : decode cL_law 1909 = .ok (.invokevirtual 245, 3) := by decide +kernel
theorem dL_law_1915 : decode cL_law 1915 = .ok (.invokevirtual 156, 3) := by decide +kernel
theorem dL_law_1920 : decode cL_law 1920 = .ok (.if_icmp .eq 5, 3) := by decide +kernel
theorem dL_law_1924 : decode cL_law 1924 = .ok (.ireturn, 1) := by decide +kernel
theorem dL_law_1927 : decode cL_law 1927 = .ok (.ifCond .ne 15, 3) := by decide +kernel
theorem dL_law_1932 : decode cL_law 1932 = .ok (.laload, 1) := by decide +kernel
theorem dL_law_1937 : decode cL_law 1937 = .ok (.ifCond .eq 5, 3) := by decide +kernel
theorem dL_law_1941 : decode cL_law 1941 = .ok (.ireturn, 1) := by decide +kernel
theorem dL_law_1951 : decode cL_law 1951 = .ok (.iaload, 1) := by decide +kernel
theorem dL_law_1953 : decode cL_law 1953 = .ok (.invokestatic 246, 3) := by decide +kernel
theorem dL_law_1964 : decode cL_law 1964 = .ok (.iaload, 1) := by decide +kernel
theorem dL_law_1965 : decode cL_law 1965 = .ok (.invokevirtual 248, 3) := by decide +kernel
theorem dL_law_1971 : decode cL_law 1971 = .ok (.invokevirtual 156, 3) := by decide +kernel
theorem dL_law_1976 : decode cL_law 1976 = .ok (.if_icmp .eq 5, 3) := by decide +kernel
theorem dL_law_1980 : decode cL_law 1980 = .ok (.ireturn, 1) := by decide +kernel
theorem dL_law_1983 : decode cL_law 1983 = .ok (.ifCond .ne 22, 3) := by decide +kernel
theorem dL_law_1988 : decode cL_law 1988 = .ok (.laload, 1) := by decide +kernel
theorem dL_law_1991 : decode cL_law 1991 = .ok (.ifCond .eq 7, 3) := by decide +kernel
theorem dL_law_2000 : decode cL_law 2000 = .ok (.ifCond .eq 5, 3) := by decide +kernel
theorem dL_law_2004 : decode cL_law 2004 = .ok (.ireturn, 1) := by decide +kernel
theorem dL_law_2014 : decode cL_law 2014 = .ok (.iaload, 1) := by decide +kernel
theorem dL_law_2016 : decode cL_law 2016 = .ok (.invokestatic 249, 3) := by decide +kernel
theorem dL_law_2027 : decode cL_law 2027 = .ok (.iaload, 1) := by decide +kernel
theorem dL_law_2028 : decode cL_law 2028 = .ok (.invokevirtual 251, 3) := by decide +kernel
theorem dL_law_2034 : decode cL_law 2034 = .ok (.invokevirtual 156, 3) := by decide +kernel
theorem dL_law_2039 : decode cL_law 2039 = .ok (.if_icmp .eq 5, 3) := by decide +kernel
theorem dL_law_2043 : decode cL_law 2043 = .ok (.ireturn, 1) := by decide +kernel
theorem dL_law_2046 : decode cL_law 2046 = .ok (.ifCond .ne 15, 3) := by decide +kernel
theorem dL_law_2051 : decode cL_law 2051 = .ok (.laload, 1) := by decide +kernel
theorem dL_law_2056 : decode cL_law 2056 = .ok (.ifCond .eq 5, 3) := by decide +kernel
theorem dL_law_2060 : decode cL_law 2060 = .ok (.ireturn, 1) := by decide +kernel
theorem dL_law_2070 : decode cL_law 2070 = .ok (.iaload, 1) := by decide +kernel
theorem dL_law_2072 : decode cL_law 2072 = .ok (.invokestatic 252, 3) := by decide +kernel
theorem dL_law_2083 : decode cL_law 2083 = .ok (.iaload, 1) := by decide +kernel
theorem dL_law_2084 : decode cL_law 2084 = .ok (.invokevirtual 254, 3) := by decide +kernel
theorem dL_law_2090 : decode cL_law 2090 = .ok (.invokevirtual 156, 3) := by decide +kernel
theorem dL_law_2095 : decode cL_law 2095 = .ok (.if_icmp .eq 5, 3) := by decide +kernel
theorem dL_law_2099 : decode cL_law 2099 = .ok (.ireturn, 1) := by decide +kernel
theorem dL_law_2102 : decode cL_law 2102 = .ok (.ifCond .ne 15, 3) := by decide +kernel
theorem dL_law_2107 : decode cL_law 2107 = .ok (.laload, 1) := by decide +kernel
theorem dL_law_2112 : decode cL_law 2112 = .ok (.ifCond .eq 5, 3) := by decide +kernel
theorem dL_law_2116 : decode cL_law 2116 = .ok (.ireturn, 1) := by decide +kernel
theorem dL_law_2121 : decode cL_law 2121 = .ok (.invokevirtual 255, 3) := by decide +kernel
theorem dL_law_2125 : decode cL_law 2125 = .ok (.invokevirtual 259, 3) := by decide +kernel
theorem dL_law_2129 : decode cL_law 2129 = .ok (.ifCond .eq 570, 3) := by decide +kernel
theorem dL_law_2133 : decode cL_law 2133 = .ok (.ireturn, 1) := by decide +kernel
theorem dL_law_2135 : decode cL_law 2135 = .ok (.invokevirtual 260, 3) := by decide +kernel
theorem dL_law_2139 : decode cL_law 2139 = .ok (.invokevirtual 263, 3) := by decide +kernel
theorem dL_law_2142 : decode cL_law 2142 = .ok (.if_icmp .eq 557, 3) := by decide +kernel
theorem dL_law_2146 : decode cL_law 2146 = .ok (.ireturn, 1) := by decide +kernel
theorem dL_law_2148 : decode cL_law 2148 = .ok (.invokevirtual 264, 3) := by decide +kernel
theorem dL_law_2152 : decode cL_law 2152 = .ok (.invokevirtual 267, 3) := by decide +kernel
theorem dL_law_2155 : decode cL_law 2155 = .ok (.if_icmp .eq 544, 3) := by decide +kernel
theorem dL_law_2159 : decode cL_law 2159 = .ok (.ireturn, 1) := by decide +kernel
theorem dL_law_2161 : decode cL_law 2161 = .ok (.invokevirtual 268, 3) := by decide +kernel
theorem dL_law_2165 : decode cL_law 2165 = .ok (.invokevirtual 271, 3) := by decide +kernel
theorem dL_law_2169 : decode cL_law 2169 = .ok (.ifCond .eq 530, 3) := by decide +kernel
theorem dL_law_2173 : decode cL_law 2173 = .ok (.ireturn, 1) := by decide +kernel
theorem dL_law_2177 : decode cL_law 2177 = .ok (.invokestatic 272, 3) := by decide +kernel
theorem dL_law_2183 : decode cL_law 2183 = .ok (.invokevirtual 275, 3) := by decide +kernel
theorem dL_law_2189 : decode cL_law 2189 = .ok (.invokevirtual 156, 3) := by decide +kernel
theorem dL_law_2194 : decode cL_law 2194 = .ok (.if_icmp .eq 5, 3) := by decide +kernel
theorem dL_law_2198 : decode cL_law 2198 = .ok (.ireturn, 1) := by decide +kernel
theorem dL_law_2201 : decode cL_law 2201 = .ok (.ifCond .ne 35, 3) := by decide +kernel
theorem dL_law_2207 : decode cL_law 2207 = .ok (.daload, 1) := by decide +kernel
theorem dL_law_2211 : decode cL_law 2211 = .ok (.ifCond .eq 25, 3) := by decide +kernel
theorem dL_law_2217 : decode cL_law 2217 = .ok (.daload, 1) := by decide +kernel
theorem dL_law_2221 : decode cL_law 2221 = .ok (.daload, 1) := by decide +kernel
theorem dL_law_2223 : decode cL_law 2223 = .ok (.ifCond .eq 11, 3) := by decide +kernel
theorem dL_law_2231 : decode cL_law 2231 = .ok (.ifCond .ne 5, 3) := by decide +kernel
theorem dL_law_2235 : decode cL_law 2235 = .ok (.ireturn, 1) := by decide +kernel
theorem dL_law_2242 : decode cL_law 2242 = .ok (.invokestatic 276, 3) := by decide +kernel
theorem dL_law_2248 : decode cL_law 2248 = .ok (.invokevirtual 278, 3) := by decide +kernel
theorem dL_law_2254 : decode cL_law 2254 = .ok (.invokevirtual 156, 3) := by decide +kernel
theorem dL_law_2259 : decode cL_law 2259 = .ok (.if_icmp .eq 5, 3) := by decide +kernel
theorem dL_law_2263 : decode cL_law 2263 = .ok (.ireturn, 1) := by decide +kernel
theorem dL_law_2266 : decode cL_law 2266 = .ok (.ifCond .ne 36, 3) := by decide +kernel
theorem dL_law_2272 : decode cL_law 2272 = .ok (.daload, 1) := by decide +kernel
theorem dL_law_2275 : decode cL_law 2275 = .ok (.f2d, 1) := by decide +kernel
theorem dL_law_2277 : decode cL_law 2277 = .ok (.ifCond .eq 25, 3) := by decide +kernel
theorem dL_law_2283 : decode cL_law 2283 = .ok (.daload, 1) := by decide +kernel
theorem dL_law_2287 : decode cL_law 2287 = .ok (.daload, 1) := by decide +kernel
theorem dL_law_2289 : decode cL_law 2289 = .ok (.ifCond .eq 11, 3) := by decide +kernel
theorem dL_law_2297 : decode cL_law 2297 = .ok (.ifCond .ne 5, 3) := by decide +kernel
theorem dL_law_2301 : decode cL_law 2301 = .ok (.ireturn, 1) := by decide +kernel
theorem dL_law_2306 : decode cL_law 2306 = .ok (.invokevirtual 279, 3) := by decide +kernel
theorem dL_law_2310 : decode cL_law 2310 = .ok (.invokevirtual 283, 3) := by decide +kernel
theorem dL_law_2313 : decode cL_law 2313 = .ok (.if_icmp .eq 386, 3) := by decide +kernel
theorem dL_law_2317 : decode cL_law 2317 = .ok (.ireturn, 1) := by decide +kernel
theorem dL_law_2324 : decode cL_law 2324 = .ok (.iaload, 1) := by decide +kernel
theorem dL_law_2327 : decode cL_law 2327 = .ok (.invokestatic 284, 3) := by decide +kernel
theorem dL_law_2338 : decode cL_law 2338 = .ok (.iaload, 1) := by decide +kernel
theorem dL_law_2340 : decode cL_law 2340 = .ok (.invokevirtual 287, 3) := by decide +kernel
theorem dL_law_2346 : decode cL_law 2346 = .ok (.invokevirtual 156, 3) := by decide +kernel
theorem dL_law_2351 : decode cL_law 2351 = .ok (.if_icmp .eq 5, 3) := by decide +kernel
theorem dL_law_2355 : decode cL_law 2355 = .ok (.ireturn, 1) := by decide +kernel
theorem dL_law_2358 : decode cL_law 2358 = .ok (.ifCond .ne 15, 3) := by decide +kernel
theorem dL_law_2363 : decode cL_law 2363 = .ok (.laload, 1) := by decide +kernel
theorem dL_law_2368 : decode cL_law 2368 = .ok (.ifCond .eq 5, 3) := by decide +kernel
theorem dL_law_2372 : decode cL_law 2372 = .ok (.ireturn, 1) := by decide +kernel
theorem dL_law_2378 : decode cL_law 2378 = .ok (.invokestatic 288, 3) := by decide +kernel
theorem dL_law_2384 : decode cL_law 2384 = .ok (.invokevirtual 291, 3) := by decide +kernel
theorem dL_law_2390 : decode cL_law 2390 = .ok (.invokevirtual 156, 3) := by decide +kernel
theorem dL_law_2395 : decode cL_law 2395 = .ok (.if_icmp .eq 5, 3) := by decide +kernel
theorem dL_law_2399 : decode cL_law 2399 = .ok (.ireturn, 1) := by decide +kernel
theorem dL_law_2402 : decode cL_law 2402 = .ok (.ifCond .ne 15, 3) := by decide +kernel
theorem dL_law_2407 : decode cL_law 2407 = .ok (.laload, 1) := by decide +kernel
theorem dL_law_2412 : decode cL_law 2412 = .ok (.ifCond .eq 5, 3) := by decide +kernel
theorem dL_law_2416 : decode cL_law 2416 = .ok (.ireturn, 1) := by decide +kernel
theorem dL_law_2422 : decode cL_law 2422 = .ok (.invokestatic 292, 3) := by decide +kernel
theorem dL_law_2428 : decode cL_law 2428 = .ok (.invokevirtual 294, 3) := by decide +kernel
theorem dL_law_2434 : decode cL_law 2434 = .ok (.invokevirtual 156, 3) := by decide +kernel
theorem dL_law_2439 : decode cL_law 2439 = .ok (.if_icmp .eq 5, 3) := by decide +kernel
theorem dL_law_2443 : decode cL_law 2443 = .ok (.ireturn, 1) := by decide +kernel
theorem dL_law_2446 : decode cL_law 2446 = .ok (.ifCond .ne 15, 3) := by decide +kernel
theorem dL_law_2451 : decode cL_law 2451 = .ok (.laload, 1) := by decide +kernel
theorem dL_law_2456 : decode cL_law 2456 = .ok (.ifCond .eq 5, 3) := by decide +kernel
theorem dL_law_2460 : decode cL_law 2460 = .ok (.ireturn, 1) := by decide +kernel
theorem dL_law_2466 : decode cL_law 2466 = .ok (.invokestatic 295, 3) := by decide +kernel
theorem dL_law_2472 : decode cL_law 2472 = .ok (.invokevirtual 297, 3) := by decide +kernel
theorem dL_law_2478 : decode cL_law 2478 = .ok (.invokevirtual 156, 3) := by decide +kernel
theorem dL_law_2483 : decode cL_law 2483 = .ok (.if_icmp .eq 5, 3) := by decide +kernel
theorem dL_law_2487 : decode cL_law 2487 = .ok (.ireturn, 1) := by decide +kernel
theorem dL_law_2490 : decode cL_law 2490 = .ok (.ifCond .ne 15, 3) := by decide +kernel
theorem dL_law_2495 : decode cL_law 2495 = .ok (.laload, 1) := by decide +kernel
theorem dL_law_2500 : decode cL_law 2500 = .ok (.ifCond .eq 5, 3) := by decide +kernel
theorem dL_law_2504 : decode cL_law 2504 = .ok (.ireturn, 1) := by decide +kernel
theorem dL_law_2514 : decode cL_law 2514 = .ok (.iaload, 1) := by decide +kernel
theorem dL_law_2516 : decode cL_law 2516 = .ok (.invokestatic 298, 3) := by decide +kernel
theorem dL_law_2527 : decode cL_law 2527 = .ok (.iaload, 1) := by decide +kernel
theorem dL_law_2528 : decode cL_law 2528 = .ok (.invokevirtual 300, 3) := by decide +kernel
theorem dL_law_2534 : decode cL_law 2534 = .ok (.invokevirtual 156, 3) := by decide +kernel
theorem dL_law_2539 : decode cL_law 2539 = .ok (.if_icmp .eq 5, 3) := by decide +kernel
theorem dL_law_2543 : decode cL_law 2543 = .ok (.ireturn, 1) := by decide +kernel
theorem dL_law_2546 : decode cL_law 2546 = .ok (.ifCond .ne 15, 3) := by decide +kernel
theorem dL_law_2551 : decode cL_law 2551 = .ok (.laload, 1) := by decide +kernel
theorem dL_law_2556 : decode cL_law 2556 = .ok (.ifCond .eq 5, 3) := by decide +kernel
theorem dL_law_2560 : decode cL_law 2560 = .ok (.ireturn, 1) := by decide +kernel
theorem dL_law_2570 : decode cL_law 2570 = .ok (.iaload, 1) := by decide +kernel
theorem dL_law_2572 : decode cL_law 2572 = .ok (.invokestatic 301, 3) := by decide +kernel
theorem dL_law_2583 : decode cL_law 2583 = .ok (.iaload, 1) := by decide +kernel
theorem dL_law_2584 : decode cL_law 2584 = .ok (.invokevirtual 303, 3) := by decide +kernel
theorem dL_law_2590 : decode cL_law 2590 = .ok (.invokevirtual 156, 3) := by decide +kernel
theorem dL_law_2595 : decode cL_law 2595 = .ok (.if_icmp .eq 5, 3) := by decide +kernel
theorem dL_law_2599 : decode cL_law 2599 = .ok (.ireturn, 1) := by decide +kernel
theorem dL_law_2602 : decode cL_law 2602 = .ok (.ifCond .ne 15, 3) := by decide +kernel
theorem dL_law_2607 : decode cL_law 2607 = .ok (.laload, 1) := by decide +kernel
theorem dL_law_2612 : decode cL_law 2612 = .ok (.ifCond .eq 5, 3) := by decide +kernel
theorem dL_law_2616 : decode cL_law 2616 = .ok (.ireturn, 1) := by decide +kernel
theorem dL_law_2622 : decode cL_law 2622 = .ok (.invokestatic 304, 3) := by decide +kernel
theorem dL_law_2628 : decode cL_law 2628 = .ok (.invokevirtual 306, 3) := by decide +kernel
theorem dL_law_2634 : decode cL_law 2634 = .ok (.invokevirtual 156, 3) := by decide +kernel
theorem dL_law_2639 : decode cL_law 2639 = .ok (.if_icmp .eq 5, 3) := by decide +kernel
theorem dL_law_2643 : decode cL_law 2643 = .ok (.ireturn, 1) := by decide +kernel
theorem dL_law_2646 : decode cL_law 2646 = .ok (.ifCond .ne 15, 3) := by decide +kernel
theorem dL_law_2651 : decode cL_law 2651 = .ok (.laload, 1) := by decide +kernel
theorem dL_law_2656 : decode cL_law 2656 = .ok (.ifCond .eq 5, 3) := by decide +kernel
theorem dL_law_2660 : decode cL_law 2660 = .ok (.ireturn, 1) := by decide +kernel
theorem dL_law_2665 : decode cL_law 2665 = .ok (.invokevirtual 307, 3) := by decide +kernel
theorem dL_law_2669 : decode cL_law 2669 = .ok (.invokevirtual 310, 3) := by decide +kernel
theorem dL_law_2676 : decode cL_law 2676 = .ok (.invokestatic 311, 3) := by decide +kernel
theorem dL_law_2682 : decode cL_law 2682 = .ok (.invokevirtual 314, 3) := by decide +kernel
theorem dL_law_2686 : decode cL_law 2686 = .ok (.invokevirtual 156, 3) := by decide +kernel
theorem dL_law_2691 : decode cL_law 2691 = .ok (.if_icmp .eq 5, 3) := by decide +kernel
theorem dL_law_2695 : decode cL_law 2695 = .ok (.ireturn, 1) := by decide +kernel
theorem dL_law_2706 : decode cL_law 2706 = .ok (.ireturn, 1) := by decide +kernel
