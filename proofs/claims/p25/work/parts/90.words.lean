/-! TABLES OF WORDS, and the check of the blocks against the bytes; laid by wip/whole/gen2.py -/
def mYL : List MethodName := [yX0_init, yX0_parse, yX0_lengthOfWord, yX0_wordOf, yX0_parseNumber, yX0_parseLetters, yX0_parseBlank, yX0_isBetween, yX1_init, yX1_remember, yX1_turn, yX1_takeBack, yX2_init, yX2_copyFrom, yX2_add, yX2_dropOldest, yX2_tell, yX3_init, yX3_readAll, yX3_measureBetweenEnds, yX3_numberOf, yX3_judge, yX3_errorCount, yX3_readTheSame, yX4_init, yX4_copyFrom, yX4_spoolsWithWire, yX4_lettersOnAll, yX4_lowestEmpty, yX4_wind, yX4_breakWire, yX5_init, yX5_add, yX5_codeAt, yX5_startsWith, yX6_init, yX6_copyFrom, yX6_gaps, yX6_hasGap, yX6_hasLetter, yX6_canBeReadBy, yX6_empty, yX6_begin, yX6_write, yX6_putEnd, yX6_putGap, yX6_copyGap, yX6_takeTail, yX6_join, yX6_appendBehind, yX6_punchAll, yX6_stretch, yX6_breakAt, yX6_sumOfLengths, yX6_sumOfNominals, yX6_sum, yX6_nearestToLimit, yX6_strain, yX7_init, yX7_setRule, yX7_setLimit, yX7_rewind, yX7_cut, yX7_splice, yX7_close, yX7_punch, yX7_type, yX7_clearText, yX7_perform, yX7_writeWire, yX7_undo, yX7_restore, yX7_spool, yX7_gap, yX7_read, yX7_errors, yX7_bestWay, yX7_errorsAfter, yX7_safeRewinds, yX7_event, yX7_count, yX7_isSpool, yX7_isPull, yX7_isWay, yX7_isWayOfOneEnd, yX7_nominalOf, yX7_stretchOf, yJ0_length_8abf5, yJ0_charAt_5068e, yJ0_coder_7d493, yJ0_isLatin1_aae02, yJ0_checkIndex_df160, yJ1_charAt_3b067, yJ3_checkIndex_8e157, yL_cell, yL_low, yL_digest, yL_types, yL_word, yL_number, yL_writes, yL_told, yL_rewinds, yL_cuts, yL_splices, yL_ends, yL_sets, yL_law]
def mCL : List ByteArray := [cX0_init, cX0_parse, cX0_lengthOfWord, cX0_wordOf, cX0_parseNumber, cX0_parseLetters, cX0_parseBlank, cX0_isBetween, cX1_init, cX1_remember, cX1_turn, cX1_takeBack, cX2_init, cX2_copyFrom, cX2_add, cX2_dropOldest, cX2_tell, cX3_init, cX3_readAll, cX3_measureBetweenEnds, cX3_numberOf, cX3_judge, cX3_errorCount, cX3_readTheSame, cX4_init, cX4_copyFrom, cX4_spoolsWithWire, cX4_lettersOnAll, cX4_lowestEmpty, cX4_wind, cX4_breakWire, cX5_init, cX5_add, cX5_codeAt, cX5_startsWith, cX6_init, cX6_copyFrom, cX6_gaps, cX6_hasGap, cX6_hasLetter, cX6_canBeReadBy, cX6_empty, cX6_begin, cX6_write, cX6_putEnd, cX6_putGap, cX6_copyGap, cX6_takeTail, cX6_join, cX6_appendBehind, cX6_punchAll, cX6_stretch, cX6_breakAt, cX6_sumOfLengths, cX6_sumOfNominals, cX6_sum, cX6_nearestToLimit, cX6_strain, cX7_init, cX7_setRule, cX7_setLimit, cX7_rewind, cX7_cut, cX7_splice, cX7_close, cX7_punch, cX7_type, cX7_clearText, cX7_perform, cX7_writeWire, cX7_undo, cX7_restore, cX7_spool, cX7_gap, cX7_read, cX7_errors, cX7_bestWay, cX7_errorsAfter, cX7_safeRewinds, cX7_event, cX7_count, cX7_isSpool, cX7_isPull, cX7_isWay, cX7_isWayOfOneEnd, cX7_nominalOf, cX7_stretchOf, cJ0_length_8abf5, cJ0_charAt_5068e, cJ0_coder_7d493, cJ0_isLatin1_aae02, cJ0_checkIndex_df160, cJ1_charAt_3b067, cJ3_checkIndex_8e157, cL_cell, cL_low, cL_digest, cL_types, cL_word, cL_number, cL_writes, cL_told, cL_rewinds, cL_cuts, cL_splices, cL_ends, cL_sets, cL_law]
def mTL : List (Option FieldType) := [none, none, (some .int), (some .int), (some .int), none, none, (some .boolean), none, none, none, (some .boolean), none, none, none, none, (some .int), none, none, (some .int), (some .int), none, (some .int), (some .boolean), none, none, (some .int), (some .int), (some .int), (some .int), none, none, (some .boolean), (some .int), (some .boolean), none, none, (some .int), (some .boolean), (some .boolean), (some .boolean), none, none, none, none, none, none, none, none, none, none, (some .int), none, (some .int), (some .int), (some .int), (some .int), (some .int), none, (some .int), (some .int), (some .int), (some .int), (some .int), (some .int), (some .int), (some .int), (some .int), (some .int), (some .int), (some .int), (some .int), (some .int), (some .int), (some .int), (some .int), (some .int), (some .int), (some .int), (some .int), (some .int), (some .boolean), (some .boolean), (some .boolean), (some .boolean), (some .int), (some .int), (some .int), (some .char), (some .byte), (some .boolean), none, (some .char), (some .int), (some .int), (some .int), (some .long), none, none, none, (some .boolean), (some .boolean), (some .boolean), (some .boolean), (some .boolean), (some .boolean), (some .boolean), (some .boolean)]
def mKL : List Nat := [2, 0, 1, 1, 0, 0, 0, 1, 2, 0, 0, 0, 2, 0, 0, 0, 0, 2, 0, 1, 1, 0, 0, 0, 2, 0, 0, 0, 0, 0, 0, 2, 0, 0, 0, 2, 0, 0, 0, 0, 0, 0, 0, 0, 0, 0, 0, 0, 0, 0, 0, 0, 0, 0, 0, 0, 0, 0, 2, 0, 0, 0, 0, 0, 0, 0, 0, 0, 0, 0, 0, 0, 0, 0, 0, 0, 0, 0, 0, 0, 0, 1, 1, 1, 1, 1, 1, 0, 0, 0, 0, 1, 1, 1, 1, 1, 1, 1, 1, 1, 1, 1, 1, 1, 1, 1, 1, 1]
def mRkL : List Nat := [1, 7, 2, 6, 3, 3, 2, 1, 3, 3, 1, 3, 1, 1, 2, 1, 1, 1, 4, 3, 1, 1, 1, 1, 2, 2, 1, 1, 1, 4, 3, 1, 1, 1, 5, 1, 1, 1, 2, 1, 1, 1, 2, 2, 2, 1, 1, 3, 3, 2, 3, 2, 2, 3, 3, 2, 4, 3, 4, 4, 4, 5, 4, 4, 4, 5, 2, 1, 8, 4, 4, 4, 5, 3, 5, 5, 5, 5, 5, 2, 2, 1, 1, 1, 1, 1, 1, 2, 4, 1, 1, 2, 3, 1, 1, 1, 6, 3, 4, 4, 9, 6, 6, 6, 6, 6, 5, 10]
def mLoL : List Nat := [40, 169, 62, 148, 82, 82, 61, 40, 81, 83, 40, 83, 40, 40, 60, 40, 40, 40, 104, 81, 40, 40, 40, 40, 60, 61, 40, 40, 40, 108, 83, 40, 40, 40, 125, 40, 40, 40, 60, 40, 40, 40, 63, 63, 63, 40, 40, 88, 88, 63, 83, 63, 60, 84, 84, 60, 102, 81, 102, 104, 104, 133, 110, 109, 104, 130, 61, 40, 190, 104, 104, 104, 125, 81, 130, 130, 130, 130, 130, 63, 62, 40, 40, 40, 40, 40, 40, 60, 104, 40, 40, 62, 83, 40, 40, 40, 148, 82, 103, 103, 210, 158, 158, 148, 148, 154, 126, 239]
def mAnL : List Nat := [1, 2, 1, 2, 2, 2, 2, 3, 1, 2, 1, 2, 1, 2, 4, 1, 3, 1, 3, 2, 2, 4, 1, 3, 1, 2, 1, 1, 1, 4, 3, 1, 2, 2, 3, 1, 2, 1, 2, 2, 2, 1, 1, 2, 1, 4, 4, 3, 2, 3, 2, 4, 2, 1, 1, 2, 1, 2, 1, 2, 2, 4, 3, 3, 2, 3, 2, 1, 1, 4, 1, 1, 3, 4, 4, 4, 2, 5, 4, 3, 2, 1, 1, 1, 1, 1, 4, 1, 2, 1, 1, 2, 2, 3, 2, 2, 1, 2, 7, 2, 4, 2, 4, 3, 3, 3, 3, 1]
def mPcL : List Nat := [176, 262, 265, 275, 338, 346, 342, 272, 144, 357, 361, 532, 47, 376, 420, 424, 567, 206, 504, 507, 514, 518, 637, 666, 39, 365, 541, 575, 464, 435, 447, 161, 619, 269, 280, 66, 369, 413, 511, 460, 500, 385, 381, 394, 401, 389, 477, 468, 485, 473, 522, 439, 452, 549, 405, 409, 553, 557, 31, 683, 687, 428, 456, 481, 489, 493, 615, 608, 258, 350, 528, 536, 545, 593, 626, 642, 633, 649, 662, 563, 571, 353, 431, 496, 652, 397, 442, 284, 295, 288, 299, 305, 302, 310, 578, 582, 586, 611, 604, 622, 601, 629, 658, 669, 672, 676, 679]
def mPiL : List Nat := [175, 260, 264, 274, 337, 345, 341, 271, 143, 355, 360, 530, 46, 374, 418, 423, 565, 205, 502, 506, 513, 517, 635, 664, 38, 363, 539, 573, 462, 433, 446, 160, 617, 267, 278, 65, 367, 411, 509, 458, 498, 383, 379, 392, 399, 388, 476, 466, 483, 472, 520, 437, 450, 547, 403, 408, 551, 555, 30, 681, 685, 426, 454, 479, 487, 491, 613, 606, 256, 349, 526, 534, 543, 591, 624, 640, 631, 647, 660, 561, 569, 352, 430, 495, 651, 396, 441, 282, 293, 286, 297, 304, 301, 309, 577, 581, 585, 610, 603, 621, 600, 628, 657, 668, 671, 675, 678]
def mPsL : List Nat := [0, 261, 0, 0, 0, 2, 1, 0, 0, 356, 4, 531, 0, 375, 419, 7, 566, 0, 503, 0, 0, 11, 636, 665, 0, 364, 540, 574, 463, 434, 8, 0, 618, 268, 279, 0, 368, 412, 510, 459, 499, 384, 380, 393, 400, 5, 10, 467, 484, 9, 521, 438, 451, 548, 404, 6, 552, 556, 0, 682, 686, 427, 455, 480, 488, 492, 614, 607, 257, 3, 527, 535, 544, 592, 625, 641, 632, 648, 661, 562, 570, 0, 0, 0, 0, 0, 0, 283, 294, 287, 298, 0, 0, 0, 0, 0, 0, 0, 0, 0, 0, 0, 0, 0, 0, 0, 0]
def mPnL : List Nat := [19, 19, 19, 19, 19, 19, 19, 19, 17, 17, 17, 17, 15, 15, 15, 15, 15, 20, 20, 20, 20, 20, 20, 20, 14, 14, 14, 14, 14, 14, 14, 18, 18, 18, 18, 16, 16, 16, 16, 16, 16, 16, 16, 16, 16, 16, 16, 16, 16, 16, 16, 16, 16, 16, 16, 16, 16, 16, 13, 13, 13, 13, 13, 13, 13, 13, 13, 13, 13, 13, 13, 13, 13, 13, 13, 13, 13, 13, 13, 13, 13, 13, 13, 13, 13, 13, 13, 22, 22, 22, 22, 22, 23, 24, 12, 12, 12, 12, 12, 12, 12, 12, 12, 12, 12, 12, 12]
def mY (z : Nat) : MethodName := mYL.getD z yL_law
def mC (z : Nat) : ByteArray := mCL.getD z code
def mT (z : Nat) : Option FieldType := mTL.getD z none
def mKd (z : Nat) : Nat := mKL.getD z 9
def mRk (z : Nat) : Nat := mRkL.getD z 99
def mLo (z : Nat) : Nat := mLoL.getD z 9999
def mAn (z : Nat) : Nat := mAnL.getD z 0
def mCNL : List String := [RX0, RX1, RX2, RX3, RX4, RX5, RX6, RX7, RX8, RL, RJ0, RJ1, RJ3]
def mCN (c : Nat) : String := mCNL.getD c ""
def mTT (c : Nat) : u_T := match c with
  | 0 => TX0
  | 1 => TX1
  | 2 => TX2
  | 3 => TX3
  | 4 => TX4
  | 5 => TX5
  | 6 => TX6
  | _ => TX7
def mTy (c : Nat) : Nat → FieldType := match c with
  | 0 => tyX0
  | 1 => tyX1
  | 2 => tyX2
  | 3 => tyX3
  | 4 => tyX4
  | 5 => tyX5
  | 6 => tyX6
  | _ => tyX7
def mNfL : List Nat := [6, 2, 4, 4, 9, 2, 7, 9]
def mNf (c : Nat) : Nat := mNfL.getD c 0
def mFkL : List (List Nat) := [[0, 0, 0, 0, 0, 0], [2, 0], [2, 2, 2, 0], [2, 0, 0, 0], [2, 2, 0, 0, 0, 0, 0, 0, 0], [2, 0], [2, 2, 2, 1, 1, 0, 0], [2, 2, 2, 1, 2, 2, 2, 2, 2]]
def mFk (c k : Nat) : Nat := (mFkL.getD c []).getD k 9
def mFL : List (Nat × Nat × Nat × Nat × Nat) := [(178, 0, 9, 0, 0), (180, 0, 15, 0, 1), (182, 0, 18, 0, 2), (184, 0, 21, 0, 3), (186, 0, 24, 0, 4), (188, 0, 27, 0, 5), (149, 1, 11, 1, 0), (150, 1, 17, 1, 1), (49, 2, 9, 2, 0), (50, 2, 15, 2, 1), (51, 2, 18, 2, 2), (52, 2, 21, 2, 3), (208, 3, 9, 3, 0), (210, 3, 15, 3, 1), (212, 3, 19, 3, 2), (214, 3, 22, 3, 3), (69, 3, 25, 6, 0), (82, 3, 30, 6, 5), (74, 3, 41, 6, 2), (103, 4, 11, 4, 0), (105, 4, 20, 4, 1), (107, 4, 24, 4, 2), (109, 4, 28, 4, 3), (111, 4, 31, 4, 4), (113, 4, 34, 4, 5), (115, 4, 37, 4, 6), (117, 4, 40, 4, 7), (119, 4, 43, 4, 8), (77, 4, 54, 6, 3), (83, 4, 58, 6, 5), (86, 4, 65, 6, 6), (163, 5, 9, 5, 0), (164, 5, 15, 5, 1), (68, 6, 9, 6, 0), (71, 6, 15, 6, 1), (73, 6, 18, 6, 2), (76, 6, 21, 6, 3), (79, 6, 25, 6, 4), (81, 6, 28, 6, 5), (85, 6, 32, 6, 6), (227, 7, 12, 7, 0), (228, 7, 19, 7, 1), (229, 7, 23, 7, 2), (230, 7, 26, 7, 3), (231, 7, 33, 7, 4), (232, 7, 40, 7, 5), (233, 7, 47, 7, 6), (234, 7, 51, 7, 7), (235, 7, 57, 7, 8), (108, 7, 61, 4, 2), (110, 7, 69, 4, 3), (104, 7, 79, 4, 0), (78, 7, 83, 6, 3), (114, 7, 101, 4, 5), (106, 7, 104, 4, 1), (84, 7, 114, 6, 5), (80, 7, 121, 6, 4), (213, 7, 136, 3, 2), (209, 7, 139, 3, 0), (211, 7, 150, 3, 1), (187, 7, 163, 0, 4), (179, 7, 166, 0, 0), (181, 7, 169, 0, 1), (185, 7, 172, 0, 3), (183, 7, 178, 0, 2), (87, 7, 222, 6, 6), (70, 7, 234, 6, 0), (72, 7, 237, 6, 1), (75, 7, 240, 6, 2), (215, 7, 250, 3, 3), (112, 7, 277, 4, 4), (116, 7, 280, 4, 6), (118, 7, 281, 4, 7), (120, 7, 284, 4, 8)]
def mFN : List (Nat × Nat × Nat × Nat × Nat) := [(165, 7, 156, 5, 1), (151, 7, 212, 1, 1)]
def mML : List (Nat × Nat × Nat × Nat) := [(177, 0, 3, 900), (263, 0, 30, 2), (273, 0, 34, 3), (335, 0, 38, 4), (343, 0, 41, 5), (266, 0, 45, 33), (270, 0, 51, 7), (277, 0, 57, 34), (339, 0, 71, 6), (145, 1, 3, 900), (148, 1, 21, 24), (358, 1, 22, 10), (362, 1, 25, 25), (48, 2, 3, 900), (377, 2, 25, 902), (421, 2, 31, 15), (207, 3, 3, 900), (505, 3, 33, 19), (512, 3, 37, 20), (515, 3, 44, 21), (508, 3, 48, 38), (40, 4, 3, 900), (45, 4, 19, 12), (64, 4, 46, 35), (366, 4, 47, 36), (373, 4, 51, 13), (436, 4, 61, 51), (443, 4, 66, 14), (444, 4, 70, 30), (448, 4, 74, 37), (449, 4, 78, 52), (162, 5, 3, 900), (281, 5, 19, 87), (291, 5, 25, 33), (292, 5, 29, 88), (67, 6, 3, 900), (370, 6, 35, 902), (414, 6, 41, 901), (410, 6, 47, 37), (382, 6, 51, 41), (386, 6, 54, 45), (469, 6, 62, 42), (470, 6, 65, 49), (474, 6, 69, 46), (523, 6, 73, 44), (406, 6, 80, 55), (554, 6, 84, 57), (558, 6, 87, 38), (32, 7, 3, 900), (37, 7, 11, 24), (142, 7, 18, 8), (159, 7, 32, 31), (174, 7, 39, 0), (204, 7, 46, 17), (226, 7, 56, 35), (354, 7, 65, 9), (351, 7, 72, 81), (429, 7, 76, 82), (432, 7, 86, 29), (457, 7, 90, 39), (461, 7, 93, 28), (465, 7, 97, 47), (417, 7, 108, 14), (482, 7, 117, 48), (398, 7, 124, 44), (494, 7, 127, 83), (497, 7, 130, 40), (501, 7, 133, 18), (519, 7, 143, 50), (402, 7, 147, 54), (616, 7, 153, 32), (259, 7, 159, 1), (347, 7, 175, 69), (425, 7, 181, 61), (453, 7, 184, 62), (478, 7, 188, 63), (486, 7, 191, 64), (490, 7, 195, 65), (378, 7, 198, 42), (390, 7, 201, 33), (391, 7, 204, 43), (529, 7, 208, 11), (537, 7, 213, 25), (538, 7, 216, 26), (546, 7, 219, 53), (550, 7, 225, 56), (559, 7, 228, 57), (594, 7, 231, 38), (595, 7, 243, 37), (596, 7, 246, 86), (634, 7, 253, 22), (650, 7, 256, 84), (653, 7, 259, 36), (654, 7, 261, 51), (655, 7, 264, 52), (663, 7, 267, 23), (564, 7, 271, 16), (572, 7, 274, 27), (568, 9, 13, 80), (542, 9, 19, 72), (590, 9, 25, 73), (560, 9, 33, 79), (612, 9, 36, 66), (605, 9, 40, 67), (609, 9, 44, 97), (580, 9, 50, 95), (602, 9, 53, 98), (620, 9, 57, 99), (255, 9, 60, 68), (623, 9, 63, 74), (630, 9, 66, 76), (638, 9, 69, 64), (639, 9, 72, 75), (643, 9, 75, 61), (644, 9, 78, 62), (645, 9, 81, 65), (646, 9, 84, 77), (659, 9, 88, 78), (673, 9, 91, 63), (680, 9, 94, 59), (684, 9, 97, 60), (29, 9, 100, 58), (525, 9, 101, 70), (533, 9, 104, 71), (576, 9, 107, 94), (584, 9, 111, 96), (599, 9, 115, 100), (656, 9, 119, 102), (667, 9, 122, 103), (670, 9, 126, 104), (674, 9, 129, 105), (677, 9, 132, 106), (627, 9, 135, 101), (285, 10, 335, 89), (296, 10, 492, 90), (300, 10, 495, 92), (308, 10, 1059, 93), (303, 11, 9, 91)]
def mMN : List (Nat × Nat × Nat × Nat) := [(395, 6, 58, 85), (440, 6, 76, 86)]
def mCLk : List (Nat × Nat × Nat × Nat) := [(146, 1, 9, 4), (41, 4, 9, 6), (43, 4, 17, 2), (35, 7, 9, 4), (140, 7, 16, 1), (157, 7, 30, 5), (172, 7, 37, 0), (202, 7, 44, 3), (225, 7, 54, 6), (27, 9, 14, 7)]
def mSLk : List (Nat × Nat × Nat × Nat) := [(688, 10, 9, 4), (689, 10, 15, 5)]
def mSTk : List (Nat × Nat × Nat × Nat) := [(289, 10, 38, 0), (306, 10, 1053, 1)]
def mLD : List (Nat × Nat) := [(55, 0), (61, 1), (63, 2), (65, 3), (67, 4), (69, 5)]
def mKI : List (Nat × Nat × Nat × Int32) := [(579, 9, 7, 2450023), (583, 9, 8, 2147483647)]
def mKJ : List (Nat × Nat × Nat × Int32) := [(587, 9, 9, 67), (588, 9, 11, 31), (589, 9, 23, 7), (597, 9, 29, 3), (598, 9, 31, 49)]
def mNm (z : Nat) : MethodName := if z = 900 then Lib.objectInit else if z = 901 then Lib.Math.min.name else if z = 902 then arraycopyName else mY z
theorem w_inst : ∀ z, z < 107 → lw_tbl[mPiL.getD z 9999]? = some (if mKd z = 1 then .static (mY z) else .instanceMethod (mY z)) := by decide +kernel
theorem w_sel : ∀ z, z < 107 → mKd z = 0 → lw_tbl[mPsL.getD z 9999]? = some (.selects (mCN (mRc z)) (mY z) (mY z)) := by decide +kernel
theorem w_ini : ∀ z, z < 107 → lw_tbl[mPnL.getD z 9999]? = some (.initialized (mY z).cls) := by decide +kernel
theorem w_nm : ∀ z, z < 107 → (mY z).cls = mCN (mRc z) ∧ plainName (mY z).cls = true ∧ (mY z).cls ≠ "java/lang/invoke/MethodHandle" ∧ (mY z).cls ≠ "java/lang/invoke/VarHandle" ∧ (parseMethodDescriptor (mY z).desc).map (fun d => d.parameters.length) = some (if mKd z = 1 then mAn z else mAn z - 1) ∧ mAn z ≤ mN z ∧ (mKd z = 2 → (mY z).name = "<init>" ∧ mT z = none) ∧ mKd z ≤ 2 ∧ (mKd z ≠ 1 → 1 ≤ mAn z) := by decide +kernel
theorem w_fl : ∀ q ∈ mFL, lw_tbl[q.1]? = some (.fieldLink (mCN q.2.1) q.2.2.1 (mTT q.2.2.2.1 q.2.2.2.2).1 (mTT q.2.2.2.1 q.2.2.2.2).2.1 (mTT q.2.2.2.1 q.2.2.2.2).2.2.1) := by decide +kernel
theorem w_fn : ∀ q ∈ mFN, lw_tbl[q.1]? = some (.fieldLinkNest (mCN q.2.1) q.2.2.1 (mTT q.2.2.2.1 q.2.2.2.2).1 (mTT q.2.2.2.1 q.2.2.2.2).2.1 (mTT q.2.2.2.1 q.2.2.2.2).2.2.1 "StretchSpool") := by decide +kernel
theorem w_ml : ∀ q ∈ mML, lw_tbl[q.1]? = some (.methodLink (mCN q.2.1) q.2.2.1 (mNm q.2.2.2)) := by decide +kernel
theorem w_mn : ∀ q ∈ mMN, lw_tbl[q.1]? = some (.methodLinkNest (mCN q.2.1) q.2.2.1 (mNm q.2.2.2) "StretchSpool") := by decide +kernel
theorem w_cl : ∀ q ∈ mCLk, lw_tbl[q.1]? = some (.classLink (mCN q.2.1) q.2.2.1 (mCN q.2.2.2)) := by decide +kernel
theorem w_sl : ∀ q ∈ mSLk, lw_tbl[q.1]? = some (.fieldLink (mCN q.2.1) q.2.2.1 "java/lang/String" (if q.2.2.2 = 4 then "value" else "coder") (if q.2.2.2 = 4 then "[B" else "B")) := by decide +kernel
theorem w_st : ∀ q ∈ mSTk, lw_tbl[q.1]? = some (if q.2.2.2 = 0 then .fieldLink (mCN q.2.1) q.2.2.1 "java/lang/String" "COMPACT_STRINGS" "Z" else .fieldLink (mCN q.2.1) q.2.2.1 "jdk/internal/util/Preconditions" "SIOOBE_FORMATTER" "Ljava/util/function/BiFunction;") := by decide +kernel
theorem w_ki : ∀ q ∈ mKI, lw_tbl[q.1]? = some (.constant (mCN q.2.1) q.2.2.1 q.2.2.2) := by decide +kernel
theorem w_kj : ∀ q ∈ mKJ, lw_tbl[q.1]? = some (.constantLong (mCN q.2.1) q.2.2.1 q.2.2.2.toInt64) := by decide +kernel
theorem w_lay : ∀ c, c < 8 → ∀ w ∈ u_ws (mCN c) (mTT c) (mNf c), w ∈ lw_tbl := by decide +kernel
theorem w_ins : ∀ c, c < 8 → .instantiable (mCN c) (mNf c) ∈ lw_tbl ∧ .initialized (mCN c) ∈ lw_tbl := by decide +kernel
theorem w_cls : ∀ c, c < 8 → vwCl[c]? = some (mCN c, mTT c, mNf c) := by
  intro c h
  rcases (show c = 0 ∨ c = 1 ∨ c = 2 ∨ c = 3 ∨ c = 4 ∨ c = 5 ∨ c = 6 ∨ c = 7 by omega) with rfl | rfl | rfl | rfl | rfl | rfl | rfl | rfl <;> rfl
theorem w_fty : ∀ c, c < 8 → ∀ k, k < mNf c → parseFieldDescriptor (mTT c k).2.2.1 = some (mTy c k) ∧ (mFk c k = 0 → mTy c k = .int) ∧ (mFk c k = 1 → mTy c k = .boolean) ∧ (mFk c k = 2 → (mTT c k).2.2.2 = true) ∧ (mFk c k < 2 → (mTT c k).2.2.2 = false) ∧ mFk c k < 3 ∧ (mTT c k).1 = mCN c := by decide +kernel
theorem w_fnm : ∀ c, c < 8 → ∀ a, a < mNf c → ∀ b, b < mNf c → a ≠ b → (mTT c a).2.1 ≠ (mTT c b).2.1 := by decide +kernel
theorem w_frf : ∀ c, c < 8 → ∀ k, k < mNf c → mFk c k = 2 → (match mTy c k with | .object _ => true | .array _ => true | _ => false) = true := by decide +kernel
theorem w_misc : lw_tbl.elem (.code Lib.objectInit ⟨#[0xb1]⟩ 1 none) = true ∧ .instanceMethod Lib.objectInit ∈ lw_tbl ∧ .static Lib.Math.min.name ∈ lw_tbl ∧ .initialized "java/lang/Math" ∈ lw_tbl ∧ lw_tbl.elem (.code Lib.Math.min.name Lib.Math.min.code 2 (some .int)) = true ∧ .native arraycopyName ∈ lw_tbl ∧ .static arraycopyName ∈ lw_tbl ∧ .initialized "java/lang/System" ∈ lw_tbl ∧ .arrayClass .int ∈ lw_tbl ∧ .arrayClass .char ∈ lw_tbl ∧ .arrayOver (.object (mCN 6)) ∈ lw_tbl ∧ .arrayOver (.object (mCN 4)) ∈ lw_tbl := by decide +kernel
/-- how long an instruction is (a switch: b says it) -/
def kLen (i : mIns) : Nat := match i with
  | (.bipush _, _) => 2
  | (.sipush _, _) => 3
  | (.iload _, _) => 2
  | (.aload _, _) => 2
  | (.istore _, _) => 2
  | (.astore _, _) => 2
  | (.iinc _ _, _) => 3
  | (.goto _, _) => 3
  | (.ifCond _ _, _) => 3
  | (.if_icmp _ _, _) => 3
  | (.tableswitch _ _ _ _, _, b, _) => b
  | (.getfield _, _) => 3
  | (.putfield _, _) => 3
  | (.getstatic _, _) => 3
  | (.newarray _, _) => 2
  | (.anewarray _, _) => 3
  | (.new _, _) => 3
  | (.invokespecial _, _) => 3
  | (.invokevirtual _, _) => 3
  | (.invokestatic _, _) => 3
  | (.ldc _, _) => 2
  | (.ldc2_w _, _) => 3
  | (.lload _, _) => 2
  | (.lstore _, _) => 2
  | _ => 1
def kEnd (i : mIns) : Bool := match i with
  | (.goto _, _) => true
  | (.tableswitch _ _ _ _, _) => true
  | (.ireturn, _) => true
  | (.return_, _) => true
  | (.lreturn, _) => true
  | _ => false
/-- a call of a fits z's room -/
def kCal (z a : Nat) : Bool := decide (a < 107) && decide (mRk a + 1 ≤ mRk z) && decide (8 + (mN a + 11) + mLo a ≤ mLo z)
def kIns (z pc : Nat) (i : mIns) : Bool := match i with
  | (.iconst n, _, _, v) => decide (Int32.ofInt n = v)
  | (.bipush n, _, _, v) => decide ((Int8.ofInt n).toInt32 = v)
  | (.sipush n, _, _, v) => decide ((Int16.ofInt n).toInt32 = v)
  | (.iload_n k, a, _, _) => decide ((k : Nat) = a)
  | (.aload_n k, a, _, _) => decide ((k : Nat) = a)
  | (.iload k, a, _, _) => decide (k = a)
  | (.aload k, a, _, _) => decide (k = a)
  | (.istore_n k, a, _, _) => decide ((k : Nat) = a) && decide (a < mN z)
  | (.astore_n k, a, _, _) => decide ((k : Nat) = a) && decide (a < mN z)
  | (.istore k, a, _, _) => decide (k = a) && decide (a < mN z)
  | (.astore k, a, _, _) => decide (k = a) && decide (a < mN z)
  | (.iinc k n, a, _, v) => decide (k = a) && decide (Int32.ofInt n = v) && decide (a < mN z)
  | (.goto off, a, _, _) => decide ((pc : Int) + off = (a : Int))
  | (.ifCond _ off, a, _, _) => decide ((pc : Int) + off = (a : Int))
  | (.if_icmp _ off, a, _, _) => decide ((pc : Int) + off = (a : Int))
  | (.tableswitch dflt lo hi offs, a, _, _) => decide (a = pc) && decide (0 ≤ (pc : Int) + dflt) && decide (lo ≤ hi + 1) && decide ((offs.size : Int) = hi - lo + 1) && offs.all (fun off => decide (0 ≤ (pc : Int) + off))
  | (.ireturn, _, _, v) => decide (mT z = some (if v = 0 then .int else if v = 1 then .boolean else if v = 2 then .byte else .char))
  | (.return_, _, _, _) => decide (mT z = none)
  | (.getfield idx, a, b, v) => if v = 4 then mSLk.any (fun q => decide (q.2 = (mRc z, idx, 4))) else if v = 5 then mSLk.any (fun q => decide (q.2 = (mRc z, idx, 5)))
    else (mFL.any (fun q => decide (q.2 = (mRc z, idx, a, b))) || mFN.any (fun q => decide (q.2 = (mRc z, idx, a, b)))) && decide (a < 8) && decide (b < mNf a) && decide ((v = 2) = (mFk a b = 2))
  | (.putfield idx, a, b, v) => (mFL.any (fun q => decide (q.2 = (mRc z, idx, a, b))) || mFN.any (fun q => decide (q.2 = (mRc z, idx, a, b)))) && decide (a < 8) && decide (b < mNf a) &&
    (if v = 0 then decide (mFk a b = 0) else if v = 1 then decide (mFk a b = 1) else decide (v = 5) && decide (mFk a b = 2) && decide (mKd z = 2) && decide (mRc z = a) && mFL.any (fun q => decide (q.2 = (mRc z, idx, a, b))))
  | (.getstatic idx, _, _, v) => if v = 0 then mSTk.any (fun q => decide (q.2 = (mRc z, idx, 0))) else mSTk.any (fun q => decide (q.2 = (mRc z, idx, 1)))
  | (.newarray t, a, _, _) => decide ((a = 2 ∧ t = .int) ∨ (a = 3 ∧ t = .char))
  | (.anewarray idx, _, b, _) => mCLk.any (fun q => decide (q.2 = (mRc z, idx, b)))
  | (.new idx, a, b, _) => mCLk.any (fun q => decide (q.2 = (mRc z, idx, a))) && decide (a < 8) && decide (b = mNf a)
  | (.invokespecial idx, a, b, v) => if v = 0 then mML.any (fun q => decide (q.2 = (mRc z, idx, 900))) && decide (40 ≤ mLo z) && decide (1 ≤ mRk z)
    else mML.any (fun q => decide (q.2 = (mRc z, idx, a))) && kCal z a && decide (b = mAn a) && decide (mKd a = 2)
  | (.invokevirtual idx, a, b, v) => if v = 0 then mML.any (fun q => decide (q.2 = (mRc z, idx, a))) && kCal z a && decide (b = mAn a) && decide (mKd a = 0) else true
  | (.invokestatic idx, a, b, v) => if v = 0 then (mML.any (fun q => decide (q.2 = (mRc z, idx, a))) || mMN.any (fun q => decide (q.2 = (mRc z, idx, a)))) && kCal z a && decide (b = mAn a) && decide (mKd a = 1)
    else if v = 1 then mML.any (fun q => decide (q.2 = (mRc z, idx, 901))) && decide (40 ≤ mLo z) && decide (1 ≤ mRk z)
    else if v = 2 then mML.any (fun q => decide (q.2 = (mRc z, idx, 902))) && decide (40 ≤ mLo z) && decide (1 ≤ mRk z)
    else true
  | (.ldc idx, a, b, v) => if b = 1 then mKI.any (fun q => decide (q.2 = (mRc z, idx, v))) else mLD.any (fun q => decide (q = (idx, a))) && decide (a < 6) && decide (mRc z = 0)
  | (.ldc2_w idx, _, _, v) => mKJ.any (fun q => decide (q.2 = (mRc z, idx, v)))
  | (.lload_n k, a, _, _) => decide ((k : Nat) = a)
  | (.lload k, a, _, _) => decide (k = a)
  | (.lstore_n k, a, _, _) => decide ((k : Nat) = a) && decide (a + 1 < mN z)
  | (.lstore k, a, _, _) => decide (k = a) && decide (a + 1 < mN z)
  | (.lreturn, _, _, _) => decide (mT z = some .long)
  | _ => true
def kBlk (z : Nat) : Nat → List mIns → Bool
  | _, [] => true
  | pc, i :: is => match i with
    | (.nop, a, _, _) => decide (a = pc)
    | i => decide (decode (mC z) pc = .ok (i.1, kLen i)) && kIns z pc i && (kEnd i || kBlk z (pc + kLen i) is)
def kAll (z : Nat) : Bool := (mBL.getD z []).all (fun q => kBlk z q.1 q.2)
