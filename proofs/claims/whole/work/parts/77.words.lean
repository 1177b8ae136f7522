/-! TABLES OF WORDS, and the check of the blocks against the bytes; laid by wip/whole/gen2.py -/
def mYL : List MethodName := [yX0_init, yX0_parse, yX0_lengthOfWord, yX0_wordOf, yX0_parseNumber, yX0_parseLetters, yX0_parseBlank, yX0_isBetween, yX1_init, yX1_remember, yX1_turn, yX1_takeBack, yX2_init, yX2_copyFrom, yX2_add, yX2_dropOldest, yX2_tell, yX3_init, yX3_readAll, yX3_measureBetweenEnds, yX3_numberOf, yX3_judge, yX3_errorCount, yX3_readTheSame, yX4_init, yX4_copyFrom, yX4_spoolsWithWire, yX4_lettersOnAll, yX4_lowestEmpty, yX4_wind, yX4_breakWire, yX5_init, yX5_add, yX5_codeAt, yX5_startsWith, yX6_init, yX6_copyFrom, yX6_gaps, yX6_hasGap, yX6_hasLetter, yX6_canBeReadBy, yX6_empty, yX6_begin, yX6_write, yX6_putEnd, yX6_putGap, yX6_copyGap, yX6_takeTail, yX6_join, yX6_appendBehind, yX6_punchAll, yX6_stretch, yX6_breakAt, yX6_sumOfLengths, yX6_sumOfNominals, yX6_sum, yX6_nearestToLimit, yX6_strain, yX7_init, yX7_setRule, yX7_setLimit, yX7_rewind, yX7_cut, yX7_splice, yX7_close, yX7_punch, yX7_type, yX7_clearText, yX7_perform, yX7_writeWire, yX7_undo, yX7_keep, yX7_restore, yX7_spool, yX7_gap, yX7_read, yX7_errors, yX7_bestWay, yX7_errorsAfter, yX7_safeRewinds, yX7_event, yX7_count, yX7_isSpool, yX7_isPull, yX7_isWay, yX7_isWayOfOneEnd, yX7_nominalOf, yX7_stretchOf, yX8_init, yX8_in, yX8_noSpool, yX8_of, yX8_puts, yX8_isEmpty, yX8_gaps, yX8_record, yX8_tells, yX8_setRule, yX8_setLimit, yX8_punches, yX8_copies, yX8_stretch, yX8_rewinds, yX8_rewind, yX8_cut, yX8_splice, yX8_close, yX8_number, yX8_reads, yX8_isBarred, yX8_wrong, yX8_allWrong, yX8_punch, yX8_type, yX8_clearText, yX8_isWord, yX8_isLong, yX8_word, yX8_takesBlank, yX8_takesNumber, yX8_isRight, yX8_writes, yX8_perform, yX8_full, yX8_undo, yX8_keep, yX8_restore, yX8_quotient, yX8_nearest, yX8_sum, yX8_spool, yX8_gap, yX8_read, yX8_errors, yX8_bestWay, yX8_goes, yX8_comes, yX8_asks, yX8_errorsAfter, yX8_isReadSo, yX8_safeRewinds, yX8_event, yX8_letters, yX8_count, yJ0_length_8abf5, yJ0_charAt_5068e, yJ0_coder_7d493, yJ0_isLatin1_aae02, yJ0_checkIndex_df160, yJ1_charAt_3b067, yJ3_checkIndex_8e157, yL_law]
def mCL : List ByteArray := [cX0_init, cX0_parse, cX0_lengthOfWord, cX0_wordOf, cX0_parseNumber, cX0_parseLetters, cX0_parseBlank, cX0_isBetween, cX1_init, cX1_remember, cX1_turn, cX1_takeBack, cX2_init, cX2_copyFrom, cX2_add, cX2_dropOldest, cX2_tell, cX3_init, cX3_readAll, cX3_measureBetweenEnds, cX3_numberOf, cX3_judge, cX3_errorCount, cX3_readTheSame, cX4_init, cX4_copyFrom, cX4_spoolsWithWire, cX4_lettersOnAll, cX4_lowestEmpty, cX4_wind, cX4_breakWire, cX5_init, cX5_add, cX5_codeAt, cX5_startsWith, cX6_init, cX6_copyFrom, cX6_gaps, cX6_hasGap, cX6_hasLetter, cX6_canBeReadBy, cX6_empty, cX6_begin, cX6_write, cX6_putEnd, cX6_putGap, cX6_copyGap, cX6_takeTail, cX6_join, cX6_appendBehind, cX6_punchAll, cX6_stretch, cX6_breakAt, cX6_sumOfLengths, cX6_sumOfNominals, cX6_sum, cX6_nearestToLimit, cX6_strain, cX7_init, cX7_setRule, cX7_setLimit, cX7_rewind, cX7_cut, cX7_splice, cX7_close, cX7_punch, cX7_type, cX7_clearText, cX7_perform, cX7_writeWire, cX7_undo, cX7_keep, cX7_restore, cX7_spool, cX7_gap, cX7_read, cX7_errors, cX7_bestWay, cX7_errorsAfter, cX7_safeRewinds, cX7_event, cX7_count, cX7_isSpool, cX7_isPull, cX7_isWay, cX7_isWayOfOneEnd, cX7_nominalOf, cX7_stretchOf, cX8_init, cX8_in, cX8_noSpool, cX8_of, cX8_puts, cX8_isEmpty, cX8_gaps, cX8_record, cX8_tells, cX8_setRule, cX8_setLimit, cX8_punches, cX8_copies, cX8_stretch, cX8_rewinds, cX8_rewind, cX8_cut, cX8_splice, cX8_close, cX8_number, cX8_reads, cX8_isBarred, cX8_wrong, cX8_allWrong, cX8_punch, cX8_type, cX8_clearText, cX8_isWord, cX8_isLong, cX8_word, cX8_takesBlank, cX8_takesNumber, cX8_isRight, cX8_writes, cX8_perform, cX8_full, cX8_undo, cX8_keep, cX8_restore, cX8_quotient, cX8_nearest, cX8_sum, cX8_spool, cX8_gap, cX8_read, cX8_errors, cX8_bestWay, cX8_goes, cX8_comes, cX8_asks, cX8_errorsAfter, cX8_isReadSo, cX8_safeRewinds, cX8_event, cX8_letters, cX8_count, cJ0_length_8abf5, cJ0_charAt_5068e, cJ0_coder_7d493, cJ0_isLatin1_aae02, cJ0_checkIndex_df160, cJ1_charAt_3b067, cJ3_checkIndex_8e157, cL_law]
def mTL : List (Option FieldType) := [none, none, (some .int), (some .int), (some .int), none, none, (some .boolean), none, none, none, (some .boolean), none, none, none, none, (some .int), none, none, (some .int), (some .int), none, (some .int), (some .boolean), none, none, (some .int), (some .int), (some .int), (some .int), none, none, (some .boolean), (some .int), (some .boolean), none, none, (some .int), (some .boolean), (some .boolean), (some .boolean), none, none, none, none, none, none, none, none, none, none, (some .int), none, (some .int), (some .int), (some .int), (some .int), (some .int), none, (some .int), (some .int), (some .int), (some .int), (some .int), (some .int), (some .int), (some .int), (some .int), (some .int), (some .int), (some .int), (some .int), (some .int), (some .int), (some .int), (some .int), (some .int), (some .int), (some .int), (some .int), (some .int), (some .int), (some .boolean), (some .boolean), (some .boolean), (some .boolean), (some .int), (some .int), none, (some .boolean), (some .boolean), (some .int), none, (some .boolean), (some .int), none, none, (some .int), (some .int), none, none, (some .int), (some .boolean), (some .int), (some .int), (some .int), (some .int), (some .int), none, (some .boolean), (some .int), (some .int), (some .int), (some .int), (some .int), (some .boolean), (some .boolean), (some .int), (some .boolean), (some .boolean), (some .boolean), (some .int), (some .int), (some .int), (some .int), (some .int), (some .int), (some .int), (some .int), (some .int), (some .int), (some .int), (some .int), (some .int), (some .int), none, none, (some .int), (some .int), (some .boolean), (some .int), (some .int), (some .int), (some .int), (some .int), (some .char), (some .byte), (some .boolean), none, (some .char), (some .int), (some .boolean)]
def mKL : List Nat := [2, 0, 1, 1, 0, 0, 0, 1, 2, 0, 0, 0, 2, 0, 0, 0, 0, 2, 0, 1, 1, 0, 0, 0, 2, 0, 0, 0, 0, 0, 0, 2, 0, 0, 0, 2, 0, 0, 0, 0, 0, 0, 0, 0, 0, 0, 0, 0, 0, 0, 0, 0, 0, 0, 0, 0, 0, 0, 2, 0, 0, 0, 0, 0, 0, 0, 0, 0, 0, 0, 0, 0, 0, 0, 0, 0, 0, 0, 0, 0, 0, 0, 1, 1, 1, 1, 1, 1, 2, 1, 1, 0, 0, 0, 0, 0, 0, 0, 0, 0, 0, 0, 0, 0, 0, 0, 0, 1, 0, 0, 0, 0, 0, 0, 0, 0, 0, 0, 0, 0, 0, 0, 0, 0, 0, 0, 0, 0, 0, 0, 0, 0, 0, 0, 0, 0, 0, 0, 0, 0, 0, 0, 0, 0, 0, 0, 0, 0, 1, 1, 1, 1]
def mRkL : List Nat := [1, 7, 2, 6, 3, 3, 2, 1, 3, 3, 1, 3, 1, 1, 2, 1, 1, 1, 4, 3, 1, 1, 1, 1, 2, 2, 1, 1, 1, 4, 3, 1, 1, 1, 5, 1, 1, 1, 2, 1, 1, 1, 2, 2, 2, 1, 1, 3, 3, 2, 3, 2, 2, 3, 3, 2, 4, 3, 4, 4, 4, 5, 4, 4, 4, 5, 2, 1, 8, 4, 4, 3, 4, 5, 3, 5, 5, 5, 5, 5, 2, 2, 1, 1, 1, 1, 1, 1, 1, 1, 2, 1, 1, 2, 2, 1, 1, 2, 2, 2, 2, 3, 4, 5, 3, 3, 3, 2, 3, 2, 2, 4, 4, 1, 1, 1, 1, 2, 1, 2, 3, 3, 6, 3, 1, 4, 4, 2, 3, 3, 4, 4, 4, 4, 5, 1, 1, 3, 5, 4, 5, 2, 3, 4, 2, 4, 1, 1, 2, 3, 1, 9]
def mLoL : List Nat := [40, 169, 62, 148, 82, 82, 61, 40, 81, 83, 40, 83, 40, 40, 60, 40, 40, 40, 104, 81, 40, 40, 40, 40, 60, 61, 40, 40, 40, 108, 83, 40, 40, 40, 125, 40, 40, 40, 60, 40, 40, 40, 63, 63, 63, 40, 40, 88, 88, 63, 83, 63, 60, 84, 84, 60, 102, 81, 102, 104, 104, 133, 110, 109, 104, 130, 61, 40, 190, 104, 104, 83, 104, 125, 81, 130, 130, 130, 130, 130, 63, 62, 40, 40, 40, 40, 40, 40, 40, 40, 62, 40, 40, 62, 62, 40, 40, 62, 62, 63, 63, 83, 107, 133, 87, 87, 86, 62, 84, 62, 62, 112, 112, 40, 40, 40, 40, 66, 40, 62, 86, 86, 158, 83, 40, 105, 105, 62, 84, 83, 107, 107, 112, 112, 134, 40, 40, 83, 134, 112, 135, 62, 83, 105, 60, 104, 40, 40, 62, 83, 40, 210]
def mAnL : List Nat := [1, 2, 1, 2, 2, 2, 2, 3, 1, 2, 1, 2, 1, 2, 4, 1, 3, 1, 3, 2, 2, 4, 1, 3, 1, 2, 1, 1, 1, 4, 3, 1, 2, 2, 3, 1, 2, 1, 2, 2, 2, 1, 1, 2, 1, 4, 4, 3, 2, 3, 2, 4, 2, 1, 1, 2, 1, 2, 1, 2, 2, 4, 3, 3, 2, 3, 2, 1, 1, 4, 1, 1, 1, 3, 4, 4, 4, 2, 5, 4, 3, 2, 1, 1, 1, 1, 1, 4, 1, 3, 1, 3, 4, 2, 2, 1, 4, 2, 2, 4, 5, 4, 3, 4, 3, 3, 2, 2, 3, 3, 3, 3, 3, 2, 1, 6, 7, 1, 1, 1, 1, 1, 1, 1, 1, 1, 1, 3, 2, 3, 3, 4, 4, 4, 2, 1, 1, 5, 5, 3, 4, 3, 1, 2, 1, 2, 1, 1, 2, 2, 3, 1]
def mPcL : List Nat := [207, 480, 483, 493, 556, 564, 560, 490, 175, 293, 297, 588, 78, 312, 349, 353, 668, 237, 430, 433, 440, 444, 642, 660, 70, 301, 597, 676, 378, 331, 357, 192, 468, 487, 498, 97, 305, 339, 437, 374, 426, 366, 386, 574, 415, 390, 398, 382, 407, 394, 448, 335, 362, 609, 456, 460, 613, 617, 62, 289, 317, 321, 370, 403, 411, 419, 464, 472, 476, 568, 584, 592, 601, 605, 623, 630, 634, 638, 646, 656, 664, 672, 324, 327, 422, 649, 451, 345, 681, 735, 750, 758, 774, 754, 766, 739, 778, 732, 743, 790, 786, 770, 762, 747, 782, 794, 798, 813, 810, 806, 817, 914, 802, 821, 825, 841, 845, 837, 849, 853, 833, 857, 829, 874, 866, 870, 878, 894, 890, 886, 882, 898, 902, 906, 910, 926, 930, 922, 918, 938, 934, 942, 950, 946, 502, 513, 506, 517, 523, 520, 528]
def mPiL : List Nat := [206, 478, 482, 492, 555, 563, 559, 489, 174, 291, 296, 586, 77, 310, 347, 352, 666, 236, 428, 432, 439, 443, 640, 658, 69, 299, 595, 674, 376, 329, 356, 191, 466, 485, 496, 96, 303, 337, 435, 372, 424, 364, 384, 572, 413, 389, 397, 380, 405, 393, 446, 333, 360, 607, 454, 459, 611, 615, 61, 287, 315, 319, 368, 401, 409, 417, 462, 470, 474, 567, 582, 590, 599, 603, 621, 628, 632, 636, 644, 654, 662, 670, 323, 326, 421, 648, 450, 344, 680, 734, 749, 757, 773, 753, 765, 738, 777, 730, 741, 789, 785, 769, 761, 745, 780, 792, 796, 812, 809, 805, 816, 913, 800, 819, 823, 840, 844, 836, 848, 852, 832, 856, 827, 873, 864, 868, 876, 893, 889, 885, 880, 896, 900, 904, 908, 925, 929, 921, 916, 937, 932, 940, 949, 944, 500, 511, 504, 515, 522, 519, 527]
def mPsL : List Nat := [0, 479, 0, 0, 8, 10, 9, 0, 0, 292, 0, 587, 0, 311, 348, 1, 667, 0, 429, 0, 0, 6, 641, 659, 0, 300, 596, 675, 377, 330, 2, 0, 467, 486, 497, 0, 304, 338, 436, 373, 425, 365, 385, 573, 414, 3, 5, 381, 406, 4, 447, 334, 361, 608, 455, 7, 612, 616, 0, 288, 316, 320, 369, 402, 410, 418, 463, 471, 475, 11, 583, 591, 600, 604, 622, 629, 633, 637, 645, 655, 663, 671, 0, 0, 0, 0, 0, 0, 0, 0, 0, 14, 18, 13, 16, 12, 19, 731, 742, 21, 20, 17, 15, 746, 781, 793, 797, 0, 23, 22, 24, 36, 801, 820, 824, 27, 28, 26, 29, 30, 25, 31, 828, 32, 865, 869, 877, 35, 34, 33, 881, 897, 901, 905, 909, 38, 39, 37, 917, 40, 933, 941, 41, 945, 501, 512, 505, 516, 0, 0, 0]
def mPnL : List Nat := [49, 49, 49, 49, 49, 49, 49, 49, 47, 47, 47, 47, 45, 45, 45, 45, 45, 50, 50, 50, 50, 50, 50, 50, 44, 44, 44, 44, 44, 44, 44, 48, 48, 48, 48, 46, 46, 46, 46, 46, 46, 46, 46, 46, 46, 46, 46, 46, 46, 46, 46, 46, 46, 46, 46, 46, 46, 46, 43, 43, 43, 43, 43, 43, 43, 43, 43, 43, 43, 43, 43, 43, 43, 43, 43, 43, 43, 43, 43, 43, 43, 43, 43, 43, 43, 43, 43, 43, 51, 51, 51, 51, 51, 51, 51, 51, 51, 51, 51, 51, 51, 51, 51, 51, 51, 51, 51, 51, 51, 51, 51, 51, 51, 51, 51, 51, 51, 51, 51, 51, 51, 51, 51, 51, 51, 51, 51, 51, 51, 51, 51, 51, 51, 51, 51, 51, 51, 51, 51, 51, 51, 51, 51, 51, 54, 54, 54, 54, 54, 55, 56]
def mY (z : Nat) : MethodName := mYL.getD z yL_law
def mC (z : Nat) : ByteArray := mCL.getD z code
def mT (z : Nat) : Option FieldType := mTL.getD z none
def mKd (z : Nat) : Nat := mKL.getD z 9
def mRk (z : Nat) : Nat := mRkL.getD z 99
def mLo (z : Nat) : Nat := mLoL.getD z 9999
def mAn (z : Nat) : Nat := mAnL.getD z 0
def mCNL : List String := [RX0, RX1, RX2, RX3, RX4, RX5, RX6, RX7, RX8, RL, RJ0, RJ1, RJ3]
def mCN (c : Nat) : String := mCNL.getD c ""
def mTT (c : Nat) : u_T := match c with
  | 0 => TX0
  | 1 => TX1
  | 2 => TX2
  | 3 => TX3
  | 4 => TX4
  | 5 => TX5
  | 6 => TX6
  | 7 => TX7
  | _ => TX8
def mTy (c : Nat) : Nat → FieldType := match c with
  | 0 => tyX0
  | 1 => tyX1
  | 2 => tyX2
  | 3 => tyX3
  | 4 => tyX4
  | 5 => tyX5
  | 6 => tyX6
  | 7 => tyX7
  | _ => tyX8
def mNfL : List Nat := [6, 2, 4, 4, 9, 2, 7, 9, 15]
def mNf (c : Nat) : Nat := mNfL.getD c 0
def mFkL : List (List Nat) := [[0, 0, 0, 0, 0, 0], [2, 0], [2, 2, 2, 0], [2, 0, 0, 0], [2, 2, 0, 0, 0, 0, 0, 0, 0], [2, 0], [2, 2, 2, 1, 1, 0, 0], [2, 2, 2, 1, 2, 2, 2, 2, 2], [2, 2, 0, 2, 1, 2, 2, 0, 2, 0, 0, 0, 0, 0, 2]]
def mFk (c k : Nat) : Nat := (mFkL.getD c []).getD k 9
def mFL : List (Nat × Nat × Nat × Nat × Nat) := [(209, 0, 9, 0, 0), (211, 0, 15, 0, 1), (213, 0, 18, 0, 2), (215, 0, 21, 0, 3), (217, 0, 24, 0, 4), (219, 0, 27, 0, 5), (180, 1, 11, 1, 0), (181, 1, 17, 1, 1), (80, 2, 9, 2, 0), (81, 2, 15, 2, 1), (82, 2, 18, 2, 2), (83, 2, 21, 2, 3), (239, 3, 9, 3, 0), (241, 3, 15, 3, 1), (243, 3, 19, 3, 2), (245, 3, 22, 3, 3), (100, 3, 25, 6, 0), (113, 3, 30, 6, 5), (105, 3, 41, 6, 2), (134, 4, 11, 4, 0), (136, 4, 20, 4, 1), (138, 4, 24, 4, 2), (140, 4, 28, 4, 3), (142, 4, 31, 4, 4), (144, 4, 34, 4, 5), (146, 4, 37, 4, 6), (148, 4, 40, 4, 7), (150, 4, 43, 4, 8), (108, 4, 54, 6, 3), (114, 4, 58, 6, 5), (117, 4, 65, 6, 6), (194, 5, 9, 5, 0), (195, 5, 15, 5, 1), (99, 6, 9, 6, 0), (102, 6, 15, 6, 1), (104, 6, 18, 6, 2), (107, 6, 21, 6, 3), (110, 6, 25, 6, 4), (112, 6, 28, 6, 5), (116, 6, 32, 6, 6), (258, 7, 12, 7, 0), (259, 7, 19, 7, 1), (260, 7, 23, 7, 2), (261, 7, 26, 7, 3), (262, 7, 33, 7, 4), (263, 7, 40, 7, 5), (264, 7, 47, 7, 6), (265, 7, 51, 7, 7), (266, 7, 57, 7, 8), (139, 7, 61, 4, 2), (141, 7, 69, 4, 3), (135, 7, 79, 4, 0), (109, 7, 83, 6, 3), (145, 7, 101, 4, 5), (137, 7, 104, 4, 1), (115, 7, 114, 6, 5), (111, 7, 121, 6, 4), (244, 7, 136, 3, 2), (240, 7, 139, 3, 0), (242, 7, 150, 3, 1), (218, 7, 163, 0, 4), (210, 7, 166, 0, 0), (212, 7, 169, 0, 1), (216, 7, 172, 0, 3), (214, 7, 178, 0, 2), (118, 7, 222, 6, 6), (101, 7, 234, 6, 0), (103, 7, 237, 6, 1), (106, 7, 240, 6, 2), (246, 7, 250, 3, 3), (143, 7, 277, 4, 4), (147, 7, 280, 4, 6), (149, 7, 281, 4, 7), (151, 7, 284, 4, 8), (683, 8, 7, 8, 0), (684, 8, 13, 8, 1), (686, 8, 16, 8, 3), (688, 8, 19, 8, 5), (689, 8, 22, 8, 6), (691, 8, 25, 8, 8), (697, 8, 29, 8, 14), (685, 8, 40, 8, 2), (690, 8, 93, 8, 7), (692, 8, 96, 8, 9), (693, 8, 107, 8, 10), (694, 8, 114, 8, 11), (695, 8, 124, 8, 12), (696, 8, 127, 8, 13), (687, 8, 151, 8, 4)]
def mFN : List (Nat × Nat × Nat × Nat × Nat) := [(196, 7, 156, 5, 1), (182, 7, 212, 1, 1)]
def mML : List (Nat × Nat × Nat × Nat) := [(208, 0, 3, 900), (481, 0, 30, 2), (491, 0, 34, 3), (553, 0, 38, 4), (561, 0, 41, 5), (484, 0, 45, 33), (488, 0, 51, 7), (495, 0, 57, 34), (557, 0, 71, 6), (176, 1, 3, 900), (179, 1, 21, 24), (294, 1, 22, 10), (298, 1, 25, 25), (79, 2, 3, 900), (313, 2, 25, 902), (350, 2, 31, 15), (238, 3, 3, 900), (431, 3, 33, 19), (438, 3, 37, 20), (441, 3, 44, 21), (434, 3, 48, 38), (71, 4, 3, 900), (76, 4, 19, 12), (95, 4, 46, 35), (302, 4, 47, 36), (309, 4, 51, 13), (332, 4, 61, 51), (346, 4, 66, 14), (354, 4, 70, 30), (358, 4, 74, 37), (359, 4, 78, 52), (193, 5, 3, 900), (499, 5, 19, 144), (509, 5, 25, 33), (510, 5, 29, 145), (98, 6, 3, 900), (306, 6, 35, 902), (340, 6, 41, 901), (336, 6, 47, 37), (363, 6, 51, 41), (387, 6, 54, 45), (383, 6, 62, 42), (391, 6, 65, 49), (395, 6, 69, 46), (452, 6, 73, 44), (457, 6, 80, 55), (614, 6, 84, 57), (618, 6, 87, 38), (63, 7, 3, 900), (68, 7, 11, 24), (173, 7, 18, 8), (190, 7, 32, 31), (205, 7, 39, 0), (235, 7, 46, 17), (257, 7, 56, 35), (290, 7, 65, 9), (322, 7, 72, 82), (325, 7, 76, 83), (328, 7, 86, 29), (371, 7, 90, 39), (375, 7, 93, 28), (379, 7, 97, 47), (399, 7, 108, 14), (404, 7, 117, 48), (412, 7, 124, 44), (420, 7, 127, 84), (423, 7, 130, 40), (427, 7, 133, 18), (445, 7, 143, 50), (453, 7, 147, 54), (465, 7, 153, 32), (477, 7, 159, 1), (565, 7, 175, 69), (575, 7, 181, 61), (576, 7, 184, 62), (577, 7, 188, 63), (578, 7, 191, 64), (579, 7, 195, 65), (569, 7, 198, 42), (570, 7, 201, 33), (571, 7, 204, 43), (585, 7, 208, 11), (593, 7, 213, 25), (594, 7, 216, 26), (606, 7, 219, 53), (610, 7, 225, 56), (619, 7, 228, 57), (624, 7, 231, 38), (625, 7, 243, 37), (626, 7, 246, 87), (639, 7, 253, 22), (647, 7, 256, 85), (650, 7, 259, 36), (651, 7, 261, 51), (652, 7, 264, 52), (657, 7, 267, 23), (665, 7, 271, 16), (673, 7, 274, 27), (682, 8, 1, 900), (733, 8, 32, 89), (755, 8, 36, 91), (736, 8, 44, 95), (771, 8, 47, 92), (763, 8, 51, 94), (767, 8, 55, 101), (775, 8, 59, 96), (748, 8, 62, 90), (751, 8, 66, 93), (759, 8, 69, 102), (783, 8, 73, 100), (787, 8, 77, 99), (811, 8, 80, 107), (807, 8, 83, 108), (814, 8, 87, 110), (803, 8, 90, 109), (838, 8, 99, 115), (842, 8, 103, 116), (834, 8, 110, 117), (846, 8, 117, 118), (850, 8, 121, 119), (830, 8, 130, 120), (854, 8, 133, 121), (858, 8, 136, 103), (859, 8, 139, 104), (860, 8, 142, 105), (861, 8, 145, 106), (862, 8, 148, 112), (871, 8, 155, 123), (891, 8, 158, 127), (883, 8, 161, 129), (887, 8, 164, 128), (911, 8, 167, 111), (919, 8, 170, 137), (923, 8, 174, 135), (927, 8, 177, 136), (935, 8, 180, 139), (947, 8, 183, 142), (60, 9, 9, 58), (679, 9, 12, 88), (286, 9, 13, 59), (729, 9, 17, 97), (314, 9, 18, 60), (740, 9, 21, 98), (318, 9, 22, 61), (744, 9, 26, 103), (367, 9, 27, 62), (779, 9, 31, 104), (400, 9, 32, 63), (791, 9, 35, 105), (408, 9, 36, 64), (795, 9, 39, 106), (416, 9, 40, 65), (799, 9, 43, 112), (461, 9, 44, 66), (818, 9, 48, 113), (469, 9, 49, 67), (822, 9, 53, 114), (473, 9, 54, 68), (826, 9, 57, 122), (581, 9, 58, 70), (863, 9, 61, 124), (589, 9, 62, 71), (867, 9, 65, 125), (598, 9, 66, 72), (875, 9, 69, 126), (602, 9, 70, 73), (879, 9, 73, 130), (620, 9, 74, 74), (895, 9, 77, 131), (627, 9, 78, 75), (899, 9, 81, 132), (631, 9, 82, 76), (903, 9, 85, 133), (635, 9, 86, 77), (907, 9, 89, 134), (643, 9, 90, 78), (915, 9, 94, 138), (653, 9, 95, 79), (931, 9, 98, 140), (661, 9, 99, 80), (939, 9, 102, 141), (669, 9, 103, 81), (943, 9, 106, 143), (503, 10, 335, 146), (514, 10, 492, 147), (518, 10, 495, 149), (526, 10, 1059, 150), (521, 11, 9, 148)]
def mMN : List (Nat × Nat × Nat × Nat) := [(449, 6, 58, 86), (343, 6, 76, 87)]
def mCLk : List (Nat × Nat × Nat × Nat) := [(177, 1, 9, 4), (72, 4, 9, 6), (74, 4, 17, 2), (66, 7, 9, 4), (171, 7, 16, 1), (188, 7, 30, 5), (203, 7, 37, 0), (233, 7, 44, 3), (256, 7, 54, 6), (58, 9, 7, 7), (677, 9, 10, 8)]
def mSLk : List (Nat × Nat × Nat × Nat) := [(951, 10, 9, 4), (952, 10, 15, 5)]
def mSTk : List (Nat × Nat × Nat × Nat) := [(507, 10, 38, 0), (524, 10, 1053, 1)]
def mLD : List (Nat × Nat) := [(55, 0), (61, 1), (63, 2), (65, 3), (67, 4), (69, 5)]
def mNm (z : Nat) : MethodName := if z = 900 then Lib.objectInit else if z = 901 then Lib.Math.min.name else if z = 902 then arraycopyName else mY z
theorem w_inst : ∀ z, z < 151 → lw_tbl[mPiL.getD z 9999]? = some (if mKd z = 1 then .static (mY z) else .instanceMethod (mY z)) := by decide +kernel
theorem w_sel : ∀ z, z < 151 → mKd z = 0 → lw_tbl[mPsL.getD z 9999]? = some (.selects (mCN (mRc z)) (mY z) (mY z)) := by decide +kernel
theorem w_ini : ∀ z, z < 151 → lw_tbl[mPnL.getD z 9999]? = some (.initialized (mY z).cls) := by decide +kernel
theorem w_nm : ∀ z, z < 151 → (mY z).cls = mCN (mRc z) ∧ plainName (mY z).cls = true ∧ (mY z).cls ≠ "java/lang/invoke/MethodHandle" ∧ (mY z).cls ≠ "java/lang/invoke/VarHandle" ∧ (parseMethodDescriptor (mY z).desc).map (fun d => d.parameters.length) = some (if mKd z = 1 then mAn z else mAn z - 1) ∧ mAn z ≤ mN z ∧ (mKd z = 2 → (mY z).name = "<init>" ∧ mT z = none) ∧ mKd z ≤ 2 ∧ (mKd z ≠ 1 → 1 ≤ mAn z) := by decide +kernel
theorem w_fl : ∀ q ∈ mFL, lw_tbl[q.1]? = some (.fieldLink (mCN q.2.1) q.2.2.1 (mTT q.2.2.2.1 q.2.2.2.2).1 (mTT q.2.2.2.1 q.2.2.2.2).2.1 (mTT q.2.2.2.1 q.2.2.2.2).2.2.1) := by decide +kernel
theorem w_fn : ∀ q ∈ mFN, lw_tbl[q.1]? = some (.fieldLinkNest (mCN q.2.1) q.2.2.1 (mTT q.2.2.2.1 q.2.2.2.2).1 (mTT q.2.2.2.1 q.2.2.2.2).2.1 (mTT q.2.2.2.1 q.2.2.2.2).2.2.1 "StretchSpool") := by decide +kernel
theorem w_ml : ∀ q ∈ mML, lw_tbl[q.1]? = some (.methodLink (mCN q.2.1) q.2.2.1 (mNm q.2.2.2)) := by decide +kernel
theorem w_mn : ∀ q ∈ mMN, lw_tbl[q.1]? = some (.methodLinkNest (mCN q.2.1) q.2.2.1 (mNm q.2.2.2) "StretchSpool") := by decide +kernel
theorem w_cl : ∀ q ∈ mCLk, lw_tbl[q.1]? = some (.classLink (mCN q.2.1) q.2.2.1 (mCN q.2.2.2)) := by decide +kernel
theorem w_sl : ∀ q ∈ mSLk, lw_tbl[q.1]? = some (.fieldLink (mCN q.2.1) q.2.2.1 "java/lang/String" (if q.2.2.2 = 4 then "value" else "coder") (if q.2.2.2 = 4 then "[B" else "B")) := by decide +kernel
theorem w_st : ∀ q ∈ mSTk, lw_tbl[q.1]? = some (if q.2.2.2 = 0 then .fieldLink (mCN q.2.1) q.2.2.1 "java/lang/String" "COMPACT_STRINGS" "Z" else .fieldLink (mCN q.2.1) q.2.2.1 "jdk/internal/util/Preconditions" "SIOOBE_FORMATTER" "Ljava/util/function/BiFunction;") := by decide +kernel
theorem w_lay : ∀ c, c < 9 → ∀ w ∈ u_ws (mCN c) (mTT c) (mNf c), w ∈ lw_tbl := by decide +kernel
theorem w_ins : ∀ c, c < 9 → .instantiable (mCN c) (mNf c) ∈ lw_tbl ∧ .initialized (mCN c) ∈ lw_tbl := by decide +kernel
theorem w_cls : ∀ c, c < 9 → vwCl[c]? = some (mCN c, mTT c, mNf c) := by
  intro c h
  rcases (show c = 0 ∨ c = 1 ∨ c = 2 ∨ c = 3 ∨ c = 4 ∨ c = 5 ∨ c = 6 ∨ c = 7 ∨ c = 8 by omega) with rfl | rfl | rfl | rfl | rfl | rfl | rfl | rfl | rfl <;> rfl
theorem w_fty : ∀ c, c < 9 → ∀ k, k < mNf c → parseFieldDescriptor (mTT c k).2.2.1 = some (mTy c k) ∧ (mFk c k = 0 → mTy c k = .int) ∧ (mFk c k = 1 → mTy c k = .boolean) ∧ (mFk c k = 2 → (mTT c k).2.2.2 = true) ∧ (mFk c k < 2 → (mTT c k).2.2.2 = false) ∧ mFk c k < 3 ∧ (mTT c k).1 = mCN c := by decide +kernel
theorem w_fnm : ∀ c, c < 9 → ∀ a, a < mNf c → ∀ b, b < mNf c → a ≠ b → (mTT c a).2.1 ≠ (mTT c b).2.1 := by decide +kernel
theorem w_frf : ∀ c, c < 9 → ∀ k, k < mNf c → mFk c k = 2 → (match mTy c k with | .object _ => true | .array _ => true | _ => false) = true := by decide +kernel
theorem w_misc : lw_tbl.elem (.code Lib.objectInit ⟨#[0xb1]⟩ 1 none) = true ∧ .instanceMethod Lib.objectInit ∈ lw_tbl ∧ .static Lib.Math.min.name ∈ lw_tbl ∧ .initialized "java/lang/Math" ∈ lw_tbl ∧ lw_tbl.elem (.code Lib.Math.min.name Lib.Math.min.code 2 (some .int)) = true ∧ .native arraycopyName ∈ lw_tbl ∧ .static arraycopyName ∈ lw_tbl ∧ .initialized "java/lang/System" ∈ lw_tbl ∧ .arrayClass .int ∈ lw_tbl ∧ .arrayClass .char ∈ lw_tbl ∧ .arrayOver (.object (mCN 6)) ∈ lw_tbl ∧ .arrayOver (.object (mCN 4)) ∈ lw_tbl := by decide +kernel
/-- how long an instruction is (a switch: b says it) -/
def kLen (i : mIns) : Nat := match i with
  | (.bipush _, _) => 2
  | (.sipush _, _) => 3
  | (.iload _, _) => 2
  | (.aload _, _) => 2
  | (.istore _, _) => 2
  | (.astore _, _) => 2
  | (.iinc _ _, _) => 3
  | (.goto _, _) => 3
  | (.ifCond _ _, _) => 3
  | (.if_icmp _ _, _) => 3
  | (.tableswitch _ _ _ _, _, b, _) => b
  | (.getfield _, _) => 3
  | (.putfield _, _) => 3
  | (.getstatic _, _) => 3
  | (.newarray _, _) => 2
  | (.anewarray _, _) => 3
  | (.new _, _) => 3
  | (.invokespecial _, _) => 3
  | (.invokevirtual _, _) => 3
  | (.invokestatic _, _) => 3
  | (.ldc _, _) => 2
  | _ => 1
def kEnd (i : mIns) : Bool := match i with
  | (.goto _, _) => true
  | (.tableswitch _ _ _ _, _) => true
  | (.ireturn, _) => true
  | (.return_, _) => true
  | _ => false
/-- a call of a fits z's room -/
def kCal (z a : Nat) : Bool := decide (a < 151) && decide (mRk a + 1 ≤ mRk z) && decide (8 + (mN a + 11) + mLo a ≤ mLo z)
def kIns (z pc : Nat) (i : mIns) : Bool := match i with
  | (.iconst n, _, _, v) => decide (Int32.ofInt n = v)
  | (.bipush n, _, _, v) => decide ((Int8.ofInt n).toInt32 = v)
  | (.sipush n, _, _, v) => decide ((Int16.ofInt n).toInt32 = v)
  | (.iload_n k, a, _, _) => decide ((k : Nat) = a)
  | (.aload_n k, a, _, _) => decide ((k : Nat) = a)
  | (.iload k, a, _, _) => decide (k = a)
  | (.aload k, a, _, _) => decide (k = a)
  | (.istore_n k, a, _, _) => decide ((k : Nat) = a) && decide (a < mN z)
  | (.astore_n k, a, _, _) => decide ((k : Nat) = a) && decide (a < mN z)
  | (.istore k, a, _, _) => decide (k = a) && decide (a < mN z)
  | (.astore k, a, _, _) => decide (k = a) && decide (a < mN z)
  | (.iinc k n, a, _, v) => decide (k = a) && decide (Int32.ofInt n = v) && decide (a < mN z)
  | (.goto off, a, _, _) => decide ((pc : Int) + off = (a : Int))
  | (.ifCond _ off, a, _, _) => decide ((pc : Int) + off = (a : Int))
  | (.if_icmp _ off, a, _, _) => decide ((pc : Int) + off = (a : Int))
  | (.tableswitch dflt lo hi offs, a, _, _) => decide (a = pc) && decide (0 ≤ (pc : Int) + dflt) && decide (lo ≤ hi + 1) && decide ((offs.size : Int) = hi - lo + 1) && offs.all (fun off => decide (0 ≤ (pc : Int) + off))
  | (.ireturn, _, _, v) => decide (mT z = some (if v = 0 then .int else if v = 1 then .boolean else if v = 2 then .byte else .char))
  | (.return_, _, _, _) => decide (mT z = none)
  | (.getfield idx, a, b, v) => if v = 4 then mSLk.any (fun q => decide (q.2 = (mRc z, idx, 4))) else if v = 5 then mSLk.any (fun q => decide (q.2 = (mRc z, idx, 5)))
    else (mFL.any (fun q => decide (q.2 = (mRc z, idx, a, b))) || mFN.any (fun q => decide (q.2 = (mRc z, idx, a, b)))) && decide (a < 9) && decide (b < mNf a) && decide ((v = 2) = (mFk a b = 2))
  | (.putfield idx, a, b, v) => (mFL.any (fun q => decide (q.2 = (mRc z, idx, a, b))) || mFN.any (fun q => decide (q.2 = (mRc z, idx, a, b)))) && decide (a < 9) && decide (b < mNf a) &&
    (if v = 0 then decide (mFk a b = 0) else if v = 1 then decide (mFk a b = 1) else decide (v = 5) && decide (mFk a b = 2) && decide (mKd z = 2) && decide (mRc z = a) && mFL.any (fun q => decide (q.2 = (mRc z, idx, a, b))))
  | (.getstatic idx, _, _, v) => if v = 0 then mSTk.any (fun q => decide (q.2 = (mRc z, idx, 0))) else mSTk.any (fun q => decide (q.2 = (mRc z, idx, 1)))
  | (.newarray t, a, _, _) => decide ((a = 2 ∧ t = .int) ∨ (a = 3 ∧ t = .char))
  | (.anewarray idx, _, b, _) => mCLk.any (fun q => decide (q.2 = (mRc z, idx, b)))
  | (.new idx, a, b, _) => mCLk.any (fun q => decide (q.2 = (mRc z, idx, a))) && decide (a < 9) && decide (b = mNf a)
  | (.invokespecial idx, a, b, v) => if v = 0 then mML.any (fun q => decide (q.2 = (mRc z, idx, 900))) && decide (40 ≤ mLo z) && decide (1 ≤ mRk z)
    else mML.any (fun q => decide (q.2 = (mRc z, idx, a))) && kCal z a && decide (b = mAn a) && decide (mKd a = 2)
  | (.invokevirtual idx, a, b, v) => if v = 0 then mML.any (fun q => decide (q.2 = (mRc z, idx, a))) && kCal z a && decide (b = mAn a) && decide (mKd a = 0) else true
  | (.invokestatic idx, a, b, v) => if v = 0 then (mML.any (fun q => decide (q.2 = (mRc z, idx, a))) || mMN.any (fun q => decide (q.2 = (mRc z, idx, a)))) && kCal z a && decide (b = mAn a) && decide (mKd a = 1)
    else if v = 1 then mML.any (fun q => decide (q.2 = (mRc z, idx, 901))) && decide (40 ≤ mLo z) && decide (1 ≤ mRk z)
    else if v = 2 then mML.any (fun q => decide (q.2 = (mRc z, idx, 902))) && decide (40 ≤ mLo z) && decide (1 ≤ mRk z)
    else true
  | (.ldc idx, a, _, _) => mLD.any (fun q => decide (q = (idx, a))) && decide (a < 6) && decide (mRc z = 0)
  | _ => true
def kBlk (z : Nat) : Nat → List mIns → Bool
  | _, [] => true
  | pc, i :: is => match i with
    | (.nop, a, _, _) => decide (a = pc)
    | i => decide (decode (mC z) pc = .ok (i.1, kLen i)) && kIns z pc i && (kEnd i || kBlk z (pc + kLen i) is)
def kAll (z : Nat) : Bool := (mBL.getD z []).all (fun q => kBlk z q.1 q.2)
