/-! THE CHECKS of the blocks against the bytes, and the codes' words; laid by wip/whole/gen2.py -/
set_option maxRecDepth 100000 in
theorem wc_0 : lw_tbl[176]? = some (.code yX0_init cX0_init 1 none) := rfl
set_option maxRecDepth 100000 in
theorem wc_1 : lw_tbl[262]? = some (.code yX0_parse cX0_parse 2 none) := rfl
set_option maxRecDepth 100000 in
theorem wc_2 : lw_tbl[265]? = some (.code yX0_lengthOfWord cX0_lengthOfWord 2 (some .int)) := rfl
set_option maxRecDepth 100000 in
theorem wc_3 : lw_tbl[275]? = some (.code yX0_wordOf cX0_wordOf 2 (some .int)) := rfl
set_option maxRecDepth 100000 in
theorem wc_4 : lw_tbl[338]? = some (.code yX0_parseNumber cX0_parseNumber 3 (some .int)) := rfl
set_option maxRecDepth 100000 in
theorem wc_5 : lw_tbl[346]? = some (.code yX0_parseLetters cX0_parseLetters 2 none) := rfl
set_option maxRecDepth 100000 in
theorem wc_6 : lw_tbl[342]? = some (.code yX0_parseBlank cX0_parseBlank 2 none) := rfl
set_option maxRecDepth 100000 in
theorem wc_7 : lw_tbl[272]? = some (.code yX0_isBetween cX0_isBetween 3 (some .boolean)) := rfl
set_option maxRecDepth 100000 in
theorem wc_8 : lw_tbl[144]? = some (.code yX1_init cX1_init 2 none) := rfl
set_option maxRecDepth 100000 in
theorem wc_9 : lw_tbl[357]? = some (.code yX1_remember cX1_remember 2 none) := rfl
set_option maxRecDepth 100000 in
theorem wc_10 : lw_tbl[361]? = some (.code yX1_turn cX1_turn 3 none) := rfl
set_option maxRecDepth 100000 in
theorem wc_11 : lw_tbl[532]? = some (.code yX1_takeBack cX1_takeBack 2 (some .boolean)) := rfl
set_option maxRecDepth 100000 in
theorem wc_12 : lw_tbl[47]? = some (.code yX2_init cX2_init 1 none) := rfl
set_option maxRecDepth 100000 in
theorem wc_13 : lw_tbl[376]? = some (.code yX2_copyFrom cX2_copyFrom 2 none) := rfl
set_option maxRecDepth 100000 in
theorem wc_14 : lw_tbl[420]? = some (.code yX2_add cX2_add 4 none) := rfl
set_option maxRecDepth 100000 in
theorem wc_15 : lw_tbl[424]? = some (.code yX2_dropOldest cX2_dropOldest 1 none) := rfl
set_option maxRecDepth 100000 in
theorem wc_16 : lw_tbl[567]? = some (.code yX2_tell cX2_tell 4 (some .int)) := rfl
set_option maxRecDepth 100000 in
theorem wc_17 : lw_tbl[206]? = some (.code yX3_init cX3_init 1 none) := rfl
set_option maxRecDepth 100000 in
theorem wc_18 : lw_tbl[504]? = some (.code yX3_readAll cX3_readAll 7 none) := rfl
set_option maxRecDepth 100000 in
theorem wc_19 : lw_tbl[507]? = some (.code yX3_measureBetweenEnds cX3_measureBetweenEnds 4 (some .int)) := rfl
set_option maxRecDepth 100000 in
theorem wc_20 : lw_tbl[514]? = some (.code yX3_numberOf cX3_numberOf 3 (some .int)) := rfl
set_option maxRecDepth 100000 in
theorem wc_21 : lw_tbl[518]? = some (.code yX3_judge cX3_judge 4 none) := rfl
set_option maxRecDepth 100000 in
theorem wc_22 : lw_tbl[637]? = some (.code yX3_errorCount cX3_errorCount 1 (some .int)) := rfl
set_option maxRecDepth 100000 in
theorem wc_23 : lw_tbl[666]? = some (.code yX3_readTheSame cX3_readTheSame 4 (some .boolean)) := rfl
set_option maxRecDepth 100000 in
theorem wc_24 : lw_tbl[39]? = some (.code yX4_init cX4_init 2 none) := rfl
set_option maxRecDepth 100000 in
theorem wc_25 : lw_tbl[365]? = some (.code yX4_copyFrom cX4_copyFrom 3 none) := rfl
set_option maxRecDepth 100000 in
theorem wc_26 : lw_tbl[541]? = some (.code yX4_spoolsWithWire cX4_spoolsWithWire 3 (some .int)) := rfl
set_option maxRecDepth 100000 in
theorem wc_27 : lw_tbl[575]? = some (.code yX4_lettersOnAll cX4_lettersOnAll 3 (some .int)) := rfl
set_option maxRecDepth 100000 in
theorem wc_28 : lw_tbl[464]? = some (.code yX4_lowestEmpty cX4_lowestEmpty 2 (some .int)) := rfl
set_option maxRecDepth 100000 in
theorem wc_29 : lw_tbl[435]? = some (.code yX4_wind cX4_wind 6 (some .int)) := rfl
set_option maxRecDepth 100000 in
theorem wc_30 : lw_tbl[447]? = some (.code yX4_breakWire cX4_breakWire 6 none) := rfl
set_option maxRecDepth 100000 in
theorem wc_31 : lw_tbl[161]? = some (.code yX5_init cX5_init 1 none) := rfl
set_option maxRecDepth 100000 in
theorem wc_32 : lw_tbl[619]? = some (.code yX5_add cX5_add 2 (some .boolean)) := rfl
set_option maxRecDepth 100000 in
theorem wc_33 : lw_tbl[269]? = some (.code yX5_codeAt cX5_codeAt 2 (some .int)) := rfl
set_option maxRecDepth 100000 in
theorem wc_34 : lw_tbl[280]? = some (.code yX5_startsWith cX5_startsWith 4 (some .boolean)) := rfl
set_option maxRecDepth 100000 in
theorem wc_35 : lw_tbl[66]? = some (.code yX6_init cX6_init 1 none) := rfl
set_option maxRecDepth 100000 in
theorem wc_36 : lw_tbl[369]? = some (.code yX6_copyFrom cX6_copyFrom 2 none) := rfl
set_option maxRecDepth 100000 in
theorem wc_37 : lw_tbl[413]? = some (.code yX6_gaps cX6_gaps 1 (some .int)) := rfl
set_option maxRecDepth 100000 in
theorem wc_38 : lw_tbl[511]? = some (.code yX6_hasGap cX6_hasGap 2 (some .boolean)) := rfl
set_option maxRecDepth 100000 in
theorem wc_39 : lw_tbl[460]? = some (.code yX6_hasLetter cX6_hasLetter 2 (some .boolean)) := rfl
set_option maxRecDepth 100000 in
theorem wc_40 : lw_tbl[500]? = some (.code yX6_canBeReadBy cX6_canBeReadBy 2 (some .boolean)) := rfl
set_option maxRecDepth 100000 in
theorem wc_41 : lw_tbl[385]? = some (.code yX6_empty cX6_empty 1 none) := rfl
set_option maxRecDepth 100000 in
theorem wc_42 : lw_tbl[381]? = some (.code yX6_begin cX6_begin 1 none) := rfl
set_option maxRecDepth 100000 in
theorem wc_43 : lw_tbl[394]? = some (.code yX6_write cX6_write 2 none) := rfl
set_option maxRecDepth 100000 in
theorem wc_44 : lw_tbl[401]? = some (.code yX6_putEnd cX6_putEnd 1 none) := rfl
set_option maxRecDepth 100000 in
theorem wc_45 : lw_tbl[389]? = some (.code yX6_putGap cX6_putGap 4 none) := rfl
set_option maxRecDepth 100000 in
theorem wc_46 : lw_tbl[477]? = some (.code yX6_copyGap cX6_copyGap 4 none) := rfl
set_option maxRecDepth 100000 in
theorem wc_47 : lw_tbl[468]? = some (.code yX6_takeTail cX6_takeTail 3 none) := rfl
set_option maxRecDepth 100000 in
theorem wc_48 : lw_tbl[485]? = some (.code yX6_join cX6_join 2 none) := rfl
set_option maxRecDepth 100000 in
theorem wc_49 : lw_tbl[473]? = some (.code yX6_appendBehind cX6_appendBehind 6 none) := rfl
set_option maxRecDepth 100000 in
theorem wc_50 : lw_tbl[522]? = some (.code yX6_punchAll cX6_punchAll 3 none) := rfl
set_option maxRecDepth 100000 in
theorem wc_51 : lw_tbl[439]? = some (.code yX6_stretch cX6_stretch 7 (some .int)) := rfl
set_option maxRecDepth 100000 in
theorem wc_52 : lw_tbl[452]? = some (.code yX6_breakAt cX6_breakAt 2 none) := rfl
set_option maxRecDepth 100000 in
theorem wc_53 : lw_tbl[549]? = some (.code yX6_sumOfLengths cX6_sumOfLengths 1 (some .int)) := rfl
set_option maxRecDepth 100000 in
theorem wc_54 : lw_tbl[405]? = some (.code yX6_sumOfNominals cX6_sumOfNominals 1 (some .int)) := rfl
set_option maxRecDepth 100000 in
theorem wc_55 : lw_tbl[409]? = some (.code yX6_sum cX6_sum 5 (some .int)) := rfl
set_option maxRecDepth 100000 in
theorem wc_56 : lw_tbl[553]? = some (.code yX6_nearestToLimit cX6_nearestToLimit 4 (some .int)) := rfl
set_option maxRecDepth 100000 in
theorem wc_57 : lw_tbl[557]? = some (.code yX6_strain cX6_strain 2 (some .int)) := rfl
set_option maxRecDepth 100000 in
theorem wc_58 : lw_tbl[31]? = some (.code yX7_init cX7_init 1 none) := rfl
set_option maxRecDepth 100000 in
theorem wc_59 : lw_tbl[683]? = some (.code yX7_setRule cX7_setRule 3 (some .int)) := rfl
set_option maxRecDepth 100000 in
theorem wc_60 : lw_tbl[687]? = some (.code yX7_setLimit cX7_setLimit 3 (some .int)) := rfl
set_option maxRecDepth 100000 in
theorem wc_61 : lw_tbl[428]? = some (.code yX7_rewind cX7_rewind 4 (some .int)) := rfl
set_option maxRecDepth 100000 in
theorem wc_62 : lw_tbl[456]? = some (.code yX7_cut cX7_cut 4 (some .int)) := rfl
set_option maxRecDepth 100000 in
theorem wc_63 : lw_tbl[481]? = some (.code yX7_splice cX7_splice 5 (some .int)) := rfl
set_option maxRecDepth 100000 in
theorem wc_64 : lw_tbl[489]? = some (.code yX7_close cX7_close 3 (some .int)) := rfl
set_option maxRecDepth 100000 in
theorem wc_65 : lw_tbl[493]? = some (.code yX7_punch cX7_punch 4 (some .int)) := rfl
set_option maxRecDepth 100000 in
theorem wc_66 : lw_tbl[615]? = some (.code yX7_type cX7_type 2 (some .int)) := rfl
set_option maxRecDepth 100000 in
theorem wc_67 : lw_tbl[608]? = some (.code yX7_clearText cX7_clearText 2 (some .int)) := rfl
set_option maxRecDepth 100000 in
theorem wc_68 : lw_tbl[258]? = some (.code yX7_perform cX7_perform 1 (some .int)) := rfl
set_option maxRecDepth 100000 in
theorem wc_69 : lw_tbl[350]? = some (.code yX7_writeWire cX7_writeWire 6 (some .int)) := rfl
set_option maxRecDepth 100000 in
theorem wc_70 : lw_tbl[528]? = some (.code yX7_undo cX7_undo 1 (some .int)) := rfl
set_option maxRecDepth 100000 in
theorem wc_71 : lw_tbl[536]? = some (.code yX7_restore cX7_restore 1 (some .int)) := rfl
set_option maxRecDepth 100000 in
theorem wc_72 : lw_tbl[545]? = some (.code yX7_spool cX7_spool 4 (some .int)) := rfl
set_option maxRecDepth 100000 in
theorem wc_73 : lw_tbl[593]? = some (.code yX7_gap cX7_gap 5 (some .int)) := rfl
set_option maxRecDepth 100000 in
theorem wc_74 : lw_tbl[626]? = some (.code yX7_read cX7_read 6 (some .int)) := rfl
set_option maxRecDepth 100000 in
theorem wc_75 : lw_tbl[642]? = some (.code yX7_errors cX7_errors 5 (some .int)) := rfl
set_option maxRecDepth 100000 in
theorem wc_76 : lw_tbl[633]? = some (.code yX7_bestWay cX7_bestWay 6 (some .int)) := rfl
set_option maxRecDepth 100000 in
theorem wc_77 : lw_tbl[649]? = some (.code yX7_errorsAfter cX7_errorsAfter 9 (some .int)) := rfl
set_option maxRecDepth 100000 in
theorem wc_78 : lw_tbl[662]? = some (.code yX7_safeRewinds cX7_safeRewinds 6 (some .int)) := rfl
set_option maxRecDepth 100000 in
theorem wc_79 : lw_tbl[563]? = some (.code yX7_event cX7_event 3 (some .int)) := rfl
set_option maxRecDepth 100000 in
theorem wc_80 : lw_tbl[571]? = some (.code yX7_count cX7_count 2 (some .int)) := rfl
set_option maxRecDepth 100000 in
theorem wc_81 : lw_tbl[353]? = some (.code yX7_isSpool cX7_isSpool 1 (some .boolean)) := rfl
set_option maxRecDepth 100000 in
theorem wc_82 : lw_tbl[431]? = some (.code yX7_isPull cX7_isPull 1 (some .boolean)) := rfl
set_option maxRecDepth 100000 in
theorem wc_83 : lw_tbl[496]? = some (.code yX7_isWay cX7_isWay 1 (some .boolean)) := rfl
set_option maxRecDepth 100000 in
theorem wc_84 : lw_tbl[652]? = some (.code yX7_isWayOfOneEnd cX7_isWayOfOneEnd 1 (some .boolean)) := rfl
set_option maxRecDepth 100000 in
theorem wc_85 : lw_tbl[397]? = some (.code yX7_nominalOf cX7_nominalOf 1 (some .int)) := rfl
set_option maxRecDepth 100000 in
theorem wc_86 : lw_tbl[442]? = some (.code yX7_stretchOf cX7_stretchOf 4 (some .int)) := rfl
set_option maxRecDepth 100000 in
theorem wc_87 : lw_tbl[284]? = some (.code yJ0_length_8abf5 cJ0_length_8abf5 1 (some .int)) := rfl
set_option maxRecDepth 100000 in
theorem wc_88 : lw_tbl[295]? = some (.code yJ0_charAt_5068e cJ0_charAt_5068e 2 (some .char)) := rfl
set_option maxRecDepth 100000 in
theorem wc_89 : lw_tbl[288]? = some (.code yJ0_coder_7d493 cJ0_coder_7d493 1 (some .byte)) := rfl
set_option maxRecDepth 100000 in
theorem wc_90 : lw_tbl[299]? = some (.code yJ0_isLatin1_aae02 cJ0_isLatin1_aae02 1 (some .boolean)) := rfl
set_option maxRecDepth 100000 in
theorem wc_91 : lw_tbl[305]? = some (.code yJ0_checkIndex_df160 cJ0_checkIndex_df160 2 none) := rfl
set_option maxRecDepth 100000 in
theorem wc_92 : lw_tbl[302]? = some (.code yJ1_charAt_3b067 cJ1_charAt_3b067 2 (some .char)) := rfl
set_option maxRecDepth 100000 in
theorem wc_93 : lw_tbl[310]? = some (.code yJ3_checkIndex_8e157 cJ3_checkIndex_8e157 3 (some .int)) := rfl
set_option maxRecDepth 100000 in
theorem wc_94 : lw_tbl[578]? = some (.code yL_cell cL_cell 2 (some .int)) := rfl
set_option maxRecDepth 100000 in
theorem wc_95 : lw_tbl[582]? = some (.code yL_low cL_low 2 (some .int)) := rfl
set_option maxRecDepth 100000 in
theorem wc_96 : lw_tbl[586]? = some (.code yL_digest cL_digest 5 (some .long)) := rfl
set_option maxRecDepth 100000 in
theorem wc_97 : lw_tbl[611]? = some (.code yL_types cL_types 2 none) := rfl
set_option maxRecDepth 100000 in
theorem wc_98 : lw_tbl[604]? = some (.code yL_word cL_word 7 none) := rfl
set_option maxRecDepth 100000 in
theorem wc_99 : lw_tbl[622]? = some (.code yL_number cL_number 2 none) := rfl
set_option maxRecDepth 100000 in
theorem wc_100 : lw_tbl[601]? = some (.code yL_writes cL_writes 10 (some .boolean)) := rfl
set_option maxRecDepth 100000 in
theorem wc_101 : lw_tbl[629]? = some (.code yL_told cL_told 15 (some .boolean)) := rfl
set_option maxRecDepth 100000 in
theorem wc_102 : lw_tbl[658]? = some (.code yL_rewinds cL_rewinds 19 (some .boolean)) := rfl
set_option maxRecDepth 100000 in
theorem wc_103 : lw_tbl[669]? = some (.code yL_cuts cL_cuts 10 (some .boolean)) := rfl
set_option maxRecDepth 100000 in
theorem wc_104 : lw_tbl[672]? = some (.code yL_splices cL_splices 10 (some .boolean)) := rfl
set_option maxRecDepth 100000 in
theorem wc_105 : lw_tbl[676]? = some (.code yL_ends cL_ends 8 (some .boolean)) := rfl
set_option maxRecDepth 100000 in
theorem wc_106 : lw_tbl[679]? = some (.code yL_sets cL_sets 6 (some .boolean)) := rfl
theorem k_0 : kAll 0 = true := by decide +kernel
theorem k_1 : kAll 1 = true := by decide +kernel
theorem k_2 : kAll 2 = true := by decide +kernel
theorem k_3 : kAll 3 = true := by decide +kernel
theorem k_4 : kAll 4 = true := by decide +kernel
theorem k_5 : kAll 5 = true := by decide +kernel
theorem k_6 : kAll 6 = true := by decide +kernel
theorem k_7 : kAll 7 = true := by decide +kernel
theorem k_8 : kAll 8 = true := by decide +kernel
theorem k_9 : kAll 9 = true := by decide +kernel
theorem k_10 : kAll 10 = true := by decide +kernel
theorem k_11 : kAll 11 = true := by decide +kernel
theorem k_12 : kAll 12 = true := by decide +kernel
theorem k_13 : kAll 13 = true := by decide +kernel
theorem k_14 : kAll 14 = true := by decide +kernel
theorem k_15 : kAll 15 = true := by decide +kernel
theorem k_16 : kAll 16 = true := by decide +kernel
theorem k_17 : kAll 17 = true := by decide +kernel
theorem k_18 : kAll 18 = true := by decide +kernel
theorem k_19 : kAll 19 = true := by decide +kernel
theorem k_20 : kAll 20 = true := by decide +kernel
theorem k_21 : kAll 21 = true := by decide +kernel
theorem k_22 : kAll 22 = true := by decide +kernel
theorem k_23 : kAll 23 = true := by decide +kernel
theorem k_24 : kAll 24 = true := by decide +kernel
theorem k_25 : kAll 25 = true := by decide +kernel
theorem k_26 : kAll 26 = true := by decide +kernel
theorem k_27 : kAll 27 = true := by decide +kernel
theorem k_28 : kAll 28 = true := by decide +kernel
theorem k_29 : kAll 29 = true := by decide +kernel
theorem k_30 : kAll 30 = true := by decide +kernel
theorem k_31 : kAll 31 = true := by decide +kernel
theorem k_32 : kAll 32 = true := by decide +kernel
theorem k_33 : kAll 33 = true := by decide +kernel
theorem k_34 : kAll 34 = true := by decide +kernel
theorem k_35 : kAll 35 = true := by decide +kernel
theorem k_36 : kAll 36 = true := by decide +kernel
theorem k_37 : kAll 37 = true := by decide +kernel
theorem k_38 : kAll 38 = true := by decide +kernel
theorem k_39 : kAll 39 = true := by decide +kernel
theorem k_40 : kAll 40 = true := by decide +kernel
theorem k_41 : kAll 41 = true := by decide +kernel
theorem k_42 : kAll 42 = true := by decide +kernel
theorem k_43 : kAll 43 = true := by decide +kernel
theorem k_44 : kAll 44 = true := by decide +kernel
theorem k_45 : kAll 45 = true := by decide +kernel
theorem k_46 : kAll 46 = true := by decide +kernel
theorem k_47 : kAll 47 = true := by decide +kernel
theorem k_48 : kAll 48 = true := by decide +kernel
theorem k_49 : kAll 49 = true := by decide +kernel
theorem k_50 : kAll 50 = true := by decide +kernel
theorem k_51 : kAll 51 = true := by decide +kernel
theorem k_52 : kAll 52 = true := by decide +kernel
theorem k_53 : kAll 53 = true := by decide +kernel
theorem k_54 : kAll 54 = true := by decide +kernel
theorem k_55 : kAll 55 = true := by decide +kernel
theorem k_56 : kAll 56 = true := by decide +kernel
theorem k_57 : kAll 57 = true := by decide +kernel
theorem k_58 : kAll 58 = true := by decide +kernel
theorem k_59 : kAll 59 = true := by decide +kernel
theorem k_60 : kAll 60 = true := by decide +kernel
theorem k_61 : kAll 61 = true := by decide +kernel
theorem k_62 : kAll 62 = true := by decide +kernel
theorem k_63 : kAll 63 = true := by decide +kernel
theorem k_64 : kAll 64 = true := by decide +kernel
theorem k_65 : kAll 65 = true := by decide +kernel
theorem k_66 : kAll 66 = true := by decide +kernel
theorem k_67 : kAll 67 = true := by decide +kernel
theorem k_68 : kAll 68 = true := by decide +kernel
theorem k_69 : kAll 69 = true := by decide +kernel
theorem k_70 : kAll 70 = true := by decide +kernel
theorem k_71 : kAll 71 = true := by decide +kernel
theorem k_72 : kAll 72 = true := by decide +kernel
theorem k_73 : kAll 73 = true := by decide +kernel
theorem k_74 : kAll 74 = true := by decide +kernel
theorem k_75 : kAll 75 = true := by decide +kernel
theorem k_76 : kAll 76 = true := by decide +kernel
theorem k_77 : kAll 77 = true := by decide +kernel
theorem k_78 : kAll 78 = true := by decide +kernel
theorem k_79 : kAll 79 = true := by decide +kernel
theorem k_80 : kAll 80 = true := by decide +kernel
theorem k_81 : kAll 81 = true := by decide +kernel
theorem k_82 : kAll 82 = true := by decide +kernel
theorem k_83 : kAll 83 = true := by decide +kernel
theorem k_84 : kAll 84 = true := by decide +kernel
theorem k_85 : kAll 85 = true := by decide +kernel
theorem k_86 : kAll 86 = true := by decide +kernel
theorem k_87 : kAll 87 = true := by decide +kernel
theorem k_88 : kAll 88 = true := by decide +kernel
theorem k_89 : kAll 89 = true := by decide +kernel
theorem k_90 : kAll 90 = true := by decide +kernel
theorem k_91 : kAll 91 = true := by decide +kernel
theorem k_92 : kAll 92 = true := by decide +kernel
theorem k_93 : kAll 93 = true := by decide +kernel
theorem k_94 : kAll 94 = true := by decide +kernel
theorem k_95 : kAll 95 = true := by decide +kernel
theorem k_96 : kAll 96 = true := by decide +kernel
theorem k_97 : kAll 97 = true := by decide +kernel
theorem k_98 : kAll 98 = true := by decide +kernel
theorem k_99 : kAll 99 = true := by decide +kernel
theorem k_100 : kAll 100 = true := by decide +kernel
theorem k_101 : kAll 101 = true := by decide +kernel
theorem k_102 : kAll 102 = true := by decide +kernel
theorem k_103 : kAll 103 = true := by decide +kernel
theorem k_104 : kAll 104 = true := by decide +kernel
theorem k_105 : kAll 105 = true := by decide +kernel
theorem k_106 : kAll 106 = true := by decide +kernel
theorem wg_0 : ∀ z, z < 20 → 0 ≤ z → lw_tbl[mPcL.getD z 9999]? = some (.code (mY z) (mC z) (mN z) (mT z)) ∧ kAll z = true := by
  intro z h1 h2
  rcases (show z = 0 ∨ z = 1 ∨ z = 2 ∨ z = 3 ∨ z = 4 ∨ z = 5 ∨ z = 6 ∨ z = 7 ∨ z = 8 ∨ z = 9 ∨ z = 10 ∨ z = 11 ∨ z = 12 ∨ z = 13 ∨ z = 14 ∨ z = 15 ∨ z = 16 ∨ z = 17 ∨ z = 18 ∨ z = 19 by omega) with rfl | rfl | rfl | rfl | rfl | rfl | rfl | rfl | rfl | rfl | rfl | rfl | rfl | rfl | rfl | rfl | rfl | rfl | rfl | rfl
  · exact ⟨wc_0, k_0⟩
  · exact ⟨wc_1, k_1⟩
  · exact ⟨wc_2, k_2⟩
  · exact ⟨wc_3, k_3⟩
  · exact ⟨wc_4, k_4⟩
  · exact ⟨wc_5, k_5⟩
  · exact ⟨wc_6, k_6⟩
  · exact ⟨wc_7, k_7⟩
  · exact ⟨wc_8, k_8⟩
  · exact ⟨wc_9, k_9⟩
  · exact ⟨wc_10, k_10⟩
  · exact ⟨wc_11, k_11⟩
  · exact ⟨wc_12, k_12⟩
  · exact ⟨wc_13, k_13⟩
  · exact ⟨wc_14, k_14⟩
  · exact ⟨wc_15, k_15⟩
  · exact ⟨wc_16, k_16⟩
  · exact ⟨wc_17, k_17⟩
  · exact ⟨wc_18, k_18⟩
  · exact ⟨wc_19, k_19⟩
theorem wg_20 : ∀ z, z < 40 → 20 ≤ z → lw_tbl[mPcL.getD z 9999]? = some (.code (mY z) (mC z) (mN z) (mT z)) ∧ kAll z = true := by
  intro z h1 h2
  rcases (show z = 20 ∨ z = 21 ∨ z = 22 ∨ z = 23 ∨ z = 24 ∨ z = 25 ∨ z = 26 ∨ z = 27 ∨ z = 28 ∨ z = 29 ∨ z = 30 ∨ z = 31 ∨ z = 32 ∨ z = 33 ∨ z = 34 ∨ z = 35 ∨ z = 36 ∨ z = 37 ∨ z = 38 ∨ z = 39 by omega) with rfl | rfl | rfl | rfl | rfl | rfl | rfl | rfl | rfl | rfl | rfl | rfl | rfl | rfl | rfl | rfl | rfl | rfl | rfl | rfl
  · exact ⟨wc_20, k_20⟩
  · exact ⟨wc_21, k_21⟩
  · exact ⟨wc_22, k_22⟩
  · exact ⟨wc_23, k_23⟩
  · exact ⟨wc_24, k_24⟩
  · exact ⟨wc_25, k_25⟩
  · exact ⟨wc_26, k_26⟩
  · exact ⟨wc_27, k_27⟩
  · exact ⟨wc_28, k_28⟩
  · exact ⟨wc_29, k_29⟩
  · exact ⟨wc_30, k_30⟩
  · exact ⟨wc_31, k_31⟩
  · exact ⟨wc_32, k_32⟩
  · exact ⟨wc_33, k_33⟩
  · exact ⟨wc_34, k_34⟩
  · exact ⟨wc_35, k_35⟩
  · exact ⟨wc_36, k_36⟩
  · exact ⟨wc_37, k_37⟩
  · exact ⟨wc_38, k_38⟩
  · exact ⟨wc_39, k_39⟩
theorem wg_40 : ∀ z, z < 60 → 40 ≤ z → lw_tbl[mPcL.getD z 9999]? = some (.code (mY z) (mC z) (mN z) (mT z)) ∧ kAll z = true := by
  intro z h1 h2
  rcases (show z = 40 ∨ z = 41 ∨ z = 42 ∨ z = 43 ∨ z = 44 ∨ z = 45 ∨ z = 46 ∨ z = 47 ∨ z = 48 ∨ z = 49 ∨ z = 50 ∨ z = 51 ∨ z = 52 ∨ z = 53 ∨ z = 54 ∨ z = 55 ∨ z = 56 ∨ z = 57 ∨ z = 58 ∨ z = 59 by omega) with rfl | rfl | rfl | rfl | rfl | rfl | rfl | rfl | rfl | rfl | rfl | rfl | rfl | rfl | rfl | rfl | rfl | rfl | rfl | rfl
  · exact ⟨wc_40, k_40⟩
  · exact ⟨wc_41, k_41⟩
  · exact ⟨wc_42, k_42⟩
  · exact ⟨wc_43, k_43⟩
  · exact ⟨wc_44, k_44⟩
  · exact ⟨wc_45, k_45⟩
  · exact ⟨wc_46, k_46⟩
  · exact ⟨wc_47, k_47⟩
  · exact ⟨wc_48, k_48⟩
  · exact ⟨wc_49, k_49⟩
  · exact ⟨wc_50, k_50⟩
  · exact ⟨wc_51, k_51⟩
  · exact ⟨wc_52, k_52⟩
  · exact ⟨wc_53, k_53⟩
  · exact ⟨wc_54, k_54⟩
  · exact ⟨wc_55, k_55⟩
  · exact ⟨wc_56, k_56⟩
  · exact ⟨wc_57, k_57⟩
  · exact ⟨wc_58, k_58⟩
  · exact ⟨wc_59, k_59⟩
theorem wg_60 : ∀ z, z < 80 → 60 ≤ z → lw_tbl[mPcL.getD z 9999]? = some (.code (mY z) (mC z) (mN z) (mT z)) ∧ kAll z = true := by
  intro z h1 h2
  rcases (show z = 60 ∨ z = 61 ∨ z = 62 ∨ z = 63 ∨ z = 64 ∨ z = 65 ∨ z = 66 ∨ z = 67 ∨ z = 68 ∨ z = 69 ∨ z = 70 ∨ z = 71 ∨ z = 72 ∨ z = 73 ∨ z = 74 ∨ z = 75 ∨ z = 76 ∨ z = 77 ∨ z = 78 ∨ z = 79 by omega) with rfl | rfl | rfl | rfl | rfl | rfl | rfl | rfl | rfl | rfl | rfl | rfl | rfl | rfl | rfl | rfl | rfl | rfl | rfl | rfl
  · exact ⟨wc_60, k_60⟩
  · exact ⟨wc_61, k_61⟩
  · exact ⟨wc_62, k_62⟩
  · exact ⟨wc_63, k_63⟩
  · exact ⟨wc_64, k_64⟩
  · exact ⟨wc_65, k_65⟩
  · exact ⟨wc_66, k_66⟩
  · exact ⟨wc_67, k_67⟩
  · exact ⟨wc_68, k_68⟩
  · exact ⟨wc_69, k_69⟩
  · exact ⟨wc_70, k_70⟩
  · exact ⟨wc_71, k_71⟩
  · exact ⟨wc_72, k_72⟩
  · exact ⟨wc_73, k_73⟩
  · exact ⟨wc_74, k_74⟩
  · exact ⟨wc_75, k_75⟩
  · exact ⟨wc_76, k_76⟩
  · exact ⟨wc_77, k_77⟩
  · exact ⟨wc_78, k_78⟩
  · exact ⟨wc_79, k_79⟩
theorem wg_80 : ∀ z, z < 100 → 80 ≤ z → lw_tbl[mPcL.getD z 9999]? = some (.code (mY z) (mC z) (mN z) (mT z)) ∧ kAll z = true := by
  intro z h1 h2
  rcases (show z = 80 ∨ z = 81 ∨ z = 82 ∨ z = 83 ∨ z = 84 ∨ z = 85 ∨ z = 86 ∨ z = 87 ∨ z = 88 ∨ z = 89 ∨ z = 90 ∨ z = 91 ∨ z = 92 ∨ z = 93 ∨ z = 94 ∨ z = 95 ∨ z = 96 ∨ z = 97 ∨ z = 98 ∨ z = 99 by omega) with rfl | rfl | rfl | rfl | rfl | rfl | rfl | rfl | rfl | rfl | rfl | rfl | rfl | rfl | rfl | rfl | rfl | rfl | rfl | rfl
  · exact ⟨wc_80, k_80⟩
  · exact ⟨wc_81, k_81⟩
  · exact ⟨wc_82, k_82⟩
  · exact ⟨wc_83, k_83⟩
  · exact ⟨wc_84, k_84⟩
  · exact ⟨wc_85, k_85⟩
  · exact ⟨wc_86, k_86⟩
  · exact ⟨wc_87, k_87⟩
  · exact ⟨wc_88, k_88⟩
  · exact ⟨wc_89, k_89⟩
  · exact ⟨wc_90, k_90⟩
  · exact ⟨wc_91, k_91⟩
  · exact ⟨wc_92, k_92⟩
  · exact ⟨wc_93, k_93⟩
  · exact ⟨wc_94, k_94⟩
  · exact ⟨wc_95, k_95⟩
  · exact ⟨wc_96, k_96⟩
  · exact ⟨wc_97, k_97⟩
  · exact ⟨wc_98, k_98⟩
  · exact ⟨wc_99, k_99⟩
theorem wg_100 : ∀ z, z < 107 → 100 ≤ z → lw_tbl[mPcL.getD z 9999]? = some (.code (mY z) (mC z) (mN z) (mT z)) ∧ kAll z = true := by
  intro z h1 h2
  rcases (show z = 100 ∨ z = 101 ∨ z = 102 ∨ z = 103 ∨ z = 104 ∨ z = 105 ∨ z = 106 by omega) with rfl | rfl | rfl | rfl | rfl | rfl | rfl
  · exact ⟨wc_100, k_100⟩
  · exact ⟨wc_101, k_101⟩
  · exact ⟨wc_102, k_102⟩
  · exact ⟨wc_103, k_103⟩
  · exact ⟨wc_104, k_104⟩
  · exact ⟨wc_105, k_105⟩
  · exact ⟨wc_106, k_106⟩
theorem w_ck : ∀ z, z < 107 → lw_tbl[mPcL.getD z 9999]? = some (.code (mY z) (mC z) (mN z) (mT z)) ∧ kAll z = true := by
  intro z hz
  rcases Nat.lt_or_ge z 100 with q | q
  case inr => exact wg_100 z (by omega) q
  rcases Nat.lt_or_ge z 80 with q | q
  case inr => exact wg_80 z (by omega) q
  rcases Nat.lt_or_ge z 60 with q | q
  case inr => exact wg_60 z (by omega) q
  rcases Nat.lt_or_ge z 40 with q | q
  case inr => exact wg_40 z (by omega) q
  rcases Nat.lt_or_ge z 20 with q | q
  case inr => exact wg_20 z (by omega) q
  exact wg_0 z (by omega) (by omega)
theorem kl_0 : kBlk 107 0 bk_107_0 = true := by decide +kernel
theorem kl_77 : kBlk 107 77 bk_107_77 = true := by decide +kernel
theorem kl_79 : kBlk 107 79 bk_107_79 = true := by decide +kernel
theorem kl_81 : kBlk 107 81 bk_107_81 = true := by decide +kernel
theorem kl_144 : kBlk 107 144 bk_107_144 = true := by decide +kernel
theorem kl_145 : kBlk 107 145 bk_107_145 = true := by decide +kernel
theorem kl_171 : kBlk 107 171 bk_107_171 = true := by decide +kernel
theorem kl_185 : kBlk 107 185 bk_107_185 = true := by decide +kernel
theorem kl_205 : kBlk 107 205 bk_107_205 = true := by decide +kernel
theorem kl_224 : kBlk 107 224 bk_107_224 = true := by decide +kernel
theorem kl_238 : kBlk 107 238 bk_107_238 = true := by decide +kernel
theorem kl_251 : kBlk 107 251 bk_107_251 = true := by decide +kernel
theorem kl_265 : kBlk 107 265 bk_107_265 = true := by decide +kernel
theorem kl_278 : kBlk 107 278 bk_107_278 = true := by decide +kernel
theorem kl_287 : kBlk 107 287 bk_107_287 = true := by decide +kernel
theorem kl_297 : kBlk 107 297 bk_107_297 = true := by decide +kernel
theorem kl_299 : kBlk 107 299 bk_107_299 = true := by decide +kernel
theorem kl_342 : kBlk 107 342 bk_107_342 = true := by decide +kernel
theorem kl_365 : kBlk 107 365 bk_107_365 = true := by decide +kernel
theorem kl_366 : kBlk 107 366 bk_107_366 = true := by decide +kernel
theorem kl_368 : kBlk 107 368 bk_107_368 = true := by decide +kernel
theorem kl_375 : kBlk 107 375 bk_107_375 = true := by decide +kernel
theorem kl_384 : kBlk 107 384 bk_107_384 = true := by decide +kernel
theorem kl_402 : kBlk 107 402 bk_107_402 = true := by decide +kernel
theorem kl_418 : kBlk 107 418 bk_107_418 = true := by decide +kernel
theorem kl_425 : kBlk 107 425 bk_107_425 = true := by decide +kernel
theorem kl_444 : kBlk 107 444 bk_107_444 = true := by decide +kernel
theorem kl_445 : kBlk 107 445 bk_107_445 = true := by decide +kernel
theorem kl_454 : kBlk 107 454 bk_107_454 = true := by decide +kernel
theorem kl_474 : kBlk 107 474 bk_107_474 = true := by decide +kernel
theorem kl_476 : kBlk 107 476 bk_107_476 = true := by decide +kernel
theorem kl_482 : kBlk 107 482 bk_107_482 = true := by decide +kernel
theorem k_law : kAll 107 = true := by
  show (bl_107).all (fun q => kBlk 107 q.1 q.2) = true
  simp only [bl_107, List.all_cons, List.all_nil, Bool.and_true, kl_0, kl_77, kl_79, kl_81, kl_144, kl_145, kl_171, kl_185, kl_205, kl_224, kl_238, kl_251, kl_265, kl_278, kl_287, kl_297, kl_299, kl_342, kl_365, kl_366, kl_368, kl_375, kl_384, kl_402, kl_418, kl_425, kl_444, kl_445, kl_454, kl_474, kl_476, kl_482]
