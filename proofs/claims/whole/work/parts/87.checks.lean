/-! THE CHECKS of the blocks against the bytes, and the codes' words; laid by wip/whole/gen2.py -/
set_option maxRecDepth 100000 in
theorem wc_0 : lw_tbl[207]? = some (.code yX0_init cX0_init 1 none) := rfl
set_option maxRecDepth 100000 in
theorem wc_1 : lw_tbl[480]? = some (.code yX0_parse cX0_parse 2 none) := rfl
set_option maxRecDepth 100000 in
theorem wc_2 : lw_tbl[483]? = some (.code yX0_lengthOfWord cX0_lengthOfWord 2 (some .int)) := rfl
set_option maxRecDepth 100000 in
theorem wc_3 : lw_tbl[493]? = some (.code yX0_wordOf cX0_wordOf 2 (some .int)) := rfl
set_option maxRecDepth 100000 in
theorem wc_4 : lw_tbl[556]? = some (.code yX0_parseNumber cX0_parseNumber 3 (some .int)) := rfl
set_option maxRecDepth 100000 in
theorem wc_5 : lw_tbl[564]? = some (.code yX0_parseLetters cX0_parseLetters 2 none) := rfl
set_option maxRecDepth 100000 in
theorem wc_6 : lw_tbl[560]? = some (.code yX0_parseBlank cX0_parseBlank 2 none) := rfl
set_option maxRecDepth 100000 in
theorem wc_7 : lw_tbl[490]? = some (.code yX0_isBetween cX0_isBetween 3 (some .boolean)) := rfl
set_option maxRecDepth 100000 in
theorem wc_8 : lw_tbl[175]? = some (.code yX1_init cX1_init 2 none) := rfl
set_option maxRecDepth 100000 in
theorem wc_9 : lw_tbl[293]? = some (.code yX1_remember cX1_remember 2 none) := rfl
set_option maxRecDepth 100000 in
theorem wc_10 : lw_tbl[297]? = some (.code yX1_turn cX1_turn 3 none) := rfl
set_option maxRecDepth 100000 in
theorem wc_11 : lw_tbl[588]? = some (.code yX1_takeBack cX1_takeBack 2 (some .boolean)) := rfl
set_option maxRecDepth 100000 in
theorem wc_12 : lw_tbl[78]? = some (.code yX2_init cX2_init 1 none) := rfl
set_option maxRecDepth 100000 in
theorem wc_13 : lw_tbl[312]? = some (.code yX2_copyFrom cX2_copyFrom 2 none) := rfl
set_option maxRecDepth 100000 in
theorem wc_14 : lw_tbl[349]? = some (.code yX2_add cX2_add 4 none) := rfl
set_option maxRecDepth 100000 in
theorem wc_15 : lw_tbl[353]? = some (.code yX2_dropOldest cX2_dropOldest 1 none) := rfl
set_option maxRecDepth 100000 in
theorem wc_16 : lw_tbl[668]? = some (.code yX2_tell cX2_tell 4 (some .int)) := rfl
set_option maxRecDepth 100000 in
theorem wc_17 : lw_tbl[237]? = some (.code yX3_init cX3_init 1 none) := rfl
set_option maxRecDepth 100000 in
theorem wc_18 : lw_tbl[430]? = some (.code yX3_readAll cX3_readAll 7 none) := rfl
set_option maxRecDepth 100000 in
theorem wc_19 : lw_tbl[433]? = some (.code yX3_measureBetweenEnds cX3_measureBetweenEnds 4 (some .int)) := rfl
set_option maxRecDepth 100000 in
theorem wc_20 : lw_tbl[440]? = some (.code yX3_numberOf cX3_numberOf 3 (some .int)) := rfl
set_option maxRecDepth 100000 in
theorem wc_21 : lw_tbl[444]? = some (.code yX3_judge cX3_judge 4 none) := rfl
set_option maxRecDepth 100000 in
theorem wc_22 : lw_tbl[642]? = some (.code yX3_errorCount cX3_errorCount 1 (some .int)) := rfl
set_option maxRecDepth 100000 in
theorem wc_23 : lw_tbl[660]? = some (.code yX3_readTheSame cX3_readTheSame 4 (some .boolean)) := rfl
set_option maxRecDepth 100000 in
theorem wc_24 : lw_tbl[70]? = some (.code yX4_init cX4_init 2 none) := rfl
set_option maxRecDepth 100000 in
theorem wc_25 : lw_tbl[301]? = some (.code yX4_copyFrom cX4_copyFrom 3 none) := rfl
set_option maxRecDepth 100000 in
theorem wc_26 : lw_tbl[597]? = some (.code yX4_spoolsWithWire cX4_spoolsWithWire 3 (some .int)) := rfl
set_option maxRecDepth 100000 in
theorem wc_27 : lw_tbl[676]? = some (.code yX4_lettersOnAll cX4_lettersOnAll 3 (some .int)) := rfl
set_option maxRecDepth 100000 in
theorem wc_28 : lw_tbl[378]? = some (.code yX4_lowestEmpty cX4_lowestEmpty 2 (some .int)) := rfl
set_option maxRecDepth 100000 in
theorem wc_29 : lw_tbl[331]? = some (.code yX4_wind cX4_wind 6 (some .int)) := rfl
set_option maxRecDepth 100000 in
theorem wc_30 : lw_tbl[357]? = some (.code yX4_breakWire cX4_breakWire 6 none) := rfl
set_option maxRecDepth 100000 in
theorem wc_31 : lw_tbl[192]? = some (.code yX5_init cX5_init 1 none) := rfl
set_option maxRecDepth 100000 in
theorem wc_32 : lw_tbl[468]? = some (.code yX5_add cX5_add 2 (some .boolean)) := rfl
set_option maxRecDepth 100000 in
theorem wc_33 : lw_tbl[487]? = some (.code yX5_codeAt cX5_codeAt 2 (some .int)) := rfl
set_option maxRecDepth 100000 in
theorem wc_34 : lw_tbl[498]? = some (.code yX5_startsWith cX5_startsWith 4 (some .boolean)) := rfl
set_option maxRecDepth 100000 in
theorem wc_35 : lw_tbl[97]? = some (.code yX6_init cX6_init 1 none) := rfl
set_option maxRecDepth 100000 in
theorem wc_36 : lw_tbl[305]? = some (.code yX6_copyFrom cX6_copyFrom 2 none) := rfl
set_option maxRecDepth 100000 in
theorem wc_37 : lw_tbl[339]? = some (.code yX6_gaps cX6_gaps 1 (some .int)) := rfl
set_option maxRecDepth 100000 in
theorem wc_38 : lw_tbl[437]? = some (.code yX6_hasGap cX6_hasGap 2 (some .boolean)) := rfl
set_option maxRecDepth 100000 in
theorem wc_39 : lw_tbl[374]? = some (.code yX6_hasLetter cX6_hasLetter 2 (some .boolean)) := rfl
set_option maxRecDepth 100000 in
theorem wc_40 : lw_tbl[426]? = some (.code yX6_canBeReadBy cX6_canBeReadBy 2 (some .boolean)) := rfl
set_option maxRecDepth 100000 in
theorem wc_41 : lw_tbl[366]? = some (.code yX6_empty cX6_empty 1 none) := rfl
set_option maxRecDepth 100000 in
theorem wc_42 : lw_tbl[386]? = some (.code yX6_begin cX6_begin 1 none) := rfl
set_option maxRecDepth 100000 in
theorem wc_43 : lw_tbl[574]? = some (.code yX6_write cX6_write 2 none) := rfl
set_option maxRecDepth 100000 in
theorem wc_44 : lw_tbl[415]? = some (.code yX6_putEnd cX6_putEnd 1 none) := rfl
set_option maxRecDepth 100000 in
theorem wc_45 : lw_tbl[390]? = some (.code yX6_putGap cX6_putGap 4 none) := rfl
set_option maxRecDepth 100000 in
theorem wc_46 : lw_tbl[398]? = some (.code yX6_copyGap cX6_copyGap 4 none) := rfl
set_option maxRecDepth 100000 in
theorem wc_47 : lw_tbl[382]? = some (.code yX6_takeTail cX6_takeTail 3 none) := rfl
set_option maxRecDepth 100000 in
theorem wc_48 : lw_tbl[407]? = some (.code yX6_join cX6_join 2 none) := rfl
set_option maxRecDepth 100000 in
theorem wc_49 : lw_tbl[394]? = some (.code yX6_appendBehind cX6_appendBehind 6 none) := rfl
set_option maxRecDepth 100000 in
theorem wc_50 : lw_tbl[448]? = some (.code yX6_punchAll cX6_punchAll 3 none) := rfl
set_option maxRecDepth 100000 in
theorem wc_51 : lw_tbl[335]? = some (.code yX6_stretch cX6_stretch 7 (some .int)) := rfl
set_option maxRecDepth 100000 in
theorem wc_52 : lw_tbl[362]? = some (.code yX6_breakAt cX6_breakAt 2 none) := rfl
set_option maxRecDepth 100000 in
theorem wc_53 : lw_tbl[609]? = some (.code yX6_sumOfLengths cX6_sumOfLengths 1 (some .int)) := rfl
set_option maxRecDepth 100000 in
theorem wc_54 : lw_tbl[456]? = some (.code yX6_sumOfNominals cX6_sumOfNominals 1 (some .int)) := rfl
set_option maxRecDepth 100000 in
theorem wc_55 : lw_tbl[460]? = some (.code yX6_sum cX6_sum 5 (some .int)) := rfl
set_option maxRecDepth 100000 in
theorem wc_56 : lw_tbl[613]? = some (.code yX6_nearestToLimit cX6_nearestToLimit 4 (some .int)) := rfl
set_option maxRecDepth 100000 in
theorem wc_57 : lw_tbl[617]? = some (.code yX6_strain cX6_strain 2 (some .int)) := rfl
set_option maxRecDepth 100000 in
theorem wc_58 : lw_tbl[62]? = some (.code yX7_init cX7_init 1 none) := rfl
set_option maxRecDepth 100000 in
theorem wc_59 : lw_tbl[289]? = some (.code yX7_setRule cX7_setRule 3 (some .int)) := rfl
set_option maxRecDepth 100000 in
theorem wc_60 : lw_tbl[317]? = some (.code yX7_setLimit cX7_setLimit 3 (some .int)) := rfl
set_option maxRecDepth 100000 in
theorem wc_61 : lw_tbl[321]? = some (.code yX7_rewind cX7_rewind 4 (some .int)) := rfl
set_option maxRecDepth 100000 in
theorem wc_62 : lw_tbl[370]? = some (.code yX7_cut cX7_cut 4 (some .int)) := rfl
set_option maxRecDepth 100000 in
theorem wc_63 : lw_tbl[403]? = some (.code yX7_splice cX7_splice 5 (some .int)) := rfl
set_option maxRecDepth 100000 in
theorem wc_64 : lw_tbl[411]? = some (.code yX7_close cX7_close 3 (some .int)) := rfl
set_option maxRecDepth 100000 in
theorem wc_65 : lw_tbl[419]? = some (.code yX7_punch cX7_punch 4 (some .int)) := rfl
set_option maxRecDepth 100000 in
theorem wc_66 : lw_tbl[464]? = some (.code yX7_type cX7_type 2 (some .int)) := rfl
set_option maxRecDepth 100000 in
theorem wc_67 : lw_tbl[472]? = some (.code yX7_clearText cX7_clearText 2 (some .int)) := rfl
set_option maxRecDepth 100000 in
theorem wc_68 : lw_tbl[476]? = some (.code yX7_perform cX7_perform 1 (some .int)) := rfl
set_option maxRecDepth 100000 in
theorem wc_69 : lw_tbl[568]? = some (.code yX7_writeWire cX7_writeWire 6 (some .int)) := rfl
set_option maxRecDepth 100000 in
theorem wc_70 : lw_tbl[584]? = some (.code yX7_undo cX7_undo 1 (some .int)) := rfl
set_option maxRecDepth 100000 in
theorem wc_71 : lw_tbl[592]? = some (.code yX7_keep cX7_keep 1 (some .int)) := rfl
set_option maxRecDepth 100000 in
theorem wc_72 : lw_tbl[601]? = some (.code yX7_restore cX7_restore 1 (some .int)) := rfl
set_option maxRecDepth 100000 in
theorem wc_73 : lw_tbl[605]? = some (.code yX7_spool cX7_spool 4 (some .int)) := rfl
set_option maxRecDepth 100000 in
theorem wc_74 : lw_tbl[623]? = some (.code yX7_gap cX7_gap 5 (some .int)) := rfl
set_option maxRecDepth 100000 in
theorem wc_75 : lw_tbl[630]? = some (.code yX7_read cX7_read 6 (some .int)) := rfl
set_option maxRecDepth 100000 in
theorem wc_76 : lw_tbl[634]? = some (.code yX7_errors cX7_errors 5 (some .int)) := rfl
set_option maxRecDepth 100000 in
theorem wc_77 : lw_tbl[638]? = some (.code yX7_bestWay cX7_bestWay 6 (some .int)) := rfl
set_option maxRecDepth 100000 in
theorem wc_78 : lw_tbl[646]? = some (.code yX7_errorsAfter cX7_errorsAfter 9 (some .int)) := rfl
set_option maxRecDepth 100000 in
theorem wc_79 : lw_tbl[656]? = some (.code yX7_safeRewinds cX7_safeRewinds 6 (some .int)) := rfl
set_option maxRecDepth 100000 in
theorem wc_80 : lw_tbl[664]? = some (.code yX7_event cX7_event 3 (some .int)) := rfl
set_option maxRecDepth 100000 in
theorem wc_81 : lw_tbl[672]? = some (.code yX7_count cX7_count 2 (some .int)) := rfl
set_option maxRecDepth 100000 in
theorem wc_82 : lw_tbl[324]? = some (.code yX7_isSpool cX7_isSpool 1 (some .boolean)) := rfl
set_option maxRecDepth 100000 in
theorem wc_83 : lw_tbl[327]? = some (.code yX7_isPull cX7_isPull 1 (some .boolean)) := rfl
set_option maxRecDepth 100000 in
theorem wc_84 : lw_tbl[422]? = some (.code yX7_isWay cX7_isWay 1 (some .boolean)) := rfl
set_option maxRecDepth 100000 in
theorem wc_85 : lw_tbl[649]? = some (.code yX7_isWayOfOneEnd cX7_isWayOfOneEnd 1 (some .boolean)) := rfl
set_option maxRecDepth 100000 in
theorem wc_86 : lw_tbl[451]? = some (.code yX7_nominalOf cX7_nominalOf 1 (some .int)) := rfl
set_option maxRecDepth 100000 in
theorem wc_87 : lw_tbl[345]? = some (.code yX7_stretchOf cX7_stretchOf 4 (some .int)) := rfl
set_option maxRecDepth 100000 in
theorem wc_88 : lw_tbl[681]? = some (.code yX8_init cX8_init 1 none) := rfl
set_option maxRecDepth 100000 in
theorem wc_89 : lw_tbl[735]? = some (.code yX8_in cX8_in 3 (some .boolean)) := rfl
set_option maxRecDepth 100000 in
theorem wc_90 : lw_tbl[750]? = some (.code yX8_noSpool cX8_noSpool 1 (some .boolean)) := rfl
set_option maxRecDepth 100000 in
theorem wc_91 : lw_tbl[758]? = some (.code yX8_of cX8_of 3 (some .int)) := rfl
set_option maxRecDepth 100000 in
theorem wc_92 : lw_tbl[774]? = some (.code yX8_puts cX8_puts 4 none) := rfl
set_option maxRecDepth 100000 in
theorem wc_93 : lw_tbl[754]? = some (.code yX8_isEmpty cX8_isEmpty 2 (some .boolean)) := rfl
set_option maxRecDepth 100000 in
theorem wc_94 : lw_tbl[766]? = some (.code yX8_gaps cX8_gaps 2 (some .int)) := rfl
set_option maxRecDepth 100000 in
theorem wc_95 : lw_tbl[739]? = some (.code yX8_record cX8_record 2 none) := rfl
set_option maxRecDepth 100000 in
theorem wc_96 : lw_tbl[778]? = some (.code yX8_tells cX8_tells 5 none) := rfl
set_option maxRecDepth 100000 in
theorem wc_97 : lw_tbl[732]? = some (.code yX8_setRule cX8_setRule 3 (some .int)) := rfl
set_option maxRecDepth 100000 in
theorem wc_98 : lw_tbl[743]? = some (.code yX8_setLimit cX8_setLimit 3 (some .int)) := rfl
set_option maxRecDepth 100000 in
theorem wc_99 : lw_tbl[790]? = some (.code yX8_punches cX8_punches 4 none) := rfl
set_option maxRecDepth 100000 in
theorem wc_100 : lw_tbl[786]? = some (.code yX8_copies cX8_copies 5 none) := rfl
set_option maxRecDepth 100000 in
theorem wc_101 : lw_tbl[770]? = some (.code yX8_stretch cX8_stretch 5 (some .int)) := rfl
set_option maxRecDepth 100000 in
theorem wc_102 : lw_tbl[762]? = some (.code yX8_rewinds cX8_rewinds 7 (some .boolean)) := rfl
set_option maxRecDepth 100000 in
theorem wc_103 : lw_tbl[747]? = some (.code yX8_rewind cX8_rewind 6 (some .int)) := rfl
set_option maxRecDepth 100000 in
theorem wc_104 : lw_tbl[782]? = some (.code yX8_cut cX8_cut 6 (some .int)) := rfl
set_option maxRecDepth 100000 in
theorem wc_105 : lw_tbl[794]? = some (.code yX8_splice cX8_splice 6 (some .int)) := rfl
set_option maxRecDepth 100000 in
theorem wc_106 : lw_tbl[798]? = some (.code yX8_close cX8_close 2 (some .int)) := rfl
set_option maxRecDepth 100000 in
theorem wc_107 : lw_tbl[813]? = some (.code yX8_number cX8_number 3 (some .int)) := rfl
set_option maxRecDepth 100000 in
theorem wc_108 : lw_tbl[810]? = some (.code yX8_reads cX8_reads 9 none) := rfl
set_option maxRecDepth 100000 in
theorem wc_109 : lw_tbl[806]? = some (.code yX8_isBarred cX8_isBarred 3 (some .boolean)) := rfl
set_option maxRecDepth 100000 in
theorem wc_110 : lw_tbl[817]? = some (.code yX8_wrong cX8_wrong 7 (some .int)) := rfl
set_option maxRecDepth 100000 in
theorem wc_111 : lw_tbl[914]? = some (.code yX8_allWrong cX8_allWrong 3 (some .int)) := rfl
set_option maxRecDepth 100000 in
theorem wc_112 : lw_tbl[802]? = some (.code yX8_punch cX8_punch 5 (some .int)) := rfl
set_option maxRecDepth 100000 in
theorem wc_113 : lw_tbl[821]? = some (.code yX8_type cX8_type 2 (some .int)) := rfl
set_option maxRecDepth 100000 in
theorem wc_114 : lw_tbl[825]? = some (.code yX8_clearText cX8_clearText 2 (some .int)) := rfl
set_option maxRecDepth 100000 in
theorem wc_115 : lw_tbl[841]? = some (.code yX8_isWord cX8_isWord 7 (some .boolean)) := rfl
set_option maxRecDepth 100000 in
theorem wc_116 : lw_tbl[845]? = some (.code yX8_isLong cX8_isLong 7 (some .boolean)) := rfl
set_option maxRecDepth 100000 in
theorem wc_117 : lw_tbl[837]? = some (.code yX8_word cX8_word 1 (some .int)) := rfl
set_option maxRecDepth 100000 in
theorem wc_118 : lw_tbl[849]? = some (.code yX8_takesBlank cX8_takesBlank 1 (some .boolean)) := rfl
set_option maxRecDepth 100000 in
theorem wc_119 : lw_tbl[853]? = some (.code yX8_takesNumber cX8_takesNumber 1 (some .boolean)) := rfl
set_option maxRecDepth 100000 in
theorem wc_120 : lw_tbl[833]? = some (.code yX8_isRight cX8_isRight 1 (some .boolean)) := rfl
set_option maxRecDepth 100000 in
theorem wc_121 : lw_tbl[857]? = some (.code yX8_writes cX8_writes 4 (some .int)) := rfl
set_option maxRecDepth 100000 in
theorem wc_122 : lw_tbl[829]? = some (.code yX8_perform cX8_perform 1 (some .int)) := rfl
set_option maxRecDepth 100000 in
theorem wc_123 : lw_tbl[874]? = some (.code yX8_full cX8_full 3 (some .int)) := rfl
set_option maxRecDepth 100000 in
theorem wc_124 : lw_tbl[866]? = some (.code yX8_undo cX8_undo 2 (some .int)) := rfl
set_option maxRecDepth 100000 in
theorem wc_125 : lw_tbl[870]? = some (.code yX8_keep cX8_keep 2 (some .int)) := rfl
set_option maxRecDepth 100000 in
theorem wc_126 : lw_tbl[878]? = some (.code yX8_restore cX8_restore 2 (some .int)) := rfl
set_option maxRecDepth 100000 in
theorem wc_127 : lw_tbl[894]? = some (.code yX8_quotient cX8_quotient 3 (some .int)) := rfl
set_option maxRecDepth 100000 in
theorem wc_128 : lw_tbl[890]? = some (.code yX8_nearest cX8_nearest 4 (some .int)) := rfl
set_option maxRecDepth 100000 in
theorem wc_129 : lw_tbl[886]? = some (.code yX8_sum cX8_sum 5 (some .int)) := rfl
set_option maxRecDepth 100000 in
theorem wc_130 : lw_tbl[882]? = some (.code yX8_spool cX8_spool 3 (some .int)) := rfl
set_option maxRecDepth 100000 in
theorem wc_131 : lw_tbl[898]? = some (.code yX8_gap cX8_gap 4 (some .int)) := rfl
set_option maxRecDepth 100000 in
theorem wc_132 : lw_tbl[902]? = some (.code yX8_read cX8_read 4 (some .int)) := rfl
set_option maxRecDepth 100000 in
theorem wc_133 : lw_tbl[906]? = some (.code yX8_errors cX8_errors 4 (some .int)) := rfl
set_option maxRecDepth 100000 in
theorem wc_134 : lw_tbl[910]? = some (.code yX8_bestWay cX8_bestWay 6 (some .int)) := rfl
set_option maxRecDepth 100000 in
theorem wc_135 : lw_tbl[926]? = some (.code yX8_goes cX8_goes 2 none) := rfl
set_option maxRecDepth 100000 in
theorem wc_136 : lw_tbl[930]? = some (.code yX8_comes cX8_comes 2 none) := rfl
set_option maxRecDepth 100000 in
theorem wc_137 : lw_tbl[922]? = some (.code yX8_asks cX8_asks 5 (some .int)) := rfl
set_option maxRecDepth 100000 in
theorem wc_138 : lw_tbl[918]? = some (.code yX8_errorsAfter cX8_errorsAfter 9 (some .int)) := rfl
set_option maxRecDepth 100000 in
theorem wc_139 : lw_tbl[938]? = some (.code yX8_isReadSo cX8_isReadSo 4 (some .boolean)) := rfl
set_option maxRecDepth 100000 in
theorem wc_140 : lw_tbl[934]? = some (.code yX8_safeRewinds cX8_safeRewinds 6 (some .int)) := rfl
set_option maxRecDepth 100000 in
theorem wc_141 : lw_tbl[942]? = some (.code yX8_event cX8_event 3 (some .int)) := rfl
set_option maxRecDepth 100000 in
theorem wc_142 : lw_tbl[950]? = some (.code yX8_letters cX8_letters 3 (some .int)) := rfl
set_option maxRecDepth 100000 in
theorem wc_143 : lw_tbl[946]? = some (.code yX8_count cX8_count 2 (some .int)) := rfl
set_option maxRecDepth 100000 in
theorem wc_144 : lw_tbl[502]? = some (.code yJ0_length_8abf5 cJ0_length_8abf5 1 (some .int)) := rfl
set_option maxRecDepth 100000 in
theorem wc_145 : lw_tbl[513]? = some (.code yJ0_charAt_5068e cJ0_charAt_5068e 2 (some .char)) := rfl
set_option maxRecDepth 100000 in
theorem wc_146 : lw_tbl[506]? = some (.code yJ0_coder_7d493 cJ0_coder_7d493 1 (some .byte)) := rfl
set_option maxRecDepth 100000 in
theorem wc_147 : lw_tbl[517]? = some (.code yJ0_isLatin1_aae02 cJ0_isLatin1_aae02 1 (some .boolean)) := rfl
set_option maxRecDepth 100000 in
theorem wc_148 : lw_tbl[523]? = some (.code yJ0_checkIndex_df160 cJ0_checkIndex_df160 2 none) := rfl
set_option maxRecDepth 100000 in
theorem wc_149 : lw_tbl[520]? = some (.code yJ1_charAt_3b067 cJ1_charAt_3b067 2 (some .char)) := rfl
set_option maxRecDepth 100000 in
theorem wc_150 : lw_tbl[528]? = some (.code yJ3_checkIndex_8e157 cJ3_checkIndex_8e157 3 (some .int)) := rfl
theorem k_0 : kAll 0 = true := by decide +kernel
theorem k_1 : kAll 1 = true := by decide +kernel
theorem k_2 : kAll 2 = true := by decide +kernel
theorem k_3 : kAll 3 = true := by decide +kernel
theorem k_4 : kAll 4 = true := by decide +kernel
theorem k_5 : kAll 5 = true := by decide +kernel
theorem k_6 : kAll 6 = true := by decide +kernel
theorem k_7 : kAll 7 = true := by decide +kernel
theorem k_8 : kAll 8 = true := by decide +kernel
theorem k_9 : kAll 9 = true := by decide +kernel
theorem k_10 : kAll 10 = true := by decide +kernel
theorem k_11 : kAll 11 = true := by decide +kernel
theorem k_12 : kAll 12 = true := by decide +kernel
theorem k_13 : kAll 13 = true := by decide +kernel
theorem k_14 : kAll 14 = true := by decide +kernel
theorem k_15 : kAll 15 = true := by decide +kernel
theorem k_16 : kAll 16 = true := by decide +kernel
theorem k_17 : kAll 17 = true := by decide +kernel
theorem k_18 : kAll 18 = true := by decide +kernel
theorem k_19 : kAll 19 = true := by decide +kernel
theorem k_20 : kAll 20 = true := by decide +kernel
theorem k_21 : kAll 21 = true := by decide +kernel
theorem k_22 : kAll 22 = true := by decide +kernel
theorem k_23 : kAll 23 = true := by decide +kernel
theorem k_24 : kAll 24 = true := by decide +kernel
theorem k_25 : kAll 25 = true := by decide +kernel
theorem k_26 : kAll 26 = true := by decide +kernel
theorem k_27 : kAll 27 = true := by decide +kernel
theorem k_28 : kAll 28 = true := by decide +kernel
theorem k_29 : kAll 29 = true := by decide +kernel
theorem k_30 : kAll 30 = true := by decide +kernel
theorem k_31 : kAll 31 = true := by decide +kernel
theorem k_32 : kAll 32 = true := by decide +kernel
theorem k_33 : kAll 33 = true := by decide +kernel
theorem k_34 : kAll 34 = true := by decide +kernel
theorem k_35 : kAll 35 = true := by decide +kernel
theorem k_36 : kAll 36 = true := by decide +kernel
theorem k_37 : kAll 37 = true := by decide +kernel
theorem k_38 : kAll 38 = true := by decide +kernel
theorem k_39 : kAll 39 = true := by decide +kernel
theorem k_40 : kAll 40 = true := by decide +kernel
theorem k_41 : kAll 41 = true := by decide +kernel
theorem k_42 : kAll 42 = true := by decide +kernel
theorem k_43 : kAll 43 = true := by decide +kernel
theorem k_44 : kAll 44 = true := by decide +kernel
theorem k_45 : kAll 45 = true := by decide +kernel
theorem k_46 : kAll 46 = true := by decide +kernel
theorem k_47 : kAll 47 = true := by decide +kernel
theorem k_48 : kAll 48 = true := by decide +kernel
theorem k_49 : kAll 49 = true := by decide +kernel
theorem k_50 : kAll 50 = true := by decide +kernel
theorem k_51 : kAll 51 = true := by decide +kernel
theorem k_52 : kAll 52 = true := by decide +kernel
theorem k_53 : kAll 53 = true := by decide +kernel
theorem k_54 : kAll 54 = true := by decide +kernel
theorem k_55 : kAll 55 = true := by decide +kernel
theorem k_56 : kAll 56 = true := by decide +kernel
theorem k_57 : kAll 57 = true := by decide +kernel
theorem k_58 : kAll 58 = true := by decide +kernel
theorem k_59 : kAll 59 = true := by decide +kernel
theorem k_60 : kAll 60 = true := by decide +kernel
theorem k_61 : kAll 61 = true := by decide +kernel
theorem k_62 : kAll 62 = true := by decide +kernel
theorem k_63 : kAll 63 = true := by decide +kernel
theorem k_64 : kAll 64 = true := by decide +kernel
theorem k_65 : kAll 65 = true := by decide +kernel
theorem k_66 : kAll 66 = true := by decide +kernel
theorem k_67 : kAll 67 = true := by decide +kernel
theorem k_68 : kAll 68 = true := by decide +kernel
theorem k_69 : kAll 69 = true := by decide +kernel
theorem k_70 : kAll 70 = true := by decide +kernel
theorem k_71 : kAll 71 = true := by decide +kernel
theorem k_72 : kAll 72 = true := by decide +kernel
theorem k_73 : kAll 73 = true := by decide +kernel
theorem k_74 : kAll 74 = true := by decide +kernel
theorem k_75 : kAll 75 = true := by decide +kernel
theorem k_76 : kAll 76 = true := by decide +kernel
theorem k_77 : kAll 77 = true := by decide +kernel
theorem k_78 : kAll 78 = true := by decide +kernel
theorem k_79 : kAll 79 = true := by decide +kernel
theorem k_80 : kAll 80 = true := by decide +kernel
theorem k_81 : kAll 81 = true := by decide +kernel
theorem k_82 : kAll 82 = true := by decide +kernel
theorem k_83 : kAll 83 = true := by decide +kernel
theorem k_84 : kAll 84 = true := by decide +kernel
theorem k_85 : kAll 85 = true := by decide +kernel
theorem k_86 : kAll 86 = true := by decide +kernel
theorem k_87 : kAll 87 = true := by decide +kernel
theorem k_88 : kAll 88 = true := by decide +kernel
theorem k_89 : kAll 89 = true := by decide +kernel
theorem k_90 : kAll 90 = true := by decide +kernel
theorem k_91 : kAll 91 = true := by decide +kernel
theorem k_92 : kAll 92 = true := by decide +kernel
theorem k_93 : kAll 93 = true := by decide +kernel
theorem k_94 : kAll 94 = true := by decide +kernel
theorem k_95 : kAll 95 = true := by decide +kernel
theorem k_96 : kAll 96 = true := by decide +kernel
theorem k_97 : kAll 97 = true := by decide +kernel
theorem k_98 : kAll 98 = true := by decide +kernel
theorem k_99 : kAll 99 = true := by decide +kernel
theorem k_100 : kAll 100 = true := by decide +kernel
theorem k_101 : kAll 101 = true := by decide +kernel
theorem k_102 : kAll 102 = true := by decide +kernel
theorem k_103 : kAll 103 = true := by decide +kernel
theorem k_104 : kAll 104 = true := by decide +kernel
theorem k_105 : kAll 105 = true := by decide +kernel
theorem k_106 : kAll 106 = true := by decide +kernel
theorem k_107 : kAll 107 = true := by decide +kernel
theorem k_108 : kAll 108 = true := by decide +kernel
theorem k_109 : kAll 109 = true := by decide +kernel
theorem k_110 : kAll 110 = true := by decide +kernel
theorem k_111 : kAll 111 = true := by decide +kernel
theorem k_112 : kAll 112 = true := by decide +kernel
theorem k_113 : kAll 113 = true := by decide +kernel
theorem k_114 : kAll 114 = true := by decide +kernel
theorem k_115 : kAll 115 = true := by decide +kernel
theorem k_116 : kAll 116 = true := by decide +kernel
theorem k_117 : kAll 117 = true := by decide +kernel
theorem k_118 : kAll 118 = true := by decide +kernel
theorem k_119 : kAll 119 = true := by decide +kernel
theorem k_120 : kAll 120 = true := by decide +kernel
theorem k_121 : kAll 121 = true := by decide +kernel
theorem k_122 : kAll 122 = true := by decide +kernel
theorem k_123 : kAll 123 = true := by decide +kernel
theorem k_124 : kAll 124 = true := by decide +kernel
theorem k_125 : kAll 125 = true := by decide +kernel
theorem k_126 : kAll 126 = true := by decide +kernel
theorem k_127 : kAll 127 = true := by decide +kernel
theorem k_128 : kAll 128 = true := by decide +kernel
theorem k_129 : kAll 129 = true := by decide +kernel
theorem k_130 : kAll 130 = true := by decide +kernel
theorem k_131 : kAll 131 = true := by decide +kernel
theorem k_132 : kAll 132 = true := by decide +kernel
theorem k_133 : kAll 133 = true := by decide +kernel
theorem k_134 : kAll 134 = true := by decide +kernel
theorem k_135 : kAll 135 = true := by decide +kernel
theorem k_136 : kAll 136 = true := by decide +kernel
theorem k_137 : kAll 137 = true := by decide +kernel
theorem k_138 : kAll 138 = true := by decide +kernel
theorem k_139 : kAll 139 = true := by decide +kernel
theorem k_140 : kAll 140 = true := by decide +kernel
theorem k_141 : kAll 141 = true := by decide +kernel
theorem k_142 : kAll 142 = true := by decide +kernel
theorem k_143 : kAll 143 = true := by decide +kernel
theorem k_144 : kAll 144 = true := by decide +kernel
theorem k_145 : kAll 145 = true := by decide +kernel
theorem k_146 : kAll 146 = true := by decide +kernel
theorem k_147 : kAll 147 = true := by decide +kernel
theorem k_148 : kAll 148 = true := by decide +kernel
theorem k_149 : kAll 149 = true := by decide +kernel
theorem k_150 : kAll 150 = true := by decide +kernel
theorem wg_0 : ∀ z, z < 20 → 0 ≤ z → lw_tbl[mPcL.getD z 9999]? = some (.code (mY z) (mC z) (mN z) (mT z)) ∧ kAll z = true := by
  intro z h1 h2
  rcases (show z = 0 ∨ z = 1 ∨ z = 2 ∨ z = 3 ∨ z = 4 ∨ z = 5 ∨ z = 6 ∨ z = 7 ∨ z = 8 ∨ z = 9 ∨ z = 10 ∨ z = 11 ∨ z = 12 ∨ z = 13 ∨ z = 14 ∨ z = 15 ∨ z = 16 ∨ z = 17 ∨ z = 18 ∨ z = 19 by omega) with rfl | rfl | rfl | rfl | rfl | rfl | rfl | rfl | rfl | rfl | rfl | rfl | rfl | rfl | rfl | rfl | rfl | rfl | rfl | rfl
  · exact ⟨wc_0, k_0⟩
  · exact ⟨wc_1, k_1⟩
  · exact ⟨wc_2, k_2⟩
  · exact ⟨wc_3, k_3⟩
  · exact ⟨wc_4, k_4⟩
  · exact ⟨wc_5, k_5⟩
  · exact ⟨wc_6, k_6⟩
  · exact ⟨wc_7, k_7⟩
  · exact ⟨wc_8, k_8⟩
  · exact ⟨wc_9, k_9⟩
  · exact ⟨wc_10, k_10⟩
  · exact ⟨wc_11, k_11⟩
  · exact ⟨wc_12, k_12⟩
  · exact ⟨wc_13, k_13⟩
  · exact ⟨wc_14, k_14⟩
  · exact ⟨wc_15, k_15⟩
  · exact ⟨wc_16, k_16⟩
  · exact ⟨wc_17, k_17⟩
  · exact ⟨wc_18, k_18⟩
  · exact ⟨wc_19, k_19⟩
theorem wg_20 : ∀ z, z < 40 → 20 ≤ z → lw_tbl[mPcL.getD z 9999]? = some (.code (mY z) (mC z) (mN z) (mT z)) ∧ kAll z = true := by
  intro z h1 h2
  rcases (show z = 20 ∨ z = 21 ∨ z = 22 ∨ z = 23 ∨ z = 24 ∨ z = 25 ∨ z = 26 ∨ z = 27 ∨ z = 28 ∨ z = 29 ∨ z = 30 ∨ z = 31 ∨ z = 32 ∨ z = 33 ∨ z = 34 ∨ z = 35 ∨ z = 36 ∨ z = 37 ∨ z = 38 ∨ z = 39 by omega) with rfl | rfl | rfl | rfl | rfl | rfl | rfl | rfl | rfl | rfl | rfl | rfl | rfl | rfl | rfl | rfl | rfl | rfl | rfl | rfl
  · exact ⟨wc_20, k_20⟩
  · exact ⟨wc_21, k_21⟩
  · exact ⟨wc_22, k_22⟩
  · exact ⟨wc_23, k_23⟩
  · exact ⟨wc_24, k_24⟩
  · exact ⟨wc_25, k_25⟩
  · exact ⟨wc_26, k_26⟩
  · exact ⟨wc_27, k_27⟩
  · exact ⟨wc_28, k_28⟩
  · exact ⟨wc_29, k_29⟩
  · exact ⟨wc_30, k_30⟩
  · exact ⟨wc_31, k_31⟩
  · exact ⟨wc_32, k_32⟩
  · exact ⟨wc_33, k_33⟩
  · exact ⟨wc_34, k_34⟩
  · exact ⟨wc_35, k_35⟩
  · exact ⟨wc_36, k_36⟩
  · exact ⟨wc_37, k_37⟩
  · exact ⟨wc_38, k_38⟩
  · exact ⟨wc_39, k_39⟩
theorem wg_40 : ∀ z, z < 60 → 40 ≤ z → lw_tbl[mPcL.getD z 9999]? = some (.code (mY z) (mC z) (mN z) (mT z)) ∧ kAll z = true := by
  intro z h1 h2
  rcases (show z = 40 ∨ z = 41 ∨ z = 42 ∨ z = 43 ∨ z = 44 ∨ z = 45 ∨ z = 46 ∨ z = 47 ∨ z = 48 ∨ z = 49 ∨ z = 50 ∨ z = 51 ∨ z = 52 ∨ z = 53 ∨ z = 54 ∨ z = 55 ∨ z = 56 ∨ z = 57 ∨ z = 58 ∨ z = 59 by omega) with rfl | rfl | rfl | rfl | rfl | rfl | rfl | rfl | rfl | rfl | rfl | rfl | rfl | rfl | rfl | rfl | rfl | rfl | rfl | rfl
  · exact ⟨wc_40, k_40⟩
  · exact ⟨wc_41, k_41⟩
  · exact ⟨wc_42, k_42⟩
  · exact ⟨wc_43, k_43⟩
  · exact ⟨wc_44, k_44⟩
  · exact ⟨wc_45, k_45⟩
  · exact ⟨wc_46, k_46⟩
  · exact ⟨wc_47, k_47⟩
  · exact ⟨wc_48, k_48⟩
  · exact ⟨wc_49, k_49⟩
  · exact ⟨wc_50, k_50⟩
  · exact ⟨wc_51, k_51⟩
  · exact ⟨wc_52, k_52⟩
  · exact ⟨wc_53, k_53⟩
  · exact ⟨wc_54, k_54⟩
  · exact ⟨wc_55, k_55⟩
  · exact ⟨wc_56, k_56⟩
  · exact ⟨wc_57, k_57⟩
  · exact ⟨wc_58, k_58⟩
  · exact ⟨wc_59, k_59⟩
theorem wg_60 : ∀ z, z < 80 → 60 ≤ z → lw_tbl[mPcL.getD z 9999]? = some (.code (mY z) (mC z) (mN z) (mT z)) ∧ kAll z = true := by
  intro z h1 h2
  rcases (show z = 60 ∨ z = 61 ∨ z = 62 ∨ z = 63 ∨ z = 64 ∨ z = 65 ∨ z = 66 ∨ z = 67 ∨ z = 68 ∨ z = 69 ∨ z = 70 ∨ z = 71 ∨ z = 72 ∨ z = 73 ∨ z = 74 ∨ z = 75 ∨ z = 76 ∨ z = 77 ∨ z = 78 ∨ z = 79 by omega) with rfl | rfl | rfl | rfl | rfl | rfl | rfl | rfl | rfl | rfl | rfl | rfl | rfl | rfl | rfl | rfl | rfl | rfl | rfl | rfl
  · exact ⟨wc_60, k_60⟩
  · exact ⟨wc_61, k_61⟩
  · exact ⟨wc_62, k_62⟩
  · exact ⟨wc_63, k_63⟩
  · exact ⟨wc_64, k_64⟩
  · exact ⟨wc_65, k_65⟩
  · exact ⟨wc_66, k_66⟩
  · exact ⟨wc_67, k_67⟩
  · exact ⟨wc_68, k_68⟩
  · exact ⟨wc_69, k_69⟩
  · exact ⟨wc_70, k_70⟩
  · exact ⟨wc_71, k_71⟩
  · exact ⟨wc_72, k_72⟩
  · exact ⟨wc_73, k_73⟩
  · exact ⟨wc_74, k_74⟩
  · exact ⟨wc_75, k_75⟩
  · exact ⟨wc_76, k_76⟩
  · exact ⟨wc_77, k_77⟩
  · exact ⟨wc_78, k_78⟩
  · exact ⟨wc_79, k_79⟩
theorem wg_80 : ∀ z, z < 100 → 80 ≤ z → lw_tbl[mPcL.getD z 9999]? = some (.code (mY z) (mC z) (mN z) (mT z)) ∧ kAll z = true := by
  intro z h1 h2
  rcases (show z = 80 ∨ z = 81 ∨ z = 82 ∨ z = 83 ∨ z = 84 ∨ z = 85 ∨ z = 86 ∨ z = 87 ∨ z = 88 ∨ z = 89 ∨ z = 90 ∨ z = 91 ∨ z = 92 ∨ z = 93 ∨ z = 94 ∨ z = 95 ∨ z = 96 ∨ z = 97 ∨ z = 98 ∨ z = 99 by omega) with rfl | rfl | rfl | rfl | rfl | rfl | rfl | rfl | rfl | rfl | rfl | rfl | rfl | rfl | rfl | rfl | rfl | rfl | rfl | rfl
  · exact ⟨wc_80, k_80⟩
  · exact ⟨wc_81, k_81⟩
  · exact ⟨wc_82, k_82⟩
  · exact ⟨wc_83, k_83⟩
  · exact ⟨wc_84, k_84⟩
  · exact ⟨wc_85, k_85⟩
  · exact ⟨wc_86, k_86⟩
  · exact ⟨wc_87, k_87⟩
  · exact ⟨wc_88, k_88⟩
  · exact ⟨wc_89, k_89⟩
  · exact ⟨wc_90, k_90⟩
  · exact ⟨wc_91, k_91⟩
  · exact ⟨wc_92, k_92⟩
  · exact ⟨wc_93, k_93⟩
  · exact ⟨wc_94, k_94⟩
  · exact ⟨wc_95, k_95⟩
  · exact ⟨wc_96, k_96⟩
  · exact ⟨wc_97, k_97⟩
  · exact ⟨wc_98, k_98⟩
  · exact ⟨wc_99, k_99⟩
theorem wg_100 : ∀ z, z < 120 → 100 ≤ z → lw_tbl[mPcL.getD z 9999]? = some (.code (mY z) (mC z) (mN z) (mT z)) ∧ kAll z = true := by
  intro z h1 h2
  rcases (show z = 100 ∨ z = 101 ∨ z = 102 ∨ z = 103 ∨ z = 104 ∨ z = 105 ∨ z = 106 ∨ z = 107 ∨ z = 108 ∨ z = 109 ∨ z = 110 ∨ z = 111 ∨ z = 112 ∨ z = 113 ∨ z = 114 ∨ z = 115 ∨ z = 116 ∨ z = 117 ∨ z = 118 ∨ z = 119 by omega) with rfl | rfl | rfl | rfl | rfl | rfl | rfl | rfl | rfl | rfl | rfl | rfl | rfl | rfl | rfl | rfl | rfl | rfl | rfl | rfl
  · exact ⟨wc_100, k_100⟩
  · exact ⟨wc_101, k_101⟩
  · exact ⟨wc_102, k_102⟩
  · exact ⟨wc_103, k_103⟩
  · exact ⟨wc_104, k_104⟩
  · exact ⟨wc_105, k_105⟩
  · exact ⟨wc_106, k_106⟩
  · exact ⟨wc_107, k_107⟩
  · exact ⟨wc_108, k_108⟩
  · exact ⟨wc_109, k_109⟩
  · exact ⟨wc_110, k_110⟩
  · exact ⟨wc_111, k_111⟩
  · exact ⟨wc_112, k_112⟩
  · exact ⟨wc_113, k_113⟩
  · exact ⟨wc_114, k_114⟩
  · exact ⟨wc_115, k_115⟩
  · exact ⟨wc_116, k_116⟩
  · exact ⟨wc_117, k_117⟩
  · exact ⟨wc_118, k_118⟩
  · exact ⟨wc_119, k_119⟩
theorem wg_120 : ∀ z, z < 140 → 120 ≤ z → lw_tbl[mPcL.getD z 9999]? = some (.code (mY z) (mC z) (mN z) (mT z)) ∧ kAll z = true := by
  intro z h1 h2
  rcases (show z = 120 ∨ z = 121 ∨ z = 122 ∨ z = 123 ∨ z = 124 ∨ z = 125 ∨ z = 126 ∨ z = 127 ∨ z = 128 ∨ z = 129 ∨ z = 130 ∨ z = 131 ∨ z = 132 ∨ z = 133 ∨ z = 134 ∨ z = 135 ∨ z = 136 ∨ z = 137 ∨ z = 138 ∨ z = 139 by omega) with rfl | rfl | rfl | rfl | rfl | rfl | rfl | rfl | rfl | rfl | rfl | rfl | rfl | rfl | rfl | rfl | rfl | rfl | rfl | rfl
  · exact ⟨wc_120, k_120⟩
  · exact ⟨wc_121, k_121⟩
  · exact ⟨wc_122, k_122⟩
  · exact ⟨wc_123, k_123⟩
  · exact ⟨wc_124, k_124⟩
  · exact ⟨wc_125, k_125⟩
  · exact ⟨wc_126, k_126⟩
  · exact ⟨wc_127, k_127⟩
  · exact ⟨wc_128, k_128⟩
  · exact ⟨wc_129, k_129⟩
  · exact ⟨wc_130, k_130⟩
  · exact ⟨wc_131, k_131⟩
  · exact ⟨wc_132, k_132⟩
  · exact ⟨wc_133, k_133⟩
  · exact ⟨wc_134, k_134⟩
  · exact ⟨wc_135, k_135⟩
  · exact ⟨wc_136, k_136⟩
  · exact ⟨wc_137, k_137⟩
  · exact ⟨wc_138, k_138⟩
  · exact ⟨wc_139, k_139⟩
theorem wg_140 : ∀ z, z < 151 → 140 ≤ z → lw_tbl[mPcL.getD z 9999]? = some (.code (mY z) (mC z) (mN z) (mT z)) ∧ kAll z = true := by
  intro z h1 h2
  rcases (show z = 140 ∨ z = 141 ∨ z = 142 ∨ z = 143 ∨ z = 144 ∨ z = 145 ∨ z = 146 ∨ z = 147 ∨ z = 148 ∨ z = 149 ∨ z = 150 by omega) with rfl | rfl | rfl | rfl | rfl | rfl | rfl | rfl | rfl | rfl | rfl
  · exact ⟨wc_140, k_140⟩
  · exact ⟨wc_141, k_141⟩
  · exact ⟨wc_142, k_142⟩
  · exact ⟨wc_143, k_143⟩
  · exact ⟨wc_144, k_144⟩
  · exact ⟨wc_145, k_145⟩
  · exact ⟨wc_146, k_146⟩
  · exact ⟨wc_147, k_147⟩
  · exact ⟨wc_148, k_148⟩
  · exact ⟨wc_149, k_149⟩
  · exact ⟨wc_150, k_150⟩
theorem w_ck : ∀ z, z < 151 → lw_tbl[mPcL.getD z 9999]? = some (.code (mY z) (mC z) (mN z) (mT z)) ∧ kAll z = true := by
  intro z hz
  rcases Nat.lt_or_ge z 140 with q | q
  case inr => exact wg_140 z (by omega) q
  rcases Nat.lt_or_ge z 120 with q | q
  case inr => exact wg_120 z (by omega) q
  rcases Nat.lt_or_ge z 100 with q | q
  case inr => exact wg_100 z (by omega) q
  rcases Nat.lt_or_ge z 80 with q | q
  case inr => exact wg_80 z (by omega) q
  rcases Nat.lt_or_ge z 60 with q | q
  case inr => exact wg_60 z (by omega) q
  rcases Nat.lt_or_ge z 40 with q | q
  case inr => exact wg_40 z (by omega) q
  rcases Nat.lt_or_ge z 20 with q | q
  case inr => exact wg_20 z (by omega) q
  exact wg_0 z (by omega) (by omega)
theorem kl_0 : kBlk 151 0 bk_151_0 = true := by decide +kernel
theorem kl_18 : kBlk 151 18 bk_151_18 = true := by decide +kernel
theorem kl_136 : kBlk 151 136 bk_151_136 = true := by decide +kernel
theorem kl_159 : kBlk 151 159 bk_151_159 = true := by decide +kernel
theorem kl_182 : kBlk 151 182 bk_151_182 = true := by decide +kernel
theorem kl_225 : kBlk 151 225 bk_151_225 = true := by decide +kernel
theorem kl_258 : kBlk 151 258 bk_151_258 = true := by decide +kernel
theorem kl_291 : kBlk 151 291 bk_151_291 = true := by decide +kernel
theorem kl_314 : kBlk 151 314 bk_151_314 = true := by decide +kernel
theorem kl_347 : kBlk 151 347 bk_151_347 = true := by decide +kernel
theorem kl_372 : kBlk 151 372 bk_151_372 = true := by decide +kernel
theorem kl_385 : kBlk 151 385 bk_151_385 = true := by decide +kernel
theorem kl_398 : kBlk 151 398 bk_151_398 = true := by decide +kernel
theorem kl_411 : kBlk 151 411 bk_151_411 = true := by decide +kernel
theorem kl_424 : kBlk 151 424 bk_151_424 = true := by decide +kernel
theorem kl_437 : kBlk 151 437 bk_151_437 = true := by decide +kernel
theorem kl_470 : kBlk 151 470 bk_151_470 = true := by decide +kernel
theorem kl_513 : kBlk 151 513 bk_151_513 = true := by decide +kernel
theorem kl_556 : kBlk 151 556 bk_151_556 = true := by decide +kernel
theorem kl_599 : kBlk 151 599 bk_151_599 = true := by decide +kernel
theorem kl_622 : kBlk 151 622 bk_151_622 = true := by decide +kernel
theorem kl_675 : kBlk 151 675 bk_151_675 = true := by decide +kernel
theorem kl_718 : kBlk 151 718 bk_151_718 = true := by decide +kernel
theorem kl_751 : kBlk 151 751 bk_151_751 = true := by decide +kernel
theorem kl_774 : kBlk 151 774 bk_151_774 = true := by decide +kernel
theorem kl_780 : kBlk 151 780 bk_151_780 = true := by decide +kernel
theorem k_law : kAll 151 = true := by
  show (bl_151).all (fun q => kBlk 151 q.1 q.2) = true
  simp only [bl_151, List.all_cons, List.all_nil, Bool.and_true, kl_0, kl_18, kl_136, kl_159, kl_182, kl_225, kl_258, kl_291, kl_314, kl_347, kl_372, kl_385, kl_398, kl_411, kl_424, kl_437, kl_470, kl_513, kl_556, kl_599, kl_622, kl_675, kl_718, kl_751, kl_774, kl_780]
