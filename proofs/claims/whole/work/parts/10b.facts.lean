theorem ml_X4_47 : Cond.methodLink RX4 47 yX4_bestHeight ∈ pv_gt := pv_gt_in (List.mem_of_getElem? (i := 482) (by decide +kernel)) rfl
theorem ml_X4_78 : Cond.methodLink RX4 78 yJ9_min_7cf53 ∈ pv_gt := pv_gt_in (List.mem_of_getElem? (i := 487) (by decide +kernel)) rfl
theorem ml_X4_81 : Cond.methodLink RX4 81 yJ9_max_7cf53 ∈ pv_gt := pv_gt_in (List.mem_of_getElem? (i := 490) (by decide +kernel)) rfl
theorem ml_X4_61 : Cond.methodLink RX4 61 yX4_keepHeights ∈ pv_gt := pv_gt_in (List.mem_of_getElem? (i := 491) (by decide +kernel)) rfl
theorem ml_L_48 : Cond.methodLink RL 48 yX11_levelled ∈ pv_gt := pv_gt_in (List.mem_of_getElem? (i := 495) (by decide +kernel)) rfl
theorem ml_X11_120 : Cond.methodLink RX11 120 yX4_newHeight ∈ pv_gt := pv_gt_in (List.mem_of_getElem? (i := 499) (by decide +kernel)) rfl
theorem ml_L_52 : Cond.methodLink RL 52 yX11_move ∈ pv_gt := pv_gt_in (List.mem_of_getElem? (i := 503) (by decide +kernel)) rfl
theorem ml_X11_123 : Cond.methodLink RX11 123 yX4_carryOut ∈ pv_gt := pv_gt_in (List.mem_of_getElem? (i := 507) (by decide +kernel)) rfl
theorem ml_X4_84 : Cond.methodLink RX4 84 yX4_isRowAsBefore ∈ pv_gt := pv_gt_in (List.mem_of_getElem? (i := 511) (by decide +kernel)) rfl
theorem ml_L_57 : Cond.methodLink RL 57 yX11_stones ∈ pv_gt := pv_gt_in (List.mem_of_getElem? (i := 515) (by decide +kernel)) rfl
theorem ml_X11_127 : Cond.methodLink RX11 127 yX10_bring ∈ pv_gt := pv_gt_in (List.mem_of_getElem? (i := 519) (by decide +kernel)) rfl
theorem ml_L_62 : Cond.methodLink RL 62 yX11_course ∈ pv_gt := pv_gt_in (List.mem_of_getElem? (i := 523) (by decide +kernel)) rfl
theorem ml_X11_130 : Cond.methodLink RX11 130 yX10_tellCourse ∈ pv_gt := pv_gt_in (List.mem_of_getElem? (i := 527) (by decide +kernel)) rfl
theorem ml_X10_24 : Cond.methodLink RX10 24 yX10_chooseCourse ∈ pv_gt := pv_gt_in (List.mem_of_getElem? (i := 531) (by decide +kernel)) rfl
theorem ml_X10_33 : Cond.methodLink RX10 33 yX10_countFor ∈ pv_gt := pv_gt_in (List.mem_of_getElem? (i := 536) (by decide +kernel)) rfl
theorem ml_L_66 : Cond.methodLink RL 66 yX11_of ∈ pv_gt := pv_gt_in (List.mem_of_getElem? (i := 540) (by decide +kernel)) rfl
theorem ml_X11_133 : Cond.methodLink RX11 133 yX10_toldOf ∈ pv_gt := pv_gt_in (List.mem_of_getElem? (i := 544) (by decide +kernel)) rfl
theorem ml_L_70 : Cond.methodLink RL 70 yX11_lay ∈ pv_gt := pv_gt_in (List.mem_of_getElem? (i := 548) (by decide +kernel)) rfl
theorem ml_X11_136 : Cond.methodLink RX11 136 yX10_layCourse ∈ pv_gt := pv_gt_in (List.mem_of_getElem? (i := 552) (by decide +kernel)) rfl
theorem ml_L_74 : Cond.methodLink RL 74 yX11_year ∈ pv_gt := pv_gt_in (List.mem_of_getElem? (i := 556) (by decide +kernel)) rfl
theorem ml_L_78 : Cond.methodLink RL 78 yX11_wheels ∈ pv_gt := pv_gt_in (List.mem_of_getElem? (i := 560) (by decide +kernel)) rfl
theorem ml_L_82 : Cond.methodLink RL 82 yX11_pave ∈ pv_gt := pv_gt_in (List.mem_of_getElem? (i := 564) (by decide +kernel)) rfl
theorem ml_X11_145 : Cond.methodLink RX11 145 yX8_wearAt ∈ pv_gt := pv_gt_in (List.mem_of_getElem? (i := 568) (by decide +kernel)) rfl
theorem ml_X8_56 : Cond.methodLink RX8 56 yX8_meanWheels ∈ pv_gt := pv_gt_in (List.mem_of_getElem? (i := 572) (by decide +kernel)) rfl
theorem ml_L_86 : Cond.methodLink RL 86 yX11_wear ∈ pv_gt := pv_gt_in (List.mem_of_getElem? (i := 576) (by decide +kernel)) rfl
theorem ml_L_90 : Cond.methodLink RL 90 yX11_cost ∈ pv_gt := pv_gt_in (List.mem_of_getElem? (i := 580) (by decide +kernel)) rfl
theorem ml_L_94 : Cond.methodLink RL 94 yX11_plan ∈ pv_gt := pv_gt_in (List.mem_of_getElem? (i := 584) (by decide +kernel)) rfl
theorem ml_X11_160 : Cond.methodLink RX11 160 yX11_isPlanSet ∈ pv_gt := pv_gt_in (List.mem_of_getElem? (i := 588) (by decide +kernel)) rfl
theorem ml_X11_306 : Cond.methodLink RX11 306 yJ6_bitCount_0f7a4 ∈ pv_gt := pv_gt_in (List.mem_of_getElem? (i := 592) (by decide +kernel)) rfl
theorem ml_X11_165 : Cond.methodLink RX11 165 yX7_begin ∈ pv_gt := pv_gt_in (List.mem_of_getElem? (i := 599) (by decide +kernel)) rfl
theorem ml_X11_169 : Cond.methodLink RX11 169 yX7_join ∈ pv_gt := pv_gt_in (List.mem_of_getElem? (i := 603) (by decide +kernel)) rfl
theorem ml_X7_52 : Cond.methodLink RX7 52 yX8_wearAt ∈ pv_gt := pv_gt_in (List.mem_of_getElem? (i := 607) (by decide +kernel)) rfl
theorem ml_X7_58 : Cond.methodLink RX7 58 yX8_costIn ∈ pv_gt := pv_gt_in (List.mem_of_getElem? (i := 608) (by decide +kernel)) rfl
theorem ml_X11_173 : Cond.methodLink RX11 173 yX7_findBest ∈ pv_gt := pv_gt_in (List.mem_of_getElem? (i := 612) (by decide +kernel)) rfl
theorem ml_X7_62 : Cond.methodLink RX7 62 yX7_tryFrom ∈ pv_gt := pv_gt_in (List.mem_of_getElem? (i := 616) (by decide +kernel)) rfl
theorem ml_X7_66 : Cond.methodLink RX7 66 yX7_keepIfBetter ∈ pv_gt := pv_gt_in (List.mem_of_getElem? (i := 620) (by decide +kernel)) rfl
theorem ml_X7_70 : Cond.methodLink RX7 70 arraycopyName ∈ pv_gt := pv_gt_in (List.mem_of_getElem? (i := 624) (by decide +kernel)) rfl
theorem ml_L_99 : Cond.methodLink RL 99 yX11_planned ∈ pv_gt := pv_gt_in (List.mem_of_getElem? (i := 627) (by decide +kernel)) rfl
theorem ml_X11_176 : Cond.methodLink RX11 176 yX7_yearOf ∈ pv_gt := pv_gt_in (List.mem_of_getElem? (i := 631) (by decide +kernel)) rfl
theorem ml_L_103 : Cond.methodLink RL 103 yX11_house ∈ pv_gt := pv_gt_in (List.mem_of_getElem? (i := 635) (by decide +kernel)) rfl
theorem ml_X11_179 : Cond.methodLink RX11 179 yX11_isFrontage ∈ pv_gt := pv_gt_in (List.mem_of_getElem? (i := 639) (by decide +kernel)) rfl
theorem ml_X11_185 : Cond.methodLink RX11 185 yX3_init ∈ pv_gt := pv_gt_in (List.mem_of_getElem? (i := 644) (by decide +kernel)) rfl
theorem ml_X3_3 : Cond.methodLink RX3 3 Lib.objectInit ∈ pv_gt := pv_gt_in (List.mem_of_getElem? (i := 647) (by decide +kernel)) rfl
theorem ml_L_107 : Cond.methodLink RL 107 yX11_days ∈ pv_gt := pv_gt_in (List.mem_of_getElem? (i := 670) (by decide +kernel)) rfl
theorem ml_L_111 : Cond.methodLink RL 111 yX11_feed ∈ pv_gt := pv_gt_in (List.mem_of_getElem? (i := 674) (by decide +kernel)) rfl
theorem ml_X11_189 : Cond.methodLink RX11 189 yX1_writeTape ∈ pv_gt := pv_gt_in (List.mem_of_getElem? (i := 678) (by decide +kernel)) rfl
theorem ml_L_115 : Cond.methodLink RL 115 yX11_act ∈ pv_gt := pv_gt_in (List.mem_of_getElem? (i := 682) (by decide +kernel)) rfl
theorem ml_X11_192 : Cond.methodLink RX11 192 yX11_isKind ∈ pv_gt := pv_gt_in (List.mem_of_getElem? (i := 686) (by decide +kernel)) rfl
theorem ml_X11_195 : Cond.methodLink RX11 195 yX11_isDay ∈ pv_gt := pv_gt_in (List.mem_of_getElem? (i := 689) (by decide +kernel)) rfl
theorem ml_X11_198 : Cond.methodLink RX11 198 yX1_pass ∈ pv_gt := pv_gt_in (List.mem_of_getElem? (i := 692) (by decide +kernel)) rfl
theorem ml_X1_35 : Cond.methodLink RX1 35 yX9_readText ∈ pv_gt := pv_gt_in (List.mem_of_getElem? (i := 696) (by decide +kernel)) rfl
theorem ml_X9_25 : Cond.methodLink RX9 25 yJ9_min_7cf53 ∈ pv_gt := pv_gt_in (List.mem_of_getElem? (i := 700) (by decide +kernel)) rfl
theorem ml_X9_46 : Cond.methodLink RX9 46 yX9_readClause ∈ pv_gt := pv_gt_in (List.mem_of_getElem? (i := 702) (by decide +kernel)) rfl
theorem ml_X9_57 : Cond.methodLink RX9 57 yX9_readExpression ∈ pv_gt := pv_gt_in (List.mem_of_getElem? (i := 706) (by decide +kernel)) rfl
theorem ml_X9_60 : Cond.methodLink RX9 60 yX9_readSum ∈ pv_gt := pv_gt_in (List.mem_of_getElem? (i := 710) (by decide +kernel)) rfl
theorem ml_X9_63 : Cond.methodLink RX9 63 yX9_readProduct ∈ pv_gt := pv_gt_in (List.mem_of_getElem? (i := 714) (by decide +kernel)) rfl
theorem ml_X9_66 : Cond.methodLink RX9 66 yX9_readOperand ∈ pv_gt := pv_gt_in (List.mem_of_getElem? (i := 718) (by decide +kernel)) rfl
theorem ml_X9_50 : Cond.methodLink RX9 50 yX9_peek ∈ pv_gt := pv_gt_in (List.mem_of_getElem? (i := 722) (by decide +kernel)) rfl
theorem ml_X9_73 : Cond.methodLink RX9 73 yX9_isDigit ∈ pv_gt := pv_gt_in (List.mem_of_getElem? (i := 726) (by decide +kernel)) rfl
theorem ml_X9_77 : Cond.methodLink RX9 77 yX9_readNumber ∈ pv_gt := pv_gt_in (List.mem_of_getElem? (i := 729) (by decide +kernel)) rfl
theorem ml_X9_54 : Cond.methodLink RX9 54 yX9_markFault ∈ pv_gt := pv_gt_in (List.mem_of_getElem? (i := 733) (by decide +kernel)) rfl
theorem ml_X9_80 : Cond.methodLink RX9 80 yX9_readParenthesis ∈ pv_gt := pv_gt_in (List.mem_of_getElem? (i := 737) (by decide +kernel)) rfl
theorem ml_X9_83 : Cond.methodLink RX9 83 yJ0_indexOf_0f7a4 ∈ pv_gt := pv_gt_in (List.mem_of_getElem? (i := 741) (by decide +kernel)) rfl
theorem ml_J0_633 : Cond.methodLink RJ0 633 yJ0_indexOf_7cf53 ∈ pv_gt := pv_gt_in (List.mem_of_getElem? (i := 745) (by decide +kernel)) rfl
theorem ml_J0_492 : Cond.methodLink RJ0 492 yJ0_isLatin1_aae02 ∈ pv_gt := pv_gt_in (List.mem_of_getElem? (i := 749) (by decide +kernel)) rfl
theorem ml_J0_505 : Cond.methodLink RJ0 505 yJ0_length_8abf5 ∈ pv_gt := pv_gt_in (List.mem_of_getElem? (i := 755) (by decide +kernel)) rfl
theorem ml_J0_335 : Cond.methodLink RJ0 335 yJ0_coder_7d493 ∈ pv_gt := pv_gt_in (List.mem_of_getElem? (i := 759) (by decide +kernel)) rfl
theorem ml_J0_637 : Cond.methodLink RJ0 637 yJ1_indexOf_4cfef ∈ pv_gt := pv_gt_in (List.mem_of_getElem? (i := 763) (by decide +kernel)) rfl
theorem ml_J1_88 : Cond.methodLink RJ1 88 yJ1_canEncode_9a6ad ∈ pv_gt := pv_gt_in (List.mem_of_getElem? (i := 766) (by decide +kernel)) rfl
theorem ml_J1_92 : Cond.methodLink RJ1 92 yJ9_max_7cf53 ∈ pv_gt := pv_gt_in (List.mem_of_getElem? (i := 769) (by decide +kernel)) rfl
theorem ml_J1_38 : Cond.methodLink RJ1 38 yJ9_min_7cf53 ∈ pv_gt := pv_gt_in (List.mem_of_getElem? (i := 770) (by decide +kernel)) rfl
theorem ml_J1_95 : Cond.methodLink RJ1 95 yJ1_indexOfChar_4cfef ∈ pv_gt := pv_gt_in (List.mem_of_getElem? (i := 771) (by decide +kernel)) rfl
theorem ml_J0_640 : Cond.methodLink RJ0 640 yJ2_indexOf_4cfef ∈ pv_gt := pv_gt_in (List.mem_of_getElem? (i := 774) (by decide +kernel)) rfl
theorem ml_J2_224 : Cond.methodLink RJ2 224 yJ9_max_7cf53 ∈ pv_gt := pv_gt_in (List.mem_of_getElem? (i := 777) (by decide +kernel)) rfl
theorem ml_J2_183 : Cond.methodLink RJ2 183 yJ9_min_7cf53 ∈ pv_gt := pv_gt_in (List.mem_of_getElem? (i := 778) (by decide +kernel)) rfl
theorem ml_J2_228 : Cond.methodLink RJ2 228 yJ2_indexOfChar_4cfef ∈ pv_gt := pv_gt_in (List.mem_of_getElem? (i := 780) (by decide +kernel)) rfl
theorem ml_J2_96 : Cond.methodLink RJ2 96 yJ2_checkBoundsBeginEnd_d044e ∈ pv_gt := pv_gt_in (List.mem_of_getElem? (i := 783) (by decide +kernel)) rfl
theorem ml_J2_48 : Cond.methodLink RJ2 48 yJ2_length_9d52b ∈ pv_gt := pv_gt_in (List.mem_of_getElem? (i := 786) (by decide +kernel)) rfl
theorem ml_J2_241 : Cond.methodLink RJ2 241 yJ0_checkBoundsBeginEnd_23922 ∈ pv_gt := pv_gt_in (List.mem_of_getElem? (i := 789) (by decide +kernel)) rfl
theorem ml_J0_1062 : Cond.methodLink RJ0 1062 yJ3_checkFromToIndex_8c36e ∈ pv_gt := pv_gt_in (List.mem_of_getElem? (i := 794) (by decide +kernel)) rfl
theorem ml_J2_244 : Cond.methodLink RJ2 244 yJ2_indexOfCharUnsafe_4cfef ∈ pv_gt := pv_gt_in (List.mem_of_getElem? (i := 797) (by decide +kernel)) rfl
theorem ml_J2_71 : Cond.methodLink RJ2 71 yJ2_getChar_3b067 ∈ pv_gt := pv_gt_in (List.mem_of_getElem? (i := 800) (by decide +kernel)) rfl
theorem ml_J2_232 : Cond.methodLink RJ2 232 yJ2_indexOfSupplementary_4cfef ∈ pv_gt := pv_gt_in (List.mem_of_getElem? (i := 809) (by decide +kernel)) rfl
theorem ml_J2_164 : Cond.methodLink RJ2 164 yJ11_isValidCodePoint_9a6ad ∈ pv_gt := pv_gt_in (List.mem_of_getElem? (i := 812) (by decide +kernel)) rfl
theorem ml_J2_157 : Cond.methodLink RJ2 157 yJ11_highSurrogate_5068e ∈ pv_gt := pv_gt_in (List.mem_of_getElem? (i := 815) (by decide +kernel)) rfl
theorem ml_J2_161 : Cond.methodLink RJ2 161 yJ11_lowSurrogate_5068e ∈ pv_gt := pv_gt_in (List.mem_of_getElem? (i := 819) (by decide +kernel)) rfl
theorem ml_X9_69 : Cond.methodLink RX9 69 yX9_multiply ∈ pv_gt := pv_gt_in (List.mem_of_getElem? (i := 823) (by decide +kernel)) rfl
theorem ml_X1_42 : Cond.methodLink RX1 42 yJ7_copyOf_9075b ∈ pv_gt := pv_gt_in (List.mem_of_getElem? (i := 827) (by decide +kernel)) rfl
theorem ml_J7_304 : Cond.methodLink RJ7 304 yJ9_min_7cf53 ∈ pv_gt := pv_gt_in (List.mem_of_getElem? (i := 837) (by decide +kernel)) rfl
theorem ml_J7_150 : Cond.methodLink RJ7 150 arraycopyName ∈ pv_gt := pv_gt_in (List.mem_of_getElem? (i := 838) (by decide +kernel)) rfl
theorem ml_X1_48 : Cond.methodLink RX1 48 yX0_init ∈ pv_gt := pv_gt_in (List.mem_of_getElem? (i := 839) (by decide +kernel)) rfl
theorem ml_X0_1 : Cond.methodLink RX0 1 Lib.objectInit ∈ pv_gt := pv_gt_in (List.mem_of_getElem? (i := 842) (by decide +kernel)) rfl
theorem ml_L_119 : Cond.methodLink RL 119 yX11_inForce ∈ pv_gt := pv_gt_in (List.mem_of_getElem? (i := 860) (by decide +kernel)) rfl
theorem ml_X11_202 : Cond.methodLink RX11 202 yX1_numberInForce ∈ pv_gt := pv_gt_in (List.mem_of_getElem? (i := 864) (by decide +kernel)) rfl
theorem ml_L_123 : Cond.methodLink RL 123 yX11_rate ∈ pv_gt := pv_gt_in (List.mem_of_getElem? (i := 868) (by decide +kernel)) rfl
theorem ml_X11_205 : Cond.methodLink RX11 205 yX11_findHouse ∈ pv_gt := pv_gt_in (List.mem_of_getElem? (i := 872) (by decide +kernel)) rfl
theorem ml_X11_210 : Cond.methodLink RX11 210 yX1_findInForce ∈ pv_gt := pv_gt_in (List.mem_of_getElem? (i := 877) (by decide +kernel)) rfl
theorem ml_X1_60 : Cond.methodLink RX1 60 yX1_numberInForce ∈ pv_gt := pv_gt_in (List.mem_of_getElem? (i := 881) (by decide +kernel)) rfl
theorem ml_X11_214 : Cond.methodLink RX11 214 yX1_givePart ∈ pv_gt := pv_gt_in (List.mem_of_getElem? (i := 882) (by decide +kernel)) rfl
theorem ml_X1_85 : Cond.methodLink RX1 85 yX3_isCorner ∈ pv_gt := pv_gt_in (List.mem_of_getElem? (i := 886) (by decide +kernel)) rfl
theorem ml_X1_92 : Cond.methodLink RX1 92 yX1_keepWithin ∈ pv_gt := pv_gt_in (List.mem_of_getElem? (i := 890) (by decide +kernel)) rfl
theorem ml_X1_117 : Cond.methodLink RX1 117 yJ9_min_7cf53 ∈ pv_gt := pv_gt_in (List.mem_of_getElem? (i := 894) (by decide +kernel)) rfl
theorem ml_X1_104 : Cond.methodLink RX1 104 yJ9_max_7cf53 ∈ pv_gt := pv_gt_in (List.mem_of_getElem? (i := 895) (by decide +kernel)) rfl
theorem ml_X11_218 : Cond.methodLink RX11 218 yX3_isCorner ∈ pv_gt := pv_gt_in (List.mem_of_getElem? (i := 896) (by decide +kernel)) rfl
theorem ml_L_127 : Cond.methodLink RL 127 yX11_rates ∈ pv_gt := pv_gt_in (List.mem_of_getElem? (i := 897) (by decide +kernel)) rfl
theorem ml_X11_222 : Cond.methodLink RX11 222 yX3_hasPartIn ∈ pv_gt := pv_gt_in (List.mem_of_getElem? (i := 901) (by decide +kernel)) rfl
theorem ml_L_131 : Cond.methodLink RL 131 yX11_clause ∈ pv_gt := pv_gt_in (List.mem_of_getElem? (i := 905) (by decide +kernel)) rfl
theorem ml_L_135 : Cond.methodLink RL 135 yX11_open ∈ pv_gt := pv_gt_in (List.mem_of_getElem? (i := 909) (by decide +kernel)) rfl
theorem ml_X11_237 : Cond.methodLink RX11 237 yX11_isSquare ∈ pv_gt := pv_gt_in (List.mem_of_getElem? (i := 913) (by decide +kernel)) rfl
theorem ml_X11_240 : Cond.methodLink RX11 240 yX11_openNowAt ∈ pv_gt := pv_gt_in (List.mem_of_getElem? (i := 917) (by decide +kernel)) rfl
theorem ml_X11_311 : Cond.methodLink RX11 311 yX6_isAt ∈ pv_gt := pv_gt_in (List.mem_of_getElem? (i := 921) (by decide +kernel)) rfl
theorem ml_X11_253 : Cond.methodLink RX11 253 yX6_isOpen ∈ pv_gt := pv_gt_in (List.mem_of_getElem? (i := 925) (by decide +kernel)) rfl
theorem ml_X11_246 : Cond.methodLink RX11 246 yX6_init ∈ pv_gt := pv_gt_in (List.mem_of_getElem? (i := 930) (by decide +kernel)) rfl
theorem ml_X6_3 : Cond.methodLink RX6 3 Lib.objectInit ∈ pv_gt := pv_gt_in (List.mem_of_getElem? (i := 933) (by decide +kernel)) rfl
theorem ml_L_139 : Cond.methodLink RL 139 yX11_back ∈ pv_gt := pv_gt_in (List.mem_of_getElem? (i := 962) (by decide +kernel)) rfl
theorem ml_X11_249 : Cond.methodLink RX11 249 yX11_findOpening ∈ pv_gt := pv_gt_in (List.mem_of_getElem? (i := 966) (by decide +kernel)) rfl
theorem ml_L_143 : Cond.methodLink RL 143 yX11_penalty ∈ pv_gt := pv_gt_in (List.mem_of_getElem? (i := 970) (by decide +kernel)) rfl
theorem ml_X11_265 : Cond.methodLink RX11 265 yX11_countOpen ∈ pv_gt := pv_gt_in (List.mem_of_getElem? (i := 974) (by decide +kernel)) rfl
theorem ml_X11_268 : Cond.methodLink RX11 268 yX1_givePenalty ∈ pv_gt := pv_gt_in (List.mem_of_getElem? (i := 978) (by decide +kernel)) rfl
theorem ml_X1_96 : Cond.methodLink RX1 96 yX6_daysOpenOn ∈ pv_gt := pv_gt_in (List.mem_of_getElem? (i := 982) (by decide +kernel)) rfl
theorem ml_X6_30 : Cond.methodLink RX6 30 yX6_isOpen ∈ pv_gt := pv_gt_in (List.mem_of_getElem? (i := 986) (by decide +kernel)) rfl
theorem ml_X6_34 : Cond.methodLink RX6 34 yJ9_min_7cf53 ∈ pv_gt := pv_gt_in (List.mem_of_getElem? (i := 987) (by decide +kernel)) rfl
theorem ml_L_147 : Cond.methodLink RL 147 yX11_sink ∈ pv_gt := pv_gt_in (List.mem_of_getElem? (i := 988) (by decide +kernel)) rfl
theorem ml_X11_272 : Cond.methodLink RX11 272 yX11_lastPutBackAt ∈ pv_gt := pv_gt_in (List.mem_of_getElem? (i := 992) (by decide +kernel)) rfl
theorem ml_L_151 : Cond.methodLink RL 151 yX11_opening ∈ pv_gt := pv_gt_in (List.mem_of_getElem? (i := 996) (by decide +kernel)) rfl
theorem ml_L_155 : Cond.methodLink RL 155 yX11_draw ∈ pv_gt := pv_gt_in (List.mem_of_getElem? (i := 1000) (by decide +kernel)) rfl
theorem ml_X11_284 : Cond.methodLink RX11 284 yX5_drawLots ∈ pv_gt := pv_gt_in (List.mem_of_getElem? (i := 1004) (by decide +kernel)) rfl
theorem ml_X5_23 : Cond.methodLink RX5 23 arraycopyName ∈ pv_gt := pv_gt_in (List.mem_of_getElem? (i := 1009) (by decide +kernel)) rfl
theorem ml_L_159 : Cond.methodLink RL 159 yX11_drawn ∈ pv_gt := pv_gt_in (List.mem_of_getElem? (i := 1010) (by decide +kernel)) rfl
theorem ml_X11_287 : Cond.methodLink RX11 287 yX5_lotAt ∈ pv_gt := pv_gt_in (List.mem_of_getElem? (i := 1014) (by decide +kernel)) rfl
theorem ml_L_163 : Cond.methodLink RL 163 yX11_bad ∈ pv_gt := pv_gt_in (List.mem_of_getElem? (i := 1018) (by decide +kernel)) rfl
theorem ml_X11_290 : Cond.methodLink RX11 290 yX5_mostBad ∈ pv_gt := pv_gt_in (List.mem_of_getElem? (i := 1022) (by decide +kernel)) rfl
theorem ml_X5_35 : Cond.methodLink RX5 35 yX5_waysWithFew ∈ pv_gt := pv_gt_in (List.mem_of_getElem? (i := 1027) (by decide +kernel)) rfl
theorem ml_L_167 : Cond.methodLink RL 167 yX11_count ∈ pv_gt := pv_gt_in (List.mem_of_getElem? (i := 1031) (by decide +kernel)) rfl
theorem ml_X11_297 : Cond.methodLink RX11 297 yX11_countAllOpen ∈ pv_gt := pv_gt_in (List.mem_of_getElem? (i := 1035) (by decide +kernel)) rfl
theorem ml_X11_303 : Cond.methodLink RX11 303 yX10_countAll ∈ pv_gt := pv_gt_in (List.mem_of_getElem? (i := 1039) (by decide +kernel)) rfl
theorem ml_L_12 : Cond.methodLink RL 12 yX12_init ∈ pv_gt := pv_gt_in (List.mem_of_getElem? (i := 1045) (by decide +kernel)) rfl
theorem ml_X12_1 : Cond.methodLink RX12 1 Lib.objectInit ∈ pv_gt := pv_gt_in (List.mem_of_getElem? (i := 1048) (by decide +kernel)) rfl
theorem ml_L_17 : Cond.methodLink RL 17 yX12_street ∈ pv_gt := pv_gt_in (List.mem_of_getElem? (i := 1248) (by decide +kernel)) rfl
theorem ml_X12_164 : Cond.methodLink RX12 164 yX12_in ∈ pv_gt := pv_gt_in (List.mem_of_getElem? (i := 1252) (by decide +kernel)) rfl
theorem ml_L_22 : Cond.methodLink RL 22 yX12_height ∈ pv_gt := pv_gt_in (List.mem_of_getElem? (i := 1255) (by decide +kernel)) rfl
theorem ml_X12_172 : Cond.methodLink RX12 172 yX12_isSquare ∈ pv_gt := pv_gt_in (List.mem_of_getElem? (i := 1259) (by decide +kernel)) rfl
theorem ml_X12_168 : Cond.methodLink RX12 168 yX12_isStreet ∈ pv_gt := pv_gt_in (List.mem_of_getElem? (i := 1263) (by decide +kernel)) rfl
theorem ml_X12_175 : Cond.methodLink RX12 175 yX12_place ∈ pv_gt := pv_gt_in (List.mem_of_getElem? (i := 1267) (by decide +kernel)) rfl
theorem ml_L_26 : Cond.methodLink RL 26 yX12_read ∈ pv_gt := pv_gt_in (List.mem_of_getElem? (i := 1270) (by decide +kernel)) rfl
theorem ml_L_30 : Cond.methodLink RL 30 yX12_drain ∈ pv_gt := pv_gt_in (List.mem_of_getElem? (i := 1274) (by decide +kernel)) rfl
theorem ml_L_34 : Cond.methodLink RL 34 yX12_water ∈ pv_gt := pv_gt_in (List.mem_of_getElem? (i := 1278) (by decide +kernel)) rfl
theorem ml_X12_182 : Cond.methodLink RX12 182 yX12_comesTo ∈ pv_gt := pv_gt_in (List.mem_of_getElem? (i := 1282) (by decide +kernel)) rfl
theorem ml_X12_179 : Cond.methodLink RX12 179 yX12_goesOn ∈ pv_gt := pv_gt_in (List.mem_of_getElem? (i := 1286) (by decide +kernel)) rfl
theorem ml_X12_185 : Cond.methodLink RX12 185 yX12_isDrain ∈ pv_gt := pv_gt_in (List.mem_of_getElem? (i := 1290) (by decide +kernel)) rfl
theorem ml_L_39 : Cond.methodLink RL 39 yX12_standing ∈ pv_gt := pv_gt_in (List.mem_of_getElem? (i := 1294) (by decide +kernel)) rfl
theorem ml_L_43 : Cond.methodLink RL 43 yX12_most ∈ pv_gt := pv_gt_in (List.mem_of_getElem? (i := 1298) (by decide +kernel)) rfl
theorem ml_L_47 : Cond.methodLink RL 47 yX12_level ∈ pv_gt := pv_gt_in (List.mem_of_getElem? (i := 1302) (by decide +kernel)) rfl
theorem ml_X12_190 : Cond.methodLink RX12 190 yX12_falls ∈ pv_gt := pv_gt_in (List.mem_of_getElem? (i := 1307) (by decide +kernel)) rfl
theorem ml_X12_194 : Cond.methodLink RX12 194 yX12_size ∈ pv_gt := pv_gt_in (List.mem_of_getElem? (i := 1310) (by decide +kernel)) rfl
theorem ml_L_51 : Cond.methodLink RL 51 yX12_levelled ∈ pv_gt := pv_gt_in (List.mem_of_getElem? (i := 1313) (by decide +kernel)) rfl
theorem ml_L_56 : Cond.methodLink RL 56 yX12_move ∈ pv_gt := pv_gt_in (List.mem_of_getElem? (i := 1317) (by decide +kernel)) rfl
theorem ml_L_61 : Cond.methodLink RL 61 yX12_stones ∈ pv_gt := pv_gt_in (List.mem_of_getElem? (i := 1321) (by decide +kernel)) rfl
theorem ml_L_65 : Cond.methodLink RL 65 yX12_course ∈ pv_gt := pv_gt_in (List.mem_of_getElem? (i := 1325) (by decide +kernel)) rfl
theorem ml_X12_205 : Cond.methodLink RX12 205 yX12_find ∈ pv_gt := pv_gt_in (List.mem_of_getElem? (i := 1329) (by decide +kernel)) rfl
theorem ml_L_69 : Cond.methodLink RL 69 yX12_of ∈ pv_gt := pv_gt_in (List.mem_of_getElem? (i := 1333) (by decide +kernel)) rfl
theorem ml_L_73 : Cond.methodLink RL 73 yX12_lay ∈ pv_gt := pv_gt_in (List.mem_of_getElem? (i := 1337) (by decide +kernel)) rfl
theorem ml_L_77 : Cond.methodLink RL 77 yX12_year ∈ pv_gt := pv_gt_in (List.mem_of_getElem? (i := 1341) (by decide +kernel)) rfl
theorem ml_L_81 : Cond.methodLink RL 81 yX12_wheels ∈ pv_gt := pv_gt_in (List.mem_of_getElem? (i := 1345) (by decide +kernel)) rfl
theorem ml_L_85 : Cond.methodLink RL 85 yX12_pave ∈ pv_gt := pv_gt_in (List.mem_of_getElem? (i := 1349) (by decide +kernel)) rfl
theorem ml_X12_217 : Cond.methodLink RX12 217 yX12_wearOf ∈ pv_gt := pv_gt_in (List.mem_of_getElem? (i := 1353) (by decide +kernel)) rfl
theorem ml_X12_214 : Cond.methodLink RX12 214 yX12_mean ∈ pv_gt := pv_gt_in (List.mem_of_getElem? (i := 1357) (by decide +kernel)) rfl
theorem ml_L_89 : Cond.methodLink RL 89 yX12_wear ∈ pv_gt := pv_gt_in (List.mem_of_getElem? (i := 1361) (by decide +kernel)) rfl
theorem ml_L_93 : Cond.methodLink RL 93 yX12_cost ∈ pv_gt := pv_gt_in (List.mem_of_getElem? (i := 1365) (by decide +kernel)) rfl
theorem ml_L_98 : Cond.methodLink RL 98 yX12_plan ∈ pv_gt := pv_gt_in (List.mem_of_getElem? (i := 1369) (by decide +kernel)) rfl
theorem ml_X12_222 : Cond.methodLink RX12 222 yX12_costOf ∈ pv_gt := pv_gt_in (List.mem_of_getElem? (i := 1374) (by decide +kernel)) rfl
theorem ml_L_102 : Cond.methodLink RL 102 yX12_planned ∈ pv_gt := pv_gt_in (List.mem_of_getElem? (i := 1378) (by decide +kernel)) rfl
theorem ml_L_106 : Cond.methodLink RL 106 yX12_house ∈ pv_gt := pv_gt_in (List.mem_of_getElem? (i := 1382) (by decide +kernel)) rfl
theorem ml_X12_231 : Cond.methodLink RX12 231 yX12_isPlace ∈ pv_gt := pv_gt_in (List.mem_of_getElem? (i := 1386) (by decide +kernel)) rfl
theorem ml_L_110 : Cond.methodLink RL 110 yX12_days ∈ pv_gt := pv_gt_in (List.mem_of_getElem? (i := 1390) (by decide +kernel)) rfl
theorem ml_L_114 : Cond.methodLink RL 114 yX12_feed ∈ pv_gt := pv_gt_in (List.mem_of_getElem? (i := 1394) (by decide +kernel)) rfl
theorem ml_L_118 : Cond.methodLink RL 118 yX12_act ∈ pv_gt := pv_gt_in (List.mem_of_getElem? (i := 1398) (by decide +kernel)) rfl
theorem ml_X12_282 : Cond.methodLink RX12 282 yX12_parse ∈ pv_gt := pv_gt_in (List.mem_of_getElem? (i := 1402) (by decide +kernel)) rfl
theorem ml_X12_269 : Cond.methodLink RX12 269 yX12_operand ∈ pv_gt := pv_gt_in (List.mem_of_getElem? (i := 1406) (by decide +kernel)) rfl
theorem ml_X12_259 : Cond.methodLink RX12 259 yX12_opened ∈ pv_gt := pv_gt_in (List.mem_of_getElem? (i := 1410) (by decide +kernel)) rfl
theorem ml_X12_263 : Cond.methodLink RX12 263 yX12_isName ∈ pv_gt := pv_gt_in (List.mem_of_getElem? (i := 1414) (by decide +kernel)) rfl
theorem ml_X12_252 : Cond.methodLink RX12 252 yX12_adds ∈ pv_gt := pv_gt_in (List.mem_of_getElem? (i := 1417) (by decide +kernel)) rfl
theorem ml_X12_266 : Cond.methodLink RX12 266 yX12_isDigit ∈ pv_gt := pv_gt_in (List.mem_of_getElem? (i := 1421) (by decide +kernel)) rfl
theorem ml_X12_272 : Cond.methodLink RX12 272 yX12_signOf ∈ pv_gt := pv_gt_in (List.mem_of_getElem? (i := 1424) (by decide +kernel)) rfl
theorem ml_X12_249 : Cond.methodLink RX12 249 yX12_tight ∈ pv_gt := pv_gt_in (List.mem_of_getElem? (i := 1427) (by decide +kernel)) rfl
theorem ml_X12_275 : Cond.methodLink RX12 275 yX12_done ∈ pv_gt := pv_gt_in (List.mem_of_getElem? (i := 1430) (by decide +kernel)) rfl
theorem ml_L_122 : Cond.methodLink RL 122 yX12_inForce ∈ pv_gt := pv_gt_in (List.mem_of_getElem? (i := 1434) (by decide +kernel)) rfl
theorem ml_X12_285 : Cond.methodLink RX12 285 yX12_isDay ∈ pv_gt := pv_gt_in (List.mem_of_getElem? (i := 1438) (by decide +kernel)) rfl
theorem ml_X12_288 : Cond.methodLink RX12 288 yX12_forceOn ∈ pv_gt := pv_gt_in (List.mem_of_getElem? (i := 1441) (by decide +kernel)) rfl
theorem ml_L_126 : Cond.methodLink RL 126 yX12_rate ∈ pv_gt := pv_gt_in (List.mem_of_getElem? (i := 1445) (by decide +kernel)) rfl
theorem ml_X12_303 : Cond.methodLink RX12 303 yX12_isHouse ∈ pv_gt := pv_gt_in (List.mem_of_getElem? (i := 1449) (by decide +kernel)) rfl
theorem ml_X12_307 : Cond.methodLink RX12 307 yX12_part ∈ pv_gt := pv_gt_in (List.mem_of_getElem? (i := 1454) (by decide +kernel)) rfl
theorem ml_X12_297 : Cond.methodLink RX12 297 yX12_says ∈ pv_gt := pv_gt_in (List.mem_of_getElem? (i := 1458) (by decide +kernel)) rfl
theorem ml_X12_294 : Cond.methodLink RX12 294 yX12_both ∈ pv_gt := pv_gt_in (List.mem_of_getElem? (i := 1462) (by decide +kernel)) rfl
theorem ml_X12_300 : Cond.methodLink RX12 300 yX12_clamp ∈ pv_gt := pv_gt_in (List.mem_of_getElem? (i := 1465) (by decide +kernel)) rfl
theorem ml_L_130 : Cond.methodLink RL 130 yX12_rates ∈ pv_gt := pv_gt_in (List.mem_of_getElem? (i := 1468) (by decide +kernel)) rfl
theorem ml_L_134 : Cond.methodLink RL 134 yX12_clause ∈ pv_gt := pv_gt_in (List.mem_of_getElem? (i := 1472) (by decide +kernel)) rfl
theorem ml_L_138 : Cond.methodLink RL 138 yX12_open ∈ pv_gt := pv_gt_in (List.mem_of_getElem? (i := 1476) (by decide +kernel)) rfl
theorem ml_X12_314 : Cond.methodLink RX12 314 yX12_isAt ∈ pv_gt := pv_gt_in (List.mem_of_getElem? (i := 1480) (by decide +kernel)) rfl
theorem ml_X12_317 : Cond.methodLink RX12 317 yX12_openNow ∈ pv_gt := pv_gt_in (List.mem_of_getElem? (i := 1484) (by decide +kernel)) rfl
theorem ml_L_142 : Cond.methodLink RL 142 yX12_back ∈ pv_gt := pv_gt_in (List.mem_of_getElem? (i := 1488) (by decide +kernel)) rfl
theorem ml_X12_320 : Cond.methodLink RX12 320 yX12_isOpening ∈ pv_gt := pv_gt_in (List.mem_of_getElem? (i := 1492) (by decide +kernel)) rfl
theorem ml_L_146 : Cond.methodLink RL 146 yX12_penalty ∈ pv_gt := pv_gt_in (List.mem_of_getElem? (i := 1496) (by decide +kernel)) rfl
theorem ml_L_150 : Cond.methodLink RL 150 yX12_sink ∈ pv_gt := pv_gt_in (List.mem_of_getElem? (i := 1500) (by decide +kernel)) rfl
theorem ml_L_154 : Cond.methodLink RL 154 yX12_opening ∈ pv_gt := pv_gt_in (List.mem_of_getElem? (i := 1504) (by decide +kernel)) rfl
theorem ml_L_158 : Cond.methodLink RL 158 yX12_draw ∈ pv_gt := pv_gt_in (List.mem_of_getElem? (i := 1508) (by decide +kernel)) rfl
theorem ml_L_162 : Cond.methodLink RL 162 yX12_drawn ∈ pv_gt := pv_gt_in (List.mem_of_getElem? (i := 1513) (by decide +kernel)) rfl
theorem ml_L_166 : Cond.methodLink RL 166 yX12_bad ∈ pv_gt := pv_gt_in (List.mem_of_getElem? (i := 1517) (by decide +kernel)) rfl
theorem ml_X12_327 : Cond.methodLink RX12 327 yX12_choose ∈ pv_gt := pv_gt_in (List.mem_of_getElem? (i := 1521) (by decide +kernel)) rfl
theorem ml_L_170 : Cond.methodLink RL 170 yX12_count ∈ pv_gt := pv_gt_in (List.mem_of_getElem? (i := 1526) (by decide +kernel)) rfl
theorem fl_X2_9 : pv_fld RX2 9 2 0 := ⟨_, rfl, by decide, pv_gt_in (List.mem_of_getElem? (i := 95) (by decide +kernel)) rfl⟩
theorem fl_X2_15 : pv_fld RX2 15 2 1 := ⟨_, rfl, by decide, pv_gt_in (List.mem_of_getElem? (i := 96) (by decide +kernel)) rfl⟩
theorem fl_X4_11 : pv_fld RX4 11 4 0 := ⟨_, rfl, by decide, pv_gt_in (List.mem_of_getElem? (i := 109) (by decide +kernel)) rfl⟩
theorem fl_X4_15 : pv_fld RX4 15 4 1 := ⟨_, rfl, by decide, pv_gt_in (List.mem_of_getElem? (i := 110) (by decide +kernel)) rfl⟩
theorem fl_X4_18 : pv_fld RX4 18 4 2 := ⟨_, rfl, by decide, pv_gt_in (List.mem_of_getElem? (i := 111) (by decide +kernel)) rfl⟩
theorem fl_X4_51 : pv_fld RX4 51 4 3 := ⟨_, rfl, by decide, pv_gt_in (List.mem_of_getElem? (i := 112) (by decide +kernel)) rfl⟩
theorem fl_X4_55 : pv_fld RX4 55 4 4 := ⟨_, rfl, by decide, pv_gt_in (List.mem_of_getElem? (i := 113) (by decide +kernel)) rfl⟩
theorem fl_X4_58 : pv_fld RX4 58 4 5 := ⟨_, rfl, by decide, pv_gt_in (List.mem_of_getElem? (i := 114) (by decide +kernel)) rfl⟩
theorem fl_X4_21 : pv_fld RX4 21 4 6 := ⟨_, rfl, by decide, pv_gt_in (List.mem_of_getElem? (i := 115) (by decide +kernel)) rfl⟩
theorem fl_X4_25 : pv_fld RX4 25 4 7 := ⟨_, rfl, by decide, pv_gt_in (List.mem_of_getElem? (i := 116) (by decide +kernel)) rfl⟩
theorem fl_X4_28 : pv_fld RX4 28 4 8 := ⟨_, rfl, by decide, pv_gt_in (List.mem_of_getElem? (i := 117) (by decide +kernel)) rfl⟩
theorem fl_X10_9 : pv_fld RX10 9 10 0 := ⟨_, rfl, by decide, pv_gt_in (List.mem_of_getElem? (i := 143) (by decide +kernel)) rfl⟩
theorem fl_X10_15 : pv_fld RX10 15 10 1 := ⟨_, rfl, by decide, pv_gt_in (List.mem_of_getElem? (i := 144) (by decide +kernel)) rfl⟩
theorem fl_X10_18 : pv_fld RX10 18 10 2 := ⟨_, rfl, by decide, pv_gt_in (List.mem_of_getElem? (i := 145) (by decide +kernel)) rfl⟩
theorem fl_X10_21 : pv_fld RX10 21 10 3 := ⟨_, rfl, by decide, pv_gt_in (List.mem_of_getElem? (i := 146) (by decide +kernel)) rfl⟩
theorem fl_X10_28 : pv_fld RX10 28 10 4 := ⟨_, rfl, by decide, pv_gt_in (List.mem_of_getElem? (i := 147) (by decide +kernel)) rfl⟩
theorem fl_X7_9 : pv_fld RX7 9 7 0 := ⟨_, rfl, by decide, pv_gt_in (List.mem_of_getElem? (i := 168) (by decide +kernel)) rfl⟩
theorem fl_X7_15 : pv_fld RX7 15 7 1 := ⟨_, rfl, by decide, pv_gt_in (List.mem_of_getElem? (i := 169) (by decide +kernel)) rfl⟩
theorem fl_X7_18 : pv_fld RX7 18 7 2 := ⟨_, rfl, by decide, pv_gt_in (List.mem_of_getElem? (i := 170) (by decide +kernel)) rfl⟩
theorem fl_X7_21 : pv_fld RX7 21 7 3 := ⟨_, rfl, by decide, pv_gt_in (List.mem_of_getElem? (i := 171) (by decide +kernel)) rfl⟩
theorem fl_X7_24 : pv_fld RX7 24 7 4 := ⟨_, rfl, by decide, pv_gt_in (List.mem_of_getElem? (i := 172) (by decide +kernel)) rfl⟩
theorem fl_X7_27 : pv_fld RX7 27 7 5 := ⟨_, rfl, by decide, pv_gt_in (List.mem_of_getElem? (i := 173) (by decide +kernel)) rfl⟩
theorem fl_X7_30 : pv_fld RX7 30 7 6 := ⟨_, rfl, by decide, pv_gt_in (List.mem_of_getElem? (i := 174) (by decide +kernel)) rfl⟩
theorem fl_X7_43 : pv_fld RX7 43 7 7 := ⟨_, rfl, by decide, pv_gt_in (List.mem_of_getElem? (i := 175) (by decide +kernel)) rfl⟩
theorem fl_X7_39 : pv_fld RX7 39 7 8 := ⟨_, rfl, by decide, pv_gt_in (List.mem_of_getElem? (i := 176) (by decide +kernel)) rfl⟩
theorem fl_X7_46 : pv_fld RX7 46 7 9 := ⟨_, rfl, by decide, pv_gt_in (List.mem_of_getElem? (i := 177) (by decide +kernel)) rfl⟩
theorem fl_X7_49 : pv_fld RX7 49 7 10 := ⟨_, rfl, by decide, pv_gt_in (List.mem_of_getElem? (i := 178) (by decide +kernel)) rfl⟩
theorem fl_X9_11 : pv_fld RX9 11 9 0 := ⟨_, rfl, by decide, pv_gt_in (List.mem_of_getElem? (i := 219) (by decide +kernel)) rfl⟩
theorem fl_X1_64 : pv_fld RX1 64 9 0 := ⟨_, rfl, by decide, pv_gt_in (List.mem_of_getElem? (i := 220) (by decide +kernel)) rfl⟩
theorem fl_X9_15 : pv_fld RX9 15 9 1 := ⟨_, rfl, by decide, pv_gt_in (List.mem_of_getElem? (i := 221) (by decide +kernel)) rfl⟩
theorem fl_X9_31 : pv_fld RX9 31 9 2 := ⟨_, rfl, by decide, pv_gt_in (List.mem_of_getElem? (i := 222) (by decide +kernel)) rfl⟩
theorem fl_X9_35 : pv_fld RX9 35 9 3 := ⟨_, rfl, by decide, pv_gt_in (List.mem_of_getElem? (i := 223) (by decide +kernel)) rfl⟩
theorem fl_X9_21 : pv_fld RX9 21 9 4 := ⟨_, rfl, by decide, pv_gt_in (List.mem_of_getElem? (i := 224) (by decide +kernel)) rfl⟩
theorem fl_X9_40 : pv_fld RX9 40 9 5 := ⟨_, rfl, by decide, pv_gt_in (List.mem_of_getElem? (i := 225) (by decide +kernel)) rfl⟩
theorem fl_X1_39 : pv_fld RX1 39 9 5 := ⟨_, rfl, by decide, pv_gt_in (List.mem_of_getElem? (i := 226) (by decide +kernel)) rfl⟩
theorem fl_X9_43 : pv_fld RX9 43 9 6 := ⟨_, rfl, by decide, pv_gt_in (List.mem_of_getElem? (i := 227) (by decide +kernel)) rfl⟩
theorem fl_X11_232 : pv_fld RX11 232 9 6 := ⟨_, rfl, by decide, pv_gt_in (List.mem_of_getElem? (i := 228) (by decide +kernel)) rfl⟩
theorem fl_X1_9 : pv_fld RX1 9 1 0 := ⟨_, rfl, by decide, pv_gt_in (List.mem_of_getElem? (i := 245) (by decide +kernel)) rfl⟩
theorem fl_X1_17 : pv_fld RX1 17 1 1 := ⟨_, rfl, by decide, pv_gt_in (List.mem_of_getElem? (i := 246) (by decide +kernel)) rfl⟩
theorem fl_X1_24 : pv_fld RX1 24 1 2 := ⟨_, rfl, by decide, pv_gt_in (List.mem_of_getElem? (i := 247) (by decide +kernel)) rfl⟩
theorem fl_X11_228 : pv_fld RX11 228 1 2 := ⟨_, rfl, by decide, pv_gt_in (List.mem_of_getElem? (i := 248) (by decide +kernel)) rfl⟩
theorem fl_X1_28 : pv_fld RX1 28 1 3 := ⟨_, rfl, by decide, pv_gt_in (List.mem_of_getElem? (i := 249) (by decide +kernel)) rfl⟩
theorem fl_X11_300 : pv_fld RX11 300 1 3 := ⟨_, rfl, by decide, pv_gt_in (List.mem_of_getElem? (i := 250) (by decide +kernel)) rfl⟩
theorem fl_X1_32 : pv_fld RX1 32 1 4 := ⟨_, rfl, by decide, pv_gt_in (List.mem_of_getElem? (i := 251) (by decide +kernel)) rfl⟩
theorem fl_X11_294 : pv_fld RX11 294 1 4 := ⟨_, rfl, by decide, pv_gt_in (List.mem_of_getElem? (i := 252) (by decide +kernel)) rfl⟩
theorem fl_X5_18 : pv_fld RX5 18 5 0 := ⟨_, rfl, by decide, pv_gt_in (List.mem_of_getElem? (i := 272) (by decide +kernel)) rfl⟩
theorem fl_X5_9 : pv_fld RX5 9 5 1 := ⟨_, rfl, by decide, pv_gt_in (List.mem_of_getElem? (i := 273) (by decide +kernel)) rfl⟩
theorem fl_X5_15 : pv_fld RX5 15 5 2 := ⟨_, rfl, by decide, pv_gt_in (List.mem_of_getElem? (i := 274) (by decide +kernel)) rfl⟩
theorem fl_X5_29 : pv_fld RX5 29 5 3 := ⟨_, rfl, by decide, pv_gt_in (List.mem_of_getElem? (i := 275) (by decide +kernel)) rfl⟩
theorem fl_X11_11 : pv_fld RX11 11 11 0 := ⟨_, rfl, by decide, pv_gt_in (List.mem_of_getElem? (i := 286) (by decide +kernel)) rfl⟩
theorem fl_X11_73 : pv_fld RX11 73 11 1 := ⟨_, rfl, by decide, pv_gt_in (List.mem_of_getElem? (i := 287) (by decide +kernel)) rfl⟩
theorem fl_X11_18 : pv_fld RX11 18 11 2 := ⟨_, rfl, by decide, pv_gt_in (List.mem_of_getElem? (i := 288) (by decide +kernel)) rfl⟩
theorem fl_X11_25 : pv_fld RX11 25 11 3 := ⟨_, rfl, by decide, pv_gt_in (List.mem_of_getElem? (i := 289) (by decide +kernel)) rfl⟩
theorem fl_X11_32 : pv_fld RX11 32 11 4 := ⟨_, rfl, by decide, pv_gt_in (List.mem_of_getElem? (i := 290) (by decide +kernel)) rfl⟩
theorem fl_X11_139 : pv_fld RX11 139 11 5 := ⟨_, rfl, by decide, pv_gt_in (List.mem_of_getElem? (i := 291) (by decide +kernel)) rfl⟩
theorem fl_X11_39 : pv_fld RX11 39 11 6 := ⟨_, rfl, by decide, pv_gt_in (List.mem_of_getElem? (i := 292) (by decide +kernel)) rfl⟩
theorem fl_X11_45 : pv_fld RX11 45 11 7 := ⟨_, rfl, by decide, pv_gt_in (List.mem_of_getElem? (i := 293) (by decide +kernel)) rfl⟩
theorem fl_X11_182 : pv_fld RX11 182 11 8 := ⟨_, rfl, by decide, pv_gt_in (List.mem_of_getElem? (i := 294) (by decide +kernel)) rfl⟩
theorem fl_X11_186 : pv_fld RX11 186 11 9 := ⟨_, rfl, by decide, pv_gt_in (List.mem_of_getElem? (i := 295) (by decide +kernel)) rfl⟩
theorem fl_X11_52 : pv_fld RX11 52 11 10 := ⟨_, rfl, by decide, pv_gt_in (List.mem_of_getElem? (i := 296) (by decide +kernel)) rfl⟩
theorem fl_X11_58 : pv_fld RX11 58 11 11 := ⟨_, rfl, by decide, pv_gt_in (List.mem_of_getElem? (i := 297) (by decide +kernel)) rfl⟩
theorem fl_X11_243 : pv_fld RX11 243 11 12 := ⟨_, rfl, by decide, pv_gt_in (List.mem_of_getElem? (i := 298) (by decide +kernel)) rfl⟩
theorem fl_X11_65 : pv_fld RX11 65 11 13 := ⟨_, rfl, by decide, pv_gt_in (List.mem_of_getElem? (i := 299) (by decide +kernel)) rfl⟩
theorem fl_X8_9 : pv_fld RX8 9 8 0 := ⟨_, rfl, by decide, pv_gt_in (List.mem_of_getElem? (i := 342) (by decide +kernel)) rfl⟩
theorem fl_X8_15 : pv_fld RX8 15 8 1 := ⟨_, rfl, by decide, pv_gt_in (List.mem_of_getElem? (i := 343) (by decide +kernel)) rfl⟩
theorem fl_X4_31 : pv_fld RX4 31 8 1 := ⟨_, rfl, by decide, pv_gt_in (List.mem_of_getElem? (i := 344) (by decide +kernel)) rfl⟩
theorem fl_X8_18 : pv_fld RX8 18 8 2 := ⟨_, rfl, by decide, pv_gt_in (List.mem_of_getElem? (i := 345) (by decide +kernel)) rfl⟩
theorem fl_X2_22 : pv_fld RX2 22 8 2 := ⟨_, rfl, by decide, pv_gt_in (List.mem_of_getElem? (i := 346) (by decide +kernel)) rfl⟩
theorem fl_X4_36 : pv_fld RX4 36 8 2 := ⟨_, rfl, by decide, pv_gt_in (List.mem_of_getElem? (i := 347) (by decide +kernel)) rfl⟩
theorem fl_X11_92 : pv_fld RX11 92 8 2 := ⟨_, rfl, by decide, pv_gt_in (List.mem_of_getElem? (i := 348) (by decide +kernel)) rfl⟩
theorem fl_X8_28 : pv_fld RX8 28 8 3 := ⟨_, rfl, by decide, pv_gt_in (List.mem_of_getElem? (i := 349) (by decide +kernel)) rfl⟩
theorem fl_X2_27 : pv_fld RX2 27 8 3 := ⟨_, rfl, by decide, pv_gt_in (List.mem_of_getElem? (i := 350) (by decide +kernel)) rfl⟩
theorem fl_X11_96 : pv_fld RX11 96 8 3 := ⟨_, rfl, by decide, pv_gt_in (List.mem_of_getElem? (i := 351) (by decide +kernel)) rfl⟩
theorem fl_X8_31 : pv_fld RX8 31 8 4 := ⟨_, rfl, by decide, pv_gt_in (List.mem_of_getElem? (i := 352) (by decide +kernel)) rfl⟩
theorem fl_X11_142 : pv_fld RX11 142 8 4 := ⟨_, rfl, by decide, pv_gt_in (List.mem_of_getElem? (i := 353) (by decide +kernel)) rfl⟩
theorem fl_X8_59 : pv_fld RX8 59 8 5 := ⟨_, rfl, by decide, pv_gt_in (List.mem_of_getElem? (i := 354) (by decide +kernel)) rfl⟩
theorem fl_X11_148 : pv_fld RX11 148 8 5 := ⟨_, rfl, by decide, pv_gt_in (List.mem_of_getElem? (i := 355) (by decide +kernel)) rfl⟩
theorem fl_X8_65 : pv_fld RX8 65 8 6 := ⟨_, rfl, by decide, pv_gt_in (List.mem_of_getElem? (i := 356) (by decide +kernel)) rfl⟩
theorem fl_X11_151 : pv_fld RX11 151 8 6 := ⟨_, rfl, by decide, pv_gt_in (List.mem_of_getElem? (i := 357) (by decide +kernel)) rfl⟩
theorem fl_X8_68 : pv_fld RX8 68 8 7 := ⟨_, rfl, by decide, pv_gt_in (List.mem_of_getElem? (i := 358) (by decide +kernel)) rfl⟩
theorem fl_X11_154 : pv_fld RX11 154 8 7 := ⟨_, rfl, by decide, pv_gt_in (List.mem_of_getElem? (i := 359) (by decide +kernel)) rfl⟩
theorem fl_X8_62 : pv_fld RX8 62 8 8 := ⟨_, rfl, by decide, pv_gt_in (List.mem_of_getElem? (i := 360) (by decide +kernel)) rfl⟩
theorem fl_X11_157 : pv_fld RX11 157 8 8 := ⟨_, rfl, by decide, pv_gt_in (List.mem_of_getElem? (i := 361) (by decide +kernel)) rfl⟩
theorem fl_X3_9 : pv_fld RX3 9 3 0 := ⟨_, rfl, by decide, pv_gt_in (List.mem_of_getElem? (i := 648) (by decide +kernel)) rfl⟩
theorem fl_X1_82 : pv_fld RX1 82 3 0 := ⟨_, rfl, by decide, pv_gt_in (List.mem_of_getElem? (i := 649) (by decide +kernel)) rfl⟩
theorem fl_X11_225 : pv_fld RX11 225 3 0 := ⟨_, rfl, by decide, pv_gt_in (List.mem_of_getElem? (i := 650) (by decide +kernel)) rfl⟩
theorem fl_X3_15 : pv_fld RX3 15 3 1 := ⟨_, rfl, by decide, pv_gt_in (List.mem_of_getElem? (i := 651) (by decide +kernel)) rfl⟩
theorem fl_X1_73 : pv_fld RX1 73 3 1 := ⟨_, rfl, by decide, pv_gt_in (List.mem_of_getElem? (i := 652) (by decide +kernel)) rfl⟩
theorem fl_X3_18 : pv_fld RX3 18 3 2 := ⟨_, rfl, by decide, pv_gt_in (List.mem_of_getElem? (i := 653) (by decide +kernel)) rfl⟩
theorem fl_X1_79 : pv_fld RX1 79 3 2 := ⟨_, rfl, by decide, pv_gt_in (List.mem_of_getElem? (i := 654) (by decide +kernel)) rfl⟩
theorem fl_X3_21 : pv_fld RX3 21 3 3 := ⟨_, rfl, by decide, pv_gt_in (List.mem_of_getElem? (i := 655) (by decide +kernel)) rfl⟩
theorem fl_X1_68 : pv_fld RX1 68 3 3 := ⟨_, rfl, by decide, pv_gt_in (List.mem_of_getElem? (i := 656) (by decide +kernel)) rfl⟩
theorem fl_X3_24 : pv_fld RX3 24 3 4 := ⟨_, rfl, by decide, pv_gt_in (List.mem_of_getElem? (i := 657) (by decide +kernel)) rfl⟩
theorem fl_X1_76 : pv_fld RX1 76 3 4 := ⟨_, rfl, by decide, pv_gt_in (List.mem_of_getElem? (i := 658) (by decide +kernel)) rfl⟩
theorem fl_J0_38 : Cond.fieldLink RJ0 38 "java/lang/String" "COMPACT_STRINGS" "Z" ∈ pv_gt := pv_gt_in (List.mem_of_getElem? (i := 753) (by decide +kernel)) rfl
theorem fl_J0_1053 : Cond.fieldLink RJ0 1053 "jdk/internal/util/Preconditions" "SIOOBE_FORMATTER" "Ljava/util/function/BiFunction;" ∈ pv_gt := pv_gt_in (List.mem_of_getElem? (i := 792) (by decide +kernel)) rfl
theorem fl_J2_44 : Cond.fieldLink RJ2 44 "java/lang/StringUTF16" "$assertionsDisabled" "Z" ∈ pv_gt := pv_gt_in (List.mem_of_getElem? (i := 803) (by decide +kernel)) rfl
theorem fl_J2_59 : Cond.fieldLink RJ2 59 "java/lang/StringUTF16" "HI_BYTE_SHIFT" "I" ∈ pv_gt := pv_gt_in (List.mem_of_getElem? (i := 805) (by decide +kernel)) rfl
theorem fl_J2_63 : Cond.fieldLink RJ2 63 "java/lang/StringUTF16" "LO_BYTE_SHIFT" "I" ∈ pv_gt := pv_gt_in (List.mem_of_getElem? (i := 807) (by decide +kernel)) rfl
theorem fl_X0_7 : pv_fld RX0 7 0 0 := ⟨_, rfl, by decide, pv_gt_in (List.mem_of_getElem? (i := 843) (by decide +kernel)) rfl⟩
theorem fl_X1_51 : pv_fld RX1 51 0 0 := ⟨_, rfl, by decide, pv_gt_in (List.mem_of_getElem? (i := 844) (by decide +kernel)) rfl⟩
theorem fl_X0_13 : pv_fld RX0 13 0 1 := ⟨_, rfl, by decide, pv_gt_in (List.mem_of_getElem? (i := 845) (by decide +kernel)) rfl⟩
theorem fl_X1_54 : pv_fld RX1 54 0 1 := ⟨_, rfl, by decide, pv_gt_in (List.mem_of_getElem? (i := 846) (by decide +kernel)) rfl⟩
theorem fl_X0_16 : pv_fld RX0 16 0 2 := ⟨_, rfl, by decide, pv_gt_in (List.mem_of_getElem? (i := 847) (by decide +kernel)) rfl⟩
theorem fl_X1_57 : pv_fld RX1 57 0 2 := ⟨_, rfl, by decide, pv_gt_in (List.mem_of_getElem? (i := 848) (by decide +kernel)) rfl⟩
theorem fl_X0_19 : pv_fld RX0 19 0 3 := ⟨_, rfl, by decide, pv_gt_in (List.mem_of_getElem? (i := 849) (by decide +kernel)) rfl⟩
theorem fl_X1_89 : pv_fld RX1 89 0 3 := ⟨_, rfl, by decide, pv_gt_in (List.mem_of_getElem? (i := 850) (by decide +kernel)) rfl⟩
theorem fl_X6_9 : pv_fld RX6 9 6 0 := ⟨_, rfl, by decide, pv_gt_in (List.mem_of_getElem? (i := 934) (by decide +kernel)) rfl⟩
theorem fl_X1_110 : pv_fld RX1 110 6 0 := ⟨_, rfl, by decide, pv_gt_in (List.mem_of_getElem? (i := 935) (by decide +kernel)) rfl⟩
theorem fl_X11_262 : pv_fld RX11 262 6 0 := ⟨_, rfl, by decide, pv_gt_in (List.mem_of_getElem? (i := 936) (by decide +kernel)) rfl⟩
theorem fl_X6_15 : pv_fld RX6 15 6 1 := ⟨_, rfl, by decide, pv_gt_in (List.mem_of_getElem? (i := 937) (by decide +kernel)) rfl⟩
theorem fl_X1_113 : pv_fld RX1 113 6 1 := ⟨_, rfl, by decide, pv_gt_in (List.mem_of_getElem? (i := 938) (by decide +kernel)) rfl⟩
theorem fl_X11_275 : pv_fld RX11 275 6 1 := ⟨_, rfl, by decide, pv_gt_in (List.mem_of_getElem? (i := 939) (by decide +kernel)) rfl⟩
theorem fl_X6_18 : pv_fld RX6 18 6 2 := ⟨_, rfl, by decide, pv_gt_in (List.mem_of_getElem? (i := 940) (by decide +kernel)) rfl⟩
theorem fl_X11_278 : pv_fld RX11 278 6 2 := ⟨_, rfl, by decide, pv_gt_in (List.mem_of_getElem? (i := 941) (by decide +kernel)) rfl⟩
theorem fl_X6_21 : pv_fld RX6 21 6 3 := ⟨_, rfl, by decide, pv_gt_in (List.mem_of_getElem? (i := 942) (by decide +kernel)) rfl⟩
theorem fl_X11_259 : pv_fld RX11 259 6 3 := ⟨_, rfl, by decide, pv_gt_in (List.mem_of_getElem? (i := 943) (by decide +kernel)) rfl⟩
theorem fl_X6_24 : pv_fld RX6 24 6 4 := ⟨_, rfl, by decide, pv_gt_in (List.mem_of_getElem? (i := 944) (by decide +kernel)) rfl⟩
theorem fl_X1_101 : pv_fld RX1 101 6 4 := ⟨_, rfl, by decide, pv_gt_in (List.mem_of_getElem? (i := 945) (by decide +kernel)) rfl⟩
theorem fl_X11_281 : pv_fld RX11 281 6 4 := ⟨_, rfl, by decide, pv_gt_in (List.mem_of_getElem? (i := 946) (by decide +kernel)) rfl⟩
theorem fl_X6_27 : pv_fld RX6 27 6 5 := ⟨_, rfl, by decide, pv_gt_in (List.mem_of_getElem? (i := 947) (by decide +kernel)) rfl⟩
theorem fl_X11_256 : pv_fld RX11 256 6 5 := ⟨_, rfl, by decide, pv_gt_in (List.mem_of_getElem? (i := 948) (by decide +kernel)) rfl⟩
theorem fl_X12_161 : pv_fld RX12 161 12 1 := ⟨_, rfl, by decide, pv_gt_in (List.mem_of_getElem? (i := 1049) (by decide +kernel)) rfl⟩
theorem fl_X12_7 : pv_fld RX12 7 12 2 := ⟨_, rfl, by decide, pv_gt_in (List.mem_of_getElem? (i := 1050) (by decide +kernel)) rfl⟩
theorem fl_X12_13 : pv_fld RX12 13 12 3 := ⟨_, rfl, by decide, pv_gt_in (List.mem_of_getElem? (i := 1051) (by decide +kernel)) rfl⟩
theorem fl_X12_16 : pv_fld RX12 16 12 4 := ⟨_, rfl, by decide, pv_gt_in (List.mem_of_getElem? (i := 1052) (by decide +kernel)) rfl⟩
theorem fl_X12_19 : pv_fld RX12 19 12 5 := ⟨_, rfl, by decide, pv_gt_in (List.mem_of_getElem? (i := 1053) (by decide +kernel)) rfl⟩
theorem fl_X12_23 : pv_fld RX12 23 12 6 := ⟨_, rfl, by decide, pv_gt_in (List.mem_of_getElem? (i := 1054) (by decide +kernel)) rfl⟩
theorem fl_X12_26 : pv_fld RX12 26 12 7 := ⟨_, rfl, by decide, pv_gt_in (List.mem_of_getElem? (i := 1055) (by decide +kernel)) rfl⟩
theorem fl_X12_30 : pv_fld RX12 30 12 8 := ⟨_, rfl, by decide, pv_gt_in (List.mem_of_getElem? (i := 1056) (by decide +kernel)) rfl⟩
theorem fl_X12_198 : pv_fld RX12 198 12 9 := ⟨_, rfl, by decide, pv_gt_in (List.mem_of_getElem? (i := 1057) (by decide +kernel)) rfl⟩
theorem fl_X12_202 : pv_fld RX12 202 12 10 := ⟨_, rfl, by decide, pv_gt_in (List.mem_of_getElem? (i := 1058) (by decide +kernel)) rfl⟩
theorem fl_X12_33 : pv_fld RX12 33 12 11 := ⟨_, rfl, by decide, pv_gt_in (List.mem_of_getElem? (i := 1059) (by decide +kernel)) rfl⟩
theorem fl_X12_36 : pv_fld RX12 36 12 12 := ⟨_, rfl, by decide, pv_gt_in (List.mem_of_getElem? (i := 1060) (by decide +kernel)) rfl⟩
theorem fl_X12_39 : pv_fld RX12 39 12 13 := ⟨_, rfl, by decide, pv_gt_in (List.mem_of_getElem? (i := 1061) (by decide +kernel)) rfl⟩
theorem fl_X12_42 : pv_fld RX12 42 12 14 := ⟨_, rfl, by decide, pv_gt_in (List.mem_of_getElem? (i := 1062) (by decide +kernel)) rfl⟩
theorem fl_X12_45 : pv_fld RX12 45 12 15 := ⟨_, rfl, by decide, pv_gt_in (List.mem_of_getElem? (i := 1063) (by decide +kernel)) rfl⟩
theorem fl_X12_208 : pv_fld RX12 208 12 16 := ⟨_, rfl, by decide, pv_gt_in (List.mem_of_getElem? (i := 1064) (by decide +kernel)) rfl⟩
theorem fl_X12_48 : pv_fld RX12 48 12 17 := ⟨_, rfl, by decide, pv_gt_in (List.mem_of_getElem? (i := 1065) (by decide +kernel)) rfl⟩
theorem fl_X12_51 : pv_fld RX12 51 12 18 := ⟨_, rfl, by decide, pv_gt_in (List.mem_of_getElem? (i := 1066) (by decide +kernel)) rfl⟩
theorem fl_X12_211 : pv_fld RX12 211 12 19 := ⟨_, rfl, by decide, pv_gt_in (List.mem_of_getElem? (i := 1067) (by decide +kernel)) rfl⟩
theorem fl_X12_54 : pv_fld RX12 54 12 20 := ⟨_, rfl, by decide, pv_gt_in (List.mem_of_getElem? (i := 1068) (by decide +kernel)) rfl⟩
theorem fl_X12_57 : pv_fld RX12 57 12 21 := ⟨_, rfl, by decide, pv_gt_in (List.mem_of_getElem? (i := 1069) (by decide +kernel)) rfl⟩
theorem fl_X12_60 : pv_fld RX12 60 12 22 := ⟨_, rfl, by decide, pv_gt_in (List.mem_of_getElem? (i := 1070) (by decide +kernel)) rfl⟩
theorem fl_X12_63 : pv_fld RX12 63 12 23 := ⟨_, rfl, by decide, pv_gt_in (List.mem_of_getElem? (i := 1071) (by decide +kernel)) rfl⟩
theorem fl_X12_66 : pv_fld RX12 66 12 24 := ⟨_, rfl, by decide, pv_gt_in (List.mem_of_getElem? (i := 1072) (by decide +kernel)) rfl⟩
theorem fl_X12_69 : pv_fld RX12 69 12 25 := ⟨_, rfl, by decide, pv_gt_in (List.mem_of_getElem? (i := 1073) (by decide +kernel)) rfl⟩
theorem fl_X12_225 : pv_fld RX12 225 12 26 := ⟨_, rfl, by decide, pv_gt_in (List.mem_of_getElem? (i := 1074) (by decide +kernel)) rfl⟩
theorem fl_X12_228 : pv_fld RX12 228 12 27 := ⟨_, rfl, by decide, pv_gt_in (List.mem_of_getElem? (i := 1075) (by decide +kernel)) rfl⟩
theorem fl_X12_72 : pv_fld RX12 72 12 28 := ⟨_, rfl, by decide, pv_gt_in (List.mem_of_getElem? (i := 1076) (by decide +kernel)) rfl⟩
theorem fl_X12_75 : pv_fld RX12 75 12 29 := ⟨_, rfl, by decide, pv_gt_in (List.mem_of_getElem? (i := 1077) (by decide +kernel)) rfl⟩
theorem fl_X12_78 : pv_fld RX12 78 12 30 := ⟨_, rfl, by decide, pv_gt_in (List.mem_of_getElem? (i := 1078) (by decide +kernel)) rfl⟩
theorem fl_X12_81 : pv_fld RX12 81 12 31 := ⟨_, rfl, by decide, pv_gt_in (List.mem_of_getElem? (i := 1079) (by decide +kernel)) rfl⟩
theorem fl_X12_237 : pv_fld RX12 237 12 32 := ⟨_, rfl, by decide, pv_gt_in (List.mem_of_getElem? (i := 1080) (by decide +kernel)) rfl⟩
theorem fl_X12_234 : pv_fld RX12 234 12 33 := ⟨_, rfl, by decide, pv_gt_in (List.mem_of_getElem? (i := 1081) (by decide +kernel)) rfl⟩
theorem fl_X12_84 : pv_fld RX12 84 12 34 := ⟨_, rfl, by decide, pv_gt_in (List.mem_of_getElem? (i := 1082) (by decide +kernel)) rfl⟩
theorem fl_X12_87 : pv_fld RX12 87 12 35 := ⟨_, rfl, by decide, pv_gt_in (List.mem_of_getElem? (i := 1083) (by decide +kernel)) rfl⟩
theorem fl_X12_90 : pv_fld RX12 90 12 36 := ⟨_, rfl, by decide, pv_gt_in (List.mem_of_getElem? (i := 1084) (by decide +kernel)) rfl⟩
theorem fl_X12_93 : pv_fld RX12 93 12 37 := ⟨_, rfl, by decide, pv_gt_in (List.mem_of_getElem? (i := 1085) (by decide +kernel)) rfl⟩
theorem fl_X12_96 : pv_fld RX12 96 12 38 := ⟨_, rfl, by decide, pv_gt_in (List.mem_of_getElem? (i := 1086) (by decide +kernel)) rfl⟩
theorem fl_X12_99 : pv_fld RX12 99 12 39 := ⟨_, rfl, by decide, pv_gt_in (List.mem_of_getElem? (i := 1087) (by decide +kernel)) rfl⟩
theorem fl_X12_240 : pv_fld RX12 240 12 40 := ⟨_, rfl, by decide, pv_gt_in (List.mem_of_getElem? (i := 1088) (by decide +kernel)) rfl⟩
theorem fl_X12_279 : pv_fld RX12 279 12 41 := ⟨_, rfl, by decide, pv_gt_in (List.mem_of_getElem? (i := 1089) (by decide +kernel)) rfl⟩
theorem fl_X12_103 : pv_fld RX12 103 12 42 := ⟨_, rfl, by decide, pv_gt_in (List.mem_of_getElem? (i := 1090) (by decide +kernel)) rfl⟩
theorem fl_X12_106 : pv_fld RX12 106 12 43 := ⟨_, rfl, by decide, pv_gt_in (List.mem_of_getElem? (i := 1091) (by decide +kernel)) rfl⟩
theorem fl_X12_109 : pv_fld RX12 109 12 44 := ⟨_, rfl, by decide, pv_gt_in (List.mem_of_getElem? (i := 1092) (by decide +kernel)) rfl⟩
theorem fl_X12_112 : pv_fld RX12 112 12 45 := ⟨_, rfl, by decide, pv_gt_in (List.mem_of_getElem? (i := 1093) (by decide +kernel)) rfl⟩
theorem fl_X12_115 : pv_fld RX12 115 12 46 := ⟨_, rfl, by decide, pv_gt_in (List.mem_of_getElem? (i := 1094) (by decide +kernel)) rfl⟩
theorem fl_X12_118 : pv_fld RX12 118 12 47 := ⟨_, rfl, by decide, pv_gt_in (List.mem_of_getElem? (i := 1095) (by decide +kernel)) rfl⟩
theorem fl_X12_121 : pv_fld RX12 121 12 48 := ⟨_, rfl, by decide, pv_gt_in (List.mem_of_getElem? (i := 1096) (by decide +kernel)) rfl⟩
theorem fl_X12_246 : pv_fld RX12 246 12 49 := ⟨_, rfl, by decide, pv_gt_in (List.mem_of_getElem? (i := 1097) (by decide +kernel)) rfl⟩
theorem fl_X12_243 : pv_fld RX12 243 12 50 := ⟨_, rfl, by decide, pv_gt_in (List.mem_of_getElem? (i := 1098) (by decide +kernel)) rfl⟩
theorem fl_X12_256 : pv_fld RX12 256 12 51 := ⟨_, rfl, by decide, pv_gt_in (List.mem_of_getElem? (i := 1099) (by decide +kernel)) rfl⟩
theorem fl_X12_124 : pv_fld RX12 124 12 52 := ⟨_, rfl, by decide, pv_gt_in (List.mem_of_getElem? (i := 1100) (by decide +kernel)) rfl⟩
theorem fl_X12_127 : pv_fld RX12 127 12 53 := ⟨_, rfl, by decide, pv_gt_in (List.mem_of_getElem? (i := 1101) (by decide +kernel)) rfl⟩
theorem fl_X12_291 : pv_fld RX12 291 12 54 := ⟨_, rfl, by decide, pv_gt_in (List.mem_of_getElem? (i := 1102) (by decide +kernel)) rfl⟩
theorem fl_X12_311 : pv_fld RX12 311 12 55 := ⟨_, rfl, by decide, pv_gt_in (List.mem_of_getElem? (i := 1103) (by decide +kernel)) rfl⟩
theorem fl_X12_130 : pv_fld RX12 130 12 56 := ⟨_, rfl, by decide, pv_gt_in (List.mem_of_getElem? (i := 1104) (by decide +kernel)) rfl⟩
theorem fl_X12_133 : pv_fld RX12 133 12 57 := ⟨_, rfl, by decide, pv_gt_in (List.mem_of_getElem? (i := 1105) (by decide +kernel)) rfl⟩
theorem fl_X12_136 : pv_fld RX12 136 12 58 := ⟨_, rfl, by decide, pv_gt_in (List.mem_of_getElem? (i := 1106) (by decide +kernel)) rfl⟩
theorem fl_X12_139 : pv_fld RX12 139 12 59 := ⟨_, rfl, by decide, pv_gt_in (List.mem_of_getElem? (i := 1107) (by decide +kernel)) rfl⟩
theorem fl_X12_142 : pv_fld RX12 142 12 60 := ⟨_, rfl, by decide, pv_gt_in (List.mem_of_getElem? (i := 1108) (by decide +kernel)) rfl⟩
theorem fl_X12_145 : pv_fld RX12 145 12 61 := ⟨_, rfl, by decide, pv_gt_in (List.mem_of_getElem? (i := 1109) (by decide +kernel)) rfl⟩
theorem fl_X12_324 : pv_fld RX12 324 12 62 := ⟨_, rfl, by decide, pv_gt_in (List.mem_of_getElem? (i := 1110) (by decide +kernel)) rfl⟩
theorem fl_X12_148 : pv_fld RX12 148 12 63 := ⟨_, rfl, by decide, pv_gt_in (List.mem_of_getElem? (i := 1111) (by decide +kernel)) rfl⟩
theorem fl_X12_151 : pv_fld RX12 151 12 64 := ⟨_, rfl, by decide, pv_gt_in (List.mem_of_getElem? (i := 1112) (by decide +kernel)) rfl⟩
theorem fl_X12_154 : pv_fld RX12 154 12 65 := ⟨_, rfl, by decide, pv_gt_in (List.mem_of_getElem? (i := 1113) (by decide +kernel)) rfl⟩
theorem fl_J0_15 : Cond.fieldLink RJ0 15 "java/lang/String" "coder" "B" ∈ pv_gt := pv_gt_in (List.mem_of_getElem? (i := 1530) (by decide +kernel)) rfl
theorem fl_J0_9 : Cond.fieldLink RJ0 9 "java/lang/String" "value" "[B" ∈ pv_gt := pv_gt_in (List.mem_of_getElem? (i := 1531) (by decide +kernel)) rfl
theorem kc_X4_77 : Cond.constant RX4 77 (1000000) ∈ pv_gt := pv_gt_in (List.mem_of_getElem? (i := 486) (by decide +kernel)) rfl
theorem kc_X10_32 : Cond.constant RX10 32 (1000000) ∈ pv_gt := pv_gt_in (List.mem_of_getElem? (i := 535) (by decide +kernel)) rfl
theorem kc_J6_265 : Cond.constant RJ6 265 (1431655765) ∈ pv_gt := pv_gt_in (List.mem_of_getElem? (i := 595) (by decide +kernel)) rfl
theorem kc_J6_266 : Cond.constant RJ6 266 (858993459) ∈ pv_gt := pv_gt_in (List.mem_of_getElem? (i := 596) (by decide +kernel)) rfl
theorem kc_J6_267 : Cond.constant RJ6 267 (252645135) ∈ pv_gt := pv_gt_in (List.mem_of_getElem? (i := 597) (by decide +kernel)) rfl
theorem kc_X11_164 : Cond.constant RX11 164 (99999) ∈ pv_gt := pv_gt_in (List.mem_of_getElem? (i := 598) (by decide +kernel)) rfl
theorem kc_J2_227 : Cond.constant RJ2 227 (65536) ∈ pv_gt := pv_gt_in (List.mem_of_getElem? (i := 779) (by decide +kernel)) rfl
theorem kc_J11_110 : Cond.constant RJ11 110 (55232) ∈ pv_gt := pv_gt_in (List.mem_of_getElem? (i := 818) (by decide +kernel)) rfl
theorem kc_J11_76 : Cond.constant RJ11 76 (56320) ∈ pv_gt := pv_gt_in (List.mem_of_getElem? (i := 822) (by decide +kernel)) rfl
theorem kc_X11_209 : Cond.constant RX11 209 (-2000000000) ∈ pv_gt := pv_gt_in (List.mem_of_getElem? (i := 876) (by decide +kernel)) rfl
theorem kc_X1_116 : Cond.constant RX1 116 (1000000) ∈ pv_gt := pv_gt_in (List.mem_of_getElem? (i := 893) (by decide +kernel)) rfl
theorem kc_X5_22 : Cond.constant RX5 22 (1103515245) ∈ pv_gt := pv_gt_in (List.mem_of_getElem? (i := 1008) (by decide +kernel)) rfl
theorem kc_X5_33 : Cond.constantLong RX5 33 (10000) ∈ pv_gt := pv_gt_in (List.mem_of_getElem? (i := 1026) (by decide +kernel)) rfl
theorem kc_X12_189 : Cond.constant RX12 189 (1000000) ∈ pv_gt := pv_gt_in (List.mem_of_getElem? (i := 1306) (by decide +kernel)) rfl
theorem kc_X12_221 : Cond.constant RX12 221 (99999) ∈ pv_gt := pv_gt_in (List.mem_of_getElem? (i := 1373) (by decide +kernel)) rfl
theorem kc_X12_306 : Cond.constant RX12 306 (-2000000000) ∈ pv_gt := pv_gt_in (List.mem_of_getElem? (i := 1453) (by decide +kernel)) rfl
theorem kc_X12_323 : Cond.constant RX12 323 (1103515245) ∈ pv_gt := pv_gt_in (List.mem_of_getElem? (i := 1512) (by decide +kernel)) rfl
theorem kc_X12_331 : Cond.constantLong RX12 331 (10000) ∈ pv_gt := pv_gt_in (List.mem_of_getElem? (i := 1525) (by decide +kernel)) rfl
theorem cl_L_7 : Cond.classLink RL 7 RX11 ∈ pv_gt := pv_gt_in (List.mem_of_getElem? (i := 79) (by decide +kernel)) rfl
theorem cl_X11_9 : Cond.classLink RX11 9 RX8 ∈ pv_gt := pv_gt_in (List.mem_of_getElem? (i := 87) (by decide +kernel)) rfl
theorem cl_X11_15 : Cond.classLink RX11 15 RX2 ∈ pv_gt := pv_gt_in (List.mem_of_getElem? (i := 89) (by decide +kernel)) rfl
theorem cl_X11_22 : Cond.classLink RX11 22 RX4 ∈ pv_gt := pv_gt_in (List.mem_of_getElem? (i := 103) (by decide +kernel)) rfl
theorem cl_X11_29 : Cond.classLink RX11 29 RX10 ∈ pv_gt := pv_gt_in (List.mem_of_getElem? (i := 137) (by decide +kernel)) rfl
theorem cl_X11_36 : Cond.classLink RX11 36 RX7 ∈ pv_gt := pv_gt_in (List.mem_of_getElem? (i := 159) (by decide +kernel)) rfl
theorem cl_X11_43 : Cond.classLink RX11 43 RX3 ∈ pv_gt := pv_gt_in (List.mem_of_getElem? (i := 202) (by decide +kernel)) rfl
theorem cl_X11_49 : Cond.classLink RX11 49 RX1 ∈ pv_gt := pv_gt_in (List.mem_of_getElem? (i := 204) (by decide +kernel)) rfl
theorem cl_X1_15 : Cond.classLink RX1 15 RX0 ∈ pv_gt := pv_gt_in (List.mem_of_getElem? (i := 210) (by decide +kernel)) rfl
theorem cl_X1_21 : Cond.classLink RX1 21 RX9 ∈ pv_gt := pv_gt_in (List.mem_of_getElem? (i := 212) (by decide +kernel)) rfl
theorem cl_X11_56 : Cond.classLink RX11 56 RX6 ∈ pv_gt := pv_gt_in (List.mem_of_getElem? (i := 264) (by decide +kernel)) rfl
theorem cl_X11_62 : Cond.classLink RX11 62 RX5 ∈ pv_gt := pv_gt_in (List.mem_of_getElem? (i := 266) (by decide +kernel)) rfl
theorem cl_J7_311 : Cond.classLink RJ7 311 "[B" ∈ pv_gt := pv_gt_in (List.mem_of_getElem? (i := 836) (by decide +kernel)) rfl
theorem cl_L_10 : Cond.classLink RL 10 RX12 ∈ pv_gt := pv_gt_in (List.mem_of_getElem? (i := 1043) (by decide +kernel)) rfl
theorem ins_X11 : Cond.instantiable RX11 14 ∈ pv_gt := pv_gt_in (List.mem_of_getElem? (i := 80) (by decide +kernel)) rfl
theorem ins_X2 : Cond.instantiable RX2 2 ∈ pv_gt := pv_gt_in (List.mem_of_getElem? (i := 90) (by decide +kernel)) rfl
theorem ac_int : Cond.arrayClass .int ∈ pv_gt := pv_gt_in (List.mem_of_getElem? (i := 102) (by decide +kernel)) rfl
theorem ins_X4 : Cond.instantiable RX4 9 ∈ pv_gt := pv_gt_in (List.mem_of_getElem? (i := 104) (by decide +kernel)) rfl
theorem ins_X10 : Cond.instantiable RX10 5 ∈ pv_gt := pv_gt_in (List.mem_of_getElem? (i := 138) (by decide +kernel)) rfl
theorem ins_X7 : Cond.instantiable RX7 11 ∈ pv_gt := pv_gt_in (List.mem_of_getElem? (i := 160) (by decide +kernel)) rfl
theorem ins_X1 : Cond.instantiable RX1 5 ∈ pv_gt := pv_gt_in (List.mem_of_getElem? (i := 205) (by decide +kernel)) rfl
theorem ins_X9 : Cond.instantiable RX9 7 ∈ pv_gt := pv_gt_in (List.mem_of_getElem? (i := 213) (by decide +kernel)) rfl
theorem ac_byte : Cond.arrayClass .byte ∈ pv_gt := pv_gt_in (List.mem_of_getElem? (i := 244) (by decide +kernel)) rfl
theorem ins_X5 : Cond.instantiable RX5 4 ∈ pv_gt := pv_gt_in (List.mem_of_getElem? (i := 267) (by decide +kernel)) rfl
theorem ac_long : Cond.arrayClass .long ∈ pv_gt := pv_gt_in (List.mem_of_getElem? (i := 285) (by decide +kernel)) rfl
theorem ins_X8 : Cond.instantiable RX8 9 ∈ pv_gt := pv_gt_in (List.mem_of_getElem? (i := 336) (by decide +kernel)) rfl
theorem ins_X3 : Cond.instantiable RX3 5 ∈ pv_gt := pv_gt_in (List.mem_of_getElem? (i := 643) (by decide +kernel)) rfl
theorem ins_X0 : Cond.instantiable RX0 4 ∈ pv_gt := pv_gt_in (List.mem_of_getElem? (i := 826) (by decide +kernel)) rfl
theorem ins_X6 : Cond.instantiable RX6 6 ∈ pv_gt := pv_gt_in (List.mem_of_getElem? (i := 929) (by decide +kernel)) rfl
theorem ins_X12 : Cond.instantiable RX12 66 ∈ pv_gt := pv_gt_in (List.mem_of_getElem? (i := 1044) (by decide +kernel)) rfl
theorem ac_boolean : Cond.arrayClass .boolean ∈ pv_gt := pv_gt_in (List.mem_of_getElem? (i := 1247) (by decide +kernel)) rfl
theorem obj_i : Cond.instanceMethod Lib.objectInit ∈ pv_gt := pv_gt_in (List.mem_of_getElem? (i := 85) (by decide +kernel)) rfl
theorem obj_c : Cond.code Lib.objectInit ⟨#[0xb1]⟩ 1 none ∈ pv_gt := pv_gt_in (List.mem_of_getElem? (i := 86) (by decide +kernel)) rfl
