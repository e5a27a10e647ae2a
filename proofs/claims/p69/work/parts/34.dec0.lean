set_option maxRecDepth 100000 in
theorem t_1 : (x_mt : List xM)[1]? = some M_cX0_most := rfl
set_option maxRecDepth 100000 in
theorem t_2 : (x_mt : List xM)[2]? = some M_cX0_goOn := rfl
set_option maxRecDepth 100000 in
theorem t_3 : (x_mt : List xM)[3]? = some M_cX0_freeAt := rfl
set_option maxRecDepth 100000 in
theorem t_4 : (x_mt : List xM)[4]? = some M_cX0_keep := rfl
set_option maxRecDepth 100000 in
theorem t_6 : (x_mt : List xM)[6]? = some M_cX1_judge := rfl
set_option maxRecDepth 100000 in
theorem t_7 : (x_mt : List xM)[7]? = some M_cX1_judgeOne := rfl
set_option maxRecDepth 100000 in
theorem t_9 : (x_mt : List xM)[9]? = some M_cX2_empty := rfl
set_option maxRecDepth 100000 in
theorem t_10 : (x_mt : List xM)[10]? = some M_cX2_copy := rfl
set_option maxRecDepth 100000 in
theorem t_11 : (x_mt : List xM)[11]? = some M_cX2_isTold := rfl
set_option maxRecDepth 100000 in
theorem t_12 : (x_mt : List xM)[12]? = some M_cX2_holes := rfl
set_option maxRecDepth 100000 in
theorem t_13 : (x_mt : List xM)[13]? = some M_cX2_isHole := rfl
set_option maxRecDepth 100000 in
theorem t_14 : (x_mt : List xM)[14]? = some M_cX2_isTick := rfl
set_option maxRecDepth 100000 in
theorem t_15 : (x_mt : List xM)[15]? = some M_cX2_isPlayer := rfl
set_option maxRecDepth 100000 in
theorem t_16 : (x_mt : List xM)[16]? = some M_cX2_isShut := rfl
set_option maxRecDepth 100000 in
theorem t_17 : (x_mt : List xM)[17]? = some M_cX2_openHoles := rfl
set_option maxRecDepth 100000 in
theorem t_18 : (x_mt : List xM)[18]? = some M_cX2_apart := rfl
set_option maxRecDepth 100000 in
theorem t_19 : (x_mt : List xM)[19]? = some M_cX2_stepsToAll := rfl
set_option maxRecDepth 100000 in
theorem t_20 : (x_mt : List xM)[20]? = some M_cX2_pathRound := rfl
set_option maxRecDepth 100000 in
theorem t_21 : (x_mt : List xM)[21]? = some M_cX2_stayIn := rfl
set_option maxRecDepth 100000 in
theorem t_22 : (x_mt : List xM)[22]? = some M_cX2_hasStayFrom := rfl
set_option maxRecDepth 100000 in
theorem t_23 : (x_mt : List xM)[23]? = some M_cX2_setStay := rfl
set_option maxRecDepth 100000 in
theorem t_24 : (x_mt : List xM)[24]? = some M_cX2_trait := rfl
set_option maxRecDepth 100000 in
theorem t_25 : (x_mt : List xM)[25]? = some M_cX2_setTrait := rfl
set_option maxRecDepth 100000 in
theorem t_26 : (x_mt : List xM)[26]? = some M_cX2_isTrait := rfl
set_option maxRecDepth 100000 in
theorem t_27 : (x_mt : List xM)[27]? = some M_cX2_lets := rfl
set_option maxRecDepth 100000 in
theorem t_29 : (x_mt : List xM)[29]? = some M_cX3_empty := rfl
set_option maxRecDepth 100000 in
theorem t_30 : (x_mt : List xM)[30]? = some M_cX3_copy := rfl
set_option maxRecDepth 100000 in
theorem t_31 : (x_mt : List xM)[31]? = some M_cX3_has := rfl
set_option maxRecDepth 100000 in
theorem t_32 : (x_mt : List xM)[32]? = some M_cX3_add := rfl
set_option maxRecDepth 100000 in
theorem t_33 : (x_mt : List xM)[33]? = some M_cX3_exchange := rfl
set_option maxRecDepth 100000 in
theorem t_34 : (x_mt : List xM)[34]? = some M_cX3_exchangeIn := rfl
set_option maxRecDepth 100000 in
theorem t_35 : (x_mt : List xM)[35]? = some M_cX3_round := rfl
set_option maxRecDepth 100000 in
theorem t_36 : (x_mt : List xM)[36]? = some M_cX3_oftenAt := rfl
set_option maxRecDepth 100000 in
theorem t_37 : (x_mt : List xM)[37]? = some M_cX3_goesSo := rfl
set_option maxRecDepth 100000 in
theorem t_38 : (x_mt : List xM)[38]? = some M_cX3_neededFrom := rfl
set_option maxRecDepth 100000 in
theorem t_39 : (x_mt : List xM)[39]? = some M_cX3_alike := rfl
set_option maxRecDepth 100000 in
theorem t_41 : (x_mt : List xM)[41]? = some M_cX4_has := rfl
set_option maxRecDepth 100000 in
theorem t_42 : (x_mt : List xM)[42]? = some M_cX4_deal := rfl
set_option maxRecDepth 100000 in
theorem t_43 : (x_mt : List xM)[43]? = some M_cX4_draw := rfl
set_option maxRecDepth 100000 in
theorem t_44 : (x_mt : List xM)[44]? = some M_cX4_nthLet := rfl
set_option maxRecDepth 100000 in
theorem t_45 : (x_mt : List xM)[45]? = some M_cX4_begin := rfl
set_option maxRecDepth 100000 in
theorem t_46 : (x_mt : List xM)[46]? = some M_cX4_hasRoom := rfl
set_option maxRecDepth 100000 in
theorem t_47 : (x_mt : List xM)[47]? = some M_cX4_add := rfl
set_option maxRecDepth 100000 in
theorem t_48 : (x_mt : List xM)[48]? = some M_cX4_upIn := rfl
set_option maxRecDepth 100000 in
theorem t_49 : (x_mt : List xM)[49]? = some M_cX4_holesOf := rfl
set_option maxRecDepth 100000 in
theorem t_50 : (x_mt : List xM)[50]? = some M_cX4_goodHoles := rfl
set_option maxRecDepth 100000 in
theorem t_51 : (x_mt : List xM)[51]? = some M_cX4_goodIn := rfl
set_option maxRecDepth 100000 in
theorem t_52 : (x_mt : List xM)[52]? = some M_cX4_strike := rfl
set_option maxRecDepth 100000 in
theorem t_54 : (x_mt : List xM)[54]? = some M_cX5_begin := rfl
set_option maxRecDepth 100000 in
theorem t_55 : (x_mt : List xM)[55]? = some M_cX5_grow := rfl
set_option maxRecDepth 100000 in
theorem t_56 : (x_mt : List xM)[56]? = some M_cX5_growFrom := rfl
set_option maxRecDepth 100000 in
theorem t_57 : (x_mt : List xM)[57]? = some M_cX5_at := rfl
set_option maxRecDepth 100000 in
theorem t_58 : (x_mt : List xM)[58]? = some M_cX5_waysTo := rfl
set_option maxRecDepth 100000 in
theorem t_59 : (x_mt : List xM)[59]? = some M_cX5_add := rfl
set_option maxRecDepth 100000 in
theorem t_60 : (x_mt : List xM)[60]? = some M_cX5_rowsTo := rfl
set_option maxRecDepth 100000 in
theorem t_61 : (x_mt : List xM)[61]? = some M_cX5_rowsInAll := rfl
set_option maxRecDepth 100000 in
theorem t_62 : (x_mt : List xM)[62]? = some M_cX5_isEven := rfl
set_option maxRecDepth 100000 in
theorem t_64 : (x_mt : List xM)[64]? = some M_cX6_take := rfl
set_option maxRecDepth 100000 in
theorem t_65 : (x_mt : List xM)[65]? = some M_cX6_paceIn := rfl
set_option maxRecDepth 100000 in
theorem t_66 : (x_mt : List xM)[66]? = some M_cX6_awareOf := rfl
set_option maxRecDepth 100000 in
theorem t_67 : (x_mt : List xM)[67]? = some M_cX6_there := rfl
set_option maxRecDepth 100000 in
theorem t_68 : (x_mt : List xM)[68]? = some M_cX6_reachFrom := rfl
set_option maxRecDepth 100000 in
theorem t_70 : (x_mt : List xM)[70]? = some M_cX7_readAll := rfl
set_option maxRecDepth 100000 in
theorem t_71 : (x_mt : List xM)[71]? = some M_cX7_shapeOf := rfl
set_option maxRecDepth 100000 in
theorem t_72 : (x_mt : List xM)[72]? = some M_cX7_readLine := rfl
set_option maxRecDepth 100000 in
theorem t_73 : (x_mt : List xM)[73]? = some M_cX7_blame := rfl
set_option maxRecDepth 100000 in
theorem t_74 : (x_mt : List xM)[74]? = some M_cX7_behindBlank := rfl
set_option maxRecDepth 100000 in
theorem t_75 : (x_mt : List xM)[75]? = some M_cX7_kindOfLine := rfl
set_option maxRecDepth 100000 in
theorem t_76 : (x_mt : List xM)[76]? = some M_cX7_standsAt := rfl
set_option maxRecDepth 100000 in
theorem t_77 : (x_mt : List xM)[77]? = some M_cX7_isSpelled := rfl
set_option maxRecDepth 100000 in
theorem t_78 : (x_mt : List xM)[78]? = some M_cX7_isFull := rfl
set_option maxRecDepth 100000 in
theorem t_79 : (x_mt : List xM)[79]? = some M_cX7_judge := rfl
set_option maxRecDepth 100000 in
theorem t_80 : (x_mt : List xM)[80]? = some M_cX7_within := rfl
set_option maxRecDepth 100000 in
theorem t_81 : (x_mt : List xM)[81]? = some M_cX7_fitsBoard := rfl
set_option maxRecDepth 100000 in
theorem t_82 : (x_mt : List xM)[82]? = some M_cX7_judgeFrom := rfl
set_option maxRecDepth 100000 in
theorem t_83 : (x_mt : List xM)[83]? = some M_cX7_isOpen := rfl
set_option maxRecDepth 100000 in
theorem t_84 : (x_mt : List xM)[84]? = some M_cX7_apply := rfl
set_option maxRecDepth 100000 in
theorem t_85 : (x_mt : List xM)[85]? = some M_cX7_addPlayer := rfl
set_option maxRecDepth 100000 in
theorem t_86 : (x_mt : List xM)[86]? = some M_cX7_step := rfl
set_option maxRecDepth 100000 in
theorem t_87 : (x_mt : List xM)[87]? = some M_cX7_isBlank := rfl
set_option maxRecDepth 100000 in
theorem t_88 : (x_mt : List xM)[88]? = some M_cX7_isLetter := rfl
set_option maxRecDepth 100000 in
theorem t_89 : (x_mt : List xM)[89]? = some M_cX7_isDigit := rfl
set_option maxRecDepth 100000 in
theorem t_91 : (x_mt : List xM)[91]? = some M_cX8_isMade := rfl
set_option maxRecDepth 100000 in
theorem t_92 : (x_mt : List xM)[92]? = some M_cX8_make := rfl
set_option maxRecDepth 100000 in
theorem t_93 : (x_mt : List xM)[93]? = some M_cX8_put := rfl
set_option maxRecDepth 100000 in
theorem t_94 : (x_mt : List xM)[94]? = some M_cX8_hasPart := rfl
set_option maxRecDepth 100000 in
theorem t_95 : (x_mt : List xM)[95]? = some M_cX8_isBelow := rfl
set_option maxRecDepth 100000 in
theorem t_96 : (x_mt : List xM)[96]? = some M_cX8_isPeriod := rfl
set_option maxRecDepth 100000 in
theorem t_97 : (x_mt : List xM)[97]? = some M_cX8_leastPeriod := rfl
set_option maxRecDepth 100000 in
theorem t_98 : (x_mt : List xM)[98]? = some M_cX8_periodsInAll := rfl
set_option maxRecDepth 100000 in
theorem t_100 : (x_mt : List xM)[100]? = some M_cX9_good := rfl
set_option maxRecDepth 100000 in
theorem t_101 : (x_mt : List xM)[101]? = some M_cX9_rashPoints := rfl
set_option maxRecDepth 100000 in
theorem t_102 : (x_mt : List xM)[102]? = some M_cX9_begin := rfl
set_option maxRecDepth 100000 in
theorem t_103 : (x_mt : List xM)[103]? = some M_cX9_goFor := rfl
set_option maxRecDepth 100000 in
theorem t_104 : (x_mt : List xM)[104]? = some M_cX9_among := rfl
set_option maxRecDepth 100000 in
theorem t_105 : (x_mt : List xM)[105]? = some M_cX9_strike := rfl
set_option maxRecDepth 100000 in
theorem t_106 : (x_mt : List xM)[106]? = some M_cX9_holeBehind := rfl
set_option maxRecDepth 100000 in
theorem t_107 : (x_mt : List xM)[107]? = some M_cX9_firstMissed := rfl
set_option maxRecDepth 100000 in
theorem t_109 : (x_mt : List xM)[109]? = some M_cX10_put := rfl
set_option maxRecDepth 100000 in
theorem t_110 : (x_mt : List xM)[110]? = some M_cX10_at := rfl
set_option maxRecDepth 100000 in
theorem t_112 : (x_mt : List xM)[112]? = some M_cX11_feed := rfl
set_option maxRecDepth 100000 in
theorem t_113 : (x_mt : List xM)[113]? = some M_cX11_end := rfl
set_option maxRecDepth 100000 in
theorem t_114 : (x_mt : List xM)[114]? = some M_cX11_board := rfl
set_option maxRecDepth 100000 in
theorem t_115 : (x_mt : List xM)[115]? = some M_cX11_fault := rfl
set_option maxRecDepth 100000 in
theorem t_116 : (x_mt : List xM)[116]? = some M_cX11_drum := rfl
set_option maxRecDepth 100000 in
theorem t_117 : (x_mt : List xM)[117]? = some M_cX11_player := rfl
set_option maxRecDepth 100000 in
theorem t_118 : (x_mt : List xM)[118]? = some M_cX11_stay := rfl
set_option maxRecDepth 100000 in
theorem t_119 : (x_mt : List xM)[119]? = some M_cX11_count := rfl
set_option maxRecDepth 100000 in
theorem t_120 : (x_mt : List xM)[120]? = some M_cX11_comings := rfl
set_option maxRecDepth 100000 in
theorem t_121 : (x_mt : List xM)[121]? = some M_cX11_comes := rfl
set_option maxRecDepth 100000 in
theorem t_122 : (x_mt : List xM)[122]? = some M_cX11_up := rfl
set_option maxRecDepth 100000 in
theorem t_123 : (x_mt : List xM)[123]? = some M_cX11_calm := rfl
set_option maxRecDepth 100000 in
theorem t_124 : (x_mt : List xM)[124]? = some M_cX11_steps := rfl
set_option maxRecDepth 100000 in
theorem t_125 : (x_mt : List xM)[125]? = some M_cX11_pace := rfl
set_option maxRecDepth 100000 in
theorem t_126 : (x_mt : List xM)[126]? = some M_cX11_aware := rfl
set_option maxRecDepth 100000 in
theorem t_127 : (x_mt : List xM)[127]? = some M_cX11_hits := rfl
set_option maxRecDepth 100000 in
theorem t_128 : (x_mt : List xM)[128]? = some M_cX11_hit := rfl
set_option maxRecDepth 100000 in
theorem t_129 : (x_mt : List xM)[129]? = some M_cX11_twice := rfl
set_option maxRecDepth 100000 in
theorem t_130 : (x_mt : List xM)[130]? = some M_cX11_where := rfl
set_option maxRecDepth 100000 in
theorem t_131 : (x_mt : List xM)[131]? = some M_cX11_missed := rfl
set_option maxRecDepth 100000 in
theorem t_132 : (x_mt : List xM)[132]? = some M_cX11_walked := rfl
set_option maxRecDepth 100000 in
theorem t_133 : (x_mt : List xM)[133]? = some M_cX11_best := rfl
set_option maxRecDepth 100000 in
theorem t_134 : (x_mt : List xM)[134]? = some M_cX11_ahead := rfl
set_option maxRecDepth 100000 in
theorem t_135 : (x_mt : List xM)[135]? = some M_cX11_learns := rfl
set_option maxRecDepth 100000 in
theorem t_136 : (x_mt : List xM)[136]? = some M_cX11_enough := rfl
set_option maxRecDepth 100000 in
theorem t_137 : (x_mt : List xM)[137]? = some M_cX11_waits := rfl
set_option maxRecDepth 100000 in
theorem t_138 : (x_mt : List xM)[138]? = some M_cX11_slack := rfl
set_option maxRecDepth 100000 in
theorem t_139 : (x_mt : List xM)[139]? = some M_cX11_lucky := rfl
set_option maxRecDepth 100000 in
theorem t_140 : (x_mt : List xM)[140]? = some M_cX11_mean := rfl
set_option maxRecDepth 100000 in
theorem t_141 : (x_mt : List xM)[141]? = some M_cX11_middle := rfl
set_option maxRecDepth 100000 in
theorem t_142 : (x_mt : List xM)[142]? = some M_cX11_reach := rfl
set_option maxRecDepth 100000 in
theorem t_143 : (x_mt : List xM)[143]? = some M_cX11_post := rfl
set_option maxRecDepth 100000 in
theorem t_144 : (x_mt : List xM)[144]? = some M_cX11_rows := rfl
set_option maxRecDepth 100000 in
theorem t_145 : (x_mt : List xM)[145]? = some M_cX11_ends := rfl
set_option maxRecDepth 100000 in
theorem t_146 : (x_mt : List xM)[146]? = some M_cX11_fair := rfl
set_option maxRecDepth 100000 in
theorem t_147 : (x_mt : List xM)[147]? = some M_cX11_breaks := rfl
set_option maxRecDepth 100000 in
theorem t_148 : (x_mt : List xM)[148]? = some M_cX11_period := rfl
set_option maxRecDepth 100000 in
theorem t_149 : (x_mt : List xM)[149]? = some M_cX11_periods := rfl
set_option maxRecDepth 100000 in
theorem t_150 : (x_mt : List xM)[150]? = some M_cX11_luck := rfl
set_option maxRecDepth 100000 in
theorem t_151 : (x_mt : List xM)[151]? = some M_cX11_fits := rfl
set_option maxRecDepth 100000 in
theorem t_152 : (x_mt : List xM)[152]? = some M_cX11_place := rfl
set_option maxRecDepth 100000 in
theorem t_153 : (x_mt : List xM)[153]? = some M_cX11_next := rfl
set_option maxRecDepth 100000 in
theorem t_154 : (x_mt : List xM)[154]? = some M_cX11_needed := rfl
set_option maxRecDepth 100000 in
theorem t_155 : (x_mt : List xM)[155]? = some M_cX11_known := rfl
set_option maxRecDepth 100000 in
theorem t_156 : (x_mt : List xM)[156]? = some M_cX11_rash := rfl
set_option maxRecDepth 100000 in
theorem t_157 : (x_mt : List xM)[157]? = some M_cX11_look := rfl
set_option maxRecDepth 100000 in
theorem t_158 : (x_mt : List xM)[158]? = some M_cX11_line := rfl
set_option maxRecDepth 100000 in
theorem t_159 : (x_mt : List xM)[159]? = some M_cX11_two := rfl
set_option maxRecDepth 100000 in
theorem t_160 : (x_mt : List xM)[160]? = some M_cX11_tickets := rfl
set_option maxRecDepth 100000 in
theorem t_161 : (x_mt : List xM)[161]? = some M_cX11_prize := rfl
set_option maxRecDepth 100000 in
theorem t_162 : (x_mt : List xM)[162]? = some M_cX11_counted := rfl
set_option maxRecDepth 100000 in
theorem t_163 : (x_mt : List xM)[163]? = some M_cX11_scored := rfl
set_option maxRecDepth 100000 in
theorem t_164 : (x_mt : List xM)[164]? = some M_cX11_early := rfl
set_option maxRecDepth 100000 in
theorem t_165 : (x_mt : List xM)[165]? = some M_cX11_often := rfl
set_option maxRecDepth 100000 in
theorem t_166 : (x_mt : List xM)[166]? = some M_cX11_balance := rfl
set_option maxRecDepth 100000 in
theorem t_167 : (x_mt : List xM)[167]? = some M_cX11_path := rfl
set_option maxRecDepth 100000 in
theorem t_168 : (x_mt : List xM)[168]? = some M_cX11_better := rfl
set_option maxRecDepth 100000 in
theorem t_169 : (x_mt : List xM)[169]? = some M_cX11_swap := rfl
set_option maxRecDepth 100000 in
theorem t_170 : (x_mt : List xM)[170]? = some M_cX11_paint := rfl
set_option maxRecDepth 100000 in
theorem t_171 : (x_mt : List xM)[171]? = some M_cX11_turn := rfl
set_option maxRecDepth 100000 in
theorem t_172 : (x_mt : List xM)[172]? = some M_cX11_shut := rfl
set_option maxRecDepth 100000 in
theorem t_173 : (x_mt : List xM)[173]? = some M_cX11_train := rfl
set_option maxRecDepth 100000 in
theorem t_174 : (x_mt : List xM)[174]? = some M_cX11_drawn := rfl
set_option maxRecDepth 100000 in
theorem t_175 : (x_mt : List xM)[175]? = some M_cX11_night := rfl
set_option maxRecDepth 100000 in
theorem t_176 : (x_mt : List xM)[176]? = some M_cX11_years := rfl
set_option maxRecDepth 100000 in
theorem t_177 : (x_mt : List xM)[177]? = some M_cX11_image := rfl
set_option maxRecDepth 100000 in
theorem t_178 : (x_mt : List xM)[178]? = some M_cX11_back := rfl
set_option maxRecDepth 100000 in
theorem t_179 : (x_mt : List xM)[179]? = some M_cX11_row := rfl
set_option maxRecDepth 100000 in
theorem t_180 : (x_mt : List xM)[180]? = some M_cX11_write := rfl
set_option maxRecDepth 100000 in
theorem t_181 : (x_mt : List xM)[181]? = some M_cX11_paste := rfl
set_option maxRecDepth 100000 in
theorem t_182 : (x_mt : List xM)[182]? = some M_cX11_isSlot := rfl
set_option maxRecDepth 100000 in
theorem t_183 : (x_mt : List xM)[183]? = some M_cX11_isLaw := rfl
set_option maxRecDepth 100000 in
theorem t_184 : (x_mt : List xM)[184]? = some M_cX11_isSeed := rfl
set_option maxRecDepth 100000 in
theorem t_185 : (x_mt : List xM)[185]? = some M_cX11_rowsKept := rfl
set_option maxRecDepth 100000 in
theorem t_186 : (x_mt : List xM)[186]? = some M_cX11_makeReady := rfl
set_option maxRecDepth 100000 in
theorem t_187 : (x_mt : List xM)[187]? = some M_cX11_runOf := rfl
set_option maxRecDepth 100000 in
theorem t_188 : (x_mt : List xM)[188]? = some M_cX11_hitsKnowing := rfl
set_option maxRecDepth 100000 in
theorem t_189 : (x_mt : List xM)[189]? = some M_cX11_hitsLagging := rfl
set_option maxRecDepth 100000 in
theorem t_190 : (x_mt : List xM)[190]? = some M_cX11_lookPoints := rfl
set_option maxRecDepth 100000 in
theorem t_191 : (x_mt : List xM)[191]? = some M_cX11_ticketsOfRun := rfl
set_option maxRecDepth 100000 in
theorem t_192 : (x_mt : List xM)[192]? = some M_cX11_countLots := rfl
set_option maxRecDepth 100000 in
theorem t_193 : (x_mt : List xM)[193]? = some M_cX11_whyUnheard := rfl
set_option maxRecDepth 100000 in
theorem t_194 : (x_mt : List xM)[194]? = some M_cX11_whyNoBlows := rfl
set_option maxRecDepth 100000 in
theorem t_196 : (x_mt : List xM)[196]? = some M_cX12_in := rfl
set_option maxRecDepth 100000 in
theorem t_197 : (x_mt : List xM)[197]? = some M_cX12_image := rfl
set_option maxRecDepth 100000 in
theorem t_198 : (x_mt : List xM)[198]? = some M_cX12_back := rfl
set_option maxRecDepth 100000 in
theorem t_199 : (x_mt : List xM)[199]? = some M_cX12_isBoard := rfl
set_option maxRecDepth 100000 in
theorem t_200 : (x_mt : List xM)[200]? = some M_cX12_holes := rfl
set_option maxRecDepth 100000 in
theorem t_201 : (x_mt : List xM)[201]? = some M_cX12_isHole := rfl
set_option maxRecDepth 100000 in
theorem t_202 : (x_mt : List xM)[202]? = some M_cX12_isShut := rfl
set_option maxRecDepth 100000 in
theorem t_203 : (x_mt : List xM)[203]? = some M_cX12_isTick := rfl
set_option maxRecDepth 100000 in
theorem t_204 : (x_mt : List xM)[204]? = some M_cX12_isComing := rfl
set_option maxRecDepth 100000 in
theorem t_205 : (x_mt : List xM)[205]? = some M_cX12_isPlayer := rfl
set_option maxRecDepth 100000 in
theorem t_206 : (x_mt : List xM)[206]? = some M_cX12_ofComing := rfl
set_option maxRecDepth 100000 in
theorem t_207 : (x_mt : List xM)[207]? = some M_cX12_of := rfl
set_option maxRecDepth 100000 in
theorem t_208 : (x_mt : List xM)[208]? = some M_cX12_feed := rfl
set_option maxRecDepth 100000 in
theorem t_209 : (x_mt : List xM)[209]? = some M_cX12_end := rfl
set_option maxRecDepth 100000 in
theorem t_210 : (x_mt : List xM)[210]? = some M_cX12_see := rfl
set_option maxRecDepth 100000 in
theorem t_211 : (x_mt : List xM)[211]? = some M_cX12_advance := rfl
set_option maxRecDepth 100000 in
theorem t_212 : (x_mt : List xM)[212]? = some M_cX12_good := rfl
set_option maxRecDepth 100000 in
theorem t_213 : (x_mt : List xM)[213]? = some M_cX12_errs := rfl
set_option maxRecDepth 100000 in
theorem t_214 : (x_mt : List xM)[214]? = some M_cX12_is := rfl
set_option maxRecDepth 100000 in
theorem t_215 : (x_mt : List xM)[215]? = some M_cX12_takes := rfl
set_option maxRecDepth 100000 in
theorem t_216 : (x_mt : List xM)[216]? = some M_cX12_needs := rfl
set_option maxRecDepth 100000 in
theorem t_217 : (x_mt : List xM)[217]? = some M_cX12_number := rfl
set_option maxRecDepth 100000 in
theorem t_218 : (x_mt : List xM)[218]? = some M_cX12_told := rfl
set_option maxRecDepth 100000 in
theorem t_219 : (x_mt : List xM)[219]? = some M_cX12_fault := rfl
set_option maxRecDepth 100000 in
theorem t_220 : (x_mt : List xM)[220]? = some M_cX12_freshHoles := rfl
set_option maxRecDepth 100000 in
theorem t_221 : (x_mt : List xM)[221]? = some M_cX12_readFirst := rfl
set_option maxRecDepth 100000 in
theorem t_222 : (x_mt : List xM)[222]? = some M_cX12_freshStay := rfl
set_option maxRecDepth 100000 in
theorem t_223 : (x_mt : List xM)[223]? = some M_cX12_readStay := rfl
set_option maxRecDepth 100000 in
theorem t_224 : (x_mt : List xM)[224]? = some M_cX12_isNextHole := rfl
set_option maxRecDepth 100000 in
theorem t_225 : (x_mt : List xM)[225]? = some M_cX12_isFreshComing := rfl
set_option maxRecDepth 100000 in
theorem t_226 : (x_mt : List xM)[226]? = some M_cX12_readShut := rfl
set_option maxRecDepth 100000 in
theorem t_227 : (x_mt : List xM)[227]? = some M_cX12_readHole := rfl
set_option maxRecDepth 100000 in
theorem t_228 : (x_mt : List xM)[228]? = some M_cX12_readComing := rfl
set_option maxRecDepth 100000 in
theorem t_229 : (x_mt : List xM)[229]? = some M_cX12_readPlayer := rfl
set_option maxRecDepth 100000 in
theorem t_230 : (x_mt : List xM)[230]? = some M_cX12_readNext := rfl
set_option maxRecDepth 100000 in
theorem t_231 : (x_mt : List xM)[231]? = some M_cX12_readLine := rfl
set_option maxRecDepth 100000 in
theorem t_232 : (x_mt : List xM)[232]? = some M_cX12_board := rfl
set_option maxRecDepth 100000 in
theorem t_233 : (x_mt : List xM)[233]? = some M_cX12_stayIn := rfl
set_option maxRecDepth 100000 in
theorem t_234 : (x_mt : List xM)[234]? = some M_cX12_nextTick := rfl
set_option maxRecDepth 100000 in
theorem t_235 : (x_mt : List xM)[235]? = some M_cX12_mayCome := rfl
set_option maxRecDepth 100000 in
theorem t_236 : (x_mt : List xM)[236]? = some M_cX12_come := rfl
set_option maxRecDepth 100000 in
theorem t_237 : (x_mt : List xM)[237]? = some M_cX12_lay := rfl
set_option maxRecDepth 100000 in
theorem t_238 : (x_mt : List xM)[238]? = some M_cX12_inGame := rfl
set_option maxRecDepth 100000 in
theorem t_239 : (x_mt : List xM)[239]? = some M_cX12_drum := rfl
set_option maxRecDepth 100000 in
theorem t_240 : (x_mt : List xM)[240]? = some M_cX12_player := rfl
set_option maxRecDepth 100000 in
theorem t_241 : (x_mt : List xM)[241]? = some M_cX12_stay := rfl
set_option maxRecDepth 100000 in
theorem t_242 : (x_mt : List xM)[242]? = some M_cX12_comings := rfl
set_option maxRecDepth 100000 in
theorem t_243 : (x_mt : List xM)[243]? = some M_cX12_isInGame := rfl
set_option maxRecDepth 100000 in
theorem t_244 : (x_mt : List xM)[244]? = some M_cX12_comes := rfl
set_option maxRecDepth 100000 in
theorem t_245 : (x_mt : List xM)[245]? = some M_cX12_upIn := rfl
set_option maxRecDepth 100000 in
theorem t_246 : (x_mt : List xM)[246]? = some M_cX12_up := rfl
set_option maxRecDepth 100000 in
theorem t_247 : (x_mt : List xM)[247]? = some M_cX12_calm := rfl
set_option maxRecDepth 100000 in
theorem t_248 : (x_mt : List xM)[248]? = some M_cX12_stepsOf := rfl
set_option maxRecDepth 100000 in
theorem t_249 : (x_mt : List xM)[249]? = some M_cX12_steps := rfl
set_option maxRecDepth 100000 in
theorem t_250 : (x_mt : List xM)[250]? = some M_cX12_paceIn := rfl
set_option maxRecDepth 100000 in
theorem t_251 : (x_mt : List xM)[251]? = some M_cX12_pace := rfl
set_option maxRecDepth 100000 in
theorem t_252 : (x_mt : List xM)[252]? = some M_cX12_asTold := rfl
set_option maxRecDepth 100000 in
theorem t_253 : (x_mt : List xM)[253]? = some M_cX12_awareOf := rfl
set_option maxRecDepth 100000 in
theorem t_254 : (x_mt : List xM)[254]? = some M_cX12_aware := rfl
set_option maxRecDepth 100000 in
theorem t_255 : (x_mt : List xM)[255]? = some M_cX12_goes := rfl
set_option maxRecDepth 100000 in
theorem t_256 : (x_mt : List xM)[256]? = some M_cX12_isHis := rfl
set_option maxRecDepth 100000 in
theorem t_257 : (x_mt : List xM)[257]? = some M_cX12_goesFor := rfl
set_option maxRecDepth 100000 in
theorem t_258 : (x_mt : List xM)[258]? = some M_cX12_run := rfl
set_option maxRecDepth 100000 in
theorem t_259 : (x_mt : List xM)[259]? = some M_cX12_runAsTold := rfl
set_option maxRecDepth 100000 in
theorem t_260 : (x_mt : List xM)[260]? = some M_cX12_hits := rfl
set_option maxRecDepth 100000 in
theorem t_261 : (x_mt : List xM)[261]? = some M_cX12_hit := rfl
set_option maxRecDepth 100000 in
theorem t_262 : (x_mt : List xM)[262]? = some M_cX12_twice := rfl
set_option maxRecDepth 100000 in
theorem t_263 : (x_mt : List xM)[263]? = some M_cX12_where := rfl
set_option maxRecDepth 100000 in
theorem t_264 : (x_mt : List xM)[264]? = some M_cX12_missed := rfl
set_option maxRecDepth 100000 in
theorem t_265 : (x_mt : List xM)[265]? = some M_cX12_walked := rfl
set_option maxRecDepth 100000 in
theorem t_266 : (x_mt : List xM)[266]? = some M_cX12_cell := rfl
set_option maxRecDepth 100000 in
theorem t_267 : (x_mt : List xM)[267]? = some M_cX12_sooner := rfl
set_option maxRecDepth 100000 in
theorem t_268 : (x_mt : List xM)[268]? = some M_cX12_behind := rfl
set_option maxRecDepth 100000 in
theorem t_269 : (x_mt : List xM)[269]? = some M_cX12_mayHit := rfl
set_option maxRecDepth 100000 in
theorem t_270 : (x_mt : List xM)[270]? = some M_cX12_bestOf := rfl
set_option maxRecDepth 100000 in
theorem t_271 : (x_mt : List xM)[271]? = some M_cX12_best := rfl
set_option maxRecDepth 100000 in
theorem t_272 : (x_mt : List xM)[272]? = some M_cX12_ahead := rfl
set_option maxRecDepth 100000 in
theorem t_273 : (x_mt : List xM)[273]? = some M_cX12_learnsBy := rfl
set_option maxRecDepth 100000 in
theorem t_274 : (x_mt : List xM)[274]? = some M_cX12_learns := rfl
set_option maxRecDepth 100000 in
theorem t_275 : (x_mt : List xM)[275]? = some M_cX12_enough := rfl
set_option maxRecDepth 100000 in
theorem t_276 : (x_mt : List xM)[276]? = some M_cX12_waitingAt := rfl
set_option maxRecDepth 100000 in
theorem t_277 : (x_mt : List xM)[277]? = some M_cX12_waits := rfl
set_option maxRecDepth 100000 in
theorem t_278 : (x_mt : List xM)[278]? = some M_cX12_openHoles := rfl
set_option maxRecDepth 100000 in
theorem t_279 : (x_mt : List xM)[279]? = some M_cX12_stepsToAll := rfl
set_option maxRecDepth 100000 in
theorem t_280 : (x_mt : List xM)[280]? = some M_cX12_divisor := rfl
set_option maxRecDepth 100000 in
theorem t_281 : (x_mt : List xM)[281]? = some M_cX12_mean := rfl
set_option maxRecDepth 100000 in
theorem t_282 : (x_mt : List xM)[282]? = some M_cX12_middle := rfl
set_option maxRecDepth 100000 in
theorem t_283 : (x_mt : List xM)[283]? = some M_cX12_reachOf := rfl
set_option maxRecDepth 100000 in
theorem t_284 : (x_mt : List xM)[284]? = some M_cX12_reach := rfl
set_option maxRecDepth 100000 in
theorem t_285 : (x_mt : List xM)[285]? = some M_cX12_bits := rfl
set_option maxRecDepth 100000 in
theorem t_286 : (x_mt : List xM)[286]? = some M_cX12_post := rfl
set_option maxRecDepth 100000 in
theorem t_287 : (x_mt : List xM)[287]? = some M_cX12_lagging := rfl
set_option maxRecDepth 100000 in
theorem t_288 : (x_mt : List xM)[288]? = some M_cX12_slack := rfl
set_option maxRecDepth 100000 in
theorem t_289 : (x_mt : List xM)[289]? = some M_cX12_isLaw := rfl
set_option maxRecDepth 100000 in
theorem t_290 : (x_mt : List xM)[290]? = some M_cX12_lets := rfl
set_option maxRecDepth 100000 in
theorem t_291 : (x_mt : List xM)[291]? = some M_cX12_fillRows := rfl
set_option maxRecDepth 100000 in
theorem t_292 : (x_mt : List xM)[292]? = some M_cX12_endingIn := rfl
set_option maxRecDepth 100000 in
theorem t_293 : (x_mt : List xM)[293]? = some M_cX12_rows := rfl
set_option maxRecDepth 100000 in
theorem t_294 : (x_mt : List xM)[294]? = some M_cX12_ends := rfl
set_option maxRecDepth 100000 in
theorem t_295 : (x_mt : List xM)[295]? = some M_cX12_fair := rfl
set_option maxRecDepth 100000 in
theorem t_296 : (x_mt : List xM)[296]? = some M_cX12_holeAt := rfl
set_option maxRecDepth 100000 in
theorem t_297 : (x_mt : List xM)[297]? = some M_cX12_breaks := rfl
set_option maxRecDepth 100000 in
theorem t_298 : (x_mt : List xM)[298]? = some M_cX12_numberAt := rfl
set_option maxRecDepth 100000 in
theorem t_299 : (x_mt : List xM)[299]? = some M_cX12_asksHeard := rfl
set_option maxRecDepth 100000 in
theorem t_300 : (x_mt : List xM)[300]? = some M_cX12_isPeriod := rfl
set_option maxRecDepth 100000 in
theorem t_301 : (x_mt : List xM)[301]? = some M_cX12_leastPeriod := rfl
set_option maxRecDepth 100000 in
theorem t_302 : (x_mt : List xM)[302]? = some M_cX12_period := rfl
set_option maxRecDepth 100000 in
theorem t_303 : (x_mt : List xM)[303]? = some M_cX12_periods := rfl
set_option maxRecDepth 100000 in
theorem t_304 : (x_mt : List xM)[304]? = some M_cX12_luck := rfl
set_option maxRecDepth 100000 in
theorem t_305 : (x_mt : List xM)[305]? = some M_cX12_fitsFrom := rfl
set_option maxRecDepth 100000 in
theorem t_306 : (x_mt : List xM)[306]? = some M_cX12_fits := rfl
set_option maxRecDepth 100000 in
theorem t_307 : (x_mt : List xM)[307]? = some M_cX12_place := rfl
set_option maxRecDepth 100000 in
theorem t_308 : (x_mt : List xM)[308]? = some M_cX12_next := rfl
set_option maxRecDepth 100000 in
theorem t_309 : (x_mt : List xM)[309]? = some M_cX12_goesAlike := rfl
set_option maxRecDepth 100000 in
theorem t_310 : (x_mt : List xM)[310]? = some M_cX12_neededFrom := rfl
set_option maxRecDepth 100000 in
theorem t_311 : (x_mt : List xM)[311]? = some M_cX12_needed := rfl
set_option maxRecDepth 100000 in
theorem t_312 : (x_mt : List xM)[312]? = some M_cX12_known := rfl
set_option maxRecDepth 100000 in
theorem t_313 : (x_mt : List xM)[313]? = some M_cX12_rashOf := rfl
set_option maxRecDepth 100000 in
theorem t_314 : (x_mt : List xM)[314]? = some M_cX12_rash := rfl
set_option maxRecDepth 100000 in
theorem t_315 : (x_mt : List xM)[315]? = some M_cX12_lookOf := rfl
set_option maxRecDepth 100000 in
theorem t_316 : (x_mt : List xM)[316]? = some M_cX12_look := rfl
set_option maxRecDepth 100000 in
theorem t_317 : (x_mt : List xM)[317]? = some M_cX12_line := rfl
set_option maxRecDepth 100000 in
theorem t_318 : (x_mt : List xM)[318]? = some M_cX12_hitsOn := rfl
set_option maxRecDepth 100000 in
theorem t_319 : (x_mt : List xM)[319]? = some M_cX12_two := rfl
set_option maxRecDepth 100000 in
theorem t_320 : (x_mt : List xM)[320]? = some M_cX12_ticketsOf := rfl
set_option maxRecDepth 100000 in
theorem t_321 : (x_mt : List xM)[321]? = some M_cX12_tickets := rfl
set_option maxRecDepth 100000 in
theorem t_322 : (x_mt : List xM)[322]? = some M_cX12_prize := rfl
set_option maxRecDepth 100000 in
theorem t_323 : (x_mt : List xM)[323]? = some M_cX12_asksBlows := rfl
set_option maxRecDepth 100000 in
theorem t_324 : (x_mt : List xM)[324]? = some M_cX12_strike := rfl
set_option maxRecDepth 100000 in
theorem t_325 : (x_mt : List xM)[325]? = some M_cX12_layBlows := rfl
set_option maxRecDepth 100000 in
theorem t_326 : (x_mt : List xM)[326]? = some M_cX12_counted := rfl
set_option maxRecDepth 100000 in
theorem t_327 : (x_mt : List xM)[327]? = some M_cX12_scored := rfl
set_option maxRecDepth 100000 in
theorem t_328 : (x_mt : List xM)[328]? = some M_cX12_early := rfl
set_option maxRecDepth 100000 in
theorem t_329 : (x_mt : List xM)[329]? = some M_cX12_oftenOf := rfl
set_option maxRecDepth 100000 in
theorem t_330 : (x_mt : List xM)[330]? = some M_cX12_often := rfl
set_option maxRecDepth 100000 in
theorem t_331 : (x_mt : List xM)[331]? = some M_cX12_balance := rfl
set_option maxRecDepth 100000 in
theorem t_332 : (x_mt : List xM)[332]? = some M_cX12_pathOf := rfl
set_option maxRecDepth 100000 in
theorem t_333 : (x_mt : List xM)[333]? = some M_cX12_path := rfl
set_option maxRecDepth 100000 in
theorem t_334 : (x_mt : List xM)[334]? = some M_cX12_trade := rfl
set_option maxRecDepth 100000 in
theorem t_335 : (x_mt : List xM)[335]? = some M_cX12_better := rfl
set_option maxRecDepth 100000 in
theorem t_336 : (x_mt : List xM)[336]? = some M_cX12_swap := rfl
set_option maxRecDepth 100000 in
theorem t_337 : (x_mt : List xM)[337]? = some M_cX12_paint := rfl
set_option maxRecDepth 100000 in
theorem t_338 : (x_mt : List xM)[338]? = some M_cX12_turn := rfl
set_option maxRecDepth 100000 in
theorem t_339 : (x_mt : List xM)[339]? = some M_cX12_lucky := rfl
set_option maxRecDepth 100000 in
theorem t_340 : (x_mt : List xM)[340]? = some M_cX12_shut := rfl
set_option maxRecDepth 100000 in
theorem t_341 : (x_mt : List xM)[341]? = some M_cX12_train := rfl
set_option maxRecDepth 100000 in
theorem t_342 : (x_mt : List xM)[342]? = some M_cX12_draw := rfl
set_option maxRecDepth 100000 in
theorem t_343 : (x_mt : List xM)[343]? = some M_cX12_holeByLot := rfl
set_option maxRecDepth 100000 in
theorem t_344 : (x_mt : List xM)[344]? = some M_cX12_layNight := rfl
set_option maxRecDepth 100000 in
theorem t_345 : (x_mt : List xM)[345]? = some M_cX12_isSeed := rfl
set_option maxRecDepth 100000 in
theorem t_346 : (x_mt : List xM)[346]? = some M_cX12_drawn := rfl
set_option maxRecDepth 100000 in
theorem t_347 : (x_mt : List xM)[347]? = some M_cX12_nightOf := rfl
set_option maxRecDepth 100000 in
theorem t_348 : (x_mt : List xM)[348]? = some M_cX12_night := rfl
set_option maxRecDepth 100000 in
theorem t_349 : (x_mt : List xM)[349]? = some M_cX12_years := rfl
set_option maxRecDepth 100000 in
theorem t_350 : (x_mt : List xM)[350]? = some M_cX12_count := rfl
set_option maxRecDepth 100000 in
theorem t_351 : (x_mt : List xM)[351]? = some M_cX12_isSlot := rfl
set_option maxRecDepth 100000 in
theorem t_352 : (x_mt : List xM)[352]? = some M_cX12_cut := rfl
set_option maxRecDepth 100000 in
theorem t_353 : (x_mt : List xM)[353]? = some M_cX12_row := rfl
set_option maxRecDepth 100000 in
theorem t_354 : (x_mt : List xM)[354]? = some M_cX12_write := rfl
set_option maxRecDepth 100000 in
theorem t_355 : (x_mt : List xM)[355]? = some M_cX12_paste := rfl
set_option maxRecDepth 100000 in
theorem t_356 : (x_mt : List xM)[356]? = some M_cJ6_bitCount_0f7a4 := rfl
set_option maxRecDepth 100000 in
theorem t_357 : (x_mt : List xM)[357]? = some M_cJ9_floorMod_7cf53 := rfl
