theorem t_1 : (x_mt : List xM)[1]? = some M_cX0_most := (x_g1 x_g0)
theorem t_2 : (x_mt : List xM)[2]? = some M_cX0_goOn := (x_g1 (x_g1 x_g0))
theorem t_3 : (x_mt : List xM)[3]? = some M_cX0_freeAt := (x_g1 (x_g1 (x_g1 x_g0)))
theorem t_4 : (x_mt : List xM)[4]? = some M_cX0_keep := (x_g4 x_g0)
theorem t_6 : (x_mt : List xM)[6]? = some M_cX1_judge := (x_g4 (x_g1 (x_g1 x_g0)))
theorem t_7 : (x_mt : List xM)[7]? = some M_cX1_judgeOne := (x_g4 (x_g1 (x_g1 (x_g1 x_g0))))
theorem t_9 : (x_mt : List xM)[9]? = some M_cX2_empty := (x_g4 (x_g4 (x_g1 x_g0)))
theorem t_10 : (x_mt : List xM)[10]? = some M_cX2_copy := (x_g4 (x_g4 (x_g1 (x_g1 x_g0))))
theorem t_11 : (x_mt : List xM)[11]? = some M_cX2_isTold := (x_g4 (x_g4 (x_g1 (x_g1 (x_g1 x_g0)))))
theorem t_12 : (x_mt : List xM)[12]? = some M_cX2_holes := (x_g4 (x_g4 (x_g4 x_g0)))
theorem t_13 : (x_mt : List xM)[13]? = some M_cX2_isHole := (x_g4 (x_g4 (x_g4 (x_g1 x_g0))))
theorem t_14 : (x_mt : List xM)[14]? = some M_cX2_isTick := (x_g4 (x_g4 (x_g4 (x_g1 (x_g1 x_g0)))))
theorem t_15 : (x_mt : List xM)[15]? = some M_cX2_isPlayer := (x_g4 (x_g4 (x_g4 (x_g1 (x_g1 (x_g1 x_g0))))))
theorem t_16 : (x_mt : List xM)[16]? = some M_cX2_isShut := (x_g16 x_g0)
theorem t_17 : (x_mt : List xM)[17]? = some M_cX2_openHoles := (x_g16 (x_g1 x_g0))
theorem t_18 : (x_mt : List xM)[18]? = some M_cX2_apart := (x_g16 (x_g1 (x_g1 x_g0)))
theorem t_19 : (x_mt : List xM)[19]? = some M_cX2_stepsToAll := (x_g16 (x_g1 (x_g1 (x_g1 x_g0))))
theorem t_20 : (x_mt : List xM)[20]? = some M_cX2_pathRound := (x_g16 (x_g4 x_g0))
theorem t_21 : (x_mt : List xM)[21]? = some M_cX2_stayIn := (x_g16 (x_g4 (x_g1 x_g0)))
theorem t_22 : (x_mt : List xM)[22]? = some M_cX2_hasStayFrom := (x_g16 (x_g4 (x_g1 (x_g1 x_g0))))
theorem t_23 : (x_mt : List xM)[23]? = some M_cX2_setStay := (x_g16 (x_g4 (x_g1 (x_g1 (x_g1 x_g0)))))
theorem t_24 : (x_mt : List xM)[24]? = some M_cX2_trait := (x_g16 (x_g4 (x_g4 x_g0)))
theorem t_25 : (x_mt : List xM)[25]? = some M_cX2_setTrait := (x_g16 (x_g4 (x_g4 (x_g1 x_g0))))
theorem t_26 : (x_mt : List xM)[26]? = some M_cX2_isTrait := (x_g16 (x_g4 (x_g4 (x_g1 (x_g1 x_g0)))))
theorem t_27 : (x_mt : List xM)[27]? = some M_cX2_lets := (x_g16 (x_g4 (x_g4 (x_g1 (x_g1 (x_g1 x_g0))))))
theorem t_29 : (x_mt : List xM)[29]? = some M_cX3_empty := (x_g16 (x_g4 (x_g4 (x_g4 (x_g1 x_g0)))))
theorem t_30 : (x_mt : List xM)[30]? = some M_cX3_copy := (x_g16 (x_g4 (x_g4 (x_g4 (x_g1 (x_g1 x_g0))))))
theorem t_31 : (x_mt : List xM)[31]? = some M_cX3_has := (x_g16 (x_g4 (x_g4 (x_g4 (x_g1 (x_g1 (x_g1 x_g0)))))))
theorem t_32 : (x_mt : List xM)[32]? = some M_cX3_add := (x_g16 (x_g16 x_g0))
theorem t_33 : (x_mt : List xM)[33]? = some M_cX3_exchange := (x_g16 (x_g16 (x_g1 x_g0)))
theorem t_34 : (x_mt : List xM)[34]? = some M_cX3_exchangeIn := (x_g16 (x_g16 (x_g1 (x_g1 x_g0))))
theorem t_35 : (x_mt : List xM)[35]? = some M_cX3_round := (x_g16 (x_g16 (x_g1 (x_g1 (x_g1 x_g0)))))
theorem t_36 : (x_mt : List xM)[36]? = some M_cX3_oftenAt := (x_g16 (x_g16 (x_g4 x_g0)))
theorem t_37 : (x_mt : List xM)[37]? = some M_cX3_goesSo := (x_g16 (x_g16 (x_g4 (x_g1 x_g0))))
theorem t_38 : (x_mt : List xM)[38]? = some M_cX3_neededFrom := (x_g16 (x_g16 (x_g4 (x_g1 (x_g1 x_g0)))))
theorem t_39 : (x_mt : List xM)[39]? = some M_cX3_alike := (x_g16 (x_g16 (x_g4 (x_g1 (x_g1 (x_g1 x_g0))))))
theorem t_41 : (x_mt : List xM)[41]? = some M_cX4_has := (x_g16 (x_g16 (x_g4 (x_g4 (x_g1 x_g0)))))
theorem t_42 : (x_mt : List xM)[42]? = some M_cX4_deal := (x_g16 (x_g16 (x_g4 (x_g4 (x_g1 (x_g1 x_g0))))))
theorem t_43 : (x_mt : List xM)[43]? = some M_cX4_draw := (x_g16 (x_g16 (x_g4 (x_g4 (x_g1 (x_g1 (x_g1 x_g0)))))))
theorem t_44 : (x_mt : List xM)[44]? = some M_cX4_nthLet := (x_g16 (x_g16 (x_g4 (x_g4 (x_g4 x_g0)))))
theorem t_45 : (x_mt : List xM)[45]? = some M_cX4_begin := (x_g16 (x_g16 (x_g4 (x_g4 (x_g4 (x_g1 x_g0))))))
theorem t_46 : (x_mt : List xM)[46]? = some M_cX4_hasRoom := (x_g16 (x_g16 (x_g4 (x_g4 (x_g4 (x_g1 (x_g1 x_g0)))))))
theorem t_47 : (x_mt : List xM)[47]? = some M_cX4_add := (x_g16 (x_g16 (x_g4 (x_g4 (x_g4 (x_g1 (x_g1 (x_g1 x_g0))))))))
theorem t_48 : (x_mt : List xM)[48]? = some M_cX4_upIn := (x_g16 (x_g16 (x_g16 x_g0)))
theorem t_49 : (x_mt : List xM)[49]? = some M_cX4_holesOf := (x_g16 (x_g16 (x_g16 (x_g1 x_g0))))
theorem t_50 : (x_mt : List xM)[50]? = some M_cX4_goodHoles := (x_g16 (x_g16 (x_g16 (x_g1 (x_g1 x_g0)))))
theorem t_51 : (x_mt : List xM)[51]? = some M_cX4_goodIn := (x_g16 (x_g16 (x_g16 (x_g1 (x_g1 (x_g1 x_g0))))))
theorem t_52 : (x_mt : List xM)[52]? = some M_cX4_strike := (x_g16 (x_g16 (x_g16 (x_g4 x_g0))))
theorem t_54 : (x_mt : List xM)[54]? = some M_cX5_begin := (x_g16 (x_g16 (x_g16 (x_g4 (x_g1 (x_g1 x_g0))))))
theorem t_55 : (x_mt : List xM)[55]? = some M_cX5_grow := (x_g16 (x_g16 (x_g16 (x_g4 (x_g1 (x_g1 (x_g1 x_g0)))))))
theorem t_56 : (x_mt : List xM)[56]? = some M_cX5_growFrom := (x_g16 (x_g16 (x_g16 (x_g4 (x_g4 x_g0)))))
theorem t_57 : (x_mt : List xM)[57]? = some M_cX5_at := (x_g16 (x_g16 (x_g16 (x_g4 (x_g4 (x_g1 x_g0))))))
theorem t_58 : (x_mt : List xM)[58]? = some M_cX5_waysTo := (x_g16 (x_g16 (x_g16 (x_g4 (x_g4 (x_g1 (x_g1 x_g0)))))))
theorem t_59 : (x_mt : List xM)[59]? = some M_cX5_add := (x_g16 (x_g16 (x_g16 (x_g4 (x_g4 (x_g1 (x_g1 (x_g1 x_g0))))))))
theorem t_60 : (x_mt : List xM)[60]? = some M_cX5_rowsTo := (x_g16 (x_g16 (x_g16 (x_g4 (x_g4 (x_g4 x_g0))))))
theorem t_61 : (x_mt : List xM)[61]? = some M_cX5_rowsInAll := (x_g16 (x_g16 (x_g16 (x_g4 (x_g4 (x_g4 (x_g1 x_g0)))))))
theorem t_62 : (x_mt : List xM)[62]? = some M_cX5_isEven := (x_g16 (x_g16 (x_g16 (x_g4 (x_g4 (x_g4 (x_g1 (x_g1 x_g0))))))))
theorem t_64 : (x_mt : List xM)[64]? = some M_cX6_take := (x_g16 (x_g16 (x_g16 (x_g16 x_g0))))
theorem t_65 : (x_mt : List xM)[65]? = some M_cX6_paceIn := (x_g16 (x_g16 (x_g16 (x_g16 (x_g1 x_g0)))))
theorem t_66 : (x_mt : List xM)[66]? = some M_cX6_awareOf := (x_g16 (x_g16 (x_g16 (x_g16 (x_g1 (x_g1 x_g0))))))
theorem t_67 : (x_mt : List xM)[67]? = some M_cX6_there := (x_g16 (x_g16 (x_g16 (x_g16 (x_g1 (x_g1 (x_g1 x_g0)))))))
theorem t_68 : (x_mt : List xM)[68]? = some M_cX6_reachFrom := (x_g16 (x_g16 (x_g16 (x_g16 (x_g4 x_g0)))))
theorem t_70 : (x_mt : List xM)[70]? = some M_cX7_readAll := (x_g16 (x_g16 (x_g16 (x_g16 (x_g4 (x_g1 (x_g1 x_g0)))))))
theorem t_71 : (x_mt : List xM)[71]? = some M_cX7_shapeOf := (x_g16 (x_g16 (x_g16 (x_g16 (x_g4 (x_g1 (x_g1 (x_g1 x_g0))))))))
theorem t_72 : (x_mt : List xM)[72]? = some M_cX7_readLine := (x_g16 (x_g16 (x_g16 (x_g16 (x_g4 (x_g4 x_g0))))))
theorem t_73 : (x_mt : List xM)[73]? = some M_cX7_blame := (x_g16 (x_g16 (x_g16 (x_g16 (x_g4 (x_g4 (x_g1 x_g0)))))))
theorem t_74 : (x_mt : List xM)[74]? = some M_cX7_behindBlank := (x_g16 (x_g16 (x_g16 (x_g16 (x_g4 (x_g4 (x_g1 (x_g1 x_g0))))))))
theorem t_75 : (x_mt : List xM)[75]? = some M_cX7_kindOfLine := (x_g16 (x_g16 (x_g16 (x_g16 (x_g4 (x_g4 (x_g1 (x_g1 (x_g1 x_g0)))))))))
theorem t_76 : (x_mt : List xM)[76]? = some M_cX7_standsAt := (x_g16 (x_g16 (x_g16 (x_g16 (x_g4 (x_g4 (x_g4 x_g0)))))))
theorem t_77 : (x_mt : List xM)[77]? = some M_cX7_isSpelled := (x_g16 (x_g16 (x_g16 (x_g16 (x_g4 (x_g4 (x_g4 (x_g1 x_g0))))))))
theorem t_78 : (x_mt : List xM)[78]? = some M_cX7_isFull := (x_g16 (x_g16 (x_g16 (x_g16 (x_g4 (x_g4 (x_g4 (x_g1 (x_g1 x_g0)))))))))
theorem t_79 : (x_mt : List xM)[79]? = some M_cX7_judge := (x_g16 (x_g16 (x_g16 (x_g16 (x_g4 (x_g4 (x_g4 (x_g1 (x_g1 (x_g1 x_g0))))))))))
theorem t_80 : (x_mt : List xM)[80]? = some M_cX7_within := (x_g16 (x_g16 (x_g16 (x_g16 (x_g16 x_g0)))))
theorem t_81 : (x_mt : List xM)[81]? = some M_cX7_fitsBoard := (x_g16 (x_g16 (x_g16 (x_g16 (x_g16 (x_g1 x_g0))))))
theorem t_82 : (x_mt : List xM)[82]? = some M_cX7_judgeFrom := (x_g16 (x_g16 (x_g16 (x_g16 (x_g16 (x_g1 (x_g1 x_g0)))))))
theorem t_83 : (x_mt : List xM)[83]? = some M_cX7_isOpen := (x_g16 (x_g16 (x_g16 (x_g16 (x_g16 (x_g1 (x_g1 (x_g1 x_g0))))))))
theorem t_84 : (x_mt : List xM)[84]? = some M_cX7_apply := (x_g16 (x_g16 (x_g16 (x_g16 (x_g16 (x_g4 x_g0))))))
theorem t_85 : (x_mt : List xM)[85]? = some M_cX7_addPlayer := (x_g16 (x_g16 (x_g16 (x_g16 (x_g16 (x_g4 (x_g1 x_g0)))))))
theorem t_86 : (x_mt : List xM)[86]? = some M_cX7_step := (x_g16 (x_g16 (x_g16 (x_g16 (x_g16 (x_g4 (x_g1 (x_g1 x_g0))))))))
theorem t_87 : (x_mt : List xM)[87]? = some M_cX7_isBlank := (x_g16 (x_g16 (x_g16 (x_g16 (x_g16 (x_g4 (x_g1 (x_g1 (x_g1 x_g0)))))))))
theorem t_88 : (x_mt : List xM)[88]? = some M_cX7_isLetter := (x_g16 (x_g16 (x_g16 (x_g16 (x_g16 (x_g4 (x_g4 x_g0)))))))
theorem t_89 : (x_mt : List xM)[89]? = some M_cX7_isDigit := (x_g16 (x_g16 (x_g16 (x_g16 (x_g16 (x_g4 (x_g4 (x_g1 x_g0))))))))
theorem t_91 : (x_mt : List xM)[91]? = some M_cX8_isMade := (x_g16 (x_g16 (x_g16 (x_g16 (x_g16 (x_g4 (x_g4 (x_g1 (x_g1 (x_g1 x_g0))))))))))
theorem t_92 : (x_mt : List xM)[92]? = some M_cX8_make := (x_g16 (x_g16 (x_g16 (x_g16 (x_g16 (x_g4 (x_g4 (x_g4 x_g0))))))))
theorem t_93 : (x_mt : List xM)[93]? = some M_cX8_put := (x_g16 (x_g16 (x_g16 (x_g16 (x_g16 (x_g4 (x_g4 (x_g4 (x_g1 x_g0)))))))))
theorem t_94 : (x_mt : List xM)[94]? = some M_cX8_hasPart := (x_g16 (x_g16 (x_g16 (x_g16 (x_g16 (x_g4 (x_g4 (x_g4 (x_g1 (x_g1 x_g0))))))))))
theorem t_95 : (x_mt : List xM)[95]? = some M_cX8_isBelow := (x_g16 (x_g16 (x_g16 (x_g16 (x_g16 (x_g4 (x_g4 (x_g4 (x_g1 (x_g1 (x_g1 x_g0)))))))))))
theorem t_96 : (x_mt : List xM)[96]? = some M_cX8_isPeriod := (x_g16 (x_g16 (x_g16 (x_g16 (x_g16 (x_g16 x_g0))))))
theorem t_97 : (x_mt : List xM)[97]? = some M_cX8_leastPeriod := (x_g16 (x_g16 (x_g16 (x_g16 (x_g16 (x_g16 (x_g1 x_g0)))))))
theorem t_98 : (x_mt : List xM)[98]? = some M_cX8_periodsInAll := (x_g16 (x_g16 (x_g16 (x_g16 (x_g16 (x_g16 (x_g1 (x_g1 x_g0))))))))
theorem t_100 : (x_mt : List xM)[100]? = some M_cX9_good := (x_g16 (x_g16 (x_g16 (x_g16 (x_g16 (x_g16 (x_g4 x_g0)))))))
theorem t_101 : (x_mt : List xM)[101]? = some M_cX9_rashPoints := (x_g16 (x_g16 (x_g16 (x_g16 (x_g16 (x_g16 (x_g4 (x_g1 x_g0))))))))
theorem t_102 : (x_mt : List xM)[102]? = some M_cX9_begin := (x_g16 (x_g16 (x_g16 (x_g16 (x_g16 (x_g16 (x_g4 (x_g1 (x_g1 x_g0)))))))))
theorem t_103 : (x_mt : List xM)[103]? = some M_cX9_goFor := (x_g16 (x_g16 (x_g16 (x_g16 (x_g16 (x_g16 (x_g4 (x_g1 (x_g1 (x_g1 x_g0))))))))))
theorem t_104 : (x_mt : List xM)[104]? = some M_cX9_among := (x_g16 (x_g16 (x_g16 (x_g16 (x_g16 (x_g16 (x_g4 (x_g4 x_g0))))))))
theorem t_105 : (x_mt : List xM)[105]? = some M_cX9_strike := (x_g16 (x_g16 (x_g16 (x_g16 (x_g16 (x_g16 (x_g4 (x_g4 (x_g1 x_g0)))))))))
theorem t_106 : (x_mt : List xM)[106]? = some M_cX9_holeBehind := (x_g16 (x_g16 (x_g16 (x_g16 (x_g16 (x_g16 (x_g4 (x_g4 (x_g1 (x_g1 x_g0))))))))))
theorem t_107 : (x_mt : List xM)[107]? = some M_cX9_firstMissed := (x_g16 (x_g16 (x_g16 (x_g16 (x_g16 (x_g16 (x_g4 (x_g4 (x_g1 (x_g1 (x_g1 x_g0)))))))))))
theorem t_109 : (x_mt : List xM)[109]? = some M_cX10_put := (x_g16 (x_g16 (x_g16 (x_g16 (x_g16 (x_g16 (x_g4 (x_g4 (x_g4 (x_g1 x_g0))))))))))
theorem t_110 : (x_mt : List xM)[110]? = some M_cX10_at := (x_g16 (x_g16 (x_g16 (x_g16 (x_g16 (x_g16 (x_g4 (x_g4 (x_g4 (x_g1 (x_g1 x_g0)))))))))))
theorem t_112 : (x_mt : List xM)[112]? = some M_cX11_feed := (x_g16 (x_g16 (x_g16 (x_g16 (x_g16 (x_g16 (x_g16 x_g0)))))))
theorem t_113 : (x_mt : List xM)[113]? = some M_cX11_end := (x_g16 (x_g16 (x_g16 (x_g16 (x_g16 (x_g16 (x_g16 (x_g1 x_g0))))))))
theorem t_114 : (x_mt : List xM)[114]? = some M_cX11_board := (x_g16 (x_g16 (x_g16 (x_g16 (x_g16 (x_g16 (x_g16 (x_g1 (x_g1 x_g0)))))))))
theorem t_115 : (x_mt : List xM)[115]? = some M_cX11_fault := (x_g16 (x_g16 (x_g16 (x_g16 (x_g16 (x_g16 (x_g16 (x_g1 (x_g1 (x_g1 x_g0))))))))))
theorem t_116 : (x_mt : List xM)[116]? = some M_cX11_drum := (x_g16 (x_g16 (x_g16 (x_g16 (x_g16 (x_g16 (x_g16 (x_g4 x_g0))))))))
theorem t_117 : (x_mt : List xM)[117]? = some M_cX11_player := (x_g16 (x_g16 (x_g16 (x_g16 (x_g16 (x_g16 (x_g16 (x_g4 (x_g1 x_g0)))))))))
theorem t_118 : (x_mt : List xM)[118]? = some M_cX11_stay := (x_g16 (x_g16 (x_g16 (x_g16 (x_g16 (x_g16 (x_g16 (x_g4 (x_g1 (x_g1 x_g0))))))))))
theorem t_119 : (x_mt : List xM)[119]? = some M_cX11_count := (x_g16 (x_g16 (x_g16 (x_g16 (x_g16 (x_g16 (x_g16 (x_g4 (x_g1 (x_g1 (x_g1 x_g0)))))))))))
theorem t_120 : (x_mt : List xM)[120]? = some M_cX11_comings := (x_g16 (x_g16 (x_g16 (x_g16 (x_g16 (x_g16 (x_g16 (x_g4 (x_g4 x_g0)))))))))
theorem t_121 : (x_mt : List xM)[121]? = some M_cX11_comes := (x_g16 (x_g16 (x_g16 (x_g16 (x_g16 (x_g16 (x_g16 (x_g4 (x_g4 (x_g1 x_g0))))))))))
theorem t_122 : (x_mt : List xM)[122]? = some M_cX11_up := (x_g16 (x_g16 (x_g16 (x_g16 (x_g16 (x_g16 (x_g16 (x_g4 (x_g4 (x_g1 (x_g1 x_g0)))))))))))
theorem t_123 : (x_mt : List xM)[123]? = some M_cX11_calm := (x_g16 (x_g16 (x_g16 (x_g16 (x_g16 (x_g16 (x_g16 (x_g4 (x_g4 (x_g1 (x_g1 (x_g1 x_g0))))))))))))
theorem t_124 : (x_mt : List xM)[124]? = some M_cX11_steps := (x_g16 (x_g16 (x_g16 (x_g16 (x_g16 (x_g16 (x_g16 (x_g4 (x_g4 (x_g4 x_g0))))))))))
theorem t_125 : (x_mt : List xM)[125]? = some M_cX11_pace := (x_g16 (x_g16 (x_g16 (x_g16 (x_g16 (x_g16 (x_g16 (x_g4 (x_g4 (x_g4 (x_g1 x_g0)))))))))))
theorem t_126 : (x_mt : List xM)[126]? = some M_cX11_aware := (x_g16 (x_g16 (x_g16 (x_g16 (x_g16 (x_g16 (x_g16 (x_g4 (x_g4 (x_g4 (x_g1 (x_g1 x_g0))))))))))))
theorem t_127 : (x_mt : List xM)[127]? = some M_cX11_hits := (x_g16 (x_g16 (x_g16 (x_g16 (x_g16 (x_g16 (x_g16 (x_g4 (x_g4 (x_g4 (x_g1 (x_g1 (x_g1 x_g0)))))))))))))
theorem t_128 : (x_mt : List xM)[128]? = some M_cX11_hit := (x_g16 (x_g16 (x_g16 (x_g16 (x_g16 (x_g16 (x_g16 (x_g16 x_g0))))))))
theorem t_129 : (x_mt : List xM)[129]? = some M_cX11_twice := (x_g16 (x_g16 (x_g16 (x_g16 (x_g16 (x_g16 (x_g16 (x_g16 (x_g1 x_g0)))))))))
theorem t_130 : (x_mt : List xM)[130]? = some M_cX11_where := (x_g16 (x_g16 (x_g16 (x_g16 (x_g16 (x_g16 (x_g16 (x_g16 (x_g1 (x_g1 x_g0))))))))))
theorem t_131 : (x_mt : List xM)[131]? = some M_cX11_missed := (x_g16 (x_g16 (x_g16 (x_g16 (x_g16 (x_g16 (x_g16 (x_g16 (x_g1 (x_g1 (x_g1 x_g0)))))))))))
theorem t_132 : (x_mt : List xM)[132]? = some M_cX11_walked := (x_g16 (x_g16 (x_g16 (x_g16 (x_g16 (x_g16 (x_g16 (x_g16 (x_g4 x_g0)))))))))
theorem t_133 : (x_mt : List xM)[133]? = some M_cX11_best := (x_g16 (x_g16 (x_g16 (x_g16 (x_g16 (x_g16 (x_g16 (x_g16 (x_g4 (x_g1 x_g0))))))))))
theorem t_134 : (x_mt : List xM)[134]? = some M_cX11_ahead := (x_g16 (x_g16 (x_g16 (x_g16 (x_g16 (x_g16 (x_g16 (x_g16 (x_g4 (x_g1 (x_g1 x_g0)))))))))))
theorem t_135 : (x_mt : List xM)[135]? = some M_cX11_learns := (x_g16 (x_g16 (x_g16 (x_g16 (x_g16 (x_g16 (x_g16 (x_g16 (x_g4 (x_g1 (x_g1 (x_g1 x_g0))))))))))))
theorem t_136 : (x_mt : List xM)[136]? = some M_cX11_enough := (x_g16 (x_g16 (x_g16 (x_g16 (x_g16 (x_g16 (x_g16 (x_g16 (x_g4 (x_g4 x_g0))))))))))
theorem t_137 : (x_mt : List xM)[137]? = some M_cX11_waits := (x_g16 (x_g16 (x_g16 (x_g16 (x_g16 (x_g16 (x_g16 (x_g16 (x_g4 (x_g4 (x_g1 x_g0)))))))))))
theorem t_138 : (x_mt : List xM)[138]? = some M_cX11_slack := (x_g16 (x_g16 (x_g16 (x_g16 (x_g16 (x_g16 (x_g16 (x_g16 (x_g4 (x_g4 (x_g1 (x_g1 x_g0))))))))))))
theorem t_139 : (x_mt : List xM)[139]? = some M_cX11_lucky := (x_g16 (x_g16 (x_g16 (x_g16 (x_g16 (x_g16 (x_g16 (x_g16 (x_g4 (x_g4 (x_g1 (x_g1 (x_g1 x_g0)))))))))))))
theorem t_140 : (x_mt : List xM)[140]? = some M_cX11_mean := (x_g16 (x_g16 (x_g16 (x_g16 (x_g16 (x_g16 (x_g16 (x_g16 (x_g4 (x_g4 (x_g4 x_g0)))))))))))
theorem t_141 : (x_mt : List xM)[141]? = some M_cX11_middle := (x_g16 (x_g16 (x_g16 (x_g16 (x_g16 (x_g16 (x_g16 (x_g16 (x_g4 (x_g4 (x_g4 (x_g1 x_g0))))))))))))
theorem t_142 : (x_mt : List xM)[142]? = some M_cX11_reach := (x_g16 (x_g16 (x_g16 (x_g16 (x_g16 (x_g16 (x_g16 (x_g16 (x_g4 (x_g4 (x_g4 (x_g1 (x_g1 x_g0)))))))))))))
theorem t_143 : (x_mt : List xM)[143]? = some M_cX11_post := (x_g16 (x_g16 (x_g16 (x_g16 (x_g16 (x_g16 (x_g16 (x_g16 (x_g4 (x_g4 (x_g4 (x_g1 (x_g1 (x_g1 x_g0))))))))))))))
theorem t_144 : (x_mt : List xM)[144]? = some M_cX11_rows := (x_g16 (x_g16 (x_g16 (x_g16 (x_g16 (x_g16 (x_g16 (x_g16 (x_g16 x_g0)))))))))
theorem t_145 : (x_mt : List xM)[145]? = some M_cX11_ends := (x_g16 (x_g16 (x_g16 (x_g16 (x_g16 (x_g16 (x_g16 (x_g16 (x_g16 (x_g1 x_g0))))))))))
theorem t_146 : (x_mt : List xM)[146]? = some M_cX11_fair := (x_g16 (x_g16 (x_g16 (x_g16 (x_g16 (x_g16 (x_g16 (x_g16 (x_g16 (x_g1 (x_g1 x_g0)))))))))))
theorem t_147 : (x_mt : List xM)[147]? = some M_cX11_breaks := (x_g16 (x_g16 (x_g16 (x_g16 (x_g16 (x_g16 (x_g16 (x_g16 (x_g16 (x_g1 (x_g1 (x_g1 x_g0))))))))))))
theorem t_148 : (x_mt : List xM)[148]? = some M_cX11_period := (x_g16 (x_g16 (x_g16 (x_g16 (x_g16 (x_g16 (x_g16 (x_g16 (x_g16 (x_g4 x_g0))))))))))
theorem t_149 : (x_mt : List xM)[149]? = some M_cX11_periods := (x_g16 (x_g16 (x_g16 (x_g16 (x_g16 (x_g16 (x_g16 (x_g16 (x_g16 (x_g4 (x_g1 x_g0)))))))))))
theorem t_150 : (x_mt : List xM)[150]? = some M_cX11_luck := (x_g16 (x_g16 (x_g16 (x_g16 (x_g16 (x_g16 (x_g16 (x_g16 (x_g16 (x_g4 (x_g1 (x_g1 x_g0))))))))))))
theorem t_151 : (x_mt : List xM)[151]? = some M_cX11_fits := (x_g16 (x_g16 (x_g16 (x_g16 (x_g16 (x_g16 (x_g16 (x_g16 (x_g16 (x_g4 (x_g1 (x_g1 (x_g1 x_g0)))))))))))))
theorem t_152 : (x_mt : List xM)[152]? = some M_cX11_place := (x_g16 (x_g16 (x_g16 (x_g16 (x_g16 (x_g16 (x_g16 (x_g16 (x_g16 (x_g4 (x_g4 x_g0)))))))))))
theorem t_153 : (x_mt : List xM)[153]? = some M_cX11_next := (x_g16 (x_g16 (x_g16 (x_g16 (x_g16 (x_g16 (x_g16 (x_g16 (x_g16 (x_g4 (x_g4 (x_g1 x_g0))))))))))))
theorem t_154 : (x_mt : List xM)[154]? = some M_cX11_needed := (x_g16 (x_g16 (x_g16 (x_g16 (x_g16 (x_g16 (x_g16 (x_g16 (x_g16 (x_g4 (x_g4 (x_g1 (x_g1 x_g0)))))))))))))
theorem t_155 : (x_mt : List xM)[155]? = some M_cX11_known := (x_g16 (x_g16 (x_g16 (x_g16 (x_g16 (x_g16 (x_g16 (x_g16 (x_g16 (x_g4 (x_g4 (x_g1 (x_g1 (x_g1 x_g0))))))))))))))
theorem t_156 : (x_mt : List xM)[156]? = some M_cX11_rash := (x_g16 (x_g16 (x_g16 (x_g16 (x_g16 (x_g16 (x_g16 (x_g16 (x_g16 (x_g4 (x_g4 (x_g4 x_g0))))))))))))
theorem t_157 : (x_mt : List xM)[157]? = some M_cX11_look := (x_g16 (x_g16 (x_g16 (x_g16 (x_g16 (x_g16 (x_g16 (x_g16 (x_g16 (x_g4 (x_g4 (x_g4 (x_g1 x_g0)))))))))))))
theorem t_158 : (x_mt : List xM)[158]? = some M_cX11_line := (x_g16 (x_g16 (x_g16 (x_g16 (x_g16 (x_g16 (x_g16 (x_g16 (x_g16 (x_g4 (x_g4 (x_g4 (x_g1 (x_g1 x_g0))))))))))))))
theorem t_159 : (x_mt : List xM)[159]? = some M_cX11_two := (x_g16 (x_g16 (x_g16 (x_g16 (x_g16 (x_g16 (x_g16 (x_g16 (x_g16 (x_g4 (x_g4 (x_g4 (x_g1 (x_g1 (x_g1 x_g0)))))))))))))))
theorem t_160 : (x_mt : List xM)[160]? = some M_cX11_tickets := (x_g16 (x_g16 (x_g16 (x_g16 (x_g16 (x_g16 (x_g16 (x_g16 (x_g16 (x_g16 x_g0))))))))))
theorem t_161 : (x_mt : List xM)[161]? = some M_cX11_prize := (x_g16 (x_g16 (x_g16 (x_g16 (x_g16 (x_g16 (x_g16 (x_g16 (x_g16 (x_g16 (x_g1 x_g0)))))))))))
theorem t_162 : (x_mt : List xM)[162]? = some M_cX11_counted := (x_g16 (x_g16 (x_g16 (x_g16 (x_g16 (x_g16 (x_g16 (x_g16 (x_g16 (x_g16 (x_g1 (x_g1 x_g0))))))))))))
theorem t_163 : (x_mt : List xM)[163]? = some M_cX11_scored := (x_g16 (x_g16 (x_g16 (x_g16 (x_g16 (x_g16 (x_g16 (x_g16 (x_g16 (x_g16 (x_g1 (x_g1 (x_g1 x_g0)))))))))))))
theorem t_164 : (x_mt : List xM)[164]? = some M_cX11_early := (x_g16 (x_g16 (x_g16 (x_g16 (x_g16 (x_g16 (x_g16 (x_g16 (x_g16 (x_g16 (x_g4 x_g0)))))))))))
theorem t_165 : (x_mt : List xM)[165]? = some M_cX11_often := (x_g16 (x_g16 (x_g16 (x_g16 (x_g16 (x_g16 (x_g16 (x_g16 (x_g16 (x_g16 (x_g4 (x_g1 x_g0))))))))))))
theorem t_166 : (x_mt : List xM)[166]? = some M_cX11_balance := (x_g16 (x_g16 (x_g16 (x_g16 (x_g16 (x_g16 (x_g16 (x_g16 (x_g16 (x_g16 (x_g4 (x_g1 (x_g1 x_g0)))))))))))))
theorem t_167 : (x_mt : List xM)[167]? = some M_cX11_path := (x_g16 (x_g16 (x_g16 (x_g16 (x_g16 (x_g16 (x_g16 (x_g16 (x_g16 (x_g16 (x_g4 (x_g1 (x_g1 (x_g1 x_g0))))))))))))))
theorem t_168 : (x_mt : List xM)[168]? = some M_cX11_better := (x_g16 (x_g16 (x_g16 (x_g16 (x_g16 (x_g16 (x_g16 (x_g16 (x_g16 (x_g16 (x_g4 (x_g4 x_g0))))))))))))
theorem t_169 : (x_mt : List xM)[169]? = some M_cX11_swap := (x_g16 (x_g16 (x_g16 (x_g16 (x_g16 (x_g16 (x_g16 (x_g16 (x_g16 (x_g16 (x_g4 (x_g4 (x_g1 x_g0)))))))))))))
theorem t_170 : (x_mt : List xM)[170]? = some M_cX11_paint := (x_g16 (x_g16 (x_g16 (x_g16 (x_g16 (x_g16 (x_g16 (x_g16 (x_g16 (x_g16 (x_g4 (x_g4 (x_g1 (x_g1 x_g0))))))))))))))
theorem t_171 : (x_mt : List xM)[171]? = some M_cX11_turn := (x_g16 (x_g16 (x_g16 (x_g16 (x_g16 (x_g16 (x_g16 (x_g16 (x_g16 (x_g16 (x_g4 (x_g4 (x_g1 (x_g1 (x_g1 x_g0)))))))))))))))
theorem t_172 : (x_mt : List xM)[172]? = some M_cX11_shut := (x_g16 (x_g16 (x_g16 (x_g16 (x_g16 (x_g16 (x_g16 (x_g16 (x_g16 (x_g16 (x_g4 (x_g4 (x_g4 x_g0)))))))))))))
theorem t_173 : (x_mt : List xM)[173]? = some M_cX11_train := (x_g16 (x_g16 (x_g16 (x_g16 (x_g16 (x_g16 (x_g16 (x_g16 (x_g16 (x_g16 (x_g4 (x_g4 (x_g4 (x_g1 x_g0))))))))))))))
theorem t_174 : (x_mt : List xM)[174]? = some M_cX11_drawn := (x_g16 (x_g16 (x_g16 (x_g16 (x_g16 (x_g16 (x_g16 (x_g16 (x_g16 (x_g16 (x_g4 (x_g4 (x_g4 (x_g1 (x_g1 x_g0)))))))))))))))
theorem t_175 : (x_mt : List xM)[175]? = some M_cX11_night := (x_g16 (x_g16 (x_g16 (x_g16 (x_g16 (x_g16 (x_g16 (x_g16 (x_g16 (x_g16 (x_g4 (x_g4 (x_g4 (x_g1 (x_g1 (x_g1 x_g0))))))))))))))))
theorem t_176 : (x_mt : List xM)[176]? = some M_cX11_years := (x_g16 (x_g16 (x_g16 (x_g16 (x_g16 (x_g16 (x_g16 (x_g16 (x_g16 (x_g16 (x_g16 x_g0)))))))))))
theorem t_177 : (x_mt : List xM)[177]? = some M_cX11_image := (x_g16 (x_g16 (x_g16 (x_g16 (x_g16 (x_g16 (x_g16 (x_g16 (x_g16 (x_g16 (x_g16 (x_g1 x_g0))))))))))))
theorem t_178 : (x_mt : List xM)[178]? = some M_cX11_back := (x_g16 (x_g16 (x_g16 (x_g16 (x_g16 (x_g16 (x_g16 (x_g16 (x_g16 (x_g16 (x_g16 (x_g1 (x_g1 x_g0)))))))))))))
theorem t_179 : (x_mt : List xM)[179]? = some M_cX11_row := (x_g16 (x_g16 (x_g16 (x_g16 (x_g16 (x_g16 (x_g16 (x_g16 (x_g16 (x_g16 (x_g16 (x_g1 (x_g1 (x_g1 x_g0))))))))))))))
theorem t_180 : (x_mt : List xM)[180]? = some M_cX11_write := (x_g16 (x_g16 (x_g16 (x_g16 (x_g16 (x_g16 (x_g16 (x_g16 (x_g16 (x_g16 (x_g16 (x_g4 x_g0))))))))))))
theorem t_181 : (x_mt : List xM)[181]? = some M_cX11_paste := (x_g16 (x_g16 (x_g16 (x_g16 (x_g16 (x_g16 (x_g16 (x_g16 (x_g16 (x_g16 (x_g16 (x_g4 (x_g1 x_g0)))))))))))))
theorem t_182 : (x_mt : List xM)[182]? = some M_cX11_isSlot := (x_g16 (x_g16 (x_g16 (x_g16 (x_g16 (x_g16 (x_g16 (x_g16 (x_g16 (x_g16 (x_g16 (x_g4 (x_g1 (x_g1 x_g0))))))))))))))
theorem t_183 : (x_mt : List xM)[183]? = some M_cX11_isLaw := (x_g16 (x_g16 (x_g16 (x_g16 (x_g16 (x_g16 (x_g16 (x_g16 (x_g16 (x_g16 (x_g16 (x_g4 (x_g1 (x_g1 (x_g1 x_g0)))))))))))))))
theorem t_184 : (x_mt : List xM)[184]? = some M_cX11_isSeed := (x_g16 (x_g16 (x_g16 (x_g16 (x_g16 (x_g16 (x_g16 (x_g16 (x_g16 (x_g16 (x_g16 (x_g4 (x_g4 x_g0)))))))))))))
theorem t_185 : (x_mt : List xM)[185]? = some M_cX11_rowsKept := (x_g16 (x_g16 (x_g16 (x_g16 (x_g16 (x_g16 (x_g16 (x_g16 (x_g16 (x_g16 (x_g16 (x_g4 (x_g4 (x_g1 x_g0))))))))))))))
theorem t_186 : (x_mt : List xM)[186]? = some M_cX11_makeReady := (x_g16 (x_g16 (x_g16 (x_g16 (x_g16 (x_g16 (x_g16 (x_g16 (x_g16 (x_g16 (x_g16 (x_g4 (x_g4 (x_g1 (x_g1 x_g0)))))))))))))))
theorem t_187 : (x_mt : List xM)[187]? = some M_cX11_runOf := (x_g16 (x_g16 (x_g16 (x_g16 (x_g16 (x_g16 (x_g16 (x_g16 (x_g16 (x_g16 (x_g16 (x_g4 (x_g4 (x_g1 (x_g1 (x_g1 x_g0))))))))))))))))
theorem t_188 : (x_mt : List xM)[188]? = some M_cX11_hitsKnowing := (x_g16 (x_g16 (x_g16 (x_g16 (x_g16 (x_g16 (x_g16 (x_g16 (x_g16 (x_g16 (x_g16 (x_g4 (x_g4 (x_g4 x_g0))))))))))))))
theorem t_189 : (x_mt : List xM)[189]? = some M_cX11_hitsLagging := (x_g16 (x_g16 (x_g16 (x_g16 (x_g16 (x_g16 (x_g16 (x_g16 (x_g16 (x_g16 (x_g16 (x_g4 (x_g4 (x_g4 (x_g1 x_g0)))))))))))))))
theorem t_190 : (x_mt : List xM)[190]? = some M_cX11_lookPoints := (x_g16 (x_g16 (x_g16 (x_g16 (x_g16 (x_g16 (x_g16 (x_g16 (x_g16 (x_g16 (x_g16 (x_g4 (x_g4 (x_g4 (x_g1 (x_g1 x_g0))))))))))))))))
theorem t_191 : (x_mt : List xM)[191]? = some M_cX11_ticketsOfRun := (x_g16 (x_g16 (x_g16 (x_g16 (x_g16 (x_g16 (x_g16 (x_g16 (x_g16 (x_g16 (x_g16 (x_g4 (x_g4 (x_g4 (x_g1 (x_g1 (x_g1 x_g0)))))))))))))))))
theorem t_192 : (x_mt : List xM)[192]? = some M_cX11_countLots := (x_g16 (x_g16 (x_g16 (x_g16 (x_g16 (x_g16 (x_g16 (x_g16 (x_g16 (x_g16 (x_g16 (x_g16 x_g0))))))))))))
theorem t_193 : (x_mt : List xM)[193]? = some M_cX11_whyUnheard := (x_g16 (x_g16 (x_g16 (x_g16 (x_g16 (x_g16 (x_g16 (x_g16 (x_g16 (x_g16 (x_g16 (x_g16 (x_g1 x_g0)))))))))))))
theorem t_194 : (x_mt : List xM)[194]? = some M_cX11_whyNoBlows := (x_g16 (x_g16 (x_g16 (x_g16 (x_g16 (x_g16 (x_g16 (x_g16 (x_g16 (x_g16 (x_g16 (x_g16 (x_g1 (x_g1 x_g0))))))))))))))
theorem t_196 : (x_mt : List xM)[196]? = some M_cX12_in := (x_g16 (x_g16 (x_g16 (x_g16 (x_g16 (x_g16 (x_g16 (x_g16 (x_g16 (x_g16 (x_g16 (x_g16 (x_g4 x_g0)))))))))))))
theorem t_197 : (x_mt : List xM)[197]? = some M_cX12_image := (x_g16 (x_g16 (x_g16 (x_g16 (x_g16 (x_g16 (x_g16 (x_g16 (x_g16 (x_g16 (x_g16 (x_g16 (x_g4 (x_g1 x_g0))))))))))))))
theorem t_198 : (x_mt : List xM)[198]? = some M_cX12_back := (x_g16 (x_g16 (x_g16 (x_g16 (x_g16 (x_g16 (x_g16 (x_g16 (x_g16 (x_g16 (x_g16 (x_g16 (x_g4 (x_g1 (x_g1 x_g0)))))))))))))))
theorem t_199 : (x_mt : List xM)[199]? = some M_cX12_isBoard := (x_g16 (x_g16 (x_g16 (x_g16 (x_g16 (x_g16 (x_g16 (x_g16 (x_g16 (x_g16 (x_g16 (x_g16 (x_g4 (x_g1 (x_g1 (x_g1 x_g0))))))))))))))))
theorem t_200 : (x_mt : List xM)[200]? = some M_cX12_holes := (x_g16 (x_g16 (x_g16 (x_g16 (x_g16 (x_g16 (x_g16 (x_g16 (x_g16 (x_g16 (x_g16 (x_g16 (x_g4 (x_g4 x_g0))))))))))))))
theorem t_201 : (x_mt : List xM)[201]? = some M_cX12_isHole := (x_g16 (x_g16 (x_g16 (x_g16 (x_g16 (x_g16 (x_g16 (x_g16 (x_g16 (x_g16 (x_g16 (x_g16 (x_g4 (x_g4 (x_g1 x_g0)))))))))))))))
theorem t_202 : (x_mt : List xM)[202]? = some M_cX12_isShut := (x_g16 (x_g16 (x_g16 (x_g16 (x_g16 (x_g16 (x_g16 (x_g16 (x_g16 (x_g16 (x_g16 (x_g16 (x_g4 (x_g4 (x_g1 (x_g1 x_g0))))))))))))))))
theorem t_203 : (x_mt : List xM)[203]? = some M_cX12_isTick := (x_g16 (x_g16 (x_g16 (x_g16 (x_g16 (x_g16 (x_g16 (x_g16 (x_g16 (x_g16 (x_g16 (x_g16 (x_g4 (x_g4 (x_g1 (x_g1 (x_g1 x_g0)))))))))))))))))
theorem t_204 : (x_mt : List xM)[204]? = some M_cX12_isComing := (x_g16 (x_g16 (x_g16 (x_g16 (x_g16 (x_g16 (x_g16 (x_g16 (x_g16 (x_g16 (x_g16 (x_g16 (x_g4 (x_g4 (x_g4 x_g0)))))))))))))))
theorem t_205 : (x_mt : List xM)[205]? = some M_cX12_isPlayer := (x_g16 (x_g16 (x_g16 (x_g16 (x_g16 (x_g16 (x_g16 (x_g16 (x_g16 (x_g16 (x_g16 (x_g16 (x_g4 (x_g4 (x_g4 (x_g1 x_g0))))))))))))))))
theorem t_206 : (x_mt : List xM)[206]? = some M_cX12_ofComing := (x_g16 (x_g16 (x_g16 (x_g16 (x_g16 (x_g16 (x_g16 (x_g16 (x_g16 (x_g16 (x_g16 (x_g16 (x_g4 (x_g4 (x_g4 (x_g1 (x_g1 x_g0)))))))))))))))))
theorem t_207 : (x_mt : List xM)[207]? = some M_cX12_of := (x_g16 (x_g16 (x_g16 (x_g16 (x_g16 (x_g16 (x_g16 (x_g16 (x_g16 (x_g16 (x_g16 (x_g16 (x_g4 (x_g4 (x_g4 (x_g1 (x_g1 (x_g1 x_g0))))))))))))))))))
theorem t_208 : (x_mt : List xM)[208]? = some M_cX12_feed := (x_g16 (x_g16 (x_g16 (x_g16 (x_g16 (x_g16 (x_g16 (x_g16 (x_g16 (x_g16 (x_g16 (x_g16 (x_g16 x_g0)))))))))))))
theorem t_209 : (x_mt : List xM)[209]? = some M_cX12_end := (x_g16 (x_g16 (x_g16 (x_g16 (x_g16 (x_g16 (x_g16 (x_g16 (x_g16 (x_g16 (x_g16 (x_g16 (x_g16 (x_g1 x_g0))))))))))))))
theorem t_210 : (x_mt : List xM)[210]? = some M_cX12_see := (x_g16 (x_g16 (x_g16 (x_g16 (x_g16 (x_g16 (x_g16 (x_g16 (x_g16 (x_g16 (x_g16 (x_g16 (x_g16 (x_g1 (x_g1 x_g0)))))))))))))))
theorem t_211 : (x_mt : List xM)[211]? = some M_cX12_advance := (x_g16 (x_g16 (x_g16 (x_g16 (x_g16 (x_g16 (x_g16 (x_g16 (x_g16 (x_g16 (x_g16 (x_g16 (x_g16 (x_g1 (x_g1 (x_g1 x_g0))))))))))))))))
theorem t_212 : (x_mt : List xM)[212]? = some M_cX12_good := (x_g16 (x_g16 (x_g16 (x_g16 (x_g16 (x_g16 (x_g16 (x_g16 (x_g16 (x_g16 (x_g16 (x_g16 (x_g16 (x_g4 x_g0))))))))))))))
theorem t_213 : (x_mt : List xM)[213]? = some M_cX12_errs := (x_g16 (x_g16 (x_g16 (x_g16 (x_g16 (x_g16 (x_g16 (x_g16 (x_g16 (x_g16 (x_g16 (x_g16 (x_g16 (x_g4 (x_g1 x_g0)))))))))))))))
theorem t_214 : (x_mt : List xM)[214]? = some M_cX12_is := (x_g16 (x_g16 (x_g16 (x_g16 (x_g16 (x_g16 (x_g16 (x_g16 (x_g16 (x_g16 (x_g16 (x_g16 (x_g16 (x_g4 (x_g1 (x_g1 x_g0))))))))))))))))
theorem t_215 : (x_mt : List xM)[215]? = some M_cX12_takes := (x_g16 (x_g16 (x_g16 (x_g16 (x_g16 (x_g16 (x_g16 (x_g16 (x_g16 (x_g16 (x_g16 (x_g16 (x_g16 (x_g4 (x_g1 (x_g1 (x_g1 x_g0)))))))))))))))))
theorem t_216 : (x_mt : List xM)[216]? = some M_cX12_needs := (x_g16 (x_g16 (x_g16 (x_g16 (x_g16 (x_g16 (x_g16 (x_g16 (x_g16 (x_g16 (x_g16 (x_g16 (x_g16 (x_g4 (x_g4 x_g0)))))))))))))))
theorem t_217 : (x_mt : List xM)[217]? = some M_cX12_number := (x_g16 (x_g16 (x_g16 (x_g16 (x_g16 (x_g16 (x_g16 (x_g16 (x_g16 (x_g16 (x_g16 (x_g16 (x_g16 (x_g4 (x_g4 (x_g1 x_g0))))))))))))))))
theorem t_218 : (x_mt : List xM)[218]? = some M_cX12_told := (x_g16 (x_g16 (x_g16 (x_g16 (x_g16 (x_g16 (x_g16 (x_g16 (x_g16 (x_g16 (x_g16 (x_g16 (x_g16 (x_g4 (x_g4 (x_g1 (x_g1 x_g0)))))))))))))))))
theorem t_219 : (x_mt : List xM)[219]? = some M_cX12_fault := (x_g16 (x_g16 (x_g16 (x_g16 (x_g16 (x_g16 (x_g16 (x_g16 (x_g16 (x_g16 (x_g16 (x_g16 (x_g16 (x_g4 (x_g4 (x_g1 (x_g1 (x_g1 x_g0))))))))))))))))))
theorem t_220 : (x_mt : List xM)[220]? = some M_cX12_freshHoles := (x_g16 (x_g16 (x_g16 (x_g16 (x_g16 (x_g16 (x_g16 (x_g16 (x_g16 (x_g16 (x_g16 (x_g16 (x_g16 (x_g4 (x_g4 (x_g4 x_g0))))))))))))))))
theorem t_221 : (x_mt : List xM)[221]? = some M_cX12_readFirst := (x_g16 (x_g16 (x_g16 (x_g16 (x_g16 (x_g16 (x_g16 (x_g16 (x_g16 (x_g16 (x_g16 (x_g16 (x_g16 (x_g4 (x_g4 (x_g4 (x_g1 x_g0)))))))))))))))))
theorem t_222 : (x_mt : List xM)[222]? = some M_cX12_freshStay := (x_g16 (x_g16 (x_g16 (x_g16 (x_g16 (x_g16 (x_g16 (x_g16 (x_g16 (x_g16 (x_g16 (x_g16 (x_g16 (x_g4 (x_g4 (x_g4 (x_g1 (x_g1 x_g0))))))))))))))))))
theorem t_223 : (x_mt : List xM)[223]? = some M_cX12_readStay := (x_g16 (x_g16 (x_g16 (x_g16 (x_g16 (x_g16 (x_g16 (x_g16 (x_g16 (x_g16 (x_g16 (x_g16 (x_g16 (x_g4 (x_g4 (x_g4 (x_g1 (x_g1 (x_g1 x_g0)))))))))))))))))))
theorem t_224 : (x_mt : List xM)[224]? = some M_cX12_isNextHole := (x_g16 (x_g16 (x_g16 (x_g16 (x_g16 (x_g16 (x_g16 (x_g16 (x_g16 (x_g16 (x_g16 (x_g16 (x_g16 (x_g16 x_g0))))))))))))))
theorem t_225 : (x_mt : List xM)[225]? = some M_cX12_isFreshComing := (x_g16 (x_g16 (x_g16 (x_g16 (x_g16 (x_g16 (x_g16 (x_g16 (x_g16 (x_g16 (x_g16 (x_g16 (x_g16 (x_g16 (x_g1 x_g0)))))))))))))))
theorem t_226 : (x_mt : List xM)[226]? = some M_cX12_readShut := (x_g16 (x_g16 (x_g16 (x_g16 (x_g16 (x_g16 (x_g16 (x_g16 (x_g16 (x_g16 (x_g16 (x_g16 (x_g16 (x_g16 (x_g1 (x_g1 x_g0))))))))))))))))
theorem t_227 : (x_mt : List xM)[227]? = some M_cX12_readHole := (x_g16 (x_g16 (x_g16 (x_g16 (x_g16 (x_g16 (x_g16 (x_g16 (x_g16 (x_g16 (x_g16 (x_g16 (x_g16 (x_g16 (x_g1 (x_g1 (x_g1 x_g0)))))))))))))))))
theorem t_228 : (x_mt : List xM)[228]? = some M_cX12_readComing := (x_g16 (x_g16 (x_g16 (x_g16 (x_g16 (x_g16 (x_g16 (x_g16 (x_g16 (x_g16 (x_g16 (x_g16 (x_g16 (x_g16 (x_g4 x_g0)))))))))))))))
theorem t_229 : (x_mt : List xM)[229]? = some M_cX12_readPlayer := (x_g16 (x_g16 (x_g16 (x_g16 (x_g16 (x_g16 (x_g16 (x_g16 (x_g16 (x_g16 (x_g16 (x_g16 (x_g16 (x_g16 (x_g4 (x_g1 x_g0))))))))))))))))
theorem t_230 : (x_mt : List xM)[230]? = some M_cX12_readNext := (x_g16 (x_g16 (x_g16 (x_g16 (x_g16 (x_g16 (x_g16 (x_g16 (x_g16 (x_g16 (x_g16 (x_g16 (x_g16 (x_g16 (x_g4 (x_g1 (x_g1 x_g0)))))))))))))))))
theorem t_231 : (x_mt : List xM)[231]? = some M_cX12_readLine := (x_g16 (x_g16 (x_g16 (x_g16 (x_g16 (x_g16 (x_g16 (x_g16 (x_g16 (x_g16 (x_g16 (x_g16 (x_g16 (x_g16 (x_g4 (x_g1 (x_g1 (x_g1 x_g0))))))))))))))))))
theorem t_232 : (x_mt : List xM)[232]? = some M_cX12_board := (x_g16 (x_g16 (x_g16 (x_g16 (x_g16 (x_g16 (x_g16 (x_g16 (x_g16 (x_g16 (x_g16 (x_g16 (x_g16 (x_g16 (x_g4 (x_g4 x_g0))))))))))))))))
theorem t_233 : (x_mt : List xM)[233]? = some M_cX12_stayIn := (x_g16 (x_g16 (x_g16 (x_g16 (x_g16 (x_g16 (x_g16 (x_g16 (x_g16 (x_g16 (x_g16 (x_g16 (x_g16 (x_g16 (x_g4 (x_g4 (x_g1 x_g0)))))))))))))))))
theorem t_234 : (x_mt : List xM)[234]? = some M_cX12_nextTick := (x_g16 (x_g16 (x_g16 (x_g16 (x_g16 (x_g16 (x_g16 (x_g16 (x_g16 (x_g16 (x_g16 (x_g16 (x_g16 (x_g16 (x_g4 (x_g4 (x_g1 (x_g1 x_g0))))))))))))))))))
theorem t_235 : (x_mt : List xM)[235]? = some M_cX12_mayCome := (x_g16 (x_g16 (x_g16 (x_g16 (x_g16 (x_g16 (x_g16 (x_g16 (x_g16 (x_g16 (x_g16 (x_g16 (x_g16 (x_g16 (x_g4 (x_g4 (x_g1 (x_g1 (x_g1 x_g0)))))))))))))))))))
theorem t_236 : (x_mt : List xM)[236]? = some M_cX12_come := (x_g16 (x_g16 (x_g16 (x_g16 (x_g16 (x_g16 (x_g16 (x_g16 (x_g16 (x_g16 (x_g16 (x_g16 (x_g16 (x_g16 (x_g4 (x_g4 (x_g4 x_g0)))))))))))))))))
theorem t_237 : (x_mt : List xM)[237]? = some M_cX12_lay := (x_g16 (x_g16 (x_g16 (x_g16 (x_g16 (x_g16 (x_g16 (x_g16 (x_g16 (x_g16 (x_g16 (x_g16 (x_g16 (x_g16 (x_g4 (x_g4 (x_g4 (x_g1 x_g0))))))))))))))))))
theorem t_238 : (x_mt : List xM)[238]? = some M_cX12_inGame := (x_g16 (x_g16 (x_g16 (x_g16 (x_g16 (x_g16 (x_g16 (x_g16 (x_g16 (x_g16 (x_g16 (x_g16 (x_g16 (x_g16 (x_g4 (x_g4 (x_g4 (x_g1 (x_g1 x_g0)))))))))))))))))))
theorem t_239 : (x_mt : List xM)[239]? = some M_cX12_drum := (x_g16 (x_g16 (x_g16 (x_g16 (x_g16 (x_g16 (x_g16 (x_g16 (x_g16 (x_g16 (x_g16 (x_g16 (x_g16 (x_g16 (x_g4 (x_g4 (x_g4 (x_g1 (x_g1 (x_g1 x_g0))))))))))))))))))))
theorem t_240 : (x_mt : List xM)[240]? = some M_cX12_player := (x_g16 (x_g16 (x_g16 (x_g16 (x_g16 (x_g16 (x_g16 (x_g16 (x_g16 (x_g16 (x_g16 (x_g16 (x_g16 (x_g16 (x_g16 x_g0)))))))))))))))
theorem t_241 : (x_mt : List xM)[241]? = some M_cX12_stay := (x_g16 (x_g16 (x_g16 (x_g16 (x_g16 (x_g16 (x_g16 (x_g16 (x_g16 (x_g16 (x_g16 (x_g16 (x_g16 (x_g16 (x_g16 (x_g1 x_g0))))))))))))))))
theorem t_242 : (x_mt : List xM)[242]? = some M_cX12_comings := (x_g16 (x_g16 (x_g16 (x_g16 (x_g16 (x_g16 (x_g16 (x_g16 (x_g16 (x_g16 (x_g16 (x_g16 (x_g16 (x_g16 (x_g16 (x_g1 (x_g1 x_g0)))))))))))))))))
theorem t_243 : (x_mt : List xM)[243]? = some M_cX12_isInGame := (x_g16 (x_g16 (x_g16 (x_g16 (x_g16 (x_g16 (x_g16 (x_g16 (x_g16 (x_g16 (x_g16 (x_g16 (x_g16 (x_g16 (x_g16 (x_g1 (x_g1 (x_g1 x_g0))))))))))))))))))
theorem t_244 : (x_mt : List xM)[244]? = some M_cX12_comes := (x_g16 (x_g16 (x_g16 (x_g16 (x_g16 (x_g16 (x_g16 (x_g16 (x_g16 (x_g16 (x_g16 (x_g16 (x_g16 (x_g16 (x_g16 (x_g4 x_g0))))))))))))))))
theorem t_245 : (x_mt : List xM)[245]? = some M_cX12_upIn := (x_g16 (x_g16 (x_g16 (x_g16 (x_g16 (x_g16 (x_g16 (x_g16 (x_g16 (x_g16 (x_g16 (x_g16 (x_g16 (x_g16 (x_g16 (x_g4 (x_g1 x_g0)))))))))))))))))
theorem t_246 : (x_mt : List xM)[246]? = some M_cX12_up := (x_g16 (x_g16 (x_g16 (x_g16 (x_g16 (x_g16 (x_g16 (x_g16 (x_g16 (x_g16 (x_g16 (x_g16 (x_g16 (x_g16 (x_g16 (x_g4 (x_g1 (x_g1 x_g0))))))))))))))))))
theorem t_247 : (x_mt : List xM)[247]? = some M_cX12_calm := (x_g16 (x_g16 (x_g16 (x_g16 (x_g16 (x_g16 (x_g16 (x_g16 (x_g16 (x_g16 (x_g16 (x_g16 (x_g16 (x_g16 (x_g16 (x_g4 (x_g1 (x_g1 (x_g1 x_g0)))))))))))))))))))
theorem t_248 : (x_mt : List xM)[248]? = some M_cX12_stepsOf := (x_g16 (x_g16 (x_g16 (x_g16 (x_g16 (x_g16 (x_g16 (x_g16 (x_g16 (x_g16 (x_g16 (x_g16 (x_g16 (x_g16 (x_g16 (x_g4 (x_g4 x_g0)))))))))))))))))
theorem t_249 : (x_mt : List xM)[249]? = some M_cX12_steps := (x_g16 (x_g16 (x_g16 (x_g16 (x_g16 (x_g16 (x_g16 (x_g16 (x_g16 (x_g16 (x_g16 (x_g16 (x_g16 (x_g16 (x_g16 (x_g4 (x_g4 (x_g1 x_g0))))))))))))))))))
theorem t_250 : (x_mt : List xM)[250]? = some M_cX12_paceIn := (x_g16 (x_g16 (x_g16 (x_g16 (x_g16 (x_g16 (x_g16 (x_g16 (x_g16 (x_g16 (x_g16 (x_g16 (x_g16 (x_g16 (x_g16 (x_g4 (x_g4 (x_g1 (x_g1 x_g0)))))))))))))))))))
theorem t_251 : (x_mt : List xM)[251]? = some M_cX12_pace := (x_g16 (x_g16 (x_g16 (x_g16 (x_g16 (x_g16 (x_g16 (x_g16 (x_g16 (x_g16 (x_g16 (x_g16 (x_g16 (x_g16 (x_g16 (x_g4 (x_g4 (x_g1 (x_g1 (x_g1 x_g0))))))))))))))))))))
theorem t_252 : (x_mt : List xM)[252]? = some M_cX12_asTold := (x_g16 (x_g16 (x_g16 (x_g16 (x_g16 (x_g16 (x_g16 (x_g16 (x_g16 (x_g16 (x_g16 (x_g16 (x_g16 (x_g16 (x_g16 (x_g4 (x_g4 (x_g4 x_g0))))))))))))))))))
theorem t_253 : (x_mt : List xM)[253]? = some M_cX12_awareOf := (x_g16 (x_g16 (x_g16 (x_g16 (x_g16 (x_g16 (x_g16 (x_g16 (x_g16 (x_g16 (x_g16 (x_g16 (x_g16 (x_g16 (x_g16 (x_g4 (x_g4 (x_g4 (x_g1 x_g0)))))))))))))))))))
theorem t_254 : (x_mt : List xM)[254]? = some M_cX12_aware := (x_g16 (x_g16 (x_g16 (x_g16 (x_g16 (x_g16 (x_g16 (x_g16 (x_g16 (x_g16 (x_g16 (x_g16 (x_g16 (x_g16 (x_g16 (x_g4 (x_g4 (x_g4 (x_g1 (x_g1 x_g0))))))))))))))))))))
theorem t_255 : (x_mt : List xM)[255]? = some M_cX12_goes := (x_g16 (x_g16 (x_g16 (x_g16 (x_g16 (x_g16 (x_g16 (x_g16 (x_g16 (x_g16 (x_g16 (x_g16 (x_g16 (x_g16 (x_g16 (x_g4 (x_g4 (x_g4 (x_g1 (x_g1 (x_g1 x_g0)))))))))))))))))))))
theorem t_256 : (x_mt : List xM)[256]? = some M_cX12_isHis := (x_g16 (x_g16 (x_g16 (x_g16 (x_g16 (x_g16 (x_g16 (x_g16 (x_g16 (x_g16 (x_g16 (x_g16 (x_g16 (x_g16 (x_g16 (x_g16 x_g0))))))))))))))))
theorem t_257 : (x_mt : List xM)[257]? = some M_cX12_goesFor := (x_g16 (x_g16 (x_g16 (x_g16 (x_g16 (x_g16 (x_g16 (x_g16 (x_g16 (x_g16 (x_g16 (x_g16 (x_g16 (x_g16 (x_g16 (x_g16 (x_g1 x_g0)))))))))))))))))
theorem t_258 : (x_mt : List xM)[258]? = some M_cX12_run := (x_g16 (x_g16 (x_g16 (x_g16 (x_g16 (x_g16 (x_g16 (x_g16 (x_g16 (x_g16 (x_g16 (x_g16 (x_g16 (x_g16 (x_g16 (x_g16 (x_g1 (x_g1 x_g0))))))))))))))))))
theorem t_259 : (x_mt : List xM)[259]? = some M_cX12_runAsTold := (x_g16 (x_g16 (x_g16 (x_g16 (x_g16 (x_g16 (x_g16 (x_g16 (x_g16 (x_g16 (x_g16 (x_g16 (x_g16 (x_g16 (x_g16 (x_g16 (x_g1 (x_g1 (x_g1 x_g0)))))))))))))))))))
theorem t_260 : (x_mt : List xM)[260]? = some M_cX12_hits := (x_g16 (x_g16 (x_g16 (x_g16 (x_g16 (x_g16 (x_g16 (x_g16 (x_g16 (x_g16 (x_g16 (x_g16 (x_g16 (x_g16 (x_g16 (x_g16 (x_g4 x_g0)))))))))))))))))
theorem t_261 : (x_mt : List xM)[261]? = some M_cX12_hit := (x_g16 (x_g16 (x_g16 (x_g16 (x_g16 (x_g16 (x_g16 (x_g16 (x_g16 (x_g16 (x_g16 (x_g16 (x_g16 (x_g16 (x_g16 (x_g16 (x_g4 (x_g1 x_g0))))))))))))))))))
theorem t_262 : (x_mt : List xM)[262]? = some M_cX12_twice := (x_g16 (x_g16 (x_g16 (x_g16 (x_g16 (x_g16 (x_g16 (x_g16 (x_g16 (x_g16 (x_g16 (x_g16 (x_g16 (x_g16 (x_g16 (x_g16 (x_g4 (x_g1 (x_g1 x_g0)))))))))))))))))))
theorem t_263 : (x_mt : List xM)[263]? = some M_cX12_where := (x_g16 (x_g16 (x_g16 (x_g16 (x_g16 (x_g16 (x_g16 (x_g16 (x_g16 (x_g16 (x_g16 (x_g16 (x_g16 (x_g16 (x_g16 (x_g16 (x_g4 (x_g1 (x_g1 (x_g1 x_g0))))))))))))))))))))
theorem t_264 : (x_mt : List xM)[264]? = some M_cX12_missed := (x_g16 (x_g16 (x_g16 (x_g16 (x_g16 (x_g16 (x_g16 (x_g16 (x_g16 (x_g16 (x_g16 (x_g16 (x_g16 (x_g16 (x_g16 (x_g16 (x_g4 (x_g4 x_g0))))))))))))))))))
theorem t_265 : (x_mt : List xM)[265]? = some M_cX12_walked := (x_g16 (x_g16 (x_g16 (x_g16 (x_g16 (x_g16 (x_g16 (x_g16 (x_g16 (x_g16 (x_g16 (x_g16 (x_g16 (x_g16 (x_g16 (x_g16 (x_g4 (x_g4 (x_g1 x_g0)))))))))))))))))))
theorem t_266 : (x_mt : List xM)[266]? = some M_cX12_cell := (x_g16 (x_g16 (x_g16 (x_g16 (x_g16 (x_g16 (x_g16 (x_g16 (x_g16 (x_g16 (x_g16 (x_g16 (x_g16 (x_g16 (x_g16 (x_g16 (x_g4 (x_g4 (x_g1 (x_g1 x_g0))))))))))))))))))))
theorem t_267 : (x_mt : List xM)[267]? = some M_cX12_sooner := (x_g16 (x_g16 (x_g16 (x_g16 (x_g16 (x_g16 (x_g16 (x_g16 (x_g16 (x_g16 (x_g16 (x_g16 (x_g16 (x_g16 (x_g16 (x_g16 (x_g4 (x_g4 (x_g1 (x_g1 (x_g1 x_g0)))))))))))))))))))))
theorem t_268 : (x_mt : List xM)[268]? = some M_cX12_behind := (x_g16 (x_g16 (x_g16 (x_g16 (x_g16 (x_g16 (x_g16 (x_g16 (x_g16 (x_g16 (x_g16 (x_g16 (x_g16 (x_g16 (x_g16 (x_g16 (x_g4 (x_g4 (x_g4 x_g0)))))))))))))))))))
theorem t_269 : (x_mt : List xM)[269]? = some M_cX12_mayHit := (x_g16 (x_g16 (x_g16 (x_g16 (x_g16 (x_g16 (x_g16 (x_g16 (x_g16 (x_g16 (x_g16 (x_g16 (x_g16 (x_g16 (x_g16 (x_g16 (x_g4 (x_g4 (x_g4 (x_g1 x_g0))))))))))))))))))))
theorem t_270 : (x_mt : List xM)[270]? = some M_cX12_bestOf := (x_g16 (x_g16 (x_g16 (x_g16 (x_g16 (x_g16 (x_g16 (x_g16 (x_g16 (x_g16 (x_g16 (x_g16 (x_g16 (x_g16 (x_g16 (x_g16 (x_g4 (x_g4 (x_g4 (x_g1 (x_g1 x_g0)))))))))))))))))))))
theorem t_271 : (x_mt : List xM)[271]? = some M_cX12_best := (x_g16 (x_g16 (x_g16 (x_g16 (x_g16 (x_g16 (x_g16 (x_g16 (x_g16 (x_g16 (x_g16 (x_g16 (x_g16 (x_g16 (x_g16 (x_g16 (x_g4 (x_g4 (x_g4 (x_g1 (x_g1 (x_g1 x_g0))))))))))))))))))))))
theorem t_272 : (x_mt : List xM)[272]? = some M_cX12_ahead := (x_g16 (x_g16 (x_g16 (x_g16 (x_g16 (x_g16 (x_g16 (x_g16 (x_g16 (x_g16 (x_g16 (x_g16 (x_g16 (x_g16 (x_g16 (x_g16 (x_g16 x_g0)))))))))))))))))
theorem t_273 : (x_mt : List xM)[273]? = some M_cX12_learnsBy := (x_g16 (x_g16 (x_g16 (x_g16 (x_g16 (x_g16 (x_g16 (x_g16 (x_g16 (x_g16 (x_g16 (x_g16 (x_g16 (x_g16 (x_g16 (x_g16 (x_g16 (x_g1 x_g0))))))))))))))))))
theorem t_274 : (x_mt : List xM)[274]? = some M_cX12_learns := (x_g16 (x_g16 (x_g16 (x_g16 (x_g16 (x_g16 (x_g16 (x_g16 (x_g16 (x_g16 (x_g16 (x_g16 (x_g16 (x_g16 (x_g16 (x_g16 (x_g16 (x_g1 (x_g1 x_g0)))))))))))))))))))
theorem t_275 : (x_mt : List xM)[275]? = some M_cX12_enough := (x_g16 (x_g16 (x_g16 (x_g16 (x_g16 (x_g16 (x_g16 (x_g16 (x_g16 (x_g16 (x_g16 (x_g16 (x_g16 (x_g16 (x_g16 (x_g16 (x_g16 (x_g1 (x_g1 (x_g1 x_g0))))))))))))))))))))
theorem t_276 : (x_mt : List xM)[276]? = some M_cX12_waitingAt := (x_g16 (x_g16 (x_g16 (x_g16 (x_g16 (x_g16 (x_g16 (x_g16 (x_g16 (x_g16 (x_g16 (x_g16 (x_g16 (x_g16 (x_g16 (x_g16 (x_g16 (x_g4 x_g0))))))))))))))))))
theorem t_277 : (x_mt : List xM)[277]? = some M_cX12_waits := (x_g16 (x_g16 (x_g16 (x_g16 (x_g16 (x_g16 (x_g16 (x_g16 (x_g16 (x_g16 (x_g16 (x_g16 (x_g16 (x_g16 (x_g16 (x_g16 (x_g16 (x_g4 (x_g1 x_g0)))))))))))))))))))
theorem t_278 : (x_mt : List xM)[278]? = some M_cX12_openHoles := (x_g16 (x_g16 (x_g16 (x_g16 (x_g16 (x_g16 (x_g16 (x_g16 (x_g16 (x_g16 (x_g16 (x_g16 (x_g16 (x_g16 (x_g16 (x_g16 (x_g16 (x_g4 (x_g1 (x_g1 x_g0))))))))))))))))))))
theorem t_279 : (x_mt : List xM)[279]? = some M_cX12_stepsToAll := (x_g16 (x_g16 (x_g16 (x_g16 (x_g16 (x_g16 (x_g16 (x_g16 (x_g16 (x_g16 (x_g16 (x_g16 (x_g16 (x_g16 (x_g16 (x_g16 (x_g16 (x_g4 (x_g1 (x_g1 (x_g1 x_g0)))))))))))))))))))))
theorem t_280 : (x_mt : List xM)[280]? = some M_cX12_divisor := (x_g16 (x_g16 (x_g16 (x_g16 (x_g16 (x_g16 (x_g16 (x_g16 (x_g16 (x_g16 (x_g16 (x_g16 (x_g16 (x_g16 (x_g16 (x_g16 (x_g16 (x_g4 (x_g4 x_g0)))))))))))))))))))
theorem t_281 : (x_mt : List xM)[281]? = some M_cX12_mean := (x_g16 (x_g16 (x_g16 (x_g16 (x_g16 (x_g16 (x_g16 (x_g16 (x_g16 (x_g16 (x_g16 (x_g16 (x_g16 (x_g16 (x_g16 (x_g16 (x_g16 (x_g4 (x_g4 (x_g1 x_g0))))))))))))))))))))
theorem t_282 : (x_mt : List xM)[282]? = some M_cX12_middle := (x_g16 (x_g16 (x_g16 (x_g16 (x_g16 (x_g16 (x_g16 (x_g16 (x_g16 (x_g16 (x_g16 (x_g16 (x_g16 (x_g16 (x_g16 (x_g16 (x_g16 (x_g4 (x_g4 (x_g1 (x_g1 x_g0)))))))))))))))))))))
theorem t_283 : (x_mt : List xM)[283]? = some M_cX12_reachOf := (x_g16 (x_g16 (x_g16 (x_g16 (x_g16 (x_g16 (x_g16 (x_g16 (x_g16 (x_g16 (x_g16 (x_g16 (x_g16 (x_g16 (x_g16 (x_g16 (x_g16 (x_g4 (x_g4 (x_g1 (x_g1 (x_g1 x_g0))))))))))))))))))))))
theorem t_284 : (x_mt : List xM)[284]? = some M_cX12_reach := (x_g16 (x_g16 (x_g16 (x_g16 (x_g16 (x_g16 (x_g16 (x_g16 (x_g16 (x_g16 (x_g16 (x_g16 (x_g16 (x_g16 (x_g16 (x_g16 (x_g16 (x_g4 (x_g4 (x_g4 x_g0))))))))))))))))))))
theorem t_285 : (x_mt : List xM)[285]? = some M_cX12_bits := (x_g16 (x_g16 (x_g16 (x_g16 (x_g16 (x_g16 (x_g16 (x_g16 (x_g16 (x_g16 (x_g16 (x_g16 (x_g16 (x_g16 (x_g16 (x_g16 (x_g16 (x_g4 (x_g4 (x_g4 (x_g1 x_g0)))))))))))))))))))))
theorem t_286 : (x_mt : List xM)[286]? = some M_cX12_post := (x_g16 (x_g16 (x_g16 (x_g16 (x_g16 (x_g16 (x_g16 (x_g16 (x_g16 (x_g16 (x_g16 (x_g16 (x_g16 (x_g16 (x_g16 (x_g16 (x_g16 (x_g4 (x_g4 (x_g4 (x_g1 (x_g1 x_g0))))))))))))))))))))))
theorem t_287 : (x_mt : List xM)[287]? = some M_cX12_lagging := (x_g16 (x_g16 (x_g16 (x_g16 (x_g16 (x_g16 (x_g16 (x_g16 (x_g16 (x_g16 (x_g16 (x_g16 (x_g16 (x_g16 (x_g16 (x_g16 (x_g16 (x_g4 (x_g4 (x_g4 (x_g1 (x_g1 (x_g1 x_g0)))))))))))))))))))))))
theorem t_288 : (x_mt : List xM)[288]? = some M_cX12_slack := (x_g16 (x_g16 (x_g16 (x_g16 (x_g16 (x_g16 (x_g16 (x_g16 (x_g16 (x_g16 (x_g16 (x_g16 (x_g16 (x_g16 (x_g16 (x_g16 (x_g16 (x_g16 x_g0))))))))))))))))))
theorem t_289 : (x_mt : List xM)[289]? = some M_cX12_isLaw := (x_g16 (x_g16 (x_g16 (x_g16 (x_g16 (x_g16 (x_g16 (x_g16 (x_g16 (x_g16 (x_g16 (x_g16 (x_g16 (x_g16 (x_g16 (x_g16 (x_g16 (x_g16 (x_g1 x_g0)))))))))))))))))))
theorem t_290 : (x_mt : List xM)[290]? = some M_cX12_lets := (x_g16 (x_g16 (x_g16 (x_g16 (x_g16 (x_g16 (x_g16 (x_g16 (x_g16 (x_g16 (x_g16 (x_g16 (x_g16 (x_g16 (x_g16 (x_g16 (x_g16 (x_g16 (x_g1 (x_g1 x_g0))))))))))))))))))))
theorem t_291 : (x_mt : List xM)[291]? = some M_cX12_fillRows := (x_g16 (x_g16 (x_g16 (x_g16 (x_g16 (x_g16 (x_g16 (x_g16 (x_g16 (x_g16 (x_g16 (x_g16 (x_g16 (x_g16 (x_g16 (x_g16 (x_g16 (x_g16 (x_g1 (x_g1 (x_g1 x_g0)))))))))))))))))))))
theorem t_292 : (x_mt : List xM)[292]? = some M_cX12_endingIn := (x_g16 (x_g16 (x_g16 (x_g16 (x_g16 (x_g16 (x_g16 (x_g16 (x_g16 (x_g16 (x_g16 (x_g16 (x_g16 (x_g16 (x_g16 (x_g16 (x_g16 (x_g16 (x_g4 x_g0)))))))))))))))))))
theorem t_293 : (x_mt : List xM)[293]? = some M_cX12_rows := (x_g16 (x_g16 (x_g16 (x_g16 (x_g16 (x_g16 (x_g16 (x_g16 (x_g16 (x_g16 (x_g16 (x_g16 (x_g16 (x_g16 (x_g16 (x_g16 (x_g16 (x_g16 (x_g4 (x_g1 x_g0))))))))))))))))))))
theorem t_294 : (x_mt : List xM)[294]? = some M_cX12_ends := (x_g16 (x_g16 (x_g16 (x_g16 (x_g16 (x_g16 (x_g16 (x_g16 (x_g16 (x_g16 (x_g16 (x_g16 (x_g16 (x_g16 (x_g16 (x_g16 (x_g16 (x_g16 (x_g4 (x_g1 (x_g1 x_g0)))))))))))))))))))))
theorem t_295 : (x_mt : List xM)[295]? = some M_cX12_fair := (x_g16 (x_g16 (x_g16 (x_g16 (x_g16 (x_g16 (x_g16 (x_g16 (x_g16 (x_g16 (x_g16 (x_g16 (x_g16 (x_g16 (x_g16 (x_g16 (x_g16 (x_g16 (x_g4 (x_g1 (x_g1 (x_g1 x_g0))))))))))))))))))))))
theorem t_296 : (x_mt : List xM)[296]? = some M_cX12_holeAt := (x_g16 (x_g16 (x_g16 (x_g16 (x_g16 (x_g16 (x_g16 (x_g16 (x_g16 (x_g16 (x_g16 (x_g16 (x_g16 (x_g16 (x_g16 (x_g16 (x_g16 (x_g16 (x_g4 (x_g4 x_g0))))))))))))))))))))
theorem t_297 : (x_mt : List xM)[297]? = some M_cX12_breaks := (x_g16 (x_g16 (x_g16 (x_g16 (x_g16 (x_g16 (x_g16 (x_g16 (x_g16 (x_g16 (x_g16 (x_g16 (x_g16 (x_g16 (x_g16 (x_g16 (x_g16 (x_g16 (x_g4 (x_g4 (x_g1 x_g0)))))))))))))))))))))
theorem t_298 : (x_mt : List xM)[298]? = some M_cX12_numberAt := (x_g16 (x_g16 (x_g16 (x_g16 (x_g16 (x_g16 (x_g16 (x_g16 (x_g16 (x_g16 (x_g16 (x_g16 (x_g16 (x_g16 (x_g16 (x_g16 (x_g16 (x_g16 (x_g4 (x_g4 (x_g1 (x_g1 x_g0))))))))))))))))))))))
theorem t_299 : (x_mt : List xM)[299]? = some M_cX12_asksHeard := (x_g16 (x_g16 (x_g16 (x_g16 (x_g16 (x_g16 (x_g16 (x_g16 (x_g16 (x_g16 (x_g16 (x_g16 (x_g16 (x_g16 (x_g16 (x_g16 (x_g16 (x_g16 (x_g4 (x_g4 (x_g1 (x_g1 (x_g1 x_g0)))))))))))))))))))))))
theorem t_300 : (x_mt : List xM)[300]? = some M_cX12_isPeriod := (x_g16 (x_g16 (x_g16 (x_g16 (x_g16 (x_g16 (x_g16 (x_g16 (x_g16 (x_g16 (x_g16 (x_g16 (x_g16 (x_g16 (x_g16 (x_g16 (x_g16 (x_g16 (x_g4 (x_g4 (x_g4 x_g0)))))))))))))))))))))
theorem t_301 : (x_mt : List xM)[301]? = some M_cX12_leastPeriod := (x_g16 (x_g16 (x_g16 (x_g16 (x_g16 (x_g16 (x_g16 (x_g16 (x_g16 (x_g16 (x_g16 (x_g16 (x_g16 (x_g16 (x_g16 (x_g16 (x_g16 (x_g16 (x_g4 (x_g4 (x_g4 (x_g1 x_g0))))))))))))))))))))))
theorem t_302 : (x_mt : List xM)[302]? = some M_cX12_period := (x_g16 (x_g16 (x_g16 (x_g16 (x_g16 (x_g16 (x_g16 (x_g16 (x_g16 (x_g16 (x_g16 (x_g16 (x_g16 (x_g16 (x_g16 (x_g16 (x_g16 (x_g16 (x_g4 (x_g4 (x_g4 (x_g1 (x_g1 x_g0)))))))))))))))))))))))
theorem t_303 : (x_mt : List xM)[303]? = some M_cX12_periods := (x_g16 (x_g16 (x_g16 (x_g16 (x_g16 (x_g16 (x_g16 (x_g16 (x_g16 (x_g16 (x_g16 (x_g16 (x_g16 (x_g16 (x_g16 (x_g16 (x_g16 (x_g16 (x_g4 (x_g4 (x_g4 (x_g1 (x_g1 (x_g1 x_g0))))))))))))))))))))))))
theorem t_304 : (x_mt : List xM)[304]? = some M_cX12_luck := (x_g16 (x_g16 (x_g16 (x_g16 (x_g16 (x_g16 (x_g16 (x_g16 (x_g16 (x_g16 (x_g16 (x_g16 (x_g16 (x_g16 (x_g16 (x_g16 (x_g16 (x_g16 (x_g16 x_g0)))))))))))))))))))
theorem t_305 : (x_mt : List xM)[305]? = some M_cX12_fitsFrom := (x_g16 (x_g16 (x_g16 (x_g16 (x_g16 (x_g16 (x_g16 (x_g16 (x_g16 (x_g16 (x_g16 (x_g16 (x_g16 (x_g16 (x_g16 (x_g16 (x_g16 (x_g16 (x_g16 (x_g1 x_g0))))))))))))))))))))
theorem t_306 : (x_mt : List xM)[306]? = some M_cX12_fits := (x_g16 (x_g16 (x_g16 (x_g16 (x_g16 (x_g16 (x_g16 (x_g16 (x_g16 (x_g16 (x_g16 (x_g16 (x_g16 (x_g16 (x_g16 (x_g16 (x_g16 (x_g16 (x_g16 (x_g1 (x_g1 x_g0)))))))))))))))))))))
theorem t_307 : (x_mt : List xM)[307]? = some M_cX12_place := (x_g16 (x_g16 (x_g16 (x_g16 (x_g16 (x_g16 (x_g16 (x_g16 (x_g16 (x_g16 (x_g16 (x_g16 (x_g16 (x_g16 (x_g16 (x_g16 (x_g16 (x_g16 (x_g16 (x_g1 (x_g1 (x_g1 x_g0))))))))))))))))))))))
theorem t_308 : (x_mt : List xM)[308]? = some M_cX12_next := (x_g16 (x_g16 (x_g16 (x_g16 (x_g16 (x_g16 (x_g16 (x_g16 (x_g16 (x_g16 (x_g16 (x_g16 (x_g16 (x_g16 (x_g16 (x_g16 (x_g16 (x_g16 (x_g16 (x_g4 x_g0))))))))))))))))))))
theorem t_309 : (x_mt : List xM)[309]? = some M_cX12_goesAlike := (x_g16 (x_g16 (x_g16 (x_g16 (x_g16 (x_g16 (x_g16 (x_g16 (x_g16 (x_g16 (x_g16 (x_g16 (x_g16 (x_g16 (x_g16 (x_g16 (x_g16 (x_g16 (x_g16 (x_g4 (x_g1 x_g0)))))))))))))))))))))
theorem t_310 : (x_mt : List xM)[310]? = some M_cX12_neededFrom := (x_g16 (x_g16 (x_g16 (x_g16 (x_g16 (x_g16 (x_g16 (x_g16 (x_g16 (x_g16 (x_g16 (x_g16 (x_g16 (x_g16 (x_g16 (x_g16 (x_g16 (x_g16 (x_g16 (x_g4 (x_g1 (x_g1 x_g0))))))))))))))))))))))
theorem t_311 : (x_mt : List xM)[311]? = some M_cX12_needed := (x_g16 (x_g16 (x_g16 (x_g16 (x_g16 (x_g16 (x_g16 (x_g16 (x_g16 (x_g16 (x_g16 (x_g16 (x_g16 (x_g16 (x_g16 (x_g16 (x_g16 (x_g16 (x_g16 (x_g4 (x_g1 (x_g1 (x_g1 x_g0)))))))))))))))))))))))
theorem t_312 : (x_mt : List xM)[312]? = some M_cX12_known := (x_g16 (x_g16 (x_g16 (x_g16 (x_g16 (x_g16 (x_g16 (x_g16 (x_g16 (x_g16 (x_g16 (x_g16 (x_g16 (x_g16 (x_g16 (x_g16 (x_g16 (x_g16 (x_g16 (x_g4 (x_g4 x_g0)))))))))))))))))))))
theorem t_313 : (x_mt : List xM)[313]? = some M_cX12_rashOf := (x_g16 (x_g16 (x_g16 (x_g16 (x_g16 (x_g16 (x_g16 (x_g16 (x_g16 (x_g16 (x_g16 (x_g16 (x_g16 (x_g16 (x_g16 (x_g16 (x_g16 (x_g16 (x_g16 (x_g4 (x_g4 (x_g1 x_g0))))))))))))))))))))))
theorem t_314 : (x_mt : List xM)[314]? = some M_cX12_rash := (x_g16 (x_g16 (x_g16 (x_g16 (x_g16 (x_g16 (x_g16 (x_g16 (x_g16 (x_g16 (x_g16 (x_g16 (x_g16 (x_g16 (x_g16 (x_g16 (x_g16 (x_g16 (x_g16 (x_g4 (x_g4 (x_g1 (x_g1 x_g0)))))))))))))))))))))))
theorem t_315 : (x_mt : List xM)[315]? = some M_cX12_lookOf := (x_g16 (x_g16 (x_g16 (x_g16 (x_g16 (x_g16 (x_g16 (x_g16 (x_g16 (x_g16 (x_g16 (x_g16 (x_g16 (x_g16 (x_g16 (x_g16 (x_g16 (x_g16 (x_g16 (x_g4 (x_g4 (x_g1 (x_g1 (x_g1 x_g0))))))))))))))))))))))))
theorem t_316 : (x_mt : List xM)[316]? = some M_cX12_look := (x_g16 (x_g16 (x_g16 (x_g16 (x_g16 (x_g16 (x_g16 (x_g16 (x_g16 (x_g16 (x_g16 (x_g16 (x_g16 (x_g16 (x_g16 (x_g16 (x_g16 (x_g16 (x_g16 (x_g4 (x_g4 (x_g4 x_g0))))))))))))))))))))))
theorem t_317 : (x_mt : List xM)[317]? = some M_cX12_line := (x_g16 (x_g16 (x_g16 (x_g16 (x_g16 (x_g16 (x_g16 (x_g16 (x_g16 (x_g16 (x_g16 (x_g16 (x_g16 (x_g16 (x_g16 (x_g16 (x_g16 (x_g16 (x_g16 (x_g4 (x_g4 (x_g4 (x_g1 x_g0)))))))))))))))))))))))
theorem t_318 : (x_mt : List xM)[318]? = some M_cX12_hitsOn := (x_g16 (x_g16 (x_g16 (x_g16 (x_g16 (x_g16 (x_g16 (x_g16 (x_g16 (x_g16 (x_g16 (x_g16 (x_g16 (x_g16 (x_g16 (x_g16 (x_g16 (x_g16 (x_g16 (x_g4 (x_g4 (x_g4 (x_g1 (x_g1 x_g0))))))))))))))))))))))))
theorem t_319 : (x_mt : List xM)[319]? = some M_cX12_two := (x_g16 (x_g16 (x_g16 (x_g16 (x_g16 (x_g16 (x_g16 (x_g16 (x_g16 (x_g16 (x_g16 (x_g16 (x_g16 (x_g16 (x_g16 (x_g16 (x_g16 (x_g16 (x_g16 (x_g4 (x_g4 (x_g4 (x_g1 (x_g1 (x_g1 x_g0)))))))))))))))))))))))))
theorem t_320 : (x_mt : List xM)[320]? = some M_cX12_ticketsOf := (x_g16 (x_g16 (x_g16 (x_g16 (x_g16 (x_g16 (x_g16 (x_g16 (x_g16 (x_g16 (x_g16 (x_g16 (x_g16 (x_g16 (x_g16 (x_g16 (x_g16 (x_g16 (x_g16 (x_g16 x_g0))))))))))))))))))))
theorem t_321 : (x_mt : List xM)[321]? = some M_cX12_tickets := (x_g16 (x_g16 (x_g16 (x_g16 (x_g16 (x_g16 (x_g16 (x_g16 (x_g16 (x_g16 (x_g16 (x_g16 (x_g16 (x_g16 (x_g16 (x_g16 (x_g16 (x_g16 (x_g16 (x_g16 (x_g1 x_g0)))))))))))))))))))))
theorem t_322 : (x_mt : List xM)[322]? = some M_cX12_prize := (x_g16 (x_g16 (x_g16 (x_g16 (x_g16 (x_g16 (x_g16 (x_g16 (x_g16 (x_g16 (x_g16 (x_g16 (x_g16 (x_g16 (x_g16 (x_g16 (x_g16 (x_g16 (x_g16 (x_g16 (x_g1 (x_g1 x_g0))))))))))))))))))))))
theorem t_323 : (x_mt : List xM)[323]? = some M_cX12_asksBlows := (x_g16 (x_g16 (x_g16 (x_g16 (x_g16 (x_g16 (x_g16 (x_g16 (x_g16 (x_g16 (x_g16 (x_g16 (x_g16 (x_g16 (x_g16 (x_g16 (x_g16 (x_g16 (x_g16 (x_g16 (x_g1 (x_g1 (x_g1 x_g0)))))))))))))))))))))))
theorem t_324 : (x_mt : List xM)[324]? = some M_cX12_strike := (x_g16 (x_g16 (x_g16 (x_g16 (x_g16 (x_g16 (x_g16 (x_g16 (x_g16 (x_g16 (x_g16 (x_g16 (x_g16 (x_g16 (x_g16 (x_g16 (x_g16 (x_g16 (x_g16 (x_g16 (x_g4 x_g0)))))))))))))))))))))
theorem t_325 : (x_mt : List xM)[325]? = some M_cX12_layBlows := (x_g16 (x_g16 (x_g16 (x_g16 (x_g16 (x_g16 (x_g16 (x_g16 (x_g16 (x_g16 (x_g16 (x_g16 (x_g16 (x_g16 (x_g16 (x_g16 (x_g16 (x_g16 (x_g16 (x_g16 (x_g4 (x_g1 x_g0))))))))))))))))))))))
theorem t_326 : (x_mt : List xM)[326]? = some M_cX12_counted := (x_g16 (x_g16 (x_g16 (x_g16 (x_g16 (x_g16 (x_g16 (x_g16 (x_g16 (x_g16 (x_g16 (x_g16 (x_g16 (x_g16 (x_g16 (x_g16 (x_g16 (x_g16 (x_g16 (x_g16 (x_g4 (x_g1 (x_g1 x_g0)))))))))))))))))))))))
theorem t_327 : (x_mt : List xM)[327]? = some M_cX12_scored := (x_g16 (x_g16 (x_g16 (x_g16 (x_g16 (x_g16 (x_g16 (x_g16 (x_g16 (x_g16 (x_g16 (x_g16 (x_g16 (x_g16 (x_g16 (x_g16 (x_g16 (x_g16 (x_g16 (x_g16 (x_g4 (x_g1 (x_g1 (x_g1 x_g0))))))))))))))))))))))))
theorem t_328 : (x_mt : List xM)[328]? = some M_cX12_early := (x_g16 (x_g16 (x_g16 (x_g16 (x_g16 (x_g16 (x_g16 (x_g16 (x_g16 (x_g16 (x_g16 (x_g16 (x_g16 (x_g16 (x_g16 (x_g16 (x_g16 (x_g16 (x_g16 (x_g16 (x_g4 (x_g4 x_g0))))))))))))))))))))))
theorem t_329 : (x_mt : List xM)[329]? = some M_cX12_oftenOf := (x_g16 (x_g16 (x_g16 (x_g16 (x_g16 (x_g16 (x_g16 (x_g16 (x_g16 (x_g16 (x_g16 (x_g16 (x_g16 (x_g16 (x_g16 (x_g16 (x_g16 (x_g16 (x_g16 (x_g16 (x_g4 (x_g4 (x_g1 x_g0)))))))))))))))))))))))
theorem t_330 : (x_mt : List xM)[330]? = some M_cX12_often := (x_g16 (x_g16 (x_g16 (x_g16 (x_g16 (x_g16 (x_g16 (x_g16 (x_g16 (x_g16 (x_g16 (x_g16 (x_g16 (x_g16 (x_g16 (x_g16 (x_g16 (x_g16 (x_g16 (x_g16 (x_g4 (x_g4 (x_g1 (x_g1 x_g0))))))))))))))))))))))))
theorem t_331 : (x_mt : List xM)[331]? = some M_cX12_balance := (x_g16 (x_g16 (x_g16 (x_g16 (x_g16 (x_g16 (x_g16 (x_g16 (x_g16 (x_g16 (x_g16 (x_g16 (x_g16 (x_g16 (x_g16 (x_g16 (x_g16 (x_g16 (x_g16 (x_g16 (x_g4 (x_g4 (x_g1 (x_g1 (x_g1 x_g0)))))))))))))))))))))))))
theorem t_332 : (x_mt : List xM)[332]? = some M_cX12_pathOf := (x_g16 (x_g16 (x_g16 (x_g16 (x_g16 (x_g16 (x_g16 (x_g16 (x_g16 (x_g16 (x_g16 (x_g16 (x_g16 (x_g16 (x_g16 (x_g16 (x_g16 (x_g16 (x_g16 (x_g16 (x_g4 (x_g4 (x_g4 x_g0)))))))))))))))))))))))
theorem t_333 : (x_mt : List xM)[333]? = some M_cX12_path := (x_g16 (x_g16 (x_g16 (x_g16 (x_g16 (x_g16 (x_g16 (x_g16 (x_g16 (x_g16 (x_g16 (x_g16 (x_g16 (x_g16 (x_g16 (x_g16 (x_g16 (x_g16 (x_g16 (x_g16 (x_g4 (x_g4 (x_g4 (x_g1 x_g0))))))))))))))))))))))))
theorem t_334 : (x_mt : List xM)[334]? = some M_cX12_trade := (x_g16 (x_g16 (x_g16 (x_g16 (x_g16 (x_g16 (x_g16 (x_g16 (x_g16 (x_g16 (x_g16 (x_g16 (x_g16 (x_g16 (x_g16 (x_g16 (x_g16 (x_g16 (x_g16 (x_g16 (x_g4 (x_g4 (x_g4 (x_g1 (x_g1 x_g0)))))))))))))))))))))))))
theorem t_335 : (x_mt : List xM)[335]? = some M_cX12_better := (x_g16 (x_g16 (x_g16 (x_g16 (x_g16 (x_g16 (x_g16 (x_g16 (x_g16 (x_g16 (x_g16 (x_g16 (x_g16 (x_g16 (x_g16 (x_g16 (x_g16 (x_g16 (x_g16 (x_g16 (x_g4 (x_g4 (x_g4 (x_g1 (x_g1 (x_g1 x_g0))))))))))))))))))))))))))
theorem t_336 : (x_mt : List xM)[336]? = some M_cX12_swap := (x_g16 (x_g16 (x_g16 (x_g16 (x_g16 (x_g16 (x_g16 (x_g16 (x_g16 (x_g16 (x_g16 (x_g16 (x_g16 (x_g16 (x_g16 (x_g16 (x_g16 (x_g16 (x_g16 (x_g16 (x_g16 x_g0)))))))))))))))))))))
theorem t_337 : (x_mt : List xM)[337]? = some M_cX12_paint := (x_g16 (x_g16 (x_g16 (x_g16 (x_g16 (x_g16 (x_g16 (x_g16 (x_g16 (x_g16 (x_g16 (x_g16 (x_g16 (x_g16 (x_g16 (x_g16 (x_g16 (x_g16 (x_g16 (x_g16 (x_g16 (x_g1 x_g0))))))))))))))))))))))
theorem t_338 : (x_mt : List xM)[338]? = some M_cX12_turn := (x_g16 (x_g16 (x_g16 (x_g16 (x_g16 (x_g16 (x_g16 (x_g16 (x_g16 (x_g16 (x_g16 (x_g16 (x_g16 (x_g16 (x_g16 (x_g16 (x_g16 (x_g16 (x_g16 (x_g16 (x_g16 (x_g1 (x_g1 x_g0)))))))))))))))))))))))
theorem t_339 : (x_mt : List xM)[339]? = some M_cX12_lucky := (x_g16 (x_g16 (x_g16 (x_g16 (x_g16 (x_g16 (x_g16 (x_g16 (x_g16 (x_g16 (x_g16 (x_g16 (x_g16 (x_g16 (x_g16 (x_g16 (x_g16 (x_g16 (x_g16 (x_g16 (x_g16 (x_g1 (x_g1 (x_g1 x_g0))))))))))))))))))))))))
theorem t_340 : (x_mt : List xM)[340]? = some M_cX12_shut := (x_g16 (x_g16 (x_g16 (x_g16 (x_g16 (x_g16 (x_g16 (x_g16 (x_g16 (x_g16 (x_g16 (x_g16 (x_g16 (x_g16 (x_g16 (x_g16 (x_g16 (x_g16 (x_g16 (x_g16 (x_g16 (x_g4 x_g0))))))))))))))))))))))
theorem t_341 : (x_mt : List xM)[341]? = some M_cX12_train := (x_g16 (x_g16 (x_g16 (x_g16 (x_g16 (x_g16 (x_g16 (x_g16 (x_g16 (x_g16 (x_g16 (x_g16 (x_g16 (x_g16 (x_g16 (x_g16 (x_g16 (x_g16 (x_g16 (x_g16 (x_g16 (x_g4 (x_g1 x_g0)))))))))))))))))))))))
theorem t_342 : (x_mt : List xM)[342]? = some M_cX12_draw := (x_g16 (x_g16 (x_g16 (x_g16 (x_g16 (x_g16 (x_g16 (x_g16 (x_g16 (x_g16 (x_g16 (x_g16 (x_g16 (x_g16 (x_g16 (x_g16 (x_g16 (x_g16 (x_g16 (x_g16 (x_g16 (x_g4 (x_g1 (x_g1 x_g0))))))))))))))))))))))))
theorem t_343 : (x_mt : List xM)[343]? = some M_cX12_holeByLot := (x_g16 (x_g16 (x_g16 (x_g16 (x_g16 (x_g16 (x_g16 (x_g16 (x_g16 (x_g16 (x_g16 (x_g16 (x_g16 (x_g16 (x_g16 (x_g16 (x_g16 (x_g16 (x_g16 (x_g16 (x_g16 (x_g4 (x_g1 (x_g1 (x_g1 x_g0)))))))))))))))))))))))))
theorem t_344 : (x_mt : List xM)[344]? = some M_cX12_layNight := (x_g16 (x_g16 (x_g16 (x_g16 (x_g16 (x_g16 (x_g16 (x_g16 (x_g16 (x_g16 (x_g16 (x_g16 (x_g16 (x_g16 (x_g16 (x_g16 (x_g16 (x_g16 (x_g16 (x_g16 (x_g16 (x_g4 (x_g4 x_g0)))))))))))))))))))))))
theorem t_345 : (x_mt : List xM)[345]? = some M_cX12_isSeed := (x_g16 (x_g16 (x_g16 (x_g16 (x_g16 (x_g16 (x_g16 (x_g16 (x_g16 (x_g16 (x_g16 (x_g16 (x_g16 (x_g16 (x_g16 (x_g16 (x_g16 (x_g16 (x_g16 (x_g16 (x_g16 (x_g4 (x_g4 (x_g1 x_g0))))))))))))))))))))))))
theorem t_346 : (x_mt : List xM)[346]? = some M_cX12_drawn := (x_g16 (x_g16 (x_g16 (x_g16 (x_g16 (x_g16 (x_g16 (x_g16 (x_g16 (x_g16 (x_g16 (x_g16 (x_g16 (x_g16 (x_g16 (x_g16 (x_g16 (x_g16 (x_g16 (x_g16 (x_g16 (x_g4 (x_g4 (x_g1 (x_g1 x_g0)))))))))))))))))))))))))
theorem t_347 : (x_mt : List xM)[347]? = some M_cX12_nightOf := (x_g16 (x_g16 (x_g16 (x_g16 (x_g16 (x_g16 (x_g16 (x_g16 (x_g16 (x_g16 (x_g16 (x_g16 (x_g16 (x_g16 (x_g16 (x_g16 (x_g16 (x_g16 (x_g16 (x_g16 (x_g16 (x_g4 (x_g4 (x_g1 (x_g1 (x_g1 x_g0))))))))))))))))))))))))))
theorem t_348 : (x_mt : List xM)[348]? = some M_cX12_night := (x_g16 (x_g16 (x_g16 (x_g16 (x_g16 (x_g16 (x_g16 (x_g16 (x_g16 (x_g16 (x_g16 (x_g16 (x_g16 (x_g16 (x_g16 (x_g16 (x_g16 (x_g16 (x_g16 (x_g16 (x_g16 (x_g4 (x_g4 (x_g4 x_g0))))))))))))))))))))))))
theorem t_349 : (x_mt : List xM)[349]? = some M_cX12_years := (x_g16 (x_g16 (x_g16 (x_g16 (x_g16 (x_g16 (x_g16 (x_g16 (x_g16 (x_g16 (x_g16 (x_g16 (x_g16 (x_g16 (x_g16 (x_g16 (x_g16 (x_g16 (x_g16 (x_g16 (x_g16 (x_g4 (x_g4 (x_g4 (x_g1 x_g0)))))))))))))))))))))))))
theorem t_350 : (x_mt : List xM)[350]? = some M_cX12_count := (x_g16 (x_g16 (x_g16 (x_g16 (x_g16 (x_g16 (x_g16 (x_g16 (x_g16 (x_g16 (x_g16 (x_g16 (x_g16 (x_g16 (x_g16 (x_g16 (x_g16 (x_g16 (x_g16 (x_g16 (x_g16 (x_g4 (x_g4 (x_g4 (x_g1 (x_g1 x_g0))))))))))))))))))))))))))
theorem t_351 : (x_mt : List xM)[351]? = some M_cX12_isSlot := (x_g16 (x_g16 (x_g16 (x_g16 (x_g16 (x_g16 (x_g16 (x_g16 (x_g16 (x_g16 (x_g16 (x_g16 (x_g16 (x_g16 (x_g16 (x_g16 (x_g16 (x_g16 (x_g16 (x_g16 (x_g16 (x_g4 (x_g4 (x_g4 (x_g1 (x_g1 (x_g1 x_g0)))))))))))))))))))))))))))
theorem t_352 : (x_mt : List xM)[352]? = some M_cX12_cut := (x_g16 (x_g16 (x_g16 (x_g16 (x_g16 (x_g16 (x_g16 (x_g16 (x_g16 (x_g16 (x_g16 (x_g16 (x_g16 (x_g16 (x_g16 (x_g16 (x_g16 (x_g16 (x_g16 (x_g16 (x_g16 (x_g16 x_g0))))))))))))))))))))))
theorem t_353 : (x_mt : List xM)[353]? = some M_cX12_row := (x_g16 (x_g16 (x_g16 (x_g16 (x_g16 (x_g16 (x_g16 (x_g16 (x_g16 (x_g16 (x_g16 (x_g16 (x_g16 (x_g16 (x_g16 (x_g16 (x_g16 (x_g16 (x_g16 (x_g16 (x_g16 (x_g16 (x_g1 x_g0)))))))))))))))))))))))
theorem t_354 : (x_mt : List xM)[354]? = some M_cX12_write := (x_g16 (x_g16 (x_g16 (x_g16 (x_g16 (x_g16 (x_g16 (x_g16 (x_g16 (x_g16 (x_g16 (x_g16 (x_g16 (x_g16 (x_g16 (x_g16 (x_g16 (x_g16 (x_g16 (x_g16 (x_g16 (x_g16 (x_g1 (x_g1 x_g0))))))))))))))))))))))))
theorem t_355 : (x_mt : List xM)[355]? = some M_cX12_paste := (x_g16 (x_g16 (x_g16 (x_g16 (x_g16 (x_g16 (x_g16 (x_g16 (x_g16 (x_g16 (x_g16 (x_g16 (x_g16 (x_g16 (x_g16 (x_g16 (x_g16 (x_g16 (x_g16 (x_g16 (x_g16 (x_g16 (x_g1 (x_g1 (x_g1 x_g0)))))))))))))))))))))))))
theorem t_356 : (x_mt : List xM)[356]? = some M_cJ6_bitCount_0f7a4 := (x_g16 (x_g16 (x_g16 (x_g16 (x_g16 (x_g16 (x_g16 (x_g16 (x_g16 (x_g16 (x_g16 (x_g16 (x_g16 (x_g16 (x_g16 (x_g16 (x_g16 (x_g16 (x_g16 (x_g16 (x_g16 (x_g16 (x_g4 x_g0)))))))))))))))))))))))
theorem t_357 : (x_mt : List xM)[357]? = some M_cJ9_floorMod_7cf53 := (x_g16 (x_g16 (x_g16 (x_g16 (x_g16 (x_g16 (x_g16 (x_g16 (x_g16 (x_g16 (x_g16 (x_g16 (x_g16 (x_g16 (x_g16 (x_g16 (x_g16 (x_g16 (x_g16 (x_g16 (x_g16 (x_g16 (x_g4 (x_g1 x_g0))))))))))))))))))))))))
noncomputable def p_X10_put_3 (l1 : Int32) : Nat → Int32 → j_G → Option j_G
  | 0, _, _ => none
  | n + 1, l2, σ =>
    if (¬ l2 < 0) ∧ ((σ.1 19 0) < (1200 : Int32)) then (j_ix (σ.1 19 0) 1200 (
    j_lt (j_si σ 20 ((σ.1 19 0)).toNatClampNeg (vp_nar .byte ((l1 >>> (l2 &&& 31))).toInt8.toInt32)) fun σ1 =>
    j_lt (j_si σ1 19 0 ((σ1.1 19 0) + (1 : Int32))) fun σ2 =>
    p_X10_put_3 l1 n (l2 + (-8 : Int32)) σ2)) else (some σ)

noncomputable def f_X10_put (l1 : Int32) (σ : j_G) : Option j_G :=
  j_b1 (p_X10_put_3 l1 j_F (24 : Int32) σ) fun σ1 =>
  some σ1
theorem l_X10_put_3 {d : Nat} (hd : 0 ≤ d) (τ : j_G) (l1 : Int32) : ∀ (n : Nat) (l2 : Int32) (σ : j_G), j_J true τ M_cX10_put d 3 [some (.ref 19), some (.int l1), some (.int l2)] [] σ (p_X10_put_3 l1 n l2 σ) (fun r Q => j_Tr true τ M_cX10_put d 46 [none, none, none] [] r Q) := by
  intro n
  induction n with
  | zero => intro l2 σ; exact j_none
  | succ n ih =>
    intro l2 σ
    unfold p_X10_put_3
    refine j_iload_n (pc' := 4) rfl rfl rfl ?_
    refine j_two (pT := 17) (pF := 46) (L1 := [some (.ref 19), some (.int l1), some (.int l2)]) (st1 := []) (fun o kT kF => ?_) (fun h1 => ?_) (fun h1 => ?_)
    · refine j_iflt (t := 46) (pc' := 7) rfl rfl rfl (fun h2 => ?_) (fun h2 => ?_)
      · exact kF (fun z => z.1 h2)
      · refine j_aload_n (pc' := 8) rfl rfl rfl ?_
        refine j_gfi (pc' := 11) rfl rfl j_a19 rfl ?_
        refine j_sipush (pc' := 14) (x := (1200 : Int32)) rfl rfl rfl ?_
        refine j_icge (t := 46) (pc' := 17) rfl rfl rfl (fun h3 => ?_) (fun h3 => ?_)
        · exact kF (fun z => (h3) z.2)
        · exact kT (⟨h2, h3⟩)
    · refine j_aload_n (pc' := 18) rfl rfl rfl ?_
      refine j_gfr (pc' := 21) (x := 20) rfl rfl j_a19 rfl rfl ?_
      refine j_aload_n (pc' := 22) rfl rfl rfl ?_
      refine j_gfi (pc' := 25) rfl rfl j_a19 rfl ?_
      refine j_iload_n (pc' := 26) rfl rfl rfl ?_
      refine j_iload_n (pc' := 27) rfl rfl rfl ?_
      refine j_ishr (pc' := 28) rfl rfl ?_
      refine j_i2b (pc' := 29) rfl rfl ?_
      refine j_bast (pc' := 30) rfl rfl j_a20 (fun σ1 => ?_)
      refine j_aload_n (pc' := 31) rfl rfl rfl ?_
      refine j_dup (pc' := 32) rfl rfl rfl ?_
      refine j_gfi (pc' := 35) rfl rfl j_a19 rfl ?_
      refine j_iconst (pc' := 36) (x := (1 : Int32)) rfl rfl rfl ?_
      refine j_iadd (pc' := 37) rfl rfl ?_
      refine j_pfi (pc' := 40) rfl rfl j_a19 rfl rfl (fun σ2 => ?_)
      refine j_iincx (pc' := 43) (y := (-8 : Int32)) (L' := [some (.ref 19), some (.int l1), some (.int (l2 + (-8 : Int32)))]) rfl rfl rfl rfl rfl ?_
      refine j_goto (t := 3) rfl rfl ?_
      exact ih (l2 + (-8 : Int32)) σ2
    · refine j_wk [false, false, false] (L' := [none, none, none]) rfl ?_
      exact j_end (fun _ h => h)

theorem c_X10_put (l1 : Int32) (σ : j_G) : j_K true 0 109 [.ref 19, .int l1] σ (f_X10_put l1 σ) j_Rv := by
  refine j_mkK (M := M_cX10_put) (L := [some (.ref 19), some (.int l1), none]) (m := 1) t_109 rfl (j_rcvO j_a19 rfl) rfl (fun d hd τ => ?_)
  unfold f_X10_put
  refine j_bipush (pc' := 2) (x := (24 : Int32)) rfl rfl rfl ?_
  refine j_istore_n (pc' := 3) (L' := [some (.ref 19), some (.int l1), some (.int (24 : Int32))]) rfl rfl rfl ?_
  refine j_q1 (l_X10_put_3 hd τ l1 j_F (24 : Int32) σ) (fun σ1 => ?_)
  show j_J true τ M_cX10_put d 46 [none, none, none] [] σ1 _ _
  exact j_ret rfl rfl rfl (fun _ h => h)

noncomputable def f_X11_feed (l1 : Int32) (l2 : Int32) (l3 : Int32) (l4 : Int32) (l5 : Int32) (σ : j_G) : Option (Int32 × j_G) :=
  if (1200 : Int32) < ((σ.1 19 0) + (20 : Int32)) then (some ((-1 : Int32), σ)) else (j_b1 (f_X10_put l1 σ) fun σ1 =>
  j_b1 (f_X10_put l2 σ1) fun σ2 =>
  j_b1 (f_X10_put l3 σ2) fun σ3 =>
  j_b1 (f_X10_put l4 σ3) fun σ4 =>
  j_b1 (f_X10_put l5 σ4) fun σ5 =>
  some ((σ5.1 19 0), σ5))
theorem c_X11_feed (l1 : Int32) (l2 : Int32) (l3 : Int32) (l4 : Int32) (l5 : Int32) (σ : j_G) : j_K true 1 112 [.ref 0, .int l1, .int l2, .int l3, .int l4, .int l5] σ (f_X11_feed l1 l2 l3 l4 l5 σ) j_Ri := by
  refine j_mkK (M := M_cX11_feed) (L := [some (.ref 0), some (.int l1), some (.int l2), some (.int l3), some (.int l4), some (.int l5)]) (m := 0) t_112 rfl (j_rcvO j_a0 rfl) rfl (fun d hd τ => ?_)
  unfold f_X11_feed
  refine j_aload_n (pc' := 1) rfl rfl rfl ?_
  refine j_gfr (pc' := 4) (x := 10) rfl rfl j_a0 rfl rfl ?_
  refine j_gfr (pc' := 7) (x := 19) rfl rfl j_a10 rfl rfl ?_
  refine j_gfi (pc' := 10) rfl rfl j_a19 rfl ?_
  refine j_bipush (pc' := 12) (x := (20 : Int32)) rfl rfl rfl ?_
  refine j_iadd (pc' := 13) rfl rfl ?_
  refine j_sipush (pc' := 16) (x := (1200 : Int32)) rfl rfl rfl ?_
  refine j_two (pT := 19) (pF := 21) (L1 := [some (.ref 0), some (.int l1), some (.int l2), some (.int l3), some (.int l4), some (.int l5)]) (st1 := []) (fun o kT kF => ?_) (fun h1 => ?_) (fun h1 => ?_)
  · refine j_icle (t := 21) (pc' := 19) rfl rfl rfl (fun h2 => ?_) (fun h2 => ?_)
    · exact kF h2
    · exact kT h2
  · refine j_iconst (pc' := 20) (x := (-1 : Int32)) rfl rfl rfl ?_
    exact j_ret rfl rfl rfl (fun _ h => h)
  · refine j_aload_n (pc' := 22) rfl rfl rfl ?_
    refine j_gfr (pc' := 25) (x := 10) rfl rfl j_a0 rfl rfl ?_
    refine j_gfr (pc' := 28) (x := 19) rfl rfl j_a10 rfl rfl ?_
    refine j_iload_n (pc' := 29) rfl rfl rfl ?_
    refine j_callRv (pc' := 32) (ai := 109) (vs := [.ref 19, .int l1]) (rest := []) rfl rfl (fun _ _ => rfl) (c_X10_put l1 σ) (j_dd rfl hd) rfl (fun σ1 => ?_)
    refine j_aload_n (pc' := 33) rfl rfl rfl ?_
    refine j_gfr (pc' := 36) (x := 10) rfl rfl j_a0 rfl rfl ?_
    refine j_gfr (pc' := 39) (x := 19) rfl rfl j_a10 rfl rfl ?_
    refine j_iload_n (pc' := 40) rfl rfl rfl ?_
    refine j_callRv (pc' := 43) (ai := 109) (vs := [.ref 19, .int l2]) (rest := []) rfl rfl (fun _ _ => rfl) (c_X10_put l2 σ1) (j_dd rfl hd) rfl (fun σ2 => ?_)
    refine j_aload_n (pc' := 44) rfl rfl rfl ?_
    refine j_gfr (pc' := 47) (x := 10) rfl rfl j_a0 rfl rfl ?_
    refine j_gfr (pc' := 50) (x := 19) rfl rfl j_a10 rfl rfl ?_
    refine j_iload_n (pc' := 51) rfl rfl rfl ?_
    refine j_callRv (pc' := 54) (ai := 109) (vs := [.ref 19, .int l3]) (rest := []) rfl rfl (fun _ _ => rfl) (c_X10_put l3 σ2) (j_dd rfl hd) rfl (fun σ3 => ?_)
    refine j_aload_n (pc' := 55) rfl rfl rfl ?_
    refine j_gfr (pc' := 58) (x := 10) rfl rfl j_a0 rfl rfl ?_
    refine j_gfr (pc' := 61) (x := 19) rfl rfl j_a10 rfl rfl ?_
    refine j_iload (pc' := 63) rfl rfl rfl ?_
    refine j_callRv (pc' := 66) (ai := 109) (vs := [.ref 19, .int l4]) (rest := []) rfl rfl (fun _ _ => rfl) (c_X10_put l4 σ3) (j_dd rfl hd) rfl (fun σ4 => ?_)
    refine j_aload_n (pc' := 67) rfl rfl rfl ?_
    refine j_gfr (pc' := 70) (x := 10) rfl rfl j_a0 rfl rfl ?_
    refine j_gfr (pc' := 73) (x := 19) rfl rfl j_a10 rfl rfl ?_
    refine j_iload (pc' := 75) rfl rfl rfl ?_
    refine j_callRv (pc' := 78) (ai := 109) (vs := [.ref 19, .int l5]) (rest := []) rfl rfl (fun _ _ => rfl) (c_X10_put l5 σ4) (j_dd rfl hd) rfl (fun σ5 => ?_)
    refine j_aload_n (pc' := 79) rfl rfl rfl ?_
    refine j_gfr (pc' := 82) (x := 10) rfl rfl j_a0 rfl rfl ?_
    refine j_gfr (pc' := 85) (x := 19) rfl rfl j_a10 rfl rfl ?_
    refine j_gfi (pc' := 88) rfl rfl j_a19 rfl ?_
    exact j_ret rfl rfl rfl (fun _ h => h)

noncomputable def p_X12_feed_55 : Nat → Int32 → j_G → Option j_G
  | 0, _, _ => none
  | n + 1, l6, σ =>
    if l6 < (20 : Int32) then (if (4 : Int32) = 0 then none else (
    j_ix (l6 / (4 : Int32)) 5 (
    if (4 : Int32) = 0 then none else (
    j_ix ((σ.1 75 5) + l6) 1200 (
    j_lt (j_si σ 79 (((σ.1 75 5) + l6)).toNatClampNeg (vp_nar .byte (((σ.1 80 ((l6 / (4 : Int32))).toNatClampNeg) >>> (((24 : Int32) - ((8 : Int32) * (l6 - l6 / (4 : Int32) * (4 : Int32)))) &&& 31))).toInt8.toInt32)) fun σ1 =>
    p_X12_feed_55 n (l6 + (1 : Int32)) σ1))))) else (some σ)

noncomputable def f_X12_feed (l1 : Int32) (l2 : Int32) (l3 : Int32) (l4 : Int32) (l5 : Int32) (σ : j_G) : Option (Int32 × j_G) :=
  if (1200 : Int32) < ((σ.1 75 5) + (20 : Int32)) then (some ((-1 : Int32), σ)) else (j_ix (0 : Int32) 5 (
  j_lt (j_si σ 80 ((0 : Int32)).toNatClampNeg l1) fun σ1 =>
  j_ix (1 : Int32) 5 (
  j_lt (j_si σ1 80 ((1 : Int32)).toNatClampNeg l2) fun σ2 =>
  j_ix (2 : Int32) 5 (
  j_lt (j_si σ2 80 ((2 : Int32)).toNatClampNeg l3) fun σ3 =>
  j_ix (3 : Int32) 5 (
  j_lt (j_si σ3 80 ((3 : Int32)).toNatClampNeg l4) fun σ4 =>
  j_ix (4 : Int32) 5 (
  j_lt (j_si σ4 80 ((4 : Int32)).toNatClampNeg l5) fun σ5 =>
  j_b1 (p_X12_feed_55 j_F (0 : Int32) σ5) fun σ6 =>
  j_lt (j_si σ6 75 5 ((σ6.1 75 5) + (20 : Int32))) fun σ7 =>
  some ((σ7.1 75 5), σ7)))))))
theorem l_X12_feed_55 {d : Nat} (hd : 0 ≤ d) (τ : j_G) : ∀ (n : Nat) (l6 : Int32) (σ : j_G), j_J false τ M_cX12_feed d 55 [some (.ref 75), none, none, none, none, none, some (.int l6)] [] σ (p_X12_feed_55 n l6 σ) (fun r Q => j_Tr false τ M_cX12_feed d 101 [some (.ref 75), none, none, none, none, none, none] [] r Q) := by
  intro n
  induction n with
  | zero => intro l6 σ; exact j_none
  | succ n ih =>
    intro l6 σ
    unfold p_X12_feed_55
    refine j_iload (pc' := 57) rfl rfl rfl ?_
    refine j_bipush (pc' := 59) (x := (20 : Int32)) rfl rfl rfl ?_
    refine j_two (pT := 62) (pF := 101) (L1 := [some (.ref 75), none, none, none, none, none, some (.int l6)]) (st1 := []) (fun o kT kF => ?_) (fun h1 => ?_) (fun h1 => ?_)
    · refine j_icge (t := 101) (pc' := 62) rfl rfl rfl (fun h2 => ?_) (fun h2 => ?_)
      · exact kF h2
      · exact kT h2
    · refine j_aload_n (pc' := 63) rfl rfl rfl ?_
      refine j_gfr (pc' := 66) (x := 79) rfl rfl j_a75 rfl rfl ?_
      refine j_aload_n (pc' := 67) rfl rfl rfl ?_
      refine j_gfi (pc' := 70) rfl rfl j_a75 rfl ?_
      refine j_iload (pc' := 72) rfl rfl rfl ?_
      refine j_iadd (pc' := 73) rfl rfl ?_
      refine j_aload_n (pc' := 74) rfl rfl rfl ?_
      refine j_gfr (pc' := 77) (x := 80) rfl rfl j_a75 rfl rfl ?_
      refine j_iload (pc' := 79) rfl rfl rfl ?_
      refine j_iconst (pc' := 80) (x := (4 : Int32)) rfl rfl rfl ?_
      refine j_idiv (pc' := 81) rfl rfl ?_
      refine j_iald (pc' := 82) rfl rfl j_a80 ?_
      refine j_bipush (pc' := 84) (x := (24 : Int32)) rfl rfl rfl ?_
      refine j_bipush (pc' := 86) (x := (8 : Int32)) rfl rfl rfl ?_
      refine j_iload (pc' := 88) rfl rfl rfl ?_
      refine j_iconst (pc' := 89) (x := (4 : Int32)) rfl rfl rfl ?_
      refine j_irem (pc' := 90) rfl rfl ?_
      refine j_imul (pc' := 91) rfl rfl ?_
      refine j_isub (pc' := 92) rfl rfl ?_
      refine j_ishr (pc' := 93) rfl rfl ?_
      refine j_i2b (pc' := 94) rfl rfl ?_
      refine j_bast (pc' := 95) rfl rfl j_a79 (fun σ1 => ?_)
      refine j_iincx (pc' := 98) (y := (1 : Int32)) (L' := [some (.ref 75), none, none, none, none, none, some (.int (l6 + (1 : Int32)))]) rfl rfl rfl rfl rfl ?_
      refine j_goto (t := 55) rfl rfl ?_
      exact ih (l6 + (1 : Int32)) σ1
    · refine j_wk [true, true, true, true, true, true, false] (L' := [some (.ref 75), none, none, none, none, none, none]) rfl ?_
      exact j_end (fun _ h => h)

theorem c_X12_feed (l1 : Int32) (l2 : Int32) (l3 : Int32) (l4 : Int32) (l5 : Int32) (σ : j_G) : j_K false 0 208 [.ref 75, .int l1, .int l2, .int l3, .int l4, .int l5] σ (f_X12_feed l1 l2 l3 l4 l5 σ) j_Ri := by
  refine j_mkK (M := M_cX12_feed) (L := [some (.ref 75), some (.int l1), some (.int l2), some (.int l3), some (.int l4), some (.int l5), none]) (m := 1) t_208 rfl (j_rcvO j_a75 rfl) rfl (fun d hd τ => ?_)
  unfold f_X12_feed
  refine j_aload_n (pc' := 1) rfl rfl rfl ?_
  refine j_gfi (pc' := 4) rfl rfl j_a75 rfl ?_
  refine j_bipush (pc' := 6) (x := (20 : Int32)) rfl rfl rfl ?_
  refine j_iadd (pc' := 7) rfl rfl ?_
  refine j_sipush (pc' := 10) (x := (1200 : Int32)) rfl rfl rfl ?_
  refine j_two (pT := 13) (pF := 15) (L1 := [some (.ref 75), some (.int l1), some (.int l2), some (.int l3), some (.int l4), some (.int l5), none]) (st1 := []) (fun o kT kF => ?_) (fun h1 => ?_) (fun h1 => ?_)
  · refine j_icle (t := 15) (pc' := 13) rfl rfl rfl (fun h2 => ?_) (fun h2 => ?_)
    · exact kF h2
    · exact kT h2
  · refine j_iconst (pc' := 14) (x := (-1 : Int32)) rfl rfl rfl ?_
    exact j_ret rfl rfl rfl (fun _ h => h)
  · refine j_aload_n (pc' := 16) rfl rfl rfl ?_
    refine j_gfr (pc' := 19) (x := 80) rfl rfl j_a75 rfl rfl ?_
    refine j_iconst (pc' := 20) (x := (0 : Int32)) rfl rfl rfl ?_
    refine j_iload_n (pc' := 21) rfl rfl rfl ?_
    refine j_iast (pc' := 22) rfl rfl j_a80 (fun σ1 => ?_)
    refine j_aload_n (pc' := 23) rfl rfl rfl ?_
    refine j_gfr (pc' := 26) (x := 80) rfl rfl j_a75 rfl rfl ?_
    refine j_iconst (pc' := 27) (x := (1 : Int32)) rfl rfl rfl ?_
    refine j_iload_n (pc' := 28) rfl rfl rfl ?_
    refine j_iast (pc' := 29) rfl rfl j_a80 (fun σ2 => ?_)
    refine j_aload_n (pc' := 30) rfl rfl rfl ?_
    refine j_gfr (pc' := 33) (x := 80) rfl rfl j_a75 rfl rfl ?_
    refine j_iconst (pc' := 34) (x := (2 : Int32)) rfl rfl rfl ?_
    refine j_iload_n (pc' := 35) rfl rfl rfl ?_
    refine j_iast (pc' := 36) rfl rfl j_a80 (fun σ3 => ?_)
    refine j_aload_n (pc' := 37) rfl rfl rfl ?_
    refine j_gfr (pc' := 40) (x := 80) rfl rfl j_a75 rfl rfl ?_
    refine j_iconst (pc' := 41) (x := (3 : Int32)) rfl rfl rfl ?_
    refine j_iload (pc' := 43) rfl rfl rfl ?_
    refine j_iast (pc' := 44) rfl rfl j_a80 (fun σ4 => ?_)
    refine j_aload_n (pc' := 45) rfl rfl rfl ?_
    refine j_gfr (pc' := 48) (x := 80) rfl rfl j_a75 rfl rfl ?_
    refine j_iconst (pc' := 49) (x := (4 : Int32)) rfl rfl rfl ?_
    refine j_iload (pc' := 51) rfl rfl rfl ?_
    refine j_iast (pc' := 52) rfl rfl j_a80 (fun σ5 => ?_)
    refine j_iconst (pc' := 53) (x := (0 : Int32)) rfl rfl rfl ?_
    refine j_istore (pc' := 55) (L' := [some (.ref 75), some (.int l1), some (.int l2), some (.int l3), some (.int l4), some (.int l5), some (.int (0 : Int32))]) rfl rfl rfl ?_
    refine j_wk [true, false, false, false, false, false, true] (L' := [some (.ref 75), none, none, none, none, none, some (.int (0 : Int32))]) rfl ?_
    refine j_q1 (l_X12_feed_55 hd τ j_F (0 : Int32) σ5) (fun σ6 => ?_)
    show j_J false τ M_cX12_feed d 101 [some (.ref 75), none, none, none, none, none, none] [] σ6 _ _
    refine j_aload_n (pc' := 102) rfl rfl rfl ?_
    refine j_dup (pc' := 103) rfl rfl rfl ?_
    refine j_gfi (pc' := 106) rfl rfl j_a75 rfl ?_
    refine j_bipush (pc' := 108) (x := (20 : Int32)) rfl rfl rfl ?_
    refine j_iadd (pc' := 109) rfl rfl ?_
    refine j_pfi (pc' := 112) rfl rfl j_a75 rfl rfl (fun σ7 => ?_)
    refine j_aload_n (pc' := 113) rfl rfl rfl ?_
    refine j_gfi (pc' := 116) rfl rfl j_a75 rfl ?_
    exact j_ret rfl rfl rfl (fun _ h => h)

noncomputable def f_X11_end (l1 : Int32) (σ : j_G) : Option (Int32 × j_G) :=
  if (l1 < 0) ∨ ((σ.1 19 0) < l1) then (some ((-1 : Int32), σ)) else (j_lt (j_si σ 19 0 l1) fun σ1 =>
  some (l1, σ1))
theorem c_X11_end (l1 : Int32) (σ : j_G) : j_K true 0 113 [.ref 0, .int l1] σ (f_X11_end l1 σ) j_Ri := by
  refine j_mkK (M := M_cX11_end) (L := [some (.ref 0), some (.int l1)]) (m := 0) t_113 rfl (j_rcvO j_a0 rfl) rfl (fun d hd τ => ?_)
  unfold f_X11_end
  refine j_iload_n (pc' := 1) rfl rfl rfl ?_
  refine j_two (pT := 18) (pF := 20) (L1 := [some (.ref 0), some (.int l1)]) (st1 := []) (fun o kT kF => ?_) (fun h1 => ?_) (fun h1 => ?_)
  · refine j_iflt (t := 18) (pc' := 4) rfl rfl rfl (fun h2 => ?_) (fun h2 => ?_)
    · exact kT (Or.inl h2)
    · refine j_iload_n (pc' := 5) rfl rfl rfl ?_
      refine j_aload_n (pc' := 6) rfl rfl rfl ?_
      refine j_gfr (pc' := 9) (x := 10) rfl rfl j_a0 rfl rfl ?_
      refine j_gfr (pc' := 12) (x := 19) rfl rfl j_a10 rfl rfl ?_
      refine j_gfi (pc' := 15) rfl rfl j_a19 rfl ?_
      refine j_icle (t := 20) (pc' := 18) rfl rfl rfl (fun h3 => ?_) (fun h3 => ?_)
      · exact kF (fun z => z.elim h2 (h3))
      · exact kT (Or.inr (h3))
  · refine j_iconst (pc' := 19) (x := (-1 : Int32)) rfl rfl rfl ?_
    exact j_ret rfl rfl rfl (fun _ h => h)
  · refine j_aload_n (pc' := 21) rfl rfl rfl ?_
    refine j_gfr (pc' := 24) (x := 10) rfl rfl j_a0 rfl rfl ?_
    refine j_gfr (pc' := 27) (x := 19) rfl rfl j_a10 rfl rfl ?_
    refine j_iload_n (pc' := 28) rfl rfl rfl ?_
    refine j_pfi (pc' := 31) rfl rfl j_a19 rfl rfl (fun σ1 => ?_)
    refine j_iload_n (pc' := 32) rfl rfl rfl ?_
    exact j_ret rfl rfl rfl (fun _ h => h)

noncomputable def f_X12_in (l0 : Int64) (l2 : Int64) (l4 : Int64) : Int32 :=
  if (¬ l0 < l2) ∧ (¬ l4 < l0) then ((1 : Int32)) else ((0 : Int32))

theorem b_X12_in (l0 : Int64) (l2 : Int64) (l4 : Int64) : f_X12_in l0 l2 l4 = 0 ∨ f_X12_in l0 l2 l4 = 1 := by
  unfold f_X12_in
  repeat' split
  all_goals first | exact Or.inl rfl | exact Or.inr rfl
theorem c_X12_in (l0 : Int64) (l2 : Int64) (l4 : Int64) (σ : j_G) : j_K false 0 196 [.long l0, .long l2, .long l4] σ (some (f_X12_in l0 l2 l4)) (j_Pi σ) := by
  refine j_mkK (M := M_cX12_in) (L := [some (.long l0), none, some (.long l2), none, some (.long l4), none]) (m := 0) t_196 rfl (j_rcvS rfl) rfl (fun d hd τ => ?_)
  unfold f_X12_in
  refine j_lload_n (pc' := 1) rfl rfl rfl ?_
  refine j_lload_n (pc' := 2) rfl rfl rfl ?_
  refine j_lcmp (pc' := 3) rfl rfl ?_
  refine j_twoT (pT := 13) (pF := 17) (L1 := [some (.long l0), none, some (.long l2), none, some (.long l4), none]) (st1 := []) (fun o kT kF => ?_) (fun h1 => ?_) (fun h1 => ?_)
  · refine j_ifltL (t := 17) (pc' := 6) rfl rfl rfl (fun h2 => ?_) (fun h2 => ?_)
    · exact kF (fun z => z.1 h2)
    · refine j_lload_n (pc' := 7) rfl rfl rfl ?_
      refine j_lload (pc' := 9) rfl rfl rfl ?_
      refine j_lcmp (pc' := 10) rfl rfl ?_
      refine j_ifgtL (t := 17) (pc' := 13) rfl rfl rfl (fun h3 => ?_) (fun h3 => ?_)
      · exact kF (fun z => (fun z => z h3) z.2)
      · exact kT (⟨h2, h3⟩)
  · refine j_iconst (pc' := 14) (x := (1 : Int32)) rfl rfl rfl ?_
    refine j_goto (t := 18) rfl rfl ?_
    exact j_ret rfl rfl rfl (fun _ h => h)
  · refine j_iconst (pc' := 18) (x := (0 : Int32)) rfl rfl rfl ?_
    exact j_ret rfl rfl rfl (fun _ h => h)

noncomputable def f_X12_end (l1 : Int32) (σ : j_G) : Option (Int32 × j_G) :=
  if (f_X12_in (l1).toInt64 (0 : Int64) ((σ.1 75 5)).toInt64) = 0 then (some ((-1 : Int32), σ)) else (j_lt (j_si σ 75 5 l1) fun σ1 =>
  some (l1, σ1))
theorem c_X12_end (l1 : Int32) (σ : j_G) : j_K false 1 209 [.ref 75, .int l1] σ (f_X12_end l1 σ) j_Ri := by
  refine j_mkK (M := M_cX12_end) (L := [some (.ref 75), some (.int l1)]) (m := 0) t_209 rfl (j_rcvO j_a75 rfl) rfl (fun d hd τ => ?_)
  unfold f_X12_end
  refine j_iload_n (pc' := 1) rfl rfl rfl ?_
  refine j_i2l (pc' := 2) rfl rfl ?_
  refine j_lconst (pc' := 3) (x := (0 : Int64)) rfl rfl rfl ?_
  refine j_aload_n (pc' := 4) rfl rfl rfl ?_
  refine j_gfi (pc' := 7) rfl rfl j_a75 rfl ?_
  refine j_i2l (pc' := 8) rfl rfl ?_
  refine j_callTi (pc' := 11) (ai := 196) (vs := [.long (l1).toInt64, .long (0 : Int64), .long ((σ.1 75 5)).toInt64]) (rest := []) rfl rfl (fun _ _ => rfl) (c_X12_in (l1).toInt64 (0 : Int64) ((σ.1 75 5)).toInt64 σ) (j_dd rfl hd) rfl ?_
  refine j_two (pT := 14) (pF := 16) (L1 := [some (.ref 75), some (.int l1)]) (st1 := []) (fun o kT kF => ?_) (fun h1 => ?_) (fun h1 => ?_)
  · refine j_ifne (t := 16) (pc' := 14) rfl rfl rfl (fun h2 => ?_) (fun h2 => ?_)
    · exact kF h2
    · exact kT h2
  · refine j_iconst (pc' := 15) (x := (-1 : Int32)) rfl rfl rfl ?_
    exact j_ret rfl rfl rfl (fun _ h => h)
  · refine j_aload_n (pc' := 17) rfl rfl rfl ?_
    refine j_iload_n (pc' := 18) rfl rfl rfl ?_
    refine j_pfi (pc' := 21) rfl rfl j_a75 rfl rfl (fun σ1 => ?_)
    refine j_iload_n (pc' := 22) rfl rfl rfl ?_
    exact j_ret rfl rfl rfl (fun _ h => h)

noncomputable def f_X3_empty (σ : j_G) : Option j_G :=
  j_lt (j_si σ 15 0 (0 : Int32)) fun σ1 =>
  j_lt (j_si σ1 15 1 (0 : Int32)) fun σ2 =>
  some σ2
theorem c_X3_empty (σ : j_G) : j_K true 0 29 [.ref 15] σ (f_X3_empty σ) j_Rv := by
  refine j_mkK (M := M_cX3_empty) (L := [some (.ref 15)]) (m := 0) t_29 rfl (j_rcvO j_a15 rfl) rfl (fun d hd τ => ?_)
  unfold f_X3_empty
  refine j_aload_n (pc' := 1) rfl rfl rfl ?_
  refine j_iconst (pc' := 2) (x := (0 : Int32)) rfl rfl rfl ?_
  refine j_pfi (pc' := 5) rfl rfl j_a15 rfl rfl (fun σ1 => ?_)
  refine j_aload_n (pc' := 6) rfl rfl rfl ?_
  refine j_iconst (pc' := 7) (x := (0 : Int32)) rfl rfl rfl ?_
  refine j_pfi (pc' := 10) rfl rfl j_a15 rfl rfl (fun σ2 => ?_)
  exact j_ret rfl rfl rfl (fun _ h => h)

noncomputable def f_X2_empty (σ : j_G) : Option j_G :=
  j_lt (j_si σ 11 1 (0 : Int32)) fun σ1 =>
  j_lt (j_si σ1 11 2 (0 : Int32)) fun σ2 =>
  j_lt (j_si σ2 11 3 (0 : Int32)) fun σ3 =>
  j_lt (j_si σ3 11 4 (0 : Int32)) fun σ4 =>
  j_lt (j_si σ4 11 5 (0 : Int32)) fun σ5 =>
  j_lt (j_si σ5 11 6 (0 : Int32)) fun σ6 =>
  j_lt (j_si σ6 11 7 (0 : Int32)) fun σ7 =>
  j_lt (j_si σ7 11 8 (1 : Int32)) fun σ8 =>
  j_lt (j_si σ8 11 9 (100 : Int32)) fun σ9 =>
  j_lt (j_si σ9 11 10 (0 : Int32)) fun σ10 =>
  j_b1 (f_X3_empty σ10) fun σ11 =>
  some σ11
theorem c_X2_empty (σ : j_G) : j_K true 1 9 [.ref 11] σ (f_X2_empty σ) j_Rv := by
  refine j_mkK (M := M_cX2_empty) (L := [some (.ref 11)]) (m := 0) t_9 rfl (j_rcvO j_a11 rfl) rfl (fun d hd τ => ?_)
  unfold f_X2_empty
  refine j_aload_n (pc' := 1) rfl rfl rfl ?_
  refine j_iconst (pc' := 2) (x := (0 : Int32)) rfl rfl rfl ?_
  refine j_pfi (pc' := 5) rfl rfl j_a11 rfl rfl (fun σ1 => ?_)
  refine j_aload_n (pc' := 6) rfl rfl rfl ?_
  refine j_iconst (pc' := 7) (x := (0 : Int32)) rfl rfl rfl ?_
  refine j_pfi (pc' := 10) rfl rfl j_a11 rfl rfl (fun σ2 => ?_)
  refine j_aload_n (pc' := 11) rfl rfl rfl ?_
  refine j_iconst (pc' := 12) (x := (0 : Int32)) rfl rfl rfl ?_
  refine j_pfi (pc' := 15) rfl rfl j_a11 rfl rfl (fun σ3 => ?_)
  refine j_aload_n (pc' := 16) rfl rfl rfl ?_
  refine j_iconst (pc' := 17) (x := (0 : Int32)) rfl rfl rfl ?_
  refine j_pfi (pc' := 20) rfl rfl j_a11 rfl rfl (fun σ4 => ?_)
  refine j_aload_n (pc' := 21) rfl rfl rfl ?_
  refine j_iconst (pc' := 22) (x := (0 : Int32)) rfl rfl rfl ?_
  refine j_pfi (pc' := 25) rfl rfl j_a11 rfl rfl (fun σ5 => ?_)
  refine j_aload_n (pc' := 26) rfl rfl rfl ?_
  refine j_iconst (pc' := 27) (x := (0 : Int32)) rfl rfl rfl ?_
  refine j_pfi (pc' := 30) rfl rfl j_a11 rfl rfl (fun σ6 => ?_)
  refine j_aload_n (pc' := 31) rfl rfl rfl ?_
  refine j_iconst (pc' := 32) (x := (0 : Int32)) rfl rfl rfl ?_
  refine j_pfi (pc' := 35) rfl rfl j_a11 rfl rfl (fun σ7 => ?_)
  refine j_aload_n (pc' := 36) rfl rfl rfl ?_
  refine j_iconst (pc' := 37) (x := (1 : Int32)) rfl rfl rfl ?_
  refine j_pfi (pc' := 40) rfl rfl j_a11 rfl rfl (fun σ8 => ?_)
  refine j_aload_n (pc' := 41) rfl rfl rfl ?_
  refine j_bipush (pc' := 43) (x := (100 : Int32)) rfl rfl rfl ?_
  refine j_pfi (pc' := 46) rfl rfl j_a11 rfl rfl (fun σ9 => ?_)
  refine j_aload_n (pc' := 47) rfl rfl rfl ?_
  refine j_iconst (pc' := 48) (x := (0 : Int32)) rfl rfl rfl ?_
  refine j_pfi (pc' := 51) rfl rfl j_a11 rfl rfl (fun σ10 => ?_)
  refine j_aload_n (pc' := 52) rfl rfl rfl ?_
  refine j_gfr (pc' := 55) (x := 15) rfl rfl j_a11 rfl rfl ?_
  refine j_callRv (pc' := 58) (ai := 29) (vs := [.ref 15]) (rest := []) rfl rfl (fun _ _ => rfl) (c_X3_empty  σ10) (j_dd rfl hd) rfl (fun σ11 => ?_)
  exact j_ret rfl rfl rfl (fun _ h => h)

noncomputable def f_X10_at (l1 : Int32) (σ : j_G) : Option Int32 :=
  if (¬ l1 < 0) ∧ (l1 < (σ.1 19 0)) then (j_ix l1 1200 (
  some ((σ.1 20 (l1).toNatClampNeg) &&& (255 : Int32)))) else (some (-1 : Int32))
theorem c_X10_at (l1 : Int32) (σ : j_G) : j_K true 0 110 [.ref 19, .int l1] σ (f_X10_at l1 σ) (j_Pi σ) := by
  refine j_mkK (M := M_cX10_at) (L := [some (.ref 19), some (.int l1)]) (m := 0) t_110 rfl (j_rcvO j_a19 rfl) rfl (fun d hd τ => ?_)
  unfold f_X10_at
  refine j_iload_n (pc' := 1) rfl rfl rfl ?_
  refine j_two (pT := 12) (pF := 25) (L1 := [some (.ref 19), some (.int l1)]) (st1 := []) (fun o kT kF => ?_) (fun h1 => ?_) (fun h1 => ?_)
  · refine j_iflt (t := 25) (pc' := 4) rfl rfl rfl (fun h2 => ?_) (fun h2 => ?_)
    · exact kF (fun z => z.1 h2)
    · refine j_iload_n (pc' := 5) rfl rfl rfl ?_
      refine j_aload_n (pc' := 6) rfl rfl rfl ?_
      refine j_gfi (pc' := 9) rfl rfl j_a19 rfl ?_
      refine j_icge (t := 25) (pc' := 12) rfl rfl rfl (fun h3 => ?_) (fun h3 => ?_)
      · exact kF (fun z => (h3) z.2)
      · exact kT (⟨h2, h3⟩)
  · refine j_aload_n (pc' := 13) rfl rfl rfl ?_
    refine j_gfr (pc' := 16) (x := 20) rfl rfl j_a19 rfl rfl ?_
    refine j_iload_n (pc' := 17) rfl rfl rfl ?_
    refine j_bald (pc' := 18) rfl rfl j_a20 ?_
    refine j_sipush (pc' := 21) (x := (255 : Int32)) rfl rfl rfl ?_
    refine j_iand (pc' := 22) rfl rfl ?_
    refine j_goto (t := 26) rfl rfl ?_
    exact j_ret rfl rfl rfl (fun _ h => h)
  · refine j_iconst (pc' := 26) (x := (-1 : Int32)) rfl rfl rfl ?_
    exact j_ret rfl rfl rfl (fun _ h => h)

noncomputable def f_X7_isBlank (l0 : Int32) : Int32 :=
  if (l0 = (32 : Int32)) ∨ (l0 = (10 : Int32)) then ((1 : Int32)) else ((0 : Int32))

theorem b_X7_isBlank (l0 : Int32) : f_X7_isBlank l0 = 0 ∨ f_X7_isBlank l0 = 1 := by
  unfold f_X7_isBlank
  repeat' split
  all_goals first | exact Or.inl rfl | exact Or.inr rfl
theorem c_X7_isBlank (l0 : Int32) (σ : j_G) : j_K true 0 87 [.int l0] σ (some (f_X7_isBlank l0)) (j_Pi σ) := by
  refine j_mkK (M := M_cX7_isBlank) (L := [some (.int l0)]) (m := 0) t_87 rfl (j_rcvS rfl) rfl (fun d hd τ => ?_)
  unfold f_X7_isBlank
  refine j_iload_n (pc' := 1) rfl rfl rfl ?_
  refine j_bipush (pc' := 3) (x := (32 : Int32)) rfl rfl rfl ?_
  refine j_twoT (pT := 12) (pF := 16) (L1 := [some (.int l0)]) (st1 := []) (fun o kT kF => ?_) (fun h1 => ?_) (fun h1 => ?_)
  · refine j_iceq (t := 12) (pc' := 6) rfl rfl rfl (fun h2 => ?_) (fun h2 => ?_)
    · exact kT (Or.inl h2)
    · refine j_iload_n (pc' := 7) rfl rfl rfl ?_
      refine j_bipush (pc' := 9) (x := (10 : Int32)) rfl rfl rfl ?_
      refine j_icne (t := 16) (pc' := 12) rfl rfl rfl (fun h3 => ?_) (fun h3 => ?_)
      · exact kF (fun z => z.elim h2 (h3))
      · exact kT (Or.inr (h3))
  · refine j_iconst (pc' := 13) (x := (1 : Int32)) rfl rfl rfl ?_
    refine j_goto (t := 17) rfl rfl ?_
    exact j_ret rfl rfl rfl (fun _ h => h)
  · refine j_iconst (pc' := 17) (x := (0 : Int32)) rfl rfl rfl ?_
    exact j_ret rfl rfl rfl (fun _ h => h)

noncomputable def f_X7_isLetter (l0 : Int32) : Int32 :=
  if (¬ l0 < (97 : Int32)) ∧ (¬ (122 : Int32) < l0) then ((1 : Int32)) else ((0 : Int32))

theorem b_X7_isLetter (l0 : Int32) : f_X7_isLetter l0 = 0 ∨ f_X7_isLetter l0 = 1 := by
  unfold f_X7_isLetter
  repeat' split
  all_goals first | exact Or.inl rfl | exact Or.inr rfl
theorem c_X7_isLetter (l0 : Int32) (σ : j_G) : j_K true 0 88 [.int l0] σ (some (f_X7_isLetter l0)) (j_Pi σ) := by
  refine j_mkK (M := M_cX7_isLetter) (L := [some (.int l0)]) (m := 0) t_88 rfl (j_rcvS rfl) rfl (fun d hd τ => ?_)
  unfold f_X7_isLetter
  refine j_iload_n (pc' := 1) rfl rfl rfl ?_
  refine j_bipush (pc' := 3) (x := (97 : Int32)) rfl rfl rfl ?_
  refine j_twoT (pT := 12) (pF := 16) (L1 := [some (.int l0)]) (st1 := []) (fun o kT kF => ?_) (fun h1 => ?_) (fun h1 => ?_)
  · refine j_iclt (t := 16) (pc' := 6) rfl rfl rfl (fun h2 => ?_) (fun h2 => ?_)
    · exact kF (fun z => z.1 h2)
    · refine j_iload_n (pc' := 7) rfl rfl rfl ?_
      refine j_bipush (pc' := 9) (x := (122 : Int32)) rfl rfl rfl ?_
      refine j_icgt (t := 16) (pc' := 12) rfl rfl rfl (fun h3 => ?_) (fun h3 => ?_)
      · exact kF (fun z => (fun z => z h3) z.2)
      · exact kT (⟨h2, h3⟩)
  · refine j_iconst (pc' := 13) (x := (1 : Int32)) rfl rfl rfl ?_
    refine j_goto (t := 17) rfl rfl ?_
    exact j_ret rfl rfl rfl (fun _ h => h)
  · refine j_iconst (pc' := 17) (x := (0 : Int32)) rfl rfl rfl ?_
    exact j_ret rfl rfl rfl (fun _ h => h)

noncomputable def f_X7_isDigit (l0 : Int32) : Int32 :=
  if (¬ l0 < (48 : Int32)) ∧ (¬ (57 : Int32) < l0) then ((1 : Int32)) else ((0 : Int32))

theorem b_X7_isDigit (l0 : Int32) : f_X7_isDigit l0 = 0 ∨ f_X7_isDigit l0 = 1 := by
  unfold f_X7_isDigit
  repeat' split
  all_goals first | exact Or.inl rfl | exact Or.inr rfl
theorem c_X7_isDigit (l0 : Int32) (σ : j_G) : j_K true 0 89 [.int l0] σ (some (f_X7_isDigit l0)) (j_Pi σ) := by
  refine j_mkK (M := M_cX7_isDigit) (L := [some (.int l0)]) (m := 0) t_89 rfl (j_rcvS rfl) rfl (fun d hd τ => ?_)
  unfold f_X7_isDigit
  refine j_iload_n (pc' := 1) rfl rfl rfl ?_
  refine j_bipush (pc' := 3) (x := (48 : Int32)) rfl rfl rfl ?_
  refine j_twoT (pT := 12) (pF := 16) (L1 := [some (.int l0)]) (st1 := []) (fun o kT kF => ?_) (fun h1 => ?_) (fun h1 => ?_)
  · refine j_iclt (t := 16) (pc' := 6) rfl rfl rfl (fun h2 => ?_) (fun h2 => ?_)
    · exact kF (fun z => z.1 h2)
    · refine j_iload_n (pc' := 7) rfl rfl rfl ?_
      refine j_bipush (pc' := 9) (x := (57 : Int32)) rfl rfl rfl ?_
      refine j_icgt (t := 16) (pc' := 12) rfl rfl rfl (fun h3 => ?_) (fun h3 => ?_)
      · exact kF (fun z => (fun z => z h3) z.2)
      · exact kT (⟨h2, h3⟩)
  · refine j_iconst (pc' := 13) (x := (1 : Int32)) rfl rfl rfl ?_
    refine j_goto (t := 17) rfl rfl ?_
    exact j_ret rfl rfl rfl (fun _ h => h)
  · refine j_iconst (pc' := 17) (x := (0 : Int32)) rfl rfl rfl ?_
    exact j_ret rfl rfl rfl (fun _ h => h)

noncomputable def p_X7_step_8 : Nat → j_G → Option j_G
  | 0, _ => none
  | n + 1, σ =>
    if (σ.1 10 6) < (σ.1 19 0) then (j_b1 (f_X10_at (σ.1 10 6) σ) fun v1 =>
    if ¬ (f_X7_isBlank v1) = 0 then (j_lt (j_si σ 10 6 ((σ.1 10 6) + (1 : Int32))) fun σ2 =>
    p_X7_step_8 n σ2) else (some σ)) else (some σ)

noncomputable def p_X7_step_102 : Nat → j_G → Option j_G
  | 0, _ => none
  | n + 1, σ =>
    if (σ.1 10 7) < (σ.1 19 0) then (j_b1 (f_X10_at (σ.1 10 7) σ) fun v1 =>
    if ¬ (f_X7_isLetter v1) = 0 then (j_lt (j_si σ 10 7 ((σ.1 10 7) + (1 : Int32))) fun σ2 =>
    p_X7_step_102 n σ2) else (some σ)) else (some σ)

noncomputable def p_X7_step_158 : Nat → j_G → Option j_G
  | 0, _ => none
  | n + 1, σ =>
    if (σ.1 10 7) < (σ.1 19 0) then (j_b1 (f_X10_at (σ.1 10 7) σ) fun v1 =>
    if ¬ (f_X7_isDigit v1) = 0 then (j_b1 (f_X10_at (σ.1 10 7) σ) fun v2 =>
    j_lt (j_si σ 10 8 (if ((((10 : Int32) * (σ.1 10 8)) + v2) - (48 : Int32)) < (1000000 : Int32) then ((((10 : Int32) * (σ.1 10 8)) + v2) - (48 : Int32)) else (1000000 : Int32))) fun σ3 =>
    j_lt (j_si σ3 10 7 ((σ3.1 10 7) + (1 : Int32))) fun σ4 =>
    p_X7_step_158 n σ4) else (some σ)) else (some σ)

noncomputable def f_X7_step (σ : j_G) : Option j_G :=
  j_lt (j_si σ 10 6 (σ.1 10 7)) fun σ1 =>
  j_b1 (p_X7_step_8 j_F σ1) fun σ2 =>
  j_lt (j_si σ2 10 7 (σ2.1 10 6)) fun σ3 =>
  j_lt (j_si σ3 10 8 (0 : Int32)) fun σ4 =>
  j_b1 (f_X10_at (σ4.1 10 6) σ4) fun v5 =>
  if v5 = (-1 : Int32) then (j_lt (j_si σ4 10 5 (1 : Int32)) fun σ6 =>
  some σ6) else (if ¬ (f_X7_isLetter v5) = 0 then (j_lt (j_si σ4 10 5 (2 : Int32)) fun σ7 =>
  j_b1 (p_X7_step_102 j_F σ7) fun σ8 =>
  some σ8) else (if ¬ (f_X7_isDigit v5) = 0 then (j_lt (j_si σ4 10 5 (3 : Int32)) fun σ9 =>
  j_b1 (p_X7_step_158 j_F σ9) fun σ10 =>
  some σ10) else (j_lt (if v5 = (59 : Int32) then ((4 : Int32)) else ((0 : Int32))) fun v11 =>
  j_lt (j_si σ4 10 5 v11) fun σ12 =>
  j_lt (j_si σ12 10 7 ((σ12.1 10 7) + (1 : Int32))) fun σ13 =>
  some σ13)))
theorem l_X7_step_8 {d : Nat} (hd : 1 ≤ d) (τ : j_G) : ∀ (n : Nat) (σ : j_G), j_J true τ M_cX7_step d 8 [some (.ref 10), none] [] σ (p_X7_step_8 n σ) (fun r Q => j_Tr true τ M_cX7_step d 52 [some (.ref 10), none] [] r Q) := by
  intro n
  induction n with
  | zero => intro σ; exact j_none
  | succ n ih =>
    intro σ
    unfold p_X7_step_8
    refine j_aload_n (pc' := 9) rfl rfl rfl ?_
    refine j_gfi (pc' := 12) rfl rfl j_a10 rfl ?_
    refine j_aload_n (pc' := 13) rfl rfl rfl ?_
    refine j_gfr (pc' := 16) (x := 19) rfl rfl j_a10 rfl rfl ?_
    refine j_gfi (pc' := 19) rfl rfl j_a19 rfl ?_
    refine j_two (pT := 22) (pF := 52) (L1 := [some (.ref 10), none]) (st1 := []) (fun o kT kF => ?_) (fun h3 => ?_) (fun h3 => ?_)
    · refine j_icge (t := 52) (pc' := 22) rfl rfl rfl (fun h4 => ?_) (fun h4 => ?_)
      · exact kF h4
      · exact kT h4
    · refine j_aload_n (pc' := 23) rfl rfl rfl ?_
      refine j_gfr (pc' := 26) (x := 19) rfl rfl j_a10 rfl rfl ?_
      refine j_aload_n (pc' := 27) rfl rfl rfl ?_
      refine j_gfi (pc' := 30) rfl rfl j_a10 rfl ?_
      refine j_callPi (pc' := 33) (ai := 110) (vs := [.ref 19, .int (σ.1 10 6)]) (rest := []) rfl rfl (fun _ _ => rfl) (c_X10_at (σ.1 10 6) σ) (j_dd rfl hd) rfl (fun v1 => ?_)
      refine j_callTi (pc' := 36) (ai := 87) (vs := [.int v1]) (rest := []) rfl rfl (fun _ _ => rfl) (c_X7_isBlank v1 σ) (j_dd rfl hd) rfl ?_
      refine j_two (pT := 39) (pF := 52) (L1 := [some (.ref 10), none]) (st1 := []) (fun o kT kF => ?_) (fun h1 => ?_) (fun h1 => ?_)
      · refine j_ifeq (t := 52) (pc' := 39) rfl rfl rfl (fun h2 => ?_) (fun h2 => ?_)
        · exact kF (fun z => z h2)
        · exact kT h2
      · refine j_aload_n (pc' := 40) rfl rfl rfl ?_
        refine j_dup (pc' := 41) rfl rfl rfl ?_
        refine j_gfi (pc' := 44) rfl rfl j_a10 rfl ?_
        refine j_iconst (pc' := 45) (x := (1 : Int32)) rfl rfl rfl ?_
        refine j_iadd (pc' := 46) rfl rfl ?_
        refine j_pfi (pc' := 49) rfl rfl j_a10 rfl rfl (fun σ2 => ?_)
        refine j_goto (t := 8) rfl rfl ?_
        exact ih σ2
      · exact j_end (fun _ h => h)
    · exact j_end (fun _ h => h)

theorem l_X7_step_102 {d : Nat} (hd : 1 ≤ d) (τ : j_G) : ∀ (n : Nat) (σ : j_G), j_J true τ M_cX7_step d 102 [some (.ref 10), none] [] σ (p_X7_step_102 n σ) (fun r Q => j_Tr true τ M_cX7_step d 258 [none, none] [] r Q) := by
  intro n
  induction n with
  | zero => intro σ; exact j_none
  | succ n ih =>
    intro σ
    unfold p_X7_step_102
    refine j_aload_n (pc' := 103) rfl rfl rfl ?_
    refine j_gfi (pc' := 106) rfl rfl j_a10 rfl ?_
    refine j_aload_n (pc' := 107) rfl rfl rfl ?_
    refine j_gfr (pc' := 110) (x := 19) rfl rfl j_a10 rfl rfl ?_
    refine j_gfi (pc' := 113) rfl rfl j_a19 rfl ?_
    refine j_two (pT := 116) (pF := 258) (L1 := [some (.ref 10), none]) (st1 := []) (fun o kT kF => ?_) (fun h3 => ?_) (fun h3 => ?_)
    · refine j_icge (t := 258) (pc' := 116) rfl rfl rfl (fun h4 => ?_) (fun h4 => ?_)
      · exact kF h4
      · exact kT h4
    · refine j_aload_n (pc' := 117) rfl rfl rfl ?_
      refine j_gfr (pc' := 120) (x := 19) rfl rfl j_a10 rfl rfl ?_
      refine j_aload_n (pc' := 121) rfl rfl rfl ?_
      refine j_gfi (pc' := 124) rfl rfl j_a10 rfl ?_
      refine j_callPi (pc' := 127) (ai := 110) (vs := [.ref 19, .int (σ.1 10 7)]) (rest := []) rfl rfl (fun _ _ => rfl) (c_X10_at (σ.1 10 7) σ) (j_dd rfl hd) rfl (fun v1 => ?_)
      refine j_callTi (pc' := 130) (ai := 88) (vs := [.int v1]) (rest := []) rfl rfl (fun _ _ => rfl) (c_X7_isLetter v1 σ) (j_dd rfl hd) rfl ?_
      refine j_two (pT := 133) (pF := 258) (L1 := [some (.ref 10), none]) (st1 := []) (fun o kT kF => ?_) (fun h1 => ?_) (fun h1 => ?_)
      · refine j_ifeq (t := 258) (pc' := 133) rfl rfl rfl (fun h2 => ?_) (fun h2 => ?_)
        · exact kF (fun z => z h2)
        · exact kT h2
      · refine j_aload_n (pc' := 134) rfl rfl rfl ?_
        refine j_dup (pc' := 135) rfl rfl rfl ?_
        refine j_gfi (pc' := 138) rfl rfl j_a10 rfl ?_
        refine j_iconst (pc' := 139) (x := (1 : Int32)) rfl rfl rfl ?_
        refine j_iadd (pc' := 140) rfl rfl ?_
        refine j_pfi (pc' := 143) rfl rfl j_a10 rfl rfl (fun σ2 => ?_)
        refine j_goto (t := 102) rfl rfl ?_
        exact ih σ2
      · refine j_wk [false, true] (L' := [none, none]) rfl ?_
        exact j_end (fun _ h => h)
    · refine j_wk [false, true] (L' := [none, none]) rfl ?_
      exact j_end (fun _ h => h)

theorem l_X7_step_158 {d : Nat} (hd : 1 ≤ d) (τ : j_G) : ∀ (n : Nat) (σ : j_G), j_J true τ M_cX7_step d 158 [some (.ref 10), none] [] σ (p_X7_step_158 n σ) (fun r Q => j_Tr true τ M_cX7_step d 258 [none, none] [] r Q) := by
  intro n
  induction n with
  | zero => intro σ; exact j_none
  | succ n ih =>
    intro σ
    unfold p_X7_step_158
    refine j_aload_n (pc' := 159) rfl rfl rfl ?_
    refine j_gfi (pc' := 162) rfl rfl j_a10 rfl ?_
    refine j_aload_n (pc' := 163) rfl rfl rfl ?_
    refine j_gfr (pc' := 166) (x := 19) rfl rfl j_a10 rfl rfl ?_
    refine j_gfi (pc' := 169) rfl rfl j_a19 rfl ?_
    refine j_two (pT := 172) (pF := 258) (L1 := [some (.ref 10), none]) (st1 := []) (fun o kT kF => ?_) (fun h3 => ?_) (fun h3 => ?_)
    · refine j_icge (t := 258) (pc' := 172) rfl rfl rfl (fun h4 => ?_) (fun h4 => ?_)
      · exact kF h4
      · exact kT h4
    · refine j_aload_n (pc' := 173) rfl rfl rfl ?_
      refine j_gfr (pc' := 176) (x := 19) rfl rfl j_a10 rfl rfl ?_
      refine j_aload_n (pc' := 177) rfl rfl rfl ?_
      refine j_gfi (pc' := 180) rfl rfl j_a10 rfl ?_
      refine j_callPi (pc' := 183) (ai := 110) (vs := [.ref 19, .int (σ.1 10 7)]) (rest := []) rfl rfl (fun _ _ => rfl) (c_X10_at (σ.1 10 7) σ) (j_dd rfl hd) rfl (fun v1 => ?_)
      refine j_callTi (pc' := 186) (ai := 89) (vs := [.int v1]) (rest := []) rfl rfl (fun _ _ => rfl) (c_X7_isDigit v1 σ) (j_dd rfl hd) rfl ?_
      refine j_two (pT := 189) (pF := 258) (L1 := [some (.ref 10), none]) (st1 := []) (fun o kT kF => ?_) (fun h1 => ?_) (fun h1 => ?_)
      · refine j_ifeq (t := 258) (pc' := 189) rfl rfl rfl (fun h2 => ?_) (fun h2 => ?_)
        · exact kF (fun z => z h2)
        · exact kT h2
      · refine j_aload_n (pc' := 190) rfl rfl rfl ?_
        refine j_ldc (pc' := 192) (x := (1000000 : Int32)) rfl rfl rfl rfl ?_
        refine j_bipush (pc' := 194) (x := (10 : Int32)) rfl rfl rfl ?_
        refine j_aload_n (pc' := 195) rfl rfl rfl ?_
        refine j_gfi (pc' := 198) rfl rfl j_a10 rfl ?_
        refine j_imul (pc' := 199) rfl rfl ?_
        refine j_aload_n (pc' := 200) rfl rfl rfl ?_
        refine j_gfr (pc' := 203) (x := 19) rfl rfl j_a10 rfl rfl ?_
        refine j_aload_n (pc' := 204) rfl rfl rfl ?_
        refine j_gfi (pc' := 207) rfl rfl j_a10 rfl ?_
        refine j_callPi (pc' := 210) (ai := 110) (vs := [.ref 19, .int (σ.1 10 7)]) (rest := [.int ((10 : Int32) * (σ.1 10 8)), .int (1000000 : Int32), .ref 10]) rfl rfl (fun _ _ => rfl) (c_X10_at (σ.1 10 7) σ) (j_dd rfl hd) rfl (fun v2 => ?_)
        refine j_iadd (pc' := 211) rfl rfl ?_
        refine j_bipush (pc' := 213) (x := (48 : Int32)) rfl rfl rfl ?_
        refine j_isub (pc' := 214) rfl rfl ?_
        refine j_min (pc' := 217) rfl rfl rfl ?_
        refine j_pfi (pc' := 220) rfl rfl j_a10 rfl rfl (fun σ3 => ?_)
        refine j_aload_n (pc' := 221) rfl rfl rfl ?_
        refine j_dup (pc' := 222) rfl rfl rfl ?_
        refine j_gfi (pc' := 225) rfl rfl j_a10 rfl ?_
        refine j_iconst (pc' := 226) (x := (1 : Int32)) rfl rfl rfl ?_
        refine j_iadd (pc' := 227) rfl rfl ?_
        refine j_pfi (pc' := 230) rfl rfl j_a10 rfl rfl (fun σ4 => ?_)
        refine j_goto (t := 158) rfl rfl ?_
        exact ih σ4
      · refine j_wk [false, true] (L' := [none, none]) rfl ?_
        exact j_end (fun _ h => h)
    · refine j_wk [false, true] (L' := [none, none]) rfl ?_
      exact j_end (fun _ h => h)

theorem c_X7_step (σ : j_G) : j_K true 1 86 [.ref 10] σ (f_X7_step σ) j_Rv := by
  refine j_mkK (M := M_cX7_step) (L := [some (.ref 10), none]) (m := 1) t_86 rfl (j_rcvO j_a10 rfl) rfl (fun d hd τ => ?_)
  unfold f_X7_step
  refine j_aload_n (pc' := 1) rfl rfl rfl ?_
  refine j_aload_n (pc' := 2) rfl rfl rfl ?_
  refine j_gfi (pc' := 5) rfl rfl j_a10 rfl ?_
  refine j_pfi (pc' := 8) rfl rfl j_a10 rfl rfl (fun σ1 => ?_)
  refine j_q1 (l_X7_step_8 hd τ j_F σ1) (fun σ2 => ?_)
  show j_J true τ M_cX7_step d 52 [some (.ref 10), none] [] σ2 _ _
  refine j_aload_n (pc' := 53) rfl rfl rfl ?_
  refine j_aload_n (pc' := 54) rfl rfl rfl ?_
  refine j_gfi (pc' := 57) rfl rfl j_a10 rfl ?_
  refine j_pfi (pc' := 60) rfl rfl j_a10 rfl rfl (fun σ3 => ?_)
  refine j_aload_n (pc' := 61) rfl rfl rfl ?_
  refine j_iconst (pc' := 62) (x := (0 : Int32)) rfl rfl rfl ?_
  refine j_pfi (pc' := 65) rfl rfl j_a10 rfl rfl (fun σ4 => ?_)
  refine j_aload_n (pc' := 66) rfl rfl rfl ?_
  refine j_gfr (pc' := 69) (x := 19) rfl rfl j_a10 rfl rfl ?_
  refine j_aload_n (pc' := 70) rfl rfl rfl ?_
  refine j_gfi (pc' := 73) rfl rfl j_a10 rfl ?_
  refine j_callPi (pc' := 76) (ai := 110) (vs := [.ref 19, .int (σ4.1 10 6)]) (rest := []) rfl rfl (fun _ _ => rfl) (c_X10_at (σ4.1 10 6) σ4) (j_dd rfl hd) rfl (fun v5 => ?_)
  refine j_istore_n (pc' := 77) (L' := [some (.ref 10), some (.int v5)]) rfl rfl rfl ?_
  refine j_iload_n (pc' := 78) rfl rfl rfl ?_
  refine j_iconst (pc' := 79) (x := (-1 : Int32)) rfl rfl rfl ?_
  refine j_two (pT := 82) (pF := 90) (L1 := [some (.ref 10), some (.int v5)]) (st1 := []) (fun o kT kF => ?_) (fun h7 => ?_) (fun h7 => ?_)
  · refine j_icne (t := 90) (pc' := 82) rfl rfl rfl (fun h8 => ?_) (fun h8 => ?_)
    · exact kF h8
    · exact kT h8
  · refine j_aload_n (pc' := 83) rfl rfl rfl ?_
    refine j_iconst (pc' := 84) (x := (1 : Int32)) rfl rfl rfl ?_
    refine j_pfi (pc' := 87) rfl rfl j_a10 rfl rfl (fun σ6 => ?_)
    refine j_goto (t := 258) rfl rfl ?_
    exact j_ret rfl rfl rfl (fun _ h => h)
  · refine j_iload_n (pc' := 91) rfl rfl rfl ?_
    refine j_callTi (pc' := 94) (ai := 88) (vs := [.int v5]) (rest := []) rfl rfl (fun _ _ => rfl) (c_X7_isLetter v5 σ4) (j_dd rfl hd) rfl ?_
    refine j_two (pT := 97) (pF := 146) (L1 := [some (.ref 10), some (.int v5)]) (st1 := []) (fun o kT kF => ?_) (fun h5 => ?_) (fun h5 => ?_)
    · refine j_ifeq (t := 146) (pc' := 97) rfl rfl rfl (fun h6 => ?_) (fun h6 => ?_)
      · exact kF (fun z => z h6)
      · exact kT h6
    · refine j_aload_n (pc' := 98) rfl rfl rfl ?_
      refine j_iconst (pc' := 99) (x := (2 : Int32)) rfl rfl rfl ?_
      refine j_pfi (pc' := 102) rfl rfl j_a10 rfl rfl (fun σ7 => ?_)
      refine j_wk [true, false] (L' := [some (.ref 10), none]) rfl ?_
      refine j_q1 (l_X7_step_102 hd τ j_F σ7) (fun σ8 => ?_)
      show j_J true τ M_cX7_step d 258 [none, none] [] σ8 _ _
      exact j_ret rfl rfl rfl (fun _ h => h)
    · refine j_iload_n (pc' := 147) rfl rfl rfl ?_
      refine j_callTi (pc' := 150) (ai := 89) (vs := [.int v5]) (rest := []) rfl rfl (fun _ _ => rfl) (c_X7_isDigit v5 σ4) (j_dd rfl hd) rfl ?_
      refine j_two (pT := 153) (pF := 233) (L1 := [some (.ref 10), some (.int v5)]) (st1 := []) (fun o kT kF => ?_) (fun h3 => ?_) (fun h3 => ?_)
      · refine j_ifeq (t := 233) (pc' := 153) rfl rfl rfl (fun h4 => ?_) (fun h4 => ?_)
        · exact kF (fun z => z h4)
        · exact kT h4
      · refine j_aload_n (pc' := 154) rfl rfl rfl ?_
        refine j_iconst (pc' := 155) (x := (3 : Int32)) rfl rfl rfl ?_
        refine j_pfi (pc' := 158) rfl rfl j_a10 rfl rfl (fun σ9 => ?_)
        refine j_wk [true, false] (L' := [some (.ref 10), none]) rfl ?_
        refine j_q1 (l_X7_step_158 hd τ j_F σ9) (fun σ10 => ?_)
        show j_J true τ M_cX7_step d 258 [none, none] [] σ10 _ _
        exact j_ret rfl rfl rfl (fun _ h => h)
      · refine j_aload_n (pc' := 234) rfl rfl rfl ?_
        refine j_iload_n (pc' := 235) rfl rfl rfl ?_
        refine j_bipush (pc' := 237) (x := (59 : Int32)) rfl rfl rfl ?_
        refine j_ql (Φl := (fun r Q => j_Tr true τ M_cX7_step d 245 [some (.ref 10), none] [.int r, .ref 10] σ4 Q)) ?_ (fun v11 => ?_)
        · refine j_twoT (pT := 240) (pF := 244) (L1 := [some (.ref 10), some (.int v5)]) (st1 := [.ref 10]) (fun o kT kF => ?_) (fun h1 => ?_) (fun h1 => ?_)
          · refine j_icne (t := 244) (pc' := 240) rfl rfl rfl (fun h2 => ?_) (fun h2 => ?_)
            · exact kF h2
            · exact kT h2
          · refine j_iconst (pc' := 241) (x := (4 : Int32)) rfl rfl rfl ?_
            refine j_goto (t := 245) rfl rfl ?_
            refine j_wk [true, false] (L' := [some (.ref 10), none]) rfl ?_
            exact j_end (fun _ h => h)
          · refine j_iconst (pc' := 245) (x := (0 : Int32)) rfl rfl rfl ?_
            refine j_wk [true, false] (L' := [some (.ref 10), none]) rfl ?_
            exact j_end (fun _ h => h)
        show j_J true τ M_cX7_step d 245 [some (.ref 10), none] [.int v11, .ref 10] σ4 _ _
        refine j_pfi (pc' := 248) rfl rfl j_a10 rfl rfl (fun σ12 => ?_)
        refine j_aload_n (pc' := 249) rfl rfl rfl ?_
        refine j_dup (pc' := 250) rfl rfl rfl ?_
        refine j_gfi (pc' := 253) rfl rfl j_a10 rfl ?_
        refine j_iconst (pc' := 254) (x := (1 : Int32)) rfl rfl rfl ?_
        refine j_iadd (pc' := 255) rfl rfl ?_
        refine j_pfi (pc' := 258) rfl rfl j_a10 rfl rfl (fun σ13 => ?_)
        exact j_ret rfl rfl rfl (fun _ h => h)

noncomputable def f_X7_shapeOf (l0 : Int32) : Nat :=
  if l0 = 0 then (2000000) else
  if l0 = 1 then (2000001) else
  if l0 = 2 then (2000002) else
  if l0 = 3 then (2000003) else
  if l0 = 4 then (2000004) else
  if l0 = 5 then (2000005) else
  if l0 = 6 then (2000006) else
  (2000007)
theorem c_X7_shapeOf (l0 : Int32) (σ : j_G) : j_K true 0 71 [.int l0] σ (some (f_X7_shapeOf l0)) (j_Pr σ) := by
  refine j_mkK (M := M_cX7_shapeOf) (L := [some (.int l0)]) (m := 0) t_71 rfl (j_rcvS rfl) rfl (fun d hd τ => ?_)
  unfold f_X7_shapeOf
  refine j_iload_n (pc' := 1) rfl rfl rfl ?_
  refine j_splT (k := (0 : Int32)) (fun h1 => ?_) (fun h1 => ?_)
  · refine j_sw (t := 44) h1 rfl rfl (fun _ _ => rfl) ?_
    refine j_ldcs (pc' := 46) (x := 2000000) rfl rfl rfl rfl ?_
    exact j_ret rfl rfl rfl (fun _ h => h)
  refine j_splT (k := (1 : Int32)) (fun h2 => ?_) (fun h2 => ?_)
  · refine j_sw (t := 47) h2 rfl rfl (fun _ _ => rfl) ?_
    refine j_ldcs (pc' := 49) (x := 2000001) rfl rfl rfl rfl ?_
    exact j_ret rfl rfl rfl (fun _ h => h)
  refine j_splT (k := (2 : Int32)) (fun h3 => ?_) (fun h3 => ?_)
  · refine j_sw (t := 50) h3 rfl rfl (fun _ _ => rfl) ?_
    refine j_ldcs (pc' := 52) (x := 2000002) rfl rfl rfl rfl ?_
    exact j_ret rfl rfl rfl (fun _ h => h)
  refine j_splT (k := (3 : Int32)) (fun h4 => ?_) (fun h4 => ?_)
  · refine j_sw (t := 53) h4 rfl rfl (fun _ _ => rfl) ?_
    refine j_ldcs (pc' := 55) (x := 2000003) rfl rfl rfl rfl ?_
    exact j_ret rfl rfl rfl (fun _ h => h)
  refine j_splT (k := (4 : Int32)) (fun h5 => ?_) (fun h5 => ?_)
  · refine j_sw (t := 56) h5 rfl rfl (fun _ _ => rfl) ?_
    refine j_ldcs (pc' := 58) (x := 2000004) rfl rfl rfl rfl ?_
    exact j_ret rfl rfl rfl (fun _ h => h)
  refine j_splT (k := (5 : Int32)) (fun h6 => ?_) (fun h6 => ?_)
  · refine j_sw (t := 59) h6 rfl rfl (fun _ _ => rfl) ?_
    refine j_ldcs (pc' := 61) (x := 2000005) rfl rfl rfl rfl ?_
    exact j_ret rfl rfl rfl (fun _ h => h)
  refine j_splT (k := (6 : Int32)) (fun h7 => ?_) (fun h7 => ?_)
  · refine j_sw (t := 62) h7 rfl rfl (fun _ _ => rfl) ?_
    refine j_ldcs (pc' := 64) (x := 2000006) rfl rfl rfl rfl ?_
    exact j_ret rfl rfl rfl (fun _ h => h)
  have eh1 := j_ne (0) (by decide) h1
  have eh2 := j_ne (1) (by decide) h2
  have eh3 := j_ne (2) (by decide) h3
  have eh4 := j_ne (3) (by decide) h4
  have eh5 := j_ne (4) (by decide) h5
  have eh6 := j_ne (5) (by decide) h6
  have eh7 := j_ne (6) (by decide) h7
  refine j_tsd (t := 65) rfl (by omega) rfl ?_
  refine j_ldcs (pc' := 67) (x := 2000007) rfl rfl rfl rfl ?_
  exact j_ret rfl rfl rfl (fun _ h => h)

noncomputable def p_X7_isSpelled_37 (l1 : Nat) (l2 : Int32) (l3 : Int32) (σ : j_G) : Nat → Int32 → Option Int32
  | 0, _ => none
  | n + 1, l4 =>
    if l4 < l3 then (j_b1 (j_chr l1 (l2 + l4)) fun v1 =>
    j_b1 (f_X10_at ((σ.1 10 6) + l4) σ) fun v2 =>
    if ¬ v1 = v2 then (some (0 : Int32)) else (p_X7_isSpelled_37 l1 l2 l3 σ n (l4 + (1 : Int32)))) else (some (1 : Int32))

noncomputable def f_X7_isSpelled (l1 : Nat) (l2 : Int32) (σ : j_G) : Option Int32 :=
  j_lt ((σ.1 10 7) - (σ.1 10 6)) fun v1 =>
  j_b1 (j_len l1) fun v2 =>
  if (l2 + v1) < v2 then (j_b1 (j_chr l1 (l2 + v1)) fun v3 =>
  if ¬ v3 = (32 : Int32) then (some (0 : Int32)) else (p_X7_isSpelled_37 l1 l2 v1 σ j_F (0 : Int32))) else (some (0 : Int32))
theorem l_X7_isSpelled_37 {d : Nat} (hd : 1 ≤ d) (τ : j_G) (l1 : Nat) (l2 : Int32) (l3 : Int32) (σ : j_G) : ∀ (n : Nat) (l4 : Int32), j_J true τ M_cX7_isSpelled d 37 [some (.ref 10), some (.ref l1), some (.int l2), some (.int l3), some (.int l4)] [] σ (p_X7_isSpelled_37 l1 l2 l3 σ n l4) (j_Pi σ) := by
  intro n
  induction n with
  | zero => intro l4; exact j_none
  | succ n ih =>
    intro l4
    unfold p_X7_isSpelled_37
    refine j_iload (pc' := 39) rfl rfl rfl ?_
    refine j_iload_n (pc' := 40) rfl rfl rfl ?_
    refine j_two (pT := 43) (pF := 76) (L1 := [some (.ref 10), some (.ref l1), some (.int l2), some (.int l3), some (.int l4)]) (st1 := []) (fun o kT kF => ?_) (fun h3 => ?_) (fun h3 => ?_)
    · refine j_icge (t := 76) (pc' := 43) rfl rfl rfl (fun h4 => ?_) (fun h4 => ?_)
      · exact kF h4
      · exact kT h4
    · refine j_aload_n (pc' := 44) rfl rfl rfl ?_
      refine j_iload_n (pc' := 45) rfl rfl rfl ?_
      refine j_iload (pc' := 47) rfl rfl rfl ?_
      refine j_iadd (pc' := 48) rfl rfl ?_
      refine j_schr (pc' := 51) rfl rfl rfl (fun v1 => ?_)
      refine j_aload_n (pc' := 52) rfl rfl rfl ?_
      refine j_gfr (pc' := 55) (x := 19) rfl rfl j_a10 rfl rfl ?_
      refine j_aload_n (pc' := 56) rfl rfl rfl ?_
      refine j_gfi (pc' := 59) rfl rfl j_a10 rfl ?_
      refine j_iload (pc' := 61) rfl rfl rfl ?_
      refine j_iadd (pc' := 62) rfl rfl ?_
      refine j_callPi (pc' := 65) (ai := 110) (vs := [.ref 19, .int ((σ.1 10 6) + l4)]) (rest := [.int v1]) rfl rfl (fun _ _ => rfl) (c_X10_at ((σ.1 10 6) + l4) σ) (j_dd rfl hd) rfl (fun v2 => ?_)
      refine j_two (pT := 68) (pF := 70) (L1 := [some (.ref 10), some (.ref l1), some (.int l2), some (.int l3), some (.int l4)]) (st1 := []) (fun o kT kF => ?_) (fun h1 => ?_) (fun h1 => ?_)
      · refine j_iceq (t := 70) (pc' := 68) rfl rfl rfl (fun h2 => ?_) (fun h2 => ?_)
        · exact kF (fun z => z h2)
        · exact kT h2
      · refine j_iconst (pc' := 69) (x := (0 : Int32)) rfl rfl rfl ?_
        exact j_ret rfl rfl rfl (fun _ h => h)
      · refine j_iincx (pc' := 73) (y := (1 : Int32)) (L' := [some (.ref 10), some (.ref l1), some (.int l2), some (.int l3), some (.int (l4 + (1 : Int32)))]) rfl rfl rfl rfl rfl ?_
        refine j_goto (t := 37) rfl rfl ?_
        exact ih (l4 + (1 : Int32))
    · refine j_iconst (pc' := 77) (x := (1 : Int32)) rfl rfl rfl ?_
      exact j_ret rfl rfl rfl (fun _ h => h)

theorem c_X7_isSpelled (l1 : Nat) (l2 : Int32) (σ : j_G) : j_K true 1 77 [.ref 10, .ref l1, .int l2] σ (f_X7_isSpelled l1 l2 σ) (j_Pi σ) := by
  refine j_mkK (M := M_cX7_isSpelled) (L := [some (.ref 10), some (.ref l1), some (.int l2), none, none]) (m := 2) t_77 rfl (j_rcvO j_a10 rfl) rfl (fun d hd τ => ?_)
  unfold f_X7_isSpelled
  refine j_aload_n (pc' := 1) rfl rfl rfl ?_
  refine j_gfi (pc' := 4) rfl rfl j_a10 rfl ?_
  refine j_aload_n (pc' := 5) rfl rfl rfl ?_
  refine j_gfi (pc' := 8) rfl rfl j_a10 rfl ?_
  refine j_isub (pc' := 9) rfl rfl ?_
  refine j_leti (fun v1 => ?_)
  refine j_istore_n (pc' := 10) (L' := [some (.ref 10), some (.ref l1), some (.int l2), some (.int v1), none]) rfl rfl rfl ?_
  refine j_iload_n (pc' := 11) rfl rfl rfl ?_
  refine j_iload_n (pc' := 12) rfl rfl rfl ?_
  refine j_iadd (pc' := 13) rfl rfl ?_
  refine j_aload_n (pc' := 14) rfl rfl rfl ?_
  refine j_slen (pc' := 17) rfl rfl rfl (fun v2 => ?_)
  refine j_two (pT := 20) (pF := 32) (L1 := [some (.ref 10), some (.ref l1), some (.int l2), some (.int v1), none]) (st1 := []) (fun o kT kF => ?_) (fun h3 => ?_) (fun h3 => ?_)
  · refine j_icge (t := 32) (pc' := 20) rfl rfl rfl (fun h4 => ?_) (fun h4 => ?_)
    · exact kF h4
    · exact kT h4
  · refine j_aload_n (pc' := 21) rfl rfl rfl ?_
    refine j_iload_n (pc' := 22) rfl rfl rfl ?_
    refine j_iload_n (pc' := 23) rfl rfl rfl ?_
    refine j_iadd (pc' := 24) rfl rfl ?_
    refine j_schr (pc' := 27) rfl rfl rfl (fun v3 => ?_)
    refine j_bipush (pc' := 29) (x := (32 : Int32)) rfl rfl rfl ?_
    refine j_two (pT := 32) (pF := 34) (L1 := [some (.ref 10), some (.ref l1), some (.int l2), some (.int v1), none]) (st1 := []) (fun o kT kF => ?_) (fun h1 => ?_) (fun h1 => ?_)
    · refine j_iceq (t := 34) (pc' := 32) rfl rfl rfl (fun h2 => ?_) (fun h2 => ?_)
      · exact kF (fun z => z h2)
      · exact kT h2
    · refine j_iconst (pc' := 33) (x := (0 : Int32)) rfl rfl rfl ?_
      exact j_ret rfl rfl rfl (fun _ h => h)
    · refine j_iconst (pc' := 35) (x := (0 : Int32)) rfl rfl rfl ?_
      refine j_istore (pc' := 37) (L' := [some (.ref 10), some (.ref l1), some (.int l2), some (.int v1), some (.int (0 : Int32))]) rfl rfl rfl ?_
      exact (l_X7_isSpelled_37 hd τ l1 l2 v1 σ j_F (0 : Int32))
  · refine j_iconst (pc' := 33) (x := (0 : Int32)) rfl rfl rfl ?_
    exact j_ret rfl rfl rfl (fun _ h => h)

noncomputable def f_X7_standsAt (l1 : Nat) (l2 : Int32) (σ : j_G) : Option Int32 :=
  if ¬ l2 < 0 then (j_b1 (j_len l1) fun v1 =>
  if ¬ l2 < v1 then (some (0 : Int32)) else (j_b1 (j_chr l1 l2) fun v2 =>
  if v2 = 35 then (if (σ.1 10 5) = (3 : Int32) then (some (1 : Int32)) else (some (0 : Int32))) else
  if v2 = 59 then (if (σ.1 10 5) = (4 : Int32) then (some (1 : Int32)) else (some (0 : Int32))) else
  (if (σ.1 10 5) = (2 : Int32) then (j_b1 (f_X7_isSpelled l1 l2 σ) fun v3 =>
  if ¬ v3 = 0 then (some (1 : Int32)) else (some (0 : Int32))) else (some (0 : Int32))))) else (some (0 : Int32))
theorem c_X7_standsAt (l1 : Nat) (l2 : Int32) (σ : j_G) : j_K true 2 76 [.ref 10, .ref l1, .int l2] σ (f_X7_standsAt l1 l2 σ) (j_Pi σ) := by
  refine j_mkK (M := M_cX7_standsAt) (L := [some (.ref 10), some (.ref l1), some (.int l2)]) (m := 0) t_76 rfl (j_rcvO j_a10 rfl) rfl (fun d hd τ => ?_)
  unfold f_X7_standsAt
  refine j_iload_n (pc' := 1) rfl rfl rfl ?_
  refine j_two (pT := 4) (pF := 12) (L1 := [some (.ref 10), some (.ref l1), some (.int l2)]) (st1 := []) (fun o kT kF => ?_) (fun h13 => ?_) (fun h13 => ?_)
  · refine j_iflt (t := 12) (pc' := 4) rfl rfl rfl (fun h14 => ?_) (fun h14 => ?_)
    · exact kF (fun z => z h14)
    · exact kT h14
  · refine j_iload_n (pc' := 5) rfl rfl rfl ?_
    refine j_aload_n (pc' := 6) rfl rfl rfl ?_
    refine j_slen (pc' := 9) rfl rfl rfl (fun v1 => ?_)
    refine j_two (pT := 12) (pF := 14) (L1 := [some (.ref 10), some (.ref l1), some (.int l2)]) (st1 := []) (fun o kT kF => ?_) (fun h11 => ?_) (fun h11 => ?_)
    · refine j_iclt (t := 14) (pc' := 12) rfl rfl rfl (fun h12 => ?_) (fun h12 => ?_)
      · exact kF (fun z => z h12)
      · exact kT h12
    · refine j_iconst (pc' := 13) (x := (0 : Int32)) rfl rfl rfl ?_
      exact j_ret rfl rfl rfl (fun _ h => h)
    · refine j_aload_n (pc' := 15) rfl rfl rfl ?_
      refine j_iload_n (pc' := 16) rfl rfl rfl ?_
      refine j_schr (pc' := 19) rfl rfl rfl (fun v2 => ?_)
      refine j_spl (k := (35 : Int32)) (fun h1 => ?_) (fun h1 => ?_)
      · refine j_sw (t := 44) h1 rfl rfl (fun _ _ => rfl) ?_
        refine j_aload_n (pc' := 45) rfl rfl rfl ?_
        refine j_gfi (pc' := 48) rfl rfl j_a10 rfl ?_
        refine j_iconst (pc' := 49) (x := (3 : Int32)) rfl rfl rfl ?_
        refine j_two (pT := 52) (pF := 56) (L1 := [some (.ref 10), some (.ref l1), some (.int l2)]) (st1 := []) (fun o kT kF => ?_) (fun h2 => ?_) (fun h2 => ?_)
        · refine j_icne (t := 56) (pc' := 52) rfl rfl rfl (fun h3 => ?_) (fun h3 => ?_)
          · exact kF h3
          · exact kT h3
        · refine j_iconst (pc' := 53) (x := (1 : Int32)) rfl rfl rfl ?_
          refine j_goto (t := 57) rfl rfl ?_
          exact j_ret rfl rfl rfl (fun _ h => h)
        · refine j_iconst (pc' := 57) (x := (0 : Int32)) rfl rfl rfl ?_
          exact j_ret rfl rfl rfl (fun _ h => h)
      refine j_spl (k := (59 : Int32)) (fun h4 => ?_) (fun h4 => ?_)
      · refine j_sw (t := 58) h4 rfl rfl (fun _ _ => rfl) ?_
        refine j_aload_n (pc' := 59) rfl rfl rfl ?_
        refine j_gfi (pc' := 62) rfl rfl j_a10 rfl ?_
        refine j_iconst (pc' := 63) (x := (4 : Int32)) rfl rfl rfl ?_
        refine j_two (pT := 66) (pF := 70) (L1 := [some (.ref 10), some (.ref l1), some (.int l2)]) (st1 := []) (fun o kT kF => ?_) (fun h5 => ?_) (fun h5 => ?_)
        · refine j_icne (t := 70) (pc' := 66) rfl rfl rfl (fun h6 => ?_) (fun h6 => ?_)
          · exact kF h6
          · exact kT h6
        · refine j_iconst (pc' := 67) (x := (1 : Int32)) rfl rfl rfl ?_
          refine j_goto (t := 71) rfl rfl ?_
          exact j_ret rfl rfl rfl (fun _ h => h)
        · refine j_iconst (pc' := 71) (x := (0 : Int32)) rfl rfl rfl ?_
          exact j_ret rfl rfl rfl (fun _ h => h)
      refine j_lsd (t := 72) rfl (by decide) (by simp [Op.lookupswitch.offset, j_ne (35) (by decide) h1, (j_ne (35) (by decide) h1).symm, j_ne (59) (by decide) h4, (j_ne (59) (by decide) h4).symm]) rfl ?_
      refine j_aload_n (pc' := 73) rfl rfl rfl ?_
      refine j_gfi (pc' := 76) rfl rfl j_a10 rfl ?_
      refine j_iconst (pc' := 77) (x := (2 : Int32)) rfl rfl rfl ?_
      refine j_two (pT := 80) (pF := 93) (L1 := [some (.ref 10), some (.ref l1), some (.int l2)]) (st1 := []) (fun o kT kF => ?_) (fun h9 => ?_) (fun h9 => ?_)
      · refine j_icne (t := 93) (pc' := 80) rfl rfl rfl (fun h10 => ?_) (fun h10 => ?_)
        · exact kF h10
        · exact kT h10
      · refine j_aload_n (pc' := 81) rfl rfl rfl ?_
        refine j_aload_n (pc' := 82) rfl rfl rfl ?_
        refine j_iload_n (pc' := 83) rfl rfl rfl ?_
        refine j_callPi (pc' := 86) (ai := 77) (vs := [.ref 10, .ref l1, .int l2]) (rest := []) rfl rfl (fun _ _ => rfl) (c_X7_isSpelled l1 l2 σ) (j_dd rfl hd) rfl (fun v3 => ?_)
        refine j_two (pT := 89) (pF := 93) (L1 := [some (.ref 10), some (.ref l1), some (.int l2)]) (st1 := []) (fun o kT kF => ?_) (fun h7 => ?_) (fun h7 => ?_)
        · refine j_ifeq (t := 93) (pc' := 89) rfl rfl rfl (fun h8 => ?_) (fun h8 => ?_)
          · exact kF (fun z => z h8)
          · exact kT h8
        · refine j_iconst (pc' := 90) (x := (1 : Int32)) rfl rfl rfl ?_
          refine j_goto (t := 94) rfl rfl ?_
          exact j_ret rfl rfl rfl (fun _ h => h)
        · refine j_iconst (pc' := 94) (x := (0 : Int32)) rfl rfl rfl ?_
          exact j_ret rfl rfl rfl (fun _ h => h)
      · refine j_iconst (pc' := 94) (x := (0 : Int32)) rfl rfl rfl ?_
        exact j_ret rfl rfl rfl (fun _ h => h)
  · refine j_iconst (pc' := 13) (x := (0 : Int32)) rfl rfl rfl ?_
    exact j_ret rfl rfl rfl (fun _ h => h)

noncomputable def p_X7_kindOfLine_2 (σ : j_G) : Nat → Int32 → Option Int32
  | 0, _ => none
  | n + 1, l1 =>
    if l1 < (8 : Int32) then (j_b1 (f_X7_standsAt (f_X7_shapeOf l1) (0 : Int32) σ) fun v1 =>
    if ¬ v1 = 0 then (j_lt (if l1 = 0 then ((1 : Int32)) else ((0 : Int32))) fun v2 =>
    j_lt (if (σ.1 11 1) = 0 then ((1 : Int32)) else ((0 : Int32))) fun v3 =>
    if v2 = v3 then (some l1) else (some (-1 : Int32))) else (p_X7_kindOfLine_2 σ n (l1 + (1 : Int32)))) else (some (-1 : Int32))

noncomputable def f_X7_kindOfLine (σ : j_G) : Option Int32 :=
  p_X7_kindOfLine_2 σ j_F (0 : Int32)
theorem l_X7_kindOfLine_2 {d : Nat} (hd : 3 ≤ d) (τ : j_G) (σ : j_G) : ∀ (n : Nat) (l1 : Int32), j_J true τ M_cX7_kindOfLine d 2 [some (.ref 10), some (.int l1)] [] σ (p_X7_kindOfLine_2 σ n l1) (j_Pi σ) := by
  intro n
  induction n with
  | zero => intro l1; exact j_none
  | succ n ih =>
    intro l1
    unfold p_X7_kindOfLine_2
    refine j_iload_n (pc' := 3) rfl rfl rfl ?_
    refine j_bipush (pc' := 5) (x := (8 : Int32)) rfl rfl rfl ?_
    refine j_two (pT := 8) (pF := 59) (L1 := [some (.ref 10), some (.int l1)]) (st1 := []) (fun o kT kF => ?_) (fun h9 => ?_) (fun h9 => ?_)
    · refine j_icge (t := 59) (pc' := 8) rfl rfl rfl (fun h10 => ?_) (fun h10 => ?_)
      · exact kF h10
      · exact kT h10
    · refine j_aload_n (pc' := 9) rfl rfl rfl ?_
      refine j_iload_n (pc' := 10) rfl rfl rfl ?_
      refine j_callTr (pc' := 13) (ai := 71) (vs := [.int l1]) (rest := [.ref 10]) rfl rfl (fun _ _ => rfl) (c_X7_shapeOf l1 σ) (j_dd rfl hd) rfl ?_
      refine j_iconst (pc' := 14) (x := (0 : Int32)) rfl rfl rfl ?_
      refine j_callPi (pc' := 17) (ai := 76) (vs := [.ref 10, .ref (f_X7_shapeOf l1), .int (0 : Int32)]) (rest := []) rfl rfl (fun _ _ => rfl) (c_X7_standsAt (f_X7_shapeOf l1) (0 : Int32) σ) (j_dd rfl hd) rfl (fun v1 => ?_)
      refine j_two (pT := 20) (pF := 53) (L1 := [some (.ref 10), some (.int l1)]) (st1 := []) (fun o kT kF => ?_) (fun h7 => ?_) (fun h7 => ?_)
      · refine j_ifeq (t := 53) (pc' := 20) rfl rfl rfl (fun h8 => ?_) (fun h8 => ?_)
        · exact kF (fun z => z h8)
        · exact kT h8
      · refine j_iload_n (pc' := 21) rfl rfl rfl ?_
        refine j_ql (Φl := (fun r Q => j_Tr true τ M_cX7_kindOfLine d 29 [some (.ref 10), some (.int l1)] [.int r] σ Q)) ?_ (fun v2 => ?_)
        · refine j_twoT (pT := 24) (pF := 28) (L1 := [some (.ref 10), some (.int l1)]) (st1 := []) (fun o kT kF => ?_) (fun h1 => ?_) (fun h1 => ?_)
          · refine j_ifne (t := 28) (pc' := 24) rfl rfl rfl (fun h2 => ?_) (fun h2 => ?_)
            · exact kF h2
            · exact kT h2
          · refine j_iconst (pc' := 25) (x := (1 : Int32)) rfl rfl rfl ?_
            refine j_goto (t := 29) rfl rfl ?_
            exact j_end (fun _ h => h)
          · refine j_iconst (pc' := 29) (x := (0 : Int32)) rfl rfl rfl ?_
            exact j_end (fun _ h => h)
        show j_J true τ M_cX7_kindOfLine d 29 [some (.ref 10), some (.int l1)] [.int v2] σ _ _
        refine j_aload_n (pc' := 30) rfl rfl rfl ?_
        refine j_gfr (pc' := 33) (x := 11) rfl rfl j_a10 rfl rfl ?_
        refine j_gfi (pc' := 36) rfl rfl j_a11 rfl ?_
        refine j_ql (Φl := (fun r Q => j_Tr true τ M_cX7_kindOfLine d 44 [none, some (.int l1)] [.int r, .int v2] σ Q)) ?_ (fun v3 => ?_)
        · refine j_twoT (pT := 39) (pF := 43) (L1 := [some (.ref 10), some (.int l1)]) (st1 := [.int v2]) (fun o kT kF => ?_) (fun h3 => ?_) (fun h3 => ?_)
          · refine j_ifne (t := 43) (pc' := 39) rfl rfl rfl (fun h4 => ?_) (fun h4 => ?_)
            · exact kF h4
            · exact kT h4
          · refine j_iconst (pc' := 40) (x := (1 : Int32)) rfl rfl rfl ?_
            refine j_goto (t := 44) rfl rfl ?_
            refine j_wk [false, true] (L' := [none, some (.int l1)]) rfl ?_
            exact j_end (fun _ h => h)
          · refine j_iconst (pc' := 44) (x := (0 : Int32)) rfl rfl rfl ?_
            refine j_wk [false, true] (L' := [none, some (.int l1)]) rfl ?_
            exact j_end (fun _ h => h)
        show j_J true τ M_cX7_kindOfLine d 44 [none, some (.int l1)] [.int v3, .int v2] σ _ _
        refine j_two (pT := 47) (pF := 51) (L1 := [none, some (.int l1)]) (st1 := []) (fun o kT kF => ?_) (fun h5 => ?_) (fun h5 => ?_)
        · refine j_icne (t := 51) (pc' := 47) rfl rfl rfl (fun h6 => ?_) (fun h6 => ?_)
          · exact kF h6
          · exact kT h6
        · refine j_iload_n (pc' := 48) rfl rfl rfl ?_
          refine j_goto (t := 52) rfl rfl ?_
          exact j_ret rfl rfl rfl (fun _ h => h)
        · refine j_iconst (pc' := 52) (x := (-1 : Int32)) rfl rfl rfl ?_
          exact j_ret rfl rfl rfl (fun _ h => h)
      · refine j_iincx (pc' := 56) (y := (1 : Int32)) (L' := [some (.ref 10), some (.int (l1 + (1 : Int32)))]) rfl rfl rfl rfl rfl ?_
        refine j_goto (t := 2) rfl rfl ?_
        exact ih (l1 + (1 : Int32))
    · refine j_iconst (pc' := 60) (x := (-1 : Int32)) rfl rfl rfl ?_
      exact j_ret rfl rfl rfl (fun _ h => h)

theorem c_X7_kindOfLine (σ : j_G) : j_K true 3 75 [.ref 10] σ (f_X7_kindOfLine σ) (j_Pi σ) := by
  refine j_mkK (M := M_cX7_kindOfLine) (L := [some (.ref 10), none]) (m := 1) t_75 rfl (j_rcvO j_a10 rfl) rfl (fun d hd τ => ?_)
  unfold f_X7_kindOfLine
  refine j_iconst (pc' := 1) (x := (0 : Int32)) rfl rfl rfl ?_
  refine j_istore_n (pc' := 2) (L' := [some (.ref 10), some (.int (0 : Int32))]) rfl rfl rfl ?_
  exact (l_X7_kindOfLine_2 hd τ σ j_F (0 : Int32))

noncomputable def f_X7_blame (l1 : Int32) (σ : j_G) : Option j_G :=
  j_lt (j_si σ 10 1 l1) fun σ1 =>
  j_lt (j_si σ1 10 2 (σ1.1 10 6)) fun σ2 =>
  some σ2
theorem c_X7_blame (l1 : Int32) (σ : j_G) : j_K true 0 73 [.ref 10, .int l1] σ (f_X7_blame l1 σ) j_Rv := by
  refine j_mkK (M := M_cX7_blame) (L := [some (.ref 10), some (.int l1)]) (m := 0) t_73 rfl (j_rcvO j_a10 rfl) rfl (fun d hd τ => ?_)
  unfold f_X7_blame
  refine j_aload_n (pc' := 1) rfl rfl rfl ?_
  refine j_iload_n (pc' := 2) rfl rfl rfl ?_
  refine j_pfi (pc' := 5) rfl rfl j_a10 rfl rfl (fun σ1 => ?_)
  refine j_aload_n (pc' := 6) rfl rfl rfl ?_
  refine j_aload_n (pc' := 7) rfl rfl rfl ?_
  refine j_gfi (pc' := 10) rfl rfl j_a10 rfl ?_
  refine j_pfi (pc' := 13) rfl rfl j_a10 rfl rfl (fun σ2 => ?_)
  exact j_ret rfl rfl rfl (fun _ h => h)

noncomputable def f_X7_isFull (l1 : Int32) (σ : j_G) : Int32 :=
  if l1 = 3 then (if ¬ (σ.1 15 0) < (24 : Int32) then ((1 : Int32)) else ((0 : Int32))) else
  if l1 = 4 then (if ¬ (σ.1 15 0) < (24 : Int32) then ((1 : Int32)) else ((0 : Int32))) else
  if l1 = 5 then (if ¬ (σ.1 15 0) < (24 : Int32) then ((1 : Int32)) else ((0 : Int32))) else
  if l1 = 6 then (if ¬ (σ.1 11 7) < (4 : Int32) then ((1 : Int32)) else ((0 : Int32))) else
  ((0 : Int32))

theorem b_X7_isFull (l1 : Int32) (σ : j_G) : f_X7_isFull l1 σ = 0 ∨ f_X7_isFull l1 σ = 1 := by
  unfold f_X7_isFull
  repeat' split
  all_goals first | exact Or.inl rfl | exact Or.inr rfl
theorem c_X7_isFull (l1 : Int32) (σ : j_G) : j_K true 0 78 [.ref 10, .int l1] σ (some (f_X7_isFull l1 σ)) (j_Pi σ) := by
  refine j_mkK (M := M_cX7_isFull) (L := [some (.ref 10), some (.int l1)]) (m := 0) t_78 rfl (j_rcvO j_a10 rfl) rfl (fun d hd τ => ?_)
  unfold f_X7_isFull
  refine j_iload_n (pc' := 1) rfl rfl rfl ?_
  refine j_splT (k := (3 : Int32)) (fun h1 => ?_) (fun h1 => ?_)
  · refine j_sw (t := 32) h1 rfl rfl (fun _ _ => rfl) ?_
    refine j_aload_n (pc' := 33) rfl rfl rfl ?_
    refine j_gfr (pc' := 36) (x := 11) rfl rfl j_a10 rfl rfl ?_
    refine j_gfr (pc' := 39) (x := 15) rfl rfl j_a11 rfl rfl ?_
    refine j_gfi (pc' := 42) rfl rfl j_a15 rfl ?_
    refine j_bipush (pc' := 44) (x := (24 : Int32)) rfl rfl rfl ?_
    refine j_twoT (pT := 47) (pF := 51) (L1 := [some (.ref 10), some (.int l1)]) (st1 := []) (fun o kT kF => ?_) (fun h2 => ?_) (fun h2 => ?_)
    · refine j_iclt (t := 51) (pc' := 47) rfl rfl rfl (fun h3 => ?_) (fun h3 => ?_)
      · exact kF (fun z => z h3)
      · exact kT h3
    · refine j_iconst (pc' := 48) (x := (1 : Int32)) rfl rfl rfl ?_
      refine j_goto (t := 52) rfl rfl ?_
      exact j_ret rfl rfl rfl (fun _ h => h)
    · refine j_iconst (pc' := 52) (x := (0 : Int32)) rfl rfl rfl ?_
      exact j_ret rfl rfl rfl (fun _ h => h)
  refine j_splT (k := (4 : Int32)) (fun h4 => ?_) (fun h4 => ?_)
  · refine j_sw (t := 32) h4 rfl rfl (fun _ _ => rfl) ?_
    refine j_aload_n (pc' := 33) rfl rfl rfl ?_
    refine j_gfr (pc' := 36) (x := 11) rfl rfl j_a10 rfl rfl ?_
    refine j_gfr (pc' := 39) (x := 15) rfl rfl j_a11 rfl rfl ?_
    refine j_gfi (pc' := 42) rfl rfl j_a15 rfl ?_
    refine j_bipush (pc' := 44) (x := (24 : Int32)) rfl rfl rfl ?_
    refine j_twoT (pT := 47) (pF := 51) (L1 := [some (.ref 10), some (.int l1)]) (st1 := []) (fun o kT kF => ?_) (fun h5 => ?_) (fun h5 => ?_)
    · refine j_iclt (t := 51) (pc' := 47) rfl rfl rfl (fun h6 => ?_) (fun h6 => ?_)
      · exact kF (fun z => z h6)
      · exact kT h6
    · refine j_iconst (pc' := 48) (x := (1 : Int32)) rfl rfl rfl ?_
      refine j_goto (t := 52) rfl rfl ?_
      exact j_ret rfl rfl rfl (fun _ h => h)
    · refine j_iconst (pc' := 52) (x := (0 : Int32)) rfl rfl rfl ?_
      exact j_ret rfl rfl rfl (fun _ h => h)
  refine j_splT (k := (5 : Int32)) (fun h7 => ?_) (fun h7 => ?_)
  · refine j_sw (t := 32) h7 rfl rfl (fun _ _ => rfl) ?_
    refine j_aload_n (pc' := 33) rfl rfl rfl ?_
    refine j_gfr (pc' := 36) (x := 11) rfl rfl j_a10 rfl rfl ?_
    refine j_gfr (pc' := 39) (x := 15) rfl rfl j_a11 rfl rfl ?_
    refine j_gfi (pc' := 42) rfl rfl j_a15 rfl ?_
    refine j_bipush (pc' := 44) (x := (24 : Int32)) rfl rfl rfl ?_
    refine j_twoT (pT := 47) (pF := 51) (L1 := [some (.ref 10), some (.int l1)]) (st1 := []) (fun o kT kF => ?_) (fun h8 => ?_) (fun h8 => ?_)
    · refine j_iclt (t := 51) (pc' := 47) rfl rfl rfl (fun h9 => ?_) (fun h9 => ?_)
      · exact kF (fun z => z h9)
      · exact kT h9
    · refine j_iconst (pc' := 48) (x := (1 : Int32)) rfl rfl rfl ?_
      refine j_goto (t := 52) rfl rfl ?_
      exact j_ret rfl rfl rfl (fun _ h => h)
    · refine j_iconst (pc' := 52) (x := (0 : Int32)) rfl rfl rfl ?_
      exact j_ret rfl rfl rfl (fun _ h => h)
  refine j_splT (k := (6 : Int32)) (fun h10 => ?_) (fun h10 => ?_)
  · refine j_sw (t := 53) h10 rfl rfl (fun _ _ => rfl) ?_
    refine j_aload_n (pc' := 54) rfl rfl rfl ?_
    refine j_gfr (pc' := 57) (x := 11) rfl rfl j_a10 rfl rfl ?_
    refine j_gfi (pc' := 60) rfl rfl j_a11 rfl ?_
    refine j_iconst (pc' := 61) (x := (4 : Int32)) rfl rfl rfl ?_
    refine j_twoT (pT := 64) (pF := 68) (L1 := [some (.ref 10), some (.int l1)]) (st1 := []) (fun o kT kF => ?_) (fun h11 => ?_) (fun h11 => ?_)
    · refine j_iclt (t := 68) (pc' := 64) rfl rfl rfl (fun h12 => ?_) (fun h12 => ?_)
      · exact kF (fun z => z h12)
      · exact kT h12
    · refine j_iconst (pc' := 65) (x := (1 : Int32)) rfl rfl rfl ?_
      refine j_goto (t := 69) rfl rfl ?_
      exact j_ret rfl rfl rfl (fun _ h => h)
    · refine j_iconst (pc' := 69) (x := (0 : Int32)) rfl rfl rfl ?_
      exact j_ret rfl rfl rfl (fun _ h => h)
  have eh1 := j_ne (3) (by decide) h1
  have eh4 := j_ne (4) (by decide) h4
  have eh7 := j_ne (5) (by decide) h7
  have eh10 := j_ne (6) (by decide) h10
  refine j_tsd (t := 70) rfl (by omega) rfl ?_
  refine j_iconst (pc' := 71) (x := (0 : Int32)) rfl rfl rfl ?_
  exact j_ret rfl rfl rfl (fun _ h => h)

noncomputable def p_X7_behindBlank_2 (l0 : Nat) : Nat → Int32 → Option Int32
  | 0, _ => none
  | n + 1, l2 =>
    j_b1 (j_len l0) fun v1 =>
    if l2 < v1 then (j_b1 (j_chr l0 l2) fun v2 =>
    if ¬ v2 = (32 : Int32) then (p_X7_behindBlank_2 l0 n (l2 + (1 : Int32))) else (some l2)) else (some l2)

noncomputable def f_X7_behindBlank (l0 : Nat) (l1 : Int32) : Option Int32 :=
  j_b1 (p_X7_behindBlank_2 l0 j_F l1) fun v1 =>
  some (v1 + (1 : Int32))
theorem l_X7_behindBlank_2 {d : Nat} (hd : 0 ≤ d) (τ : j_G) (l0 : Nat) (σ : j_G) : ∀ (n : Nat) (l2 : Int32), j_J true τ M_cX7_behindBlank d 2 [some (.ref l0), none, some (.int l2)] [] σ (p_X7_behindBlank_2 l0 n l2) (fun r Q => j_Tr true τ M_cX7_behindBlank d 26 [none, none, some (.int r)] [] σ Q) := by
  intro n
  induction n with
  | zero => intro l2; exact j_none
  | succ n ih =>
    intro l2
    unfold p_X7_behindBlank_2
    refine j_iload_n (pc' := 3) rfl rfl rfl ?_
    refine j_aload_n (pc' := 4) rfl rfl rfl ?_
    refine j_slen (pc' := 7) rfl rfl rfl (fun v1 => ?_)
    refine j_two (pT := 10) (pF := 26) (L1 := [some (.ref l0), none, some (.int l2)]) (st1 := []) (fun o kT kF => ?_) (fun h3 => ?_) (fun h3 => ?_)
    · refine j_icge (t := 26) (pc' := 10) rfl rfl rfl (fun h4 => ?_) (fun h4 => ?_)
      · exact kF h4
      · exact kT h4
    · refine j_aload_n (pc' := 11) rfl rfl rfl ?_
      refine j_iload_n (pc' := 12) rfl rfl rfl ?_
      refine j_schr (pc' := 15) rfl rfl rfl (fun v2 => ?_)
      refine j_bipush (pc' := 17) (x := (32 : Int32)) rfl rfl rfl ?_
      refine j_two (pT := 20) (pF := 26) (L1 := [some (.ref l0), none, some (.int l2)]) (st1 := []) (fun o kT kF => ?_) (fun h1 => ?_) (fun h1 => ?_)
      · refine j_iceq (t := 26) (pc' := 20) rfl rfl rfl (fun h2 => ?_) (fun h2 => ?_)
        · exact kF (fun z => z h2)
        · exact kT h2
      · refine j_iincx (pc' := 23) (y := (1 : Int32)) (L' := [some (.ref l0), none, some (.int (l2 + (1 : Int32)))]) rfl rfl rfl rfl rfl ?_
        refine j_goto (t := 2) rfl rfl ?_
        exact ih (l2 + (1 : Int32))
      · refine j_wk [false, true, true] (L' := [none, none, some (.int l2)]) rfl ?_
        exact j_end (fun _ h => h)
    · refine j_wk [false, true, true] (L' := [none, none, some (.int l2)]) rfl ?_
      exact j_end (fun _ h => h)

theorem c_X7_behindBlank (l0 : Nat) (l1 : Int32) (σ : j_G) : j_K true 0 74 [.ref l0, .int l1] σ (f_X7_behindBlank l0 l1) (j_Pi σ) := by
  refine j_mkK (M := M_cX7_behindBlank) (L := [some (.ref l0), some (.int l1), none]) (m := 1) t_74 rfl (j_rcvS rfl) rfl (fun d hd τ => ?_)
  unfold f_X7_behindBlank
  refine j_iload_n (pc' := 1) rfl rfl rfl ?_
  refine j_istore_n (pc' := 2) (L' := [some (.ref l0), some (.int l1), some (.int l1)]) rfl rfl rfl ?_
  refine j_wk [true, false, true] (L' := [some (.ref l0), none, some (.int l1)]) rfl ?_
  refine j_q1 (l_X7_behindBlank_2 hd τ l0 σ j_F l1) (fun v1 => ?_)
  show j_J true τ M_cX7_behindBlank d 26 [none, none, some (.int v1)] [] σ _ _
  refine j_iload_n (pc' := 27) rfl rfl rfl ?_
  refine j_iconst (pc' := 28) (x := (1 : Int32)) rfl rfl rfl ?_
  refine j_iadd (pc' := 29) rfl rfl ?_
  exact j_ret rfl rfl rfl (fun _ h => h)

noncomputable def f_X7_within (l1 : Int32) (l2 : Int32) (σ : j_G) : Int32 :=
  if (¬ (σ.1 10 8) < l1) ∧ (¬ l2 < (σ.1 10 8)) then ((0 : Int32)) else ((2 : Int32))
theorem c_X7_within (l1 : Int32) (l2 : Int32) (σ : j_G) : j_K true 0 80 [.ref 10, .int l1, .int l2] σ (some (f_X7_within l1 l2 σ)) (j_Pi σ) := by
  refine j_mkK (M := M_cX7_within) (L := [some (.ref 10), some (.int l1), some (.int l2)]) (m := 0) t_80 rfl (j_rcvO j_a10 rfl) rfl (fun d hd τ => ?_)
  unfold f_X7_within
  refine j_aload_n (pc' := 1) rfl rfl rfl ?_
  refine j_gfi (pc' := 4) rfl rfl j_a10 rfl ?_
  refine j_iload_n (pc' := 5) rfl rfl rfl ?_
  refine j_twoT (pT := 16) (pF := 20) (L1 := [some (.ref 10), some (.int l1), some (.int l2)]) (st1 := []) (fun o kT kF => ?_) (fun h1 => ?_) (fun h1 => ?_)
  · refine j_iclt (t := 20) (pc' := 8) rfl rfl rfl (fun h2 => ?_) (fun h2 => ?_)
    · exact kF (fun z => z.1 h2)
    · refine j_aload_n (pc' := 9) rfl rfl rfl ?_
      refine j_gfi (pc' := 12) rfl rfl j_a10 rfl ?_
      refine j_iload_n (pc' := 13) rfl rfl rfl ?_
      refine j_icgt (t := 20) (pc' := 16) rfl rfl rfl (fun h3 => ?_) (fun h3 => ?_)
      · exact kF (fun z => (fun z => z h3) z.2)
      · exact kT (⟨h2, h3⟩)
  · refine j_iconst (pc' := 17) (x := (0 : Int32)) rfl rfl rfl ?_
    refine j_goto (t := 21) rfl rfl ?_
    exact j_ret rfl rfl rfl (fun _ h => h)
  · refine j_iconst (pc' := 21) (x := (2 : Int32)) rfl rfl rfl ?_
    exact j_ret rfl rfl rfl (fun _ h => h)

noncomputable def f_X7_fitsBoard (l1 : Int32) (σ : j_G) : Int32 :=
  if l1 = 0 then (if (f_X7_within (1 : Int32) (4 : Int32) σ) = 0 then ((1 : Int32)) else ((0 : Int32))) else
  if l1 = 1 then (if (f_X7_within (1 : Int32) (3 : Int32) σ) = 0 then ((1 : Int32)) else ((0 : Int32))) else
  if l1 = 2 then (if (f_X7_within (1 : Int32) (200 : Int32) σ) = 0 then ((1 : Int32)) else ((0 : Int32))) else
  (if (f_X7_within (0 : Int32) (9 : Int32) σ) = 0 then ((1 : Int32)) else ((0 : Int32)))

theorem b_X7_fitsBoard (l1 : Int32) (σ : j_G) : f_X7_fitsBoard l1 σ = 0 ∨ f_X7_fitsBoard l1 σ = 1 := by
  unfold f_X7_fitsBoard
  repeat' split
  all_goals first | exact Or.inl rfl | exact Or.inr rfl
theorem c_X7_fitsBoard (l1 : Int32) (σ : j_G) : j_K true 1 81 [.ref 10, .int l1] σ (some (f_X7_fitsBoard l1 σ)) (j_Pi σ) := by
  refine j_mkK (M := M_cX7_fitsBoard) (L := [some (.ref 10), some (.int l1)]) (m := 0) t_81 rfl (j_rcvO j_a10 rfl) rfl (fun d hd τ => ?_)
  unfold f_X7_fitsBoard
  refine j_iload_n (pc' := 1) rfl rfl rfl ?_
  refine j_splT (k := (0 : Int32)) (fun h1 => ?_) (fun h1 => ?_)
  · refine j_sw (t := 28) h1 rfl rfl (fun _ _ => rfl) ?_
    refine j_aload_n (pc' := 29) rfl rfl rfl ?_
    refine j_iconst (pc' := 30) (x := (1 : Int32)) rfl rfl rfl ?_
    refine j_iconst (pc' := 31) (x := (4 : Int32)) rfl rfl rfl ?_
    refine j_callTi (pc' := 34) (ai := 80) (vs := [.ref 10, .int (1 : Int32), .int (4 : Int32)]) (rest := []) rfl rfl (fun _ _ => rfl) (c_X7_within (1 : Int32) (4 : Int32) σ) (j_dd rfl hd) rfl ?_
    refine j_twoT (pT := 37) (pF := 41) (L1 := [some (.ref 10), some (.int l1)]) (st1 := []) (fun o kT kF => ?_) (fun h2 => ?_) (fun h2 => ?_)
    · refine j_ifne (t := 41) (pc' := 37) rfl rfl rfl (fun h3 => ?_) (fun h3 => ?_)
      · exact kF h3
      · exact kT h3
    · refine j_iconst (pc' := 38) (x := (1 : Int32)) rfl rfl rfl ?_
      refine j_goto (t := 42) rfl rfl ?_
      exact j_ret rfl rfl rfl (fun _ h => h)
    · refine j_iconst (pc' := 42) (x := (0 : Int32)) rfl rfl rfl ?_
      exact j_ret rfl rfl rfl (fun _ h => h)
  refine j_splT (k := (1 : Int32)) (fun h4 => ?_) (fun h4 => ?_)
  · refine j_sw (t := 43) h4 rfl rfl (fun _ _ => rfl) ?_
    refine j_aload_n (pc' := 44) rfl rfl rfl ?_
    refine j_iconst (pc' := 45) (x := (1 : Int32)) rfl rfl rfl ?_
    refine j_iconst (pc' := 46) (x := (3 : Int32)) rfl rfl rfl ?_
    refine j_callTi (pc' := 49) (ai := 80) (vs := [.ref 10, .int (1 : Int32), .int (3 : Int32)]) (rest := []) rfl rfl (fun _ _ => rfl) (c_X7_within (1 : Int32) (3 : Int32) σ) (j_dd rfl hd) rfl ?_
    refine j_twoT (pT := 52) (pF := 56) (L1 := [some (.ref 10), some (.int l1)]) (st1 := []) (fun o kT kF => ?_) (fun h5 => ?_) (fun h5 => ?_)
    · refine j_ifne (t := 56) (pc' := 52) rfl rfl rfl (fun h6 => ?_) (fun h6 => ?_)
      · exact kF h6
      · exact kT h6
    · refine j_iconst (pc' := 53) (x := (1 : Int32)) rfl rfl rfl ?_
      refine j_goto (t := 57) rfl rfl ?_
      exact j_ret rfl rfl rfl (fun _ h => h)
    · refine j_iconst (pc' := 57) (x := (0 : Int32)) rfl rfl rfl ?_
      exact j_ret rfl rfl rfl (fun _ h => h)
  refine j_splT (k := (2 : Int32)) (fun h7 => ?_) (fun h7 => ?_)
  · refine j_sw (t := 58) h7 rfl rfl (fun _ _ => rfl) ?_
    refine j_aload_n (pc' := 59) rfl rfl rfl ?_
    refine j_iconst (pc' := 60) (x := (1 : Int32)) rfl rfl rfl ?_
    refine j_sipush (pc' := 63) (x := (200 : Int32)) rfl rfl rfl ?_
    refine j_callTi (pc' := 66) (ai := 80) (vs := [.ref 10, .int (1 : Int32), .int (200 : Int32)]) (rest := []) rfl rfl (fun _ _ => rfl) (c_X7_within (1 : Int32) (200 : Int32) σ) (j_dd rfl hd) rfl ?_
    refine j_twoT (pT := 69) (pF := 73) (L1 := [some (.ref 10), some (.int l1)]) (st1 := []) (fun o kT kF => ?_) (fun h8 => ?_) (fun h8 => ?_)
    · refine j_ifne (t := 73) (pc' := 69) rfl rfl rfl (fun h9 => ?_) (fun h9 => ?_)
      · exact kF h9
      · exact kT h9
    · refine j_iconst (pc' := 70) (x := (1 : Int32)) rfl rfl rfl ?_
      refine j_goto (t := 74) rfl rfl ?_
      exact j_ret rfl rfl rfl (fun _ h => h)
    · refine j_iconst (pc' := 74) (x := (0 : Int32)) rfl rfl rfl ?_
      exact j_ret rfl rfl rfl (fun _ h => h)
  have eh1 := j_ne (0) (by decide) h1
  have eh4 := j_ne (1) (by decide) h4
  have eh7 := j_ne (2) (by decide) h7
  refine j_tsd (t := 75) rfl (by omega) rfl ?_
  refine j_aload_n (pc' := 76) rfl rfl rfl ?_
  refine j_iconst (pc' := 77) (x := (0 : Int32)) rfl rfl rfl ?_
  refine j_bipush (pc' := 79) (x := (9 : Int32)) rfl rfl rfl ?_
  refine j_callTi (pc' := 82) (ai := 80) (vs := [.ref 10, .int (0 : Int32), .int (9 : Int32)]) (rest := []) rfl rfl (fun _ _ => rfl) (c_X7_within (0 : Int32) (9 : Int32) σ) (j_dd rfl hd) rfl ?_
  refine j_twoT (pT := 85) (pF := 89) (L1 := [some (.ref 10), some (.int l1)]) (st1 := []) (fun o kT kF => ?_) (fun h10 => ?_) (fun h10 => ?_)
  · refine j_ifne (t := 89) (pc' := 85) rfl rfl rfl (fun h11 => ?_) (fun h11 => ?_)
    · exact kF h11
    · exact kT h11
  · refine j_iconst (pc' := 86) (x := (1 : Int32)) rfl rfl rfl ?_
    refine j_goto (t := 90) rfl rfl ?_
    exact j_ret rfl rfl rfl (fun _ h => h)
  · refine j_iconst (pc' := 90) (x := (0 : Int32)) rfl rfl rfl ?_
    exact j_ret rfl rfl rfl (fun _ h => h)

noncomputable def f_X2_isTick (a0 : Nat) (l1 : Int32) (σ : j_G) : Int32 :=
  if (¬ l1 < 0) ∧ (l1 < (σ.1 a0 4)) then ((1 : Int32)) else ((0 : Int32))

theorem b_X2_isTick (a0 : Nat) (l1 : Int32) (σ : j_G) : f_X2_isTick a0 l1 σ = 0 ∨ f_X2_isTick a0 l1 σ = 1 := by
  unfold f_X2_isTick
  repeat' split
  all_goals first | exact Or.inl rfl | exact Or.inr rfl
theorem c_X2_isTick_11 (l1 : Int32) (σ : j_G) : j_K true 0 14 [.ref 11, .int l1] σ (some (f_X2_isTick 11 l1 σ)) (j_Pi σ) := by
  refine j_mkK (M := M_cX2_isTick) (L := [some (.ref 11), some (.int l1)]) (m := 0) t_14 rfl (j_rcvO j_a11 rfl) rfl (fun d hd τ => ?_)
  unfold f_X2_isTick
  refine j_iload_n (pc' := 1) rfl rfl rfl ?_
  refine j_twoT (pT := 12) (pF := 16) (L1 := [some (.ref 11), some (.int l1)]) (st1 := []) (fun o kT kF => ?_) (fun h1 => ?_) (fun h1 => ?_)
  · refine j_iflt (t := 16) (pc' := 4) rfl rfl rfl (fun h2 => ?_) (fun h2 => ?_)
    · exact kF (fun z => z.1 h2)
    · refine j_iload_n (pc' := 5) rfl rfl rfl ?_
      refine j_aload_n (pc' := 6) rfl rfl rfl ?_
      refine j_gfi (pc' := 9) rfl rfl j_a11 rfl ?_
      refine j_icge (t := 16) (pc' := 12) rfl rfl rfl (fun h3 => ?_) (fun h3 => ?_)
      · exact kF (fun z => (h3) z.2)
      · exact kT (⟨h2, h3⟩)
  · refine j_iconst (pc' := 13) (x := (1 : Int32)) rfl rfl rfl ?_
    refine j_goto (t := 17) rfl rfl ?_
    exact j_ret rfl rfl rfl (fun _ h => h)
  · refine j_iconst (pc' := 17) (x := (0 : Int32)) rfl rfl rfl ?_
    exact j_ret rfl rfl rfl (fun _ h => h)

noncomputable def p_X2_hasStayFrom_2 (l1 : Int32) (σ : j_G) : Nat → Int32 → Option Int32
  | 0, _ => none
  | n + 1, l2 =>
    if l2 < (σ.1 11 10) then (j_ix l2 6 (
    if (σ.1 12 (l2).toNatClampNeg) = l1 then (some (1 : Int32)) else (p_X2_hasStayFrom_2 l1 σ n (l2 + (1 : Int32))))) else (some (0 : Int32))

noncomputable def f_X2_hasStayFrom (l1 : Int32) (σ : j_G) : Option Int32 :=
  p_X2_hasStayFrom_2 l1 σ j_F (0 : Int32)
theorem l_X2_hasStayFrom_2 {d : Nat} (hd : 0 ≤ d) (τ : j_G) (l1 : Int32) (σ : j_G) : ∀ (n : Nat) (l2 : Int32), j_J true τ M_cX2_hasStayFrom d 2 [some (.ref 11), some (.int l1), some (.int l2)] [] σ (p_X2_hasStayFrom_2 l1 σ n l2) (j_Pi σ) := by
  intro n
  induction n with
  | zero => intro l2; exact j_none
  | succ n ih =>
    intro l2
    unfold p_X2_hasStayFrom_2
    refine j_iload_n (pc' := 3) rfl rfl rfl ?_
    refine j_aload_n (pc' := 4) rfl rfl rfl ?_
    refine j_gfi (pc' := 7) rfl rfl j_a11 rfl ?_
    refine j_two (pT := 10) (pF := 28) (L1 := [some (.ref 11), some (.int l1), some (.int l2)]) (st1 := []) (fun o kT kF => ?_) (fun h3 => ?_) (fun h3 => ?_)
    · refine j_icge (t := 28) (pc' := 10) rfl rfl rfl (fun h4 => ?_) (fun h4 => ?_)
      · exact kF h4
      · exact kT h4
    · refine j_aload_n (pc' := 11) rfl rfl rfl ?_
      refine j_gfr (pc' := 14) (x := 12) rfl rfl j_a11 rfl rfl ?_
      refine j_iload_n (pc' := 15) rfl rfl rfl ?_
      refine j_iald (pc' := 16) rfl rfl j_a12 ?_
      refine j_iload_n (pc' := 17) rfl rfl rfl ?_
      refine j_two (pT := 20) (pF := 22) (L1 := [some (.ref 11), some (.int l1), some (.int l2)]) (st1 := []) (fun o kT kF => ?_) (fun h1 => ?_) (fun h1 => ?_)
      · refine j_icne (t := 22) (pc' := 20) rfl rfl rfl (fun h2 => ?_) (fun h2 => ?_)
        · exact kF h2
        · exact kT h2
      · refine j_iconst (pc' := 21) (x := (1 : Int32)) rfl rfl rfl ?_
        exact j_ret rfl rfl rfl (fun _ h => h)
      · refine j_iincx (pc' := 25) (y := (1 : Int32)) (L' := [some (.ref 11), some (.int l1), some (.int (l2 + (1 : Int32)))]) rfl rfl rfl rfl rfl ?_
        refine j_goto (t := 2) rfl rfl ?_
        exact ih (l2 + (1 : Int32))
    · refine j_iconst (pc' := 29) (x := (0 : Int32)) rfl rfl rfl ?_
      exact j_ret rfl rfl rfl (fun _ h => h)

theorem c_X2_hasStayFrom (l1 : Int32) (σ : j_G) : j_K true 0 22 [.ref 11, .int l1] σ (f_X2_hasStayFrom l1 σ) (j_Pi σ) := by
  refine j_mkK (M := M_cX2_hasStayFrom) (L := [some (.ref 11), some (.int l1), none]) (m := 1) t_22 rfl (j_rcvO j_a11 rfl) rfl (fun d hd τ => ?_)
  unfold f_X2_hasStayFrom
  refine j_iconst (pc' := 1) (x := (0 : Int32)) rfl rfl rfl ?_
  refine j_istore_n (pc' := 2) (L' := [some (.ref 11), some (.int l1), some (.int (0 : Int32))]) rfl rfl rfl ?_
  exact (l_X2_hasStayFrom_2 hd τ l1 σ j_F (0 : Int32))

noncomputable def f_X7_judgeFrom (σ : j_G) : Option Int32 :=
  if (f_X2_isTick 11 (σ.1 10 8) σ) = 0 then (some (2 : Int32)) else (if ¬ (σ.1 11 10) < (6 : Int32) then (j_b1 (f_X2_hasStayFrom (σ.1 10 8) σ) fun v1 =>
  if v1 = 0 then (some (3 : Int32)) else (some (0 : Int32))) else (some (0 : Int32)))
theorem c_X7_judgeFrom (σ : j_G) : j_K true 1 82 [.ref 10] σ (f_X7_judgeFrom σ) (j_Pi σ) := by
  refine j_mkK (M := M_cX7_judgeFrom) (L := [some (.ref 10)]) (m := 0) t_82 rfl (j_rcvO j_a10 rfl) rfl (fun d hd τ => ?_)
  unfold f_X7_judgeFrom
  refine j_aload_n (pc' := 1) rfl rfl rfl ?_
  refine j_gfr (pc' := 4) (x := 11) rfl rfl j_a10 rfl rfl ?_
  refine j_aload_n (pc' := 5) rfl rfl rfl ?_
  refine j_gfi (pc' := 8) rfl rfl j_a10 rfl ?_
  refine j_callTi (pc' := 11) (ai := 14) (vs := [.ref 11, .int (σ.1 10 8)]) (rest := []) rfl rfl (fun _ _ => rfl) (c_X2_isTick_11 (σ.1 10 8) σ) (j_dd rfl hd) rfl ?_
  refine j_two (pT := 14) (pF := 16) (L1 := [some (.ref 10)]) (st1 := []) (fun o kT kF => ?_) (fun h5 => ?_) (fun h5 => ?_)
  · refine j_ifne (t := 16) (pc' := 14) rfl rfl rfl (fun h6 => ?_) (fun h6 => ?_)
    · exact kF h6
    · exact kT h6
  · refine j_iconst (pc' := 15) (x := (2 : Int32)) rfl rfl rfl ?_
    exact j_ret rfl rfl rfl (fun _ h => h)
  · refine j_aload_n (pc' := 17) rfl rfl rfl ?_
    refine j_gfr (pc' := 20) (x := 11) rfl rfl j_a10 rfl rfl ?_
    refine j_gfi (pc' := 23) rfl rfl j_a11 rfl ?_
    refine j_bipush (pc' := 25) (x := (6 : Int32)) rfl rfl rfl ?_
    refine j_two (pT := 28) (pF := 46) (L1 := [some (.ref 10)]) (st1 := []) (fun o kT kF => ?_) (fun h3 => ?_) (fun h3 => ?_)
    · refine j_iclt (t := 46) (pc' := 28) rfl rfl rfl (fun h4 => ?_) (fun h4 => ?_)
      · exact kF (fun z => z h4)
      · exact kT h4
    · refine j_aload_n (pc' := 29) rfl rfl rfl ?_
      refine j_gfr (pc' := 32) (x := 11) rfl rfl j_a10 rfl rfl ?_
      refine j_aload_n (pc' := 33) rfl rfl rfl ?_
      refine j_gfi (pc' := 36) rfl rfl j_a10 rfl ?_
      refine j_callPi (pc' := 39) (ai := 22) (vs := [.ref 11, .int (σ.1 10 8)]) (rest := []) rfl rfl (fun _ _ => rfl) (c_X2_hasStayFrom (σ.1 10 8) σ) (j_dd rfl hd) rfl (fun v1 => ?_)
      refine j_two (pT := 42) (pF := 46) (L1 := [some (.ref 10)]) (st1 := []) (fun o kT kF => ?_) (fun h1 => ?_) (fun h1 => ?_)
      · refine j_ifne (t := 46) (pc' := 42) rfl rfl rfl (fun h2 => ?_) (fun h2 => ?_)
        · exact kF h2
        · exact kT h2
      · refine j_iconst (pc' := 43) (x := (3 : Int32)) rfl rfl rfl ?_
        refine j_goto (t := 47) rfl rfl ?_
        exact j_ret rfl rfl rfl (fun _ h => h)
      · refine j_iconst (pc' := 47) (x := (0 : Int32)) rfl rfl rfl ?_
        exact j_ret rfl rfl rfl (fun _ h => h)
    · refine j_iconst (pc' := 47) (x := (0 : Int32)) rfl rfl rfl ?_
      exact j_ret rfl rfl rfl (fun _ h => h)

noncomputable def f_X2_holes (a0 : Nat) (σ : j_G) : Int32 :=
  ((σ.1 a0 2) * (σ.1 a0 3))
theorem c_X2_holes_11 (σ : j_G) : j_K true 0 12 [.ref 11] σ (some (f_X2_holes 11 σ)) (j_Pi σ) := by
  refine j_mkK (M := M_cX2_holes) (L := [some (.ref 11)]) (m := 0) t_12 rfl (j_rcvO j_a11 rfl) rfl (fun d hd τ => ?_)
  unfold f_X2_holes
  refine j_aload_n (pc' := 1) rfl rfl rfl ?_
  refine j_gfi (pc' := 4) rfl rfl j_a11 rfl ?_
  refine j_aload_n (pc' := 5) rfl rfl rfl ?_
  refine j_gfi (pc' := 8) rfl rfl j_a11 rfl ?_
  refine j_imul (pc' := 9) rfl rfl ?_
  exact j_ret rfl rfl rfl (fun _ h => h)

noncomputable def f_X2_isHole (a0 : Nat) (l1 : Int32) (σ : j_G) : Int32 :=
  if (¬ l1 < 0) ∧ (l1 < (f_X2_holes a0 σ)) then ((1 : Int32)) else ((0 : Int32))

theorem b_X2_isHole (a0 : Nat) (l1 : Int32) (σ : j_G) : f_X2_isHole a0 l1 σ = 0 ∨ f_X2_isHole a0 l1 σ = 1 := by
  unfold f_X2_isHole
  repeat' split
  all_goals first | exact Or.inl rfl | exact Or.inr rfl
theorem c_X2_isHole_11 (l1 : Int32) (σ : j_G) : j_K true 1 13 [.ref 11, .int l1] σ (some (f_X2_isHole 11 l1 σ)) (j_Pi σ) := by
  refine j_mkK (M := M_cX2_isHole) (L := [some (.ref 11), some (.int l1)]) (m := 0) t_13 rfl (j_rcvO j_a11 rfl) rfl (fun d hd τ => ?_)
  unfold f_X2_isHole
  refine j_iload_n (pc' := 1) rfl rfl rfl ?_
  refine j_twoT (pT := 12) (pF := 16) (L1 := [some (.ref 11), some (.int l1)]) (st1 := []) (fun o kT kF => ?_) (fun h1 => ?_) (fun h1 => ?_)
  · refine j_iflt (t := 16) (pc' := 4) rfl rfl rfl (fun h2 => ?_) (fun h2 => ?_)
    · exact kF (fun z => z.1 h2)
    · refine j_iload_n (pc' := 5) rfl rfl rfl ?_
      refine j_aload_n (pc' := 6) rfl rfl rfl ?_
      refine j_callTi (pc' := 9) (ai := 12) (vs := [.ref 11]) (rest := [.int l1]) rfl rfl (fun _ _ => rfl) (c_X2_holes_11  σ) (j_dd rfl hd) rfl ?_
      refine j_icge (t := 16) (pc' := 12) rfl rfl rfl (fun h3 => ?_) (fun h3 => ?_)
      · exact kF (fun z => (h3) z.2)
      · exact kT (⟨h2, h3⟩)
  · refine j_iconst (pc' := 13) (x := (1 : Int32)) rfl rfl rfl ?_
    refine j_goto (t := 17) rfl rfl ?_
    exact j_ret rfl rfl rfl (fun _ h => h)
  · refine j_iconst (pc' := 17) (x := (0 : Int32)) rfl rfl rfl ?_
    exact j_ret rfl rfl rfl (fun _ h => h)

noncomputable def f_X2_isShut (a0 : Nat) (l1 : Int32) (σ : j_G) : Int32 :=
  if ¬ (((σ.1 a0 6) >>> (l1 &&& 31)) &&& (1 : Int32)) = 0 then ((1 : Int32)) else ((0 : Int32))

theorem b_X2_isShut (a0 : Nat) (l1 : Int32) (σ : j_G) : f_X2_isShut a0 l1 σ = 0 ∨ f_X2_isShut a0 l1 σ = 1 := by
  unfold f_X2_isShut
  repeat' split
  all_goals first | exact Or.inl rfl | exact Or.inr rfl
theorem c_X2_isShut_11 (l1 : Int32) (σ : j_G) : j_K true 0 16 [.ref 11, .int l1] σ (some (f_X2_isShut 11 l1 σ)) (j_Pi σ) := by
  refine j_mkK (M := M_cX2_isShut) (L := [some (.ref 11), some (.int l1)]) (m := 0) t_16 rfl (j_rcvO j_a11 rfl) rfl (fun d hd τ => ?_)
  unfold f_X2_isShut
  refine j_aload_n (pc' := 1) rfl rfl rfl ?_
  refine j_gfi (pc' := 4) rfl rfl j_a11 rfl ?_
  refine j_iload_n (pc' := 5) rfl rfl rfl ?_
  refine j_ishr (pc' := 6) rfl rfl ?_
  refine j_iconst (pc' := 7) (x := (1 : Int32)) rfl rfl rfl ?_
  refine j_iand (pc' := 8) rfl rfl ?_
  refine j_twoT (pT := 11) (pF := 15) (L1 := [some (.ref 11), some (.int l1)]) (st1 := []) (fun o kT kF => ?_) (fun h1 => ?_) (fun h1 => ?_)
  · refine j_ifeq (t := 15) (pc' := 11) rfl rfl rfl (fun h2 => ?_) (fun h2 => ?_)
    · exact kF (fun z => z h2)
    · exact kT h2
  · refine j_iconst (pc' := 12) (x := (1 : Int32)) rfl rfl rfl ?_
    refine j_goto (t := 16) rfl rfl ?_
    exact j_ret rfl rfl rfl (fun _ h => h)
  · refine j_iconst (pc' := 16) (x := (0 : Int32)) rfl rfl rfl ?_
    exact j_ret rfl rfl rfl (fun _ h => h)

noncomputable def f_X7_isOpen (σ : j_G) : Int32 :=
  if (¬ (f_X2_isHole 11 (σ.1 10 8) σ) = 0) ∧ ((f_X2_isShut 11 (σ.1 10 8) σ) = 0) then ((1 : Int32)) else ((0 : Int32))

theorem b_X7_isOpen (σ : j_G) : f_X7_isOpen σ = 0 ∨ f_X7_isOpen σ = 1 := by
  unfold f_X7_isOpen
  repeat' split
  all_goals first | exact Or.inl rfl | exact Or.inr rfl | apply b_X2_isHole | apply b_X2_isShut
theorem c_X7_isOpen (σ : j_G) : j_K true 2 83 [.ref 10] σ (some (f_X7_isOpen σ)) (j_Pi σ) := by
  refine j_mkK (M := M_cX7_isOpen) (L := [some (.ref 10)]) (m := 0) t_83 rfl (j_rcvO j_a10 rfl) rfl (fun d hd τ => ?_)
  unfold f_X7_isOpen
  refine j_aload_n (pc' := 1) rfl rfl rfl ?_
  refine j_gfr (pc' := 4) (x := 11) rfl rfl j_a10 rfl rfl ?_
  refine j_aload_n (pc' := 5) rfl rfl rfl ?_
  refine j_gfi (pc' := 8) rfl rfl j_a10 rfl ?_
  refine j_callTi (pc' := 11) (ai := 13) (vs := [.ref 11, .int (σ.1 10 8)]) (rest := []) rfl rfl (fun _ _ => rfl) (c_X2_isHole_11 (σ.1 10 8) σ) (j_dd rfl hd) rfl ?_
  refine j_twoT (pT := 28) (pF := 32) (L1 := [some (.ref 10)]) (st1 := []) (fun o kT kF => ?_) (fun h1 => ?_) (fun h1 => ?_)
  · refine j_ifeq (t := 32) (pc' := 14) rfl rfl rfl (fun h2 => ?_) (fun h2 => ?_)
    · exact kF (fun z => z.1 h2)
    · refine j_aload_n (pc' := 15) rfl rfl rfl ?_
      refine j_gfr (pc' := 18) (x := 11) rfl rfl j_a10 rfl rfl ?_
      refine j_aload_n (pc' := 19) rfl rfl rfl ?_
      refine j_gfi (pc' := 22) rfl rfl j_a10 rfl ?_
      refine j_callTi (pc' := 25) (ai := 16) (vs := [.ref 11, .int (σ.1 10 8)]) (rest := []) rfl rfl (fun _ _ => rfl) (c_X2_isShut_11 (σ.1 10 8) σ) (j_dd rfl hd) rfl ?_
      refine j_ifne (t := 32) (pc' := 28) rfl rfl rfl (fun h3 => ?_) (fun h3 => ?_)
      · exact kF (fun z => (h3) z.2)
      · exact kT (⟨h2, h3⟩)
  · refine j_iconst (pc' := 29) (x := (1 : Int32)) rfl rfl rfl ?_
    refine j_goto (t := 33) rfl rfl ?_
    exact j_ret rfl rfl rfl (fun _ h => h)
  · refine j_iconst (pc' := 33) (x := (0 : Int32)) rfl rfl rfl ?_
    exact j_ret rfl rfl rfl (fun _ h => h)

noncomputable def p_X3_oftenAt_4 (a0 : Nat) (a0_2 : Nat) (a0_3 : Nat) (l1 : Int32) (σ : j_G) : Nat → Int32 → Int32 → Option Int32
  | 0, _, _ => none
  | n + 1, l2, l3 =>
    if l3 < (σ.1 a0 0) then (j_ix l3 24 (
    j_b1 (if ¬ (σ.1 a0_2 (l3).toNatClampNeg) = l1 then (j_ix l3 24 (
    if (σ.1 a0_3 (l3).toNatClampNeg) = l1 then (some (l2 + (1 : Int32))) else (some l2))) else (some (l2 + (1 : Int32)))) fun v1 =>
    p_X3_oftenAt_4 a0 a0_2 a0_3 l1 σ n v1 (l3 + (1 : Int32)))) else (some l2)

noncomputable def f_X3_oftenAt (a0 : Nat) (a0_2 : Nat) (a0_3 : Nat) (l1 : Int32) (σ : j_G) : Option Int32 :=
  j_b1 (p_X3_oftenAt_4 a0 a0_2 a0_3 l1 σ j_F (0 : Int32) (0 : Int32)) fun v1 =>
  some v1
theorem l_X3_oftenAt_4_15 {d : Nat} (hd : 0 ≤ d) (τ : j_G) (l1 : Int32) (σ : j_G) : ∀ (n : Nat) (l2 : Int32) (l3 : Int32), j_J true τ M_cX3_oftenAt d 4 [some (.ref 15), some (.int l1), some (.int l2), some (.int l3)] [] σ (p_X3_oftenAt_4 15 16 17 l1 σ n l2 l3) (fun r Q => j_Tr true τ M_cX3_oftenAt d 41 [none, none, some (.int r), none] [] σ Q) := by
  intro n
  induction n with
  | zero => intro l2 l3; exact j_none
  | succ n ih =>
    intro l2 l3
    unfold p_X3_oftenAt_4
    refine j_iload_n (pc' := 5) rfl rfl rfl ?_
    refine j_aload_n (pc' := 6) rfl rfl rfl ?_
    refine j_gfi (pc' := 9) rfl rfl j_a15 rfl ?_
    refine j_two (pT := 12) (pF := 41) (L1 := [some (.ref 15), some (.int l1), some (.int l2), some (.int l3)]) (st1 := []) (fun o kT kF => ?_) (fun h5 => ?_) (fun h5 => ?_)
    · refine j_icge (t := 41) (pc' := 12) rfl rfl rfl (fun h6 => ?_) (fun h6 => ?_)
      · exact kF h6
      · exact kT h6
    · refine j_aload_n (pc' := 13) rfl rfl rfl ?_
      refine j_gfr (pc' := 16) (x := 16) rfl rfl j_a15 rfl rfl ?_
      refine j_iload_n (pc' := 17) rfl rfl rfl ?_
      refine j_iald (pc' := 18) rfl rfl j_a16 ?_
      refine j_iload_n (pc' := 19) rfl rfl rfl ?_
      refine j_q1 (Φl := (fun r Q => j_Tr true τ M_cX3_oftenAt d 35 [some (.ref 15), some (.int l1), some (.int r), some (.int l3)] [] σ Q)) ?_ (fun v1 => ?_)
      · refine j_two (pT := 22) (pF := 32) (L1 := [some (.ref 15), some (.int l1), some (.int l2), some (.int l3)]) (st1 := []) (fun o kT kF => ?_) (fun h3 => ?_) (fun h3 => ?_)
        · refine j_iceq (t := 32) (pc' := 22) rfl rfl rfl (fun h4 => ?_) (fun h4 => ?_)
          · exact kF (fun z => z h4)
          · exact kT h4
        · refine j_aload_n (pc' := 23) rfl rfl rfl ?_
          refine j_gfr (pc' := 26) (x := 17) rfl rfl j_a15 rfl rfl ?_
          refine j_iload_n (pc' := 27) rfl rfl rfl ?_
          refine j_iald (pc' := 28) rfl rfl j_a17 ?_
          refine j_iload_n (pc' := 29) rfl rfl rfl ?_
          refine j_two (pT := 32) (pF := 35) (L1 := [some (.ref 15), some (.int l1), some (.int l2), some (.int l3)]) (st1 := []) (fun o kT kF => ?_) (fun h1 => ?_) (fun h1 => ?_)
          · refine j_icne (t := 35) (pc' := 32) rfl rfl rfl (fun h2 => ?_) (fun h2 => ?_)
            · exact kF h2
            · exact kT h2
          · refine j_iincx (pc' := 35) (y := (1 : Int32)) (L' := [some (.ref 15), some (.int l1), some (.int (l2 + (1 : Int32))), some (.int l3)]) rfl rfl rfl rfl rfl ?_
            exact j_end (fun _ h => h)
          · exact j_end (fun _ h => h)
        · refine j_iincx (pc' := 35) (y := (1 : Int32)) (L' := [some (.ref 15), some (.int l1), some (.int (l2 + (1 : Int32))), some (.int l3)]) rfl rfl rfl rfl rfl ?_
          exact j_end (fun _ h => h)
      show j_J true τ M_cX3_oftenAt d 35 [some (.ref 15), some (.int l1), some (.int v1), some (.int l3)] [] σ _ _
      refine j_iincx (pc' := 38) (y := (1 : Int32)) (L' := [some (.ref 15), some (.int l1), some (.int v1), some (.int (l3 + (1 : Int32)))]) rfl rfl rfl rfl rfl ?_
      refine j_goto (t := 4) rfl rfl ?_
      exact ih v1 (l3 + (1 : Int32))
    · refine j_wk [false, false, true, false] (L' := [none, none, some (.int l2), none]) rfl ?_
      exact j_end (fun _ h => h)

theorem c_X3_oftenAt_15 (l1 : Int32) (σ : j_G) : j_K true 0 36 [.ref 15, .int l1] σ (f_X3_oftenAt 15 16 17 l1 σ) (j_Pi σ) := by
  refine j_mkK (M := M_cX3_oftenAt) (L := [some (.ref 15), some (.int l1), none, none]) (m := 2) t_36 rfl (j_rcvO j_a15 rfl) rfl (fun d hd τ => ?_)
  unfold f_X3_oftenAt
  refine j_iconst (pc' := 1) (x := (0 : Int32)) rfl rfl rfl ?_
  refine j_istore_n (pc' := 2) (L' := [some (.ref 15), some (.int l1), some (.int (0 : Int32)), none]) rfl rfl rfl ?_
  refine j_iconst (pc' := 3) (x := (0 : Int32)) rfl rfl rfl ?_
  refine j_istore_n (pc' := 4) (L' := [some (.ref 15), some (.int l1), some (.int (0 : Int32)), some (.int (0 : Int32))]) rfl rfl rfl ?_
  refine j_q1 (l_X3_oftenAt_4_15 hd τ l1 σ j_F (0 : Int32) (0 : Int32)) (fun v1 => ?_)
  show j_J true τ M_cX3_oftenAt d 41 [none, none, some (.int v1), none] [] σ _ _
  refine j_iload_n (pc' := 42) rfl rfl rfl ?_
  exact j_ret rfl rfl rfl (fun _ h => h)

noncomputable def f_X2_isTrait (a0 : Nat) (l1 : Int32) (l2 : Int32) (σ : j_G) : Int32 :=
  if l1 = 0 then (if (¬ l2 < (1 : Int32)) ∧ (¬ (9 : Int32) < l2) then ((1 : Int32)) else ((0 : Int32))) else
  if l1 = 1 then (if (¬ l2 < 0) ∧ (¬ (20 : Int32) < l2) then ((1 : Int32)) else ((0 : Int32))) else
  if l1 = 2 then (if (¬ l2 < 0) ∧ (¬ (99 : Int32) < l2) then ((1 : Int32)) else ((0 : Int32))) else
  if l1 = 3 then (if (¬ l2 < 0) ∧ (¬ (9 : Int32) < l2) then ((1 : Int32)) else ((0 : Int32))) else
  if l1 = 4 then ((f_X2_isHole a0 l2 σ)) else
  ((0 : Int32))

theorem b_X2_isTrait (a0 : Nat) (l1 : Int32) (l2 : Int32) (σ : j_G) : f_X2_isTrait a0 l1 l2 σ = 0 ∨ f_X2_isTrait a0 l1 l2 σ = 1 := by
  unfold f_X2_isTrait
  repeat' split
  all_goals first | exact Or.inl rfl | exact Or.inr rfl | apply b_X2_isHole
theorem c_X2_isTrait_11 (l1 : Int32) (l2 : Int32) (σ : j_G) : j_K true 2 26 [.ref 11, .int l1, .int l2] σ (some (f_X2_isTrait 11 l1 l2 σ)) (j_Pi σ) := by
  refine j_mkK (M := M_cX2_isTrait) (L := [some (.ref 11), some (.int l1), some (.int l2)]) (m := 0) t_26 rfl (j_rcvO j_a11 rfl) rfl (fun d hd τ => ?_)
  unfold f_X2_isTrait
  refine j_iload_n (pc' := 1) rfl rfl rfl ?_
  refine j_splT (k := (0 : Int32)) (fun h1 => ?_) (fun h1 => ?_)
  · refine j_sw (t := 36) h1 rfl rfl (fun _ _ => rfl) ?_
    refine j_iload_n (pc' := 37) rfl rfl rfl ?_
    refine j_iconst (pc' := 38) (x := (1 : Int32)) rfl rfl rfl ?_
    refine j_twoT (pT := 47) (pF := 51) (L1 := [some (.ref 11), some (.int l1), some (.int l2)]) (st1 := []) (fun o kT kF => ?_) (fun h2 => ?_) (fun h2 => ?_)
    · refine j_iclt (t := 51) (pc' := 41) rfl rfl rfl (fun h3 => ?_) (fun h3 => ?_)
      · exact kF (fun z => z.1 h3)
      · refine j_iload_n (pc' := 42) rfl rfl rfl ?_
        refine j_bipush (pc' := 44) (x := (9 : Int32)) rfl rfl rfl ?_
        refine j_icgt (t := 51) (pc' := 47) rfl rfl rfl (fun h4 => ?_) (fun h4 => ?_)
        · exact kF (fun z => (fun z => z h4) z.2)
        · exact kT (⟨h3, h4⟩)
    · refine j_iconst (pc' := 48) (x := (1 : Int32)) rfl rfl rfl ?_
      refine j_goto (t := 52) rfl rfl ?_
      exact j_ret rfl rfl rfl (fun _ h => h)
    · refine j_iconst (pc' := 52) (x := (0 : Int32)) rfl rfl rfl ?_
      exact j_ret rfl rfl rfl (fun _ h => h)
  refine j_splT (k := (1 : Int32)) (fun h5 => ?_) (fun h5 => ?_)
  · refine j_sw (t := 53) h5 rfl rfl (fun _ _ => rfl) ?_
    refine j_iload_n (pc' := 54) rfl rfl rfl ?_
    refine j_twoT (pT := 63) (pF := 67) (L1 := [some (.ref 11), some (.int l1), some (.int l2)]) (st1 := []) (fun o kT kF => ?_) (fun h6 => ?_) (fun h6 => ?_)
    · refine j_iflt (t := 67) (pc' := 57) rfl rfl rfl (fun h7 => ?_) (fun h7 => ?_)
      · exact kF (fun z => z.1 h7)
      · refine j_iload_n (pc' := 58) rfl rfl rfl ?_
        refine j_bipush (pc' := 60) (x := (20 : Int32)) rfl rfl rfl ?_
        refine j_icgt (t := 67) (pc' := 63) rfl rfl rfl (fun h8 => ?_) (fun h8 => ?_)
        · exact kF (fun z => (fun z => z h8) z.2)
        · exact kT (⟨h7, h8⟩)
    · refine j_iconst (pc' := 64) (x := (1 : Int32)) rfl rfl rfl ?_
      refine j_goto (t := 68) rfl rfl ?_
      exact j_ret rfl rfl rfl (fun _ h => h)
    · refine j_iconst (pc' := 68) (x := (0 : Int32)) rfl rfl rfl ?_
      exact j_ret rfl rfl rfl (fun _ h => h)
  refine j_splT (k := (2 : Int32)) (fun h9 => ?_) (fun h9 => ?_)
  · refine j_sw (t := 69) h9 rfl rfl (fun _ _ => rfl) ?_
    refine j_iload_n (pc' := 70) rfl rfl rfl ?_
    refine j_twoT (pT := 79) (pF := 83) (L1 := [some (.ref 11), some (.int l1), some (.int l2)]) (st1 := []) (fun o kT kF => ?_) (fun h10 => ?_) (fun h10 => ?_)
    · refine j_iflt (t := 83) (pc' := 73) rfl rfl rfl (fun h11 => ?_) (fun h11 => ?_)
      · exact kF (fun z => z.1 h11)
      · refine j_iload_n (pc' := 74) rfl rfl rfl ?_
        refine j_bipush (pc' := 76) (x := (99 : Int32)) rfl rfl rfl ?_
        refine j_icgt (t := 83) (pc' := 79) rfl rfl rfl (fun h12 => ?_) (fun h12 => ?_)
        · exact kF (fun z => (fun z => z h12) z.2)
        · exact kT (⟨h11, h12⟩)
    · refine j_iconst (pc' := 80) (x := (1 : Int32)) rfl rfl rfl ?_
      refine j_goto (t := 84) rfl rfl ?_
      exact j_ret rfl rfl rfl (fun _ h => h)
    · refine j_iconst (pc' := 84) (x := (0 : Int32)) rfl rfl rfl ?_
      exact j_ret rfl rfl rfl (fun _ h => h)
  refine j_splT (k := (3 : Int32)) (fun h13 => ?_) (fun h13 => ?_)
  · refine j_sw (t := 85) h13 rfl rfl (fun _ _ => rfl) ?_
    refine j_iload_n (pc' := 86) rfl rfl rfl ?_
    refine j_twoT (pT := 95) (pF := 99) (L1 := [some (.ref 11), some (.int l1), some (.int l2)]) (st1 := []) (fun o kT kF => ?_) (fun h14 => ?_) (fun h14 => ?_)
    · refine j_iflt (t := 99) (pc' := 89) rfl rfl rfl (fun h15 => ?_) (fun h15 => ?_)
      · exact kF (fun z => z.1 h15)
      · refine j_iload_n (pc' := 90) rfl rfl rfl ?_
        refine j_bipush (pc' := 92) (x := (9 : Int32)) rfl rfl rfl ?_
        refine j_icgt (t := 99) (pc' := 95) rfl rfl rfl (fun h16 => ?_) (fun h16 => ?_)
        · exact kF (fun z => (fun z => z h16) z.2)
        · exact kT (⟨h15, h16⟩)
    · refine j_iconst (pc' := 96) (x := (1 : Int32)) rfl rfl rfl ?_
      refine j_goto (t := 100) rfl rfl ?_
      exact j_ret rfl rfl rfl (fun _ h => h)
    · refine j_iconst (pc' := 100) (x := (0 : Int32)) rfl rfl rfl ?_
      exact j_ret rfl rfl rfl (fun _ h => h)
  refine j_splT (k := (4 : Int32)) (fun h17 => ?_) (fun h17 => ?_)
  · refine j_sw (t := 101) h17 rfl rfl (fun _ _ => rfl) ?_
    refine j_aload_n (pc' := 102) rfl rfl rfl ?_
    refine j_iload_n (pc' := 103) rfl rfl rfl ?_
    refine j_callTi (pc' := 106) (ai := 13) (vs := [.ref 11, .int l2]) (rest := []) rfl rfl (fun _ _ => rfl) (c_X2_isHole_11 l2 σ) (j_dd rfl hd) rfl ?_
    exact j_retb rfl rfl (b_X2_isHole 11 l2 σ) (fun _ h => h)
  have eh1 := j_ne (0) (by decide) h1
  have eh5 := j_ne (1) (by decide) h5
  have eh9 := j_ne (2) (by decide) h9
  have eh13 := j_ne (3) (by decide) h13
  have eh17 := j_ne (4) (by decide) h17
  refine j_tsd (t := 107) rfl (by omega) rfl ?_
  refine j_iconst (pc' := 108) (x := (0 : Int32)) rfl rfl rfl ?_
  exact j_ret rfl rfl rfl (fun _ h => h)

noncomputable def f_X7_judge (l1 : Int32) (l2 : Int32) (σ : j_G) : Option Int32 :=
  if l1 = 0 then (if ¬ (f_X7_fitsBoard l2 σ) = 0 then (some (0 : Int32)) else (some (2 : Int32))) else
  if l1 = 1 then (if l2 = 0 then (some (f_X7_within (1 : Int32) (40 : Int32) σ)) else (j_b1 (f_X7_judgeFrom σ) fun v1 =>
  some v1)) else
  if l1 = 2 then (if ¬ (f_X7_isOpen σ) = 0 then (j_b1 (f_X3_oftenAt 15 16 17 (σ.1 10 8) σ) fun v2 =>
  if v2 = 0 then (some (0 : Int32)) else (some (2 : Int32))) else (some (2 : Int32))) else
  if l1 = 3 then (if ¬ (f_X7_isOpen σ) = 0 then (some (0 : Int32)) else (some (2 : Int32))) else
  if l1 = 4 then (if ¬ (f_X7_isOpen σ) = 0 then (some (0 : Int32)) else (some (2 : Int32))) else
  if l1 = 5 then (if ¬ (f_X7_isOpen σ) = 0 then (if ¬ l2 = 0 then (j_ix (0 : Int32) 5 (
  if ¬ (σ.1 10 8) = (σ.1 21 ((0 : Int32)).toNatClampNeg) then (some (0 : Int32)) else (some (2 : Int32)))) else (some (0 : Int32))) else (some (2 : Int32))) else
  if l1 = 6 then (if ¬ (f_X2_isTrait 11 l2 (σ.1 10 8) σ) = 0 then (some (0 : Int32)) else (some (2 : Int32))) else
  (if l2 = 0 then (some (f_X7_within (1 : Int32) (99 : Int32) σ)) else (some (f_X7_within (1 : Int32) (500 : Int32) σ)))
theorem c_X7_judge (l1 : Int32) (l2 : Int32) (σ : j_G) : j_K true 3 79 [.ref 10, .int l1, .int l2] σ (f_X7_judge l1 l2 σ) (j_Pi σ) := by
  refine j_mkK (M := M_cX7_judge) (L := [some (.ref 10), some (.int l1), some (.int l2)]) (m := 0) t_79 rfl (j_rcvO j_a10 rfl) rfl (fun d hd τ => ?_)
  unfold f_X7_judge
  refine j_iload_n (pc' := 1) rfl rfl rfl ?_
  refine j_spl (k := (0 : Int32)) (fun h1 => ?_) (fun h1 => ?_)
  · refine j_sw (t := 44) h1 rfl rfl (fun _ _ => rfl) ?_
    refine j_aload_n (pc' := 45) rfl rfl rfl ?_
    refine j_iload_n (pc' := 46) rfl rfl rfl ?_
    refine j_callTi (pc' := 49) (ai := 81) (vs := [.ref 10, .int l2]) (rest := []) rfl rfl (fun _ _ => rfl) (c_X7_fitsBoard l2 σ) (j_dd rfl hd) rfl ?_
    refine j_two (pT := 52) (pF := 56) (L1 := [some (.ref 10), some (.int l1), some (.int l2)]) (st1 := []) (fun o kT kF => ?_) (fun h2 => ?_) (fun h2 => ?_)
    · refine j_ifeq (t := 56) (pc' := 52) rfl rfl rfl (fun h3 => ?_) (fun h3 => ?_)
      · exact kF (fun z => z h3)
      · exact kT h3
    · refine j_iconst (pc' := 53) (x := (0 : Int32)) rfl rfl rfl ?_
      refine j_goto (t := 57) rfl rfl ?_
      exact j_ret rfl rfl rfl (fun _ h => h)
    · refine j_iconst (pc' := 57) (x := (2 : Int32)) rfl rfl rfl ?_
      exact j_ret rfl rfl rfl (fun _ h => h)
  refine j_spl (k := (1 : Int32)) (fun h4 => ?_) (fun h4 => ?_)
  · refine j_sw (t := 58) h4 rfl rfl (fun _ _ => rfl) ?_
    refine j_iload_n (pc' := 59) rfl rfl rfl ?_
    refine j_two (pT := 62) (pF := 72) (L1 := [some (.ref 10), some (.int l1), some (.int l2)]) (st1 := []) (fun o kT kF => ?_) (fun h5 => ?_) (fun h5 => ?_)
    · refine j_ifne (t := 72) (pc' := 62) rfl rfl rfl (fun h6 => ?_) (fun h6 => ?_)
      · exact kF h6
      · exact kT h6
    · refine j_aload_n (pc' := 63) rfl rfl rfl ?_
      refine j_iconst (pc' := 64) (x := (1 : Int32)) rfl rfl rfl ?_
      refine j_bipush (pc' := 66) (x := (40 : Int32)) rfl rfl rfl ?_
      refine j_callTi (pc' := 69) (ai := 80) (vs := [.ref 10, .int (1 : Int32), .int (40 : Int32)]) (rest := []) rfl rfl (fun _ _ => rfl) (c_X7_within (1 : Int32) (40 : Int32) σ) (j_dd rfl hd) rfl ?_
      refine j_goto (t := 76) rfl rfl ?_
      exact j_ret rfl rfl rfl (fun _ h => h)
    · refine j_aload_n (pc' := 73) rfl rfl rfl ?_
      refine j_callPi (pc' := 76) (ai := 82) (vs := [.ref 10]) (rest := []) rfl rfl (fun _ _ => rfl) (c_X7_judgeFrom  σ) (j_dd rfl hd) rfl (fun v1 => ?_)
      exact j_ret rfl rfl rfl (fun _ h => h)
  refine j_spl (k := (2 : Int32)) (fun h7 => ?_) (fun h7 => ?_)
  · refine j_sw (t := 77) h7 rfl rfl (fun _ _ => rfl) ?_
    refine j_aload_n (pc' := 78) rfl rfl rfl ?_
    refine j_callTi (pc' := 81) (ai := 83) (vs := [.ref 10]) (rest := []) rfl rfl (fun _ _ => rfl) (c_X7_isOpen  σ) (j_dd rfl hd) rfl ?_
    refine j_two (pT := 84) (pF := 105) (L1 := [some (.ref 10), some (.int l1), some (.int l2)]) (st1 := []) (fun o kT kF => ?_) (fun h10 => ?_) (fun h10 => ?_)
    · refine j_ifeq (t := 105) (pc' := 84) rfl rfl rfl (fun h11 => ?_) (fun h11 => ?_)
      · exact kF (fun z => z h11)
      · exact kT h11
    · refine j_aload_n (pc' := 85) rfl rfl rfl ?_
      refine j_gfr (pc' := 88) (x := 11) rfl rfl j_a10 rfl rfl ?_
      refine j_gfr (pc' := 91) (x := 15) rfl rfl j_a11 rfl rfl ?_
      refine j_aload_n (pc' := 92) rfl rfl rfl ?_
      refine j_gfi (pc' := 95) rfl rfl j_a10 rfl ?_
      refine j_callPi (pc' := 98) (ai := 36) (vs := [.ref 15, .int (σ.1 10 8)]) (rest := []) rfl rfl (fun _ _ => rfl) (c_X3_oftenAt_15 (σ.1 10 8) σ) (j_dd rfl hd) rfl (fun v2 => ?_)
      refine j_two (pT := 101) (pF := 105) (L1 := [some (.ref 10), some (.int l1), some (.int l2)]) (st1 := []) (fun o kT kF => ?_) (fun h8 => ?_) (fun h8 => ?_)
      · refine j_ifne (t := 105) (pc' := 101) rfl rfl rfl (fun h9 => ?_) (fun h9 => ?_)
        · exact kF h9
        · exact kT h9
      · refine j_iconst (pc' := 102) (x := (0 : Int32)) rfl rfl rfl ?_
        refine j_goto (t := 106) rfl rfl ?_
        exact j_ret rfl rfl rfl (fun _ h => h)
      · refine j_iconst (pc' := 106) (x := (2 : Int32)) rfl rfl rfl ?_
        exact j_ret rfl rfl rfl (fun _ h => h)
    · refine j_iconst (pc' := 106) (x := (2 : Int32)) rfl rfl rfl ?_
      exact j_ret rfl rfl rfl (fun _ h => h)
  refine j_spl (k := (3 : Int32)) (fun h12 => ?_) (fun h12 => ?_)
  · refine j_sw (t := 107) h12 rfl rfl (fun _ _ => rfl) ?_
    refine j_aload_n (pc' := 108) rfl rfl rfl ?_
    refine j_callTi (pc' := 111) (ai := 83) (vs := [.ref 10]) (rest := []) rfl rfl (fun _ _ => rfl) (c_X7_isOpen  σ) (j_dd rfl hd) rfl ?_
    refine j_two (pT := 114) (pF := 118) (L1 := [some (.ref 10), some (.int l1), some (.int l2)]) (st1 := []) (fun o kT kF => ?_) (fun h13 => ?_) (fun h13 => ?_)
    · refine j_ifeq (t := 118) (pc' := 114) rfl rfl rfl (fun h14 => ?_) (fun h14 => ?_)
      · exact kF (fun z => z h14)
      · exact kT h14
    · refine j_iconst (pc' := 115) (x := (0 : Int32)) rfl rfl rfl ?_
      refine j_goto (t := 119) rfl rfl ?_
      exact j_ret rfl rfl rfl (fun _ h => h)
    · refine j_iconst (pc' := 119) (x := (2 : Int32)) rfl rfl rfl ?_
      exact j_ret rfl rfl rfl (fun _ h => h)
  refine j_spl (k := (4 : Int32)) (fun h15 => ?_) (fun h15 => ?_)
  · refine j_sw (t := 107) h15 rfl rfl (fun _ _ => rfl) ?_
    refine j_aload_n (pc' := 108) rfl rfl rfl ?_
    refine j_callTi (pc' := 111) (ai := 83) (vs := [.ref 10]) (rest := []) rfl rfl (fun _ _ => rfl) (c_X7_isOpen  σ) (j_dd rfl hd) rfl ?_
    refine j_two (pT := 114) (pF := 118) (L1 := [some (.ref 10), some (.int l1), some (.int l2)]) (st1 := []) (fun o kT kF => ?_) (fun h16 => ?_) (fun h16 => ?_)
    · refine j_ifeq (t := 118) (pc' := 114) rfl rfl rfl (fun h17 => ?_) (fun h17 => ?_)
      · exact kF (fun z => z h17)
      · exact kT h17
    · refine j_iconst (pc' := 115) (x := (0 : Int32)) rfl rfl rfl ?_
      refine j_goto (t := 119) rfl rfl ?_
      exact j_ret rfl rfl rfl (fun _ h => h)
    · refine j_iconst (pc' := 119) (x := (2 : Int32)) rfl rfl rfl ?_
      exact j_ret rfl rfl rfl (fun _ h => h)
  refine j_spl (k := (5 : Int32)) (fun h18 => ?_) (fun h18 => ?_)
  · refine j_sw (t := 120) h18 rfl rfl (fun _ _ => rfl) ?_
    refine j_aload_n (pc' := 121) rfl rfl rfl ?_
    refine j_callTi (pc' := 124) (ai := 83) (vs := [.ref 10]) (rest := []) rfl rfl (fun _ _ => rfl) (c_X7_isOpen  σ) (j_dd rfl hd) rfl ?_
    refine j_two (pT := 127) (pF := 148) (L1 := [some (.ref 10), some (.int l1), some (.int l2)]) (st1 := []) (fun o kT kF => ?_) (fun h23 => ?_) (fun h23 => ?_)
    · refine j_ifeq (t := 148) (pc' := 127) rfl rfl rfl (fun h24 => ?_) (fun h24 => ?_)
      · exact kF (fun z => z h24)
      · exact kT h24
    · refine j_iload_n (pc' := 128) rfl rfl rfl ?_
      refine j_two (pT := 131) (pF := 144) (L1 := [some (.ref 10), some (.int l1), some (.int l2)]) (st1 := []) (fun o kT kF => ?_) (fun h21 => ?_) (fun h21 => ?_)
      · refine j_ifeq (t := 144) (pc' := 131) rfl rfl rfl (fun h22 => ?_) (fun h22 => ?_)
        · exact kF (fun z => z h22)
        · exact kT h22
      · refine j_aload_n (pc' := 132) rfl rfl rfl ?_
        refine j_gfi (pc' := 135) rfl rfl j_a10 rfl ?_
        refine j_aload_n (pc' := 136) rfl rfl rfl ?_
        refine j_gfr (pc' := 139) (x := 21) rfl rfl j_a10 rfl rfl ?_
        refine j_iconst (pc' := 140) (x := (0 : Int32)) rfl rfl rfl ?_
        refine j_iald (pc' := 141) rfl rfl j_a21 ?_
        refine j_two (pT := 144) (pF := 148) (L1 := [some (.ref 10), some (.int l1), some (.int l2)]) (st1 := []) (fun o kT kF => ?_) (fun h19 => ?_) (fun h19 => ?_)
        · refine j_iceq (t := 148) (pc' := 144) rfl rfl rfl (fun h20 => ?_) (fun h20 => ?_)
          · exact kF (fun z => z h20)
          · exact kT h20
        · refine j_iconst (pc' := 145) (x := (0 : Int32)) rfl rfl rfl ?_
          refine j_goto (t := 149) rfl rfl ?_
          exact j_ret rfl rfl rfl (fun _ h => h)
        · refine j_iconst (pc' := 149) (x := (2 : Int32)) rfl rfl rfl ?_
          exact j_ret rfl rfl rfl (fun _ h => h)
      · refine j_iconst (pc' := 145) (x := (0 : Int32)) rfl rfl rfl ?_
        refine j_goto (t := 149) rfl rfl ?_
        exact j_ret rfl rfl rfl (fun _ h => h)
    · refine j_iconst (pc' := 149) (x := (2 : Int32)) rfl rfl rfl ?_
      exact j_ret rfl rfl rfl (fun _ h => h)
  refine j_spl (k := (6 : Int32)) (fun h25 => ?_) (fun h25 => ?_)
  · refine j_sw (t := 150) h25 rfl rfl (fun _ _ => rfl) ?_
    refine j_aload_n (pc' := 151) rfl rfl rfl ?_
    refine j_gfr (pc' := 154) (x := 11) rfl rfl j_a10 rfl rfl ?_
    refine j_iload_n (pc' := 155) rfl rfl rfl ?_
    refine j_aload_n (pc' := 156) rfl rfl rfl ?_
    refine j_gfi (pc' := 159) rfl rfl j_a10 rfl ?_
    refine j_callTi (pc' := 162) (ai := 26) (vs := [.ref 11, .int l2, .int (σ.1 10 8)]) (rest := []) rfl rfl (fun _ _ => rfl) (c_X2_isTrait_11 l2 (σ.1 10 8) σ) (j_dd rfl hd) rfl ?_
    refine j_two (pT := 165) (pF := 169) (L1 := [some (.ref 10), some (.int l1), some (.int l2)]) (st1 := []) (fun o kT kF => ?_) (fun h26 => ?_) (fun h26 => ?_)
    · refine j_ifeq (t := 169) (pc' := 165) rfl rfl rfl (fun h27 => ?_) (fun h27 => ?_)
      · exact kF (fun z => z h27)
      · exact kT h27
    · refine j_iconst (pc' := 166) (x := (0 : Int32)) rfl rfl rfl ?_
      refine j_goto (t := 170) rfl rfl ?_
      exact j_ret rfl rfl rfl (fun _ h => h)
    · refine j_iconst (pc' := 170) (x := (2 : Int32)) rfl rfl rfl ?_
      exact j_ret rfl rfl rfl (fun _ h => h)
  have eh1 := j_ne (0) (by decide) h1
  have eh4 := j_ne (1) (by decide) h4
  have eh7 := j_ne (2) (by decide) h7
  have eh12 := j_ne (3) (by decide) h12
  have eh15 := j_ne (4) (by decide) h15
  have eh18 := j_ne (5) (by decide) h18
  have eh25 := j_ne (6) (by decide) h25
  refine j_tsd (t := 171) rfl (by omega) rfl ?_
  refine j_iload_n (pc' := 172) rfl rfl rfl ?_
  refine j_two (pT := 175) (pF := 185) (L1 := [some (.ref 10), some (.int l1), some (.int l2)]) (st1 := []) (fun o kT kF => ?_) (fun h28 => ?_) (fun h28 => ?_)
  · refine j_ifne (t := 185) (pc' := 175) rfl rfl rfl (fun h29 => ?_) (fun h29 => ?_)
    · exact kF h29
    · exact kT h29
  · refine j_aload_n (pc' := 176) rfl rfl rfl ?_
    refine j_iconst (pc' := 177) (x := (1 : Int32)) rfl rfl rfl ?_
    refine j_bipush (pc' := 179) (x := (99 : Int32)) rfl rfl rfl ?_
    refine j_callTi (pc' := 182) (ai := 80) (vs := [.ref 10, .int (1 : Int32), .int (99 : Int32)]) (rest := []) rfl rfl (fun _ _ => rfl) (c_X7_within (1 : Int32) (99 : Int32) σ) (j_dd rfl hd) rfl ?_
    refine j_goto (t := 193) rfl rfl ?_
    exact j_ret rfl rfl rfl (fun _ h => h)
  · refine j_aload_n (pc' := 186) rfl rfl rfl ?_
    refine j_iconst (pc' := 187) (x := (1 : Int32)) rfl rfl rfl ?_
    refine j_sipush (pc' := 190) (x := (500 : Int32)) rfl rfl rfl ?_
    refine j_callTi (pc' := 193) (ai := 80) (vs := [.ref 10, .int (1 : Int32), .int (500 : Int32)]) (rest := []) rfl rfl (fun _ _ => rfl) (c_X7_within (1 : Int32) (500 : Int32) σ) (j_dd rfl hd) rfl ?_
    exact j_ret rfl rfl rfl (fun _ h => h)

noncomputable def p_X2_setStay_2 (l1 : Int32) (l2 : Int32) (σ : j_G) : Nat → Int32 → Option j_G
  | 0, _ => none
  | n + 1, l3 =>
    if l3 < (σ.1 11 10) then (j_ix l3 6 (
    if (σ.1 12 (l3).toNatClampNeg) = l2 then (j_ix l3 6 (
    j_lt (j_si σ 13 (l3).toNatClampNeg l1) fun σ1 =>
    some σ1)) else (p_X2_setStay_2 l1 l2 σ n (l3 + (1 : Int32))))) else (if (σ.1 11 10) < (6 : Int32) then (j_ix (σ.1 11 10) 6 (
    j_lt (j_si σ 12 ((σ.1 11 10)).toNatClampNeg l2) fun σ2 =>
    j_ix (σ2.1 11 10) 6 (
    j_lt (j_si σ2 13 ((σ2.1 11 10)).toNatClampNeg l1) fun σ3 =>
    j_lt (j_si σ3 11 10 ((σ3.1 11 10) + (1 : Int32))) fun σ4 =>
    some σ4))) else (some σ))

noncomputable def f_X2_setStay (l1 : Int32) (l2 : Int32) (σ : j_G) : Option j_G :=
  p_X2_setStay_2 l1 l2 σ j_F (0 : Int32)
theorem l_X2_setStay_2 {d : Nat} (hd : 0 ≤ d) (τ : j_G) (l1 : Int32) (l2 : Int32) (σ : j_G) : ∀ (n : Nat) (l3 : Int32), j_J true τ M_cX2_setStay d 2 [some (.ref 11), some (.int l1), some (.int l2), some (.int l3)] [] σ (p_X2_setStay_2 l1 l2 σ n l3) j_Rv := by
  intro n
  induction n with
  | zero => intro l3; exact j_none
  | succ n ih =>
    intro l3
    unfold p_X2_setStay_2
    refine j_iload_n (pc' := 3) rfl rfl rfl ?_
    refine j_aload_n (pc' := 4) rfl rfl rfl ?_
    refine j_gfi (pc' := 7) rfl rfl j_a11 rfl ?_
    refine j_two (pT := 10) (pF := 34) (L1 := [some (.ref 11), some (.int l1), some (.int l2), some (.int l3)]) (st1 := []) (fun o kT kF => ?_) (fun h5 => ?_) (fun h5 => ?_)
    · refine j_icge (t := 34) (pc' := 10) rfl rfl rfl (fun h6 => ?_) (fun h6 => ?_)
      · exact kF h6
      · exact kT h6
    · refine j_aload_n (pc' := 11) rfl rfl rfl ?_
      refine j_gfr (pc' := 14) (x := 12) rfl rfl j_a11 rfl rfl ?_
      refine j_iload_n (pc' := 15) rfl rfl rfl ?_
      refine j_iald (pc' := 16) rfl rfl j_a12 ?_
      refine j_iload_n (pc' := 17) rfl rfl rfl ?_
      refine j_two (pT := 20) (pF := 28) (L1 := [some (.ref 11), some (.int l1), some (.int l2), some (.int l3)]) (st1 := []) (fun o kT kF => ?_) (fun h1 => ?_) (fun h1 => ?_)
      · refine j_icne (t := 28) (pc' := 20) rfl rfl rfl (fun h2 => ?_) (fun h2 => ?_)
        · exact kF h2
        · exact kT h2
      · refine j_aload_n (pc' := 21) rfl rfl rfl ?_
        refine j_gfr (pc' := 24) (x := 13) rfl rfl j_a11 rfl rfl ?_
        refine j_iload_n (pc' := 25) rfl rfl rfl ?_
        refine j_iload_n (pc' := 26) rfl rfl rfl ?_
        refine j_iast (pc' := 27) rfl rfl j_a13 (fun σ1 => ?_)
        exact j_ret rfl rfl rfl (fun _ h => h)
      · refine j_iincx (pc' := 31) (y := (1 : Int32)) (L' := [some (.ref 11), some (.int l1), some (.int l2), some (.int (l3 + (1 : Int32)))]) rfl rfl rfl rfl rfl ?_
        refine j_goto (t := 2) rfl rfl ?_
        exact ih (l3 + (1 : Int32))
    · refine j_aload_n (pc' := 35) rfl rfl rfl ?_
      refine j_gfi (pc' := 38) rfl rfl j_a11 rfl ?_
      refine j_bipush (pc' := 40) (x := (6 : Int32)) rfl rfl rfl ?_
      refine j_two (pT := 43) (pF := 73) (L1 := [some (.ref 11), some (.int l1), some (.int l2), some (.int l3)]) (st1 := []) (fun o kT kF => ?_) (fun h3 => ?_) (fun h3 => ?_)
      · refine j_icge (t := 73) (pc' := 43) rfl rfl rfl (fun h4 => ?_) (fun h4 => ?_)
        · exact kF h4
        · exact kT h4
      · refine j_aload_n (pc' := 44) rfl rfl rfl ?_
        refine j_gfr (pc' := 47) (x := 12) rfl rfl j_a11 rfl rfl ?_
        refine j_aload_n (pc' := 48) rfl rfl rfl ?_
        refine j_gfi (pc' := 51) rfl rfl j_a11 rfl ?_
        refine j_iload_n (pc' := 52) rfl rfl rfl ?_
        refine j_iast (pc' := 53) rfl rfl j_a12 (fun σ2 => ?_)
        refine j_aload_n (pc' := 54) rfl rfl rfl ?_
        refine j_gfr (pc' := 57) (x := 13) rfl rfl j_a11 rfl rfl ?_
        refine j_aload_n (pc' := 58) rfl rfl rfl ?_
        refine j_gfi (pc' := 61) rfl rfl j_a11 rfl ?_
        refine j_iload_n (pc' := 62) rfl rfl rfl ?_
        refine j_iast (pc' := 63) rfl rfl j_a13 (fun σ3 => ?_)
        refine j_aload_n (pc' := 64) rfl rfl rfl ?_
        refine j_dup (pc' := 65) rfl rfl rfl ?_
        refine j_gfi (pc' := 68) rfl rfl j_a11 rfl ?_
        refine j_iconst (pc' := 69) (x := (1 : Int32)) rfl rfl rfl ?_
        refine j_iadd (pc' := 70) rfl rfl ?_
        refine j_pfi (pc' := 73) rfl rfl j_a11 rfl rfl (fun σ4 => ?_)
        exact j_ret rfl rfl rfl (fun _ h => h)
      · exact j_ret rfl rfl rfl (fun _ h => h)

theorem c_X2_setStay (l1 : Int32) (l2 : Int32) (σ : j_G) : j_K true 0 23 [.ref 11, .int l1, .int l2] σ (f_X2_setStay l1 l2 σ) j_Rv := by
  refine j_mkK (M := M_cX2_setStay) (L := [some (.ref 11), some (.int l1), some (.int l2), none]) (m := 1) t_23 rfl (j_rcvO j_a11 rfl) rfl (fun d hd τ => ?_)
  unfold f_X2_setStay
  refine j_iconst (pc' := 1) (x := (0 : Int32)) rfl rfl rfl ?_
  refine j_istore_n (pc' := 2) (L' := [some (.ref 11), some (.int l1), some (.int l2), some (.int (0 : Int32))]) rfl rfl rfl ?_
  exact (l_X2_setStay_2 hd τ l1 l2 σ j_F (0 : Int32))

noncomputable def f_X3_add (l1 : Int32) (l2 : Int32) (l3 : Int32) (σ : j_G) : Option j_G :=
  if (σ.1 15 0) < (24 : Int32) then (j_ix (σ.1 15 0) 24 (
  j_lt (j_si σ 16 ((σ.1 15 0)).toNatClampNeg l1) fun σ1 =>
  j_ix (σ1.1 15 0) 24 (
  j_lt (j_si σ1 17 ((σ1.1 15 0)).toNatClampNeg l2) fun σ2 =>
  j_ix (σ2.1 15 0) 24 (
  j_lt (j_si σ2 18 ((σ2.1 15 0)).toNatClampNeg l3) fun σ3 =>
  j_lt (j_si σ3 15 0 ((σ3.1 15 0) + (1 : Int32))) fun σ4 =>
  some σ4)))) else (some σ)
theorem c_X3_add (l1 : Int32) (l2 : Int32) (l3 : Int32) (σ : j_G) : j_K true 0 32 [.ref 15, .int l1, .int l2, .int l3] σ (f_X3_add l1 l2 l3 σ) j_Rv := by
  refine j_mkK (M := M_cX3_add) (L := [some (.ref 15), some (.int l1), some (.int l2), some (.int l3)]) (m := 0) t_32 rfl (j_rcvO j_a15 rfl) rfl (fun d hd τ => ?_)
  unfold f_X3_add
  refine j_aload_n (pc' := 1) rfl rfl rfl ?_
  refine j_gfi (pc' := 4) rfl rfl j_a15 rfl ?_
  refine j_bipush (pc' := 6) (x := (24 : Int32)) rfl rfl rfl ?_
  refine j_two (pT := 9) (pF := 49) (L1 := [some (.ref 15), some (.int l1), some (.int l2), some (.int l3)]) (st1 := []) (fun o kT kF => ?_) (fun h1 => ?_) (fun h1 => ?_)
  · refine j_icge (t := 49) (pc' := 9) rfl rfl rfl (fun h2 => ?_) (fun h2 => ?_)
    · exact kF h2
    · exact kT h2
  · refine j_aload_n (pc' := 10) rfl rfl rfl ?_
    refine j_gfr (pc' := 13) (x := 16) rfl rfl j_a15 rfl rfl ?_
    refine j_aload_n (pc' := 14) rfl rfl rfl ?_
    refine j_gfi (pc' := 17) rfl rfl j_a15 rfl ?_
    refine j_iload_n (pc' := 18) rfl rfl rfl ?_
    refine j_iast (pc' := 19) rfl rfl j_a16 (fun σ1 => ?_)
    refine j_aload_n (pc' := 20) rfl rfl rfl ?_
    refine j_gfr (pc' := 23) (x := 17) rfl rfl j_a15 rfl rfl ?_
    refine j_aload_n (pc' := 24) rfl rfl rfl ?_
    refine j_gfi (pc' := 27) rfl rfl j_a15 rfl ?_
    refine j_iload_n (pc' := 28) rfl rfl rfl ?_
    refine j_iast (pc' := 29) rfl rfl j_a17 (fun σ2 => ?_)
    refine j_aload_n (pc' := 30) rfl rfl rfl ?_
    refine j_gfr (pc' := 33) (x := 18) rfl rfl j_a15 rfl rfl ?_
    refine j_aload_n (pc' := 34) rfl rfl rfl ?_
    refine j_gfi (pc' := 37) rfl rfl j_a15 rfl ?_
    refine j_iload_n (pc' := 38) rfl rfl rfl ?_
    refine j_iast (pc' := 39) rfl rfl j_a18 (fun σ3 => ?_)
    refine j_aload_n (pc' := 40) rfl rfl rfl ?_
    refine j_dup (pc' := 41) rfl rfl rfl ?_
    refine j_gfi (pc' := 44) rfl rfl j_a15 rfl ?_
    refine j_iconst (pc' := 45) (x := (1 : Int32)) rfl rfl rfl ?_
    refine j_iadd (pc' := 46) rfl rfl ?_
    refine j_pfi (pc' := 49) rfl rfl j_a15 rfl rfl (fun σ4 => ?_)
    exact j_ret rfl rfl rfl (fun _ h => h)
  · exact j_ret rfl rfl rfl (fun _ h => h)

noncomputable def f_X2_setTrait (a0_13 : Nat) (l1 : Int32) (l2 : Int32) (l3 : Int32) (σ : j_G) : Option j_G :=
  j_lt ((l1 * (5 : Int32)) + l2) fun v1 =>
  if (¬ v1 < 0) ∧ (v1 < (20 : Int32)) then (j_ix v1 20 (
  j_lt (j_si σ a0_13 (v1).toNatClampNeg l3) fun σ2 =>
  some σ2)) else (some σ)
theorem c_X2_setTrait_11 (l1 : Int32) (l2 : Int32) (l3 : Int32) (σ : j_G) : j_K true 0 25 [.ref 11, .int l1, .int l2, .int l3] σ (f_X2_setTrait 14 l1 l2 l3 σ) j_Rv := by
  refine j_mkK (M := M_cX2_setTrait) (L := [some (.ref 11), some (.int l1), some (.int l2), some (.int l3), none]) (m := 1) t_25 rfl (j_rcvO j_a11 rfl) rfl (fun d hd τ => ?_)
  unfold f_X2_setTrait
  refine j_iload_n (pc' := 1) rfl rfl rfl ?_
  refine j_iconst (pc' := 2) (x := (5 : Int32)) rfl rfl rfl ?_
  refine j_imul (pc' := 3) rfl rfl ?_
  refine j_iload_n (pc' := 4) rfl rfl rfl ?_
  refine j_iadd (pc' := 5) rfl rfl ?_
  refine j_leti (fun v1 => ?_)
  refine j_istore (pc' := 7) (L' := [some (.ref 11), some (.int l1), some (.int l2), some (.int l3), some (.int v1)]) rfl rfl rfl ?_
  refine j_iload (pc' := 9) rfl rfl rfl ?_
  refine j_two (pT := 22) (pF := 30) (L1 := [some (.ref 11), some (.int l1), some (.int l2), some (.int l3), some (.int v1)]) (st1 := []) (fun o kT kF => ?_) (fun h1 => ?_) (fun h1 => ?_)
  · refine j_iflt (t := 30) (pc' := 12) rfl rfl rfl (fun h2 => ?_) (fun h2 => ?_)
    · exact kF (fun z => z.1 h2)
    · refine j_iload (pc' := 14) rfl rfl rfl ?_
      refine j_aload_n (pc' := 15) rfl rfl rfl ?_
      refine j_gfr (pc' := 18) (x := 14) rfl rfl j_a11 rfl rfl ?_
      refine j_alen (pc' := 19) (v := (20 : Int32)) rfl rfl j_a14 rfl ?_
      refine j_icge (t := 30) (pc' := 22) rfl rfl rfl (fun h3 => ?_) (fun h3 => ?_)
      · exact kF (fun z => (h3) z.2)
      · exact kT (⟨h2, h3⟩)
  · refine j_aload_n (pc' := 23) rfl rfl rfl ?_
    refine j_gfr (pc' := 26) (x := 14) rfl rfl j_a11 rfl rfl ?_
    refine j_iload (pc' := 28) rfl rfl rfl ?_
    refine j_iload_n (pc' := 29) rfl rfl rfl ?_
    refine j_iast (pc' := 30) rfl rfl j_a14 (fun σ2 => ?_)
    exact j_ret rfl rfl rfl (fun _ h => h)
  · exact j_ret rfl rfl rfl (fun _ h => h)

noncomputable def p_X7_addPlayer_2 : Nat → Int32 → j_G → Option j_G
  | 0, _, _ => none
  | n + 1, l1, σ =>
    if l1 < (5 : Int32) then (j_ix l1 5 (
    j_b1 (f_X2_setTrait 14 (σ.1 11 7) l1 (σ.1 21 (l1).toNatClampNeg) σ) fun σ1 =>
    p_X7_addPlayer_2 n (l1 + (1 : Int32)) σ1)) else (some σ)

noncomputable def f_X7_addPlayer (σ : j_G) : Option j_G :=
  j_b1 (p_X7_addPlayer_2 j_F (0 : Int32) σ) fun σ1 =>
  j_lt (j_si σ1 11 7 ((σ1.1 11 7) + (1 : Int32))) fun σ2 =>
  some σ2
theorem l_X7_addPlayer_2 {d : Nat} (hd : 1 ≤ d) (τ : j_G) : ∀ (n : Nat) (l1 : Int32) (σ : j_G), j_J true τ M_cX7_addPlayer d 2 [some (.ref 10), some (.int l1)] [] σ (p_X7_addPlayer_2 n l1 σ) (fun r Q => j_Tr true τ M_cX7_addPlayer d 34 [some (.ref 10), none] [] r Q) := by
  intro n
  induction n with
  | zero => intro l1 σ; exact j_none
  | succ n ih =>
    intro l1 σ
    unfold p_X7_addPlayer_2
    refine j_iload_n (pc' := 3) rfl rfl rfl ?_
    refine j_iconst (pc' := 4) (x := (5 : Int32)) rfl rfl rfl ?_
    refine j_two (pT := 7) (pF := 34) (L1 := [some (.ref 10), some (.int l1)]) (st1 := []) (fun o kT kF => ?_) (fun h1 => ?_) (fun h1 => ?_)
    · refine j_icge (t := 34) (pc' := 7) rfl rfl rfl (fun h2 => ?_) (fun h2 => ?_)
      · exact kF h2
      · exact kT h2
    · refine j_aload_n (pc' := 8) rfl rfl rfl ?_
      refine j_gfr (pc' := 11) (x := 11) rfl rfl j_a10 rfl rfl ?_
      refine j_aload_n (pc' := 12) rfl rfl rfl ?_
      refine j_gfr (pc' := 15) (x := 11) rfl rfl j_a10 rfl rfl ?_
      refine j_gfi (pc' := 18) rfl rfl j_a11 rfl ?_
      refine j_iload_n (pc' := 19) rfl rfl rfl ?_
      refine j_aload_n (pc' := 20) rfl rfl rfl ?_
      refine j_gfr (pc' := 23) (x := 21) rfl rfl j_a10 rfl rfl ?_
      refine j_iload_n (pc' := 24) rfl rfl rfl ?_
      refine j_iald (pc' := 25) rfl rfl j_a21 ?_
      refine j_callRv (pc' := 28) (ai := 25) (vs := [.ref 11, .int (σ.1 11 7), .int l1, .int (σ.1 21 (l1).toNatClampNeg)]) (rest := []) rfl rfl (fun _ _ => rfl) (c_X2_setTrait_11 (σ.1 11 7) l1 (σ.1 21 (l1).toNatClampNeg) σ) (j_dd rfl hd) rfl (fun σ1 => ?_)
      refine j_iincx (pc' := 31) (y := (1 : Int32)) (L' := [some (.ref 10), some (.int (l1 + (1 : Int32)))]) rfl rfl rfl rfl rfl ?_
      refine j_goto (t := 2) rfl rfl ?_
      exact ih (l1 + (1 : Int32)) σ1
    · refine j_wk [true, false] (L' := [some (.ref 10), none]) rfl ?_
      exact j_end (fun _ h => h)

theorem c_X7_addPlayer (σ : j_G) : j_K true 1 85 [.ref 10] σ (f_X7_addPlayer σ) j_Rv := by
  refine j_mkK (M := M_cX7_addPlayer) (L := [some (.ref 10), none]) (m := 1) t_85 rfl (j_rcvO j_a10 rfl) rfl (fun d hd τ => ?_)
  unfold f_X7_addPlayer
  refine j_iconst (pc' := 1) (x := (0 : Int32)) rfl rfl rfl ?_
  refine j_istore_n (pc' := 2) (L' := [some (.ref 10), some (.int (0 : Int32))]) rfl rfl rfl ?_
  refine j_q1 (l_X7_addPlayer_2 hd τ j_F (0 : Int32) σ) (fun σ1 => ?_)
  show j_J true τ M_cX7_addPlayer d 34 [some (.ref 10), none] [] σ1 _ _
  refine j_aload_n (pc' := 35) rfl rfl rfl ?_
  refine j_gfr (pc' := 38) (x := 11) rfl rfl j_a10 rfl rfl ?_
  refine j_dup (pc' := 39) rfl rfl rfl ?_
  refine j_gfi (pc' := 42) rfl rfl j_a11 rfl ?_
  refine j_iconst (pc' := 43) (x := (1 : Int32)) rfl rfl rfl ?_
  refine j_iadd (pc' := 44) rfl rfl ?_
  refine j_pfi (pc' := 47) rfl rfl j_a11 rfl rfl (fun σ2 => ?_)
  exact j_ret rfl rfl rfl (fun _ h => h)

noncomputable def f_X7_apply (l1 : Int32) (σ : j_G) : Option j_G :=
  if l1 = 0 then (j_ix (0 : Int32) 5 (
  j_lt (j_si σ 11 2 (σ.1 21 ((0 : Int32)).toNatClampNeg)) fun σ1 =>
  j_ix (1 : Int32) 5 (
  j_lt (j_si σ1 11 3 (σ1.1 21 ((1 : Int32)).toNatClampNeg)) fun σ2 =>
  j_ix (2 : Int32) 5 (
  j_lt (j_si σ2 11 4 (σ2.1 21 ((2 : Int32)).toNatClampNeg)) fun σ3 =>
  j_ix (3 : Int32) 5 (
  j_lt (j_si σ3 11 5 (σ3.1 21 ((3 : Int32)).toNatClampNeg)) fun σ4 =>
  some σ4))))) else
  if l1 = 1 then (j_ix (0 : Int32) 5 (
  j_ix (1 : Int32) 5 (
  j_b1 (f_X2_setStay (σ.1 21 ((0 : Int32)).toNatClampNeg) (σ.1 21 ((1 : Int32)).toNatClampNeg) σ) fun σ5 =>
  some σ5))) else
  if l1 = 2 then (j_ix (0 : Int32) 5 (
  j_lt (j_si σ 11 6 ((σ.1 11 6) ||| ((1 : Int32) <<< ((σ.1 21 ((0 : Int32)).toNatClampNeg) &&& 31)))) fun σ6 =>
  some σ6)) else
  if l1 = 3 then (j_ix (0 : Int32) 5 (
  j_b1 (f_X3_add (σ.1 21 ((0 : Int32)).toNatClampNeg) (-1 : Int32) (0 : Int32) σ) fun σ7 =>
  some σ7)) else
  if l1 = 4 then (j_ix (0 : Int32) 5 (
  j_b1 (f_X3_add (σ.1 21 ((0 : Int32)).toNatClampNeg) (-1 : Int32) (1 : Int32) σ) fun σ8 =>
  some σ8)) else
  if l1 = 5 then (j_ix (0 : Int32) 5 (
  j_ix (1 : Int32) 5 (
  j_b1 (f_X3_add (σ.1 21 ((0 : Int32)).toNatClampNeg) (σ.1 21 ((1 : Int32)).toNatClampNeg) (0 : Int32) σ) fun σ9 =>
  some σ9))) else
  if l1 = 6 then (j_b1 (f_X7_addPlayer σ) fun σ10 =>
  some σ10) else
  (j_ix (0 : Int32) 5 (
  j_lt (j_si σ 11 8 (σ.1 21 ((0 : Int32)).toNatClampNeg)) fun σ11 =>
  j_ix (1 : Int32) 5 (
  j_lt (j_si σ11 11 9 (σ11.1 21 ((1 : Int32)).toNatClampNeg)) fun σ12 =>
  some σ12)))
theorem c_X7_apply (l1 : Int32) (σ : j_G) : j_K true 2 84 [.ref 10, .int l1] σ (f_X7_apply l1 σ) j_Rv := by
  refine j_mkK (M := M_cX7_apply) (L := [some (.ref 10), some (.int l1)]) (m := 0) t_84 rfl (j_rcvO j_a10 rfl) rfl (fun d hd τ => ?_)
  unfold f_X7_apply
  refine j_iload_n (pc' := 1) rfl rfl rfl ?_
  refine j_spl (k := (0 : Int32)) (fun h1 => ?_) (fun h1 => ?_)
  · refine j_sw (t := 44) h1 rfl rfl (fun _ _ => rfl) ?_
    refine j_aload_n (pc' := 45) rfl rfl rfl ?_
    refine j_gfr (pc' := 48) (x := 11) rfl rfl j_a10 rfl rfl ?_
    refine j_aload_n (pc' := 49) rfl rfl rfl ?_
    refine j_gfr (pc' := 52) (x := 21) rfl rfl j_a10 rfl rfl ?_
    refine j_iconst (pc' := 53) (x := (0 : Int32)) rfl rfl rfl ?_
    refine j_iald (pc' := 54) rfl rfl j_a21 ?_
    refine j_pfi (pc' := 57) rfl rfl j_a11 rfl rfl (fun σ1 => ?_)
    refine j_aload_n (pc' := 58) rfl rfl rfl ?_
    refine j_gfr (pc' := 61) (x := 11) rfl rfl j_a10 rfl rfl ?_
    refine j_aload_n (pc' := 62) rfl rfl rfl ?_
    refine j_gfr (pc' := 65) (x := 21) rfl rfl j_a10 rfl rfl ?_
    refine j_iconst (pc' := 66) (x := (1 : Int32)) rfl rfl rfl ?_
    refine j_iald (pc' := 67) rfl rfl j_a21 ?_
    refine j_pfi (pc' := 70) rfl rfl j_a11 rfl rfl (fun σ2 => ?_)
    refine j_aload_n (pc' := 71) rfl rfl rfl ?_
    refine j_gfr (pc' := 74) (x := 11) rfl rfl j_a10 rfl rfl ?_
    refine j_aload_n (pc' := 75) rfl rfl rfl ?_
    refine j_gfr (pc' := 78) (x := 21) rfl rfl j_a10 rfl rfl ?_
    refine j_iconst (pc' := 79) (x := (2 : Int32)) rfl rfl rfl ?_
    refine j_iald (pc' := 80) rfl rfl j_a21 ?_
    refine j_pfi (pc' := 83) rfl rfl j_a11 rfl rfl (fun σ3 => ?_)
    refine j_aload_n (pc' := 84) rfl rfl rfl ?_
    refine j_gfr (pc' := 87) (x := 11) rfl rfl j_a10 rfl rfl ?_
    refine j_aload_n (pc' := 88) rfl rfl rfl ?_
    refine j_gfr (pc' := 91) (x := 21) rfl rfl j_a10 rfl rfl ?_
    refine j_iconst (pc' := 92) (x := (3 : Int32)) rfl rfl rfl ?_
    refine j_iald (pc' := 93) rfl rfl j_a21 ?_
    refine j_pfi (pc' := 96) rfl rfl j_a11 rfl rfl (fun σ4 => ?_)
    refine j_goto (t := 245) rfl rfl ?_
    exact j_ret rfl rfl rfl (fun _ h => h)
  refine j_spl (k := (1 : Int32)) (fun h2 => ?_) (fun h2 => ?_)
  · refine j_sw (t := 99) h2 rfl rfl (fun _ _ => rfl) ?_
    refine j_aload_n (pc' := 100) rfl rfl rfl ?_
    refine j_gfr (pc' := 103) (x := 11) rfl rfl j_a10 rfl rfl ?_
    refine j_aload_n (pc' := 104) rfl rfl rfl ?_
    refine j_gfr (pc' := 107) (x := 21) rfl rfl j_a10 rfl rfl ?_
    refine j_iconst (pc' := 108) (x := (0 : Int32)) rfl rfl rfl ?_
    refine j_iald (pc' := 109) rfl rfl j_a21 ?_
    refine j_aload_n (pc' := 110) rfl rfl rfl ?_
    refine j_gfr (pc' := 113) (x := 21) rfl rfl j_a10 rfl rfl ?_
    refine j_iconst (pc' := 114) (x := (1 : Int32)) rfl rfl rfl ?_
    refine j_iald (pc' := 115) rfl rfl j_a21 ?_
    refine j_callRv (pc' := 118) (ai := 23) (vs := [.ref 11, .int (σ.1 21 ((0 : Int32)).toNatClampNeg), .int (σ.1 21 ((1 : Int32)).toNatClampNeg)]) (rest := []) rfl rfl (fun _ _ => rfl) (c_X2_setStay (σ.1 21 ((0 : Int32)).toNatClampNeg) (σ.1 21 ((1 : Int32)).toNatClampNeg) σ) (j_dd rfl hd) rfl (fun σ5 => ?_)
    refine j_goto (t := 245) rfl rfl ?_
    exact j_ret rfl rfl rfl (fun _ h => h)
  refine j_spl (k := (2 : Int32)) (fun h3 => ?_) (fun h3 => ?_)
  · refine j_sw (t := 121) h3 rfl rfl (fun _ _ => rfl) ?_
    refine j_aload_n (pc' := 122) rfl rfl rfl ?_
    refine j_gfr (pc' := 125) (x := 11) rfl rfl j_a10 rfl rfl ?_
    refine j_dup (pc' := 126) rfl rfl rfl ?_
    refine j_gfi (pc' := 129) rfl rfl j_a11 rfl ?_
    refine j_iconst (pc' := 130) (x := (1 : Int32)) rfl rfl rfl ?_
    refine j_aload_n (pc' := 131) rfl rfl rfl ?_
    refine j_gfr (pc' := 134) (x := 21) rfl rfl j_a10 rfl rfl ?_
    refine j_iconst (pc' := 135) (x := (0 : Int32)) rfl rfl rfl ?_
    refine j_iald (pc' := 136) rfl rfl j_a21 ?_
    refine j_ishl (pc' := 137) rfl rfl ?_
    refine j_ior (pc' := 138) rfl rfl ?_
    refine j_pfi (pc' := 141) rfl rfl j_a11 rfl rfl (fun σ6 => ?_)
    refine j_goto (t := 245) rfl rfl ?_
    exact j_ret rfl rfl rfl (fun _ h => h)
  refine j_spl (k := (3 : Int32)) (fun h4 => ?_) (fun h4 => ?_)
  · refine j_sw (t := 144) h4 rfl rfl (fun _ _ => rfl) ?_
    refine j_aload_n (pc' := 145) rfl rfl rfl ?_
    refine j_gfr (pc' := 148) (x := 11) rfl rfl j_a10 rfl rfl ?_
    refine j_gfr (pc' := 151) (x := 15) rfl rfl j_a11 rfl rfl ?_
    refine j_aload_n (pc' := 152) rfl rfl rfl ?_
    refine j_gfr (pc' := 155) (x := 21) rfl rfl j_a10 rfl rfl ?_
    refine j_iconst (pc' := 156) (x := (0 : Int32)) rfl rfl rfl ?_
    refine j_iald (pc' := 157) rfl rfl j_a21 ?_
    refine j_iconst (pc' := 158) (x := (-1 : Int32)) rfl rfl rfl ?_
    refine j_iconst (pc' := 159) (x := (0 : Int32)) rfl rfl rfl ?_
    refine j_callRv (pc' := 162) (ai := 32) (vs := [.ref 15, .int (σ.1 21 ((0 : Int32)).toNatClampNeg), .int (-1 : Int32), .int (0 : Int32)]) (rest := []) rfl rfl (fun _ _ => rfl) (c_X3_add (σ.1 21 ((0 : Int32)).toNatClampNeg) (-1 : Int32) (0 : Int32) σ) (j_dd rfl hd) rfl (fun σ7 => ?_)
    refine j_goto (t := 245) rfl rfl ?_
    exact j_ret rfl rfl rfl (fun _ h => h)
  refine j_spl (k := (4 : Int32)) (fun h5 => ?_) (fun h5 => ?_)
  · refine j_sw (t := 165) h5 rfl rfl (fun _ _ => rfl) ?_
    refine j_aload_n (pc' := 166) rfl rfl rfl ?_
    refine j_gfr (pc' := 169) (x := 11) rfl rfl j_a10 rfl rfl ?_
    refine j_gfr (pc' := 172) (x := 15) rfl rfl j_a11 rfl rfl ?_
    refine j_aload_n (pc' := 173) rfl rfl rfl ?_
    refine j_gfr (pc' := 176) (x := 21) rfl rfl j_a10 rfl rfl ?_
    refine j_iconst (pc' := 177) (x := (0 : Int32)) rfl rfl rfl ?_
    refine j_iald (pc' := 178) rfl rfl j_a21 ?_
    refine j_iconst (pc' := 179) (x := (-1 : Int32)) rfl rfl rfl ?_
    refine j_iconst (pc' := 180) (x := (1 : Int32)) rfl rfl rfl ?_
    refine j_callRv (pc' := 183) (ai := 32) (vs := [.ref 15, .int (σ.1 21 ((0 : Int32)).toNatClampNeg), .int (-1 : Int32), .int (1 : Int32)]) (rest := []) rfl rfl (fun _ _ => rfl) (c_X3_add (σ.1 21 ((0 : Int32)).toNatClampNeg) (-1 : Int32) (1 : Int32) σ) (j_dd rfl hd) rfl (fun σ8 => ?_)
    refine j_goto (t := 245) rfl rfl ?_
    exact j_ret rfl rfl rfl (fun _ h => h)
  refine j_spl (k := (5 : Int32)) (fun h6 => ?_) (fun h6 => ?_)
  · refine j_sw (t := 186) h6 rfl rfl (fun _ _ => rfl) ?_
    refine j_aload_n (pc' := 187) rfl rfl rfl ?_
    refine j_gfr (pc' := 190) (x := 11) rfl rfl j_a10 rfl rfl ?_
    refine j_gfr (pc' := 193) (x := 15) rfl rfl j_a11 rfl rfl ?_
    refine j_aload_n (pc' := 194) rfl rfl rfl ?_
    refine j_gfr (pc' := 197) (x := 21) rfl rfl j_a10 rfl rfl ?_
    refine j_iconst (pc' := 198) (x := (0 : Int32)) rfl rfl rfl ?_
    refine j_iald (pc' := 199) rfl rfl j_a21 ?_
    refine j_aload_n (pc' := 200) rfl rfl rfl ?_
    refine j_gfr (pc' := 203) (x := 21) rfl rfl j_a10 rfl rfl ?_
    refine j_iconst (pc' := 204) (x := (1 : Int32)) rfl rfl rfl ?_
    refine j_iald (pc' := 205) rfl rfl j_a21 ?_
    refine j_iconst (pc' := 206) (x := (0 : Int32)) rfl rfl rfl ?_
    refine j_callRv (pc' := 209) (ai := 32) (vs := [.ref 15, .int (σ.1 21 ((0 : Int32)).toNatClampNeg), .int (σ.1 21 ((1 : Int32)).toNatClampNeg), .int (0 : Int32)]) (rest := []) rfl rfl (fun _ _ => rfl) (c_X3_add (σ.1 21 ((0 : Int32)).toNatClampNeg) (σ.1 21 ((1 : Int32)).toNatClampNeg) (0 : Int32) σ) (j_dd rfl hd) rfl (fun σ9 => ?_)
    refine j_goto (t := 245) rfl rfl ?_
    exact j_ret rfl rfl rfl (fun _ h => h)
  refine j_spl (k := (6 : Int32)) (fun h7 => ?_) (fun h7 => ?_)
  · refine j_sw (t := 212) h7 rfl rfl (fun _ _ => rfl) ?_
    refine j_aload_n (pc' := 213) rfl rfl rfl ?_
    refine j_callRv (pc' := 216) (ai := 85) (vs := [.ref 10]) (rest := []) rfl rfl (fun _ _ => rfl) (c_X7_addPlayer  σ) (j_dd rfl hd) rfl (fun σ10 => ?_)
    refine j_goto (t := 245) rfl rfl ?_
    exact j_ret rfl rfl rfl (fun _ h => h)
  have eh1 := j_ne (0) (by decide) h1
  have eh2 := j_ne (1) (by decide) h2
  have eh3 := j_ne (2) (by decide) h3
  have eh4 := j_ne (3) (by decide) h4
  have eh5 := j_ne (4) (by decide) h5
  have eh6 := j_ne (5) (by decide) h6
  have eh7 := j_ne (6) (by decide) h7
  refine j_tsd (t := 219) rfl (by omega) rfl ?_
  refine j_aload_n (pc' := 220) rfl rfl rfl ?_
  refine j_gfr (pc' := 223) (x := 11) rfl rfl j_a10 rfl rfl ?_
  refine j_aload_n (pc' := 224) rfl rfl rfl ?_
  refine j_gfr (pc' := 227) (x := 21) rfl rfl j_a10 rfl rfl ?_
  refine j_iconst (pc' := 228) (x := (0 : Int32)) rfl rfl rfl ?_
  refine j_iald (pc' := 229) rfl rfl j_a21 ?_
  refine j_pfi (pc' := 232) rfl rfl j_a11 rfl rfl (fun σ11 => ?_)
  refine j_aload_n (pc' := 233) rfl rfl rfl ?_
  refine j_gfr (pc' := 236) (x := 11) rfl rfl j_a10 rfl rfl ?_
  refine j_aload_n (pc' := 237) rfl rfl rfl ?_
  refine j_gfr (pc' := 240) (x := 21) rfl rfl j_a10 rfl rfl ?_
  refine j_iconst (pc' := 241) (x := (1 : Int32)) rfl rfl rfl ?_
  refine j_iald (pc' := 242) rfl rfl j_a21 ?_
  refine j_pfi (pc' := 245) rfl rfl j_a11 rfl rfl (fun σ12 => ?_)
  exact j_ret rfl rfl rfl (fun _ h => h)

noncomputable def p_X7_readLine_47 (l1 : Int32) (l2 : Nat) : Nat → Int32 → Int32 → Int32 → j_G → Option j_G
  | 0, _, _, _, _ => none
  | n + 1, l3, l4, l5, σ =>
    j_b1 (j_len l2) fun v1 =>
    j_lt (j_b1 (f_X7_apply l1 σ) fun σ14 =>
    j_lt (j_si σ14 11 1 ((σ14.1 11 1) + (1 : Int32))) fun σ15 =>
    some σ15) fun (k2 : Option j_G) =>
    if l5 < v1 then (j_b1 (j_len l2) fun v3 =>
    if l4 < v3 then (j_b1 (f_X7_step σ) fun σ4 =>
    j_b1 (f_X7_standsAt l2 l4 σ4) fun v5 =>
    if v5 = 0 then (j_b1 (f_X7_blame (1 : Int32) σ4) fun σ6 =>
    some σ6) else (j_lt (fun (v11 : Int32) (σ12 : j_G) => (j_b1 (f_X7_behindBlank l2 l4) fun v13 =>
    p_X7_readLine_47 l1 l2 n v11 v13 (l5 + (1 : Int32)) σ12)) fun (k7 : Int32 → j_G → Option j_G) =>
    if ((σ4.1 10 5) = (3 : Int32)) ∧ (l3 < (5 : Int32)) then (j_b1 (f_X7_judge l1 l3 σ4) fun v8 =>
    if ¬ v8 = 0 then (j_b1 (f_X7_blame v8 σ4) fun σ9 =>
    some σ9) else (j_ix l3 5 (
    j_lt (j_si σ4 21 (l3).toNatClampNeg (σ4.1 10 8)) fun σ10 =>
    k7 (l3 + (1 : Int32)) σ10))) else (k7 l3 σ4))) else (k2)) else (k2)

noncomputable def f_X7_readLine (σ : j_G) : Option j_G :=
  j_b1 (f_X7_kindOfLine σ) fun v1 =>
  if v1 = (-1 : Int32) then (j_b1 (f_X7_blame (1 : Int32) σ) fun σ2 =>
  some σ2) else (if ¬ (f_X7_isFull v1 σ) = 0 then (j_b1 (f_X7_blame (3 : Int32) σ) fun σ3 =>
  some σ3) else (j_b1 (f_X7_behindBlank (f_X7_shapeOf v1) (0 : Int32)) fun v4 =>
  p_X7_readLine_47 v1 (f_X7_shapeOf v1) j_F (0 : Int32) v4 (1 : Int32) σ))
theorem l_X7_readLine_47 {d : Nat} (hd : 4 ≤ d) (τ : j_G) (l1 : Int32) (l2 : Nat) : ∀ (n : Nat) (l3 : Int32) (l4 : Int32) (l5 : Int32) (σ : j_G), j_J true τ M_cX7_readLine d 47 [some (.ref 10), some (.int l1), some (.ref l2), some (.int l3), some (.int l4), some (.int l5), none] [] σ (p_X7_readLine_47 l1 l2 n l3 l4 l5 σ) j_Rv := by
  intro n
  induction n with
  | zero => intro l3 l4 l5 σ; exact j_none
  | succ n ih =>
    intro l3 l4 l5 σ
    unfold p_X7_readLine_47
    refine j_iload (pc' := 49) rfl rfl rfl ?_
    refine j_aload_n (pc' := 50) rfl rfl rfl ?_
    refine j_slen (pc' := 53) rfl rfl rfl (fun v1 => ?_)
    refine j_jn (P := (fun k => j_J true τ M_cX7_readLine d 149 [some (.ref 10), some (.int l1), none, none, none, none, none] [] σ (k ) j_Rv)) ?_ (fun k2 k2_h => ?_)
    · refine j_aload_n (pc' := 150) rfl rfl rfl ?_
      refine j_iload_n (pc' := 151) rfl rfl rfl ?_
      refine j_callRv (pc' := 154) (ai := 84) (vs := [.ref 10, .int l1]) (rest := []) rfl rfl (fun _ _ => rfl) (c_X7_apply l1 σ) (j_dd rfl hd) rfl (fun σ14 => ?_)
      refine j_aload_n (pc' := 155) rfl rfl rfl ?_
      refine j_gfr (pc' := 158) (x := 11) rfl rfl j_a10 rfl rfl ?_
      refine j_dup (pc' := 159) rfl rfl rfl ?_
      refine j_gfi (pc' := 162) rfl rfl j_a11 rfl ?_
      refine j_iconst (pc' := 163) (x := (1 : Int32)) rfl rfl rfl ?_
      refine j_iadd (pc' := 164) rfl rfl ?_
      refine j_pfi (pc' := 167) rfl rfl j_a11 rfl rfl (fun σ15 => ?_)
      exact j_ret rfl rfl rfl (fun _ h => h)
    · refine j_two (pT := 56) (pF := 149) (L1 := [some (.ref 10), some (.int l1), some (.ref l2), some (.int l3), some (.int l4), some (.int l5), none]) (st1 := []) (fun o kT kF => ?_) (fun h10 => ?_) (fun h10 => ?_)
      · refine j_icge (t := 149) (pc' := 56) rfl rfl rfl (fun h11 => ?_) (fun h11 => ?_)
        · exact kF h11
        · exact kT h11
      · refine j_iload (pc' := 58) rfl rfl rfl ?_
        refine j_aload_n (pc' := 59) rfl rfl rfl ?_
        refine j_slen (pc' := 62) rfl rfl rfl (fun v3 => ?_)
        refine j_two (pT := 65) (pF := 149) (L1 := [some (.ref 10), some (.int l1), some (.ref l2), some (.int l3), some (.int l4), some (.int l5), none]) (st1 := []) (fun o kT kF => ?_) (fun h8 => ?_) (fun h8 => ?_)
        · refine j_icge (t := 149) (pc' := 65) rfl rfl rfl (fun h9 => ?_) (fun h9 => ?_)
          · exact kF h9
          · exact kT h9
        · refine j_aload_n (pc' := 66) rfl rfl rfl ?_
          refine j_callRv (pc' := 69) (ai := 86) (vs := [.ref 10]) (rest := []) rfl rfl (fun _ _ => rfl) (c_X7_step  σ) (j_dd rfl hd) rfl (fun σ4 => ?_)
          refine j_aload_n (pc' := 70) rfl rfl rfl ?_
          refine j_aload_n (pc' := 71) rfl rfl rfl ?_
          refine j_iload (pc' := 73) rfl rfl rfl ?_
          refine j_callPi (pc' := 76) (ai := 76) (vs := [.ref 10, .ref l2, .int l4]) (rest := []) rfl rfl (fun _ _ => rfl) (c_X7_standsAt l2 l4 σ4) (j_dd rfl hd) rfl (fun v5 => ?_)
          refine j_two (pT := 79) (pF := 85) (L1 := [some (.ref 10), some (.int l1), some (.ref l2), some (.int l3), some (.int l4), some (.int l5), none]) (st1 := []) (fun o kT kF => ?_) (fun h6 => ?_) (fun h6 => ?_)
          · refine j_ifne (t := 85) (pc' := 79) rfl rfl rfl (fun h7 => ?_) (fun h7 => ?_)
            · exact kF h7
            · exact kT h7
          · refine j_aload_n (pc' := 80) rfl rfl rfl ?_
            refine j_iconst (pc' := 81) (x := (1 : Int32)) rfl rfl rfl ?_
            refine j_callRv (pc' := 84) (ai := 73) (vs := [.ref 10, .int (1 : Int32)]) (rest := []) rfl rfl (fun _ _ => rfl) (c_X7_blame (1 : Int32) σ4) (j_dd rfl hd) rfl (fun σ6 => ?_)
            exact j_ret rfl rfl rfl (fun _ h => h)
          · refine j_aload_n (pc' := 86) rfl rfl rfl ?_
            refine j_gfi (pc' := 89) rfl rfl j_a10 rfl ?_
            refine j_iconst (pc' := 90) (x := (3 : Int32)) rfl rfl rfl ?_
            refine j_jn (P := (fun k => ∀ (v11 : Int32) (σ12 : j_G), j_J true τ M_cX7_readLine d 135 [some (.ref 10), some (.int l1), some (.ref l2), some (.int v11), some (.int l4), some (.int l5), none] [] σ12 (k v11 σ12) j_Rv)) ?_ (fun k7 k7_h => ?_)
            · intro v11 σ12
              refine j_aload_n (pc' := 136) rfl rfl rfl ?_
              refine j_iload (pc' := 138) rfl rfl rfl ?_
              refine j_callPi (pc' := 141) (ai := 74) (vs := [.ref l2, .int l4]) (rest := []) rfl rfl (fun _ _ => rfl) (c_X7_behindBlank l2 l4 σ12) (j_dd rfl hd) rfl (fun v13 => ?_)
              refine j_istore (pc' := 143) (L' := [some (.ref 10), some (.int l1), some (.ref l2), some (.int v11), some (.int v13), some (.int l5), none]) rfl rfl rfl ?_
              refine j_iincx (pc' := 146) (y := (1 : Int32)) (L' := [some (.ref 10), some (.int l1), some (.ref l2), some (.int v11), some (.int v13), some (.int (l5 + (1 : Int32))), none]) rfl rfl rfl rfl rfl ?_
              refine j_goto (t := 47) rfl rfl ?_
              exact ih v11 v13 (l5 + (1 : Int32)) σ12
            · refine j_two (pT := 102) (pF := 135) (L1 := [some (.ref 10), some (.int l1), some (.ref l2), some (.int l3), some (.int l4), some (.int l5), none]) (st1 := []) (fun o kT kF => ?_) (fun h3 => ?_) (fun h3 => ?_)
              · refine j_icne (t := 135) (pc' := 93) rfl rfl rfl (fun h4 => ?_) (fun h4 => ?_)
                · exact kF (fun z => h4 z.1)
                · refine j_iload_n (pc' := 94) rfl rfl rfl ?_
                  refine j_aload_n (pc' := 95) rfl rfl rfl ?_
                  refine j_gfr (pc' := 98) (x := 21) rfl rfl j_a10 rfl rfl ?_
                  refine j_alen (pc' := 99) (v := (5 : Int32)) rfl rfl j_a21 rfl ?_
                  refine j_icge (t := 135) (pc' := 102) rfl rfl rfl (fun h5 => ?_) (fun h5 => ?_)
                  · exact kF (fun z => (h5) z.2)
                  · exact kT (⟨h4, h5⟩)
              · refine j_aload_n (pc' := 103) rfl rfl rfl ?_
                refine j_iload_n (pc' := 104) rfl rfl rfl ?_
                refine j_iload_n (pc' := 105) rfl rfl rfl ?_
                refine j_callPi (pc' := 108) (ai := 79) (vs := [.ref 10, .int l1, .int l3]) (rest := []) rfl rfl (fun _ _ => rfl) (c_X7_judge l1 l3 σ4) (j_dd rfl hd) rfl (fun v8 => ?_)
                refine j_istore (pc' := 110) (L' := [some (.ref 10), some (.int l1), some (.ref l2), some (.int l3), some (.int l4), some (.int l5), some (.int v8)]) rfl rfl rfl ?_
                refine j_iload (pc' := 112) rfl rfl rfl ?_
                refine j_two (pT := 115) (pF := 122) (L1 := [some (.ref 10), some (.int l1), some (.ref l2), some (.int l3), some (.int l4), some (.int l5), some (.int v8)]) (st1 := []) (fun o kT kF => ?_) (fun h1 => ?_) (fun h1 => ?_)
                · refine j_ifeq (t := 122) (pc' := 115) rfl rfl rfl (fun h2 => ?_) (fun h2 => ?_)
                  · exact kF (fun z => z h2)
                  · exact kT h2
                · refine j_aload_n (pc' := 116) rfl rfl rfl ?_
                  refine j_iload (pc' := 118) rfl rfl rfl ?_
                  refine j_callRv (pc' := 121) (ai := 73) (vs := [.ref 10, .int v8]) (rest := []) rfl rfl (fun _ _ => rfl) (c_X7_blame v8 σ4) (j_dd rfl hd) rfl (fun σ9 => ?_)
                  exact j_ret rfl rfl rfl (fun _ h => h)
                · refine j_aload_n (pc' := 123) rfl rfl rfl ?_
                  refine j_gfr (pc' := 126) (x := 21) rfl rfl j_a10 rfl rfl ?_
                  refine j_iload_n (pc' := 127) rfl rfl rfl ?_
                  refine j_aload_n (pc' := 128) rfl rfl rfl ?_
                  refine j_gfi (pc' := 131) rfl rfl j_a10 rfl ?_
                  refine j_iast (pc' := 132) rfl rfl j_a21 (fun σ10 => ?_)
                  refine j_iincx (pc' := 135) (y := (1 : Int32)) (L' := [some (.ref 10), some (.int l1), some (.ref l2), some (.int (l3 + (1 : Int32))), some (.int l4), some (.int l5), some (.int v8)]) rfl rfl rfl rfl rfl ?_
                  refine j_wk [true, true, true, true, true, true, false] (L' := [some (.ref 10), some (.int l1), some (.ref l2), some (.int (l3 + (1 : Int32))), some (.int l4), some (.int l5), none]) rfl ?_
                  exact k7_h (l3 + (1 : Int32)) σ10
              · exact k7_h l3 σ4
        · refine j_wk [true, true, false, false, false, false, true] (L' := [some (.ref 10), some (.int l1), none, none, none, none, none]) rfl ?_
          exact k2_h 
      · refine j_wk [true, true, false, false, false, false, true] (L' := [some (.ref 10), some (.int l1), none, none, none, none, none]) rfl ?_
        exact k2_h 

theorem c_X7_readLine (σ : j_G) : j_K true 4 72 [.ref 10] σ (f_X7_readLine σ) j_Rv := by
  refine j_mkK (M := M_cX7_readLine) (L := [some (.ref 10), none, none, none, none, none, none]) (m := 6) t_72 rfl (j_rcvO j_a10 rfl) rfl (fun d hd τ => ?_)
  unfold f_X7_readLine
  refine j_aload_n (pc' := 1) rfl rfl rfl ?_
  refine j_callPi (pc' := 4) (ai := 75) (vs := [.ref 10]) (rest := []) rfl rfl (fun _ _ => rfl) (c_X7_kindOfLine  σ) (j_dd rfl hd) rfl (fun v1 => ?_)
  refine j_istore_n (pc' := 5) (L' := [some (.ref 10), some (.int v1), none, none, none, none, none]) rfl rfl rfl ?_
  refine j_iload_n (pc' := 6) rfl rfl rfl ?_
  refine j_iconst (pc' := 7) (x := (-1 : Int32)) rfl rfl rfl ?_
  refine j_two (pT := 10) (pF := 16) (L1 := [some (.ref 10), some (.int v1), none, none, none, none, none]) (st1 := []) (fun o kT kF => ?_) (fun h3 => ?_) (fun h3 => ?_)
  · refine j_icne (t := 16) (pc' := 10) rfl rfl rfl (fun h4 => ?_) (fun h4 => ?_)
    · exact kF h4
    · exact kT h4
  · refine j_aload_n (pc' := 11) rfl rfl rfl ?_
    refine j_iconst (pc' := 12) (x := (1 : Int32)) rfl rfl rfl ?_
    refine j_callRv (pc' := 15) (ai := 73) (vs := [.ref 10, .int (1 : Int32)]) (rest := []) rfl rfl (fun _ _ => rfl) (c_X7_blame (1 : Int32) σ) (j_dd rfl hd) rfl (fun σ2 => ?_)
    exact j_ret rfl rfl rfl (fun _ h => h)
  · refine j_aload_n (pc' := 17) rfl rfl rfl ?_
    refine j_iload_n (pc' := 18) rfl rfl rfl ?_
    refine j_callTi (pc' := 21) (ai := 78) (vs := [.ref 10, .int v1]) (rest := []) rfl rfl (fun _ _ => rfl) (c_X7_isFull v1 σ) (j_dd rfl hd) rfl ?_
    refine j_two (pT := 24) (pF := 30) (L1 := [some (.ref 10), some (.int v1), none, none, none, none, none]) (st1 := []) (fun o kT kF => ?_) (fun h1 => ?_) (fun h1 => ?_)
    · refine j_ifeq (t := 30) (pc' := 24) rfl rfl rfl (fun h2 => ?_) (fun h2 => ?_)
      · exact kF (fun z => z h2)
      · exact kT h2
    · refine j_aload_n (pc' := 25) rfl rfl rfl ?_
      refine j_iconst (pc' := 26) (x := (3 : Int32)) rfl rfl rfl ?_
      refine j_callRv (pc' := 29) (ai := 73) (vs := [.ref 10, .int (3 : Int32)]) (rest := []) rfl rfl (fun _ _ => rfl) (c_X7_blame (3 : Int32) σ) (j_dd rfl hd) rfl (fun σ3 => ?_)
      exact j_ret rfl rfl rfl (fun _ h => h)
    · refine j_iload_n (pc' := 31) rfl rfl rfl ?_
      refine j_callTr (pc' := 34) (ai := 71) (vs := [.int v1]) (rest := []) rfl rfl (fun _ _ => rfl) (c_X7_shapeOf v1 σ) (j_dd rfl hd) rfl ?_
      refine j_astore_n (pc' := 35) (L' := [some (.ref 10), some (.int v1), some (.ref (f_X7_shapeOf v1)), none, none, none, none]) rfl rfl rfl ?_
      refine j_iconst (pc' := 36) (x := (0 : Int32)) rfl rfl rfl ?_
      refine j_istore_n (pc' := 37) (L' := [some (.ref 10), some (.int v1), some (.ref (f_X7_shapeOf v1)), some (.int (0 : Int32)), none, none, none]) rfl rfl rfl ?_
      refine j_aload_n (pc' := 38) rfl rfl rfl ?_
      refine j_iconst (pc' := 39) (x := (0 : Int32)) rfl rfl rfl ?_
      refine j_callPi (pc' := 42) (ai := 74) (vs := [.ref (f_X7_shapeOf v1), .int (0 : Int32)]) (rest := []) rfl rfl (fun _ _ => rfl) (c_X7_behindBlank (f_X7_shapeOf v1) (0 : Int32) σ) (j_dd rfl hd) rfl (fun v4 => ?_)
      refine j_istore (pc' := 44) (L' := [some (.ref 10), some (.int v1), some (.ref (f_X7_shapeOf v1)), some (.int (0 : Int32)), some (.int v4), none, none]) rfl rfl rfl ?_
      refine j_iconst (pc' := 45) (x := (1 : Int32)) rfl rfl rfl ?_
      refine j_istore (pc' := 47) (L' := [some (.ref 10), some (.int v1), some (.ref (f_X7_shapeOf v1)), some (.int (0 : Int32)), some (.int v4), some (.int (1 : Int32)), none]) rfl rfl rfl ?_
      exact (l_X7_readLine_47 hd τ v1 (f_X7_shapeOf v1) j_F (0 : Int32) v4 (1 : Int32) σ)

noncomputable def p_X7_readAll_28 : Nat → Int32 → j_G → Option j_G
  | 0, _, _ => none
  | n + 1, l1, σ =>
    if (¬ (1200 : Int32) < l1) ∧ (((σ.1 10 1) = 0) ∧ (¬ (σ.1 10 5) = (1 : Int32))) then (j_b1 (f_X7_readLine σ) fun σ1 =>
    j_b1 (f_X7_step σ1) fun σ2 =>
    p_X7_readAll_28 n (l1 + (1 : Int32)) σ2) else (some σ)

noncomputable def f_X7_readAll (σ : j_G) : Option (Int32 × j_G) :=
  j_b1 (f_X2_empty σ) fun σ1 =>
  j_lt (j_si σ1 10 7 (0 : Int32)) fun σ2 =>
  j_lt (j_si σ2 10 1 (0 : Int32)) fun σ3 =>
  j_lt (j_si σ3 10 2 (-1 : Int32)) fun σ4 =>
  j_b1 (f_X7_step σ4) fun σ5 =>
  j_b1 (p_X7_readAll_28 j_F (0 : Int32) σ5) fun σ6 =>
  if (σ6.1 10 1) = 0 then (some ((1 : Int32), σ6)) else (some ((0 : Int32), σ6))
theorem l_X7_readAll_28 {d : Nat} (hd : 5 ≤ d) (τ : j_G) : ∀ (n : Nat) (l1 : Int32) (σ : j_G), j_J true τ M_cX7_readAll d 28 [some (.ref 10), some (.int l1)] [] σ (p_X7_readAll_28 n l1 σ) (fun r Q => j_Tr true τ M_cX7_readAll d 64 [some (.ref 10), none] [] r Q) := by
  intro n
  induction n with
  | zero => intro l1 σ; exact j_none
  | succ n ih =>
    intro l1 σ
    unfold p_X7_readAll_28
    refine j_iload_n (pc' := 29) rfl rfl rfl ?_
    refine j_sipush (pc' := 32) (x := (1200 : Int32)) rfl rfl rfl ?_
    refine j_two (pT := 50) (pF := 64) (L1 := [some (.ref 10), some (.int l1)]) (st1 := []) (fun o kT kF => ?_) (fun h1 => ?_) (fun h1 => ?_)
    · refine j_icgt (t := 64) (pc' := 35) rfl rfl rfl (fun h2 => ?_) (fun h2 => ?_)
      · exact kF (fun z => z.1 h2)
      · refine j_aload_n (pc' := 36) rfl rfl rfl ?_
        refine j_gfi (pc' := 39) rfl rfl j_a10 rfl ?_
        refine j_ifne (t := 64) (pc' := 42) rfl rfl rfl (fun h3 => ?_) (fun h3 => ?_)
        · exact kF (fun z => (fun z => h3 z.1) z.2)
        · refine j_aload_n (pc' := 43) rfl rfl rfl ?_
          refine j_gfi (pc' := 46) rfl rfl j_a10 rfl ?_
          refine j_iconst (pc' := 47) (x := (1 : Int32)) rfl rfl rfl ?_
          refine j_iceq (t := 64) (pc' := 50) rfl rfl rfl (fun h4 => ?_) (fun h4 => ?_)
          · exact kF (fun z => (fun z => (fun z => z h4) z.2) z.2)
          · exact kT (⟨h2, ⟨h3, h4⟩⟩)
    · refine j_aload_n (pc' := 51) rfl rfl rfl ?_
      refine j_callRv (pc' := 54) (ai := 72) (vs := [.ref 10]) (rest := []) rfl rfl (fun _ _ => rfl) (c_X7_readLine  σ) (j_dd rfl hd) rfl (fun σ1 => ?_)
      refine j_aload_n (pc' := 55) rfl rfl rfl ?_
      refine j_callRv (pc' := 58) (ai := 86) (vs := [.ref 10]) (rest := []) rfl rfl (fun _ _ => rfl) (c_X7_step  σ1) (j_dd rfl hd) rfl (fun σ2 => ?_)
      refine j_iincx (pc' := 61) (y := (1 : Int32)) (L' := [some (.ref 10), some (.int (l1 + (1 : Int32)))]) rfl rfl rfl rfl rfl ?_
      refine j_goto (t := 28) rfl rfl ?_
      exact ih (l1 + (1 : Int32)) σ2
    · refine j_wk [true, false] (L' := [some (.ref 10), none]) rfl ?_
      exact j_end (fun _ h => h)

theorem c_X7_readAll (σ : j_G) : j_K true 5 70 [.ref 10] σ (f_X7_readAll σ) j_Ri := by
  refine j_mkK (M := M_cX7_readAll) (L := [some (.ref 10), none]) (m := 1) t_70 rfl (j_rcvO j_a10 rfl) rfl (fun d hd τ => ?_)
  unfold f_X7_readAll
  refine j_aload_n (pc' := 1) rfl rfl rfl ?_
  refine j_gfr (pc' := 4) (x := 11) rfl rfl j_a10 rfl rfl ?_
  refine j_callRv (pc' := 7) (ai := 9) (vs := [.ref 11]) (rest := []) rfl rfl (fun _ _ => rfl) (c_X2_empty  σ) (j_dd rfl hd) rfl (fun σ1 => ?_)
  refine j_aload_n (pc' := 8) rfl rfl rfl ?_
  refine j_iconst (pc' := 9) (x := (0 : Int32)) rfl rfl rfl ?_
  refine j_pfi (pc' := 12) rfl rfl j_a10 rfl rfl (fun σ2 => ?_)
  refine j_aload_n (pc' := 13) rfl rfl rfl ?_
  refine j_iconst (pc' := 14) (x := (0 : Int32)) rfl rfl rfl ?_
  refine j_pfi (pc' := 17) rfl rfl j_a10 rfl rfl (fun σ3 => ?_)
  refine j_aload_n (pc' := 18) rfl rfl rfl ?_
  refine j_iconst (pc' := 19) (x := (-1 : Int32)) rfl rfl rfl ?_
  refine j_pfi (pc' := 22) rfl rfl j_a10 rfl rfl (fun σ4 => ?_)
  refine j_aload_n (pc' := 23) rfl rfl rfl ?_
  refine j_callRv (pc' := 26) (ai := 86) (vs := [.ref 10]) (rest := []) rfl rfl (fun _ _ => rfl) (c_X7_step  σ4) (j_dd rfl hd) rfl (fun σ5 => ?_)
  refine j_iconst (pc' := 27) (x := (0 : Int32)) rfl rfl rfl ?_
  refine j_istore_n (pc' := 28) (L' := [some (.ref 10), some (.int (0 : Int32))]) rfl rfl rfl ?_
  refine j_q1 (l_X7_readAll_28 hd τ j_F (0 : Int32) σ5) (fun σ6 => ?_)
  show j_J true τ M_cX7_readAll d 64 [some (.ref 10), none] [] σ6 _ _
  refine j_aload_n (pc' := 65) rfl rfl rfl ?_
  refine j_gfi (pc' := 68) rfl rfl j_a10 rfl ?_
  refine j_two (pT := 71) (pF := 75) (L1 := [some (.ref 10), none]) (st1 := []) (fun o kT kF => ?_) (fun h1 => ?_) (fun h1 => ?_)
  · refine j_ifne (t := 75) (pc' := 71) rfl rfl rfl (fun h2 => ?_) (fun h2 => ?_)
    · exact kF h2
    · exact kT h2
  · refine j_iconst (pc' := 72) (x := (1 : Int32)) rfl rfl rfl ?_
    refine j_goto (t := 76) rfl rfl ?_
    exact j_ret rfl rfl rfl (fun _ h => h)
  · refine j_iconst (pc' := 76) (x := (0 : Int32)) rfl rfl rfl ?_
    exact j_ret rfl rfl rfl (fun _ h => h)

noncomputable def f_X3_copy (a1 : Nat) (a0 : Nat) (a1_2 : Nat) (a0_2 : Nat) (a1_3 : Nat) (a0_3 : Nat) (a1_4 : Nat) (a0_4 : Nat) (σ : j_G) : Option j_G :=
  j_lt (j_si σ a0 0 (σ.1 a1 0)) fun σ1 =>
  j_lt (j_si σ1 a0 1 (σ1.1 a1 1)) fun σ2 =>
  j_cg (0 : Int32) (0 : Int32) (24 : Int32) 24 24 (
  j_lt (j_ci σ2 a1_2 ((0 : Int32)).toNatClampNeg a0_2 ((0 : Int32)).toNatClampNeg ((24 : Int32)).toNatClampNeg) fun σ3 =>
  j_cg (0 : Int32) (0 : Int32) (24 : Int32) 24 24 (
  j_lt (j_ci σ3 a1_3 ((0 : Int32)).toNatClampNeg a0_3 ((0 : Int32)).toNatClampNeg ((24 : Int32)).toNatClampNeg) fun σ4 =>
  j_cg (0 : Int32) (0 : Int32) (24 : Int32) 24 24 (
  j_lt (j_ci σ4 a1_4 ((0 : Int32)).toNatClampNeg a0_4 ((0 : Int32)).toNatClampNeg ((24 : Int32)).toNatClampNeg) fun σ5 =>
  some σ5)))
theorem c_X3_copy_5_15 (σ : j_G) : j_K true 0 30 [.ref 5, .ref 15] σ (f_X3_copy 15 5 16 6 17 7 18 8 σ) j_Rv := by
  refine j_mkK (M := M_cX3_copy) (L := [some (.ref 5), some (.ref 15)]) (m := 0) t_30 rfl (j_rcvO j_a5 rfl) rfl (fun d hd τ => ?_)
  unfold f_X3_copy
  refine j_aload_n (pc' := 1) rfl rfl rfl ?_
  refine j_aload_n (pc' := 2) rfl rfl rfl ?_
  refine j_gfi (pc' := 5) rfl rfl j_a15 rfl ?_
  refine j_pfi (pc' := 8) rfl rfl j_a5 rfl rfl (fun σ1 => ?_)
  refine j_aload_n (pc' := 9) rfl rfl rfl ?_
  refine j_aload_n (pc' := 10) rfl rfl rfl ?_
  refine j_gfi (pc' := 13) rfl rfl j_a15 rfl ?_
  refine j_pfi (pc' := 16) rfl rfl j_a5 rfl rfl (fun σ2 => ?_)
  refine j_aload_n (pc' := 17) rfl rfl rfl ?_
  refine j_gfr (pc' := 20) (x := 16) rfl rfl j_a15 rfl rfl ?_
  refine j_iconst (pc' := 21) (x := (0 : Int32)) rfl rfl rfl ?_
  refine j_aload_n (pc' := 22) rfl rfl rfl ?_
  refine j_gfr (pc' := 25) (x := 6) rfl rfl j_a5 rfl rfl ?_
  refine j_iconst (pc' := 26) (x := (0 : Int32)) rfl rfl rfl ?_
  refine j_bipush (pc' := 28) (x := (24 : Int32)) rfl rfl rfl ?_
  refine j_cpi (pc' := 31) rfl rfl rfl j_a16 j_a6 (fun σ3 => ?_)
  refine j_aload_n (pc' := 32) rfl rfl rfl ?_
  refine j_gfr (pc' := 35) (x := 17) rfl rfl j_a15 rfl rfl ?_
  refine j_iconst (pc' := 36) (x := (0 : Int32)) rfl rfl rfl ?_
  refine j_aload_n (pc' := 37) rfl rfl rfl ?_
  refine j_gfr (pc' := 40) (x := 7) rfl rfl j_a5 rfl rfl ?_
  refine j_iconst (pc' := 41) (x := (0 : Int32)) rfl rfl rfl ?_
  refine j_bipush (pc' := 43) (x := (24 : Int32)) rfl rfl rfl ?_
  refine j_cpi (pc' := 46) rfl rfl rfl j_a17 j_a7 (fun σ4 => ?_)
  refine j_aload_n (pc' := 47) rfl rfl rfl ?_
  refine j_gfr (pc' := 50) (x := 18) rfl rfl j_a15 rfl rfl ?_
  refine j_iconst (pc' := 51) (x := (0 : Int32)) rfl rfl rfl ?_
  refine j_aload_n (pc' := 52) rfl rfl rfl ?_
  refine j_gfr (pc' := 55) (x := 8) rfl rfl j_a5 rfl rfl ?_
  refine j_iconst (pc' := 56) (x := (0 : Int32)) rfl rfl rfl ?_
  refine j_bipush (pc' := 58) (x := (24 : Int32)) rfl rfl rfl ?_
  refine j_cpi (pc' := 61) rfl rfl rfl j_a18 j_a8 (fun σ5 => ?_)
  exact j_ret rfl rfl rfl (fun _ h => h)

noncomputable def f_X2_copy (a1 : Nat) (a0 : Nat) (a1_11 : Nat) (a0_11 : Nat) (a1_12 : Nat) (a0_12 : Nat) (a1_13 : Nat) (a0_13 : Nat) (a1_14 : Nat) (a0_14 : Nat) (a1_14_2 : Nat) (a0_14_2 : Nat) (a1_14_3 : Nat) (a0_14_3 : Nat) (a1_14_4 : Nat) (a0_14_4 : Nat) (σ : j_G) : Option j_G :=
  j_lt (j_si σ a0 1 (σ.1 a1 1)) fun σ1 =>
  j_lt (j_si σ1 a0 2 (σ1.1 a1 2)) fun σ2 =>
  j_lt (j_si σ2 a0 3 (σ2.1 a1 3)) fun σ3 =>
  j_lt (j_si σ3 a0 4 (σ3.1 a1 4)) fun σ4 =>
  j_lt (j_si σ4 a0 5 (σ4.1 a1 5)) fun σ5 =>
  j_lt (j_si σ5 a0 6 (σ5.1 a1 6)) fun σ6 =>
  j_lt (j_si σ6 a0 7 (σ6.1 a1 7)) fun σ7 =>
  j_lt (j_si σ7 a0 8 (σ7.1 a1 8)) fun σ8 =>
  j_lt (j_si σ8 a0 9 (σ8.1 a1 9)) fun σ9 =>
  j_lt (j_si σ9 a0 10 (σ9.1 a1 10)) fun σ10 =>
  j_cg (0 : Int32) (0 : Int32) (6 : Int32) 6 6 (
  j_lt (j_ci σ10 a1_11 ((0 : Int32)).toNatClampNeg a0_11 ((0 : Int32)).toNatClampNeg ((6 : Int32)).toNatClampNeg) fun σ11 =>
  j_cg (0 : Int32) (0 : Int32) (6 : Int32) 6 6 (
  j_lt (j_ci σ11 a1_12 ((0 : Int32)).toNatClampNeg a0_12 ((0 : Int32)).toNatClampNeg ((6 : Int32)).toNatClampNeg) fun σ12 =>
  j_cg (0 : Int32) (0 : Int32) (20 : Int32) 20 20 (
  j_lt (j_ci σ12 a1_13 ((0 : Int32)).toNatClampNeg a0_13 ((0 : Int32)).toNatClampNeg ((20 : Int32)).toNatClampNeg) fun σ13 =>
  j_b1 (f_X3_copy a1_14 a0_14 a1_14_2 a0_14_2 a1_14_3 a0_14_3 a1_14_4 a0_14_4 σ13) fun σ14 =>
  some σ14)))
theorem c_X2_copy_1_11 (σ : j_G) : j_K true 1 10 [.ref 1, .ref 11] σ (f_X2_copy 11 1 12 2 13 3 14 4 15 5 16 6 17 7 18 8 σ) j_Rv := by
  refine j_mkK (M := M_cX2_copy) (L := [some (.ref 1), some (.ref 11)]) (m := 0) t_10 rfl (j_rcvO j_a1 rfl) rfl (fun d hd τ => ?_)
  unfold f_X2_copy
  refine j_aload_n (pc' := 1) rfl rfl rfl ?_
  refine j_aload_n (pc' := 2) rfl rfl rfl ?_
  refine j_gfi (pc' := 5) rfl rfl j_a11 rfl ?_
  refine j_pfi (pc' := 8) rfl rfl j_a1 rfl rfl (fun σ1 => ?_)
  refine j_aload_n (pc' := 9) rfl rfl rfl ?_
  refine j_aload_n (pc' := 10) rfl rfl rfl ?_
  refine j_gfi (pc' := 13) rfl rfl j_a11 rfl ?_
  refine j_pfi (pc' := 16) rfl rfl j_a1 rfl rfl (fun σ2 => ?_)
  refine j_aload_n (pc' := 17) rfl rfl rfl ?_
  refine j_aload_n (pc' := 18) rfl rfl rfl ?_
  refine j_gfi (pc' := 21) rfl rfl j_a11 rfl ?_
  refine j_pfi (pc' := 24) rfl rfl j_a1 rfl rfl (fun σ3 => ?_)
  refine j_aload_n (pc' := 25) rfl rfl rfl ?_
  refine j_aload_n (pc' := 26) rfl rfl rfl ?_
  refine j_gfi (pc' := 29) rfl rfl j_a11 rfl ?_
  refine j_pfi (pc' := 32) rfl rfl j_a1 rfl rfl (fun σ4 => ?_)
  refine j_aload_n (pc' := 33) rfl rfl rfl ?_
  refine j_aload_n (pc' := 34) rfl rfl rfl ?_
  refine j_gfi (pc' := 37) rfl rfl j_a11 rfl ?_
  refine j_pfi (pc' := 40) rfl rfl j_a1 rfl rfl (fun σ5 => ?_)
  refine j_aload_n (pc' := 41) rfl rfl rfl ?_
  refine j_aload_n (pc' := 42) rfl rfl rfl ?_
  refine j_gfi (pc' := 45) rfl rfl j_a11 rfl ?_
  refine j_pfi (pc' := 48) rfl rfl j_a1 rfl rfl (fun σ6 => ?_)
  refine j_aload_n (pc' := 49) rfl rfl rfl ?_
  refine j_aload_n (pc' := 50) rfl rfl rfl ?_
  refine j_gfi (pc' := 53) rfl rfl j_a11 rfl ?_
  refine j_pfi (pc' := 56) rfl rfl j_a1 rfl rfl (fun σ7 => ?_)
  refine j_aload_n (pc' := 57) rfl rfl rfl ?_
  refine j_aload_n (pc' := 58) rfl rfl rfl ?_
  refine j_gfi (pc' := 61) rfl rfl j_a11 rfl ?_
  refine j_pfi (pc' := 64) rfl rfl j_a1 rfl rfl (fun σ8 => ?_)
  refine j_aload_n (pc' := 65) rfl rfl rfl ?_
  refine j_aload_n (pc' := 66) rfl rfl rfl ?_
  refine j_gfi (pc' := 69) rfl rfl j_a11 rfl ?_
  refine j_pfi (pc' := 72) rfl rfl j_a1 rfl rfl (fun σ9 => ?_)
  refine j_aload_n (pc' := 73) rfl rfl rfl ?_
  refine j_aload_n (pc' := 74) rfl rfl rfl ?_
  refine j_gfi (pc' := 77) rfl rfl j_a11 rfl ?_
  refine j_pfi (pc' := 80) rfl rfl j_a1 rfl rfl (fun σ10 => ?_)
  refine j_aload_n (pc' := 81) rfl rfl rfl ?_
  refine j_gfr (pc' := 84) (x := 12) rfl rfl j_a11 rfl rfl ?_
  refine j_iconst (pc' := 85) (x := (0 : Int32)) rfl rfl rfl ?_
  refine j_aload_n (pc' := 86) rfl rfl rfl ?_
  refine j_gfr (pc' := 89) (x := 2) rfl rfl j_a1 rfl rfl ?_
  refine j_iconst (pc' := 90) (x := (0 : Int32)) rfl rfl rfl ?_
  refine j_bipush (pc' := 92) (x := (6 : Int32)) rfl rfl rfl ?_
  refine j_cpi (pc' := 95) rfl rfl rfl j_a12 j_a2 (fun σ11 => ?_)
  refine j_aload_n (pc' := 96) rfl rfl rfl ?_
  refine j_gfr (pc' := 99) (x := 13) rfl rfl j_a11 rfl rfl ?_
  refine j_iconst (pc' := 100) (x := (0 : Int32)) rfl rfl rfl ?_
  refine j_aload_n (pc' := 101) rfl rfl rfl ?_
  refine j_gfr (pc' := 104) (x := 3) rfl rfl j_a1 rfl rfl ?_
  refine j_iconst (pc' := 105) (x := (0 : Int32)) rfl rfl rfl ?_
  refine j_bipush (pc' := 107) (x := (6 : Int32)) rfl rfl rfl ?_
  refine j_cpi (pc' := 110) rfl rfl rfl j_a13 j_a3 (fun σ12 => ?_)
  refine j_aload_n (pc' := 111) rfl rfl rfl ?_
  refine j_gfr (pc' := 114) (x := 14) rfl rfl j_a11 rfl rfl ?_
  refine j_iconst (pc' := 115) (x := (0 : Int32)) rfl rfl rfl ?_
  refine j_aload_n (pc' := 116) rfl rfl rfl ?_
  refine j_gfr (pc' := 119) (x := 4) rfl rfl j_a1 rfl rfl ?_
  refine j_iconst (pc' := 120) (x := (0 : Int32)) rfl rfl rfl ?_
  refine j_bipush (pc' := 122) (x := (20 : Int32)) rfl rfl rfl ?_
  refine j_cpi (pc' := 125) rfl rfl rfl j_a14 j_a4 (fun σ13 => ?_)
  refine j_aload_n (pc' := 126) rfl rfl rfl ?_
  refine j_gfr (pc' := 129) (x := 5) rfl rfl j_a1 rfl rfl ?_
  refine j_aload_n (pc' := 130) rfl rfl rfl ?_
  refine j_gfr (pc' := 133) (x := 15) rfl rfl j_a11 rfl rfl ?_
  refine j_callRv (pc' := 136) (ai := 30) (vs := [.ref 5, .ref 15]) (rest := []) rfl rfl (fun _ _ => rfl) (c_X3_copy_5_15  σ13) (j_dd rfl hd) rfl (fun σ14 => ?_)
  exact j_ret rfl rfl rfl (fun _ h => h)

noncomputable def f_X11_board (σ : j_G) : Option (Int32 × j_G) :=
  j_b2 (f_X7_readAll σ) fun v2 σ1 =>
  j_lt (j_si σ1 19 0 (0 : Int32)) fun σ3 =>
  if v2 = 0 then (some ((-4 : Int32), σ3)) else (j_b1 (f_X2_copy 11 1 12 2 13 3 14 4 15 5 16 6 17 7 18 8 σ3) fun σ4 =>
  some ((σ4.1 1 1), σ4))
theorem c_X11_board (σ : j_G) : j_K true 6 114 [.ref 0] σ (f_X11_board σ) j_Ri := by
  refine j_mkK (M := M_cX11_board) (L := [some (.ref 0), none]) (m := 1) t_114 rfl (j_rcvO j_a0 rfl) rfl (fun d hd τ => ?_)
  unfold f_X11_board
  refine j_aload_n (pc' := 1) rfl rfl rfl ?_
  refine j_gfr (pc' := 4) (x := 10) rfl rfl j_a0 rfl rfl ?_
  refine j_callRi (pc' := 7) (ai := 70) (vs := [.ref 10]) (rest := []) rfl rfl (fun _ _ => rfl) (c_X7_readAll  σ) (j_dd rfl hd) rfl (fun v2 σ1 => ?_)
  refine j_istore_n (pc' := 8) (L' := [some (.ref 0), some (.int v2)]) rfl rfl rfl ?_
  refine j_aload_n (pc' := 9) rfl rfl rfl ?_
  refine j_gfr (pc' := 12) (x := 10) rfl rfl j_a0 rfl rfl ?_
  refine j_gfr (pc' := 15) (x := 19) rfl rfl j_a10 rfl rfl ?_
  refine j_iconst (pc' := 16) (x := (0 : Int32)) rfl rfl rfl ?_
  refine j_pfi (pc' := 19) rfl rfl j_a19 rfl rfl (fun σ3 => ?_)
  refine j_iload_n (pc' := 20) rfl rfl rfl ?_
  refine j_two (pT := 23) (pF := 26) (L1 := [some (.ref 0), some (.int v2)]) (st1 := []) (fun o kT kF => ?_) (fun h1 => ?_) (fun h1 => ?_)
  · refine j_ifne (t := 26) (pc' := 23) rfl rfl rfl (fun h2 => ?_) (fun h2 => ?_)
    · exact kF h2
    · exact kT h2
  · refine j_bipush (pc' := 25) (x := (-4 : Int32)) rfl rfl rfl ?_
    exact j_ret rfl rfl rfl (fun _ h => h)
  · refine j_aload_n (pc' := 27) rfl rfl rfl ?_
    refine j_gfr (pc' := 30) (x := 1) rfl rfl j_a0 rfl rfl ?_
    refine j_aload_n (pc' := 31) rfl rfl rfl ?_
    refine j_gfr (pc' := 34) (x := 10) rfl rfl j_a0 rfl rfl ?_
    refine j_gfr (pc' := 37) (x := 11) rfl rfl j_a10 rfl rfl ?_
    refine j_callRv (pc' := 40) (ai := 10) (vs := [.ref 1, .ref 11]) (rest := []) rfl rfl (fun _ _ => rfl) (c_X2_copy_1_11  σ3) (j_dd rfl hd) rfl (fun σ4 => ?_)
    refine j_aload_n (pc' := 41) rfl rfl rfl ?_
    refine j_gfr (pc' := 44) (x := 1) rfl rfl j_a0 rfl rfl ?_
    refine j_gfi (pc' := 47) rfl rfl j_a1 rfl ?_
    exact j_ret rfl rfl rfl (fun _ h => h)

noncomputable def f_X12_see (l1 : Int32) (σ : j_G) : Option Int32 :=
  if l1 < (σ.1 75 7) then (j_ix l1 1200 (
  some ((σ.1 79 (l1).toNatClampNeg) &&& (255 : Int32)))) else (some (-1 : Int32))
theorem c_X12_see (l1 : Int32) (σ : j_G) : j_K false 0 210 [.ref 75, .int l1] σ (f_X12_see l1 σ) (j_Pi σ) := by
  refine j_mkK (M := M_cX12_see) (L := [some (.ref 75), some (.int l1)]) (m := 0) t_210 rfl (j_rcvO j_a75 rfl) rfl (fun d hd τ => ?_)
  unfold f_X12_see
  refine j_iload_n (pc' := 1) rfl rfl rfl ?_
  refine j_aload_n (pc' := 2) rfl rfl rfl ?_
  refine j_gfi (pc' := 5) rfl rfl j_a75 rfl ?_
  refine j_two (pT := 8) (pF := 21) (L1 := [some (.ref 75), some (.int l1)]) (st1 := []) (fun o kT kF => ?_) (fun h1 => ?_) (fun h1 => ?_)
  · refine j_icge (t := 21) (pc' := 8) rfl rfl rfl (fun h2 => ?_) (fun h2 => ?_)
    · exact kF h2
    · exact kT h2
  · refine j_aload_n (pc' := 9) rfl rfl rfl ?_
    refine j_gfr (pc' := 12) (x := 79) rfl rfl j_a75 rfl rfl ?_
    refine j_iload_n (pc' := 13) rfl rfl rfl ?_
    refine j_bald (pc' := 14) rfl rfl j_a79 ?_
    refine j_sipush (pc' := 17) (x := (255 : Int32)) rfl rfl rfl ?_
    refine j_iand (pc' := 18) rfl rfl ?_
    refine j_goto (t := 22) rfl rfl ?_
    exact j_ret rfl rfl rfl (fun _ h => h)
  · refine j_iconst (pc' := 22) (x := (-1 : Int32)) rfl rfl rfl ?_
    exact j_ret rfl rfl rfl (fun _ h => h)

noncomputable def p_X12_advance_0 : Nat → j_G → Option j_G
  | 0, _ => none
  | n + 1, σ =>
    j_b1 (f_X12_see (σ.1 75 8) σ) fun v1 =>
    j_lt (j_lt (j_si σ 75 8 ((σ.1 75 8) + (1 : Int32))) fun σ4 =>
    p_X12_advance_0 n σ4) fun (k2 : Option j_G) =>
    if ¬ v1 = (32 : Int32) then (j_b1 (f_X12_see (σ.1 75 8) σ) fun v3 =>
    if v3 = (10 : Int32) then (k2) else (some σ)) else (k2)

noncomputable def p_X12_advance_83 : Nat → j_G → Option j_G
  | 0, _ => none
  | n + 1, σ =>
    j_b1 (f_X12_see (σ.1 75 8) σ) fun v1 =>
    if ¬ (f_X12_in (v1).toInt64 (97 : Int64) (122 : Int64)) = 0 then (j_lt (j_si σ 75 8 ((σ.1 75 8) + (1 : Int32))) fun σ2 =>
    p_X12_advance_83 n σ2) else (some σ)

noncomputable def p_X12_advance_144 : Nat → j_G → Option j_G
  | 0, _ => none
  | n + 1, σ =>
    j_b1 (f_X12_see (σ.1 75 8) σ) fun v1 =>
    if ¬ (f_X12_in (v1).toInt64 (48 : Int64) (57 : Int64)) = 0 then (j_b1 (f_X12_see (σ.1 75 8) σ) fun v2 =>
    j_lt (j_si σ 75 11 (if ((((10 : Int32) * (σ.1 75 11)) + v2) - (48 : Int32)) < (99999 : Int32) then ((((10 : Int32) * (σ.1 75 11)) + v2) - (48 : Int32)) else (99999 : Int32))) fun σ3 =>
    j_lt (j_si σ3 75 8 ((σ3.1 75 8) + (1 : Int32))) fun σ4 =>
    p_X12_advance_144 n σ4) else (some σ)

noncomputable def f_X12_advance (σ : j_G) : Option j_G :=
  j_b1 (p_X12_advance_0 j_F σ) fun σ1 =>
  j_lt (j_si σ1 75 9 (σ1.1 75 8)) fun σ2 =>
  j_b1 (f_X12_see (σ2.1 75 8) σ2) fun v3 =>
  if v3 = (-1 : Int32) then (j_lt (j_si σ2 75 10 (0 : Int32)) fun σ4 =>
  some σ4) else (if ¬ (f_X12_in (v3).toInt64 (97 : Int64) (122 : Int64)) = 0 then (j_b1 (p_X12_advance_83 j_F σ2) fun σ5 =>
  j_lt (j_si σ5 75 10 (1 : Int32)) fun σ6 =>
  some σ6) else (if ¬ (f_X12_in (v3).toInt64 (48 : Int64) (57 : Int64)) = 0 then (j_lt (j_si σ2 75 11 (0 : Int32)) fun σ7 =>
  j_b1 (p_X12_advance_144 j_F σ7) fun σ8 =>
  j_lt (j_si σ8 75 10 (2 : Int32)) fun σ9 =>
  some σ9) else (j_lt (if v3 = (59 : Int32) then ((3 : Int32)) else ((4 : Int32))) fun v10 =>
  j_lt (j_si σ2 75 10 v10) fun σ11 =>
  j_lt (j_si σ11 75 8 ((σ11.1 75 8) + (1 : Int32))) fun σ12 =>
  some σ12)))
theorem l_X12_advance_0 {d : Nat} (hd : 1 ≤ d) (τ : j_G) : ∀ (n : Nat) (σ : j_G), j_J false τ M_cX12_advance d 0 [some (.ref 75), none] [] σ (p_X12_advance_0 n σ) (fun r Q => j_Tr false τ M_cX12_advance d 39 [some (.ref 75), none] [] r Q) := by
  intro n
  induction n with
  | zero => intro σ; exact j_none
  | succ n ih =>
    intro σ
    unfold p_X12_advance_0
    refine j_aload_n (pc' := 1) rfl rfl rfl ?_
    refine j_aload_n (pc' := 2) rfl rfl rfl ?_
    refine j_gfi (pc' := 5) rfl rfl j_a75 rfl ?_
    refine j_callPi (pc' := 8) (ai := 210) (vs := [.ref 75, .int (σ.1 75 8)]) (rest := []) rfl rfl (fun _ _ => rfl) (c_X12_see (σ.1 75 8) σ) (j_dd rfl hd) rfl (fun v1 => ?_)
    refine j_bipush (pc' := 10) (x := (32 : Int32)) rfl rfl rfl ?_
    refine j_jn (P := (fun k => j_J false τ M_cX12_advance d 26 [some (.ref 75), none] [] σ (k ) (fun r Q => j_Tr false τ M_cX12_advance d 39 [some (.ref 75), none] [] r Q))) ?_ (fun k2 k2_h => ?_)
    · refine j_aload_n (pc' := 27) rfl rfl rfl ?_
      refine j_dup (pc' := 28) rfl rfl rfl ?_
      refine j_gfi (pc' := 31) rfl rfl j_a75 rfl ?_
      refine j_iconst (pc' := 32) (x := (1 : Int32)) rfl rfl rfl ?_
      refine j_iadd (pc' := 33) rfl rfl ?_
      refine j_pfi (pc' := 36) rfl rfl j_a75 rfl rfl (fun σ4 => ?_)
      refine j_goto (t := 0) rfl rfl ?_
      exact ih σ4
    · refine j_two (pT := 13) (pF := 26) (L1 := [some (.ref 75), none]) (st1 := []) (fun o kT kF => ?_) (fun h3 => ?_) (fun h3 => ?_)
      · refine j_iceq (t := 26) (pc' := 13) rfl rfl rfl (fun h4 => ?_) (fun h4 => ?_)
        · exact kF (fun z => z h4)
        · exact kT h4
      · refine j_aload_n (pc' := 14) rfl rfl rfl ?_
        refine j_aload_n (pc' := 15) rfl rfl rfl ?_
        refine j_gfi (pc' := 18) rfl rfl j_a75 rfl ?_
        refine j_callPi (pc' := 21) (ai := 210) (vs := [.ref 75, .int (σ.1 75 8)]) (rest := []) rfl rfl (fun _ _ => rfl) (c_X12_see (σ.1 75 8) σ) (j_dd rfl hd) rfl (fun v3 => ?_)
        refine j_bipush (pc' := 23) (x := (10 : Int32)) rfl rfl rfl ?_
        refine j_two (pT := 26) (pF := 39) (L1 := [some (.ref 75), none]) (st1 := []) (fun o kT kF => ?_) (fun h1 => ?_) (fun h1 => ?_)
        · refine j_icne (t := 39) (pc' := 26) rfl rfl rfl (fun h2 => ?_) (fun h2 => ?_)
          · exact kF h2
          · exact kT h2
        · exact k2_h 
        · exact j_end (fun _ h => h)
      · exact k2_h 

theorem l_X12_advance_83 {d : Nat} (hd : 1 ≤ d) (τ : j_G) : ∀ (n : Nat) (σ : j_G), j_J false τ M_cX12_advance d 83 [some (.ref 75), none] [] σ (p_X12_advance_83 n σ) (fun r Q => j_Tr false τ M_cX12_advance d 117 [some (.ref 75), none] [] r Q) := by
  intro n
  induction n with
  | zero => intro σ; exact j_none
  | succ n ih =>
    intro σ
    unfold p_X12_advance_83
    refine j_aload_n (pc' := 84) rfl rfl rfl ?_
    refine j_aload_n (pc' := 85) rfl rfl rfl ?_
    refine j_gfi (pc' := 88) rfl rfl j_a75 rfl ?_
    refine j_callPi (pc' := 91) (ai := 210) (vs := [.ref 75, .int (σ.1 75 8)]) (rest := []) rfl rfl (fun _ _ => rfl) (c_X12_see (σ.1 75 8) σ) (j_dd rfl hd) rfl (fun v1 => ?_)
    refine j_i2l (pc' := 92) rfl rfl ?_
    refine j_ldc2_w (pc' := 95) (x := (97 : Int64)) rfl rfl rfl ?_
    refine j_ldc2_w (pc' := 98) (x := (122 : Int64)) rfl rfl rfl ?_
    refine j_callTi (pc' := 101) (ai := 196) (vs := [.long (v1).toInt64, .long (97 : Int64), .long (122 : Int64)]) (rest := []) rfl rfl (fun _ _ => rfl) (c_X12_in (v1).toInt64 (97 : Int64) (122 : Int64) σ) (j_dd rfl hd) rfl ?_
    refine j_two (pT := 104) (pF := 117) (L1 := [some (.ref 75), none]) (st1 := []) (fun o kT kF => ?_) (fun h1 => ?_) (fun h1 => ?_)
    · refine j_ifeq (t := 117) (pc' := 104) rfl rfl rfl (fun h2 => ?_) (fun h2 => ?_)
      · exact kF (fun z => z h2)
      · exact kT h2
    · refine j_aload_n (pc' := 105) rfl rfl rfl ?_
      refine j_dup (pc' := 106) rfl rfl rfl ?_
      refine j_gfi (pc' := 109) rfl rfl j_a75 rfl ?_
      refine j_iconst (pc' := 110) (x := (1 : Int32)) rfl rfl rfl ?_
      refine j_iadd (pc' := 111) rfl rfl ?_
      refine j_pfi (pc' := 114) rfl rfl j_a75 rfl rfl (fun σ2 => ?_)
      refine j_goto (t := 83) rfl rfl ?_
      exact ih σ2
    · exact j_end (fun _ h => h)

theorem l_X12_advance_144 {d : Nat} (hd : 1 ≤ d) (τ : j_G) : ∀ (n : Nat) (σ : j_G), j_J false τ M_cX12_advance d 144 [some (.ref 75), none] [] σ (p_X12_advance_144 n σ) (fun r Q => j_Tr false τ M_cX12_advance d 206 [some (.ref 75), none] [] r Q) := by
  intro n
  induction n with
  | zero => intro σ; exact j_none
  | succ n ih =>
    intro σ
    unfold p_X12_advance_144
    refine j_aload_n (pc' := 145) rfl rfl rfl ?_
    refine j_aload_n (pc' := 146) rfl rfl rfl ?_
    refine j_gfi (pc' := 149) rfl rfl j_a75 rfl ?_
    refine j_callPi (pc' := 152) (ai := 210) (vs := [.ref 75, .int (σ.1 75 8)]) (rest := []) rfl rfl (fun _ _ => rfl) (c_X12_see (σ.1 75 8) σ) (j_dd rfl hd) rfl (fun v1 => ?_)
    refine j_i2l (pc' := 153) rfl rfl ?_
    refine j_ldc2_w (pc' := 156) (x := (48 : Int64)) rfl rfl rfl ?_
    refine j_ldc2_w (pc' := 159) (x := (57 : Int64)) rfl rfl rfl ?_
    refine j_callTi (pc' := 162) (ai := 196) (vs := [.long (v1).toInt64, .long (48 : Int64), .long (57 : Int64)]) (rest := []) rfl rfl (fun _ _ => rfl) (c_X12_in (v1).toInt64 (48 : Int64) (57 : Int64) σ) (j_dd rfl hd) rfl ?_
    refine j_two (pT := 165) (pF := 206) (L1 := [some (.ref 75), none]) (st1 := []) (fun o kT kF => ?_) (fun h1 => ?_) (fun h1 => ?_)
    · refine j_ifeq (t := 206) (pc' := 165) rfl rfl rfl (fun h2 => ?_) (fun h2 => ?_)
      · exact kF (fun z => z h2)
      · exact kT h2
    · refine j_aload_n (pc' := 166) rfl rfl rfl ?_
      refine j_ldc (pc' := 168) (x := (99999 : Int32)) rfl rfl rfl rfl ?_
      refine j_bipush (pc' := 170) (x := (10 : Int32)) rfl rfl rfl ?_
      refine j_aload_n (pc' := 171) rfl rfl rfl ?_
      refine j_gfi (pc' := 174) rfl rfl j_a75 rfl ?_
      refine j_imul (pc' := 175) rfl rfl ?_
      refine j_aload_n (pc' := 176) rfl rfl rfl ?_
      refine j_aload_n (pc' := 177) rfl rfl rfl ?_
      refine j_gfi (pc' := 180) rfl rfl j_a75 rfl ?_
      refine j_callPi (pc' := 183) (ai := 210) (vs := [.ref 75, .int (σ.1 75 8)]) (rest := [.int ((10 : Int32) * (σ.1 75 11)), .int (99999 : Int32), .ref 75]) rfl rfl (fun _ _ => rfl) (c_X12_see (σ.1 75 8) σ) (j_dd rfl hd) rfl (fun v2 => ?_)
      refine j_iadd (pc' := 184) rfl rfl ?_
      refine j_bipush (pc' := 186) (x := (48 : Int32)) rfl rfl rfl ?_
      refine j_isub (pc' := 187) rfl rfl ?_
      refine j_min (pc' := 190) rfl rfl rfl ?_
      refine j_pfi (pc' := 193) rfl rfl j_a75 rfl rfl (fun σ3 => ?_)
      refine j_aload_n (pc' := 194) rfl rfl rfl ?_
      refine j_dup (pc' := 195) rfl rfl rfl ?_
      refine j_gfi (pc' := 198) rfl rfl j_a75 rfl ?_
      refine j_iconst (pc' := 199) (x := (1 : Int32)) rfl rfl rfl ?_
      refine j_iadd (pc' := 200) rfl rfl ?_
      refine j_pfi (pc' := 203) rfl rfl j_a75 rfl rfl (fun σ4 => ?_)
      refine j_goto (t := 144) rfl rfl ?_
      exact ih σ4
    · exact j_end (fun _ h => h)

theorem c_X12_advance (σ : j_G) : j_K false 1 211 [.ref 75] σ (f_X12_advance σ) j_Rv := by
  refine j_mkK (M := M_cX12_advance) (L := [some (.ref 75), none]) (m := 1) t_211 rfl (j_rcvO j_a75 rfl) rfl (fun d hd τ => ?_)
  unfold f_X12_advance
  refine j_q1 (l_X12_advance_0 hd τ j_F σ) (fun σ1 => ?_)
  show j_J false τ M_cX12_advance d 39 [some (.ref 75), none] [] σ1 _ _
  refine j_aload_n (pc' := 40) rfl rfl rfl ?_
  refine j_aload_n (pc' := 41) rfl rfl rfl ?_
  refine j_gfi (pc' := 44) rfl rfl j_a75 rfl ?_
  refine j_pfi (pc' := 47) rfl rfl j_a75 rfl rfl (fun σ2 => ?_)
  refine j_aload_n (pc' := 48) rfl rfl rfl ?_
  refine j_aload_n (pc' := 49) rfl rfl rfl ?_
  refine j_gfi (pc' := 52) rfl rfl j_a75 rfl ?_
  refine j_callPi (pc' := 55) (ai := 210) (vs := [.ref 75, .int (σ2.1 75 8)]) (rest := []) rfl rfl (fun _ _ => rfl) (c_X12_see (σ2.1 75 8) σ2) (j_dd rfl hd) rfl (fun v3 => ?_)
  refine j_istore_n (pc' := 56) (L' := [some (.ref 75), some (.int v3)]) rfl rfl rfl ?_
  refine j_iload_n (pc' := 57) rfl rfl rfl ?_
  refine j_iconst (pc' := 58) (x := (-1 : Int32)) rfl rfl rfl ?_
  refine j_two (pT := 61) (pF := 69) (L1 := [some (.ref 75), some (.int v3)]) (st1 := []) (fun o kT kF => ?_) (fun h7 => ?_) (fun h7 => ?_)
  · refine j_icne (t := 69) (pc' := 61) rfl rfl rfl (fun h8 => ?_) (fun h8 => ?_)
    · exact kF h8
    · exact kT h8
  · refine j_aload_n (pc' := 62) rfl rfl rfl ?_
    refine j_iconst (pc' := 63) (x := (0 : Int32)) rfl rfl rfl ?_
    refine j_pfi (pc' := 66) rfl rfl j_a75 rfl rfl (fun σ4 => ?_)
    refine j_goto (t := 239) rfl rfl ?_
    exact j_ret rfl rfl rfl (fun _ h => h)
  · refine j_iload_n (pc' := 70) rfl rfl rfl ?_
    refine j_i2l (pc' := 71) rfl rfl ?_
    refine j_ldc2_w (pc' := 74) (x := (97 : Int64)) rfl rfl rfl ?_
    refine j_ldc2_w (pc' := 77) (x := (122 : Int64)) rfl rfl rfl ?_
    refine j_callTi (pc' := 80) (ai := 196) (vs := [.long (v3).toInt64, .long (97 : Int64), .long (122 : Int64)]) (rest := []) rfl rfl (fun _ _ => rfl) (c_X12_in (v3).toInt64 (97 : Int64) (122 : Int64) σ2) (j_dd rfl hd) rfl ?_
    refine j_two (pT := 83) (pF := 125) (L1 := [some (.ref 75), some (.int v3)]) (st1 := []) (fun o kT kF => ?_) (fun h5 => ?_) (fun h5 => ?_)
    · refine j_ifeq (t := 125) (pc' := 83) rfl rfl rfl (fun h6 => ?_) (fun h6 => ?_)
      · exact kF (fun z => z h6)
      · exact kT h6
    · refine j_wk [true, false] (L' := [some (.ref 75), none]) rfl ?_
      refine j_q1 (l_X12_advance_83 hd τ j_F σ2) (fun σ5 => ?_)
      show j_J false τ M_cX12_advance d 117 [some (.ref 75), none] [] σ5 _ _
      refine j_aload_n (pc' := 118) rfl rfl rfl ?_
      refine j_iconst (pc' := 119) (x := (1 : Int32)) rfl rfl rfl ?_
      refine j_pfi (pc' := 122) rfl rfl j_a75 rfl rfl (fun σ6 => ?_)
      refine j_goto (t := 239) rfl rfl ?_
      exact j_ret rfl rfl rfl (fun _ h => h)
    · refine j_iload_n (pc' := 126) rfl rfl rfl ?_
      refine j_i2l (pc' := 127) rfl rfl ?_
      refine j_ldc2_w (pc' := 130) (x := (48 : Int64)) rfl rfl rfl ?_
      refine j_ldc2_w (pc' := 133) (x := (57 : Int64)) rfl rfl rfl ?_
      refine j_callTi (pc' := 136) (ai := 196) (vs := [.long (v3).toInt64, .long (48 : Int64), .long (57 : Int64)]) (rest := []) rfl rfl (fun _ _ => rfl) (c_X12_in (v3).toInt64 (48 : Int64) (57 : Int64) σ2) (j_dd rfl hd) rfl ?_
      refine j_two (pT := 139) (pF := 214) (L1 := [some (.ref 75), some (.int v3)]) (st1 := []) (fun o kT kF => ?_) (fun h3 => ?_) (fun h3 => ?_)
      · refine j_ifeq (t := 214) (pc' := 139) rfl rfl rfl (fun h4 => ?_) (fun h4 => ?_)
        · exact kF (fun z => z h4)
        · exact kT h4
      · refine j_aload_n (pc' := 140) rfl rfl rfl ?_
        refine j_iconst (pc' := 141) (x := (0 : Int32)) rfl rfl rfl ?_
        refine j_pfi (pc' := 144) rfl rfl j_a75 rfl rfl (fun σ7 => ?_)
        refine j_wk [true, false] (L' := [some (.ref 75), none]) rfl ?_
        refine j_q1 (l_X12_advance_144 hd τ j_F σ7) (fun σ8 => ?_)
        show j_J false τ M_cX12_advance d 206 [some (.ref 75), none] [] σ8 _ _
        refine j_aload_n (pc' := 207) rfl rfl rfl ?_
        refine j_iconst (pc' := 208) (x := (2 : Int32)) rfl rfl rfl ?_
        refine j_pfi (pc' := 211) rfl rfl j_a75 rfl rfl (fun σ9 => ?_)
        refine j_goto (t := 239) rfl rfl ?_
        exact j_ret rfl rfl rfl (fun _ h => h)
      · refine j_aload_n (pc' := 215) rfl rfl rfl ?_
        refine j_iload_n (pc' := 216) rfl rfl rfl ?_
        refine j_bipush (pc' := 218) (x := (59 : Int32)) rfl rfl rfl ?_
        refine j_ql (Φl := (fun r Q => j_Tr false τ M_cX12_advance d 226 [some (.ref 75), none] [.int r, .ref 75] σ2 Q)) ?_ (fun v10 => ?_)
        · refine j_twoT (pT := 221) (pF := 225) (L1 := [some (.ref 75), some (.int v3)]) (st1 := [.ref 75]) (fun o kT kF => ?_) (fun h1 => ?_) (fun h1 => ?_)
          · refine j_icne (t := 225) (pc' := 221) rfl rfl rfl (fun h2 => ?_) (fun h2 => ?_)
            · exact kF h2
            · exact kT h2
          · refine j_iconst (pc' := 222) (x := (3 : Int32)) rfl rfl rfl ?_
            refine j_goto (t := 226) rfl rfl ?_
            refine j_wk [true, false] (L' := [some (.ref 75), none]) rfl ?_
            exact j_end (fun _ h => h)
          · refine j_iconst (pc' := 226) (x := (4 : Int32)) rfl rfl rfl ?_
            refine j_wk [true, false] (L' := [some (.ref 75), none]) rfl ?_
            exact j_end (fun _ h => h)
        show j_J false τ M_cX12_advance d 226 [some (.ref 75), none] [.int v10, .ref 75] σ2 _ _
        refine j_pfi (pc' := 229) rfl rfl j_a75 rfl rfl (fun σ11 => ?_)
        refine j_aload_n (pc' := 230) rfl rfl rfl ?_
        refine j_dup (pc' := 231) rfl rfl rfl ?_
        refine j_gfi (pc' := 234) rfl rfl j_a75 rfl ?_
        refine j_iconst (pc' := 235) (x := (1 : Int32)) rfl rfl rfl ?_
        refine j_iadd (pc' := 236) rfl rfl ?_
        refine j_pfi (pc' := 239) rfl rfl j_a75 rfl rfl (fun σ12 => ?_)
        exact j_ret rfl rfl rfl (fun _ h => h)

noncomputable def f_X12_good (σ : j_G) : Int32 :=
  if (σ.1 75 12) = 0 then ((1 : Int32)) else ((0 : Int32))

theorem b_X12_good (σ : j_G) : f_X12_good σ = 0 ∨ f_X12_good σ = 1 := by
  unfold f_X12_good
  repeat' split
  all_goals first | exact Or.inl rfl | exact Or.inr rfl
theorem c_X12_good (σ : j_G) : j_K false 0 212 [.ref 75] σ (some (f_X12_good σ)) (j_Pi σ) := by
  refine j_mkK (M := M_cX12_good) (L := [some (.ref 75)]) (m := 0) t_212 rfl (j_rcvO j_a75 rfl) rfl (fun d hd τ => ?_)
  unfold f_X12_good
  refine j_aload_n (pc' := 1) rfl rfl rfl ?_
  refine j_gfi (pc' := 4) rfl rfl j_a75 rfl ?_
  refine j_twoT (pT := 7) (pF := 11) (L1 := [some (.ref 75)]) (st1 := []) (fun o kT kF => ?_) (fun h1 => ?_) (fun h1 => ?_)
  · refine j_ifne (t := 11) (pc' := 7) rfl rfl rfl (fun h2 => ?_) (fun h2 => ?_)
    · exact kF h2
    · exact kT h2
  · refine j_iconst (pc' := 8) (x := (1 : Int32)) rfl rfl rfl ?_
    refine j_goto (t := 12) rfl rfl ?_
    exact j_ret rfl rfl rfl (fun _ h => h)
  · refine j_iconst (pc' := 12) (x := (0 : Int32)) rfl rfl rfl ?_
    exact j_ret rfl rfl rfl (fun _ h => h)

noncomputable def p_X12_is_39 (l1 : Nat) (σ : j_G) : Nat → Int32 → Int32 → Option Int32
  | 0, _, _ => none
  | n + 1, l2, l3 =>
    j_b1 (j_len l1) fun v1 =>
    if (l3 < v1) ∧ (¬ l2 = 0) then (j_ix ((σ.1 75 9) + l3) 1200 (
    j_b1 (j_chr l1 l3) fun v2 =>
    j_lt (if (σ.1 79 (((σ.1 75 9) + l3)).toNatClampNeg) = v2 then ((1 : Int32)) else ((0 : Int32))) fun v3 =>
    p_X12_is_39 l1 σ n v3 (l3 + (1 : Int32)))) else (some l2)

noncomputable def f_X12_is (l1 : Nat) (σ : j_G) : Option Int32 :=
  j_b1 (if (¬ (f_X12_good σ) = 0) ∧ ((σ.1 75 10) = (1 : Int32)) then (j_b1 (j_len l1) fun v2 =>
  if ((σ.1 75 8) - (σ.1 75 9)) = v2 then (some (1 : Int32)) else (some (0 : Int32))) else (some (0 : Int32))) fun v1 =>
  j_b1 (p_X12_is_39 l1 σ j_F v1 (0 : Int32)) fun v3 =>
  j_bo v3 (
  some v3)
theorem l_X12_is_39 {d : Nat} (hd : 1 ≤ d) (τ : j_G) (l1 : Nat) (σ : j_G) : ∀ (n : Nat) (l2 : Int32) (l3 : Int32), j_J false τ M_cX12_is d 39 [some (.ref 75), some (.ref l1), some (.int l2), some (.int l3)] [] σ (p_X12_is_39 l1 σ n l2 l3) (fun r Q => j_Tr false τ M_cX12_is d 82 [none, none, some (.int r), none] [] σ Q) := by
  intro n
  induction n with
  | zero => intro l2 l3; exact j_none
  | succ n ih =>
    intro l2 l3
    unfold p_X12_is_39
    refine j_iload_n (pc' := 40) rfl rfl rfl ?_
    refine j_aload_n (pc' := 41) rfl rfl rfl ?_
    refine j_slen (pc' := 44) rfl rfl rfl (fun v1 => ?_)
    refine j_two (pT := 51) (pF := 82) (L1 := [some (.ref 75), some (.ref l1), some (.int l2), some (.int l3)]) (st1 := []) (fun o kT kF => ?_) (fun h3 => ?_) (fun h3 => ?_)
    · refine j_icge (t := 82) (pc' := 47) rfl rfl rfl (fun h4 => ?_) (fun h4 => ?_)
      · exact kF (fun z => h4 z.1)
      · refine j_iload_n (pc' := 48) rfl rfl rfl ?_
        refine j_ifeq (t := 82) (pc' := 51) rfl rfl rfl (fun h5 => ?_) (fun h5 => ?_)
        · exact kF (fun z => (fun z => z h5) z.2)
        · exact kT (⟨h4, h5⟩)
    · refine j_aload_n (pc' := 52) rfl rfl rfl ?_
      refine j_gfr (pc' := 55) (x := 79) rfl rfl j_a75 rfl rfl ?_
      refine j_aload_n (pc' := 56) rfl rfl rfl ?_
      refine j_gfi (pc' := 59) rfl rfl j_a75 rfl ?_
      refine j_iload_n (pc' := 60) rfl rfl rfl ?_
      refine j_iadd (pc' := 61) rfl rfl ?_
      refine j_bald (pc' := 62) rfl rfl j_a79 ?_
      refine j_aload_n (pc' := 63) rfl rfl rfl ?_
      refine j_iload_n (pc' := 64) rfl rfl rfl ?_
      refine j_schr (pc' := 67) rfl rfl rfl (fun v2 => ?_)
      refine j_ql (Φl := (fun r Q => j_Tr false τ M_cX12_is d 75 [some (.ref 75), some (.ref l1), none, some (.int l3)] [.int r] σ Q)) ?_ (fun v3 => ?_)
      · refine j_twoT (pT := 70) (pF := 74) (L1 := [some (.ref 75), some (.ref l1), some (.int l2), some (.int l3)]) (st1 := []) (fun o kT kF => ?_) (fun h1 => ?_) (fun h1 => ?_)
        · refine j_icne (t := 74) (pc' := 70) rfl rfl rfl (fun h2 => ?_) (fun h2 => ?_)
          · exact kF h2
          · exact kT h2
        · refine j_iconst (pc' := 71) (x := (1 : Int32)) rfl rfl rfl ?_
          refine j_goto (t := 75) rfl rfl ?_
          refine j_wk [true, true, false, true] (L' := [some (.ref 75), some (.ref l1), none, some (.int l3)]) rfl ?_
          exact j_end (fun _ h => h)
        · refine j_iconst (pc' := 75) (x := (0 : Int32)) rfl rfl rfl ?_
          refine j_wk [true, true, false, true] (L' := [some (.ref 75), some (.ref l1), none, some (.int l3)]) rfl ?_
          exact j_end (fun _ h => h)
      show j_J false τ M_cX12_is d 75 [some (.ref 75), some (.ref l1), none, some (.int l3)] [.int v3] σ _ _
      refine j_istore_n (pc' := 76) (L' := [some (.ref 75), some (.ref l1), some (.int v3), some (.int l3)]) rfl rfl rfl ?_
      refine j_iincx (pc' := 79) (y := (1 : Int32)) (L' := [some (.ref 75), some (.ref l1), some (.int v3), some (.int (l3 + (1 : Int32)))]) rfl rfl rfl rfl rfl ?_
      refine j_goto (t := 39) rfl rfl ?_
      exact ih v3 (l3 + (1 : Int32))
    · refine j_wk [false, false, true, false] (L' := [none, none, some (.int l2), none]) rfl ?_
      exact j_end (fun _ h => h)

theorem c_X12_is (l1 : Nat) (σ : j_G) : j_K false 1 214 [.ref 75, .ref l1] σ (f_X12_is l1 σ) (j_Pi σ) := by
  refine j_mkK (M := M_cX12_is) (L := [some (.ref 75), some (.ref l1), none, none]) (m := 2) t_214 rfl (j_rcvO j_a75 rfl) rfl (fun d hd τ => ?_)
  unfold f_X12_is
  refine j_aload_n (pc' := 1) rfl rfl rfl ?_
  refine j_callTi (pc' := 4) (ai := 212) (vs := [.ref 75]) (rest := []) rfl rfl (fun _ _ => rfl) (c_X12_good  σ) (j_dd rfl hd) rfl ?_
  refine j_q1 (Φl := (fun r Q => j_Tr false τ M_cX12_is d 36 [some (.ref 75), some (.ref l1), none, none] [.int r] σ Q)) ?_ (fun v1 => ?_)
  · refine j_two (pT := 15) (pF := 35) (L1 := [some (.ref 75), some (.ref l1), none, none]) (st1 := []) (fun o kT kF => ?_) (fun h3 => ?_) (fun h3 => ?_)
    · refine j_ifeq (t := 35) (pc' := 7) rfl rfl rfl (fun h4 => ?_) (fun h4 => ?_)
      · exact kF (fun z => z.1 h4)
      · refine j_aload_n (pc' := 8) rfl rfl rfl ?_
        refine j_gfi (pc' := 11) rfl rfl j_a75 rfl ?_
        refine j_iconst (pc' := 12) (x := (1 : Int32)) rfl rfl rfl ?_
        refine j_icne (t := 35) (pc' := 15) rfl rfl rfl (fun h5 => ?_) (fun h5 => ?_)
        · exact kF (fun z => (h5) z.2)
        · exact kT (⟨h4, h5⟩)
    · refine j_aload_n (pc' := 16) rfl rfl rfl ?_
      refine j_gfi (pc' := 19) rfl rfl j_a75 rfl ?_
      refine j_aload_n (pc' := 20) rfl rfl rfl ?_
      refine j_gfi (pc' := 23) rfl rfl j_a75 rfl ?_
      refine j_isub (pc' := 24) rfl rfl ?_
      refine j_aload_n (pc' := 25) rfl rfl rfl ?_
      refine j_slen (pc' := 28) rfl rfl rfl (fun v2 => ?_)
      refine j_two (pT := 31) (pF := 35) (L1 := [some (.ref 75), some (.ref l1), none, none]) (st1 := []) (fun o kT kF => ?_) (fun h1 => ?_) (fun h1 => ?_)
      · refine j_icne (t := 35) (pc' := 31) rfl rfl rfl (fun h2 => ?_) (fun h2 => ?_)
        · exact kF h2
        · exact kT h2
      · refine j_iconst (pc' := 32) (x := (1 : Int32)) rfl rfl rfl ?_
        refine j_goto (t := 36) rfl rfl ?_
        exact j_end (fun _ h => h)
      · refine j_iconst (pc' := 36) (x := (0 : Int32)) rfl rfl rfl ?_
        exact j_end (fun _ h => h)
    · refine j_iconst (pc' := 36) (x := (0 : Int32)) rfl rfl rfl ?_
      exact j_end (fun _ h => h)
  show j_J false τ M_cX12_is d 36 [some (.ref 75), some (.ref l1), none, none] [.int v1] σ _ _
  refine j_istore_n (pc' := 37) (L' := [some (.ref 75), some (.ref l1), some (.int v1), none]) rfl rfl rfl ?_
  refine j_iconst (pc' := 38) (x := (0 : Int32)) rfl rfl rfl ?_
  refine j_istore_n (pc' := 39) (L' := [some (.ref 75), some (.ref l1), some (.int v1), some (.int (0 : Int32))]) rfl rfl rfl ?_
  refine j_q1 (l_X12_is_39 hd τ l1 σ j_F v1 (0 : Int32)) (fun v3 => ?_)
  show j_J false τ M_cX12_is d 82 [none, none, some (.int v3), none] [] σ _ _
  refine j_iload_n (pc' := 83) rfl rfl rfl ?_
  refine j_boJ (fun h6 => ?_)
  exact j_retb rfl rfl h6 (fun _ h => h)

noncomputable def f_X12_takes (l1 : Nat) (σ : j_G) : Option (Int32 × j_G) :=
  j_b1 (f_X12_is l1 σ) fun v1 =>
  if ¬ v1 = 0 then (j_b1 (f_X12_advance σ) fun σ2 =>
  j_bo v1 (
  some (v1, σ2))) else (j_bo v1 (
  some (v1, σ)))
theorem c_X12_takes (l1 : Nat) (σ : j_G) : j_K false 2 215 [.ref 75, .ref l1] σ (f_X12_takes l1 σ) j_Ri := by
  refine j_mkK (M := M_cX12_takes) (L := [some (.ref 75), some (.ref l1), none]) (m := 1) t_215 rfl (j_rcvO j_a75 rfl) rfl (fun d hd τ => ?_)
  unfold f_X12_takes
  refine j_aload_n (pc' := 1) rfl rfl rfl ?_
  refine j_aload_n (pc' := 2) rfl rfl rfl ?_
  refine j_callPi (pc' := 5) (ai := 214) (vs := [.ref 75, .ref l1]) (rest := []) rfl rfl (fun _ _ => rfl) (c_X12_is l1 σ) (j_dd rfl hd) rfl (fun v1 => ?_)
  refine j_istore_n (pc' := 6) (L' := [some (.ref 75), some (.ref l1), some (.int v1)]) rfl rfl rfl ?_
  refine j_iload_n (pc' := 7) rfl rfl rfl ?_
  refine j_two (pT := 10) (pF := 14) (L1 := [some (.ref 75), some (.ref l1), some (.int v1)]) (st1 := []) (fun o kT kF => ?_) (fun h3 => ?_) (fun h3 => ?_)
  · refine j_ifeq (t := 14) (pc' := 10) rfl rfl rfl (fun h4 => ?_) (fun h4 => ?_)
    · exact kF (fun z => z h4)
    · exact kT h4
  · refine j_aload_n (pc' := 11) rfl rfl rfl ?_
    refine j_callRv (pc' := 14) (ai := 211) (vs := [.ref 75]) (rest := []) rfl rfl (fun _ _ => rfl) (c_X12_advance  σ) (j_dd rfl hd) rfl (fun σ2 => ?_)
    refine j_iload_n (pc' := 15) rfl rfl rfl ?_
    refine j_boJ (fun h1 => ?_)
    exact j_retb rfl rfl h1 (fun _ h => h)
  · refine j_iload_n (pc' := 15) rfl rfl rfl ?_
    refine j_boJ (fun h2 => ?_)
    exact j_retb rfl rfl h2 (fun _ h => h)

noncomputable def f_X12_errs (l1 : Int32) (σ : j_G) : Option j_G :=
  if (f_X12_good σ) = 0 then (some σ) else (j_lt (j_si σ 75 12 l1) fun σ1 =>
  j_lt (j_si σ1 75 13 (σ1.1 75 9)) fun σ2 =>
  some σ2)
theorem c_X12_errs (l1 : Int32) (σ : j_G) : j_K false 1 213 [.ref 75, .int l1] σ (f_X12_errs l1 σ) j_Rv := by
  refine j_mkK (M := M_cX12_errs) (L := [some (.ref 75), some (.int l1)]) (m := 0) t_213 rfl (j_rcvO j_a75 rfl) rfl (fun d hd τ => ?_)
  unfold f_X12_errs
  refine j_aload_n (pc' := 1) rfl rfl rfl ?_
  refine j_callTi (pc' := 4) (ai := 212) (vs := [.ref 75]) (rest := []) rfl rfl (fun _ _ => rfl) (c_X12_good  σ) (j_dd rfl hd) rfl ?_
  refine j_two (pT := 7) (pF := 8) (L1 := [some (.ref 75), some (.int l1)]) (st1 := []) (fun o kT kF => ?_) (fun h1 => ?_) (fun h1 => ?_)
  · refine j_ifne (t := 8) (pc' := 7) rfl rfl rfl (fun h2 => ?_) (fun h2 => ?_)
    · exact kF h2
    · exact kT h2
  · exact j_ret rfl rfl rfl (fun _ h => h)
  · refine j_aload_n (pc' := 9) rfl rfl rfl ?_
    refine j_iload_n (pc' := 10) rfl rfl rfl ?_
    refine j_pfi (pc' := 13) rfl rfl j_a75 rfl rfl (fun σ1 => ?_)
    refine j_aload_n (pc' := 14) rfl rfl rfl ?_
    refine j_aload_n (pc' := 15) rfl rfl rfl ?_
    refine j_gfi (pc' := 18) rfl rfl j_a75 rfl ?_
    refine j_pfi (pc' := 21) rfl rfl j_a75 rfl rfl (fun σ2 => ?_)
    exact j_ret rfl rfl rfl (fun _ h => h)

noncomputable def f_X12_needs (l1 : Nat) (σ : j_G) : Option j_G :=
  j_b2 (f_X12_takes l1 σ) fun v2 σ1 =>
  if v2 = 0 then (j_b1 (f_X12_errs (1 : Int32) σ1) fun σ3 =>
  some σ3) else (some σ1)
theorem c_X12_needs (l1 : Nat) (σ : j_G) : j_K false 3 216 [.ref 75, .ref l1] σ (f_X12_needs l1 σ) j_Rv := by
  refine j_mkK (M := M_cX12_needs) (L := [some (.ref 75), some (.ref l1)]) (m := 0) t_216 rfl (j_rcvO j_a75 rfl) rfl (fun d hd τ => ?_)
  unfold f_X12_needs
  refine j_aload_n (pc' := 1) rfl rfl rfl ?_
  refine j_aload_n (pc' := 2) rfl rfl rfl ?_
  refine j_callRi (pc' := 5) (ai := 215) (vs := [.ref 75, .ref l1]) (rest := []) rfl rfl (fun _ _ => rfl) (c_X12_takes l1 σ) (j_dd rfl hd) rfl (fun v2 σ1 => ?_)
  refine j_two (pT := 8) (pF := 13) (L1 := [some (.ref 75), some (.ref l1)]) (st1 := []) (fun o kT kF => ?_) (fun h1 => ?_) (fun h1 => ?_)
  · refine j_ifne (t := 13) (pc' := 8) rfl rfl rfl (fun h2 => ?_) (fun h2 => ?_)
    · exact kF h2
    · exact kT h2
  · refine j_aload_n (pc' := 9) rfl rfl rfl ?_
    refine j_iconst (pc' := 10) (x := (1 : Int32)) rfl rfl rfl ?_
    refine j_callRv (pc' := 13) (ai := 213) (vs := [.ref 75, .int (1 : Int32)]) (rest := []) rfl rfl (fun _ _ => rfl) (c_X12_errs (1 : Int32) σ1) (j_dd rfl hd) rfl (fun σ3 => ?_)
    exact j_ret rfl rfl rfl (fun _ h => h)
  · exact j_ret rfl rfl rfl (fun _ h => h)

noncomputable def f_X12_number (l1 : Int32) (l2 : Int32) (σ : j_G) : Option (Int32 × j_G) :=
  j_b1 (if (¬ (f_X12_good σ) = 0) ∧ (¬ (σ.1 75 10) = (2 : Int32)) then (j_b1 (f_X12_errs (1 : Int32) σ) fun σ2 =>
  some σ2) else (some σ)) fun σ1 =>
  j_b1 (if (¬ (f_X12_good σ1) = 0) ∧ ((f_X12_in ((σ1.1 75 11)).toInt64 (l1).toInt64 (l2).toInt64) = 0) then (j_b1 (f_X12_errs (2 : Int32) σ1) fun σ4 =>
  some σ4) else (some σ1)) fun σ3 =>
  if (f_X12_good σ3) = 0 then (some ((0 : Int32), σ3)) else (j_lt (σ3.1 75 11) fun v5 =>
  j_b1 (f_X12_advance σ3) fun σ6 =>
  some (v5, σ6))
theorem c_X12_number (l1 : Int32) (l2 : Int32) (σ : j_G) : j_K false 2 217 [.ref 75, .int l1, .int l2] σ (f_X12_number l1 l2 σ) j_Ri := by
  refine j_mkK (M := M_cX12_number) (L := [some (.ref 75), some (.int l1), some (.int l2), none]) (m := 1) t_217 rfl (j_rcvO j_a75 rfl) rfl (fun d hd τ => ?_)
  unfold f_X12_number
  refine j_aload_n (pc' := 1) rfl rfl rfl ?_
  refine j_callTi (pc' := 4) (ai := 212) (vs := [.ref 75]) (rest := []) rfl rfl (fun _ _ => rfl) (c_X12_good  σ) (j_dd rfl hd) rfl ?_
  refine j_q1 (Φl := (fun r Q => j_Tr false τ M_cX12_number d 20 [some (.ref 75), some (.int l1), some (.int l2), none] [] r Q)) ?_ (fun σ1 => ?_)
  · refine j_two (pT := 15) (pF := 20) (L1 := [some (.ref 75), some (.int l1), some (.int l2), none]) (st1 := []) (fun o kT kF => ?_) (fun h1 => ?_) (fun h1 => ?_)
    · refine j_ifeq (t := 20) (pc' := 7) rfl rfl rfl (fun h2 => ?_) (fun h2 => ?_)
      · exact kF (fun z => z.1 h2)
      · refine j_aload_n (pc' := 8) rfl rfl rfl ?_
        refine j_gfi (pc' := 11) rfl rfl j_a75 rfl ?_
        refine j_iconst (pc' := 12) (x := (2 : Int32)) rfl rfl rfl ?_
        refine j_iceq (t := 20) (pc' := 15) rfl rfl rfl (fun h3 => ?_) (fun h3 => ?_)
        · exact kF (fun z => (fun z => z h3) z.2)
        · exact kT (⟨h2, h3⟩)
    · refine j_aload_n (pc' := 16) rfl rfl rfl ?_
      refine j_iconst (pc' := 17) (x := (1 : Int32)) rfl rfl rfl ?_
      refine j_callRv (pc' := 20) (ai := 213) (vs := [.ref 75, .int (1 : Int32)]) (rest := []) rfl rfl (fun _ _ => rfl) (c_X12_errs (1 : Int32) σ) (j_dd rfl hd) rfl (fun σ2 => ?_)
      exact j_end (fun _ h => h)
    · exact j_end (fun _ h => h)
  show j_J false τ M_cX12_number d 20 [some (.ref 75), some (.int l1), some (.int l2), none] [] σ1 _ _
  refine j_aload_n (pc' := 21) rfl rfl rfl ?_
  refine j_callTi (pc' := 24) (ai := 212) (vs := [.ref 75]) (rest := []) rfl rfl (fun _ _ => rfl) (c_X12_good  σ1) (j_dd rfl hd) rfl ?_
  refine j_q1 (Φl := (fun r Q => j_Tr false τ M_cX12_number d 47 [some (.ref 75), none, none, none] [] r Q)) ?_ (fun σ3 => ?_)
  · refine j_two (pT := 42) (pF := 47) (L1 := [some (.ref 75), some (.int l1), some (.int l2), none]) (st1 := []) (fun o kT kF => ?_) (fun h4 => ?_) (fun h4 => ?_)
    · refine j_ifeq (t := 47) (pc' := 27) rfl rfl rfl (fun h5 => ?_) (fun h5 => ?_)
      · exact kF (fun z => z.1 h5)
      · refine j_aload_n (pc' := 28) rfl rfl rfl ?_
        refine j_gfi (pc' := 31) rfl rfl j_a75 rfl ?_
        refine j_i2l (pc' := 32) rfl rfl ?_
        refine j_iload_n (pc' := 33) rfl rfl rfl ?_
        refine j_i2l (pc' := 34) rfl rfl ?_
        refine j_iload_n (pc' := 35) rfl rfl rfl ?_
        refine j_i2l (pc' := 36) rfl rfl ?_
        refine j_callTi (pc' := 39) (ai := 196) (vs := [.long ((σ1.1 75 11)).toInt64, .long (l1).toInt64, .long (l2).toInt64]) (rest := []) rfl rfl (fun _ _ => rfl) (c_X12_in ((σ1.1 75 11)).toInt64 (l1).toInt64 (l2).toInt64 σ1) (j_dd rfl hd) rfl ?_
        refine j_ifne (t := 47) (pc' := 42) rfl rfl rfl (fun h6 => ?_) (fun h6 => ?_)
        · exact kF (fun z => (h6) z.2)
        · exact kT (⟨h5, h6⟩)
    · refine j_aload_n (pc' := 43) rfl rfl rfl ?_
      refine j_iconst (pc' := 44) (x := (2 : Int32)) rfl rfl rfl ?_
      refine j_callRv (pc' := 47) (ai := 213) (vs := [.ref 75, .int (2 : Int32)]) (rest := []) rfl rfl (fun _ _ => rfl) (c_X12_errs (2 : Int32) σ1) (j_dd rfl hd) rfl (fun σ4 => ?_)
      refine j_wk [true, false, false, true] (L' := [some (.ref 75), none, none, none]) rfl ?_
      exact j_end (fun _ h => h)
    · refine j_wk [true, false, false, true] (L' := [some (.ref 75), none, none, none]) rfl ?_
      exact j_end (fun _ h => h)
  show j_J false τ M_cX12_number d 47 [some (.ref 75), none, none, none] [] σ3 _ _
  refine j_aload_n (pc' := 48) rfl rfl rfl ?_
  refine j_callTi (pc' := 51) (ai := 212) (vs := [.ref 75]) (rest := []) rfl rfl (fun _ _ => rfl) (c_X12_good  σ3) (j_dd rfl hd) rfl ?_
  refine j_two (pT := 54) (pF := 56) (L1 := [some (.ref 75), none, none, none]) (st1 := []) (fun o kT kF => ?_) (fun h7 => ?_) (fun h7 => ?_)
  · refine j_ifne (t := 56) (pc' := 54) rfl rfl rfl (fun h8 => ?_) (fun h8 => ?_)
    · exact kF h8
    · exact kT h8
  · refine j_iconst (pc' := 55) (x := (0 : Int32)) rfl rfl rfl ?_
    exact j_ret rfl rfl rfl (fun _ h => h)
  · refine j_aload_n (pc' := 57) rfl rfl rfl ?_
    refine j_gfi (pc' := 60) rfl rfl j_a75 rfl ?_
    refine j_leti (fun v5 => ?_)
    refine j_istore_n (pc' := 61) (L' := [some (.ref 75), none, none, some (.int v5)]) rfl rfl rfl ?_
    refine j_aload_n (pc' := 62) rfl rfl rfl ?_
    refine j_callRv (pc' := 65) (ai := 211) (vs := [.ref 75]) (rest := []) rfl rfl (fun _ _ => rfl) (c_X12_advance  σ3) (j_dd rfl hd) rfl (fun σ6 => ?_)
    refine j_iload_n (pc' := 66) rfl rfl rfl ?_
    exact j_ret rfl rfl rfl (fun _ h => h)

noncomputable def f_X12_told (l1 : Nat) (l2 : Int32) (l3 : Int32) (σ : j_G) : Option (Int32 × j_G) :=
  j_b1 (f_X12_needs l1 σ) fun σ1 =>
  j_b2 (f_X12_number l2 l3 σ1) fun v3 σ2 =>
  some (v3, σ2)
theorem c_X12_told (l1 : Nat) (l2 : Int32) (l3 : Int32) (σ : j_G) : j_K false 4 218 [.ref 75, .ref l1, .int l2, .int l3] σ (f_X12_told l1 l2 l3 σ) j_Ri := by
  refine j_mkK (M := M_cX12_told) (L := [some (.ref 75), some (.ref l1), some (.int l2), some (.int l3)]) (m := 0) t_218 rfl (j_rcvO j_a75 rfl) rfl (fun d hd τ => ?_)
  unfold f_X12_told
  refine j_aload_n (pc' := 1) rfl rfl rfl ?_
  refine j_aload_n (pc' := 2) rfl rfl rfl ?_
  refine j_callRv (pc' := 5) (ai := 216) (vs := [.ref 75, .ref l1]) (rest := []) rfl rfl (fun _ _ => rfl) (c_X12_needs l1 σ) (j_dd rfl hd) rfl (fun σ1 => ?_)
  refine j_aload_n (pc' := 6) rfl rfl rfl ?_
  refine j_iload_n (pc' := 7) rfl rfl rfl ?_
  refine j_iload_n (pc' := 8) rfl rfl rfl ?_
  refine j_callRi (pc' := 11) (ai := 217) (vs := [.ref 75, .int l2, .int l3]) (rest := []) rfl rfl (fun _ _ => rfl) (c_X12_number l2 l3 σ1) (j_dd rfl hd) rfl (fun v3 σ2 => ?_)
  exact j_ret rfl rfl rfl (fun _ h => h)

noncomputable def f_X12_readFirst (σ : j_G) : Option j_G :=
  j_b1 (f_X12_needs 2000008 σ) fun σ1 =>
  j_b2 (f_X12_told 2000009 (1 : Int32) (4 : Int32) σ1) fun v3 σ2 =>
  j_ix (0 : Int32) 116 (
  j_lt (j_si σ2 81 ((0 : Int32)).toNatClampNeg v3) fun σ4 =>
  j_b2 (f_X12_told 2000010 (1 : Int32) (3 : Int32) σ4) fun v6 σ5 =>
  j_ix (1 : Int32) 116 (
  j_lt (j_si σ5 81 ((1 : Int32)).toNatClampNeg v6) fun σ7 =>
  j_b2 (f_X12_told 2000011 (1 : Int32) (200 : Int32) σ7) fun v9 σ8 =>
  j_ix (2 : Int32) 116 (
  j_lt (j_si σ8 81 ((2 : Int32)).toNatClampNeg v9) fun σ10 =>
  j_b2 (f_X12_told 2000012 (0 : Int32) (9 : Int32) σ10) fun v12 σ11 =>
  j_ix (3 : Int32) 116 (
  j_lt (j_si σ11 81 ((3 : Int32)).toNatClampNeg v12) fun σ13 =>
  j_ix (10 : Int32) 116 (
  j_lt (j_si σ13 81 ((10 : Int32)).toNatClampNeg (1 : Int32)) fun σ14 =>
  j_ix (11 : Int32) 116 (
  j_lt (j_si σ14 81 ((11 : Int32)).toNatClampNeg (100 : Int32)) fun σ15 =>
  some σ15))))))
theorem c_X12_readFirst (σ : j_G) : j_K false 5 221 [.ref 75] σ (f_X12_readFirst σ) j_Rv := by
  refine j_mkK (M := M_cX12_readFirst) (L := [some (.ref 75)]) (m := 0) t_221 rfl (j_rcvO j_a75 rfl) rfl (fun d hd τ => ?_)
  unfold f_X12_readFirst
  refine j_aload_n (pc' := 1) rfl rfl rfl ?_
  refine j_ldcs (pc' := 3) (x := 2000008) rfl rfl rfl rfl ?_
  refine j_callRv (pc' := 6) (ai := 216) (vs := [.ref 75, .ref 2000008]) (rest := []) rfl rfl (fun _ _ => rfl) (c_X12_needs 2000008 σ) (j_dd rfl hd) rfl (fun σ1 => ?_)
  refine j_aload_n (pc' := 7) rfl rfl rfl ?_
  refine j_gfr (pc' := 10) (x := 81) rfl rfl j_a75 rfl rfl ?_
  refine j_iconst (pc' := 11) (x := (0 : Int32)) rfl rfl rfl ?_
  refine j_aload_n (pc' := 12) rfl rfl rfl ?_
  refine j_ldcs (pc' := 14) (x := 2000009) rfl rfl rfl rfl ?_
  refine j_iconst (pc' := 15) (x := (1 : Int32)) rfl rfl rfl ?_
  refine j_iconst (pc' := 16) (x := (4 : Int32)) rfl rfl rfl ?_
  refine j_callRi (pc' := 19) (ai := 218) (vs := [.ref 75, .ref 2000009, .int (1 : Int32), .int (4 : Int32)]) (rest := [.int (0 : Int32), .ref 81]) rfl rfl (fun _ _ => rfl) (c_X12_told 2000009 (1 : Int32) (4 : Int32) σ1) (j_dd rfl hd) rfl (fun v3 σ2 => ?_)
  refine j_iast (pc' := 20) rfl rfl j_a81 (fun σ4 => ?_)
  refine j_aload_n (pc' := 21) rfl rfl rfl ?_
  refine j_gfr (pc' := 24) (x := 81) rfl rfl j_a75 rfl rfl ?_
  refine j_iconst (pc' := 25) (x := (1 : Int32)) rfl rfl rfl ?_
  refine j_aload_n (pc' := 26) rfl rfl rfl ?_
  refine j_ldcs (pc' := 28) (x := 2000010) rfl rfl rfl rfl ?_
  refine j_iconst (pc' := 29) (x := (1 : Int32)) rfl rfl rfl ?_
  refine j_iconst (pc' := 30) (x := (3 : Int32)) rfl rfl rfl ?_
  refine j_callRi (pc' := 33) (ai := 218) (vs := [.ref 75, .ref 2000010, .int (1 : Int32), .int (3 : Int32)]) (rest := [.int (1 : Int32), .ref 81]) rfl rfl (fun _ _ => rfl) (c_X12_told 2000010 (1 : Int32) (3 : Int32) σ4) (j_dd rfl hd) rfl (fun v6 σ5 => ?_)
  refine j_iast (pc' := 34) rfl rfl j_a81 (fun σ7 => ?_)
  refine j_aload_n (pc' := 35) rfl rfl rfl ?_
  refine j_gfr (pc' := 38) (x := 81) rfl rfl j_a75 rfl rfl ?_
  refine j_iconst (pc' := 39) (x := (2 : Int32)) rfl rfl rfl ?_
  refine j_aload_n (pc' := 40) rfl rfl rfl ?_
  refine j_ldcs (pc' := 42) (x := 2000011) rfl rfl rfl rfl ?_
  refine j_iconst (pc' := 43) (x := (1 : Int32)) rfl rfl rfl ?_
  refine j_sipush (pc' := 46) (x := (200 : Int32)) rfl rfl rfl ?_
  refine j_callRi (pc' := 49) (ai := 218) (vs := [.ref 75, .ref 2000011, .int (1 : Int32), .int (200 : Int32)]) (rest := [.int (2 : Int32), .ref 81]) rfl rfl (fun _ _ => rfl) (c_X12_told 2000011 (1 : Int32) (200 : Int32) σ7) (j_dd rfl hd) rfl (fun v9 σ8 => ?_)
  refine j_iast (pc' := 50) rfl rfl j_a81 (fun σ10 => ?_)
  refine j_aload_n (pc' := 51) rfl rfl rfl ?_
  refine j_gfr (pc' := 54) (x := 81) rfl rfl j_a75 rfl rfl ?_
  refine j_iconst (pc' := 55) (x := (3 : Int32)) rfl rfl rfl ?_
  refine j_aload_n (pc' := 56) rfl rfl rfl ?_
  refine j_ldcs (pc' := 58) (x := 2000012) rfl rfl rfl rfl ?_
  refine j_iconst (pc' := 59) (x := (0 : Int32)) rfl rfl rfl ?_
  refine j_bipush (pc' := 61) (x := (9 : Int32)) rfl rfl rfl ?_
  refine j_callRi (pc' := 64) (ai := 218) (vs := [.ref 75, .ref 2000012, .int (0 : Int32), .int (9 : Int32)]) (rest := [.int (3 : Int32), .ref 81]) rfl rfl (fun _ _ => rfl) (c_X12_told 2000012 (0 : Int32) (9 : Int32) σ10) (j_dd rfl hd) rfl (fun v12 σ11 => ?_)
  refine j_iast (pc' := 65) rfl rfl j_a81 (fun σ13 => ?_)
  refine j_aload_n (pc' := 66) rfl rfl rfl ?_
  refine j_gfr (pc' := 69) (x := 81) rfl rfl j_a75 rfl rfl ?_
  refine j_bipush (pc' := 71) (x := (10 : Int32)) rfl rfl rfl ?_
  refine j_iconst (pc' := 72) (x := (1 : Int32)) rfl rfl rfl ?_
  refine j_iast (pc' := 73) rfl rfl j_a81 (fun σ14 => ?_)
  refine j_aload_n (pc' := 74) rfl rfl rfl ?_
  refine j_gfr (pc' := 77) (x := 81) rfl rfl j_a75 rfl rfl ?_
  refine j_bipush (pc' := 79) (x := (11 : Int32)) rfl rfl rfl ?_
  refine j_bipush (pc' := 81) (x := (100 : Int32)) rfl rfl rfl ?_
  refine j_iast (pc' := 82) rfl rfl j_a81 (fun σ15 => ?_)
  exact j_ret rfl rfl rfl (fun _ h => h)

noncomputable def p_X12_freshStay_2 (l1 : Int32) (σ : j_G) : Nat → Int32 → Option Int32
  | 0, _ => none
  | n + 1, l2 =>
    j_ix (4 : Int32) 116 (
    if l2 < (σ.1 81 ((4 : Int32)).toNatClampNeg) then (j_ix ((12 : Int32) + ((2 : Int32) * l2)) 116 (
    if (σ.1 81 (((12 : Int32) + ((2 : Int32) * l2))).toNatClampNeg) = l1 then (some l2) else (p_X12_freshStay_2 l1 σ n (l2 + (1 : Int32))))) else (some (-1 : Int32)))

noncomputable def f_X12_freshStay (l1 : Int32) (σ : j_G) : Option Int32 :=
  p_X12_freshStay_2 l1 σ j_F (0 : Int32)
theorem l_X12_freshStay_2 {d : Nat} (hd : 0 ≤ d) (τ : j_G) (l1 : Int32) (σ : j_G) : ∀ (n : Nat) (l2 : Int32), j_J false τ M_cX12_freshStay d 2 [some (.ref 75), some (.int l1), some (.int l2)] [] σ (p_X12_freshStay_2 l1 σ n l2) (j_Pi σ) := by
  intro n
  induction n with
  | zero => intro l2; exact j_none
  | succ n ih =>
    intro l2
    unfold p_X12_freshStay_2
    refine j_iload_n (pc' := 3) rfl rfl rfl ?_
    refine j_aload_n (pc' := 4) rfl rfl rfl ?_
    refine j_gfr (pc' := 7) (x := 81) rfl rfl j_a75 rfl rfl ?_
    refine j_iconst (pc' := 8) (x := (4 : Int32)) rfl rfl rfl ?_
    refine j_iald (pc' := 9) rfl rfl j_a81 ?_
    refine j_two (pT := 12) (pF := 35) (L1 := [some (.ref 75), some (.int l1), some (.int l2)]) (st1 := []) (fun o kT kF => ?_) (fun h3 => ?_) (fun h3 => ?_)
    · refine j_icge (t := 35) (pc' := 12) rfl rfl rfl (fun h4 => ?_) (fun h4 => ?_)
      · exact kF h4
      · exact kT h4
    · refine j_aload_n (pc' := 13) rfl rfl rfl ?_
      refine j_gfr (pc' := 16) (x := 81) rfl rfl j_a75 rfl rfl ?_
      refine j_bipush (pc' := 18) (x := (12 : Int32)) rfl rfl rfl ?_
      refine j_iconst (pc' := 19) (x := (2 : Int32)) rfl rfl rfl ?_
      refine j_iload_n (pc' := 20) rfl rfl rfl ?_
      refine j_imul (pc' := 21) rfl rfl ?_
      refine j_iadd (pc' := 22) rfl rfl ?_
      refine j_iald (pc' := 23) rfl rfl j_a81 ?_
      refine j_iload_n (pc' := 24) rfl rfl rfl ?_
      refine j_two (pT := 27) (pF := 29) (L1 := [some (.ref 75), some (.int l1), some (.int l2)]) (st1 := []) (fun o kT kF => ?_) (fun h1 => ?_) (fun h1 => ?_)
      · refine j_icne (t := 29) (pc' := 27) rfl rfl rfl (fun h2 => ?_) (fun h2 => ?_)
        · exact kF h2
        · exact kT h2
      · refine j_iload_n (pc' := 28) rfl rfl rfl ?_
        exact j_ret rfl rfl rfl (fun _ h => h)
      · refine j_iincx (pc' := 32) (y := (1 : Int32)) (L' := [some (.ref 75), some (.int l1), some (.int (l2 + (1 : Int32)))]) rfl rfl rfl rfl rfl ?_
        refine j_goto (t := 2) rfl rfl ?_
        exact ih (l2 + (1 : Int32))
    · refine j_iconst (pc' := 36) (x := (-1 : Int32)) rfl rfl rfl ?_
      exact j_ret rfl rfl rfl (fun _ h => h)

theorem c_X12_freshStay (l1 : Int32) (σ : j_G) : j_K false 0 222 [.ref 75, .int l1] σ (f_X12_freshStay l1 σ) (j_Pi σ) := by
  refine j_mkK (M := M_cX12_freshStay) (L := [some (.ref 75), some (.int l1), none]) (m := 1) t_222 rfl (j_rcvO j_a75 rfl) rfl (fun d hd τ => ?_)
  unfold f_X12_freshStay
  refine j_iconst (pc' := 1) (x := (0 : Int32)) rfl rfl rfl ?_
  refine j_istore_n (pc' := 2) (L' := [some (.ref 75), some (.int l1), some (.int (0 : Int32))]) rfl rfl rfl ?_
  exact (l_X12_freshStay_2 hd τ l1 σ j_F (0 : Int32))

noncomputable def f_X12_readStay (σ : j_G) : Option j_G :=
  j_b2 (f_X12_number (1 : Int32) (40 : Int32) σ) fun v2 σ1 =>
  j_b1 (f_X12_needs 2000020 σ1) fun σ3 =>
  j_b1 (if (¬ (f_X12_good σ3) = 0) ∧ ((σ3.1 75 10) = (2 : Int32)) then (j_ix (2 : Int32) 116 (
  if (σ3.1 75 11) < (σ3.1 81 ((2 : Int32)).toNatClampNeg) then (some (1 : Int32)) else (some (0 : Int32)))) else (some (0 : Int32))) fun v4 =>
  j_b1 (if ¬ v4 = 0 then (j_ix (4 : Int32) 116 (
  if (σ3.1 81 ((4 : Int32)).toNatClampNeg) = (6 : Int32) then (j_b1 (f_X12_freshStay (σ3.1 75 11) σ3) fun v6 =>
  if v6 = (-1 : Int32) then (j_b1 (f_X12_errs (3 : Int32) σ3) fun σ7 =>
  some σ7) else (some σ3)) else (some σ3))) else (some σ3)) fun σ5 =>
  j_ix (2 : Int32) 116 (
  j_b2 (f_X12_number (0 : Int32) ((σ5.1 81 ((2 : Int32)).toNatClampNeg) - (1 : Int32)) σ5) fun v9 σ8 =>
  if (f_X12_good σ8) = 0 then (some σ8) else (j_b1 (f_X12_freshStay v9 σ8) fun v10 =>
  j_b2 (if v10 = (-1 : Int32) then (j_ix (4 : Int32) 116 (
  j_lt (σ8.1 81 ((4 : Int32)).toNatClampNeg) fun v13 =>
  j_ix (4 : Int32) 116 (
  j_ix (4 : Int32) 116 (
  j_lt (j_si σ8 81 ((4 : Int32)).toNatClampNeg ((σ8.1 81 ((4 : Int32)).toNatClampNeg) + (1 : Int32))) fun σ14 =>
  some (v13, σ14))))) else (some (v10, σ8))) fun v11 σ12 =>
  j_ix ((12 : Int32) + ((2 : Int32) * v11)) 116 (
  j_lt (j_si σ12 81 (((12 : Int32) + ((2 : Int32) * v11))).toNatClampNeg v9) fun σ15 =>
  j_ix (((12 : Int32) + ((2 : Int32) * v11)) + (1 : Int32)) 116 (
  j_lt (j_si σ15 81 ((((12 : Int32) + ((2 : Int32) * v11)) + (1 : Int32))).toNatClampNeg v2) fun σ16 =>
  some σ16))))
theorem c_X12_readStay (σ : j_G) : j_K false 4 223 [.ref 75] σ (f_X12_readStay σ) j_Rv := by
  refine j_mkK (M := M_cX12_readStay) (L := [some (.ref 75), none, none, none, none]) (m := 4) t_223 rfl (j_rcvO j_a75 rfl) rfl (fun d hd τ => ?_)
  unfold f_X12_readStay
  refine j_aload_n (pc' := 1) rfl rfl rfl ?_
  refine j_iconst (pc' := 2) (x := (1 : Int32)) rfl rfl rfl ?_
  refine j_bipush (pc' := 4) (x := (40 : Int32)) rfl rfl rfl ?_
  refine j_callRi (pc' := 7) (ai := 217) (vs := [.ref 75, .int (1 : Int32), .int (40 : Int32)]) (rest := []) rfl rfl (fun _ _ => rfl) (c_X12_number (1 : Int32) (40 : Int32) σ) (j_dd rfl hd) rfl (fun v2 σ1 => ?_)
  refine j_istore_n (pc' := 8) (L' := [some (.ref 75), some (.int v2), none, none, none]) rfl rfl rfl ?_
  refine j_aload_n (pc' := 9) rfl rfl rfl ?_
  refine j_ldcs (pc' := 11) (x := 2000020) rfl rfl rfl rfl ?_
  refine j_callRv (pc' := 14) (ai := 216) (vs := [.ref 75, .ref 2000020]) (rest := []) rfl rfl (fun _ _ => rfl) (c_X12_needs 2000020 σ1) (j_dd rfl hd) rfl (fun σ3 => ?_)
  refine j_aload_n (pc' := 15) rfl rfl rfl ?_
  refine j_callTi (pc' := 18) (ai := 212) (vs := [.ref 75]) (rest := []) rfl rfl (fun _ _ => rfl) (c_X12_good  σ3) (j_dd rfl hd) rfl ?_
  refine j_q1 (Φl := (fun r Q => j_Tr false τ M_cX12_readStay d 47 [some (.ref 75), some (.int v2), none, none, none] [.int r] σ3 Q)) ?_ (fun v4 => ?_)
  · refine j_two (pT := 29) (pF := 46) (L1 := [some (.ref 75), some (.int v2), none, none, none]) (st1 := []) (fun o kT kF => ?_) (fun h3 => ?_) (fun h3 => ?_)
    · refine j_ifeq (t := 46) (pc' := 21) rfl rfl rfl (fun h4 => ?_) (fun h4 => ?_)
      · exact kF (fun z => z.1 h4)
      · refine j_aload_n (pc' := 22) rfl rfl rfl ?_
        refine j_gfi (pc' := 25) rfl rfl j_a75 rfl ?_
        refine j_iconst (pc' := 26) (x := (2 : Int32)) rfl rfl rfl ?_
        refine j_icne (t := 46) (pc' := 29) rfl rfl rfl (fun h5 => ?_) (fun h5 => ?_)
        · exact kF (fun z => (h5) z.2)
        · exact kT (⟨h4, h5⟩)
    · refine j_aload_n (pc' := 30) rfl rfl rfl ?_
      refine j_gfi (pc' := 33) rfl rfl j_a75 rfl ?_
      refine j_aload_n (pc' := 34) rfl rfl rfl ?_
      refine j_gfr (pc' := 37) (x := 81) rfl rfl j_a75 rfl rfl ?_
      refine j_iconst (pc' := 38) (x := (2 : Int32)) rfl rfl rfl ?_
      refine j_iald (pc' := 39) rfl rfl j_a81 ?_
      refine j_two (pT := 42) (pF := 46) (L1 := [some (.ref 75), some (.int v2), none, none, none]) (st1 := []) (fun o kT kF => ?_) (fun h1 => ?_) (fun h1 => ?_)
      · refine j_icge (t := 46) (pc' := 42) rfl rfl rfl (fun h2 => ?_) (fun h2 => ?_)
        · exact kF h2
        · exact kT h2
      · refine j_iconst (pc' := 43) (x := (1 : Int32)) rfl rfl rfl ?_
        refine j_goto (t := 47) rfl rfl ?_
        exact j_end (fun _ h => h)
      · refine j_iconst (pc' := 47) (x := (0 : Int32)) rfl rfl rfl ?_
        exact j_end (fun _ h => h)
    · refine j_iconst (pc' := 47) (x := (0 : Int32)) rfl rfl rfl ?_
      exact j_end (fun _ h => h)
  show j_J false τ M_cX12_readStay d 47 [some (.ref 75), some (.int v2), none, none, none] [.int v4] σ3 _ _
  refine j_istore_n (pc' := 48) (L' := [some (.ref 75), some (.int v2), some (.int v4), none, none]) rfl rfl rfl ?_
  refine j_iload_n (pc' := 49) rfl rfl rfl ?_
  refine j_q1 (Φl := (fun r Q => j_Tr false τ M_cX12_readStay d 80 [some (.ref 75), some (.int v2), none, none, none] [] r Q)) ?_ (fun σ5 => ?_)
  · refine j_two (pT := 52) (pF := 80) (L1 := [some (.ref 75), some (.int v2), some (.int v4), none, none]) (st1 := []) (fun o kT kF => ?_) (fun h10 => ?_) (fun h10 => ?_)
    · refine j_ifeq (t := 80) (pc' := 52) rfl rfl rfl (fun h11 => ?_) (fun h11 => ?_)
      · exact kF (fun z => z h11)
      · exact kT h11
    · refine j_aload_n (pc' := 53) rfl rfl rfl ?_
      refine j_gfr (pc' := 56) (x := 81) rfl rfl j_a75 rfl rfl ?_
      refine j_iconst (pc' := 57) (x := (4 : Int32)) rfl rfl rfl ?_
      refine j_iald (pc' := 58) rfl rfl j_a81 ?_
      refine j_bipush (pc' := 60) (x := (6 : Int32)) rfl rfl rfl ?_
      refine j_two (pT := 63) (pF := 80) (L1 := [some (.ref 75), some (.int v2), some (.int v4), none, none]) (st1 := []) (fun o kT kF => ?_) (fun h8 => ?_) (fun h8 => ?_)
      · refine j_icne (t := 80) (pc' := 63) rfl rfl rfl (fun h9 => ?_) (fun h9 => ?_)
        · exact kF h9
        · exact kT h9
      · refine j_aload_n (pc' := 64) rfl rfl rfl ?_
        refine j_aload_n (pc' := 65) rfl rfl rfl ?_
        refine j_gfi (pc' := 68) rfl rfl j_a75 rfl ?_
        refine j_callPi (pc' := 71) (ai := 222) (vs := [.ref 75, .int (σ3.1 75 11)]) (rest := []) rfl rfl (fun _ _ => rfl) (c_X12_freshStay (σ3.1 75 11) σ3) (j_dd rfl hd) rfl (fun v6 => ?_)
        refine j_iconst (pc' := 72) (x := (-1 : Int32)) rfl rfl rfl ?_
        refine j_two (pT := 75) (pF := 80) (L1 := [some (.ref 75), some (.int v2), some (.int v4), none, none]) (st1 := []) (fun o kT kF => ?_) (fun h6 => ?_) (fun h6 => ?_)
        · refine j_icne (t := 80) (pc' := 75) rfl rfl rfl (fun h7 => ?_) (fun h7 => ?_)
          · exact kF h7
          · exact kT h7
        · refine j_aload_n (pc' := 76) rfl rfl rfl ?_
          refine j_iconst (pc' := 77) (x := (3 : Int32)) rfl rfl rfl ?_
          refine j_callRv (pc' := 80) (ai := 213) (vs := [.ref 75, .int (3 : Int32)]) (rest := []) rfl rfl (fun _ _ => rfl) (c_X12_errs (3 : Int32) σ3) (j_dd rfl hd) rfl (fun σ7 => ?_)
          refine j_wk [true, true, false, true, true] (L' := [some (.ref 75), some (.int v2), none, none, none]) rfl ?_
          exact j_end (fun _ h => h)
        · refine j_wk [true, true, false, true, true] (L' := [some (.ref 75), some (.int v2), none, none, none]) rfl ?_
          exact j_end (fun _ h => h)
      · refine j_wk [true, true, false, true, true] (L' := [some (.ref 75), some (.int v2), none, none, none]) rfl ?_
        exact j_end (fun _ h => h)
    · refine j_wk [true, true, false, true, true] (L' := [some (.ref 75), some (.int v2), none, none, none]) rfl ?_
      exact j_end (fun _ h => h)
  show j_J false τ M_cX12_readStay d 80 [some (.ref 75), some (.int v2), none, none, none] [] σ5 _ _
  refine j_aload_n (pc' := 81) rfl rfl rfl ?_
  refine j_iconst (pc' := 82) (x := (0 : Int32)) rfl rfl rfl ?_
  refine j_aload_n (pc' := 83) rfl rfl rfl ?_
  refine j_gfr (pc' := 86) (x := 81) rfl rfl j_a75 rfl rfl ?_
  refine j_iconst (pc' := 87) (x := (2 : Int32)) rfl rfl rfl ?_
  refine j_iald (pc' := 88) rfl rfl j_a81 ?_
  refine j_iconst (pc' := 89) (x := (1 : Int32)) rfl rfl rfl ?_
  refine j_isub (pc' := 90) rfl rfl ?_
  refine j_callRi (pc' := 93) (ai := 217) (vs := [.ref 75, .int (0 : Int32), .int ((σ5.1 81 ((2 : Int32)).toNatClampNeg) - (1 : Int32))]) (rest := []) rfl rfl (fun _ _ => rfl) (c_X12_number (0 : Int32) ((σ5.1 81 ((2 : Int32)).toNatClampNeg) - (1 : Int32)) σ5) (j_dd rfl hd) rfl (fun v9 σ8 => ?_)
  refine j_istore_n (pc' := 94) (L' := [some (.ref 75), some (.int v2), none, some (.int v9), none]) rfl rfl rfl ?_
  refine j_aload_n (pc' := 95) rfl rfl rfl ?_
  refine j_callTi (pc' := 98) (ai := 212) (vs := [.ref 75]) (rest := []) rfl rfl (fun _ _ => rfl) (c_X12_good  σ8) (j_dd rfl hd) rfl ?_
  refine j_two (pT := 101) (pF := 102) (L1 := [some (.ref 75), some (.int v2), none, some (.int v9), none]) (st1 := []) (fun o kT kF => ?_) (fun h14 => ?_) (fun h14 => ?_)
  · refine j_ifne (t := 102) (pc' := 101) rfl rfl rfl (fun h15 => ?_) (fun h15 => ?_)
    · exact kF h15
    · exact kT h15
  · exact j_ret rfl rfl rfl (fun _ h => h)
  · refine j_aload_n (pc' := 103) rfl rfl rfl ?_
    refine j_iload_n (pc' := 104) rfl rfl rfl ?_
    refine j_callPi (pc' := 107) (ai := 222) (vs := [.ref 75, .int v9]) (rest := []) rfl rfl (fun _ _ => rfl) (c_X12_freshStay v9 σ8) (j_dd rfl hd) rfl (fun v10 => ?_)
    refine j_istore (pc' := 109) (L' := [some (.ref 75), some (.int v2), none, some (.int v9), some (.int v10)]) rfl rfl rfl ?_
    refine j_iload (pc' := 111) rfl rfl rfl ?_
    refine j_iconst (pc' := 112) (x := (-1 : Int32)) rfl rfl rfl ?_
    refine j_q2 (Φl := (fun r Q => j_Tr false τ M_cX12_readStay d 133 [some (.ref 75), some (.int v2), none, some (.int v9), some (.int r.1)] [] r.2 Q)) ?_ (fun v11 σ12 => ?_)
    · refine j_two (pT := 115) (pF := 133) (L1 := [some (.ref 75), some (.int v2), none, some (.int v9), some (.int v10)]) (st1 := []) (fun o kT kF => ?_) (fun h12 => ?_) (fun h12 => ?_)
      · refine j_icne (t := 133) (pc' := 115) rfl rfl rfl (fun h13 => ?_) (fun h13 => ?_)
        · exact kF h13
        · exact kT h13
      · refine j_aload_n (pc' := 116) rfl rfl rfl ?_
        refine j_gfr (pc' := 119) (x := 81) rfl rfl j_a75 rfl rfl ?_
        refine j_iconst (pc' := 120) (x := (4 : Int32)) rfl rfl rfl ?_
        refine j_iald (pc' := 121) rfl rfl j_a81 ?_
        refine j_leti (fun v13 => ?_)
        refine j_istore (pc' := 123) (L' := [some (.ref 75), some (.int v2), none, some (.int v9), some (.int v13)]) rfl rfl rfl ?_
        refine j_aload_n (pc' := 124) rfl rfl rfl ?_
        refine j_gfr (pc' := 127) (x := 81) rfl rfl j_a75 rfl rfl ?_
        refine j_iconst (pc' := 128) (x := (4 : Int32)) rfl rfl rfl ?_
        refine j_dup2 (pc' := 129) rfl rfl rfl rfl ?_
        refine j_iald (pc' := 130) rfl rfl j_a81 ?_
        refine j_iconst (pc' := 131) (x := (1 : Int32)) rfl rfl rfl ?_
        refine j_iadd (pc' := 132) rfl rfl ?_
        refine j_iast (pc' := 133) rfl rfl j_a81 (fun σ14 => ?_)
        exact j_end (fun _ h => h)
      · exact j_end (fun _ h => h)
    show j_J false τ M_cX12_readStay d 133 [some (.ref 75), some (.int v2), none, some (.int v9), some (.int v11)] [] σ12 _ _
    refine j_aload_n (pc' := 134) rfl rfl rfl ?_
    refine j_gfr (pc' := 137) (x := 81) rfl rfl j_a75 rfl rfl ?_
    refine j_bipush (pc' := 139) (x := (12 : Int32)) rfl rfl rfl ?_
    refine j_iconst (pc' := 140) (x := (2 : Int32)) rfl rfl rfl ?_
    refine j_iload (pc' := 142) rfl rfl rfl ?_
    refine j_imul (pc' := 143) rfl rfl ?_
    refine j_iadd (pc' := 144) rfl rfl ?_
    refine j_iload_n (pc' := 145) rfl rfl rfl ?_
    refine j_iast (pc' := 146) rfl rfl j_a81 (fun σ15 => ?_)
    refine j_aload_n (pc' := 147) rfl rfl rfl ?_
    refine j_gfr (pc' := 150) (x := 81) rfl rfl j_a75 rfl rfl ?_
    refine j_bipush (pc' := 152) (x := (12 : Int32)) rfl rfl rfl ?_
    refine j_iconst (pc' := 153) (x := (2 : Int32)) rfl rfl rfl ?_
    refine j_iload (pc' := 155) rfl rfl rfl ?_
    refine j_imul (pc' := 156) rfl rfl ?_
    refine j_iadd (pc' := 157) rfl rfl ?_
    refine j_iconst (pc' := 158) (x := (1 : Int32)) rfl rfl rfl ?_
    refine j_iadd (pc' := 159) rfl rfl ?_
    refine j_iload_n (pc' := 160) rfl rfl rfl ?_
    refine j_iast (pc' := 161) rfl rfl j_a81 (fun σ16 => ?_)
    exact j_ret rfl rfl rfl (fun _ h => h)

noncomputable def f_X12_freshHoles (σ : j_G) : Option Int32 :=
  j_ix (0 : Int32) 116 (
  j_ix (1 : Int32) 116 (
  some ((σ.1 81 ((0 : Int32)).toNatClampNeg) * (σ.1 81 ((1 : Int32)).toNatClampNeg))))
theorem c_X12_freshHoles (σ : j_G) : j_K false 0 220 [.ref 75] σ (f_X12_freshHoles σ) (j_Pi σ) := by
  refine j_mkK (M := M_cX12_freshHoles) (L := [some (.ref 75)]) (m := 0) t_220 rfl (j_rcvO j_a75 rfl) rfl (fun d hd τ => ?_)
  unfold f_X12_freshHoles
  refine j_aload_n (pc' := 1) rfl rfl rfl ?_
  refine j_gfr (pc' := 4) (x := 81) rfl rfl j_a75 rfl rfl ?_
  refine j_iconst (pc' := 5) (x := (0 : Int32)) rfl rfl rfl ?_
  refine j_iald (pc' := 6) rfl rfl j_a81 ?_
  refine j_aload_n (pc' := 7) rfl rfl rfl ?_
  refine j_gfr (pc' := 10) (x := 81) rfl rfl j_a75 rfl rfl ?_
  refine j_iconst (pc' := 11) (x := (1 : Int32)) rfl rfl rfl ?_
  refine j_iald (pc' := 12) rfl rfl j_a81 ?_
  refine j_imul (pc' := 13) rfl rfl ?_
  exact j_ret rfl rfl rfl (fun _ h => h)

noncomputable def f_X12_isNextHole (σ : j_G) : Option Int32 :=
  if (¬ (f_X12_good σ) = 0) ∧ ((σ.1 75 10) = (2 : Int32)) then (j_b1 (f_X12_freshHoles σ) fun v1 =>
  if (σ.1 75 11) < v1 then (some (1 : Int32)) else (some (0 : Int32))) else (some (0 : Int32))
theorem c_X12_isNextHole (σ : j_G) : j_K false 1 224 [.ref 75] σ (f_X12_isNextHole σ) (j_Pi σ) := by
  refine j_mkK (M := M_cX12_isNextHole) (L := [some (.ref 75)]) (m := 0) t_224 rfl (j_rcvO j_a75 rfl) rfl (fun d hd τ => ?_)
  unfold f_X12_isNextHole
  refine j_aload_n (pc' := 1) rfl rfl rfl ?_
  refine j_callTi (pc' := 4) (ai := 212) (vs := [.ref 75]) (rest := []) rfl rfl (fun _ _ => rfl) (c_X12_good  σ) (j_dd rfl hd) rfl ?_
  refine j_two (pT := 15) (pF := 30) (L1 := [some (.ref 75)]) (st1 := []) (fun o kT kF => ?_) (fun h3 => ?_) (fun h3 => ?_)
  · refine j_ifeq (t := 30) (pc' := 7) rfl rfl rfl (fun h4 => ?_) (fun h4 => ?_)
    · exact kF (fun z => z.1 h4)
    · refine j_aload_n (pc' := 8) rfl rfl rfl ?_
      refine j_gfi (pc' := 11) rfl rfl j_a75 rfl ?_
      refine j_iconst (pc' := 12) (x := (2 : Int32)) rfl rfl rfl ?_
      refine j_icne (t := 30) (pc' := 15) rfl rfl rfl (fun h5 => ?_) (fun h5 => ?_)
      · exact kF (fun z => (h5) z.2)
      · exact kT (⟨h4, h5⟩)
  · refine j_aload_n (pc' := 16) rfl rfl rfl ?_
    refine j_gfi (pc' := 19) rfl rfl j_a75 rfl ?_
    refine j_aload_n (pc' := 20) rfl rfl rfl ?_
    refine j_callPi (pc' := 23) (ai := 220) (vs := [.ref 75]) (rest := [.int (σ.1 75 11)]) rfl rfl (fun _ _ => rfl) (c_X12_freshHoles  σ) (j_dd rfl hd) rfl (fun v1 => ?_)
    refine j_two (pT := 26) (pF := 30) (L1 := [some (.ref 75)]) (st1 := []) (fun o kT kF => ?_) (fun h1 => ?_) (fun h1 => ?_)
    · refine j_icge (t := 30) (pc' := 26) rfl rfl rfl (fun h2 => ?_) (fun h2 => ?_)
      · exact kF h2
      · exact kT h2
    · refine j_iconst (pc' := 27) (x := (1 : Int32)) rfl rfl rfl ?_
      refine j_goto (t := 31) rfl rfl ?_
      exact j_ret rfl rfl rfl (fun _ h => h)
    · refine j_iconst (pc' := 31) (x := (0 : Int32)) rfl rfl rfl ?_
      exact j_ret rfl rfl rfl (fun _ h => h)
  · refine j_iconst (pc' := 31) (x := (0 : Int32)) rfl rfl rfl ?_
    exact j_ret rfl rfl rfl (fun _ h => h)

noncomputable def p_X12_isFreshComing_2 (l1 : Int32) (σ : j_G) : Nat → Int32 → Option Int32
  | 0, _ => none
  | n + 1, l2 =>
    j_ix (5 : Int32) 116 (
    if l2 < (σ.1 81 ((5 : Int32)).toNatClampNeg) then (j_ix (((24 : Int32) + ((3 : Int32) * l2)) + (0 : Int32)) 116 (
    if ¬ (σ.1 81 ((((24 : Int32) + ((3 : Int32) * l2)) + (0 : Int32))).toNatClampNeg) = l1 then (j_ix (((24 : Int32) + ((3 : Int32) * l2)) + (1 : Int32)) 116 (
    if (σ.1 81 ((((24 : Int32) + ((3 : Int32) * l2)) + (1 : Int32))).toNatClampNeg) = l1 then (some (1 : Int32)) else (p_X12_isFreshComing_2 l1 σ n (l2 + (1 : Int32))))) else (some (1 : Int32)))) else (some (0 : Int32)))

noncomputable def f_X12_isFreshComing (l1 : Int32) (σ : j_G) : Option Int32 :=
  p_X12_isFreshComing_2 l1 σ j_F (0 : Int32)
theorem l_X12_isFreshComing_2 {d : Nat} (hd : 0 ≤ d) (τ : j_G) (l1 : Int32) (σ : j_G) : ∀ (n : Nat) (l2 : Int32), j_J false τ M_cX12_isFreshComing d 2 [some (.ref 75), some (.int l1), some (.int l2)] [] σ (p_X12_isFreshComing_2 l1 σ n l2) (j_Pi σ) := by
  intro n
  induction n with
  | zero => intro l2; exact j_none
  | succ n ih =>
    intro l2
    unfold p_X12_isFreshComing_2
    refine j_iload_n (pc' := 3) rfl rfl rfl ?_
    refine j_aload_n (pc' := 4) rfl rfl rfl ?_
    refine j_gfr (pc' := 7) (x := 81) rfl rfl j_a75 rfl rfl ?_
    refine j_iconst (pc' := 8) (x := (5 : Int32)) rfl rfl rfl ?_
    refine j_iald (pc' := 9) rfl rfl j_a81 ?_
    refine j_two (pT := 12) (pF := 54) (L1 := [some (.ref 75), some (.int l1), some (.int l2)]) (st1 := []) (fun o kT kF => ?_) (fun h5 => ?_) (fun h5 => ?_)
    · refine j_icge (t := 54) (pc' := 12) rfl rfl rfl (fun h6 => ?_) (fun h6 => ?_)
      · exact kF h6
      · exact kT h6
    · refine j_aload_n (pc' := 13) rfl rfl rfl ?_
      refine j_gfr (pc' := 16) (x := 81) rfl rfl j_a75 rfl rfl ?_
      refine j_bipush (pc' := 18) (x := (24 : Int32)) rfl rfl rfl ?_
      refine j_iconst (pc' := 19) (x := (3 : Int32)) rfl rfl rfl ?_
      refine j_iload_n (pc' := 20) rfl rfl rfl ?_
      refine j_imul (pc' := 21) rfl rfl ?_
      refine j_iadd (pc' := 22) rfl rfl ?_
      refine j_iconst (pc' := 23) (x := (0 : Int32)) rfl rfl rfl ?_
      refine j_iadd (pc' := 24) rfl rfl ?_
      refine j_iald (pc' := 25) rfl rfl j_a81 ?_
      refine j_iload_n (pc' := 26) rfl rfl rfl ?_
      refine j_two (pT := 29) (pF := 46) (L1 := [some (.ref 75), some (.int l1), some (.int l2)]) (st1 := []) (fun o kT kF => ?_) (fun h3 => ?_) (fun h3 => ?_)
      · refine j_iceq (t := 46) (pc' := 29) rfl rfl rfl (fun h4 => ?_) (fun h4 => ?_)
        · exact kF (fun z => z h4)
        · exact kT h4
      · refine j_aload_n (pc' := 30) rfl rfl rfl ?_
        refine j_gfr (pc' := 33) (x := 81) rfl rfl j_a75 rfl rfl ?_
        refine j_bipush (pc' := 35) (x := (24 : Int32)) rfl rfl rfl ?_
        refine j_iconst (pc' := 36) (x := (3 : Int32)) rfl rfl rfl ?_
        refine j_iload_n (pc' := 37) rfl rfl rfl ?_
        refine j_imul (pc' := 38) rfl rfl ?_
        refine j_iadd (pc' := 39) rfl rfl ?_
        refine j_iconst (pc' := 40) (x := (1 : Int32)) rfl rfl rfl ?_
        refine j_iadd (pc' := 41) rfl rfl ?_
        refine j_iald (pc' := 42) rfl rfl j_a81 ?_
        refine j_iload_n (pc' := 43) rfl rfl rfl ?_
        refine j_two (pT := 46) (pF := 48) (L1 := [some (.ref 75), some (.int l1), some (.int l2)]) (st1 := []) (fun o kT kF => ?_) (fun h1 => ?_) (fun h1 => ?_)
        · refine j_icne (t := 48) (pc' := 46) rfl rfl rfl (fun h2 => ?_) (fun h2 => ?_)
          · exact kF h2
          · exact kT h2
        · refine j_iconst (pc' := 47) (x := (1 : Int32)) rfl rfl rfl ?_
          exact j_ret rfl rfl rfl (fun _ h => h)
        · refine j_iincx (pc' := 51) (y := (1 : Int32)) (L' := [some (.ref 75), some (.int l1), some (.int (l2 + (1 : Int32)))]) rfl rfl rfl rfl rfl ?_
          refine j_goto (t := 2) rfl rfl ?_
          exact ih (l2 + (1 : Int32))
      · refine j_iconst (pc' := 47) (x := (1 : Int32)) rfl rfl rfl ?_
        exact j_ret rfl rfl rfl (fun _ h => h)
    · refine j_iconst (pc' := 55) (x := (0 : Int32)) rfl rfl rfl ?_
      exact j_ret rfl rfl rfl (fun _ h => h)

theorem c_X12_isFreshComing (l1 : Int32) (σ : j_G) : j_K false 0 225 [.ref 75, .int l1] σ (f_X12_isFreshComing l1 σ) (j_Pi σ) := by
  refine j_mkK (M := M_cX12_isFreshComing) (L := [some (.ref 75), some (.int l1), none]) (m := 1) t_225 rfl (j_rcvO j_a75 rfl) rfl (fun d hd τ => ?_)
  unfold f_X12_isFreshComing
  refine j_iconst (pc' := 1) (x := (0 : Int32)) rfl rfl rfl ?_
  refine j_istore_n (pc' := 2) (L' := [some (.ref 75), some (.int l1), some (.int (0 : Int32))]) rfl rfl rfl ?_
  exact (l_X12_isFreshComing_2 hd τ l1 σ j_F (0 : Int32))

noncomputable def f_X12_readShut (σ : j_G) : Option j_G :=
  j_b1 (f_X12_isNextHole σ) fun v1 =>
  j_b1 (if ¬ v1 = 0 then (j_ix (7 : Int32) 116 (
  j_lt (j_b1 (f_X12_errs (2 : Int32) σ) fun σ5 =>
  some σ5) fun (k3 : Option j_G) =>
  if ¬ (((σ.1 81 ((7 : Int32)).toNatClampNeg) >>> ((σ.1 75 11) &&& 31)) &&& (1 : Int32)) = (1 : Int32) then (j_b1 (f_X12_isFreshComing (σ.1 75 11) σ) fun v4 =>
  if ¬ v4 = 0 then (k3) else (some σ)) else (k3))) else (some σ)) fun σ2 =>
  j_b1 (f_X12_freshHoles σ2) fun v6 =>
  j_b2 (f_X12_number (0 : Int32) (v6 - (1 : Int32)) σ2) fun v8 σ7 =>
  if ¬ (f_X12_good σ7) = 0 then (j_ix (7 : Int32) 116 (
  j_ix (7 : Int32) 116 (
  j_lt (j_si σ7 81 ((7 : Int32)).toNatClampNeg ((σ7.1 81 ((7 : Int32)).toNatClampNeg) ||| ((1 : Int32) <<< (v8 &&& 31)))) fun σ9 =>
  some σ9))) else (some σ7)
theorem c_X12_readShut (σ : j_G) : j_K false 3 226 [.ref 75] σ (f_X12_readShut σ) j_Rv := by
  refine j_mkK (M := M_cX12_readShut) (L := [some (.ref 75), none]) (m := 1) t_226 rfl (j_rcvO j_a75 rfl) rfl (fun d hd τ => ?_)
  unfold f_X12_readShut
  refine j_aload_n (pc' := 1) rfl rfl rfl ?_
  refine j_callPi (pc' := 4) (ai := 224) (vs := [.ref 75]) (rest := []) rfl rfl (fun _ _ => rfl) (c_X12_isNextHole  σ) (j_dd rfl hd) rfl (fun v1 => ?_)
  refine j_q1 (Φl := (fun r Q => j_Tr false τ M_cX12_readShut d 41 [some (.ref 75), none] [] r Q)) ?_ (fun σ2 => ?_)
  · refine j_two (pT := 7) (pF := 41) (L1 := [some (.ref 75), none]) (st1 := []) (fun o kT kF => ?_) (fun h5 => ?_) (fun h5 => ?_)
    · refine j_ifeq (t := 41) (pc' := 7) rfl rfl rfl (fun h6 => ?_) (fun h6 => ?_)
      · exact kF (fun z => z h6)
      · exact kT h6
    · refine j_aload_n (pc' := 8) rfl rfl rfl ?_
      refine j_gfr (pc' := 11) (x := 81) rfl rfl j_a75 rfl rfl ?_
      refine j_bipush (pc' := 13) (x := (7 : Int32)) rfl rfl rfl ?_
      refine j_iald (pc' := 14) rfl rfl j_a81 ?_
      refine j_aload_n (pc' := 15) rfl rfl rfl ?_
      refine j_gfi (pc' := 18) rfl rfl j_a75 rfl ?_
      refine j_ishr (pc' := 19) rfl rfl ?_
      refine j_iconst (pc' := 20) (x := (1 : Int32)) rfl rfl rfl ?_
      refine j_iand (pc' := 21) rfl rfl ?_
      refine j_iconst (pc' := 22) (x := (1 : Int32)) rfl rfl rfl ?_
      refine j_jn (P := (fun k => j_J false τ M_cX12_readShut d 36 [some (.ref 75), none] [] σ (k ) (fun r Q => j_Tr false τ M_cX12_readShut d 41 [some (.ref 75), none] [] r Q))) ?_ (fun k3 k3_h => ?_)
      · refine j_aload_n (pc' := 37) rfl rfl rfl ?_
        refine j_iconst (pc' := 38) (x := (2 : Int32)) rfl rfl rfl ?_
        refine j_callRv (pc' := 41) (ai := 213) (vs := [.ref 75, .int (2 : Int32)]) (rest := []) rfl rfl (fun _ _ => rfl) (c_X12_errs (2 : Int32) σ) (j_dd rfl hd) rfl (fun σ5 => ?_)
        exact j_end (fun _ h => h)
      · refine j_two (pT := 25) (pF := 36) (L1 := [some (.ref 75), none]) (st1 := []) (fun o kT kF => ?_) (fun h3 => ?_) (fun h3 => ?_)
        · refine j_iceq (t := 36) (pc' := 25) rfl rfl rfl (fun h4 => ?_) (fun h4 => ?_)
          · exact kF (fun z => z h4)
          · exact kT h4
        · refine j_aload_n (pc' := 26) rfl rfl rfl ?_
          refine j_aload_n (pc' := 27) rfl rfl rfl ?_
          refine j_gfi (pc' := 30) rfl rfl j_a75 rfl ?_
          refine j_callPi (pc' := 33) (ai := 225) (vs := [.ref 75, .int (σ.1 75 11)]) (rest := []) rfl rfl (fun _ _ => rfl) (c_X12_isFreshComing (σ.1 75 11) σ) (j_dd rfl hd) rfl (fun v4 => ?_)
          refine j_two (pT := 36) (pF := 41) (L1 := [some (.ref 75), none]) (st1 := []) (fun o kT kF => ?_) (fun h1 => ?_) (fun h1 => ?_)
          · refine j_ifeq (t := 41) (pc' := 36) rfl rfl rfl (fun h2 => ?_) (fun h2 => ?_)
            · exact kF (fun z => z h2)
            · exact kT h2
          · exact k3_h 
          · exact j_end (fun _ h => h)
        · exact k3_h 
    · exact j_end (fun _ h => h)
  show j_J false τ M_cX12_readShut d 41 [some (.ref 75), none] [] σ2 _ _
  refine j_aload_n (pc' := 42) rfl rfl rfl ?_
  refine j_iconst (pc' := 43) (x := (0 : Int32)) rfl rfl rfl ?_
  refine j_aload_n (pc' := 44) rfl rfl rfl ?_
  refine j_callPi (pc' := 47) (ai := 220) (vs := [.ref 75]) (rest := [.int (0 : Int32), .ref 75]) rfl rfl (fun _ _ => rfl) (c_X12_freshHoles  σ2) (j_dd rfl hd) rfl (fun v6 => ?_)
  refine j_iconst (pc' := 48) (x := (1 : Int32)) rfl rfl rfl ?_
  refine j_isub (pc' := 49) rfl rfl ?_
  refine j_callRi (pc' := 52) (ai := 217) (vs := [.ref 75, .int (0 : Int32), .int (v6 - (1 : Int32))]) (rest := []) rfl rfl (fun _ _ => rfl) (c_X12_number (0 : Int32) (v6 - (1 : Int32)) σ2) (j_dd rfl hd) rfl (fun v8 σ7 => ?_)
  refine j_istore_n (pc' := 53) (L' := [some (.ref 75), some (.int v8)]) rfl rfl rfl ?_
  refine j_aload_n (pc' := 54) rfl rfl rfl ?_
  refine j_callTi (pc' := 57) (ai := 212) (vs := [.ref 75]) (rest := []) rfl rfl (fun _ _ => rfl) (c_X12_good  σ7) (j_dd rfl hd) rfl ?_
  refine j_two (pT := 60) (pF := 73) (L1 := [some (.ref 75), some (.int v8)]) (st1 := []) (fun o kT kF => ?_) (fun h7 => ?_) (fun h7 => ?_)
  · refine j_ifeq (t := 73) (pc' := 60) rfl rfl rfl (fun h8 => ?_) (fun h8 => ?_)
    · exact kF (fun z => z h8)
    · exact kT h8
  · refine j_aload_n (pc' := 61) rfl rfl rfl ?_
    refine j_gfr (pc' := 64) (x := 81) rfl rfl j_a75 rfl rfl ?_
    refine j_bipush (pc' := 66) (x := (7 : Int32)) rfl rfl rfl ?_
    refine j_dup2 (pc' := 67) rfl rfl rfl rfl ?_
    refine j_iald (pc' := 68) rfl rfl j_a81 ?_
    refine j_iconst (pc' := 69) (x := (1 : Int32)) rfl rfl rfl ?_
    refine j_iload_n (pc' := 70) rfl rfl rfl ?_
    refine j_ishl (pc' := 71) rfl rfl ?_
    refine j_ior (pc' := 72) rfl rfl ?_
    refine j_iast (pc' := 73) rfl rfl j_a81 (fun σ9 => ?_)
    exact j_ret rfl rfl rfl (fun _ h => h)
  · exact j_ret rfl rfl rfl (fun _ h => h)

noncomputable def f_X12_readHole (l1 : Int32) (σ : j_G) : Option (Int32 × j_G) :=
  j_b1 (f_X12_isNextHole σ) fun v1 =>
  j_b1 (if ¬ v1 = 0 then (j_ix (7 : Int32) 116 (
  if ((((σ.1 81 ((7 : Int32)).toNatClampNeg) >>> ((σ.1 75 11) &&& 31)) &&& (1 : Int32)) = (1 : Int32)) ∨ ((σ.1 75 11) = l1) then (j_b1 (f_X12_errs (2 : Int32) σ) fun σ3 =>
  some σ3) else (some σ))) else (some σ)) fun σ2 =>
  j_b1 (f_X12_freshHoles σ2) fun v4 =>
  j_b2 (f_X12_number (0 : Int32) (v4 - (1 : Int32)) σ2) fun v6 σ5 =>
  some (v6, σ5)
theorem c_X12_readHole (l1 : Int32) (σ : j_G) : j_K false 3 227 [.ref 75, .int l1] σ (f_X12_readHole l1 σ) j_Ri := by
  refine j_mkK (M := M_cX12_readHole) (L := [some (.ref 75), some (.int l1)]) (m := 0) t_227 rfl (j_rcvO j_a75 rfl) rfl (fun d hd τ => ?_)
  unfold f_X12_readHole
  refine j_aload_n (pc' := 1) rfl rfl rfl ?_
  refine j_callPi (pc' := 4) (ai := 224) (vs := [.ref 75]) (rest := []) rfl rfl (fun _ _ => rfl) (c_X12_isNextHole  σ) (j_dd rfl hd) rfl (fun v1 => ?_)
  refine j_q1 (Φl := (fun r Q => j_Tr false τ M_cX12_readHole d 38 [some (.ref 75), none] [] r Q)) ?_ (fun σ2 => ?_)
  · refine j_two (pT := 7) (pF := 38) (L1 := [some (.ref 75), some (.int l1)]) (st1 := []) (fun o kT kF => ?_) (fun h4 => ?_) (fun h4 => ?_)
    · refine j_ifeq (t := 38) (pc' := 7) rfl rfl rfl (fun h5 => ?_) (fun h5 => ?_)
      · exact kF (fun z => z h5)
      · exact kT h5
    · refine j_aload_n (pc' := 8) rfl rfl rfl ?_
      refine j_gfr (pc' := 11) (x := 81) rfl rfl j_a75 rfl rfl ?_
      refine j_bipush (pc' := 13) (x := (7 : Int32)) rfl rfl rfl ?_
      refine j_iald (pc' := 14) rfl rfl j_a81 ?_
      refine j_aload_n (pc' := 15) rfl rfl rfl ?_
      refine j_gfi (pc' := 18) rfl rfl j_a75 rfl ?_
      refine j_ishr (pc' := 19) rfl rfl ?_
      refine j_iconst (pc' := 20) (x := (1 : Int32)) rfl rfl rfl ?_
      refine j_iand (pc' := 21) rfl rfl ?_
      refine j_iconst (pc' := 22) (x := (1 : Int32)) rfl rfl rfl ?_
      refine j_two (pT := 33) (pF := 38) (L1 := [some (.ref 75), some (.int l1)]) (st1 := []) (fun o kT kF => ?_) (fun h1 => ?_) (fun h1 => ?_)
      · refine j_iceq (t := 33) (pc' := 25) rfl rfl rfl (fun h2 => ?_) (fun h2 => ?_)
        · exact kT (Or.inl h2)
        · refine j_aload_n (pc' := 26) rfl rfl rfl ?_
          refine j_gfi (pc' := 29) rfl rfl j_a75 rfl ?_
          refine j_iload_n (pc' := 30) rfl rfl rfl ?_
          refine j_icne (t := 38) (pc' := 33) rfl rfl rfl (fun h3 => ?_) (fun h3 => ?_)
          · exact kF (fun z => z.elim h2 (h3))
          · exact kT (Or.inr (h3))
      · refine j_aload_n (pc' := 34) rfl rfl rfl ?_
        refine j_iconst (pc' := 35) (x := (2 : Int32)) rfl rfl rfl ?_
        refine j_callRv (pc' := 38) (ai := 213) (vs := [.ref 75, .int (2 : Int32)]) (rest := []) rfl rfl (fun _ _ => rfl) (c_X12_errs (2 : Int32) σ) (j_dd rfl hd) rfl (fun σ3 => ?_)
        refine j_wk [true, false] (L' := [some (.ref 75), none]) rfl ?_
        exact j_end (fun _ h => h)
      · refine j_wk [true, false] (L' := [some (.ref 75), none]) rfl ?_
        exact j_end (fun _ h => h)
    · refine j_wk [true, false] (L' := [some (.ref 75), none]) rfl ?_
      exact j_end (fun _ h => h)
  show j_J false τ M_cX12_readHole d 38 [some (.ref 75), none] [] σ2 _ _
  refine j_aload_n (pc' := 39) rfl rfl rfl ?_
  refine j_iconst (pc' := 40) (x := (0 : Int32)) rfl rfl rfl ?_
  refine j_aload_n (pc' := 41) rfl rfl rfl ?_
  refine j_callPi (pc' := 44) (ai := 220) (vs := [.ref 75]) (rest := [.int (0 : Int32), .ref 75]) rfl rfl (fun _ _ => rfl) (c_X12_freshHoles  σ2) (j_dd rfl hd) rfl (fun v4 => ?_)
  refine j_iconst (pc' := 45) (x := (1 : Int32)) rfl rfl rfl ?_
  refine j_isub (pc' := 46) rfl rfl ?_
  refine j_callRi (pc' := 49) (ai := 217) (vs := [.ref 75, .int (0 : Int32), .int (v4 - (1 : Int32))]) (rest := []) rfl rfl (fun _ _ => rfl) (c_X12_number (0 : Int32) (v4 - (1 : Int32)) σ2) (j_dd rfl hd) rfl (fun v6 σ5 => ?_)
  exact j_ret rfl rfl rfl (fun _ h => h)

noncomputable def f_X12_readComing (l1 : Int32) (l2 : Int32) (σ : j_G) : Option j_G :=
  j_ix (5 : Int32) 116 (
  j_lt ((24 : Int32) + ((3 : Int32) * (σ.1 81 ((5 : Int32)).toNatClampNeg))) fun v1 =>
  j_b2 (f_X12_readHole (-1 : Int32) σ) fun v3 σ2 =>
  j_b2 (if ¬ l2 = 0 then (j_b2 (f_X12_readHole v3 σ2) fun v7 σ6 =>
  some (v7, σ6)) else (some ((-1 : Int32), σ2))) fun v4 σ5 =>
  if (f_X12_good σ5) = 0 then (some σ5) else (j_ix (v1 + (0 : Int32)) 116 (
  j_lt (j_si σ5 81 ((v1 + (0 : Int32))).toNatClampNeg v3) fun σ8 =>
  j_ix (v1 + (1 : Int32)) 116 (
  j_lt (j_si σ8 81 ((v1 + (1 : Int32))).toNatClampNeg v4) fun σ9 =>
  j_lt (if ¬ l1 = 0 then ((1 : Int32)) else ((0 : Int32))) fun v10 =>
  j_ix (v1 + (2 : Int32)) 116 (
  j_lt (j_si σ9 81 ((v1 + (2 : Int32))).toNatClampNeg v10) fun σ11 =>
  j_ix (5 : Int32) 116 (
  j_ix (5 : Int32) 116 (
  j_lt (j_si σ11 81 ((5 : Int32)).toNatClampNeg ((σ11.1 81 ((5 : Int32)).toNatClampNeg) + (1 : Int32))) fun σ12 =>
  some σ12)))))))
theorem c_X12_readComing (l1 : Int32) (l2 : Int32) (σ : j_G) : j_K false 4 228 [.ref 75, .int l1, .int l2] σ (f_X12_readComing l1 l2 σ) j_Rv := by
  refine j_mkK (M := M_cX12_readComing) (L := [some (.ref 75), some (.int l1), some (.int l2), none, none, none]) (m := 3) t_228 rfl (j_rcvO j_a75 rfl) rfl (fun d hd τ => ?_)
  unfold f_X12_readComing
  refine j_bipush (pc' := 2) (x := (24 : Int32)) rfl rfl rfl ?_
  refine j_iconst (pc' := 3) (x := (3 : Int32)) rfl rfl rfl ?_
  refine j_aload_n (pc' := 4) rfl rfl rfl ?_
  refine j_gfr (pc' := 7) (x := 81) rfl rfl j_a75 rfl rfl ?_
  refine j_iconst (pc' := 8) (x := (5 : Int32)) rfl rfl rfl ?_
  refine j_iald (pc' := 9) rfl rfl j_a81 ?_
  refine j_imul (pc' := 10) rfl rfl ?_
  refine j_iadd (pc' := 11) rfl rfl ?_
  refine j_leti (fun v1 => ?_)
  refine j_istore_n (pc' := 12) (L' := [some (.ref 75), some (.int l1), some (.int l2), some (.int v1), none, none]) rfl rfl rfl ?_
  refine j_aload_n (pc' := 13) rfl rfl rfl ?_
  refine j_iconst (pc' := 14) (x := (-1 : Int32)) rfl rfl rfl ?_
  refine j_callRi (pc' := 17) (ai := 227) (vs := [.ref 75, .int (-1 : Int32)]) (rest := []) rfl rfl (fun _ _ => rfl) (c_X12_readHole (-1 : Int32) σ) (j_dd rfl hd) rfl (fun v3 σ2 => ?_)
  refine j_istore (pc' := 19) (L' := [some (.ref 75), some (.int l1), some (.int l2), some (.int v1), some (.int v3), none]) rfl rfl rfl ?_
  refine j_iload_n (pc' := 20) rfl rfl rfl ?_
  refine j_q2 (Φl := (fun r Q => j_Tr false τ M_cX12_readComing d 33 [some (.ref 75), some (.int l1), none, some (.int v1), some (.int v3), none] [.int r.1] r.2 Q)) ?_ (fun v4 σ5 => ?_)
  · refine j_two (pT := 23) (pF := 32) (L1 := [some (.ref 75), some (.int l1), some (.int l2), some (.int v1), some (.int v3), none]) (st1 := []) (fun o kT kF => ?_) (fun h1 => ?_) (fun h1 => ?_)
    · refine j_ifeq (t := 32) (pc' := 23) rfl rfl rfl (fun h2 => ?_) (fun h2 => ?_)
      · exact kF (fun z => z h2)
      · exact kT h2
    · refine j_aload_n (pc' := 24) rfl rfl rfl ?_
      refine j_iload (pc' := 26) rfl rfl rfl ?_
      refine j_callRi (pc' := 29) (ai := 227) (vs := [.ref 75, .int v3]) (rest := []) rfl rfl (fun _ _ => rfl) (c_X12_readHole v3 σ2) (j_dd rfl hd) rfl (fun v7 σ6 => ?_)
      refine j_goto (t := 33) rfl rfl ?_
      refine j_wk [true, true, false, true, true, true] (L' := [some (.ref 75), some (.int l1), none, some (.int v1), some (.int v3), none]) rfl ?_
      exact j_end (fun _ h => h)
    · refine j_iconst (pc' := 33) (x := (-1 : Int32)) rfl rfl rfl ?_
      refine j_wk [true, true, false, true, true, true] (L' := [some (.ref 75), some (.int l1), none, some (.int v1), some (.int v3), none]) rfl ?_
      exact j_end (fun _ h => h)
  show j_J false τ M_cX12_readComing d 33 [some (.ref 75), some (.int l1), none, some (.int v1), some (.int v3), none] [.int v4] σ5 _ _
  refine j_istore (pc' := 35) (L' := [some (.ref 75), some (.int l1), none, some (.int v1), some (.int v3), some (.int v4)]) rfl rfl rfl ?_
  refine j_aload_n (pc' := 36) rfl rfl rfl ?_
  refine j_callTi (pc' := 39) (ai := 212) (vs := [.ref 75]) (rest := []) rfl rfl (fun _ _ => rfl) (c_X12_good  σ5) (j_dd rfl hd) rfl ?_
  refine j_two (pT := 42) (pF := 43) (L1 := [some (.ref 75), some (.int l1), none, some (.int v1), some (.int v3), some (.int v4)]) (st1 := []) (fun o kT kF => ?_) (fun h5 => ?_) (fun h5 => ?_)
  · refine j_ifne (t := 43) (pc' := 42) rfl rfl rfl (fun h6 => ?_) (fun h6 => ?_)
    · exact kF h6
    · exact kT h6
  · exact j_ret rfl rfl rfl (fun _ h => h)
  · refine j_aload_n (pc' := 44) rfl rfl rfl ?_
    refine j_gfr (pc' := 47) (x := 81) rfl rfl j_a75 rfl rfl ?_
    refine j_iload_n (pc' := 48) rfl rfl rfl ?_
    refine j_iconst (pc' := 49) (x := (0 : Int32)) rfl rfl rfl ?_
    refine j_iadd (pc' := 50) rfl rfl ?_
    refine j_iload (pc' := 52) rfl rfl rfl ?_
    refine j_iast (pc' := 53) rfl rfl j_a81 (fun σ8 => ?_)
    refine j_aload_n (pc' := 54) rfl rfl rfl ?_
    refine j_gfr (pc' := 57) (x := 81) rfl rfl j_a75 rfl rfl ?_
    refine j_iload_n (pc' := 58) rfl rfl rfl ?_
    refine j_iconst (pc' := 59) (x := (1 : Int32)) rfl rfl rfl ?_
    refine j_iadd (pc' := 60) rfl rfl ?_
    refine j_iload (pc' := 62) rfl rfl rfl ?_
    refine j_iast (pc' := 63) rfl rfl j_a81 (fun σ9 => ?_)
    refine j_aload_n (pc' := 64) rfl rfl rfl ?_
    refine j_gfr (pc' := 67) (x := 81) rfl rfl j_a75 rfl rfl ?_
    refine j_iload_n (pc' := 68) rfl rfl rfl ?_
    refine j_iconst (pc' := 69) (x := (2 : Int32)) rfl rfl rfl ?_
    refine j_iadd (pc' := 70) rfl rfl ?_
    refine j_iload_n (pc' := 71) rfl rfl rfl ?_
    refine j_ql (Φl := (fun r Q => j_Tr false τ M_cX12_readComing d 79 [some (.ref 75), none, none, none, none, none] [.int r, .int (v1 + (2 : Int32)), .ref 81] σ9 Q)) ?_ (fun v10 => ?_)
    · refine j_twoT (pT := 74) (pF := 78) (L1 := [some (.ref 75), some (.int l1), none, some (.int v1), some (.int v3), some (.int v4)]) (st1 := [.int (v1 + (2 : Int32)), .ref 81]) (fun o kT kF => ?_) (fun h3 => ?_) (fun h3 => ?_)
      · refine j_ifeq (t := 78) (pc' := 74) rfl rfl rfl (fun h4 => ?_) (fun h4 => ?_)
        · exact kF (fun z => z h4)
        · exact kT h4
      · refine j_iconst (pc' := 75) (x := (1 : Int32)) rfl rfl rfl ?_
        refine j_goto (t := 79) rfl rfl ?_
        refine j_wk [true, false, true, false, false, false] (L' := [some (.ref 75), none, none, none, none, none]) rfl ?_
        exact j_end (fun _ h => h)
      · refine j_iconst (pc' := 79) (x := (0 : Int32)) rfl rfl rfl ?_
        refine j_wk [true, false, true, false, false, false] (L' := [some (.ref 75), none, none, none, none, none]) rfl ?_
        exact j_end (fun _ h => h)
    show j_J false τ M_cX12_readComing d 79 [some (.ref 75), none, none, none, none, none] [.int v10, .int (v1 + (2 : Int32)), .ref 81] σ9 _ _
    refine j_iast (pc' := 80) rfl rfl j_a81 (fun σ11 => ?_)
    refine j_aload_n (pc' := 81) rfl rfl rfl ?_
    refine j_gfr (pc' := 84) (x := 81) rfl rfl j_a75 rfl rfl ?_
    refine j_iconst (pc' := 85) (x := (5 : Int32)) rfl rfl rfl ?_
    refine j_dup2 (pc' := 86) rfl rfl rfl rfl ?_
    refine j_iald (pc' := 87) rfl rfl j_a81 ?_
    refine j_iconst (pc' := 88) (x := (1 : Int32)) rfl rfl rfl ?_
    refine j_iadd (pc' := 89) rfl rfl ?_
    refine j_iast (pc' := 90) rfl rfl j_a81 (fun σ12 => ?_)
    exact j_ret rfl rfl rfl (fun _ h => h)

noncomputable def f_X12_readPlayer (σ : j_G) : Option j_G :=
  j_ix (6 : Int32) 116 (
  j_lt ((96 : Int32) + ((5 : Int32) * (σ.1 81 ((6 : Int32)).toNatClampNeg))) fun v1 =>
  j_b2 (f_X12_told 2000021 (1 : Int32) (9 : Int32) σ) fun v3 σ2 =>
  j_ix (v1 + (0 : Int32)) 116 (
  j_lt (j_si σ2 81 ((v1 + (0 : Int32))).toNatClampNeg v3) fun σ4 =>
  j_b2 (f_X12_told 2000022 (0 : Int32) (20 : Int32) σ4) fun v6 σ5 =>
  j_ix (v1 + (1 : Int32)) 116 (
  j_lt (j_si σ5 81 ((v1 + (1 : Int32))).toNatClampNeg v6) fun σ7 =>
  j_b2 (f_X12_told 2000023 (0 : Int32) (99 : Int32) σ7) fun v9 σ8 =>
  j_ix (v1 + (2 : Int32)) 116 (
  j_lt (j_si σ8 81 ((v1 + (2 : Int32))).toNatClampNeg v9) fun σ10 =>
  j_b2 (f_X12_told 2000024 (0 : Int32) (9 : Int32) σ10) fun v12 σ11 =>
  j_ix (v1 + (3 : Int32)) 116 (
  j_lt (j_si σ11 81 ((v1 + (3 : Int32))).toNatClampNeg v12) fun σ13 =>
  j_b1 (f_X12_freshHoles σ13) fun v14 =>
  j_b2 (f_X12_told 2000025 (0 : Int32) (v14 - (1 : Int32)) σ13) fun v16 σ15 =>
  j_ix (v1 + (4 : Int32)) 116 (
  j_lt (j_si σ15 81 ((v1 + (4 : Int32))).toNatClampNeg v16) fun σ17 =>
  j_ix (6 : Int32) 116 (
  j_ix (6 : Int32) 116 (
  j_lt (j_si σ17 81 ((6 : Int32)).toNatClampNeg ((σ17.1 81 ((6 : Int32)).toNatClampNeg) + (1 : Int32))) fun σ18 =>
  some σ18))))))))
theorem c_X12_readPlayer (σ : j_G) : j_K false 5 229 [.ref 75] σ (f_X12_readPlayer σ) j_Rv := by
  refine j_mkK (M := M_cX12_readPlayer) (L := [some (.ref 75), none]) (m := 1) t_229 rfl (j_rcvO j_a75 rfl) rfl (fun d hd τ => ?_)
  unfold f_X12_readPlayer
  refine j_bipush (pc' := 2) (x := (96 : Int32)) rfl rfl rfl ?_
  refine j_iconst (pc' := 3) (x := (5 : Int32)) rfl rfl rfl ?_
  refine j_aload_n (pc' := 4) rfl rfl rfl ?_
  refine j_gfr (pc' := 7) (x := 81) rfl rfl j_a75 rfl rfl ?_
  refine j_bipush (pc' := 9) (x := (6 : Int32)) rfl rfl rfl ?_
  refine j_iald (pc' := 10) rfl rfl j_a81 ?_
  refine j_imul (pc' := 11) rfl rfl ?_
  refine j_iadd (pc' := 12) rfl rfl ?_
  refine j_leti (fun v1 => ?_)
  refine j_istore_n (pc' := 13) (L' := [some (.ref 75), some (.int v1)]) rfl rfl rfl ?_
  refine j_aload_n (pc' := 14) rfl rfl rfl ?_
  refine j_gfr (pc' := 17) (x := 81) rfl rfl j_a75 rfl rfl ?_
  refine j_iload_n (pc' := 18) rfl rfl rfl ?_
  refine j_iconst (pc' := 19) (x := (0 : Int32)) rfl rfl rfl ?_
  refine j_iadd (pc' := 20) rfl rfl ?_
  refine j_aload_n (pc' := 21) rfl rfl rfl ?_
  refine j_ldcs (pc' := 23) (x := 2000021) rfl rfl rfl rfl ?_
  refine j_iconst (pc' := 24) (x := (1 : Int32)) rfl rfl rfl ?_
  refine j_bipush (pc' := 26) (x := (9 : Int32)) rfl rfl rfl ?_
  refine j_callRi (pc' := 29) (ai := 218) (vs := [.ref 75, .ref 2000021, .int (1 : Int32), .int (9 : Int32)]) (rest := [.int (v1 + (0 : Int32)), .ref 81]) rfl rfl (fun _ _ => rfl) (c_X12_told 2000021 (1 : Int32) (9 : Int32) σ) (j_dd rfl hd) rfl (fun v3 σ2 => ?_)
  refine j_iast (pc' := 30) rfl rfl j_a81 (fun σ4 => ?_)
  refine j_aload_n (pc' := 31) rfl rfl rfl ?_
  refine j_gfr (pc' := 34) (x := 81) rfl rfl j_a75 rfl rfl ?_
  refine j_iload_n (pc' := 35) rfl rfl rfl ?_
  refine j_iconst (pc' := 36) (x := (1 : Int32)) rfl rfl rfl ?_
  refine j_iadd (pc' := 37) rfl rfl ?_
  refine j_aload_n (pc' := 38) rfl rfl rfl ?_
  refine j_ldcs (pc' := 40) (x := 2000022) rfl rfl rfl rfl ?_
  refine j_iconst (pc' := 41) (x := (0 : Int32)) rfl rfl rfl ?_
  refine j_bipush (pc' := 43) (x := (20 : Int32)) rfl rfl rfl ?_
  refine j_callRi (pc' := 46) (ai := 218) (vs := [.ref 75, .ref 2000022, .int (0 : Int32), .int (20 : Int32)]) (rest := [.int (v1 + (1 : Int32)), .ref 81]) rfl rfl (fun _ _ => rfl) (c_X12_told 2000022 (0 : Int32) (20 : Int32) σ4) (j_dd rfl hd) rfl (fun v6 σ5 => ?_)
  refine j_iast (pc' := 47) rfl rfl j_a81 (fun σ7 => ?_)
  refine j_aload_n (pc' := 48) rfl rfl rfl ?_
  refine j_gfr (pc' := 51) (x := 81) rfl rfl j_a75 rfl rfl ?_
  refine j_iload_n (pc' := 52) rfl rfl rfl ?_
  refine j_iconst (pc' := 53) (x := (2 : Int32)) rfl rfl rfl ?_
  refine j_iadd (pc' := 54) rfl rfl ?_
  refine j_aload_n (pc' := 55) rfl rfl rfl ?_
  refine j_ldcs (pc' := 57) (x := 2000023) rfl rfl rfl rfl ?_
  refine j_iconst (pc' := 58) (x := (0 : Int32)) rfl rfl rfl ?_
  refine j_bipush (pc' := 60) (x := (99 : Int32)) rfl rfl rfl ?_
  refine j_callRi (pc' := 63) (ai := 218) (vs := [.ref 75, .ref 2000023, .int (0 : Int32), .int (99 : Int32)]) (rest := [.int (v1 + (2 : Int32)), .ref 81]) rfl rfl (fun _ _ => rfl) (c_X12_told 2000023 (0 : Int32) (99 : Int32) σ7) (j_dd rfl hd) rfl (fun v9 σ8 => ?_)
  refine j_iast (pc' := 64) rfl rfl j_a81 (fun σ10 => ?_)
  refine j_aload_n (pc' := 65) rfl rfl rfl ?_
  refine j_gfr (pc' := 68) (x := 81) rfl rfl j_a75 rfl rfl ?_
  refine j_iload_n (pc' := 69) rfl rfl rfl ?_
  refine j_iconst (pc' := 70) (x := (3 : Int32)) rfl rfl rfl ?_
  refine j_iadd (pc' := 71) rfl rfl ?_
  refine j_aload_n (pc' := 72) rfl rfl rfl ?_
  refine j_ldcs (pc' := 74) (x := 2000024) rfl rfl rfl rfl ?_
  refine j_iconst (pc' := 75) (x := (0 : Int32)) rfl rfl rfl ?_
  refine j_bipush (pc' := 77) (x := (9 : Int32)) rfl rfl rfl ?_
  refine j_callRi (pc' := 80) (ai := 218) (vs := [.ref 75, .ref 2000024, .int (0 : Int32), .int (9 : Int32)]) (rest := [.int (v1 + (3 : Int32)), .ref 81]) rfl rfl (fun _ _ => rfl) (c_X12_told 2000024 (0 : Int32) (9 : Int32) σ10) (j_dd rfl hd) rfl (fun v12 σ11 => ?_)
  refine j_iast (pc' := 81) rfl rfl j_a81 (fun σ13 => ?_)
  refine j_aload_n (pc' := 82) rfl rfl rfl ?_
  refine j_gfr (pc' := 85) (x := 81) rfl rfl j_a75 rfl rfl ?_
  refine j_iload_n (pc' := 86) rfl rfl rfl ?_
  refine j_iconst (pc' := 87) (x := (4 : Int32)) rfl rfl rfl ?_
  refine j_iadd (pc' := 88) rfl rfl ?_
  refine j_aload_n (pc' := 89) rfl rfl rfl ?_
  refine j_ldcs (pc' := 91) (x := 2000025) rfl rfl rfl rfl ?_
  refine j_iconst (pc' := 92) (x := (0 : Int32)) rfl rfl rfl ?_
  refine j_aload_n (pc' := 93) rfl rfl rfl ?_
  refine j_callPi (pc' := 96) (ai := 220) (vs := [.ref 75]) (rest := [.int (0 : Int32), .ref 2000025, .ref 75, .int (v1 + (4 : Int32)), .ref 81]) rfl rfl (fun _ _ => rfl) (c_X12_freshHoles  σ13) (j_dd rfl hd) rfl (fun v14 => ?_)
  refine j_iconst (pc' := 97) (x := (1 : Int32)) rfl rfl rfl ?_
  refine j_isub (pc' := 98) rfl rfl ?_
  refine j_callRi (pc' := 101) (ai := 218) (vs := [.ref 75, .ref 2000025, .int (0 : Int32), .int (v14 - (1 : Int32))]) (rest := [.int (v1 + (4 : Int32)), .ref 81]) rfl rfl (fun _ _ => rfl) (c_X12_told 2000025 (0 : Int32) (v14 - (1 : Int32)) σ13) (j_dd rfl hd) rfl (fun v16 σ15 => ?_)
  refine j_iast (pc' := 102) rfl rfl j_a81 (fun σ17 => ?_)
  refine j_aload_n (pc' := 103) rfl rfl rfl ?_
  refine j_gfr (pc' := 106) (x := 81) rfl rfl j_a75 rfl rfl ?_
  refine j_bipush (pc' := 108) (x := (6 : Int32)) rfl rfl rfl ?_
  refine j_dup2 (pc' := 109) rfl rfl rfl rfl ?_
  refine j_iald (pc' := 110) rfl rfl j_a81 ?_
  refine j_iconst (pc' := 111) (x := (1 : Int32)) rfl rfl rfl ?_
  refine j_iadd (pc' := 112) rfl rfl ?_
  refine j_iast (pc' := 113) rfl rfl j_a81 (fun σ18 => ?_)
  exact j_ret rfl rfl rfl (fun _ h => h)

noncomputable def f_X12_readNext (σ : j_G) : Option j_G :=
  j_b1 (f_X12_is 2000013 σ) fun v1 =>
  j_b1 (if v1 = 0 then (j_b1 (f_X12_is 2000014 σ) fun v3 =>
  j_lt (some (1 : Int32)) fun (k4 : Option Int32) =>
  if v3 = 0 then (j_b1 (f_X12_is 2000015 σ) fun v5 =>
  if ¬ v5 = 0 then (k4) else (some (0 : Int32))) else (k4)) else (some (1 : Int32))) fun v2 =>
  j_b1 (if v2 = 0 then (j_b1 (f_X12_is 2000016 σ) fun v7 =>
  if v7 = 0 then (j_b1 (f_X12_is 2000017 σ) fun v8 =>
  if v8 = 0 then (j_b1 (f_X12_is 2000018 σ) fun v9 =>
  if v9 = 0 then (j_b1 (f_X12_is 2000019 σ) fun v10 =>
  if v10 = 0 then (j_b1 (f_X12_errs (1 : Int32) σ) fun σ11 =>
  some σ11) else (some σ)) else (some σ)) else (some σ)) else (some σ)) else (some σ)) fun σ6 =>
  j_b1 (if ¬ v2 = 0 then (j_ix (5 : Int32) 116 (
  j_lt (j_b1 (f_X12_errs (3 : Int32) σ6) fun σ15 =>
  some σ15) fun (k13 : Option j_G) =>
  if ¬ (σ6.1 81 ((5 : Int32)).toNatClampNeg) = (24 : Int32) then (j_b1 (f_X12_is 2000018 σ6) fun v14 =>
  if ¬ v14 = 0 then (j_ix (6 : Int32) 116 (
  if (σ6.1 81 ((6 : Int32)).toNatClampNeg) = (4 : Int32) then (k13) else (some σ6))) else (some σ6)) else (k13))) else (j_b1 (f_X12_is 2000018 σ6) fun v16 =>
  if ¬ v16 = 0 then (j_ix (6 : Int32) 116 (
  if (σ6.1 81 ((6 : Int32)).toNatClampNeg) = (4 : Int32) then (j_b1 (f_X12_errs (3 : Int32) σ6) fun σ17 =>
  some σ17) else (some σ6))) else (some σ6))) fun σ12 =>
  if (f_X12_good σ12) = 0 then (some σ12) else (j_b2 (f_X12_takes 2000016 σ12) fun v19 σ18 =>
  if ¬ v19 = 0 then (j_b1 (f_X12_readStay σ18) fun σ20 =>
  some σ20) else (j_b2 (f_X12_takes 2000017 σ18) fun v22 σ21 =>
  if ¬ v22 = 0 then (j_b1 (f_X12_readShut σ21) fun σ23 =>
  some σ23) else (j_b2 (f_X12_takes 2000013 σ21) fun v25 σ24 =>
  if ¬ v25 = 0 then (j_b1 (f_X12_readComing (0 : Int32) (0 : Int32) σ24) fun σ26 =>
  some σ26) else (j_b2 (f_X12_takes 2000014 σ24) fun v28 σ27 =>
  if ¬ v28 = 0 then (j_b1 (f_X12_readComing (1 : Int32) (0 : Int32) σ27) fun σ29 =>
  some σ29) else (j_b2 (f_X12_takes 2000015 σ27) fun v31 σ30 =>
  if ¬ v31 = 0 then (j_b1 (f_X12_readComing (0 : Int32) (1 : Int32) σ30) fun σ32 =>
  some σ32) else (j_b2 (f_X12_takes 2000018 σ30) fun v34 σ33 =>
  if ¬ v34 = 0 then (j_b1 (f_X12_readPlayer σ33) fun σ35 =>
  some σ35) else (j_b1 (f_X12_advance σ33) fun σ36 =>
  j_b2 (f_X12_number (1 : Int32) (99 : Int32) σ36) fun v38 σ37 =>
  j_ix (10 : Int32) 116 (
  j_lt (j_si σ37 81 ((10 : Int32)).toNatClampNeg v38) fun σ39 =>
  j_b2 (f_X12_told 2000026 (1 : Int32) (500 : Int32) σ39) fun v41 σ40 =>
  j_ix (11 : Int32) 116 (
  j_lt (j_si σ40 81 ((11 : Int32)).toNatClampNeg v41) fun σ42 =>
  some σ42)))))))))
theorem c_X12_readNext (σ : j_G) : j_K false 6 230 [.ref 75] σ (f_X12_readNext σ) j_Rv := by
  refine j_mkK (M := M_cX12_readNext) (L := [some (.ref 75), none]) (m := 1) t_230 rfl (j_rcvO j_a75 rfl) rfl (fun d hd τ => ?_)
  unfold f_X12_readNext
  refine j_aload_n (pc' := 1) rfl rfl rfl ?_
  refine j_ldcs (pc' := 3) (x := 2000013) rfl rfl rfl rfl ?_
  refine j_callPi (pc' := 6) (ai := 214) (vs := [.ref 75, .ref 2000013]) (rest := []) rfl rfl (fun _ _ => rfl) (c_X12_is 2000013 σ) (j_dd rfl hd) rfl (fun v1 => ?_)
  refine j_q1 (Φl := (fun r Q => j_Tr false τ M_cX12_readNext d 32 [some (.ref 75), none] [.int r] σ Q)) ?_ (fun v2 => ?_)
  · refine j_two (pT := 9) (pF := 27) (L1 := [some (.ref 75), none]) (st1 := []) (fun o kT kF => ?_) (fun h5 => ?_) (fun h5 => ?_)
    · refine j_ifne (t := 27) (pc' := 9) rfl rfl rfl (fun h6 => ?_) (fun h6 => ?_)
      · exact kF h6
      · exact kT h6
    · refine j_aload_n (pc' := 10) rfl rfl rfl ?_
      refine j_ldcs (pc' := 12) (x := 2000014) rfl rfl rfl rfl ?_
      refine j_callPi (pc' := 15) (ai := 214) (vs := [.ref 75, .ref 2000014]) (rest := []) rfl rfl (fun _ _ => rfl) (c_X12_is 2000014 σ) (j_dd rfl hd) rfl (fun v3 => ?_)
      refine j_jn (P := (fun k => j_J false τ M_cX12_readNext d 27 [some (.ref 75), none] [] σ (k ) (fun r Q => j_Tr false τ M_cX12_readNext d 32 [some (.ref 75), none] [.int r] σ Q))) ?_ (fun k4 k4_h => ?_)
      · refine j_iconst (pc' := 28) (x := (1 : Int32)) rfl rfl rfl ?_
        refine j_goto (t := 32) rfl rfl ?_
        exact j_end (fun _ h => h)
      · refine j_two (pT := 18) (pF := 27) (L1 := [some (.ref 75), none]) (st1 := []) (fun o kT kF => ?_) (fun h3 => ?_) (fun h3 => ?_)
        · refine j_ifne (t := 27) (pc' := 18) rfl rfl rfl (fun h4 => ?_) (fun h4 => ?_)
          · exact kF h4
          · exact kT h4
        · refine j_aload_n (pc' := 19) rfl rfl rfl ?_
          refine j_ldcs (pc' := 21) (x := 2000015) rfl rfl rfl rfl ?_
          refine j_callPi (pc' := 24) (ai := 214) (vs := [.ref 75, .ref 2000015]) (rest := []) rfl rfl (fun _ _ => rfl) (c_X12_is 2000015 σ) (j_dd rfl hd) rfl (fun v5 => ?_)
          refine j_two (pT := 27) (pF := 31) (L1 := [some (.ref 75), none]) (st1 := []) (fun o kT kF => ?_) (fun h1 => ?_) (fun h1 => ?_)
          · refine j_ifeq (t := 31) (pc' := 27) rfl rfl rfl (fun h2 => ?_) (fun h2 => ?_)
            · exact kF (fun z => z h2)
            · exact kT h2
          · exact k4_h 
          · refine j_iconst (pc' := 32) (x := (0 : Int32)) rfl rfl rfl ?_
            exact j_end (fun _ h => h)
        · exact k4_h 
    · refine j_iconst (pc' := 28) (x := (1 : Int32)) rfl rfl rfl ?_
      refine j_goto (t := 32) rfl rfl ?_
      exact j_end (fun _ h => h)
  show j_J false τ M_cX12_readNext d 32 [some (.ref 75), none] [.int v2] σ _ _
  refine j_istore_n (pc' := 33) (L' := [some (.ref 75), some (.int v2)]) rfl rfl rfl ?_
  refine j_iload_n (pc' := 34) rfl rfl rfl ?_
  refine j_q1 (Φl := (fun r Q => j_Tr false τ M_cX12_readNext d 78 [some (.ref 75), some (.int v2)] [] r Q)) ?_ (fun σ6 => ?_)
  · refine j_two (pT := 37) (pF := 78) (L1 := [some (.ref 75), some (.int v2)]) (st1 := []) (fun o kT kF => ?_) (fun h15 => ?_) (fun h15 => ?_)
    · refine j_ifne (t := 78) (pc' := 37) rfl rfl rfl (fun h16 => ?_) (fun h16 => ?_)
      · exact kF h16
      · exact kT h16
    · refine j_aload_n (pc' := 38) rfl rfl rfl ?_
      refine j_ldcs (pc' := 40) (x := 2000016) rfl rfl rfl rfl ?_
      refine j_callPi (pc' := 43) (ai := 214) (vs := [.ref 75, .ref 2000016]) (rest := []) rfl rfl (fun _ _ => rfl) (c_X12_is 2000016 σ) (j_dd rfl hd) rfl (fun v7 => ?_)
      refine j_two (pT := 46) (pF := 78) (L1 := [some (.ref 75), some (.int v2)]) (st1 := []) (fun o kT kF => ?_) (fun h13 => ?_) (fun h13 => ?_)
      · refine j_ifne (t := 78) (pc' := 46) rfl rfl rfl (fun h14 => ?_) (fun h14 => ?_)
        · exact kF h14
        · exact kT h14
      · refine j_aload_n (pc' := 47) rfl rfl rfl ?_
        refine j_ldcs (pc' := 49) (x := 2000017) rfl rfl rfl rfl ?_
        refine j_callPi (pc' := 52) (ai := 214) (vs := [.ref 75, .ref 2000017]) (rest := []) rfl rfl (fun _ _ => rfl) (c_X12_is 2000017 σ) (j_dd rfl hd) rfl (fun v8 => ?_)
        refine j_two (pT := 55) (pF := 78) (L1 := [some (.ref 75), some (.int v2)]) (st1 := []) (fun o kT kF => ?_) (fun h11 => ?_) (fun h11 => ?_)
        · refine j_ifne (t := 78) (pc' := 55) rfl rfl rfl (fun h12 => ?_) (fun h12 => ?_)
          · exact kF h12
          · exact kT h12
        · refine j_aload_n (pc' := 56) rfl rfl rfl ?_
          refine j_ldcs (pc' := 58) (x := 2000018) rfl rfl rfl rfl ?_
          refine j_callPi (pc' := 61) (ai := 214) (vs := [.ref 75, .ref 2000018]) (rest := []) rfl rfl (fun _ _ => rfl) (c_X12_is 2000018 σ) (j_dd rfl hd) rfl (fun v9 => ?_)
          refine j_two (pT := 64) (pF := 78) (L1 := [some (.ref 75), some (.int v2)]) (st1 := []) (fun o kT kF => ?_) (fun h9 => ?_) (fun h9 => ?_)
          · refine j_ifne (t := 78) (pc' := 64) rfl rfl rfl (fun h10 => ?_) (fun h10 => ?_)
            · exact kF h10
            · exact kT h10
          · refine j_aload_n (pc' := 65) rfl rfl rfl ?_
            refine j_ldcs (pc' := 67) (x := 2000019) rfl rfl rfl rfl ?_
            refine j_callPi (pc' := 70) (ai := 214) (vs := [.ref 75, .ref 2000019]) (rest := []) rfl rfl (fun _ _ => rfl) (c_X12_is 2000019 σ) (j_dd rfl hd) rfl (fun v10 => ?_)
            refine j_two (pT := 73) (pF := 78) (L1 := [some (.ref 75), some (.int v2)]) (st1 := []) (fun o kT kF => ?_) (fun h7 => ?_) (fun h7 => ?_)
            · refine j_ifne (t := 78) (pc' := 73) rfl rfl rfl (fun h8 => ?_) (fun h8 => ?_)
              · exact kF h8
              · exact kT h8
            · refine j_aload_n (pc' := 74) rfl rfl rfl ?_
              refine j_iconst (pc' := 75) (x := (1 : Int32)) rfl rfl rfl ?_
              refine j_callRv (pc' := 78) (ai := 213) (vs := [.ref 75, .int (1 : Int32)]) (rest := []) rfl rfl (fun _ _ => rfl) (c_X12_errs (1 : Int32) σ) (j_dd rfl hd) rfl (fun σ11 => ?_)
              exact j_end (fun _ h => h)
            · exact j_end (fun _ h => h)
          · exact j_end (fun _ h => h)
        · exact j_end (fun _ h => h)
      · exact j_end (fun _ h => h)
    · exact j_end (fun _ h => h)
  show j_J false τ M_cX12_readNext d 78 [some (.ref 75), some (.int v2)] [] σ6 _ _
  refine j_iload_n (pc' := 79) rfl rfl rfl ?_
  refine j_q1 (Φl := (fun r Q => j_Tr false τ M_cX12_readNext d 118 [some (.ref 75), none] [] r Q)) ?_ (fun σ12 => ?_)
  · refine j_two (pT := 82) (pF := 93) (L1 := [some (.ref 75), some (.int v2)]) (st1 := []) (fun o kT kF => ?_) (fun h27 => ?_) (fun h27 => ?_)
    · refine j_ifeq (t := 93) (pc' := 82) rfl rfl rfl (fun h28 => ?_) (fun h28 => ?_)
      · exact kF (fun z => z h28)
      · exact kT h28
    · refine j_aload_n (pc' := 83) rfl rfl rfl ?_
      refine j_gfr (pc' := 86) (x := 81) rfl rfl j_a75 rfl rfl ?_
      refine j_iconst (pc' := 87) (x := (5 : Int32)) rfl rfl rfl ?_
      refine j_iald (pc' := 88) rfl rfl j_a81 ?_
      refine j_bipush (pc' := 90) (x := (24 : Int32)) rfl rfl rfl ?_
      refine j_jn (P := (fun k => j_J false τ M_cX12_readNext d 113 [some (.ref 75), none] [] σ6 (k ) (fun r Q => j_Tr false τ M_cX12_readNext d 118 [some (.ref 75), none] [] r Q))) ?_ (fun k13 k13_h => ?_)
      · refine j_aload_n (pc' := 114) rfl rfl rfl ?_
        refine j_iconst (pc' := 115) (x := (3 : Int32)) rfl rfl rfl ?_
        refine j_callRv (pc' := 118) (ai := 213) (vs := [.ref 75, .int (3 : Int32)]) (rest := []) rfl rfl (fun _ _ => rfl) (c_X12_errs (3 : Int32) σ6) (j_dd rfl hd) rfl (fun σ15 => ?_)
        exact j_end (fun _ h => h)
      · refine j_two (pT := 93) (pF := 113) (L1 := [some (.ref 75), some (.int v2)]) (st1 := []) (fun o kT kF => ?_) (fun h21 => ?_) (fun h21 => ?_)
        · refine j_iceq (t := 113) (pc' := 93) rfl rfl rfl (fun h22 => ?_) (fun h22 => ?_)
          · exact kF (fun z => z h22)
          · exact kT h22
        · refine j_aload_n (pc' := 94) rfl rfl rfl ?_
          refine j_ldcs (pc' := 96) (x := 2000018) rfl rfl rfl rfl ?_
          refine j_callPi (pc' := 99) (ai := 214) (vs := [.ref 75, .ref 2000018]) (rest := []) rfl rfl (fun _ _ => rfl) (c_X12_is 2000018 σ6) (j_dd rfl hd) rfl (fun v14 => ?_)
          refine j_two (pT := 102) (pF := 118) (L1 := [some (.ref 75), some (.int v2)]) (st1 := []) (fun o kT kF => ?_) (fun h19 => ?_) (fun h19 => ?_)
          · refine j_ifeq (t := 118) (pc' := 102) rfl rfl rfl (fun h20 => ?_) (fun h20 => ?_)
            · exact kF (fun z => z h20)
            · exact kT h20
          · refine j_aload_n (pc' := 103) rfl rfl rfl ?_
            refine j_gfr (pc' := 106) (x := 81) rfl rfl j_a75 rfl rfl ?_
            refine j_bipush (pc' := 108) (x := (6 : Int32)) rfl rfl rfl ?_
            refine j_iald (pc' := 109) rfl rfl j_a81 ?_
            refine j_iconst (pc' := 110) (x := (4 : Int32)) rfl rfl rfl ?_
            refine j_two (pT := 113) (pF := 118) (L1 := [some (.ref 75), some (.int v2)]) (st1 := []) (fun o kT kF => ?_) (fun h17 => ?_) (fun h17 => ?_)
            · refine j_icne (t := 118) (pc' := 113) rfl rfl rfl (fun h18 => ?_) (fun h18 => ?_)
              · exact kF h18
              · exact kT h18
            · refine j_wk [true, false] (L' := [some (.ref 75), none]) rfl ?_
              exact k13_h 
            · refine j_wk [true, false] (L' := [some (.ref 75), none]) rfl ?_
              exact j_end (fun _ h => h)
          · refine j_wk [true, false] (L' := [some (.ref 75), none]) rfl ?_
            exact j_end (fun _ h => h)
        · refine j_wk [true, false] (L' := [some (.ref 75), none]) rfl ?_
          exact k13_h 
    · refine j_aload_n (pc' := 94) rfl rfl rfl ?_
      refine j_ldcs (pc' := 96) (x := 2000018) rfl rfl rfl rfl ?_
      refine j_callPi (pc' := 99) (ai := 214) (vs := [.ref 75, .ref 2000018]) (rest := []) rfl rfl (fun _ _ => rfl) (c_X12_is 2000018 σ6) (j_dd rfl hd) rfl (fun v16 => ?_)
      refine j_two (pT := 102) (pF := 118) (L1 := [some (.ref 75), some (.int v2)]) (st1 := []) (fun o kT kF => ?_) (fun h25 => ?_) (fun h25 => ?_)
      · refine j_ifeq (t := 118) (pc' := 102) rfl rfl rfl (fun h26 => ?_) (fun h26 => ?_)
        · exact kF (fun z => z h26)
        · exact kT h26
      · refine j_aload_n (pc' := 103) rfl rfl rfl ?_
        refine j_gfr (pc' := 106) (x := 81) rfl rfl j_a75 rfl rfl ?_
        refine j_bipush (pc' := 108) (x := (6 : Int32)) rfl rfl rfl ?_
        refine j_iald (pc' := 109) rfl rfl j_a81 ?_
        refine j_iconst (pc' := 110) (x := (4 : Int32)) rfl rfl rfl ?_
        refine j_two (pT := 113) (pF := 118) (L1 := [some (.ref 75), some (.int v2)]) (st1 := []) (fun o kT kF => ?_) (fun h23 => ?_) (fun h23 => ?_)
        · refine j_icne (t := 118) (pc' := 113) rfl rfl rfl (fun h24 => ?_) (fun h24 => ?_)
          · exact kF h24
          · exact kT h24
        · refine j_aload_n (pc' := 114) rfl rfl rfl ?_
          refine j_iconst (pc' := 115) (x := (3 : Int32)) rfl rfl rfl ?_
          refine j_callRv (pc' := 118) (ai := 213) (vs := [.ref 75, .int (3 : Int32)]) (rest := []) rfl rfl (fun _ _ => rfl) (c_X12_errs (3 : Int32) σ6) (j_dd rfl hd) rfl (fun σ17 => ?_)
          refine j_wk [true, false] (L' := [some (.ref 75), none]) rfl ?_
          exact j_end (fun _ h => h)
        · refine j_wk [true, false] (L' := [some (.ref 75), none]) rfl ?_
          exact j_end (fun _ h => h)
      · refine j_wk [true, false] (L' := [some (.ref 75), none]) rfl ?_
        exact j_end (fun _ h => h)
  show j_J false τ M_cX12_readNext d 118 [some (.ref 75), none] [] σ12 _ _
  refine j_aload_n (pc' := 119) rfl rfl rfl ?_
  refine j_callTi (pc' := 122) (ai := 212) (vs := [.ref 75]) (rest := []) rfl rfl (fun _ _ => rfl) (c_X12_good  σ12) (j_dd rfl hd) rfl ?_
  refine j_two (pT := 125) (pF := 126) (L1 := [some (.ref 75), none]) (st1 := []) (fun o kT kF => ?_) (fun h41 => ?_) (fun h41 => ?_)
  · refine j_ifne (t := 126) (pc' := 125) rfl rfl rfl (fun h42 => ?_) (fun h42 => ?_)
    · exact kF h42
    · exact kT h42
  · exact j_ret rfl rfl rfl (fun _ h => h)
  · refine j_aload_n (pc' := 127) rfl rfl rfl ?_
    refine j_ldcs (pc' := 129) (x := 2000016) rfl rfl rfl rfl ?_
    refine j_callRi (pc' := 132) (ai := 215) (vs := [.ref 75, .ref 2000016]) (rest := []) rfl rfl (fun _ _ => rfl) (c_X12_takes 2000016 σ12) (j_dd rfl hd) rfl (fun v19 σ18 => ?_)
    refine j_two (pT := 135) (pF := 142) (L1 := [some (.ref 75), none]) (st1 := []) (fun o kT kF => ?_) (fun h39 => ?_) (fun h39 => ?_)
    · refine j_ifeq (t := 142) (pc' := 135) rfl rfl rfl (fun h40 => ?_) (fun h40 => ?_)
      · exact kF (fun z => z h40)
      · exact kT h40
    · refine j_aload_n (pc' := 136) rfl rfl rfl ?_
      refine j_callRv (pc' := 139) (ai := 223) (vs := [.ref 75]) (rest := []) rfl rfl (fun _ _ => rfl) (c_X12_readStay  σ18) (j_dd rfl hd) rfl (fun σ20 => ?_)
      refine j_goto (t := 263) rfl rfl ?_
      exact j_ret rfl rfl rfl (fun _ h => h)
    · refine j_aload_n (pc' := 143) rfl rfl rfl ?_
      refine j_ldcs (pc' := 145) (x := 2000017) rfl rfl rfl rfl ?_
      refine j_callRi (pc' := 148) (ai := 215) (vs := [.ref 75, .ref 2000017]) (rest := []) rfl rfl (fun _ _ => rfl) (c_X12_takes 2000017 σ18) (j_dd rfl hd) rfl (fun v22 σ21 => ?_)
      refine j_two (pT := 151) (pF := 158) (L1 := [some (.ref 75), none]) (st1 := []) (fun o kT kF => ?_) (fun h37 => ?_) (fun h37 => ?_)
      · refine j_ifeq (t := 158) (pc' := 151) rfl rfl rfl (fun h38 => ?_) (fun h38 => ?_)
        · exact kF (fun z => z h38)
        · exact kT h38
      · refine j_aload_n (pc' := 152) rfl rfl rfl ?_
        refine j_callRv (pc' := 155) (ai := 226) (vs := [.ref 75]) (rest := []) rfl rfl (fun _ _ => rfl) (c_X12_readShut  σ21) (j_dd rfl hd) rfl (fun σ23 => ?_)
        refine j_goto (t := 263) rfl rfl ?_
        exact j_ret rfl rfl rfl (fun _ h => h)
      · refine j_aload_n (pc' := 159) rfl rfl rfl ?_
        refine j_ldcs (pc' := 161) (x := 2000013) rfl rfl rfl rfl ?_
        refine j_callRi (pc' := 164) (ai := 215) (vs := [.ref 75, .ref 2000013]) (rest := []) rfl rfl (fun _ _ => rfl) (c_X12_takes 2000013 σ21) (j_dd rfl hd) rfl (fun v25 σ24 => ?_)
        refine j_two (pT := 167) (pF := 176) (L1 := [some (.ref 75), none]) (st1 := []) (fun o kT kF => ?_) (fun h35 => ?_) (fun h35 => ?_)
        · refine j_ifeq (t := 176) (pc' := 167) rfl rfl rfl (fun h36 => ?_) (fun h36 => ?_)
          · exact kF (fun z => z h36)
          · exact kT h36
        · refine j_aload_n (pc' := 168) rfl rfl rfl ?_
          refine j_iconst (pc' := 169) (x := (0 : Int32)) rfl rfl rfl ?_
          refine j_iconst (pc' := 170) (x := (0 : Int32)) rfl rfl rfl ?_
          refine j_callRv (pc' := 173) (ai := 228) (vs := [.ref 75, .int (0 : Int32), .int (0 : Int32)]) (rest := []) rfl rfl (fun _ _ => rfl) (c_X12_readComing (0 : Int32) (0 : Int32) σ24) (j_dd rfl hd) rfl (fun σ26 => ?_)
          refine j_goto (t := 263) rfl rfl ?_
          exact j_ret rfl rfl rfl (fun _ h => h)
        · refine j_aload_n (pc' := 177) rfl rfl rfl ?_
          refine j_ldcs (pc' := 179) (x := 2000014) rfl rfl rfl rfl ?_
          refine j_callRi (pc' := 182) (ai := 215) (vs := [.ref 75, .ref 2000014]) (rest := []) rfl rfl (fun _ _ => rfl) (c_X12_takes 2000014 σ24) (j_dd rfl hd) rfl (fun v28 σ27 => ?_)
          refine j_two (pT := 185) (pF := 194) (L1 := [some (.ref 75), none]) (st1 := []) (fun o kT kF => ?_) (fun h33 => ?_) (fun h33 => ?_)
          · refine j_ifeq (t := 194) (pc' := 185) rfl rfl rfl (fun h34 => ?_) (fun h34 => ?_)
            · exact kF (fun z => z h34)
            · exact kT h34
          · refine j_aload_n (pc' := 186) rfl rfl rfl ?_
            refine j_iconst (pc' := 187) (x := (1 : Int32)) rfl rfl rfl ?_
            refine j_iconst (pc' := 188) (x := (0 : Int32)) rfl rfl rfl ?_
            refine j_callRv (pc' := 191) (ai := 228) (vs := [.ref 75, .int (1 : Int32), .int (0 : Int32)]) (rest := []) rfl rfl (fun _ _ => rfl) (c_X12_readComing (1 : Int32) (0 : Int32) σ27) (j_dd rfl hd) rfl (fun σ29 => ?_)
            refine j_goto (t := 263) rfl rfl ?_
            exact j_ret rfl rfl rfl (fun _ h => h)
          · refine j_aload_n (pc' := 195) rfl rfl rfl ?_
            refine j_ldcs (pc' := 197) (x := 2000015) rfl rfl rfl rfl ?_
            refine j_callRi (pc' := 200) (ai := 215) (vs := [.ref 75, .ref 2000015]) (rest := []) rfl rfl (fun _ _ => rfl) (c_X12_takes 2000015 σ27) (j_dd rfl hd) rfl (fun v31 σ30 => ?_)
            refine j_two (pT := 203) (pF := 212) (L1 := [some (.ref 75), none]) (st1 := []) (fun o kT kF => ?_) (fun h31 => ?_) (fun h31 => ?_)
            · refine j_ifeq (t := 212) (pc' := 203) rfl rfl rfl (fun h32 => ?_) (fun h32 => ?_)
              · exact kF (fun z => z h32)
              · exact kT h32
            · refine j_aload_n (pc' := 204) rfl rfl rfl ?_
              refine j_iconst (pc' := 205) (x := (0 : Int32)) rfl rfl rfl ?_
              refine j_iconst (pc' := 206) (x := (1 : Int32)) rfl rfl rfl ?_
              refine j_callRv (pc' := 209) (ai := 228) (vs := [.ref 75, .int (0 : Int32), .int (1 : Int32)]) (rest := []) rfl rfl (fun _ _ => rfl) (c_X12_readComing (0 : Int32) (1 : Int32) σ30) (j_dd rfl hd) rfl (fun σ32 => ?_)
              refine j_goto (t := 263) rfl rfl ?_
              exact j_ret rfl rfl rfl (fun _ h => h)
            · refine j_aload_n (pc' := 213) rfl rfl rfl ?_
              refine j_ldcs (pc' := 215) (x := 2000018) rfl rfl rfl rfl ?_
              refine j_callRi (pc' := 218) (ai := 215) (vs := [.ref 75, .ref 2000018]) (rest := []) rfl rfl (fun _ _ => rfl) (c_X12_takes 2000018 σ30) (j_dd rfl hd) rfl (fun v34 σ33 => ?_)
              refine j_two (pT := 221) (pF := 228) (L1 := [some (.ref 75), none]) (st1 := []) (fun o kT kF => ?_) (fun h29 => ?_) (fun h29 => ?_)
              · refine j_ifeq (t := 228) (pc' := 221) rfl rfl rfl (fun h30 => ?_) (fun h30 => ?_)
                · exact kF (fun z => z h30)
                · exact kT h30
              · refine j_aload_n (pc' := 222) rfl rfl rfl ?_
                refine j_callRv (pc' := 225) (ai := 229) (vs := [.ref 75]) (rest := []) rfl rfl (fun _ _ => rfl) (c_X12_readPlayer  σ33) (j_dd rfl hd) rfl (fun σ35 => ?_)
                refine j_goto (t := 263) rfl rfl ?_
                exact j_ret rfl rfl rfl (fun _ h => h)
              · refine j_aload_n (pc' := 229) rfl rfl rfl ?_
                refine j_callRv (pc' := 232) (ai := 211) (vs := [.ref 75]) (rest := []) rfl rfl (fun _ _ => rfl) (c_X12_advance  σ33) (j_dd rfl hd) rfl (fun σ36 => ?_)
                refine j_aload_n (pc' := 233) rfl rfl rfl ?_
                refine j_gfr (pc' := 236) (x := 81) rfl rfl j_a75 rfl rfl ?_
                refine j_bipush (pc' := 238) (x := (10 : Int32)) rfl rfl rfl ?_
                refine j_aload_n (pc' := 239) rfl rfl rfl ?_
                refine j_iconst (pc' := 240) (x := (1 : Int32)) rfl rfl rfl ?_
                refine j_bipush (pc' := 242) (x := (99 : Int32)) rfl rfl rfl ?_
                refine j_callRi (pc' := 245) (ai := 217) (vs := [.ref 75, .int (1 : Int32), .int (99 : Int32)]) (rest := [.int (10 : Int32), .ref 81]) rfl rfl (fun _ _ => rfl) (c_X12_number (1 : Int32) (99 : Int32) σ36) (j_dd rfl hd) rfl (fun v38 σ37 => ?_)
                refine j_iast (pc' := 246) rfl rfl j_a81 (fun σ39 => ?_)
                refine j_aload_n (pc' := 247) rfl rfl rfl ?_
                refine j_gfr (pc' := 250) (x := 81) rfl rfl j_a75 rfl rfl ?_
                refine j_bipush (pc' := 252) (x := (11 : Int32)) rfl rfl rfl ?_
                refine j_aload_n (pc' := 253) rfl rfl rfl ?_
                refine j_ldcs (pc' := 255) (x := 2000026) rfl rfl rfl rfl ?_
                refine j_iconst (pc' := 256) (x := (1 : Int32)) rfl rfl rfl ?_
                refine j_sipush (pc' := 259) (x := (500 : Int32)) rfl rfl rfl ?_
                refine j_callRi (pc' := 262) (ai := 218) (vs := [.ref 75, .ref 2000026, .int (1 : Int32), .int (500 : Int32)]) (rest := [.int (11 : Int32), .ref 81]) rfl rfl (fun _ _ => rfl) (c_X12_told 2000026 (1 : Int32) (500 : Int32) σ39) (j_dd rfl hd) rfl (fun v41 σ40 => ?_)
                refine j_iast (pc' := 263) rfl rfl j_a81 (fun σ42 => ?_)
                exact j_ret rfl rfl rfl (fun _ h => h)

noncomputable def f_X12_readLine (σ : j_G) : Option j_G :=
  j_ix (9 : Int32) 116 (
  j_b1 (if (σ.1 81 ((9 : Int32)).toNatClampNeg) = 0 then (j_b1 (f_X12_readFirst σ) fun σ2 =>
  some σ2) else (j_b1 (f_X12_readNext σ) fun σ3 =>
  some σ3)) fun σ1 =>
  j_b1 (if (¬ (f_X12_good σ1) = 0) ∧ (¬ (σ1.1 75 10) = (3 : Int32)) then (j_b1 (f_X12_errs (1 : Int32) σ1) fun σ5 =>
  some σ5) else (some σ1)) fun σ4 =>
  j_b1 (if ¬ (f_X12_good σ4) = 0 then (j_b1 (f_X12_advance σ4) fun σ7 =>
  some σ7) else (some σ4)) fun σ6 =>
  j_ix (9 : Int32) 116 (
  j_ix (9 : Int32) 116 (
  j_lt (j_si σ6 81 ((9 : Int32)).toNatClampNeg ((σ6.1 81 ((9 : Int32)).toNatClampNeg) + (1 : Int32))) fun σ8 =>
  some σ8)))
theorem c_X12_readLine (σ : j_G) : j_K false 7 231 [.ref 75] σ (f_X12_readLine σ) j_Rv := by
  refine j_mkK (M := M_cX12_readLine) (L := [some (.ref 75)]) (m := 0) t_231 rfl (j_rcvO j_a75 rfl) rfl (fun d hd τ => ?_)
  unfold f_X12_readLine
  refine j_aload_n (pc' := 1) rfl rfl rfl ?_
  refine j_gfr (pc' := 4) (x := 81) rfl rfl j_a75 rfl rfl ?_
  refine j_bipush (pc' := 6) (x := (9 : Int32)) rfl rfl rfl ?_
  refine j_iald (pc' := 7) rfl rfl j_a81 ?_
  refine j_q1 (Φl := (fun r Q => j_Tr false τ M_cX12_readLine d 21 [some (.ref 75)] [] r Q)) ?_ (fun σ1 => ?_)
  · refine j_two (pT := 10) (pF := 17) (L1 := [some (.ref 75)]) (st1 := []) (fun o kT kF => ?_) (fun h1 => ?_) (fun h1 => ?_)
    · refine j_ifne (t := 17) (pc' := 10) rfl rfl rfl (fun h2 => ?_) (fun h2 => ?_)
      · exact kF h2
      · exact kT h2
    · refine j_aload_n (pc' := 11) rfl rfl rfl ?_
      refine j_callRv (pc' := 14) (ai := 221) (vs := [.ref 75]) (rest := []) rfl rfl (fun _ _ => rfl) (c_X12_readFirst  σ) (j_dd rfl hd) rfl (fun σ2 => ?_)
      refine j_goto (t := 21) rfl rfl ?_
      exact j_end (fun _ h => h)
    · refine j_aload_n (pc' := 18) rfl rfl rfl ?_
      refine j_callRv (pc' := 21) (ai := 230) (vs := [.ref 75]) (rest := []) rfl rfl (fun _ _ => rfl) (c_X12_readNext  σ) (j_dd rfl hd) rfl (fun σ3 => ?_)
      exact j_end (fun _ h => h)
  show j_J false τ M_cX12_readLine d 21 [some (.ref 75)] [] σ1 _ _
  refine j_aload_n (pc' := 22) rfl rfl rfl ?_
  refine j_callTi (pc' := 25) (ai := 212) (vs := [.ref 75]) (rest := []) rfl rfl (fun _ _ => rfl) (c_X12_good  σ1) (j_dd rfl hd) rfl ?_
  refine j_q1 (Φl := (fun r Q => j_Tr false τ M_cX12_readLine d 41 [some (.ref 75)] [] r Q)) ?_ (fun σ4 => ?_)
  · refine j_two (pT := 36) (pF := 41) (L1 := [some (.ref 75)]) (st1 := []) (fun o kT kF => ?_) (fun h3 => ?_) (fun h3 => ?_)
    · refine j_ifeq (t := 41) (pc' := 28) rfl rfl rfl (fun h4 => ?_) (fun h4 => ?_)
      · exact kF (fun z => z.1 h4)
      · refine j_aload_n (pc' := 29) rfl rfl rfl ?_
        refine j_gfi (pc' := 32) rfl rfl j_a75 rfl ?_
        refine j_iconst (pc' := 33) (x := (3 : Int32)) rfl rfl rfl ?_
        refine j_iceq (t := 41) (pc' := 36) rfl rfl rfl (fun h5 => ?_) (fun h5 => ?_)
        · exact kF (fun z => (fun z => z h5) z.2)
        · exact kT (⟨h4, h5⟩)
    · refine j_aload_n (pc' := 37) rfl rfl rfl ?_
      refine j_iconst (pc' := 38) (x := (1 : Int32)) rfl rfl rfl ?_
      refine j_callRv (pc' := 41) (ai := 213) (vs := [.ref 75, .int (1 : Int32)]) (rest := []) rfl rfl (fun _ _ => rfl) (c_X12_errs (1 : Int32) σ1) (j_dd rfl hd) rfl (fun σ5 => ?_)
      exact j_end (fun _ h => h)
    · exact j_end (fun _ h => h)
  show j_J false τ M_cX12_readLine d 41 [some (.ref 75)] [] σ4 _ _
  refine j_aload_n (pc' := 42) rfl rfl rfl ?_
  refine j_callTi (pc' := 45) (ai := 212) (vs := [.ref 75]) (rest := []) rfl rfl (fun _ _ => rfl) (c_X12_good  σ4) (j_dd rfl hd) rfl ?_
  refine j_q1 (Φl := (fun r Q => j_Tr false τ M_cX12_readLine d 52 [some (.ref 75)] [] r Q)) ?_ (fun σ6 => ?_)
  · refine j_two (pT := 48) (pF := 52) (L1 := [some (.ref 75)]) (st1 := []) (fun o kT kF => ?_) (fun h6 => ?_) (fun h6 => ?_)
    · refine j_ifeq (t := 52) (pc' := 48) rfl rfl rfl (fun h7 => ?_) (fun h7 => ?_)
      · exact kF (fun z => z h7)
      · exact kT h7
    · refine j_aload_n (pc' := 49) rfl rfl rfl ?_
      refine j_callRv (pc' := 52) (ai := 211) (vs := [.ref 75]) (rest := []) rfl rfl (fun _ _ => rfl) (c_X12_advance  σ4) (j_dd rfl hd) rfl (fun σ7 => ?_)
      exact j_end (fun _ h => h)
    · exact j_end (fun _ h => h)
  show j_J false τ M_cX12_readLine d 52 [some (.ref 75)] [] σ6 _ _
  refine j_aload_n (pc' := 53) rfl rfl rfl ?_
  refine j_gfr (pc' := 56) (x := 81) rfl rfl j_a75 rfl rfl ?_
  refine j_bipush (pc' := 58) (x := (9 : Int32)) rfl rfl rfl ?_
  refine j_dup2 (pc' := 59) rfl rfl rfl rfl ?_
  refine j_iald (pc' := 60) rfl rfl j_a81 ?_
  refine j_iconst (pc' := 61) (x := (1 : Int32)) rfl rfl rfl ?_
  refine j_iadd (pc' := 62) rfl rfl ?_
  refine j_iast (pc' := 63) rfl rfl j_a81 (fun σ8 => ?_)
  exact j_ret rfl rfl rfl (fun _ h => h)

noncomputable def p_X12_board_30 : Nat → Int32 → j_G → Option j_G
  | 0, _, _ => none
  | n + 1, l1, σ =>
    if l1 < (116 : Int32) then (j_ix l1 116 (
    j_lt (j_si σ 81 (l1).toNatClampNeg (0 : Int32)) fun σ1 =>
    p_X12_board_30 n (l1 + (1 : Int32)) σ1)) else (some σ)

noncomputable def p_X12_board_53 : Nat → j_G → Option j_G
  | 0, _ => none
  | n + 1, σ =>
    if (¬ (f_X12_good σ) = 0) ∧ (¬ (σ.1 75 10) = 0) then (j_b1 (f_X12_readLine σ) fun σ1 =>
    p_X12_board_53 n σ1) else (some σ)

noncomputable def p_X12_board_86 : Nat → Int32 → j_G → Option j_G
  | 0, _, _ => none
  | n + 1, l1, σ =>
    if l1 < (116 : Int32) then (j_ix l1 116 (
    j_ix l1 116 (
    j_lt (j_si σ 76 (l1).toNatClampNeg (σ.1 81 (l1).toNatClampNeg)) fun σ1 =>
    p_X12_board_86 n (l1 + (1 : Int32)) σ1))) else (some σ)

noncomputable def f_X12_board (σ : j_G) : Option (Int32 × j_G) :=
  j_lt (j_si σ 75 7 (σ.1 75 5)) fun σ1 =>
  j_lt (j_si σ1 75 5 (0 : Int32)) fun σ2 =>
  j_lt (j_si σ2 75 8 (0 : Int32)) fun σ3 =>
  j_lt (j_si σ3 75 12 (0 : Int32)) fun σ4 =>
  j_lt (j_si σ4 75 13 (-1 : Int32)) fun σ5 =>
  j_b1 (p_X12_board_30 j_F (0 : Int32) σ5) fun σ6 =>
  j_b1 (f_X12_advance σ6) fun σ7 =>
  j_b1 (p_X12_board_53 j_F σ7) fun σ8 =>
  if (f_X12_good σ8) = 0 then (some ((-4 : Int32), σ8)) else (j_b1 (p_X12_board_86 j_F (0 : Int32) σ8) fun σ9 =>
  j_ix (9 : Int32) 116 (
  some ((σ9.1 76 ((9 : Int32)).toNatClampNeg), σ9)))
theorem l_X12_board_30 {d : Nat} (hd : 8 ≤ d) (τ : j_G) : ∀ (n : Nat) (l1 : Int32) (σ : j_G), j_J false τ M_cX12_board d 30 [some (.ref 75), some (.int l1)] [] σ (p_X12_board_30 n l1 σ) (fun r Q => j_Tr false τ M_cX12_board d 49 [some (.ref 75), none] [] r Q) := by
  intro n
  induction n with
  | zero => intro l1 σ; exact j_none
  | succ n ih =>
    intro l1 σ
    unfold p_X12_board_30
    refine j_iload_n (pc' := 31) rfl rfl rfl ?_
    refine j_bipush (pc' := 33) (x := (116 : Int32)) rfl rfl rfl ?_
    refine j_two (pT := 36) (pF := 49) (L1 := [some (.ref 75), some (.int l1)]) (st1 := []) (fun o kT kF => ?_) (fun h1 => ?_) (fun h1 => ?_)
    · refine j_icge (t := 49) (pc' := 36) rfl rfl rfl (fun h2 => ?_) (fun h2 => ?_)
      · exact kF h2
      · exact kT h2
    · refine j_aload_n (pc' := 37) rfl rfl rfl ?_
      refine j_gfr (pc' := 40) (x := 81) rfl rfl j_a75 rfl rfl ?_
      refine j_iload_n (pc' := 41) rfl rfl rfl ?_
      refine j_iconst (pc' := 42) (x := (0 : Int32)) rfl rfl rfl ?_
      refine j_iast (pc' := 43) rfl rfl j_a81 (fun σ1 => ?_)
      refine j_iincx (pc' := 46) (y := (1 : Int32)) (L' := [some (.ref 75), some (.int (l1 + (1 : Int32)))]) rfl rfl rfl rfl rfl ?_
      refine j_goto (t := 30) rfl rfl ?_
      exact ih (l1 + (1 : Int32)) σ1
    · refine j_wk [true, false] (L' := [some (.ref 75), none]) rfl ?_
      exact j_end (fun _ h => h)

theorem l_X12_board_53 {d : Nat} (hd : 8 ≤ d) (τ : j_G) : ∀ (n : Nat) (σ : j_G), j_J false τ M_cX12_board d 53 [some (.ref 75), none] [] σ (p_X12_board_53 n σ) (fun r Q => j_Tr false τ M_cX12_board d 74 [some (.ref 75), none] [] r Q) := by
  intro n
  induction n with
  | zero => intro σ; exact j_none
  | succ n ih =>
    intro σ
    unfold p_X12_board_53
    refine j_aload_n (pc' := 54) rfl rfl rfl ?_
    refine j_callTi (pc' := 57) (ai := 212) (vs := [.ref 75]) (rest := []) rfl rfl (fun _ _ => rfl) (c_X12_good  σ) (j_dd rfl hd) rfl ?_
    refine j_two (pT := 67) (pF := 74) (L1 := [some (.ref 75), none]) (st1 := []) (fun o kT kF => ?_) (fun h1 => ?_) (fun h1 => ?_)
    · refine j_ifeq (t := 74) (pc' := 60) rfl rfl rfl (fun h2 => ?_) (fun h2 => ?_)
      · exact kF (fun z => z.1 h2)
      · refine j_aload_n (pc' := 61) rfl rfl rfl ?_
        refine j_gfi (pc' := 64) rfl rfl j_a75 rfl ?_
        refine j_ifeq (t := 74) (pc' := 67) rfl rfl rfl (fun h3 => ?_) (fun h3 => ?_)
        · exact kF (fun z => (fun z => z h3) z.2)
        · exact kT (⟨h2, h3⟩)
    · refine j_aload_n (pc' := 68) rfl rfl rfl ?_
      refine j_callRv (pc' := 71) (ai := 231) (vs := [.ref 75]) (rest := []) rfl rfl (fun _ _ => rfl) (c_X12_readLine  σ) (j_dd rfl hd) rfl (fun σ1 => ?_)
      refine j_goto (t := 53) rfl rfl ?_
      exact ih σ1
    · exact j_end (fun _ h => h)

theorem l_X12_board_86 {d : Nat} (hd : 8 ≤ d) (τ : j_G) : ∀ (n : Nat) (l1 : Int32) (σ : j_G), j_J false τ M_cX12_board d 86 [some (.ref 75), some (.int l1)] [] σ (p_X12_board_86 n l1 σ) (fun r Q => j_Tr false τ M_cX12_board d 110 [some (.ref 75), none] [] r Q) := by
  intro n
  induction n with
  | zero => intro l1 σ; exact j_none
  | succ n ih =>
    intro l1 σ
    unfold p_X12_board_86
    refine j_iload_n (pc' := 87) rfl rfl rfl ?_
    refine j_bipush (pc' := 89) (x := (116 : Int32)) rfl rfl rfl ?_
    refine j_two (pT := 92) (pF := 110) (L1 := [some (.ref 75), some (.int l1)]) (st1 := []) (fun o kT kF => ?_) (fun h1 => ?_) (fun h1 => ?_)
    · refine j_icge (t := 110) (pc' := 92) rfl rfl rfl (fun h2 => ?_) (fun h2 => ?_)
      · exact kF h2
      · exact kT h2
    · refine j_aload_n (pc' := 93) rfl rfl rfl ?_
      refine j_gfr (pc' := 96) (x := 76) rfl rfl j_a75 rfl rfl ?_
      refine j_iload_n (pc' := 97) rfl rfl rfl ?_
      refine j_aload_n (pc' := 98) rfl rfl rfl ?_
      refine j_gfr (pc' := 101) (x := 81) rfl rfl j_a75 rfl rfl ?_
      refine j_iload_n (pc' := 102) rfl rfl rfl ?_
      refine j_iald (pc' := 103) rfl rfl j_a81 ?_
      refine j_iast (pc' := 104) rfl rfl j_a76 (fun σ1 => ?_)
      refine j_iincx (pc' := 107) (y := (1 : Int32)) (L' := [some (.ref 75), some (.int (l1 + (1 : Int32)))]) rfl rfl rfl rfl rfl ?_
      refine j_goto (t := 86) rfl rfl ?_
      exact ih (l1 + (1 : Int32)) σ1
    · refine j_wk [true, false] (L' := [some (.ref 75), none]) rfl ?_
      exact j_end (fun _ h => h)

theorem c_X12_board (σ : j_G) : j_K false 8 232 [.ref 75] σ (f_X12_board σ) j_Ri := by
  refine j_mkK (M := M_cX12_board) (L := [some (.ref 75), none]) (m := 1) t_232 rfl (j_rcvO j_a75 rfl) rfl (fun d hd τ => ?_)
  unfold f_X12_board
  refine j_aload_n (pc' := 1) rfl rfl rfl ?_
  refine j_aload_n (pc' := 2) rfl rfl rfl ?_
  refine j_gfi (pc' := 5) rfl rfl j_a75 rfl ?_
  refine j_pfi (pc' := 8) rfl rfl j_a75 rfl rfl (fun σ1 => ?_)
  refine j_aload_n (pc' := 9) rfl rfl rfl ?_
  refine j_iconst (pc' := 10) (x := (0 : Int32)) rfl rfl rfl ?_
  refine j_pfi (pc' := 13) rfl rfl j_a75 rfl rfl (fun σ2 => ?_)
  refine j_aload_n (pc' := 14) rfl rfl rfl ?_
  refine j_iconst (pc' := 15) (x := (0 : Int32)) rfl rfl rfl ?_
  refine j_pfi (pc' := 18) rfl rfl j_a75 rfl rfl (fun σ3 => ?_)
  refine j_aload_n (pc' := 19) rfl rfl rfl ?_
  refine j_iconst (pc' := 20) (x := (0 : Int32)) rfl rfl rfl ?_
  refine j_pfi (pc' := 23) rfl rfl j_a75 rfl rfl (fun σ4 => ?_)
  refine j_aload_n (pc' := 24) rfl rfl rfl ?_
  refine j_iconst (pc' := 25) (x := (-1 : Int32)) rfl rfl rfl ?_
  refine j_pfi (pc' := 28) rfl rfl j_a75 rfl rfl (fun σ5 => ?_)
  refine j_iconst (pc' := 29) (x := (0 : Int32)) rfl rfl rfl ?_
  refine j_istore_n (pc' := 30) (L' := [some (.ref 75), some (.int (0 : Int32))]) rfl rfl rfl ?_
  refine j_q1 (l_X12_board_30 hd τ j_F (0 : Int32) σ5) (fun σ6 => ?_)
  show j_J false τ M_cX12_board d 49 [some (.ref 75), none] [] σ6 _ _
  refine j_aload_n (pc' := 50) rfl rfl rfl ?_
  refine j_callRv (pc' := 53) (ai := 211) (vs := [.ref 75]) (rest := []) rfl rfl (fun _ _ => rfl) (c_X12_advance  σ6) (j_dd rfl hd) rfl (fun σ7 => ?_)
  refine j_q1 (l_X12_board_53 hd τ j_F σ7) (fun σ8 => ?_)
  show j_J false τ M_cX12_board d 74 [some (.ref 75), none] [] σ8 _ _
  refine j_aload_n (pc' := 75) rfl rfl rfl ?_
  refine j_callTi (pc' := 78) (ai := 212) (vs := [.ref 75]) (rest := []) rfl rfl (fun _ _ => rfl) (c_X12_good  σ8) (j_dd rfl hd) rfl ?_
  refine j_two (pT := 81) (pF := 84) (L1 := [some (.ref 75), none]) (st1 := []) (fun o kT kF => ?_) (fun h1 => ?_) (fun h1 => ?_)
  · refine j_ifne (t := 84) (pc' := 81) rfl rfl rfl (fun h2 => ?_) (fun h2 => ?_)
    · exact kF h2
    · exact kT h2
  · refine j_bipush (pc' := 83) (x := (-4 : Int32)) rfl rfl rfl ?_
    exact j_ret rfl rfl rfl (fun _ h => h)
  · refine j_iconst (pc' := 85) (x := (0 : Int32)) rfl rfl rfl ?_
    refine j_istore_n (pc' := 86) (L' := [some (.ref 75), some (.int (0 : Int32))]) rfl rfl rfl ?_
    refine j_q1 (l_X12_board_86 hd τ j_F (0 : Int32) σ8) (fun σ9 => ?_)
    show j_J false τ M_cX12_board d 110 [some (.ref 75), none] [] σ9 _ _
    refine j_aload_n (pc' := 111) rfl rfl rfl ?_
    refine j_gfr (pc' := 114) (x := 76) rfl rfl j_a75 rfl rfl ?_
    refine j_bipush (pc' := 116) (x := (9 : Int32)) rfl rfl rfl ?_
    refine j_iald (pc' := 117) rfl rfl j_a76 ?_
    exact j_ret rfl rfl rfl (fun _ h => h)

noncomputable def f_X11_fault (l1 : Int32) (σ : j_G) : Int32 :=
  if l1 = 0 then ((σ.1 10 1)) else
  if l1 = 1 then ((σ.1 10 2)) else
  ((-1 : Int32))
theorem c_X11_fault (l1 : Int32) (σ : j_G) : j_K true 0 115 [.ref 0, .int l1] σ (some (f_X11_fault l1 σ)) (j_Pi σ) := by
  refine j_mkK (M := M_cX11_fault) (L := [some (.ref 0), some (.int l1)]) (m := 0) t_115 rfl (j_rcvO j_a0 rfl) rfl (fun d hd τ => ?_)
  unfold f_X11_fault
  refine j_iload_n (pc' := 1) rfl rfl rfl ?_
  refine j_splT (k := (0 : Int32)) (fun h1 => ?_) (fun h1 => ?_)
  · refine j_sw (t := 28) h1 rfl rfl (fun _ _ => rfl) ?_
    refine j_aload_n (pc' := 29) rfl rfl rfl ?_
    refine j_gfr (pc' := 32) (x := 10) rfl rfl j_a0 rfl rfl ?_
    refine j_gfi (pc' := 35) rfl rfl j_a10 rfl ?_
    exact j_ret rfl rfl rfl (fun _ h => h)
  refine j_splT (k := (1 : Int32)) (fun h2 => ?_) (fun h2 => ?_)
  · refine j_sw (t := 36) h2 rfl rfl (fun _ _ => rfl) ?_
    refine j_aload_n (pc' := 37) rfl rfl rfl ?_
    refine j_gfr (pc' := 40) (x := 10) rfl rfl j_a0 rfl rfl ?_
    refine j_gfi (pc' := 43) rfl rfl j_a10 rfl ?_
    exact j_ret rfl rfl rfl (fun _ h => h)
  refine j_lsd (t := 44) rfl (by decide) (by simp [Op.lookupswitch.offset, j_ne (0) (by decide) h1, (j_ne (0) (by decide) h1).symm, j_ne (1) (by decide) h2, (j_ne (1) (by decide) h2).symm]) rfl ?_
  refine j_iconst (pc' := 45) (x := (-1 : Int32)) rfl rfl rfl ?_
  exact j_ret rfl rfl rfl (fun _ h => h)

noncomputable def f_X12_fault (l1 : Int32) (σ : j_G) : Int32 :=
  if l1 = 0 then ((σ.1 75 12)) else (if l1 = (1 : Int32) then ((σ.1 75 13)) else ((-1 : Int32)))
theorem c_X12_fault (l1 : Int32) (σ : j_G) : j_K false 0 219 [.ref 75, .int l1] σ (some (f_X12_fault l1 σ)) (j_Pi σ) := by
  refine j_mkK (M := M_cX12_fault) (L := [some (.ref 75), some (.int l1)]) (m := 0) t_219 rfl (j_rcvO j_a75 rfl) rfl (fun d hd τ => ?_)
  unfold f_X12_fault
  refine j_iload_n (pc' := 1) rfl rfl rfl ?_
  refine j_twoT (pT := 4) (pF := 11) (L1 := [some (.ref 75), some (.int l1)]) (st1 := []) (fun o kT kF => ?_) (fun h3 => ?_) (fun h3 => ?_)
  · refine j_ifne (t := 11) (pc' := 4) rfl rfl rfl (fun h4 => ?_) (fun h4 => ?_)
    · exact kF h4
    · exact kT h4
  · refine j_aload_n (pc' := 5) rfl rfl rfl ?_
    refine j_gfi (pc' := 8) rfl rfl j_a75 rfl ?_
    refine j_goto (t := 24) rfl rfl ?_
    exact j_ret rfl rfl rfl (fun _ h => h)
  · refine j_iload_n (pc' := 12) rfl rfl rfl ?_
    refine j_iconst (pc' := 13) (x := (1 : Int32)) rfl rfl rfl ?_
    refine j_twoT (pT := 16) (pF := 23) (L1 := [some (.ref 75), some (.int l1)]) (st1 := []) (fun o kT kF => ?_) (fun h1 => ?_) (fun h1 => ?_)
    · refine j_icne (t := 23) (pc' := 16) rfl rfl rfl (fun h2 => ?_) (fun h2 => ?_)
      · exact kF h2
      · exact kT h2
    · refine j_aload_n (pc' := 17) rfl rfl rfl ?_
      refine j_gfi (pc' := 20) rfl rfl j_a75 rfl ?_
      refine j_goto (t := 24) rfl rfl ?_
      exact j_ret rfl rfl rfl (fun _ h => h)
    · refine j_iconst (pc' := 24) (x := (-1 : Int32)) rfl rfl rfl ?_
      exact j_ret rfl rfl rfl (fun _ h => h)

noncomputable def f_X3_has (l1 : Int32) (σ : j_G) : Int32 :=
  if (¬ l1 < 0) ∧ (l1 < (σ.1 5 0)) then ((1 : Int32)) else ((0 : Int32))

theorem b_X3_has (l1 : Int32) (σ : j_G) : f_X3_has l1 σ = 0 ∨ f_X3_has l1 σ = 1 := by
  unfold f_X3_has
  repeat' split
  all_goals first | exact Or.inl rfl | exact Or.inr rfl
theorem c_X3_has (l1 : Int32) (σ : j_G) : j_K true 0 31 [.ref 5, .int l1] σ (some (f_X3_has l1 σ)) (j_Pi σ) := by
  refine j_mkK (M := M_cX3_has) (L := [some (.ref 5), some (.int l1)]) (m := 0) t_31 rfl (j_rcvO j_a5 rfl) rfl (fun d hd τ => ?_)
  unfold f_X3_has
  refine j_iload_n (pc' := 1) rfl rfl rfl ?_
  refine j_twoT (pT := 12) (pF := 16) (L1 := [some (.ref 5), some (.int l1)]) (st1 := []) (fun o kT kF => ?_) (fun h1 => ?_) (fun h1 => ?_)
  · refine j_iflt (t := 16) (pc' := 4) rfl rfl rfl (fun h2 => ?_) (fun h2 => ?_)
    · exact kF (fun z => z.1 h2)
    · refine j_iload_n (pc' := 5) rfl rfl rfl ?_
      refine j_aload_n (pc' := 6) rfl rfl rfl ?_
      refine j_gfi (pc' := 9) rfl rfl j_a5 rfl ?_
      refine j_icge (t := 16) (pc' := 12) rfl rfl rfl (fun h3 => ?_) (fun h3 => ?_)
      · exact kF (fun z => (h3) z.2)
      · exact kT (⟨h2, h3⟩)
  · refine j_iconst (pc' := 13) (x := (1 : Int32)) rfl rfl rfl ?_
    refine j_goto (t := 17) rfl rfl ?_
    exact j_ret rfl rfl rfl (fun _ h => h)
  · refine j_iconst (pc' := 17) (x := (0 : Int32)) rfl rfl rfl ?_
    exact j_ret rfl rfl rfl (fun _ h => h)

noncomputable def f_X11_drum (l1 : Int32) (l2 : Int32) (σ : j_G) : Option Int32 :=
  if (f_X3_has l1 σ) = 0 then (some (-2 : Int32)) else (if l2 = 0 then (j_ix l1 24 (
  some (σ.1 6 (l1).toNatClampNeg))) else
  if l2 = 1 then (j_ix l1 24 (
  some (σ.1 7 (l1).toNatClampNeg))) else
  if l2 = 2 then (j_ix l1 24 (
  some (σ.1 8 (l1).toNatClampNeg))) else
  (some (-2 : Int32)))
theorem c_X11_drum (l1 : Int32) (l2 : Int32) (σ : j_G) : j_K true 1 116 [.ref 0, .int l1, .int l2] σ (f_X11_drum l1 l2 σ) (j_Pi σ) := by
  refine j_mkK (M := M_cX11_drum) (L := [some (.ref 0), some (.int l1), some (.int l2)]) (m := 0) t_116 rfl (j_rcvO j_a0 rfl) rfl (fun d hd τ => ?_)
  unfold f_X11_drum
  refine j_aload_n (pc' := 1) rfl rfl rfl ?_
  refine j_gfr (pc' := 4) (x := 1) rfl rfl j_a0 rfl rfl ?_
  refine j_gfr (pc' := 7) (x := 5) rfl rfl j_a1 rfl rfl ?_
  refine j_iload_n (pc' := 8) rfl rfl rfl ?_
  refine j_callTi (pc' := 11) (ai := 31) (vs := [.ref 5, .int l1]) (rest := []) rfl rfl (fun _ _ => rfl) (c_X3_has l1 σ) (j_dd rfl hd) rfl ?_
  refine j_two (pT := 14) (pF := 17) (L1 := [some (.ref 0), some (.int l1), some (.int l2)]) (st1 := []) (fun o kT kF => ?_) (fun h4 => ?_) (fun h4 => ?_)
  · refine j_ifne (t := 17) (pc' := 14) rfl rfl rfl (fun h5 => ?_) (fun h5 => ?_)
    · exact kF h5
    · exact kT h5
  · refine j_bipush (pc' := 16) (x := (-2 : Int32)) rfl rfl rfl ?_
    exact j_ret rfl rfl rfl (fun _ h => h)
  · refine j_iload_n (pc' := 18) rfl rfl rfl ?_
    refine j_spl (k := (0 : Int32)) (fun h1 => ?_) (fun h1 => ?_)
    · refine j_sw (t := 44) h1 rfl rfl (fun _ _ => rfl) ?_
      refine j_aload_n (pc' := 45) rfl rfl rfl ?_
      refine j_gfr (pc' := 48) (x := 1) rfl rfl j_a0 rfl rfl ?_
      refine j_gfr (pc' := 51) (x := 5) rfl rfl j_a1 rfl rfl ?_
      refine j_gfr (pc' := 54) (x := 6) rfl rfl j_a5 rfl rfl ?_
      refine j_iload_n (pc' := 55) rfl rfl rfl ?_
      refine j_iald (pc' := 56) rfl rfl j_a6 ?_
      exact j_ret rfl rfl rfl (fun _ h => h)
    refine j_spl (k := (1 : Int32)) (fun h2 => ?_) (fun h2 => ?_)
    · refine j_sw (t := 57) h2 rfl rfl (fun _ _ => rfl) ?_
      refine j_aload_n (pc' := 58) rfl rfl rfl ?_
      refine j_gfr (pc' := 61) (x := 1) rfl rfl j_a0 rfl rfl ?_
      refine j_gfr (pc' := 64) (x := 5) rfl rfl j_a1 rfl rfl ?_
      refine j_gfr (pc' := 67) (x := 7) rfl rfl j_a5 rfl rfl ?_
      refine j_iload_n (pc' := 68) rfl rfl rfl ?_
      refine j_iald (pc' := 69) rfl rfl j_a7 ?_
      exact j_ret rfl rfl rfl (fun _ h => h)
    refine j_spl (k := (2 : Int32)) (fun h3 => ?_) (fun h3 => ?_)
    · refine j_sw (t := 70) h3 rfl rfl (fun _ _ => rfl) ?_
      refine j_aload_n (pc' := 71) rfl rfl rfl ?_
      refine j_gfr (pc' := 74) (x := 1) rfl rfl j_a0 rfl rfl ?_
      refine j_gfr (pc' := 77) (x := 5) rfl rfl j_a1 rfl rfl ?_
      refine j_gfr (pc' := 80) (x := 8) rfl rfl j_a5 rfl rfl ?_
      refine j_iload_n (pc' := 81) rfl rfl rfl ?_
      refine j_iald (pc' := 82) rfl rfl j_a8 ?_
      exact j_ret rfl rfl rfl (fun _ h => h)
    have eh1 := j_ne (0) (by decide) h1
    have eh2 := j_ne (1) (by decide) h2
    have eh3 := j_ne (2) (by decide) h3
    refine j_tsd (t := 83) rfl (by omega) rfl ?_
    refine j_bipush (pc' := 85) (x := (-2 : Int32)) rfl rfl rfl ?_
    exact j_ret rfl rfl rfl (fun _ h => h)

noncomputable def f_X12_isComing (l1 : Int32) (σ : j_G) : Option Int32 :=
  j_ix (5 : Int32) 116 (
  j_bo (f_X12_in (l1).toInt64 (0 : Int64) (((σ.1 76 ((5 : Int32)).toNatClampNeg) - (1 : Int32))).toInt64) (
  some (f_X12_in (l1).toInt64 (0 : Int64) (((σ.1 76 ((5 : Int32)).toNatClampNeg) - (1 : Int32))).toInt64)))
theorem c_X12_isComing (l1 : Int32) (σ : j_G) : j_K false 1 204 [.ref 75, .int l1] σ (f_X12_isComing l1 σ) (j_Pi σ) := by
  refine j_mkK (M := M_cX12_isComing) (L := [some (.ref 75), some (.int l1)]) (m := 0) t_204 rfl (j_rcvO j_a75 rfl) rfl (fun d hd τ => ?_)
  unfold f_X12_isComing
  refine j_iload_n (pc' := 1) rfl rfl rfl ?_
  refine j_i2l (pc' := 2) rfl rfl ?_
  refine j_lconst (pc' := 3) (x := (0 : Int64)) rfl rfl rfl ?_
  refine j_aload_n (pc' := 4) rfl rfl rfl ?_
  refine j_gfr (pc' := 7) (x := 76) rfl rfl j_a75 rfl rfl ?_
  refine j_iconst (pc' := 8) (x := (5 : Int32)) rfl rfl rfl ?_
  refine j_iald (pc' := 9) rfl rfl j_a76 ?_
  refine j_iconst (pc' := 10) (x := (1 : Int32)) rfl rfl rfl ?_
  refine j_isub (pc' := 11) rfl rfl ?_
  refine j_i2l (pc' := 12) rfl rfl ?_
  refine j_callTi (pc' := 15) (ai := 196) (vs := [.long (l1).toInt64, .long (0 : Int64), .long (((σ.1 76 ((5 : Int32)).toNatClampNeg) - (1 : Int32))).toInt64]) (rest := []) rfl rfl (fun _ _ => rfl) (c_X12_in (l1).toInt64 (0 : Int64) (((σ.1 76 ((5 : Int32)).toNatClampNeg) - (1 : Int32))).toInt64 σ) (j_dd rfl hd) rfl ?_
  refine j_boJ (fun h1 => ?_)
  exact j_retb rfl rfl h1 (fun _ h => h)

noncomputable def f_X12_ofComing (l1 : Int32) (l2 : Int32) (σ : j_G) : Option Int32 :=
  j_ix (((24 : Int32) + ((3 : Int32) * l1)) + l2) 116 (
  some (σ.1 76 ((((24 : Int32) + ((3 : Int32) * l1)) + l2)).toNatClampNeg))
theorem c_X12_ofComing (l1 : Int32) (l2 : Int32) (σ : j_G) : j_K false 0 206 [.ref 75, .int l1, .int l2] σ (f_X12_ofComing l1 l2 σ) (j_Pi σ) := by
  refine j_mkK (M := M_cX12_ofComing) (L := [some (.ref 75), some (.int l1), some (.int l2)]) (m := 0) t_206 rfl (j_rcvO j_a75 rfl) rfl (fun d hd τ => ?_)
  unfold f_X12_ofComing
  refine j_aload_n (pc' := 1) rfl rfl rfl ?_
  refine j_gfr (pc' := 4) (x := 76) rfl rfl j_a75 rfl rfl ?_
  refine j_bipush (pc' := 6) (x := (24 : Int32)) rfl rfl rfl ?_
  refine j_iconst (pc' := 7) (x := (3 : Int32)) rfl rfl rfl ?_
  refine j_iload_n (pc' := 8) rfl rfl rfl ?_
  refine j_imul (pc' := 9) rfl rfl ?_
  refine j_iadd (pc' := 10) rfl rfl ?_
  refine j_iload_n (pc' := 11) rfl rfl rfl ?_
  refine j_iadd (pc' := 12) rfl rfl ?_
  refine j_iald (pc' := 13) rfl rfl j_a76 ?_
  exact j_ret rfl rfl rfl (fun _ h => h)

noncomputable def f_X12_drum (l1 : Int32) (l2 : Int32) (σ : j_G) : Option Int32 :=
  j_b1 (f_X12_isComing l1 σ) fun v1 =>
  if (¬ v1 = 0) ∧ (¬ (f_X12_in (l2).toInt64 (0 : Int64) (2 : Int64)) = 0) then (j_b1 (f_X12_ofComing l1 l2 σ) fun v2 =>
  some v2) else (some (-2 : Int32))
theorem c_X12_drum (l1 : Int32) (l2 : Int32) (σ : j_G) : j_K false 2 239 [.ref 75, .int l1, .int l2] σ (f_X12_drum l1 l2 σ) (j_Pi σ) := by
  refine j_mkK (M := M_cX12_drum) (L := [some (.ref 75), some (.int l1), some (.int l2)]) (m := 0) t_239 rfl (j_rcvO j_a75 rfl) rfl (fun d hd τ => ?_)
  unfold f_X12_drum
  refine j_aload_n (pc' := 1) rfl rfl rfl ?_
  refine j_iload_n (pc' := 2) rfl rfl rfl ?_
  refine j_callPi (pc' := 5) (ai := 204) (vs := [.ref 75, .int l1]) (rest := []) rfl rfl (fun _ _ => rfl) (c_X12_isComing l1 σ) (j_dd rfl hd) rfl (fun v1 => ?_)
  refine j_two (pT := 20) (pF := 29) (L1 := [some (.ref 75), some (.int l1), some (.int l2)]) (st1 := []) (fun o kT kF => ?_) (fun h1 => ?_) (fun h1 => ?_)
  · refine j_ifeq (t := 29) (pc' := 8) rfl rfl rfl (fun h2 => ?_) (fun h2 => ?_)
    · exact kF (fun z => z.1 h2)
    · refine j_iload_n (pc' := 9) rfl rfl rfl ?_
      refine j_i2l (pc' := 10) rfl rfl ?_
      refine j_lconst (pc' := 11) (x := (0 : Int64)) rfl rfl rfl ?_
      refine j_ldc2_w (pc' := 14) (x := (2 : Int64)) rfl rfl rfl ?_
      refine j_callTi (pc' := 17) (ai := 196) (vs := [.long (l2).toInt64, .long (0 : Int64), .long (2 : Int64)]) (rest := []) rfl rfl (fun _ _ => rfl) (c_X12_in (l2).toInt64 (0 : Int64) (2 : Int64) σ) (j_dd rfl hd) rfl ?_
      refine j_ifeq (t := 29) (pc' := 20) rfl rfl rfl (fun h3 => ?_) (fun h3 => ?_)
      · exact kF (fun z => (fun z => z h3) z.2)
      · exact kT (⟨h2, h3⟩)
  · refine j_aload_n (pc' := 21) rfl rfl rfl ?_
    refine j_iload_n (pc' := 22) rfl rfl rfl ?_
    refine j_iload_n (pc' := 23) rfl rfl rfl ?_
    refine j_callPi (pc' := 26) (ai := 206) (vs := [.ref 75, .int l1, .int l2]) (rest := []) rfl rfl (fun _ _ => rfl) (c_X12_ofComing l1 l2 σ) (j_dd rfl hd) rfl (fun v2 => ?_)
    refine j_goto (t := 31) rfl rfl ?_
    exact j_ret rfl rfl rfl (fun _ h => h)
  · refine j_bipush (pc' := 31) (x := (-2 : Int32)) rfl rfl rfl ?_
    exact j_ret rfl rfl rfl (fun _ h => h)

noncomputable def f_X2_isPlayer (l1 : Int32) (σ : j_G) : Int32 :=
  if (¬ l1 < 0) ∧ (l1 < (σ.1 1 7)) then ((1 : Int32)) else ((0 : Int32))

theorem b_X2_isPlayer (l1 : Int32) (σ : j_G) : f_X2_isPlayer l1 σ = 0 ∨ f_X2_isPlayer l1 σ = 1 := by
  unfold f_X2_isPlayer
  repeat' split
  all_goals first | exact Or.inl rfl | exact Or.inr rfl
theorem c_X2_isPlayer (l1 : Int32) (σ : j_G) : j_K true 0 15 [.ref 1, .int l1] σ (some (f_X2_isPlayer l1 σ)) (j_Pi σ) := by
  refine j_mkK (M := M_cX2_isPlayer) (L := [some (.ref 1), some (.int l1)]) (m := 0) t_15 rfl (j_rcvO j_a1 rfl) rfl (fun d hd τ => ?_)
  unfold f_X2_isPlayer
  refine j_iload_n (pc' := 1) rfl rfl rfl ?_
  refine j_twoT (pT := 12) (pF := 16) (L1 := [some (.ref 1), some (.int l1)]) (st1 := []) (fun o kT kF => ?_) (fun h1 => ?_) (fun h1 => ?_)
  · refine j_iflt (t := 16) (pc' := 4) rfl rfl rfl (fun h2 => ?_) (fun h2 => ?_)
    · exact kF (fun z => z.1 h2)
    · refine j_iload_n (pc' := 5) rfl rfl rfl ?_
      refine j_aload_n (pc' := 6) rfl rfl rfl ?_
      refine j_gfi (pc' := 9) rfl rfl j_a1 rfl ?_
      refine j_icge (t := 16) (pc' := 12) rfl rfl rfl (fun h3 => ?_) (fun h3 => ?_)
      · exact kF (fun z => (h3) z.2)
      · exact kT (⟨h2, h3⟩)
  · refine j_iconst (pc' := 13) (x := (1 : Int32)) rfl rfl rfl ?_
    refine j_goto (t := 17) rfl rfl ?_
    exact j_ret rfl rfl rfl (fun _ h => h)
  · refine j_iconst (pc' := 17) (x := (0 : Int32)) rfl rfl rfl ?_
    exact j_ret rfl rfl rfl (fun _ h => h)

noncomputable def f_X2_trait (l1 : Int32) (l2 : Int32) (σ : j_G) : Option Int32 :=
  j_lt ((l1 * (5 : Int32)) + l2) fun v1 =>
  if (¬ v1 < 0) ∧ (v1 < (20 : Int32)) then (j_ix v1 20 (
  some (σ.1 4 (v1).toNatClampNeg))) else (some (0 : Int32))
theorem c_X2_trait (l1 : Int32) (l2 : Int32) (σ : j_G) : j_K true 0 24 [.ref 1, .int l1, .int l2] σ (f_X2_trait l1 l2 σ) (j_Pi σ) := by
  refine j_mkK (M := M_cX2_trait) (L := [some (.ref 1), some (.int l1), some (.int l2), none]) (m := 1) t_24 rfl (j_rcvO j_a1 rfl) rfl (fun d hd τ => ?_)
  unfold f_X2_trait
  refine j_iload_n (pc' := 1) rfl rfl rfl ?_
  refine j_iconst (pc' := 2) (x := (5 : Int32)) rfl rfl rfl ?_
  refine j_imul (pc' := 3) rfl rfl ?_
  refine j_iload_n (pc' := 4) rfl rfl rfl ?_
  refine j_iadd (pc' := 5) rfl rfl ?_
  refine j_leti (fun v1 => ?_)
  refine j_istore_n (pc' := 6) (L' := [some (.ref 1), some (.int l1), some (.int l2), some (.int v1)]) rfl rfl rfl ?_
  refine j_iload_n (pc' := 7) rfl rfl rfl ?_
  refine j_two (pT := 19) (pF := 28) (L1 := [some (.ref 1), some (.int l1), some (.int l2), some (.int v1)]) (st1 := []) (fun o kT kF => ?_) (fun h1 => ?_) (fun h1 => ?_)
  · refine j_iflt (t := 28) (pc' := 10) rfl rfl rfl (fun h2 => ?_) (fun h2 => ?_)
    · exact kF (fun z => z.1 h2)
    · refine j_iload_n (pc' := 11) rfl rfl rfl ?_
      refine j_aload_n (pc' := 12) rfl rfl rfl ?_
      refine j_gfr (pc' := 15) (x := 4) rfl rfl j_a1 rfl rfl ?_
      refine j_alen (pc' := 16) (v := (20 : Int32)) rfl rfl j_a4 rfl ?_
      refine j_icge (t := 28) (pc' := 19) rfl rfl rfl (fun h3 => ?_) (fun h3 => ?_)
      · exact kF (fun z => (h3) z.2)
      · exact kT (⟨h2, h3⟩)
  · refine j_aload_n (pc' := 20) rfl rfl rfl ?_
    refine j_gfr (pc' := 23) (x := 4) rfl rfl j_a1 rfl rfl ?_
    refine j_iload_n (pc' := 24) rfl rfl rfl ?_
    refine j_iald (pc' := 25) rfl rfl j_a4 ?_
    refine j_goto (t := 29) rfl rfl ?_
    exact j_ret rfl rfl rfl (fun _ h => h)
  · refine j_iconst (pc' := 29) (x := (0 : Int32)) rfl rfl rfl ?_
    exact j_ret rfl rfl rfl (fun _ h => h)

noncomputable def f_X11_player (l1 : Int32) (l2 : Int32) (σ : j_G) : Option Int32 :=
  if ((f_X2_isPlayer l1 σ) = 0) ∨ ((l2 < 0) ∨ (¬ l2 < (5 : Int32))) then (some (-2 : Int32)) else (j_b1 (f_X2_trait l1 l2 σ) fun v1 =>
  some v1)
theorem c_X11_player (l1 : Int32) (l2 : Int32) (σ : j_G) : j_K true 1 117 [.ref 0, .int l1, .int l2] σ (f_X11_player l1 l2 σ) (j_Pi σ) := by
  refine j_mkK (M := M_cX11_player) (L := [some (.ref 0), some (.int l1), some (.int l2)]) (m := 0) t_117 rfl (j_rcvO j_a0 rfl) rfl (fun d hd τ => ?_)
  unfold f_X11_player
  refine j_aload_n (pc' := 1) rfl rfl rfl ?_
  refine j_gfr (pc' := 4) (x := 1) rfl rfl j_a0 rfl rfl ?_
  refine j_iload_n (pc' := 5) rfl rfl rfl ?_
  refine j_callTi (pc' := 8) (ai := 15) (vs := [.ref 1, .int l1]) (rest := []) rfl rfl (fun _ _ => rfl) (c_X2_isPlayer l1 σ) (j_dd rfl hd) rfl ?_
  refine j_two (pT := 20) (pF := 23) (L1 := [some (.ref 0), some (.int l1), some (.int l2)]) (st1 := []) (fun o kT kF => ?_) (fun h1 => ?_) (fun h1 => ?_)
  · refine j_ifeq (t := 20) (pc' := 11) rfl rfl rfl (fun h2 => ?_) (fun h2 => ?_)
    · exact kT (Or.inl h2)
    · refine j_iload_n (pc' := 12) rfl rfl rfl ?_
      refine j_iflt (t := 20) (pc' := 15) rfl rfl rfl (fun h3 => ?_) (fun h3 => ?_)
      · exact kT (Or.inr (Or.inl h3))
      · refine j_iload_n (pc' := 16) rfl rfl rfl ?_
        refine j_iconst (pc' := 17) (x := (5 : Int32)) rfl rfl rfl ?_
        refine j_iclt (t := 23) (pc' := 20) rfl rfl rfl (fun h4 => ?_) (fun h4 => ?_)
        · exact kF (fun z => z.elim h2 (fun z => z.elim h3 (fun z => z h4)))
        · exact kT (Or.inr (Or.inr (h4)))
  · refine j_bipush (pc' := 22) (x := (-2 : Int32)) rfl rfl rfl ?_
    exact j_ret rfl rfl rfl (fun _ h => h)
  · refine j_aload_n (pc' := 24) rfl rfl rfl ?_
    refine j_gfr (pc' := 27) (x := 1) rfl rfl j_a0 rfl rfl ?_
    refine j_iload_n (pc' := 28) rfl rfl rfl ?_
    refine j_iload_n (pc' := 29) rfl rfl rfl ?_
    refine j_callPi (pc' := 32) (ai := 24) (vs := [.ref 1, .int l1, .int l2]) (rest := []) rfl rfl (fun _ _ => rfl) (c_X2_trait l1 l2 σ) (j_dd rfl hd) rfl (fun v1 => ?_)
    exact j_ret rfl rfl rfl (fun _ h => h)

noncomputable def f_X12_isPlayer (l1 : Int32) (σ : j_G) : Option Int32 :=
  j_ix (6 : Int32) 116 (
  j_bo (f_X12_in (l1).toInt64 (0 : Int64) (((σ.1 76 ((6 : Int32)).toNatClampNeg) - (1 : Int32))).toInt64) (
  some (f_X12_in (l1).toInt64 (0 : Int64) (((σ.1 76 ((6 : Int32)).toNatClampNeg) - (1 : Int32))).toInt64)))
theorem c_X12_isPlayer (l1 : Int32) (σ : j_G) : j_K false 1 205 [.ref 75, .int l1] σ (f_X12_isPlayer l1 σ) (j_Pi σ) := by
  refine j_mkK (M := M_cX12_isPlayer) (L := [some (.ref 75), some (.int l1)]) (m := 0) t_205 rfl (j_rcvO j_a75 rfl) rfl (fun d hd τ => ?_)
  unfold f_X12_isPlayer
  refine j_iload_n (pc' := 1) rfl rfl rfl ?_
  refine j_i2l (pc' := 2) rfl rfl ?_
  refine j_lconst (pc' := 3) (x := (0 : Int64)) rfl rfl rfl ?_
  refine j_aload_n (pc' := 4) rfl rfl rfl ?_
  refine j_gfr (pc' := 7) (x := 76) rfl rfl j_a75 rfl rfl ?_
  refine j_bipush (pc' := 9) (x := (6 : Int32)) rfl rfl rfl ?_
  refine j_iald (pc' := 10) rfl rfl j_a76 ?_
  refine j_iconst (pc' := 11) (x := (1 : Int32)) rfl rfl rfl ?_
  refine j_isub (pc' := 12) rfl rfl ?_
  refine j_i2l (pc' := 13) rfl rfl ?_
  refine j_callTi (pc' := 16) (ai := 196) (vs := [.long (l1).toInt64, .long (0 : Int64), .long (((σ.1 76 ((6 : Int32)).toNatClampNeg) - (1 : Int32))).toInt64]) (rest := []) rfl rfl (fun _ _ => rfl) (c_X12_in (l1).toInt64 (0 : Int64) (((σ.1 76 ((6 : Int32)).toNatClampNeg) - (1 : Int32))).toInt64 σ) (j_dd rfl hd) rfl ?_
  refine j_boJ (fun h1 => ?_)
  exact j_retb rfl rfl h1 (fun _ h => h)

noncomputable def f_X12_of (l1 : Int32) (l2 : Int32) (σ : j_G) : Option Int32 :=
  j_ix (((96 : Int32) + ((5 : Int32) * l1)) + l2) 116 (
  some (σ.1 76 ((((96 : Int32) + ((5 : Int32) * l1)) + l2)).toNatClampNeg))
theorem c_X12_of (l1 : Int32) (l2 : Int32) (σ : j_G) : j_K false 0 207 [.ref 75, .int l1, .int l2] σ (f_X12_of l1 l2 σ) (j_Pi σ) := by
  refine j_mkK (M := M_cX12_of) (L := [some (.ref 75), some (.int l1), some (.int l2)]) (m := 0) t_207 rfl (j_rcvO j_a75 rfl) rfl (fun d hd τ => ?_)
  unfold f_X12_of
  refine j_aload_n (pc' := 1) rfl rfl rfl ?_
  refine j_gfr (pc' := 4) (x := 76) rfl rfl j_a75 rfl rfl ?_
  refine j_bipush (pc' := 6) (x := (96 : Int32)) rfl rfl rfl ?_
  refine j_iconst (pc' := 7) (x := (5 : Int32)) rfl rfl rfl ?_
  refine j_iload_n (pc' := 8) rfl rfl rfl ?_
  refine j_imul (pc' := 9) rfl rfl ?_
  refine j_iadd (pc' := 10) rfl rfl ?_
  refine j_iload_n (pc' := 11) rfl rfl rfl ?_
  refine j_iadd (pc' := 12) rfl rfl ?_
  refine j_iald (pc' := 13) rfl rfl j_a76 ?_
  exact j_ret rfl rfl rfl (fun _ h => h)

noncomputable def f_X12_player (l1 : Int32) (l2 : Int32) (σ : j_G) : Option Int32 :=
  j_b1 (f_X12_isPlayer l1 σ) fun v1 =>
  if (¬ v1 = 0) ∧ (¬ (f_X12_in (l2).toInt64 (0 : Int64) (4 : Int64)) = 0) then (j_b1 (f_X12_of l1 l2 σ) fun v2 =>
  some v2) else (some (-2 : Int32))
theorem c_X12_player (l1 : Int32) (l2 : Int32) (σ : j_G) : j_K false 2 240 [.ref 75, .int l1, .int l2] σ (f_X12_player l1 l2 σ) (j_Pi σ) := by
  refine j_mkK (M := M_cX12_player) (L := [some (.ref 75), some (.int l1), some (.int l2)]) (m := 0) t_240 rfl (j_rcvO j_a75 rfl) rfl (fun d hd τ => ?_)
  unfold f_X12_player
  refine j_aload_n (pc' := 1) rfl rfl rfl ?_
  refine j_iload_n (pc' := 2) rfl rfl rfl ?_
  refine j_callPi (pc' := 5) (ai := 205) (vs := [.ref 75, .int l1]) (rest := []) rfl rfl (fun _ _ => rfl) (c_X12_isPlayer l1 σ) (j_dd rfl hd) rfl (fun v1 => ?_)
  refine j_two (pT := 20) (pF := 29) (L1 := [some (.ref 75), some (.int l1), some (.int l2)]) (st1 := []) (fun o kT kF => ?_) (fun h1 => ?_) (fun h1 => ?_)
  · refine j_ifeq (t := 29) (pc' := 8) rfl rfl rfl (fun h2 => ?_) (fun h2 => ?_)
    · exact kF (fun z => z.1 h2)
    · refine j_iload_n (pc' := 9) rfl rfl rfl ?_
      refine j_i2l (pc' := 10) rfl rfl ?_
      refine j_lconst (pc' := 11) (x := (0 : Int64)) rfl rfl rfl ?_
      refine j_ldc2_w (pc' := 14) (x := (4 : Int64)) rfl rfl rfl ?_
      refine j_callTi (pc' := 17) (ai := 196) (vs := [.long (l2).toInt64, .long (0 : Int64), .long (4 : Int64)]) (rest := []) rfl rfl (fun _ _ => rfl) (c_X12_in (l2).toInt64 (0 : Int64) (4 : Int64) σ) (j_dd rfl hd) rfl ?_
      refine j_ifeq (t := 29) (pc' := 20) rfl rfl rfl (fun h3 => ?_) (fun h3 => ?_)
      · exact kF (fun z => (fun z => z h3) z.2)
      · exact kT (⟨h2, h3⟩)
  · refine j_aload_n (pc' := 21) rfl rfl rfl ?_
    refine j_iload_n (pc' := 22) rfl rfl rfl ?_
    refine j_iload_n (pc' := 23) rfl rfl rfl ?_
    refine j_callPi (pc' := 26) (ai := 207) (vs := [.ref 75, .int l1, .int l2]) (rest := []) rfl rfl (fun _ _ => rfl) (c_X12_of l1 l2 σ) (j_dd rfl hd) rfl (fun v2 => ?_)
    refine j_goto (t := 31) rfl rfl ?_
    exact j_ret rfl rfl rfl (fun _ h => h)
  · refine j_bipush (pc' := 31) (x := (-2 : Int32)) rfl rfl rfl ?_
    exact j_ret rfl rfl rfl (fun _ h => h)

theorem c_X2_isTick_1 (l1 : Int32) (σ : j_G) : j_K true 0 14 [.ref 1, .int l1] σ (some (f_X2_isTick 1 l1 σ)) (j_Pi σ) := by
  refine j_mkK (M := M_cX2_isTick) (L := [some (.ref 1), some (.int l1)]) (m := 0) t_14 rfl (j_rcvO j_a1 rfl) rfl (fun d hd τ => ?_)
  unfold f_X2_isTick
  refine j_iload_n (pc' := 1) rfl rfl rfl ?_
  refine j_twoT (pT := 12) (pF := 16) (L1 := [some (.ref 1), some (.int l1)]) (st1 := []) (fun o kT kF => ?_) (fun h1 => ?_) (fun h1 => ?_)
  · refine j_iflt (t := 16) (pc' := 4) rfl rfl rfl (fun h2 => ?_) (fun h2 => ?_)
    · exact kF (fun z => z.1 h2)
    · refine j_iload_n (pc' := 5) rfl rfl rfl ?_
      refine j_aload_n (pc' := 6) rfl rfl rfl ?_
      refine j_gfi (pc' := 9) rfl rfl j_a1 rfl ?_
      refine j_icge (t := 16) (pc' := 12) rfl rfl rfl (fun h3 => ?_) (fun h3 => ?_)
      · exact kF (fun z => (h3) z.2)
      · exact kT (⟨h2, h3⟩)
  · refine j_iconst (pc' := 13) (x := (1 : Int32)) rfl rfl rfl ?_
    refine j_goto (t := 17) rfl rfl ?_
    exact j_ret rfl rfl rfl (fun _ h => h)
  · refine j_iconst (pc' := 17) (x := (0 : Int32)) rfl rfl rfl ?_
    exact j_ret rfl rfl rfl (fun _ h => h)

noncomputable def p_X2_stayIn_8 (l1 : Int32) (σ : j_G) : Nat → Int32 → Int32 → Int32 → Option Int32
  | 0, _, _, _ => none
  | n + 1, l2, l3, l4 =>
    if l4 < (σ.1 1 10) then (j_ix l4 6 (
    j_b2 (if ¬ l1 < (σ.1 2 (l4).toNatClampNeg) then (j_ix l4 6 (
    if l2 < (σ.1 2 (l4).toNatClampNeg) then (j_ix l4 6 (
    j_lt (σ.1 2 (l4).toNatClampNeg) fun v3 =>
    j_ix l4 6 (
    j_lt (σ.1 3 (l4).toNatClampNeg) fun v4 =>
    some (v3, v4)))) else (some (l2, l3)))) else (some (l2, l3))) fun v1 v2 =>
    p_X2_stayIn_8 l1 σ n v1 v2 (l4 + (1 : Int32)))) else (some l3)

noncomputable def f_X2_stayIn (l1 : Int32) (σ : j_G) : Option Int32 :=
  j_b1 (p_X2_stayIn_8 l1 σ j_F (-1 : Int32) (7 : Int32) (0 : Int32)) fun v1 =>
  some v1
theorem l_X2_stayIn_8 {d : Nat} (hd : 0 ≤ d) (τ : j_G) (l1 : Int32) (σ : j_G) : ∀ (n : Nat) (l2 : Int32) (l3 : Int32) (l4 : Int32), j_J true τ M_cX2_stayIn d 8 [some (.ref 1), some (.int l1), some (.int l2), some (.int l3), some (.int l4)] [] σ (p_X2_stayIn_8 l1 σ n l2 l3 l4) (fun r Q => j_Tr true τ M_cX2_stayIn d 61 [none, none, none, some (.int r), none] [] σ Q) := by
  intro n
  induction n with
  | zero => intro l2 l3 l4; exact j_none
  | succ n ih =>
    intro l2 l3 l4
    unfold p_X2_stayIn_8
    refine j_iload (pc' := 10) rfl rfl rfl ?_
    refine j_aload_n (pc' := 11) rfl rfl rfl ?_
    refine j_gfi (pc' := 14) rfl rfl j_a1 rfl ?_
    refine j_two (pT := 17) (pF := 61) (L1 := [some (.ref 1), some (.int l1), some (.int l2), some (.int l3), some (.int l4)]) (st1 := []) (fun o kT kF => ?_) (fun h5 => ?_) (fun h5 => ?_)
    · refine j_icge (t := 61) (pc' := 17) rfl rfl rfl (fun h6 => ?_) (fun h6 => ?_)
      · exact kF h6
      · exact kT h6
    · refine j_aload_n (pc' := 18) rfl rfl rfl ?_
      refine j_gfr (pc' := 21) (x := 2) rfl rfl j_a1 rfl rfl ?_
      refine j_iload (pc' := 23) rfl rfl rfl ?_
      refine j_iald (pc' := 24) rfl rfl j_a2 ?_
      refine j_iload_n (pc' := 25) rfl rfl rfl ?_
      refine j_q2 (Φl := (fun r Q => j_Tr true τ M_cX2_stayIn d 55 [some (.ref 1), some (.int l1), some (.int r.1), some (.int r.2), some (.int l4)] [] σ Q)) ?_ (fun v1 v2 => ?_)
      · refine j_two (pT := 28) (pF := 55) (L1 := [some (.ref 1), some (.int l1), some (.int l2), some (.int l3), some (.int l4)]) (st1 := []) (fun o kT kF => ?_) (fun h3 => ?_) (fun h3 => ?_)
        · refine j_icgt (t := 55) (pc' := 28) rfl rfl rfl (fun h4 => ?_) (fun h4 => ?_)
          · exact kF (fun z => z h4)
          · exact kT h4
        · refine j_aload_n (pc' := 29) rfl rfl rfl ?_
          refine j_gfr (pc' := 32) (x := 2) rfl rfl j_a1 rfl rfl ?_
          refine j_iload (pc' := 34) rfl rfl rfl ?_
          refine j_iald (pc' := 35) rfl rfl j_a2 ?_
          refine j_iload_n (pc' := 36) rfl rfl rfl ?_
          refine j_two (pT := 39) (pF := 55) (L1 := [some (.ref 1), some (.int l1), some (.int l2), some (.int l3), some (.int l4)]) (st1 := []) (fun o kT kF => ?_) (fun h1 => ?_) (fun h1 => ?_)
          · refine j_icle (t := 55) (pc' := 39) rfl rfl rfl (fun h2 => ?_) (fun h2 => ?_)
            · exact kF h2
            · exact kT h2
          · refine j_aload_n (pc' := 40) rfl rfl rfl ?_
            refine j_gfr (pc' := 43) (x := 2) rfl rfl j_a1 rfl rfl ?_
            refine j_iload (pc' := 45) rfl rfl rfl ?_
            refine j_iald (pc' := 46) rfl rfl j_a2 ?_
            refine j_leti (fun v3 => ?_)
            refine j_istore_n (pc' := 47) (L' := [some (.ref 1), some (.int l1), some (.int v3), some (.int l3), some (.int l4)]) rfl rfl rfl ?_
            refine j_aload_n (pc' := 48) rfl rfl rfl ?_
            refine j_gfr (pc' := 51) (x := 3) rfl rfl j_a1 rfl rfl ?_
            refine j_iload (pc' := 53) rfl rfl rfl ?_
            refine j_iald (pc' := 54) rfl rfl j_a3 ?_
            refine j_leti (fun v4 => ?_)
            refine j_istore_n (pc' := 55) (L' := [some (.ref 1), some (.int l1), some (.int v3), some (.int v4), some (.int l4)]) rfl rfl rfl ?_
            exact j_end (fun _ h => h)
          · exact j_end (fun _ h => h)
        · exact j_end (fun _ h => h)
      show j_J true τ M_cX2_stayIn d 55 [some (.ref 1), some (.int l1), some (.int v1), some (.int v2), some (.int l4)] [] σ _ _
      refine j_iincx (pc' := 58) (y := (1 : Int32)) (L' := [some (.ref 1), some (.int l1), some (.int v1), some (.int v2), some (.int (l4 + (1 : Int32)))]) rfl rfl rfl rfl rfl ?_
      refine j_goto (t := 8) rfl rfl ?_
      exact ih v1 v2 (l4 + (1 : Int32))
    · refine j_wk [false, false, false, true, false] (L' := [none, none, none, some (.int l3), none]) rfl ?_
      exact j_end (fun _ h => h)

theorem c_X2_stayIn (l1 : Int32) (σ : j_G) : j_K true 0 21 [.ref 1, .int l1] σ (f_X2_stayIn l1 σ) (j_Pi σ) := by
  refine j_mkK (M := M_cX2_stayIn) (L := [some (.ref 1), some (.int l1), none, none, none]) (m := 3) t_21 rfl (j_rcvO j_a1 rfl) rfl (fun d hd τ => ?_)
  unfold f_X2_stayIn
  refine j_iconst (pc' := 1) (x := (-1 : Int32)) rfl rfl rfl ?_
  refine j_istore_n (pc' := 2) (L' := [some (.ref 1), some (.int l1), some (.int (-1 : Int32)), none, none]) rfl rfl rfl ?_
  refine j_bipush (pc' := 4) (x := (7 : Int32)) rfl rfl rfl ?_
  refine j_istore_n (pc' := 5) (L' := [some (.ref 1), some (.int l1), some (.int (-1 : Int32)), some (.int (7 : Int32)), none]) rfl rfl rfl ?_
  refine j_iconst (pc' := 6) (x := (0 : Int32)) rfl rfl rfl ?_
  refine j_istore (pc' := 8) (L' := [some (.ref 1), some (.int l1), some (.int (-1 : Int32)), some (.int (7 : Int32)), some (.int (0 : Int32))]) rfl rfl rfl ?_
  refine j_q1 (l_X2_stayIn_8 hd τ l1 σ j_F (-1 : Int32) (7 : Int32) (0 : Int32)) (fun v1 => ?_)
  show j_J true τ M_cX2_stayIn d 61 [none, none, none, some (.int v1), none] [] σ _ _
  refine j_iload_n (pc' := 62) rfl rfl rfl ?_
  exact j_ret rfl rfl rfl (fun _ h => h)

