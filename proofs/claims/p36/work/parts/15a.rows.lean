/-! ROWS IN ORDER, 0 -/
set_option maxRecDepth 100000 in
theorem okX0_init : (match mtab[0]? with
  | some mi => acokB mi [[], [340], [], [], [196], [341], [], [], [196], [343], [], [], [196], [345], [], [], [196], [347], [], [], [196], [349]]
  | none => false) = true := by decide +kernel
set_option maxRecDepth 100000 in
theorem okX0_isOvertaken : (match mtab[1]? with
  | some mi => acokB mi [[], [], [], [], [], [], [], [], [341], [], [], [], [341]]
  | none => false) = true := by decide +kernel
set_option maxRecDepth 100000 in
theorem okX0_reach : (match mtab[2]? with
  | some mi => acokB mi [[], [345], [], [], [], [269], [], [], [], [], [], [], [], [], [], [], [345], [], [], [], [], [], [], [], [275], [], [], [278], [], [], [], [266], [], [], [], [], [], [281], [], [], [738, 739], [], [], [], [], [], [], [], [741], [], [], [], [], [], [341], [], [], [], [], [], [0, 743], [], [], [], [], [], [], [345], [], [], [], [], [], [343]]
  | none => false) = true := by decide +kernel
set_option maxRecDepth 100000 in
theorem okX0_moved : (match mtab[3]? with
  | some mi => acokB mi []
  | none => false) = true := by decide +kernel
set_option maxRecDepth 100000 in
theorem okX0_freeOrders : (match mtab[4]? with
  | some mi => acokB mi [[], [], [], [], [], [], [347], [], [], [], [], [], [341]]
  | none => false) = true := by decide +kernel
set_option maxRecDepth 100000 in
theorem okX0_fewestOrders : (match mtab[5]? with
  | some mi => acokB mi [[], [349], [], [757, 374], [], [349], [], [269], [], [], [], [], [], [], [], [], [], [], [], [275], [], [], [278], [], [], [], [266], [], [], [], [], [], [281], [], [], [758, 760, 18], [], [], [], [], [], [], [741], [], [], [], [], [], [341], [], [], [], [], [], [], [347], [], [], [764, 766, 19], [], [], [], [], [], [], [], [], [349], [], [], [343], [], [], [], [], [], [], [], [], [], [], [], [349], [], [], [], [], [], [], [], [], [], [], [], [], [], [], [], [], [349], [], [], [762]]
  | none => false) = true := by decide +kernel
set_option maxRecDepth 100000 in
theorem okX0_doChosen : (match mtab[6]? with
  | some mi => acokB mi [[], [], [], [], [], [], [], [], [], [], [], [349], [], [], [], [], [], [], [], [349], [], [], [], [], [], [], [], [], [349], [], [], [], [], [], [762], [], [762], [], [], [], [], [], [], [], [], [], [], [350], [], [], [], [], [], [758, 760, 18], [], [], [], [], [], [], [349]]
  | none => false) = true := by decide +kernel
set_option maxRecDepth 100000 in
theorem okX0_moveCosts : (match mtab[7]? with
  | some mi => acokB mi [[], [], [], [349], [], [], [349], [], [], [], [349], [], [], [762], [], [], [349], [], [], [349], [], [], [763], [], [349], [], [], [], [], [], [], [], [349], [], [], [349], [], [], [], [349], [], [], [762], [], [], [349], [], [], [349], [], [], [763], [], [349]]
  | none => false) = true := by decide +kernel
set_option maxRecDepth 100000 in
theorem okX0_chooseLeastRow : (match mtab[8]? with
  | some mi => acokB mi [[], [], [], [], [], [], [], [], [347], [], [], [], [], [], [347], [], [], [], [], [], [], [], [], [], [], [], [772, 774, 20], [], [], [], [347]]
  | none => false) = true := by decide +kernel
set_option maxRecDepth 100000 in
theorem okX0_leastChoice : (match mtab[9]? with
  | some mi => acokB mi [[], [], [], [], [], [347], [], [], [], [], [], [], [776, 754, 755]]
  | none => false) = true := by decide +kernel
set_option maxRecDepth 100000 in
theorem okX1_init : (match mtab[10]? with
  | some mi => acokB mi [[], [311], [], [], [312], [315], [], [], [312], [319], [], [], [334], [321], [], [], [], [], [], [], [315], [], [312, 260, 93], [], [0, 262], [], [], [], [], [], [], [], [], [], [319], [], [312, 260, 93], [], [0, 262]]
  | none => false) = true := by decide +kernel
set_option maxRecDepth 100000 in
theorem okX1_remember : (match mtab[11]? with
  | some mi => acokB mi [[], [315], [], [316], [], [317], [], [], [], [], [], [620, 621, 622], [], [317], [], [], [], [], [317], [], [], [317], [], [], [], [316], [], [], [], [], [316]]
  | none => false) = true := by decide +kernel
set_option maxRecDepth 100000 in
theorem okX1_bringBack : (match mtab[12]? with
  | some mi => acokB mi [[], [317], [], [], [], [], [], [317], [], [], [317], [], [], [315], [], [316], [], [317], [], [], [], [], [620, 621, 622]]
  | none => false) = true := by decide +kernel
set_option maxRecDepth 100000 in
theorem okX1_forgetAll : (match mtab[13]? with
  | some mi => acokB mi [[], [], [317], [], [], [], [], [], [], [321]]
  | none => false) = true := by decide +kernel
set_option maxRecDepth 100000 in
theorem okX2_init : (match mtab[14]? with
  | some mi => acokB mi [[], [245], [], [], [196], [248], [], [], [196], [250]]
  | none => false) = true := by decide +kernel
set_option maxRecDepth 100000 in
theorem okX2_readFrom : (match mtab[15]? with
  | some mi => acokB mi [[], [246], [], [], [], [], [], [], [], [], [], [], [127], [], [], [], [506, 471, 472], [], [], [], [], [134], [], [], [127], [], [], [], [], [], [], [], [], [507, 487, 488], [], [], [127], [], [], [508, 475, 476], [], [], [], [], [], [], [], [], [], [127], [], [], [], [127], [], [], [127], [], [248], [], [], [], [], [250], [], [], [], [], [], [509, 482, 483], [], [], [], [], [507, 487, 488], [], [], [127], [], [], [], [], [510, 495, 496], [], [], [], [], [], [], [], [], [246], [246]]
  | none => false) = true := by decide +kernel
set_option maxRecDepth 100000 in
theorem okX3_init : (match mtab[16]? with
  | some mi => acokB mi [[], [155], [], [], [165], [156]]
  | none => false) = true := by decide +kernel
set_option maxRecDepth 100000 in
theorem okX3_clear : (match mtab[17]? with
  | some mi => acokB mi [[], [], [158]]
  | none => false) = true := by decide +kernel
set_option maxRecDepth 100000 in
theorem okX3_add : (match mtab[18]? with
  | some mi => acokB mi [[], [158], [], [], [], [156], [], [158], [], [], [], [], [158], [], [], [158]]
  | none => false) = true := by decide +kernel
set_option maxRecDepth 100000 in
theorem okX3_tellOne : (match mtab[19]? with
  | some mi => acokB mi [[], [674, 675, 676], [], [], [678, 679, 680]]
  | none => false) = true := by decide +kernel
set_option maxRecDepth 100000 in
theorem okX3_tellTwo : (match mtab[20]? with
  | some mi => acokB mi [[], [674, 675, 676], [], [], [678, 679, 680], [], [], [678, 679, 680]]
  | none => false) = true := by decide +kernel
set_option maxRecDepth 100000 in
theorem okX3_tellFraction : (match mtab[21]? with
  | some mi => acokB mi [[], [], [], [], [], [], [], [], [], [], [], [], [], [], [], [], [], [], [], [], [], [], [], [], [], [], [], [], [], [], [], [], [], [], [], [], [], [], [843, 671, 672]]
  | none => false) = true := by decide +kernel
set_option maxRecDepth 100000 in
theorem okX4_init : (match mtab[22]? with
  | some mi => acokB mi [[], [202], [], [], [196], [203], [], [], [196], [207]]
  | none => false) = true := by decide +kernel
set_option maxRecDepth 100000 in
theorem okX4_add : (match mtab[23]? with
  | some mi => acokB mi [[], [204], [], [], [], [203], [], [204], [], [], [], [], [204], [], [], [204]]
  | none => false) = true := by decide +kernel
set_option maxRecDepth 100000 in
theorem okX4_work : (match mtab[24]? with
  | some mi => acokB mi [[], [], [208], [], [], [], [], [204], [], [], [203], [], [], [], [], [], [], [], [], [203], [], [], [589, 591, 7], [], [], [], [], [], [], [593, 595, 8], [], [589, 591, 7], [], [], [597, 556], [], [], [593, 595, 8], [], [], [], [], [593, 595, 8], [], [598, 599], [589, 591, 7], [], [], [], [], [], [601, 602], [589, 591, 7], [], [], [], [593, 595, 8]]
  | none => false) = true := by decide +kernel
set_option maxRecDepth 100000 in
theorem okX4_push : (match mtab[25]? with
  | some mi => acokB mi [[], [208], [], [], [], [207], [], [208], [], [], [], [], [208], [], [], [208]]
  | none => false) = true := by decide +kernel
set_option maxRecDepth 100000 in
theorem okX4_pop : (match mtab[26]? with
  | some mi => acokB mi [[], [208], [], [], [], [], [], [208], [], [], [208], [], [207], [], [208]]
  | none => false) = true := by decide +kernel
set_option maxRecDepth 100000 in
theorem okX4_valueOf : (match mtab[27]? with
  | some mi => acokB mi [[], [35], [], [173], [], [], [177], [], [], [179]]
  | none => false) = true := by decide +kernel
set_option maxRecDepth 100000 in
theorem okX4_apply : (match mtab[28]? with
  | some mi => acokB mi [[], [59]]
  | none => false) = true := by decide +kernel
set_option maxRecDepth 100000 in
theorem okX5_init : (match mtab[29]? with
  | some mi => acokB mi [[], [223], [], [], [196], [224]]
  | none => false) = true := by decide +kernel
set_option maxRecDepth 100000 in
theorem okX5_readFrom : (match mtab[30]? with
  | some mi => acokB mi [[], [], [205], [], [], [225], [], [], [226], [], [], [227], [], [], [228], [], [], [], [], [], [], [535, 482, 483], [], [], [228], [], [], [], [], [536, 538, 2], [], [], [], [], [551, 553, 4], [], [], [], [], [129], [], [], [], [], [228], [], [], [226], [], [], [129], [], [], [], [], [558, 560, 5], [], [562, 495, 496]]
  | none => false) = true := by decide +kernel
set_option maxRecDepth 100000 in
theorem okX5_takeThing : (match mtab[31]? with
  | some mi => acokB mi [[], [540, 475, 476], [], [], [0, 479], [], [], [], [], [542, 471, 472], [543, 544, 545], [], [], [228], [], [], [], [], [], [], [], [], [], [], [], [], [], [], [], [], [], [543, 544, 545], [], [], [228], [], [], [], [], [], [], [547, 549, 3], [], [], [], [], [], [226], [], [], [], [], [226], [], [], [226], [], [], [227], [], [], [226], [], [], [], [], [227], [], [], [547, 549, 3], [], [], [], [], [], [129], [], [], [129]]
  | none => false) = true := by decide +kernel
set_option maxRecDepth 100000 in
theorem okX5_takeOperator : (match mtab[32]? with
  | some mi => acokB mi [[], [540, 475, 476], [], [], [555, 556], [], [], [], [], [], [226], [], [], [], [], [558, 560, 5], [], [], [225], [], [], [225], [], [], [226], [], [], [226], [], [], [], [], [], [], [], [227], [], [226], [], [], [], [], [], [], [], [], [], [227], [], [], [], [], [], [226], [], [], [], [], [227], [], [], [], [558, 560, 5], [], [], [547, 549, 3], [], [], [228], [], [], [129], [], [], [129]]
  | none => false) = true := by decide +kernel
set_option maxRecDepth 100000 in
theorem okX5_hold : (match mtab[33]? with
  | some mi => acokB mi [[], [225], [], [], [], [224], [], [225], [], [], [], [], [225], [], [], [225]]
  | none => false) = true := by decide +kernel
set_option maxRecDepth 100000 in
theorem okX5_release : (match mtab[34]? with
  | some mi => acokB mi [[], [225], [], [], [224], [], [225], [], [], [], [555, 556], [], [], [], [], [225], [], [], [225], [], [], [224], [], [225], [], [], [543, 544, 545]]
  | none => false) = true := by decide +kernel
set_option maxRecDepth 100000 in
theorem okX5_rank : (match mtab[35]? with
  | some mi => acokB mi [[], [75]]
  | none => false) = true := by decide +kernel
set_option maxRecDepth 100000 in
theorem okX6_init : (match mtab[36]? with
  | some mi => acokB mi [[], [171], [], [], [172], [], [], [196], [181], [], [], [196], [183]]
  | none => false) = true := by decide +kernel
set_option maxRecDepth 100000 in
theorem okX6_readFrom : (match mtab[37]? with
  | some mi => acokB mi [[], [], [175], [], [], [178], [], [], [], [470, 471, 472], [172], [], [172], [], [], [], [128], [], [], [172], [], [], [], [172], [], [], [], [128], [], [], [], [], [], [], [], [], [], [], [], [485, 482, 483], [], [], [], [], [], [], [486, 487, 488], [], [], [128], [], [], [], [470, 471, 472], [], [], [], [], [], [128], [], [], [], [], [], [], [172], [], [], [128], [], [], [], [], [], [], [], [], [], [486, 487, 488], [], [], [], [], [490, 492, 0], [], [], [], [494, 495, 496]]
  | none => false) = true := by decide +kernel
set_option maxRecDepth 100000 in
theorem okX6_addPost : (match mtab[38]? with
  | some mi => acokB mi [[], [175], [], [], [], [181], [], [175], [], [], [], [183], [], [175], [], [], [], [], [175], [], [], [175], [], [], [178], [], [], [178]]
  | none => false) = true := by decide +kernel
set_option maxRecDepth 100000 in
theorem okX7_init : (match mtab[39]? with
  | some mi => acokB mi [[], [370], [], [], [196], [378], [], [], [], [371, 165], [380], [], [378], [], [373, 374]]
  | none => false) = true := by decide +kernel
set_option maxRecDepth 100000 in
theorem okX7_forgetAll : (match mtab[40]? with
  | some mi => acokB mi [[], [], [376], [], [378], [], [373, 374]]
  | none => false) = true := by decide +kernel
set_option maxRecDepth 100000 in
theorem okX7_lastStep : (match mtab[41]? with
  | some mi => acokB mi [[], [], [], [], [], [378]]
  | none => false) = true := by decide +kernel
set_option maxRecDepth 100000 in
theorem okX7_countWays : (match mtab[42]? with
  | some mi => acokB mi [[], [], [], [], [], [], [], [], [], [], [378], [], [], [], [], [], [378], [], [], [], [], [], [], [], [], [], [380], [], [], [], [], [], [], [], [], [], [], [], [], [], [], [], [907, 909, 28]]
  | none => false) = true := by decide +kernel
set_option maxRecDepth 100000 in
theorem okX7_waysBehind : (match mtab[43]? with
  | some mi => acokB mi [[], [], [], [], [], [], [], [], [], [380], [], [], [], [], [], [], [], [0, 664]]
  | none => false) = true := by decide +kernel
set_option maxRecDepth 100000 in
theorem okX7_leastOrder : (match mtab[44]? with
  | some mi => acokB mi [[], [], [], [], [], [], [380], [], [], [], [], [], [0, 664]]
  | none => false) = true := by decide +kernel
set_option maxRecDepth 100000 in
theorem okX7_possible : (match mtab[45]? with
  | some mi => acokB mi [[], [], [], [], [], [], [], [], [], [380]]
  | none => false) = true := by decide +kernel
set_option maxRecDepth 100000 in
theorem okX8_init : (match mtab[46]? with
  | some mi => acokB mi [[], [264], [], [], [268], [], [], [273], [], [], [196], [277], [], [], [196], [280], [], [], [196], [283], [], [], [196], [285]]
  | none => false) = true := by decide +kernel
set_option maxRecDepth 100000 in
theorem okX8_copyFrom : (match mtab[47]? with
  | some mi => acokB mi [[], [], [265], [265], [], [], [268], [268], [], [], [271], [271], [], [], [273], [273], [], [], [274], [274], [], [277], [], [], [277], [], [], [624], [], [280], [], [], [280], [], [], [624], [], [283], [], [], [283], [], [], [624], [], [285], [], [], [285], [], [], [624]]
  | none => false) = true := by decide +kernel
set_option maxRecDepth 100000 in
theorem okX8_gaveNow : (match mtab[48]? with
  | some mi => acokB mi [[], [273], [], [265]]
  | none => false) = true := by decide +kernel
set_option maxRecDepth 100000 in
theorem okX8_addOrder : (match mtab[49]? with
  | some mi => acokB mi [[], [274], [], [], [], [], [274], [], [], [], [], [277], [], [], [], [], [], [265], [], [], [], [], [277], [], [], [277], [], [], [], [], [], [], [280], [], [], [280], [], [], [], [], [], [], [], [], [277], [], [], [265], [], [], [], [], [280], [], [], [], [], [], [274], [], [], [274], [], [], [265], [273]]
  | none => false) = true := by decide +kernel
set_option maxRecDepth 100000 in
theorem okX8_doDueOrders : (match mtab[50]? with
  | some mi => acokB mi [[], [], [], [], [274], [], [], [277], [], [], [], [265], [], [], [], [268], [], [280], [], [], [], [0, 664], [268], [], [], [], [], [274], [], [], [274], [], [277], [], [], [277], [], [], [274], [624], [], [280], [], [], [280], [], [], [274], [624]]
  | none => false) = true := by decide +kernel
set_option maxRecDepth 100000 in
theorem okX8_laneIn : (match mtab[51]? with
  | some mi => acokB mi [[], [268], [], [], [], [], [], [274], [], [], [277], [], [], [], [265], [], [], [], [], [], [280], [], [], [], [0, 664]]
  | none => false) = true := by decide +kernel
set_option maxRecDepth 100000 in
theorem okX8_eat : (match mtab[52]? with
  | some mi => acokB mi [[], [283], [], [], [], [], [], [283], [], [], [], [], [285], [], [], [], [], [], [], [], [], [], [283]]
  | none => false) = true := by decide +kernel
set_option maxRecDepth 100000 in
theorem okX9_init : (match mtab[53]? with
  | some mi => acokB mi [[], [123], [], [], [149], [124]]
  | none => false) = true := by decide +kernel
set_option maxRecDepth 100000 in
theorem okX9_append : (match mtab[54]? with
  | some mi => acokB mi [[], [125], [], [], [], [124], [], [125], [], [], [], [], [125], [], [], [125]]
  | none => false) = true := by decide +kernel
set_option maxRecDepth 100000 in
theorem okX9_open : (match mtab[55]? with
  | some mi => acokB mi [[], [], [130], [], [], [125], [], [463], [132], [], [], [125], [], [], [], [], [], [133], [], [], [135]]
  | none => false) = true := by decide +kernel
set_option maxRecDepth 100000 in
theorem okX9_ended : (match mtab[56]? with
  | some mi => acokB mi [[], [130], [], [132]]
  | none => false) = true := by decide +kernel
set_option maxRecDepth 100000 in
theorem okX9_next : (match mtab[57]? with
  | some mi => acokB mi [[], [130], [], [], [130], [], [132], [], [], [130], [], [], [], [124], [], [130]]
  | none => false) = true := by decide +kernel
set_option maxRecDepth 100000 in
theorem okX9_take : (match mtab[58]? with
  | some mi => acokB mi [[], [474, 475, 476], [], [], [], [], [], [], [130], [], [], [130]]
  | none => false) = true := by decide +kernel
set_option maxRecDepth 100000 in
theorem okX9_takeNumber : (match mtab[59]? with
  | some mi => acokB mi [[], [], [], [], [], [], [], [], [474, 475, 476], [0, 479], [], [], [], [], [], [474, 475, 476], [], [], [], [], [], [], [130], [], [], [130], [], [], [], [], [], [], [], [133], [], [], [481, 482, 483], [], [], [], [], [135]]
  | none => false) = true := by decide +kernel
set_option maxRecDepth 100000 in
theorem okX9_faultAtEnd : (match mtab[60]? with
  | some mi => acokB mi [[], [133], [], [], [132]]
  | none => false) = true := by decide +kernel
set_option maxRecDepth 100000 in
theorem okX10_init : (match mtab[61]? with
  | some mi => acokB mi [[], [115], [], [118, 119, 87], [], [0, 121], [391], [], [150, 151, 88], [], [0, 153], [392], [], [166, 167, 89], [], [0, 169], [393], [], [166, 167, 89], [], [0, 169], [394], [], [197, 198, 90], [], [0, 200], [395], [], [197, 198, 90], [], [0, 200], [396], [], [218, 219, 91], [], [0, 221], [397], [], [240, 241, 92], [], [0, 243], [398], [], [], [196], [399], [], [], [400], [], [259, 260, 93], [], [0, 262], [401], [], [259, 260, 93], [], [0, 262], [402], [], [306, 307, 94], [], [308, 309], [403], [], [335, 336, 95], [], [0, 338], [404], [], [365, 366, 96], [], [367, 368], [405], [], [], [196], [406], [], [], [], [389, 196], [407]]
  | none => false) = true := by decide +kernel
set_option maxRecDepth 100000 in
theorem okX10_sign : (match mtab[62]? with
  | some mi => acokB mi [[], [391], [126], [], [], [], [], [], [], [], [], [], [], [], [391], [], [], [], [], [], [], [447, 448, 449], [], [], [], [391], [126]]
  | none => false) = true := by decide +kernel
set_option maxRecDepth 100000 in
theorem okX10_end : (match mtab[63]? with
  | some mi => acokB mi [[], [], [], [], [391], [126], [], [], [], [], [391], [], [126]]
  | none => false) = true := by decide +kernel
set_option maxRecDepth 100000 in
theorem okX10_ship : (match mtab[64]? with
  | some mi => acokB mi [[], [391], [], [459, 460, 461], [], [394], [], [391], [466, 467, 468], [], [], [391], [], [126], [], [], [], [], [], [], [], [], [393], [], [], [], [394], [393], [], [], [394], [], [393], [176]]
  | none => false) = true := by decide +kernel
set_option maxRecDepth 100000 in
theorem okX10_rocks : (match mtab[65]? with
  | some mi => acokB mi [[], [391], [126], [], [], [], [], [391], [], [459, 460, 461], [], [398], [247], [], [], [398], [], [391], [502, 503, 504], [], [], [391], [], [126], [], [], [], [], [], [], [], [], [398], [247]]
  | none => false) = true := by decide +kernel
set_option maxRecDepth 100000 in
theorem okX10_messes : (match mtab[66]? with
  | some mi => acokB mi [[], [391], [126], [], [], [], [], [391], [], [459, 460, 461], [], [400], [], [], [515, 517, 1], [], [], [391], [], [126], [], [], [], [], [], [], [], [], [403], [523, 524, 525], [], [400]]
  | none => false) = true := by decide +kernel
set_option maxRecDepth 100000 in
theorem okX10_rule : (match mtab[67]? with
  | some mi => acokB mi [[], [391], [126], [], [], [395], [], [206], [], [], [], [391], [], [459, 460, 461], [], [397], [], [391], [], [396], [531, 532, 533], [], [], [391], [], [126], [], [], [], [], [], [], [], [], [395], [], [], [], [396], [395], [], [], [396]]
  | none => false) = true := by decide +kernel
set_option maxRecDepth 100000 in
theorem okX10_post : (match mtab[68]? with
  | some mi => acokB mi []
  | none => false) = true := by decide +kernel
set_option maxRecDepth 100000 in
theorem okX10_rock : (match mtab[69]? with
  | some mi => acokB mi []
  | none => false) = true := by decide +kernel
set_option maxRecDepth 100000 in
theorem okX10_mess : (match mtab[70]? with
  | some mi => acokB mi []
  | none => false) = true := by decide +kernel
set_option maxRecDepth 100000 in
theorem okX10_way : (match mtab[71]? with
  | some mi => acokB mi []
  | none => false) = true := by decide +kernel
set_option maxRecDepth 100000 in
theorem okX10_sheet : (match mtab[72]? with
  | some mi => acokB mi [[], [], [], [], [], [], [], [], [], [], [], [], [], [], [], [], [], [], [], [], [], [], [], [], [], [], [], [], [], [], [400], [], [], [399], [], [], [], [], [], [], [], [], [], [], [567, 568], [], [], [570, 571], [], [], [], [], [], [399]]
  | none => false) = true := by decide +kernel
set_option maxRecDepth 100000 in
theorem okX10_delay : (match mtab[73]? with
  | some mi => acokB mi [[], [], [401], [267], [581, 583, 6]]
  | none => false) = true := by decide +kernel
set_option maxRecDepth 100000 in
theorem okX10_order : (match mtab[74]? with
  | some mi => acokB mi [[], [], [], [], [], [], [], [], [], [608, 610, 9], [], [], [], [], [], [], [403], [], [401], [616, 617, 618], [], [], [627, 629, 10]]
  | none => false) = true := by decide +kernel
set_option maxRecDepth 100000 in
theorem okX10_pass : (match mtab[75]? with
  | some mi => acokB mi [[], [], [], [], [639, 641, 11], [], [], [], [], [], [], [403], [], [401], [616, 617, 618], [], [], [], [], [643, 645, 12], [], [401], [284]]
  | none => false) = true := by decide +kernel
set_option maxRecDepth 100000 in
theorem okX10_cook : (match mtab[76]? with
  | some mi => acokB mi [[], [], [], [], [400], [], [], [], [], [], [], [], [], [], [403], [], [401], [616, 617, 618], [], [401], [284], [], [], [], [], [401], [284]]
  | none => false) = true := by decide +kernel
set_option maxRecDepth 100000 in
theorem okX10_steps : (match mtab[77]? with
  | some mi => acokB mi [[], [], [], [], [], [], [], [], [403], [], [401], [616, 617, 618], [], [401], [272], [], [], [], [], [], [], [], [], [], [], [655, 657, 13], [], [], [], [], [], [392], [], [401], [272], [], [], [], [], [], [670, 671, 672], [], [401], [270]]
  | none => false) = true := by decide +kernel
set_option maxRecDepth 100000 in
theorem okX10_voyage : (match mtab[78]? with
  | some mi => acokB mi [[], [391], [], [459, 460, 461], [], [686, 688, 14], [], [], [], [], [], [391], [], [126], [], [], [], [], [], [402], [], [401], [692, 621, 622], [], [391], [], [459, 460, 461], [], [], [], [], [], [], [], [], [], [], [], [], [391], [521, 482, 483], [], [], [693, 695, 15], [], [], [], [], [], [], [], [], [], [], [], [], [], [], [], [], [391], [], [126], [], [], [], [403], [], [402], [616, 617, 618], [], [392], [], [], [], [], [], [], [401], [272], [], [402], [272], [], [], [670, 671, 672]]
  | none => false) = true := by decide +kernel
