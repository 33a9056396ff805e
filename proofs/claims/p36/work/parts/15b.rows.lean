/-! ROWS IN ORDER, 1 -/
set_option maxRecDepth 100000 in
theorem okX10_undo : (match mtab[79]? with
  | some mi => acokB mi [[], [403], [], [401], [701, 702, 703], [], [], [403], [318]]
  | none => false) = true := by decide +kernel
set_option maxRecDepth 100000 in
theorem okX10_lane : (match mtab[80]? with
  | some mi => acokB mi [[], [], [], [], [], [], [], [], [], [], [], [], [], [398], [247], [], [], [398], [249], [], [], [], [401], [267], [], [], [], [], [], [], [], [], [], [401], [], [709, 710, 711], [], [398], [251], [], [], [], [], [], [], [], [392], [], [], [713, 714, 715], [], [401], [], [709, 710, 711]]
  | none => false) = true := by decide +kernel
set_option maxRecDepth 100000 in
theorem okX10_strikes : (match mtab[81]? with
  | some mi => acokB mi [[], [], [], [], [], [], [], [], [398], [247], [], [], [398], [249], [], [], [], [401], [267], [], [], [], [], [], [], [], [], [], [401], [], [709, 710, 711], [], [398], [251], [], [], [], [], [], [], [], [], [], [], [], [], [], [], [], [392], [], [], [713, 714, 715]]
  | none => false) = true := by decide +kernel
set_option maxRecDepth 100000 in
theorem okX10_clears : (match mtab[82]? with
  | some mi => acokB mi [[], [725, 727, 16], [], [404], [], [401], [], [730, 732, 17], [], [], [734, 735, 736], [], [], [], [], [], [], [], [], [398], [247], [], [], [398], [249], [], [], [], [401], [267], [], [], [], [], [], [], [404], [346], [], [], [573], [], [], [], [], [], [398], [251], [], [], [], [], [], [], [], [], [], [], [], [], [], [], [], [], [], [], [], [], [], [], [], [], [], [], [], [], [], [], [], [], [], [], [392], [], [], [713, 714, 715]]
  | none => false) = true := by decide +kernel
set_option maxRecDepth 100000 in
theorem okX10_plan : (match mtab[83]? with
  | some mi => acokB mi [[], [], [], [], [], [], [], [], [], [725, 727, 16], [], [404], [], [730, 732, 17], [], [749, 750, 751], [], [404], [], [401], [], [753, 754, 755], [], [], [], [], [], [], [], [404], [], [401], [], [], [768, 769, 770], [], [392], [777, 675, 676], [], [], [], [], [], [], [392], [], [404], [348], [], [], [], [778, 679, 680]]
  | none => false) = true := by decide +kernel
set_option maxRecDepth 100000 in
theorem okX10_latest : (match mtab[84]? with
  | some mi => acokB mi [[], [], [], [], [], [], [], [], [], [725, 727, 16], [], [], [], [], [], [], [], [404], [], [401], [], [], [730, 732, 17], [574], [], [], [734, 735, 736], [], [404], [346]]
  | none => false) = true := by decide +kernel
set_option maxRecDepth 100000 in
theorem okX10_lanes : (match mtab[85]? with
  | some mi => acokB mi [[], [], [], [], [], [], [], [], [725, 727, 16], [], [404], [], [401], [], [730, 732, 17], [], [], [734, 735, 736], [], [392], [], [404], [346], [], [], [787, 788], [], [713, 714, 715], [], [404], [346]]
  | none => false) = true := by decide +kernel
set_option maxRecDepth 100000 in
theorem okX10_safest : (match mtab[86]? with
  | some mi => acokB mi [[], [], [], [], [], [], [], [], [], [401], [270], [], [], [], [401], [270], [], [797, 799, 21], [], [], [], [], [], [], [], [], [], [], [], [797, 799, 21], [], [], [], [], [], [], [], [], [], [801, 803, 22], [], [], [801, 803, 22], [], [], [], [], [], [], [], [], [392], [], [], [], [], [670, 671, 672]]
  | none => false) = true := by decide +kernel
set_option maxRecDepth 100000 in
theorem okX10_late : (match mtab[87]? with
  | some mi => acokB mi [[], [], [], [], [], [], [], [], [], [725, 727, 16], [], [392], [777, 675, 676], [], [], [], [], [], [], [], [], [392], [], [404], [342], [], [], [], [778, 679, 680], [], [], [404], [], [], [812, 813, 814]]
  | none => false) = true := by decide +kernel
set_option maxRecDepth 100000 in
theorem okX10_comes : (match mtab[88]? with
  | some mi => acokB mi [[], [], [], [], [], [], [], [], [393], [174], [], [], [], [], [], [401], [267], [581, 583, 6], [], [], [], [], [], [], [], [], [], [], [], [], [], [], [], [], [], [], [], [], [393], [176], [], [], [393], [182], [], [], [], [], [], [], [], [393], [184], [], [], [], [], [], [], [], [392], [], [], [], [], [], [], [670, 671, 672]]
  | none => false) = true := by decide +kernel
set_option maxRecDepth 100000 in
theorem okX10_relay : (match mtab[89]? with
  | some mi => acokB mi [[], [], [], [], [], [], [], [], [393], [174], [], [], [], [], [], [], [], [], [], [], [], [], [], [], [], [], [], [], [], [392], [777, 675, 676], [], [], [], [], [], [], [], [], [], [], [], [], [], [], [], [574], [], [], [392], [], [], [778, 679, 680]]
  | none => false) = true := by decide +kernel
set_option maxRecDepth 100000 in
theorem okX10_fewest : (match mtab[90]? with
  | some mi => acokB mi [[], [], [], [], [], [], [], [], [], [393], [174]]
  | none => false) = true := by decide +kernel
set_option maxRecDepth 100000 in
theorem okX10_word : (match mtab[91]? with
  | some mi => acokB mi [[], [], [], [], [], [], [], [], [], [], [], [], [], [], [], [], [], [], [392], [], [], [832, 833], [838], [], [835, 836], [839, 840, 841]]
  | none => false) = true := by decide +kernel
set_option maxRecDepth 100000 in
theorem okX10_survives : (match mtab[92]? with
  | some mi => acokB mi [[], [], [], [], [], [], [], [], [], [], [], [], [], [], [], [], [], [], [], [832, 833], [848], [], [838], [], [835, 836]]
  | none => false) = true := by decide +kernel
set_option maxRecDepth 100000 in
theorem okX10_lives : (match mtab[93]? with
  | some mi => acokB mi [[], [], [], [], [], [], [400], [], [], [], [853], [], [], [], [], [], [], [], [400], [], [], [], [], [], [], [], [], [], [], [], [], [], [], [], [], [], [], [400], [], [], [], [], [], [], [854, 856, 23], [], [], [], [], [], [], [], [], [], [], [], [392], [], [], [713, 714, 715]]
  | none => false) = true := by decide +kernel
set_option maxRecDepth 100000 in
theorem okX10_shares : (match mtab[94]? with
  | some mi => acokB mi [[], [], [], [], [], [], [400], [], [], [], [], [406], [], [], [], [], [], [], [], [400], [], [], [406], [], [], [], [], [406], [], [], [], [401], [284], [], [], [], [], [399], [], [], [], [], [], [], [], [], [], [406], [], [400], [], [], [], [], [], [862, 864, 24], [], [871, 873, 26]]
  | none => false) = true := by decide +kernel
set_option maxRecDepth 100000 in
theorem okX10_fast : (match mtab[95]? with
  | some mi => acokB mi [[], [], [], [], [], [], [400], [], [], [], [], [], [400], [], [], [], [], [], [], [], [879, 881, 27], [], [], [], [], [], [], [], [], [], [], [879, 881, 27], [], [], [], [], [787, 788], [], [787, 788], [], [], [], [], [], [], [], [], [392], [], [787, 788], [], [], [], [670, 671, 672]]
  | none => false) = true := by decide +kernel
set_option maxRecDepth 100000 in
theorem okX10_seen : (match mtab[96]? with
  | some mi => acokB mi [[], [], [], [], [], [], [], [], [], [], [], [], [], [405], [379], [], [], [], [], [], [405], [379], [], [], [], [], [], [405], [377], [], [], [], [], [405], [377], [], [], [], [], [], [405], [379], [], [], [], [], [405], [], [377], [], [], [377], [], [405], [377]]
  | none => false) = true := by decide +kernel
set_option maxRecDepth 100000 in
theorem okX10_forget : (match mtab[97]? with
  | some mi => acokB mi [[], [405], [377], [], [], [405], [891, 892, 893]]
  | none => false) = true := by decide +kernel
set_option maxRecDepth 100000 in
theorem okX10_ordered : (match mtab[98]? with
  | some mi => acokB mi [[], [405], [377], [], [], [], [], [405], [899, 900, 901], [], [], [405], [], [903, 904, 905], [], [392], [777, 675, 676], [], [405], [381], [], [], [], [], [], [], [], [], [], [], [], [], [], [], [], [], [], [405], [], [], [912, 913, 914], [], [], [392], [], [], [778, 679, 680], [], [], [], [916, 664], [], [], [], [], [917], [], [], [870]]
  | none => false) = true := by decide +kernel
set_option maxRecDepth 100000 in
theorem okX10_unsure : (match mtab[99]? with
  | some mi => acokB mi [[], [405], [377], [], [], [], [], [405], [899, 900, 901], [], [], [405], [], [903, 904, 905], [], [], [405], [], [922, 923, 924], [], [], [], [], [], [], [], [], [], [], [], [], [], [], [], [], [926, 743], [], [405], [], [922, 923, 924], [], [], [], [787, 788], [], [787, 788], [], [], [], [], [], [], [], [], [392], [], [], [713, 714, 715]]
  | none => false) = true := by decide +kernel
set_option maxRecDepth 100000 in
theorem okX10_boy : (match mtab[100]? with
  | some mi => acokB mi [[], [], [], [853], [], [], [], [], [], [], [], [], [], [], [], [], [], [], [], [], [392], [], [], [931, 933, 29], [], [], [393], [174], [], [], [], [], [], [935], [713, 714, 715], [], [], [936, 938, 30]]
  | none => false) = true := by decide +kernel
set_option maxRecDepth 100000 in
theorem okX10_meets : (match mtab[101]? with
  | some mi => acokB mi [[], [], [], [], [], [], [], [], [], [393], [174], [], [], [], [], [], [], [], [], [], [], [], [], [], [], [936, 938, 30], [], [], [], [], [], [], [936, 938, 30], [], [], [392], [], [], [713, 714, 715]]
  | none => false) = true := by decide +kernel
set_option maxRecDepth 100000 in
theorem okX10_knows : (match mtab[102]? with
  | some mi => acokB mi [[], [], [], [], [], [], [], [], [], [], [], [], [], [392], [], [], [], [], [], [835, 836], [], [], [], [838], [], [], [], [835, 836], [839, 840, 841]]
  | none => false) = true := by decide +kernel
set_option maxRecDepth 100000 in
theorem okX10_mutiny : (match mtab[103]? with
  | some mi => acokB mi [[], [], [], [], [], [], [], [], [], [], [], [], [], [], [], [], [], [], [], [], [], [392], [777, 675, 676], [], [], [], [], [], [], [], [573], [], [], [], [], [], [], [573], [], [], [], [], [], [952, 953], [], [], [], [], [], [952, 953], [], [], [], [], [392], [], [], [], [], [670, 671, 672]]
  | none => false) = true := by decide +kernel
set_option maxRecDepth 100000 in
theorem okX10_chance : (match mtab[104]? with
  | some mi => acokB mi [[], [], [], [], [], [], [], [], [], [], [], [], [], [], [], [], [], [], [], [], [], [401], [267], [581, 583, 6], [], [], [392], [], [], [839, 840, 841], [], [], [392], [], [], [], [], [], [835, 836], [838], [], [835, 836], [839, 840, 841]]
  | none => false) = true := by decide +kernel
set_option maxRecDepth 100000 in
theorem okX10_voyages : (match mtab[105]? with
  | some mi => acokB mi [[], [], [], [], [], [], [], [], [], [402], [], [401], [692, 621, 622], [], [], [], [], [], [], [], [], [], [], [966], [], [], [], [], [], [], [], [], [], [], [], [], [], [], [608, 610, 9], [], [], [], [], [], [], [], [627, 629, 10], [], [], [], [655, 657, 13], [], [], [], [], [401], [272], [], [402], [272], [], [], [], [392], [], [401], [270], [], [], [], [670, 671, 672], [], [401], [], [402], [692, 621, 622]]
  | none => false) = true := by decide +kernel
set_option maxRecDepth 100000 in
theorem okX10_keep : (match mtab[106]? with
  | some mi => acokB mi [[], [], [], [], [], [], [], [], [403], [320], [], [], [], [401], [692, 621, 622], [], [403], [322]]
  | none => false) = true := by decide +kernel
set_option maxRecDepth 100000 in
theorem okX10_again : (match mtab[107]? with
  | some mi => acokB mi [[], [], [], [], [], [], [403], [322], [], [], [], [], [], [], [401], [], [403], [320], [], [], [692, 621, 622], [], [403], [], [318]]
  | none => false) = true := by decide +kernel
set_option maxRecDepth 100000 in
theorem okX10_count : (match mtab[108]? with
  | some mi => acokB mi [[], [67], [], [393], [174], [], [], [393], [176], [], [], [393], [180], [], [], [398], [247], [], [], [400], [], [], [401], [267], [], [], [401], [270], [], [], [401], [272], [], [], [401], [276], [], [], [405], [377], [], [], [403], [318], [], [], [392], [159], [], [], [391], [126]]
  | none => false) = true := by decide +kernel
set_option maxRecDepth 100000 in
theorem okX10_row : (match mtab[109]? with
  | some mi => acokB mi []
  | none => false) = true := by decide +kernel
set_option maxRecDepth 100000 in
theorem okX10_isDigit : (match mtab[110]? with
  | some mi => acokB mi []
  | none => false) = true := by decide +kernel
set_option maxRecDepth 100000 in
theorem okX10_readMesses : (match mtab[111]? with
  | some mi => acokB mi [[], [400], [], [], [], [], [], [], [], [], [], [], [391], [131], [], [], [391], [], [519, 471, 472], [], [], [], [], [], [391], [], [520, 487, 488], [], [], [391], [131], [], [], [391], [], [519, 471, 472], [], [], [], [], [], [391], [131], [], [], [401], [284], [], [], [], [], [401], [286], [], [], [], [], [399], [], [], [], [], [], [391], [521, 482, 483], [], [], [], [391], [], [520, 487, 488], [], [], [391], [131], [], [], [], [], [391], [522, 495, 496], [], [], [], [], [], [], [], [], [400], [400]]
  | none => false) = true := by decide +kernel
set_option maxRecDepth 100000 in
theorem okX10_voyageFault : (match mtab[112]? with
  | some mi => acokB mi [[], [], [], [], [], [], [391], [521, 482, 483], [], [], [391], [690, 475, 476], [], [], [391], [], [131], [], [], [131], [], [], [], [], [391], [690, 475, 476], [691, 479], [], [], [391], [131], [], [], [391], [], [131], [], [], [131], [], [], [], [], [], [], [], [], [], [], [], [], [], [], [], [], [], [391], [131], [], [], [], [], [], [], [391], [522, 495, 496]]
  | none => false) = true := by decide +kernel
set_option maxRecDepth 100000 in
theorem okX10_doVoyageSign : (match mtab[113]? with
  | some mi => acokB mi [[], [391], [690, 475, 476], [], [], [391], [], [131], [], [], [131], [], [], [], [], [391], [], [519, 471, 472], [], [], [], [], [], [639, 641, 11], [], [], [], [], [], [], [], [643, 645, 12], [], [], [], [691, 479], [], [], [], [], [], [], [], [655, 657, 13], [], [], [], [], [], [], [608, 610, 9], [], [], [], [], [], [], [], [627, 629, 10]]
  | none => false) = true := by decide +kernel
set_option maxRecDepth 100000 in
theorem okX10_put : (match mtab[114]? with
  | some mi => acokB mi [[], [], [], [573], [574]]
  | none => false) = true := by decide +kernel
set_option maxRecDepth 100000 in
theorem okX10_entry : (match mtab[115]? with
  | some mi => acokB mi []
  | none => false) = true := by decide +kernel
set_option maxRecDepth 100000 in
theorem okX10_keepOnSea : (match mtab[116]? with
  | some mi => acokB mi [[], [], [], [570, 571]]
  | none => false) = true := by decide +kernel
set_option maxRecDepth 100000 in
theorem okX10_delayAt : (match mtab[117]? with
  | some mi => acokB mi [[], [395], [206], [], [], [393], [174], [], [], [], [], [], [], [395], [], [393], [], [], [], [585, 586, 587], [], [], [], [], [570, 571]]
  | none => false) = true := by decide +kernel
set_option maxRecDepth 100000 in
theorem okX10_orderRefusal : (match mtab[118]? with
  | some mi => acokB mi [[], [401], [612, 613, 614], [], [], [], [], [401], [276]]
  | none => false) = true := by decide +kernel
set_option maxRecDepth 100000 in
theorem okX10_giveOrder : (match mtab[119]? with
  | some mi => acokB mi [[], [], [401], [267], [581, 583, 6], [], [], [401], [], [], [393], [180], [], [], [], [], [], [], [], [], [631, 632, 633]]
  | none => false) = true := by decide +kernel
set_option maxRecDepth 100000 in
theorem okX10_passRefusal : (match mtab[120]? with
  | some mi => acokB mi [[], [], [], [], [400], [], [], [], [], [], [], [], [], [], [], [], [], [], [], [], [], [], [], [], [], [], [], [], [], [], [], [], [], [], [400], [], [], [], [], [401], [284], [], [], [], [], [], [], [], [401], [284]]
  | none => false) = true := by decide +kernel
set_option maxRecDepth 100000 in
theorem okX10_moveFood : (match mtab[121]? with
  | some mi => acokB mi [[], [], [], [], [], [], [], [], [], [], [], [], [401], [284], [], [], [], [], [], [], [], [401], [284]]
  | none => false) = true := by decide +kernel
set_option maxRecDepth 100000 in
theorem okX10_goStep : (match mtab[122]? with
  | some mi => acokB mi [[], [401], [], [267], [], [], [267], [], [401], [659, 660, 661], [], [], [], [], [398], [247], [], [], [398], [249], [], [], [], [401], [267], [], [], [398], [251], [], [], [], [401], [270], [], [], [401], [], [272], [], [], [272], [], [], [], [], [], [], [], [], [400], [], [], [], [401], [], [], [399], [], [], [666, 667, 668]]
  | none => false) = true := by decide +kernel
set_option maxRecDepth 100000 in
theorem okX10_firstFree : (match mtab[123]? with
  | some mi => acokB mi [[], [401], [612, 613, 614]]
  | none => false) = true := by decide +kernel
set_option maxRecDepth 100000 in
theorem okX10_lookAhead : (match mtab[124]? with
  | some mi => acokB mi [[], [404], [], [393], [180], [], [], [], [], [], [], [], [351], [], [], [], [], [], [], [404], [342], [], [], [], [], [], [], [], [401], [267], [], [], [581, 583, 6], [], [], [], [404], [342], [], [], [], [], [], [], [], [], [], [], [404], [344], [], [729, 374], [], [], [], [], [398], [247], [], [], [398], [249], [], [], [], [401], [267], [], [], [], [], [], [], [], [], [], [404], [344], [], [], [], [], [], [398], [251]]
  | none => false) = true := by decide +kernel
set_option maxRecDepth 100000 in
theorem okX10_rocksInLane : (match mtab[125]? with
  | some mi => acokB mi [[], [], [], [], [], [], [398], [247], [], [], [398], [249], [], [], [], [401], [267], [], [], [], [398], [251]]
  | none => false) = true := by decide +kernel
set_option maxRecDepth 100000 in
theorem okX10_apart : (match mtab[126]? with
  | some mi => acokB mi [[], [], [401], [270], [], [805]]
  | none => false) = true := by decide +kernel
set_option maxRecDepth 100000 in
theorem okX10_widened : (match mtab[127]? with
  | some mi => acokB mi []
  | none => false) = true := by decide +kernel
set_option maxRecDepth 100000 in
theorem okX10_power : (match mtab[128]? with
  | some mi => acokB mi []
  | none => false) = true := by decide +kernel
set_option maxRecDepth 100000 in
theorem okX10_likelyWord : (match mtab[129]? with
  | some mi => acokB mi [[], [], [], [], [], [], [], [], [], [], [], [], [], [], [], [], [835, 836], [], [], [], [], [], [], [], [], [835, 836]]
  | none => false) = true := by decide +kernel
set_option maxRecDepth 100000 in
theorem okX10_lastsFor : (match mtab[130]? with
  | some mi => acokB mi [[], [], [], [], [], [], [], [], [], [], [], [401], [284], [], [], [], [], [], [], [399], [], [], [], [], [], [], [], [], [853]]
  | none => false) = true := by decide +kernel
set_option maxRecDepth 100000 in
theorem okX10_foodLeft : (match mtab[131]? with
  | some mi => acokB mi [[], [], [], [], [], [], [400], [], [], [], [401], [284], [], [], [], [], [], [], [], [], [], [], [], [], [], [], [], [399]]
  | none => false) = true := by decide +kernel
set_option maxRecDepth 100000 in
theorem okX10_weighPassing : (match mtab[132]? with
  | some mi => acokB mi [[], [400], [], [], [], [], [], [], [], [], [], [400], [], [], [407], [], [], [], [], [406], [], [], [], [], [], [406], [], [], [], [805], [], [], [], [400], [], [], [], [], [407], [], [], [], [], [], [], [], [], [], [], [406], [], [], [866, 868, 25]]
  | none => false) = true := by decide +kernel
set_option maxRecDepth 100000 in
theorem okX10_leastPassing : (match mtab[133]? with
  | some mi => acokB mi [[870], [], [], [], [], [], [400], [], [], [406], [], [], [], [], [], [406], [], [], [], [406], [], [400], [], [], [], [], [407], [], [], [], [], [573]]
  | none => false) = true := by decide +kernel
set_option maxRecDepth 100000 in
theorem okX10_choosePassing : (match mtab[134]? with
  | some mi => acokB mi [[], [392], [777, 675, 676], [], [], [], [], [], [], [], [], [400], [], [], [], [], [], [], [866, 868, 25], [], [], [], [], [], [], [], [400], [], [], [406], [], [], [], [], [], [406], [], [], [], [406], [], [400], [], [], [], [407], [], [], [], [], [], [], [], [406], [], [], [], [], [], [], [], [], [392], [], [406], [], [], [], [], [], [], [], [778, 679, 680], [], [], [406], [], [], [], [], [], [], [805]]
  | none => false) = true := by decide +kernel
set_option maxRecDepth 100000 in
theorem okX10_lap : (match mtab[135]? with
  | some mi => acokB mi [[], [], [], [393], [174], [], [], [574]]
  | none => false) = true := by decide +kernel
set_option maxRecDepth 100000 in
theorem okX10_cellAfter : (match mtab[136]? with
  | some mi => acokB mi [[], [], [931, 933, 29], [], [], [], [], [393], [174], [], [], [], [], [931, 933, 29]]
  | none => false) = true := by decide +kernel
set_option maxRecDepth 100000 in
theorem okX10_holdsThen : (match mtab[137]? with
  | some mi => acokB mi []
  | none => false) = true := by decide +kernel
set_option maxRecDepth 100000 in
theorem okX10_wantsAnother : (match mtab[138]? with
  | some mi => acokB mi [[], [], [], [], [955, 956], [], [], [], [], [], [], [573], [], [], [], [], [], [955, 956]]
  | none => false) = true := by decide +kernel
set_option maxRecDepth 100000 in
theorem okX11_init : (match mtab[139]? with
  | some mi => acokB mi [[], [1081], [], [], [165], [1084], [], [], [1085], [], [], [196], [1091], [], [], [334], [1092], [], [], [196], [1093], [], [], [196], [1094], [], [], [196], [1095], [], [], [196], [], [], [], [], [], [], [], [], [], [], [], [], [], [], [], [], [], [], [], [], [], [], [], [], [], [], [], [], [], [], [], [], [], [], [], [], [], [], [], [], [], [], [], [], [], [], [], [], [], [], [], [], [], [], [], [], [], [], [], [], [], [], [], [], [], [], [], [], [], [], [], [], [], [], [], [], [], [], [], [], [], [], [], [], [], [], [], [], [], [], [], [], [], [], [], [], [], [], [], [], [], [], [], [], [], [], [], [], [], [], [], [], [], [], [], [], [], [], [], [], [], [], [], [], [], [], [], [], [], [], [], [], [], [], [], [], [], [], [], [], [], [], [], [], [], [], [], [], [], [], [], [], [], [], [], [], [], [], [], [], [], [], [], [], [], [], [], [], [], [], [], [], [], [], [], [], [], [], [], [], [], [], [], [], [], [], [], [], [], [], [], [], [], [], [], [], [], [], [], [], [], [], [], [], [], [], [], [], [], [], [], [], [], [], [], [], [], [], [], [], [], [], [], [], [], [], [], [], [1096], [], [], [196], [1097], [], [], [196], [1098], [], [], [196], [1103], [], [], [196], [1105], [], [], [196], [1106], [], [], [196], [1109], [], [], [196], [1110], [], [], [196], [1112], [], [], [196], [1115], [], [], [196], [1116], [], [], [196], [1118], [], [], [196], [1119], [], [], [196], [1120], [], [], [196], [1123], [], [], [196], [1125], [], [], [196], [1126], [], [], [196], [1127], [], [], [334], [1128], [], [], [334], [1129], [], [], [334], [1132], [], [], [196], [1133], [], [], [196], [1134]]
  | none => false) = true := by decide +kernel
