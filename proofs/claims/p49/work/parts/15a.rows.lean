section
/-! ROWS IN ORDER, 0 -/
set_option maxRecDepth 100000 in
theorem okX0_init : (match mtab[0]? with
  | some mi => acokB mi [[], [2015], [], [], [1111], [2016], [], [], [1111], [2018], [], [], [1111], [2020], [], [], [1111], [2022], [], [], [1111], [2024]]
  | none => false) = true := by decide +kernel
set_option maxRecDepth 100000 in
theorem okX0_isOvertaken : (match mtab[1]? with
  | some mi => acokB mi [[], [], [], [], [], [], [], [], [2016], [], [], [], [2016]]
  | none => false) = true := by decide +kernel
set_option maxRecDepth 100000 in
theorem okX0_reach : (match mtab[2]? with
  | some mi => acokB mi [[], [2020], [], [], [], [1184], [], [], [], [], [], [], [], [], [], [], [2020], [], [], [], [], [], [], [], [1190], [], [], [1193], [], [], [], [1181], [], [], [], [], [], [1196], [], [], [3173, 3174], [], [], [], [], [], [], [], [3176], [], [], [], [], [], [2016], [], [], [], [], [], [0, 3178], [], [], [], [], [], [], [2020], [], [], [], [], [], [2018]]
  | none => false) = true := by decide +kernel
set_option maxRecDepth 100000 in
theorem okX0_moved : (match mtab[3]? with
  | some mi => acokB mi []
  | none => false) = true := by decide +kernel
set_option maxRecDepth 100000 in
theorem okX0_freeOrders : (match mtab[4]? with
  | some mi => acokB mi [[], [], [], [], [], [], [2022], [], [], [], [], [], [2016]]
  | none => false) = true := by decide +kernel
set_option maxRecDepth 100000 in
theorem okX0_fewestOrders : (match mtab[5]? with
  | some mi => acokB mi [[], [2024], [], [3192, 2049], [], [2024], [], [1184], [], [], [], [], [], [], [], [], [], [], [], [1190], [], [], [1193], [], [], [], [1181], [], [], [], [], [], [1196], [], [], [3193, 3195, 18], [], [], [], [], [], [], [3176], [], [], [], [], [], [2016], [], [], [], [], [], [], [2022], [], [], [3199, 3201, 19], [], [], [], [], [], [], [], [], [2024], [], [], [2018], [], [], [], [], [], [], [], [], [], [], [], [2024], [], [], [], [], [], [], [], [], [], [], [], [], [], [], [], [], [2024], [], [], [3197]]
  | none => false) = true := by decide +kernel
set_option maxRecDepth 100000 in
theorem okX0_doChosen : (match mtab[6]? with
  | some mi => acokB mi [[], [], [], [], [], [], [], [], [], [], [], [2024], [], [], [], [], [], [], [], [2024], [], [], [], [], [], [], [], [], [2024], [], [], [], [], [], [3197], [], [3197], [], [], [], [], [], [], [], [], [], [], [2025], [], [], [], [], [], [3193, 3195, 18], [], [], [], [], [], [], [2024]]
  | none => false) = true := by decide +kernel
set_option maxRecDepth 100000 in
theorem okX0_moveCosts : (match mtab[7]? with
  | some mi => acokB mi [[], [], [], [2024], [], [], [2024], [], [], [], [2024], [], [], [3197], [], [], [2024], [], [], [2024], [], [], [3198], [], [2024], [], [], [], [], [], [], [], [2024], [], [], [2024], [], [], [], [2024], [], [], [3197], [], [], [2024], [], [], [2024], [], [], [3198], [], [2024]]
  | none => false) = true := by decide +kernel
set_option maxRecDepth 100000 in
theorem okX0_chooseLeastRow : (match mtab[8]? with
  | some mi => acokB mi [[], [], [], [], [], [], [], [], [2022], [], [], [], [], [], [2022], [], [], [], [], [], [], [], [], [], [], [], [3207, 3209, 20], [], [], [], [2022]]
  | none => false) = true := by decide +kernel
set_option maxRecDepth 100000 in
theorem okX0_leastChoice : (match mtab[9]? with
  | some mi => acokB mi [[], [], [], [], [], [2022], [], [], [], [], [], [], [3211, 3189, 3190]]
  | none => false) = true := by decide +kernel
set_option maxRecDepth 100000 in
theorem okX1_init : (match mtab[10]? with
  | some mi => acokB mi [[], [1226], [], [], [1227], [1230], [], [], [1227], [1234], [], [], [2009], [1236], [], [], [], [], [], [], [1230], [], [1227, 1175, 1008], [], [0, 1177], [], [], [], [], [], [], [], [], [], [1234], [], [1227, 1175, 1008], [], [0, 1177]]
  | none => false) = true := by decide +kernel
set_option maxRecDepth 100000 in
theorem okX1_remember : (match mtab[11]? with
  | some mi => acokB mi [[], [1230], [], [1231], [], [1232], [], [], [], [], [], [3055, 3056, 3057], [], [1232], [], [], [], [], [1232], [], [], [1232], [], [], [], [1231], [], [], [], [], [1231]]
  | none => false) = true := by decide +kernel
set_option maxRecDepth 100000 in
theorem okX1_bringBack : (match mtab[12]? with
  | some mi => acokB mi [[], [1232], [], [], [], [], [], [1232], [], [], [1232], [], [], [1230], [], [1231], [], [1232], [], [], [], [], [3055, 3056, 3057]]
  | none => false) = true := by decide +kernel
set_option maxRecDepth 100000 in
theorem okX1_forgetAll : (match mtab[13]? with
  | some mi => acokB mi [[], [], [1232], [], [], [], [], [], [], [1236]]
  | none => false) = true := by decide +kernel
set_option maxRecDepth 100000 in
theorem okX2_init : (match mtab[14]? with
  | some mi => acokB mi [[], [1160], [], [], [1111], [1163], [], [], [1111], [1165]]
  | none => false) = true := by decide +kernel
set_option maxRecDepth 100000 in
theorem okX2_readFrom : (match mtab[15]? with
  | some mi => acokB mi [[], [1161], [], [], [], [], [], [], [], [], [], [], [1042], [], [], [], [2181, 2146, 2147], [], [], [], [], [1049], [], [], [1042], [], [], [], [], [], [], [], [], [2182, 2162, 2163], [], [], [1042], [], [], [2183, 2150, 2151], [], [], [], [], [], [], [], [], [], [1042], [], [], [], [1042], [], [], [1042], [], [1163], [], [], [], [], [1165], [], [], [], [], [], [2184, 2157, 2158], [], [], [], [], [2182, 2162, 2163], [], [], [1042], [], [], [], [], [2185, 2170, 2171], [], [], [], [], [], [], [], [], [1161], [1161]]
  | none => false) = true := by decide +kernel
set_option maxRecDepth 100000 in
theorem okX3_init : (match mtab[16]? with
  | some mi => acokB mi [[], [1070], [], [], [1080], [1071]]
  | none => false) = true := by decide +kernel
set_option maxRecDepth 100000 in
theorem okX3_clear : (match mtab[17]? with
  | some mi => acokB mi [[], [], [1073]]
  | none => false) = true := by decide +kernel
set_option maxRecDepth 100000 in
theorem okX3_add : (match mtab[18]? with
  | some mi => acokB mi [[], [1073], [], [], [], [1071], [], [1073], [], [], [], [], [1073], [], [], [1073]]
  | none => false) = true := by decide +kernel
set_option maxRecDepth 100000 in
theorem okX3_tellOne : (match mtab[19]? with
  | some mi => acokB mi [[], [3109, 3110, 3111], [], [], [3113, 3114, 3115]]
  | none => false) = true := by decide +kernel
set_option maxRecDepth 100000 in
theorem okX3_tellTwo : (match mtab[20]? with
  | some mi => acokB mi [[], [3109, 3110, 3111], [], [], [3113, 3114, 3115], [], [], [3113, 3114, 3115]]
  | none => false) = true := by decide +kernel
set_option maxRecDepth 100000 in
theorem okX3_tellFraction : (match mtab[21]? with
  | some mi => acokB mi [[], [], [], [], [], [], [], [], [], [], [], [], [], [], [], [], [], [], [], [], [], [], [], [], [], [], [], [], [], [], [], [], [], [], [], [], [], [], [4038, 3106, 3107]]
  | none => false) = true := by decide +kernel
set_option maxRecDepth 100000 in
theorem okX4_init : (match mtab[22]? with
  | some mi => acokB mi [[], [1117], [], [], [1111], [1118], [], [], [1111], [1122]]
  | none => false) = true := by decide +kernel
set_option maxRecDepth 100000 in
theorem okX4_add : (match mtab[23]? with
  | some mi => acokB mi [[], [1119], [], [], [], [1118], [], [1119], [], [], [], [], [1119], [], [], [1119]]
  | none => false) = true := by decide +kernel
set_option maxRecDepth 100000 in
theorem okX4_work : (match mtab[24]? with
  | some mi => acokB mi [[], [], [1123], [], [], [], [], [1119], [], [], [1118], [], [], [], [], [], [], [], [], [1118], [], [], [3024, 3026, 7], [], [], [], [], [], [], [3028, 3030, 8], [], [3024, 3026, 7], [], [], [3032, 2231], [], [], [3028, 3030, 8], [], [], [], [], [3028, 3030, 8], [], [3033, 3034], [3024, 3026, 7], [], [], [], [], [], [3036, 3037], [3024, 3026, 7], [], [], [], [3028, 3030, 8]]
  | none => false) = true := by decide +kernel
set_option maxRecDepth 100000 in
theorem okX4_push : (match mtab[25]? with
  | some mi => acokB mi [[], [1123], [], [], [], [1122], [], [1123], [], [], [], [], [1123], [], [], [1123]]
  | none => false) = true := by decide +kernel
set_option maxRecDepth 100000 in
theorem okX4_pop : (match mtab[26]? with
  | some mi => acokB mi [[], [1123], [], [], [], [], [], [1123], [], [], [1123], [], [1122], [], [1123]]
  | none => false) = true := by decide +kernel
set_option maxRecDepth 100000 in
theorem okX4_valueOf : (match mtab[27]? with
  | some mi => acokB mi [[], [35], [], [1088], [], [], [1092], [], [], [1094]]
  | none => false) = true := by decide +kernel
set_option maxRecDepth 100000 in
theorem okX4_apply : (match mtab[28]? with
  | some mi => acokB mi [[], [59]]
  | none => false) = true := by decide +kernel
set_option maxRecDepth 100000 in
theorem okX5_init : (match mtab[29]? with
  | some mi => acokB mi [[], [1138], [], [], [1111], [1139]]
  | none => false) = true := by decide +kernel
set_option maxRecDepth 100000 in
theorem okX5_readFrom : (match mtab[30]? with
  | some mi => acokB mi [[], [], [1120], [], [], [1140], [], [], [1141], [], [], [1142], [], [], [1143], [], [], [], [], [], [], [2210, 2157, 2158], [], [], [1143], [], [], [], [], [2211, 2213, 2], [], [], [], [], [2226, 2228, 4], [], [], [], [], [1044], [], [], [], [], [1143], [], [], [1141], [], [], [1044], [], [], [], [], [2233, 2235, 5], [], [2237, 2170, 2171]]
  | none => false) = true := by decide +kernel
set_option maxRecDepth 100000 in
theorem okX5_takeThing : (match mtab[31]? with
  | some mi => acokB mi [[], [2215, 2150, 2151], [], [], [0, 2154], [], [], [], [], [2217, 2146, 2147], [2218, 2219, 2220], [], [], [1143], [], [], [], [], [], [], [], [], [], [], [], [], [], [], [], [], [], [2218, 2219, 2220], [], [], [1143], [], [], [], [], [], [], [2222, 2224, 3], [], [], [], [], [], [1141], [], [], [], [], [1141], [], [], [1141], [], [], [1142], [], [], [1141], [], [], [], [], [1142], [], [], [2222, 2224, 3], [], [], [], [], [], [1044], [], [], [1044]]
  | none => false) = true := by decide +kernel
set_option maxRecDepth 100000 in
theorem okX5_takeOperator : (match mtab[32]? with
  | some mi => acokB mi [[], [2215, 2150, 2151], [], [], [2230, 2231], [], [], [], [], [], [1141], [], [], [], [], [2233, 2235, 5], [], [], [1140], [], [], [1140], [], [], [1141], [], [], [1141], [], [], [], [], [], [], [], [1142], [], [1141], [], [], [], [], [], [], [], [], [], [1142], [], [], [], [], [], [1141], [], [], [], [], [1142], [], [], [], [2233, 2235, 5], [], [], [2222, 2224, 3], [], [], [1143], [], [], [1044], [], [], [1044]]
  | none => false) = true := by decide +kernel
set_option maxRecDepth 100000 in
theorem okX5_hold : (match mtab[33]? with
  | some mi => acokB mi [[], [1140], [], [], [], [1139], [], [1140], [], [], [], [], [1140], [], [], [1140]]
  | none => false) = true := by decide +kernel
set_option maxRecDepth 100000 in
theorem okX5_release : (match mtab[34]? with
  | some mi => acokB mi [[], [1140], [], [], [1139], [], [1140], [], [], [], [2230, 2231], [], [], [], [], [1140], [], [], [1140], [], [], [1139], [], [1140], [], [], [2218, 2219, 2220]]
  | none => false) = true := by decide +kernel
set_option maxRecDepth 100000 in
theorem okX5_rank : (match mtab[35]? with
  | some mi => acokB mi [[], [75]]
  | none => false) = true := by decide +kernel
set_option maxRecDepth 100000 in
theorem okX6_init : (match mtab[36]? with
  | some mi => acokB mi [[], [1086], [], [], [1087], [], [], [1111], [1096], [], [], [1111], [1098]]
  | none => false) = true := by decide +kernel
set_option maxRecDepth 100000 in
theorem okX6_readFrom : (match mtab[37]? with
  | some mi => acokB mi [[], [], [1090], [], [], [1093], [], [], [], [2145, 2146, 2147], [1087], [], [1087], [], [], [], [1043], [], [], [1087], [], [], [], [1087], [], [], [], [1043], [], [], [], [], [], [], [], [], [], [], [], [2160, 2157, 2158], [], [], [], [], [], [], [2161, 2162, 2163], [], [], [1043], [], [], [], [2145, 2146, 2147], [], [], [], [], [], [1043], [], [], [], [], [], [], [1087], [], [], [1043], [], [], [], [], [], [], [], [], [], [2161, 2162, 2163], [], [], [], [], [2165, 2167, 0], [], [], [], [2169, 2170, 2171]]
  | none => false) = true := by decide +kernel
set_option maxRecDepth 100000 in
theorem okX6_addPost : (match mtab[38]? with
  | some mi => acokB mi [[], [1090], [], [], [], [1096], [], [1090], [], [], [], [1098], [], [1090], [], [], [], [], [1090], [], [], [1090], [], [], [1093], [], [], [1093]]
  | none => false) = true := by decide +kernel
set_option maxRecDepth 100000 in
theorem okX7_init : (match mtab[39]? with
  | some mi => acokB mi [[], [2045], [], [], [1111], [2053], [], [], [], [2046, 1080], [2055], [], [2053], [], [2048, 2049]]
  | none => false) = true := by decide +kernel
set_option maxRecDepth 100000 in
theorem okX7_forgetAll : (match mtab[40]? with
  | some mi => acokB mi [[], [], [2051], [], [2053], [], [2048, 2049]]
  | none => false) = true := by decide +kernel
set_option maxRecDepth 100000 in
theorem okX7_lastStep : (match mtab[41]? with
  | some mi => acokB mi [[], [], [], [], [], [2053]]
  | none => false) = true := by decide +kernel
set_option maxRecDepth 100000 in
theorem okX7_countWays : (match mtab[42]? with
  | some mi => acokB mi [[], [], [], [], [], [], [], [], [], [], [2053], [], [], [], [], [], [2053], [], [], [], [], [], [], [], [], [], [2055], [], [], [], [], [], [], [], [], [], [], [], [], [], [], [], [4102, 4104, 28]]
  | none => false) = true := by decide +kernel
set_option maxRecDepth 100000 in
theorem okX7_waysBehind : (match mtab[43]? with
  | some mi => acokB mi [[], [], [], [], [], [], [], [], [], [2055], [], [], [], [], [], [], [], [0, 3099]]
  | none => false) = true := by decide +kernel
set_option maxRecDepth 100000 in
theorem okX7_leastOrder : (match mtab[44]? with
  | some mi => acokB mi [[], [], [], [], [], [], [2055], [], [], [], [], [], [0, 3099]]
  | none => false) = true := by decide +kernel
set_option maxRecDepth 100000 in
theorem okX7_possible : (match mtab[45]? with
  | some mi => acokB mi [[], [], [], [], [], [], [], [], [], [2055]]
  | none => false) = true := by decide +kernel
set_option maxRecDepth 100000 in
theorem okX8_init : (match mtab[46]? with
  | some mi => acokB mi [[], [1179], [], [], [1183], [], [], [1188], [], [], [1111], [1192], [], [], [1111], [1195], [], [], [1111], [1198], [], [], [1111], [1200]]
  | none => false) = true := by decide +kernel
set_option maxRecDepth 100000 in
theorem okX8_copyFrom : (match mtab[47]? with
  | some mi => acokB mi [[], [], [1180], [1180], [], [], [1183], [1183], [], [], [1186], [1186], [], [], [1188], [1188], [], [], [1189], [1189], [], [1192], [], [], [1192], [], [], [3059], [], [1195], [], [], [1195], [], [], [3059], [], [1198], [], [], [1198], [], [], [3059], [], [1200], [], [], [1200], [], [], [3059]]
  | none => false) = true := by decide +kernel
set_option maxRecDepth 100000 in
theorem okX8_gaveNow : (match mtab[48]? with
  | some mi => acokB mi [[], [1188], [], [1180]]
  | none => false) = true := by decide +kernel
set_option maxRecDepth 100000 in
theorem okX8_addOrder : (match mtab[49]? with
  | some mi => acokB mi [[], [1189], [], [], [], [], [1189], [], [], [], [], [1192], [], [], [], [], [], [1180], [], [], [], [], [1192], [], [], [1192], [], [], [], [], [], [], [1195], [], [], [1195], [], [], [], [], [], [], [], [], [1192], [], [], [1180], [], [], [], [], [1195], [], [], [], [], [], [1189], [], [], [1189], [], [], [1180], [1188]]
  | none => false) = true := by decide +kernel
set_option maxRecDepth 100000 in
theorem okX8_doDueOrders : (match mtab[50]? with
  | some mi => acokB mi [[], [], [], [], [1189], [], [], [1192], [], [], [], [1180], [], [], [], [1183], [], [1195], [], [], [], [0, 3099], [1183], [], [], [], [], [1189], [], [], [1189], [], [1192], [], [], [1192], [], [], [1189], [3059], [], [1195], [], [], [1195], [], [], [1189], [3059]]
  | none => false) = true := by decide +kernel
set_option maxRecDepth 100000 in
theorem okX8_laneIn : (match mtab[51]? with
  | some mi => acokB mi [[], [1183], [], [], [], [], [], [1189], [], [], [1192], [], [], [], [1180], [], [], [], [], [], [1195], [], [], [], [0, 3099]]
  | none => false) = true := by decide +kernel
set_option maxRecDepth 100000 in
theorem okX8_eat : (match mtab[52]? with
  | some mi => acokB mi [[], [1198], [], [], [], [], [], [1198], [], [], [], [], [1200], [], [], [], [], [], [], [], [], [], [1198]]
  | none => false) = true := by decide +kernel
set_option maxRecDepth 100000 in
theorem okX9_init : (match mtab[53]? with
  | some mi => acokB mi [[], [1038], [], [], [1064], [1039]]
  | none => false) = true := by decide +kernel
set_option maxRecDepth 100000 in
theorem okX9_append : (match mtab[54]? with
  | some mi => acokB mi [[], [1040], [], [], [], [1039], [], [1040], [], [], [], [], [1040], [], [], [1040]]
  | none => false) = true := by decide +kernel
set_option maxRecDepth 100000 in
theorem okX9_open : (match mtab[55]? with
  | some mi => acokB mi [[], [], [1045], [], [], [1040], [], [2138], [1047], [], [], [1040], [], [], [], [], [], [1048], [], [], [1050]]
  | none => false) = true := by decide +kernel
set_option maxRecDepth 100000 in
theorem okX9_ended : (match mtab[56]? with
  | some mi => acokB mi [[], [1045], [], [1047]]
  | none => false) = true := by decide +kernel
set_option maxRecDepth 100000 in
theorem okX9_next : (match mtab[57]? with
  | some mi => acokB mi [[], [1045], [], [], [1045], [], [1047], [], [], [1045], [], [], [], [1039], [], [1045]]
  | none => false) = true := by decide +kernel
set_option maxRecDepth 100000 in
theorem okX9_take : (match mtab[58]? with
  | some mi => acokB mi [[], [2149, 2150, 2151], [], [], [], [], [], [], [1045], [], [], [1045]]
  | none => false) = true := by decide +kernel
set_option maxRecDepth 100000 in
theorem okX9_takeNumber : (match mtab[59]? with
  | some mi => acokB mi [[], [], [], [], [], [], [], [], [2149, 2150, 2151], [0, 2154], [], [], [], [], [], [2149, 2150, 2151], [], [], [], [], [], [], [1045], [], [], [1045], [], [], [], [], [], [], [], [1048], [], [], [2156, 2157, 2158], [], [], [], [], [1050]]
  | none => false) = true := by decide +kernel
set_option maxRecDepth 100000 in
theorem okX9_faultAtEnd : (match mtab[60]? with
  | some mi => acokB mi [[], [1048], [], [], [1047]]
  | none => false) = true := by decide +kernel
set_option maxRecDepth 100000 in
theorem okX10_init : (match mtab[61]? with
  | some mi => acokB mi [[], [1030], [], [1033, 1034, 1002], [], [0, 1036], [2066], [], [1065, 1066, 1003], [], [0, 1068], [2067], [], [1081, 1082, 1004], [], [0, 1084], [2068], [], [1081, 1082, 1004], [], [0, 1084], [2069], [], [1112, 1113, 1005], [], [0, 1115], [2070], [], [1112, 1113, 1005], [], [0, 1115], [2071], [], [1133, 1134, 1006], [], [0, 1136], [2072], [], [1155, 1156, 1007], [], [0, 1158], [2073], [], [], [1111], [2074], [], [], [2075], [], [1174, 1175, 1008], [], [0, 1177], [2076], [], [1174, 1175, 1008], [], [0, 1177], [2077], [], [1221, 1222, 1009], [], [1223, 1224], [2078], [], [2010, 2011, 1010], [], [0, 2013], [2079], [], [2040, 2041, 1011], [], [2042, 2043], [2080], [], [], [1111], [2081], [], [], [], [2064, 1111], [2082]]
  | none => false) = true := by decide +kernel
set_option maxRecDepth 100000 in
theorem okX10_sign : (match mtab[62]? with
  | some mi => acokB mi [[], [2066], [1041], [], [], [], [], [], [], [], [], [], [], [], [2066], [], [], [], [], [], [], [2122, 2123, 2124], [], [], [], [2066], [1041]]
  | none => false) = true := by decide +kernel
set_option maxRecDepth 100000 in
theorem okX10_end : (match mtab[63]? with
  | some mi => acokB mi [[], [], [], [], [2066], [1041], [], [], [], [], [2066], [], [1041]]
  | none => false) = true := by decide +kernel
set_option maxRecDepth 100000 in
theorem okX10_ship : (match mtab[64]? with
  | some mi => acokB mi [[], [2066], [], [2134, 2135, 2136], [], [2069], [], [2066], [2141, 2142, 2143], [], [], [2066], [], [1041], [], [], [], [], [], [], [], [], [2068], [], [], [], [2069], [2068], [], [], [2069], [], [2068], [1091]]
  | none => false) = true := by decide +kernel
set_option maxRecDepth 100000 in
theorem okX10_rocks : (match mtab[65]? with
  | some mi => acokB mi [[], [2066], [1041], [], [], [], [], [2066], [], [2134, 2135, 2136], [], [2073], [1162], [], [], [2073], [], [2066], [2177, 2178, 2179], [], [], [2066], [], [1041], [], [], [], [], [], [], [], [], [2073], [1162]]
  | none => false) = true := by decide +kernel
set_option maxRecDepth 100000 in
theorem okX10_messes : (match mtab[66]? with
  | some mi => acokB mi [[], [2066], [1041], [], [], [], [], [2066], [], [2134, 2135, 2136], [], [2075], [], [], [2190, 2192, 1], [], [], [2066], [], [1041], [], [], [], [], [], [], [], [], [2078], [2198, 2199, 2200], [], [2075]]
  | none => false) = true := by decide +kernel
set_option maxRecDepth 100000 in
theorem okX10_rule : (match mtab[67]? with
  | some mi => acokB mi [[], [2066], [1041], [], [], [2070], [], [1121], [], [], [], [2066], [], [2134, 2135, 2136], [], [2072], [], [2066], [], [2071], [2206, 2207, 2208], [], [], [2066], [], [1041], [], [], [], [], [], [], [], [], [2070], [], [], [], [2071], [2070], [], [], [2071]]
  | none => false) = true := by decide +kernel
set_option maxRecDepth 100000 in
theorem okX10_post : (match mtab[68]? with
  | some mi => acokB mi []
  | none => false) = true := by decide +kernel
set_option maxRecDepth 100000 in
theorem okX10_rock : (match mtab[69]? with
  | some mi => acokB mi []
  | none => false) = true := by decide +kernel
set_option maxRecDepth 100000 in
theorem okX10_mess : (match mtab[70]? with
  | some mi => acokB mi []
  | none => false) = true := by decide +kernel
set_option maxRecDepth 100000 in
theorem okX10_way : (match mtab[71]? with
  | some mi => acokB mi []
  | none => false) = true := by decide +kernel
set_option maxRecDepth 100000 in
theorem okX10_sheet : (match mtab[72]? with
  | some mi => acokB mi [[], [], [], [], [], [], [], [], [], [], [], [], [], [], [], [], [], [], [], [], [], [], [], [], [], [], [], [], [], [], [2075], [], [], [2074], [], [], [], [], [], [], [], [], [], [], [3002, 3003], [], [], [3005, 3006], [], [], [], [], [], [2074]]
  | none => false) = true := by decide +kernel
set_option maxRecDepth 100000 in
theorem okX10_delay : (match mtab[73]? with
  | some mi => acokB mi [[], [], [2076], [1182], [3016, 3018, 6]]
  | none => false) = true := by decide +kernel
set_option maxRecDepth 100000 in
theorem okX10_order : (match mtab[74]? with
  | some mi => acokB mi [[], [], [], [], [], [], [], [], [], [3043, 3045, 9], [], [], [], [], [], [], [2078], [], [2076], [3051, 3052, 3053], [], [], [3062, 3064, 10]]
  | none => false) = true := by decide +kernel
set_option maxRecDepth 100000 in
theorem okX10_pass : (match mtab[75]? with
  | some mi => acokB mi [[], [], [], [], [3074, 3076, 11], [], [], [], [], [], [], [2078], [], [2076], [3051, 3052, 3053], [], [], [], [], [3078, 3080, 12], [], [2076], [1199]]
  | none => false) = true := by decide +kernel
set_option maxRecDepth 100000 in
theorem okX10_cook : (match mtab[76]? with
  | some mi => acokB mi [[], [], [], [], [2075], [], [], [], [], [], [], [], [], [], [2078], [], [2076], [3051, 3052, 3053], [], [2076], [1199], [], [], [], [], [2076], [1199]]
  | none => false) = true := by decide +kernel
set_option maxRecDepth 100000 in
theorem okX10_steps : (match mtab[77]? with
  | some mi => acokB mi [[], [], [], [], [], [], [], [], [2078], [], [2076], [3051, 3052, 3053], [], [2076], [1187], [], [], [], [], [], [], [], [], [], [], [3090, 3092, 13], [], [], [], [], [], [2067], [], [2076], [1187], [], [], [], [], [], [3105, 3106, 3107], [], [2076], [1185]]
  | none => false) = true := by decide +kernel
set_option maxRecDepth 100000 in
theorem okX10_voyage : (match mtab[78]? with
  | some mi => acokB mi [[], [2066], [], [2134, 2135, 2136], [], [3121, 3123, 14], [], [], [], [], [], [2066], [], [1041], [], [], [], [], [], [2077], [], [2076], [3127, 3056, 3057], [], [2066], [], [2134, 2135, 2136], [], [], [], [], [], [], [], [], [], [], [], [], [2066], [2196, 2157, 2158], [], [], [3128, 3130, 15], [], [], [], [], [], [], [], [], [], [], [], [], [], [], [], [], [2066], [], [1041], [], [], [], [2078], [], [2077], [3051, 3052, 3053], [], [2067], [], [], [], [], [], [], [2076], [1187], [], [2077], [1187], [], [], [3105, 3106, 3107]]
  | none => false) = true := by decide +kernel
end
section
/-! ROWS IN ORDER, 1 -/
set_option maxRecDepth 100000 in
theorem okX10_undo : (match mtab[79]? with
  | some mi => acokB mi [[], [2078], [], [2076], [3136, 3137, 3138], [], [], [2078], [1233]]
  | none => false) = true := by decide +kernel
set_option maxRecDepth 100000 in
theorem okX10_lane : (match mtab[80]? with
  | some mi => acokB mi [[], [], [], [], [], [], [], [], [], [], [], [], [], [2073], [1162], [], [], [2073], [1164], [], [], [], [2076], [1182], [], [], [], [], [], [], [], [], [], [2076], [], [3144, 3145, 3146], [], [2073], [1166], [], [], [], [], [], [], [], [2067], [], [], [3148, 3149, 3150], [], [2076], [], [3144, 3145, 3146]]
  | none => false) = true := by decide +kernel
set_option maxRecDepth 100000 in
theorem okX10_strikes : (match mtab[81]? with
  | some mi => acokB mi [[], [], [], [], [], [], [], [], [2073], [1162], [], [], [2073], [1164], [], [], [], [2076], [1182], [], [], [], [], [], [], [], [], [], [2076], [], [3144, 3145, 3146], [], [2073], [1166], [], [], [], [], [], [], [], [], [], [], [], [], [], [], [], [2067], [], [], [3148, 3149, 3150]]
  | none => false) = true := by decide +kernel
set_option maxRecDepth 100000 in
theorem okX10_clears : (match mtab[82]? with
  | some mi => acokB mi [[], [3160, 3162, 16], [], [2079], [], [2076], [], [3165, 3167, 17], [], [], [3169, 3170, 3171], [], [], [], [], [], [], [], [], [2073], [1162], [], [], [2073], [1164], [], [], [], [2076], [1182], [], [], [], [], [], [], [2079], [2021], [], [], [3008], [], [], [], [], [], [2073], [1166], [], [], [], [], [], [], [], [], [], [], [], [], [], [], [], [], [], [], [], [], [], [], [], [], [], [], [], [], [], [], [], [], [], [], [2067], [], [], [3148, 3149, 3150]]
  | none => false) = true := by decide +kernel
set_option maxRecDepth 100000 in
theorem okX10_plan : (match mtab[83]? with
  | some mi => acokB mi [[], [], [], [], [], [], [], [], [], [3160, 3162, 16], [], [2079], [], [3165, 3167, 17], [], [3184, 3185, 3186], [], [2079], [], [2076], [], [3188, 3189, 3190], [], [], [], [], [], [], [], [2079], [], [2076], [], [], [3203, 3204, 3205], [], [2067], [3212, 3110, 3111], [], [], [], [], [], [], [2067], [], [2079], [2023], [], [], [], [3213, 3114, 3115]]
  | none => false) = true := by decide +kernel
set_option maxRecDepth 100000 in
theorem okX10_latest : (match mtab[84]? with
  | some mi => acokB mi [[], [], [], [], [], [], [], [], [], [3160, 3162, 16], [], [], [], [], [], [], [], [2079], [], [2076], [], [], [3165, 3167, 17], [3009], [], [], [3169, 3170, 3171], [], [2079], [2021]]
  | none => false) = true := by decide +kernel
set_option maxRecDepth 100000 in
theorem okX10_lanes : (match mtab[85]? with
  | some mi => acokB mi [[], [], [], [], [], [], [], [], [3160, 3162, 16], [], [2079], [], [2076], [], [3165, 3167, 17], [], [], [3169, 3170, 3171], [], [2067], [], [2079], [2021], [], [], [3222, 3223], [], [3148, 3149, 3150], [], [2079], [2021]]
  | none => false) = true := by decide +kernel
set_option maxRecDepth 100000 in
theorem okX10_safest : (match mtab[86]? with
  | some mi => acokB mi [[], [], [], [], [], [], [], [], [], [2076], [1185], [], [], [], [2076], [1185], [], [3232, 3234, 21], [], [], [], [], [], [], [], [], [], [], [], [3232, 3234, 21], [], [], [], [], [], [], [], [], [], [3236, 3238, 22], [], [], [3236, 3238, 22], [], [], [], [], [], [], [], [], [2067], [], [], [], [], [3105, 3106, 3107]]
  | none => false) = true := by decide +kernel
set_option maxRecDepth 100000 in
theorem okX10_late : (match mtab[87]? with
  | some mi => acokB mi [[], [], [], [], [], [], [], [], [], [3160, 3162, 16], [], [2067], [3212, 3110, 3111], [], [], [], [], [], [], [], [], [2067], [], [2079], [2017], [], [], [], [3213, 3114, 3115], [], [], [2079], [], [], [4007, 4008, 4009]]
  | none => false) = true := by decide +kernel
set_option maxRecDepth 100000 in
theorem okX10_comes : (match mtab[88]? with
  | some mi => acokB mi [[], [], [], [], [], [], [], [], [2068], [1089], [], [], [], [], [], [2076], [1182], [3016, 3018, 6], [], [], [], [], [], [], [], [], [], [], [], [], [], [], [], [], [], [], [], [], [2068], [1091], [], [], [2068], [1097], [], [], [], [], [], [], [], [2068], [1099], [], [], [], [], [], [], [], [2067], [], [], [], [], [], [], [3105, 3106, 3107]]
  | none => false) = true := by decide +kernel
set_option maxRecDepth 100000 in
theorem okX10_relay : (match mtab[89]? with
  | some mi => acokB mi [[], [], [], [], [], [], [], [], [2068], [1089], [], [], [], [], [], [], [], [], [], [], [], [], [], [], [], [], [], [], [], [2067], [3212, 3110, 3111], [], [], [], [], [], [], [], [], [], [], [], [], [], [], [], [3009], [], [], [2067], [], [], [3213, 3114, 3115]]
  | none => false) = true := by decide +kernel
set_option maxRecDepth 100000 in
theorem okX10_fewest : (match mtab[90]? with
  | some mi => acokB mi [[], [], [], [], [], [], [], [], [], [2068], [1089]]
  | none => false) = true := by decide +kernel
set_option maxRecDepth 100000 in
theorem okX10_word : (match mtab[91]? with
  | some mi => acokB mi [[], [], [], [], [], [], [], [], [], [], [], [], [], [], [], [], [], [], [2067], [], [], [4027, 4028], [4033], [], [4030, 4031], [4034, 4035, 4036]]
  | none => false) = true := by decide +kernel
set_option maxRecDepth 100000 in
theorem okX10_survives : (match mtab[92]? with
  | some mi => acokB mi [[], [], [], [], [], [], [], [], [], [], [], [], [], [], [], [], [], [], [], [4027, 4028], [4043], [], [4033], [], [4030, 4031]]
  | none => false) = true := by decide +kernel
set_option maxRecDepth 100000 in
theorem okX10_lives : (match mtab[93]? with
  | some mi => acokB mi [[], [], [], [], [], [], [2075], [], [], [], [4048], [], [], [], [], [], [], [], [2075], [], [], [], [], [], [], [], [], [], [], [], [], [], [], [], [], [], [], [2075], [], [], [], [], [], [], [4049, 4051, 23], [], [], [], [], [], [], [], [], [], [], [], [2067], [], [], [3148, 3149, 3150]]
  | none => false) = true := by decide +kernel
set_option maxRecDepth 100000 in
theorem okX10_shares : (match mtab[94]? with
  | some mi => acokB mi [[], [], [], [], [], [], [2075], [], [], [], [], [2081], [], [], [], [], [], [], [], [2075], [], [], [2081], [], [], [], [], [2081], [], [], [], [2076], [1199], [], [], [], [], [2074], [], [], [], [], [], [], [], [], [], [2081], [], [2075], [], [], [], [], [], [4057, 4059, 24], [], [4066, 4068, 26]]
  | none => false) = true := by decide +kernel
set_option maxRecDepth 100000 in
theorem okX10_fast : (match mtab[95]? with
  | some mi => acokB mi [[], [], [], [], [], [], [2075], [], [], [], [], [], [2075], [], [], [], [], [], [], [], [4074, 4076, 27], [], [], [], [], [], [], [], [], [], [], [4074, 4076, 27], [], [], [], [], [3222, 3223], [], [3222, 3223], [], [], [], [], [], [], [], [], [2067], [], [3222, 3223], [], [], [], [3105, 3106, 3107]]
  | none => false) = true := by decide +kernel
set_option maxRecDepth 100000 in
theorem okX10_seen : (match mtab[96]? with
  | some mi => acokB mi [[], [], [], [], [], [], [], [], [], [], [], [], [], [2080], [2054], [], [], [], [], [], [2080], [2054], [], [], [], [], [], [2080], [2052], [], [], [], [], [2080], [2052], [], [], [], [], [], [2080], [2054], [], [], [], [], [2080], [], [2052], [], [], [2052], [], [2080], [2052]]
  | none => false) = true := by decide +kernel
set_option maxRecDepth 100000 in
theorem okX10_forget : (match mtab[97]? with
  | some mi => acokB mi [[], [2080], [2052], [], [], [2080], [4086, 4087, 4088]]
  | none => false) = true := by decide +kernel
set_option maxRecDepth 100000 in
theorem okX10_ordered : (match mtab[98]? with
  | some mi => acokB mi [[], [2080], [2052], [], [], [], [], [2080], [4094, 4095, 4096], [], [], [2080], [], [4098, 4099, 4100], [], [2067], [3212, 3110, 3111], [], [2080], [2056], [], [], [], [], [], [], [], [], [], [], [], [], [], [], [], [], [], [2080], [], [], [4107, 4108, 4109], [], [], [2067], [], [], [3213, 3114, 3115], [], [], [], [4111, 3099], [], [], [], [], [4112], [], [], [4065]]
  | none => false) = true := by decide +kernel
set_option maxRecDepth 100000 in
theorem okX10_unsure : (match mtab[99]? with
  | some mi => acokB mi [[], [2080], [2052], [], [], [], [], [2080], [4094, 4095, 4096], [], [], [2080], [], [4098, 4099, 4100], [], [], [2080], [], [4117, 4118, 4119], [], [], [], [], [], [], [], [], [], [], [], [], [], [], [], [], [4121, 3178], [], [2080], [], [4117, 4118, 4119], [], [], [], [3222, 3223], [], [3222, 3223], [], [], [], [], [], [], [], [], [2067], [], [], [3148, 3149, 3150]]
  | none => false) = true := by decide +kernel
set_option maxRecDepth 100000 in
theorem okX10_boy : (match mtab[100]? with
  | some mi => acokB mi [[], [], [], [4048], [], [], [], [], [], [], [], [], [], [], [], [], [], [], [], [], [2067], [], [], [4126, 4128, 29], [], [], [2068], [1089], [], [], [], [], [], [4130], [3148, 3149, 3150], [], [], [4131, 4133, 30]]
  | none => false) = true := by decide +kernel
set_option maxRecDepth 100000 in
theorem okX10_meets : (match mtab[101]? with
  | some mi => acokB mi [[], [], [], [], [], [], [], [], [], [2068], [1089], [], [], [], [], [], [], [], [], [], [], [], [], [], [], [4131, 4133, 30], [], [], [], [], [], [], [4131, 4133, 30], [], [], [2067], [], [], [3148, 3149, 3150]]
  | none => false) = true := by decide +kernel
set_option maxRecDepth 100000 in
theorem okX10_knows : (match mtab[102]? with
  | some mi => acokB mi [[], [], [], [], [], [], [], [], [], [], [], [], [], [2067], [], [], [], [], [], [4030, 4031], [], [], [], [4033], [], [], [], [4030, 4031], [4034, 4035, 4036]]
  | none => false) = true := by decide +kernel
set_option maxRecDepth 100000 in
theorem okX10_mutiny : (match mtab[103]? with
  | some mi => acokB mi [[], [], [], [], [], [], [], [], [], [], [], [], [], [], [], [], [], [], [], [], [], [2067], [3212, 3110, 3111], [], [], [], [], [], [], [], [3008], [], [], [], [], [], [], [3008], [], [], [], [], [], [4147, 4148], [], [], [], [], [], [4147, 4148], [], [], [], [], [2067], [], [], [], [], [3105, 3106, 3107]]
  | none => false) = true := by decide +kernel
set_option maxRecDepth 100000 in
theorem okX10_chance : (match mtab[104]? with
  | some mi => acokB mi [[], [], [], [], [], [], [], [], [], [], [], [], [], [], [], [], [], [], [], [], [], [2076], [1182], [3016, 3018, 6], [], [], [2067], [], [], [4034, 4035, 4036], [], [], [2067], [], [], [], [], [], [4030, 4031], [4033], [], [4030, 4031], [4034, 4035, 4036]]
  | none => false) = true := by decide +kernel
set_option maxRecDepth 100000 in
theorem okX10_voyages : (match mtab[105]? with
  | some mi => acokB mi [[], [], [], [], [], [], [], [], [], [2077], [], [2076], [3127, 3056, 3057], [], [], [], [], [], [], [], [], [], [], [4161], [], [], [], [], [], [], [], [], [], [], [], [], [], [], [3043, 3045, 9], [], [], [], [], [], [], [], [3062, 3064, 10], [], [], [], [3090, 3092, 13], [], [], [], [], [2076], [1187], [], [2077], [1187], [], [], [], [2067], [], [2076], [1185], [], [], [], [3105, 3106, 3107], [], [2076], [], [2077], [3127, 3056, 3057]]
  | none => false) = true := by decide +kernel
set_option maxRecDepth 100000 in
theorem okX10_keep : (match mtab[106]? with
  | some mi => acokB mi [[], [], [], [], [], [], [], [], [2078], [1235], [], [], [], [2076], [3127, 3056, 3057], [], [2078], [1237]]
  | none => false) = true := by decide +kernel
set_option maxRecDepth 100000 in
theorem okX10_again : (match mtab[107]? with
  | some mi => acokB mi [[], [], [], [], [], [], [2078], [1237], [], [], [], [], [], [], [2076], [], [2078], [1235], [], [], [3127, 3056, 3057], [], [2078], [], [1233]]
  | none => false) = true := by decide +kernel
set_option maxRecDepth 100000 in
theorem okX10_count : (match mtab[108]? with
  | some mi => acokB mi [[], [67], [], [2068], [1089], [], [], [2068], [1091], [], [], [2068], [1095], [], [], [2073], [1162], [], [], [2075], [], [], [2076], [1182], [], [], [2076], [1185], [], [], [2076], [1187], [], [], [2076], [1191], [], [], [2080], [2052], [], [], [2078], [1233], [], [], [2067], [1074], [], [], [2066], [1041]]
  | none => false) = true := by decide +kernel
set_option maxRecDepth 100000 in
theorem okX10_row : (match mtab[109]? with
  | some mi => acokB mi []
  | none => false) = true := by decide +kernel
set_option maxRecDepth 100000 in
theorem okX10_isDigit : (match mtab[110]? with
  | some mi => acokB mi []
  | none => false) = true := by decide +kernel
set_option maxRecDepth 100000 in
theorem okX10_readMesses : (match mtab[111]? with
  | some mi => acokB mi [[], [2075], [], [], [], [], [], [], [], [], [], [], [2066], [1046], [], [], [2066], [], [2194, 2146, 2147], [], [], [], [], [], [2066], [], [2195, 2162, 2163], [], [], [2066], [1046], [], [], [2066], [], [2194, 2146, 2147], [], [], [], [], [], [2066], [1046], [], [], [2076], [1199], [], [], [], [], [2076], [1201], [], [], [], [], [2074], [], [], [], [], [], [2066], [2196, 2157, 2158], [], [], [], [2066], [], [2195, 2162, 2163], [], [], [2066], [1046], [], [], [], [], [2066], [2197, 2170, 2171], [], [], [], [], [], [], [], [], [2075], [2075]]
  | none => false) = true := by decide +kernel
set_option maxRecDepth 100000 in
theorem okX10_voyageFault : (match mtab[112]? with
  | some mi => acokB mi [[], [], [], [], [], [], [2066], [2196, 2157, 2158], [], [], [2066], [3125, 2150, 2151], [], [], [2066], [], [1046], [], [], [1046], [], [], [], [], [2066], [3125, 2150, 2151], [3126, 2154], [], [], [2066], [1046], [], [], [2066], [], [1046], [], [], [1046], [], [], [], [], [], [], [], [], [], [], [], [], [], [], [], [], [], [2066], [1046], [], [], [], [], [], [], [2066], [2197, 2170, 2171]]
  | none => false) = true := by decide +kernel
set_option maxRecDepth 100000 in
theorem okX10_doVoyageSign : (match mtab[113]? with
  | some mi => acokB mi [[], [2066], [3125, 2150, 2151], [], [], [2066], [], [1046], [], [], [1046], [], [], [], [], [2066], [], [2194, 2146, 2147], [], [], [], [], [], [3074, 3076, 11], [], [], [], [], [], [], [], [3078, 3080, 12], [], [], [], [3126, 2154], [], [], [], [], [], [], [], [3090, 3092, 13], [], [], [], [], [], [], [3043, 3045, 9], [], [], [], [], [], [], [], [3062, 3064, 10]]
  | none => false) = true := by decide +kernel
set_option maxRecDepth 100000 in
theorem okX10_put : (match mtab[114]? with
  | some mi => acokB mi [[], [], [], [3008], [3009]]
  | none => false) = true := by decide +kernel
set_option maxRecDepth 100000 in
theorem okX10_entry : (match mtab[115]? with
  | some mi => acokB mi []
  | none => false) = true := by decide +kernel
set_option maxRecDepth 100000 in
theorem okX10_keepOnSea : (match mtab[116]? with
  | some mi => acokB mi [[], [], [], [3005, 3006]]
  | none => false) = true := by decide +kernel
set_option maxRecDepth 100000 in
theorem okX10_delayAt : (match mtab[117]? with
  | some mi => acokB mi [[], [2070], [1121], [], [], [2068], [1089], [], [], [], [], [], [], [2070], [], [2068], [], [], [], [3020, 3021, 3022], [], [], [], [], [3005, 3006]]
  | none => false) = true := by decide +kernel
set_option maxRecDepth 100000 in
theorem okX10_orderRefusal : (match mtab[118]? with
  | some mi => acokB mi [[], [2076], [3047, 3048, 3049], [], [], [], [], [2076], [1191]]
  | none => false) = true := by decide +kernel
set_option maxRecDepth 100000 in
theorem okX10_giveOrder : (match mtab[119]? with
  | some mi => acokB mi [[], [], [2076], [1182], [3016, 3018, 6], [], [], [2076], [], [], [2068], [1095], [], [], [], [], [], [], [], [], [3066, 3067, 3068]]
  | none => false) = true := by decide +kernel
set_option maxRecDepth 100000 in
theorem okX10_passRefusal : (match mtab[120]? with
  | some mi => acokB mi [[], [], [], [], [2075], [], [], [], [], [], [], [], [], [], [], [], [], [], [], [], [], [], [], [], [], [], [], [], [], [], [], [], [], [], [2075], [], [], [], [], [2076], [1199], [], [], [], [], [], [], [], [2076], [1199]]
  | none => false) = true := by decide +kernel
set_option maxRecDepth 100000 in
theorem okX10_moveFood : (match mtab[121]? with
  | some mi => acokB mi [[], [], [], [], [], [], [], [], [], [], [], [], [2076], [1199], [], [], [], [], [], [], [], [2076], [1199]]
  | none => false) = true := by decide +kernel
set_option maxRecDepth 100000 in
theorem okX10_goStep : (match mtab[122]? with
  | some mi => acokB mi [[], [2076], [], [1182], [], [], [1182], [], [2076], [3094, 3095, 3096], [], [], [], [], [2073], [1162], [], [], [2073], [1164], [], [], [], [2076], [1182], [], [], [2073], [1166], [], [], [], [2076], [1185], [], [], [2076], [], [1187], [], [], [1187], [], [], [], [], [], [], [], [], [2075], [], [], [], [2076], [], [], [2074], [], [], [3101, 3102, 3103]]
  | none => false) = true := by decide +kernel
set_option maxRecDepth 100000 in
theorem okX10_firstFree : (match mtab[123]? with
  | some mi => acokB mi [[], [2076], [3047, 3048, 3049]]
  | none => false) = true := by decide +kernel
set_option maxRecDepth 100000 in
theorem okX10_lookAhead : (match mtab[124]? with
  | some mi => acokB mi [[], [2079], [], [2068], [1095], [], [], [], [], [], [], [], [2026], [], [], [], [], [], [], [2079], [2017], [], [], [], [], [], [], [], [2076], [1182], [], [], [3016, 3018, 6], [], [], [], [2079], [2017], [], [], [], [], [], [], [], [], [], [], [2079], [2019], [], [3164, 2049], [], [], [], [], [2073], [1162], [], [], [2073], [1164], [], [], [], [2076], [1182], [], [], [], [], [], [], [], [], [], [2079], [2019], [], [], [], [], [], [2073], [1166]]
  | none => false) = true := by decide +kernel
set_option maxRecDepth 100000 in
theorem okX10_rocksInLane : (match mtab[125]? with
  | some mi => acokB mi [[], [], [], [], [], [], [2073], [1162], [], [], [2073], [1164], [], [], [], [2076], [1182], [], [], [], [2073], [1166]]
  | none => false) = true := by decide +kernel
set_option maxRecDepth 100000 in
theorem okX10_apart : (match mtab[126]? with
  | some mi => acokB mi [[], [], [2076], [1185], [], [4000]]
  | none => false) = true := by decide +kernel
set_option maxRecDepth 100000 in
theorem okX10_widened : (match mtab[127]? with
  | some mi => acokB mi []
  | none => false) = true := by decide +kernel
set_option maxRecDepth 100000 in
theorem okX10_power : (match mtab[128]? with
  | some mi => acokB mi []
  | none => false) = true := by decide +kernel
set_option maxRecDepth 100000 in
theorem okX10_likelyWord : (match mtab[129]? with
  | some mi => acokB mi [[], [], [], [], [], [], [], [], [], [], [], [], [], [], [], [], [4030, 4031], [], [], [], [], [], [], [], [], [4030, 4031]]
  | none => false) = true := by decide +kernel
set_option maxRecDepth 100000 in
theorem okX10_lastsFor : (match mtab[130]? with
  | some mi => acokB mi [[], [], [], [], [], [], [], [], [], [], [], [2076], [1199], [], [], [], [], [], [], [2074], [], [], [], [], [], [], [], [], [4048]]
  | none => false) = true := by decide +kernel
set_option maxRecDepth 100000 in
theorem okX10_foodLeft : (match mtab[131]? with
  | some mi => acokB mi [[], [], [], [], [], [], [2075], [], [], [], [2076], [1199], [], [], [], [], [], [], [], [], [], [], [], [], [], [], [], [2074]]
  | none => false) = true := by decide +kernel
set_option maxRecDepth 100000 in
theorem okX10_weighPassing : (match mtab[132]? with
  | some mi => acokB mi [[], [2075], [], [], [], [], [], [], [], [], [], [2075], [], [], [2082], [], [], [], [], [2081], [], [], [], [], [], [2081], [], [], [], [4000], [], [], [], [2075], [], [], [], [], [2082], [], [], [], [], [], [], [], [], [], [], [2081], [], [], [4061, 4063, 25]]
  | none => false) = true := by decide +kernel
set_option maxRecDepth 100000 in
theorem okX10_leastPassing : (match mtab[133]? with
  | some mi => acokB mi [[4065], [], [], [], [], [], [2075], [], [], [2081], [], [], [], [], [], [2081], [], [], [], [2081], [], [2075], [], [], [], [], [2082], [], [], [], [], [3008]]
  | none => false) = true := by decide +kernel
set_option maxRecDepth 100000 in
theorem okX10_choosePassing : (match mtab[134]? with
  | some mi => acokB mi [[], [2067], [3212, 3110, 3111], [], [], [], [], [], [], [], [], [2075], [], [], [], [], [], [], [4061, 4063, 25], [], [], [], [], [], [], [], [2075], [], [], [2081], [], [], [], [], [], [2081], [], [], [], [2081], [], [2075], [], [], [], [2082], [], [], [], [], [], [], [], [2081], [], [], [], [], [], [], [], [], [2067], [], [2081], [], [], [], [], [], [], [], [3213, 3114, 3115], [], [], [2081], [], [], [], [], [], [], [4000]]
  | none => false) = true := by decide +kernel
set_option maxRecDepth 100000 in
theorem okX10_lap : (match mtab[135]? with
  | some mi => acokB mi [[], [], [], [2068], [1089], [], [], [3009]]
  | none => false) = true := by decide +kernel
set_option maxRecDepth 100000 in
theorem okX10_cellAfter : (match mtab[136]? with
  | some mi => acokB mi [[], [], [4126, 4128, 29], [], [], [], [], [2068], [1089], [], [], [], [], [4126, 4128, 29]]
  | none => false) = true := by decide +kernel
set_option maxRecDepth 100000 in
theorem okX10_holdsThen : (match mtab[137]? with
  | some mi => acokB mi []
  | none => false) = true := by decide +kernel
set_option maxRecDepth 100000 in
theorem okX10_wantsAnother : (match mtab[138]? with
  | some mi => acokB mi [[], [], [], [], [4150, 4151], [], [], [], [], [], [], [3008], [], [], [], [], [], [4150, 4151]]
  | none => false) = true := by decide +kernel
set_option maxRecDepth 100000 in
theorem okX11_init : (match mtab[139]? with
  | some mi => acokB mi [[], [5036], [], [], [1080], [5039], [], [], [5040], [], [], [1111], [5046], [], [], [2009], [5047], [], [], [1111], [5048], [], [], [1111], [5049], [], [], [1111], [5050], [], [], [1111], [], [], [], [], [], [], [], [], [], [], [], [], [], [], [], [], [], [], [], [], [], [], [], [], [], [], [], [], [], [], [], [], [], [], [], [], [], [], [], [], [], [], [], [], [], [], [], [], [], [], [], [], [], [], [], [], [], [], [], [], [], [], [], [], [], [], [], [], [], [], [], [], [], [], [], [], [], [], [], [], [], [], [], [], [], [], [], [], [], [], [], [], [], [], [], [], [], [], [], [], [], [], [], [], [], [], [], [], [], [], [], [], [], [], [], [], [], [], [], [], [], [], [], [], [], [], [], [], [], [], [], [], [], [], [], [], [], [], [], [], [], [], [], [], [], [], [], [], [], [], [], [], [], [], [], [], [], [], [], [], [], [], [], [], [], [], [], [], [], [], [], [], [], [], [], [], [], [], [], [], [], [], [], [], [], [], [], [], [], [], [], [], [], [], [], [], [], [], [], [], [], [], [], [], [], [], [], [], [], [], [], [], [], [], [], [], [], [], [], [], [], [], [], [], [], [], [], [], [5051], [], [], [1111], [5052], [], [], [1111], [5053], [], [], [1111], [5058], [], [], [1111], [5060], [], [], [1111], [5061], [], [], [1111], [5064], [], [], [1111], [5065], [], [], [1111], [5067], [], [], [1111], [5070], [], [], [1111], [5071], [], [], [1111], [5073], [], [], [1111], [5074], [], [], [1111], [5075], [], [], [1111], [5078], [], [], [1111], [5080], [], [], [1111], [5081], [], [], [1111], [5082], [], [], [2009], [5083], [], [], [2009], [5084], [], [], [2009], [5087], [], [], [1111], [5088], [], [], [1111], [5089]]
  | none => false) = true := by decide +kernel
end
section
/-! ROWS IN ORDER, 2 -/
set_option maxRecDepth 100000 in
theorem okX11_thrown : (match mtab[140]? with
  | some mi => acokB mi [[], [5037]]
  | none => false) = true := by decide +kernel
set_option maxRecDepth 100000 in
theorem okX11_refuse : (match mtab[141]? with
  | some mi => acokB mi [[], [], [5037]]
  | none => false) = true := by decide +kernel
set_option maxRecDepth 100000 in
theorem okX11_in : (match mtab[142]? with
  | some mi => acokB mi []
  | none => false) = true := by decide +kernel
set_option maxRecDepth 100000 in
theorem okX11_has : (match mtab[143]? with
  | some mi => acokB mi []
  | none => false) = true := by decide +kernel
set_option maxRecDepth 100000 in
theorem okX11_flag : (match mtab[144]? with
  | some mi => acokB mi []
  | none => false) = true := by decide +kernel
set_option maxRecDepth 100000 in
theorem okX11_common : (match mtab[145]? with
  | some mi => acokB mi [[], [], [], [], [], [], [], [], [], [], [7106, 7107]]
  | none => false) = true := by decide +kernel
set_option maxRecDepth 100000 in
theorem okX11_enters : (match mtab[146]? with
  | some mi => acokB mi [[], [5039], [], [5038], [], [], [], [], [5038], [], [], [5038]]
  | none => false) = true := by decide +kernel
set_option maxRecDepth 100000 in
theorem okX11_tellsFraction : (match mtab[147]? with
  | some mi => acokB mi [[], [], [7106, 7107], [], [], [], [5038], [], [], [], [], [6219, 6221, 60], [], [], [], [], [6219, 6221, 60]]
  | none => false) = true := by decide +kernel
set_option maxRecDepth 100000 in
theorem okX11_isMess : (match mtab[148]? with
  | some mi => acokB mi [[], [], [], [], [5044], [], [], [], [5209, 5210]]
  | none => false) = true := by decide +kernel
set_option maxRecDepth 100000 in
theorem okX11_sign : (match mtab[149]? with
  | some mi => acokB mi [[], [], [5037], [], [5054], [], [], [], [], [], [], [], [], [], [], [5053], [], [5054], [], [], [], [], [], [], [], [], [], [], [], [], [], [], [], [], [5054], [], [], [5054], [], [5054]]
  | none => false) = true := by decide +kernel
set_option maxRecDepth 100000 in
theorem okX11_end : (match mtab[150]? with
  | some mi => acokB mi [[], [], [5037], [], [], [], [], [5054], [], [5209, 5210], [], [], [], [], [], [5054]]
  | none => false) = true := by decide +kernel
set_option maxRecDepth 100000 in
theorem okX11_begins : (match mtab[151]? with
  | some mi => acokB mi [[], [5054], [], [], [], [5054], [], [], [5055], [], [], [5057], [], [], [], [5220], [5056]]
  | none => false) = true := by decide +kernel
set_option maxRecDepth 100000 in
theorem okX11_takes : (match mtab[152]? with
  | some mi => acokB mi [[], [5055], [], [5056], [], [], [5053], [], [5055], [], [], [], [], [], [], [], [], [], [5055], [], [5239, 6000], [], [5055]]
  | none => false) = true := by decide +kernel
set_option maxRecDepth 100000 in
theorem okX11_isDigit : (match mtab[153]? with
  | some mi => acokB mi [[], [5055], [], [5056], [], [], [5053], [], [5055], [], [], [5233], [5234], [5209, 5210]]
  | none => false) = true := by decide +kernel
set_option maxRecDepth 100000 in
theorem okX11_among : (match mtab[154]? with
  | some mi => acokB mi [[], [], [], [], [6023, 6024, 6025], [], [], [5055], [], [5056], [], [], [], [6033, 6034, 6035], [], [5053], [], [5055]]
  | none => false) = true := by decide +kernel
set_option maxRecDepth 100000 in
theorem okX11_takesOf : (match mtab[155]? with
  | some mi => acokB mi [[], [], [6019, 6021, 40], [], [], [], [5055], [], [], [], [], [], [5239, 6000], [], [5055]]
  | none => false) = true := by decide +kernel
set_option maxRecDepth 100000 in
theorem okX11_number : (match mtab[156]? with
  | some mi => acokB mi [[], [5229, 5231, 35], [], [], [], [], [], [], [], [], [], [], [], [5229, 5231, 35], [], [], [], [], [], [5053], [], [5055], [], [], [], [], [], [], [], [5055], [], [], [5055]]
  | none => false) = true := by decide +kernel
set_option maxRecDepth 100000 in
theorem okX11_numberIn : (match mtab[157]? with
  | some mi => acokB mi [[], [], [5225, 5227, 34], [], [], [], [], [], [], [], [], [], [5209, 5210], [], [], [], [], [], [5055], [], [], [5055]]
  | none => false) = true := by decide +kernel
set_option maxRecDepth 100000 in
theorem okX11_faultOf : (match mtab[158]? with
  | some mi => acokB mi [[], [], [], [5055], [], [5056], [], [], [], [], [], [], [], [], [], [], [], [5055], [], [], [], [], [], [], [], [], [], [], [], [], [5055]]
  | none => false) = true := by decide +kernel
set_option maxRecDepth 100000 in
theorem okX11_ship : (match mtab[159]? with
  | some mi => acokB mi [[], [], [5037], [], [], [5216, 5218, 32], [], [], [], [5059], [], [], [], [], [5221, 5223, 33], [], [], [], [], [], [], [], [], [], [], [], [], [5059], [], [], [], [], [5235, 5237, 36], [], [], [], [], [], [], [], [], [], [5221, 5223, 33], [], [], [], [], [], [], [], [], [], [], [], [], [5058], [], [], [5059], [], [], [], [], [5058], [], [], [5059], [], [], [], [], [], [5235, 5237, 36], [5239, 6000], [], [], [], [5059], [], [], [5059], [], [], [], [], [], [6002, 6004, 37], [], [], [], [], [], [], [], [5040], [], [], [5059], [5041], [], [], [5042], [], [], [], [], [5041], [], [], [5046], [], [], [5058], [], [], [], [], [], [], [5047], [], [], [5058], [], [], [], [], [], [], [], [], [], [], [], [], [], [], [5042], [], [5058], [], [], [], [], [], [], [], [5042], [], [], [], [5041]]
  | none => false) = true := by decide +kernel
set_option maxRecDepth 100000 in
theorem okX11_readsRock : (match mtab[160]? with
  | some mi => acokB mi [[], [5043], [], [5059], [], [], [], [], [], [], [], [5059], [], [], [], [5058], [], [], [], [], [], [5221, 5223, 33], [], [], [5058], [], [], [], [], [], [5235, 5237, 36], [], [], [], [], [5058], [], [], [], [], [], [6015, 6017, 39], [], [], [], [5059], [], [], [5059], [], [5058]]
  | none => false) = true := by decide +kernel
set_option maxRecDepth 100000 in
theorem okX11_readsMess : (match mtab[161]? with
  | some mi => acokB mi [[], [5044], [], [5059], [], [], [], [], [], [], [], [5059], [], [], [], [5058], [], [], [], [5225, 5227, 34], [], [], [5058], [], [], [], [], [], [5235, 5237, 36], [], [], [], [], [5058], [], [], [], [], [], [5225, 5227, 34], [], [], [], [5059], [], [], [5059], [], [5058]]
  | none => false) = true := by decide +kernel
set_option maxRecDepth 100000 in
theorem okX11_rocks : (match mtab[162]? with
  | some mi => acokB mi [[], [], [5037], [], [], [5216, 5218, 32], [], [], [], [5059], [], [], [], [], [], [], [], [], [], [], [], [6010, 6012, 38], [], [], [], [], [], [5235, 5237, 36], [], [], [], [], [], [], [], [], [], [], [6002, 6004, 37], [], [], [], [], [], [], [], [], [], [5059], [], [], [5048], [], [5043], [], [5058], [], [], [], [], [], [], [5049], [], [5043], [], [5058], [], [], [], [], [], [], [], [], [], [5043], [], [], [5043], [], [], [], [5059]]
  | none => false) = true := by decide +kernel
set_option maxRecDepth 100000 in
theorem okX11_messes : (match mtab[163]? with
  | some mi => acokB mi [[], [], [5037], [], [], [5216, 5218, 32], [], [], [], [5059], [], [], [], [], [], [], [], [], [], [], [], [6076, 6078, 41], [], [], [], [], [], [5235, 5237, 36], [], [], [], [], [], [], [], [], [], [], [6002, 6004, 37], [], [], [], [], [], [], [], [], [], [5059], [], [], [5051], [], [], [5044], [], [], [5058], [], [], [], [], [], [], [5051], [], [], [5044], [], [], [], [], [5050], [], [5044], [], [5058], [], [], [], [], [], [], [], [], [], [5044], [], [], [5044], [], [], [], [5059], [], [], [], [5066], [], [], [5045], [], [], [5045], [], [5059]]
  | none => false) = true := by decide +kernel
set_option maxRecDepth 100000 in
theorem okX11_codes : (match mtab[164]? with
  | some mi => acokB mi [[], [5061], [], [5063], [], [], [], [], [5063], [], [], [5063]]
  | none => false) = true := by decide +kernel
set_option maxRecDepth 100000 in
theorem okX11_readsThing : (match mtab[165]? with
  | some mi => acokB mi [[], [], [5235, 5237, 36], [], [], [6088, 6090, 43], [], [], [], [6092, 6094, 44], [], [], [], [5229, 5231, 35], [], [], [], [], [5225, 5227, 34], [6092, 6094, 44], [], [], [], [], [6015, 6017, 39], [], [], [], [], [], [], [], [6092, 6094, 44], [], [], [], [5057], [], [], [], [], [5235, 5237, 36], [], [], [], [], [], [5057], [], [], [5057], [], [], [6084, 6086, 42], [], [], [], [5235, 5237, 36], [], [], [], [], [], [5057], [], [], [5057]]
  | none => false) = true := by decide +kernel
set_option maxRecDepth 100000 in
theorem okX11_readsRank : (match mtab[166]? with
  | some mi => acokB mi [[], [], [], [], [6088, 6090, 43], [], [], [], [], [], [6084, 6086, 42], [], [], [], [], [], [], [], [], [], [], [], [], [], [], [], [], [], [], [6015, 6017, 39], [], [], [], [], [], [], [], [], [], [6084, 6086, 42], [], [], [], [], [], [], [], [], [], [], [], [], [], [], [], [], [], [], [6092, 6094, 44]]
  | none => false) = true := by decide +kernel
set_option maxRecDepth 100000 in
theorem okX11_rule : (match mtab[167]? with
  | some mi => acokB mi [[], [], [5037], [], [], [5216, 5218, 32], [], [], [], [5063], [], [], [], [], [6084, 6086, 42], [], [], [], [], [], [], [], [], [], [6002, 6004, 37], [], [], [], [], [], [], [], [5063], [5062], [], [], [], [], [5063], [], [], [5060], [], [], [5061]]
  | none => false) = true := by decide +kernel
set_option maxRecDepth 100000 in
theorem okX11_worked : (match mtab[168]? with
  | some mi => acokB mi [[], [39], [], [], [], [], [], [], [5239, 6000], [], [], [], [], [], [], [], [5239, 6000], [], [], [], [], [], [], [], [5239, 6000]]
  | none => false) = true := by decide +kernel
set_option maxRecDepth 100000 in
theorem okX11_ruled : (match mtab[169]? with
  | some mi => acokB mi [[], [], [], [], [], [], [5062], [], [], [5060], [], [], [], [], [], [], [], [5064], [], [], [], [], [5064], [], [], [], [], [], [], [], [], [], [], [], [], [5064], [], [], [], [], [], [], [], [5064], [], [], [], [], [], [5064], [], [], [6151, 6152], [], [], [], [5064], [], [], [], [], [], [5065], [], [], [], [], [], [], [], [], [], [], [], [5062], [], [], [5065], [], [], [], [], [], [], [], [], [5064], [], [], [], [], [], [], [5220], [6134]]
  | none => false) = true := by decide +kernel
set_option maxRecDepth 100000 in
theorem okX11_delayAt : (match mtab[170]? with
  | some mi => acokB mi [[], [5065], [], [], [5040], [], [], [5065], [], [], [5041], [], [], [5065], [], [], [5042], [], [], [5065], [], [], [], [], [], [], [6147, 6149, 49]]
  | none => false) = true := by decide +kernel
set_option maxRecDepth 100000 in
theorem okX11_turned : (match mtab[171]? with
  | some mi => acokB mi [[], [5042]]
  | none => false) = true := by decide +kernel
set_option maxRecDepth 100000 in
theorem okX11_post : (match mtab[172]? with
  | some mi => acokB mi [[], [], [5037], [], [], [], [], [5041], [], [], [], [5209, 5210], [], [], [], [], [], [5209, 5210], [], [], [6104, 6106, 45], [], [], [], [], [5046], [], [], [], [], [5047], [], [], [5239, 6000]]
  | none => false) = true := by decide +kernel
set_option maxRecDepth 100000 in
theorem okX11_rock : (match mtab[173]? with
  | some mi => acokB mi [[], [], [5037], [], [], [], [], [5043], [], [], [], [5209, 5210], [], [], [], [], [], [5209, 5210], [], [], [6104, 6106, 45], [], [], [], [], [5048], [], [], [], [], [5049]]
  | none => false) = true := by decide +kernel
set_option maxRecDepth 100000 in
theorem okX11_mess : (match mtab[174]? with
  | some mi => acokB mi [[], [], [5037], [], [], [6116, 6118, 46], [], [], [], [], [6120], [5209, 5210], [], [], [6104, 6106, 45], [], [], [], [], [5051], [], [], [], [], [], [], [], [], [], [5050], [], [], [], [], [5051]]
  | none => false) = true := by decide +kernel
set_option maxRecDepth 100000 in
theorem okX11_isAhead : (match mtab[175]? with
  | some mi => acokB mi [[], [], [], [], [], [], [], [], [], [], [], [], [], [5051], [], [], [], [], [], [5051], [], [], [], [], [], [], [5051], [], [], [], [], [], [5051], [], [], [], [], [], [], [5051], [], [], [], [], [], [5051]]
  | none => false) = true := by decide +kernel
set_option maxRecDepth 100000 in
theorem okX11_way : (match mtab[176]? with
  | some mi => acokB mi [[], [], [5037], [], [], [], [], [5051], [], [], [], [], [], [5209, 5210], [], [], [], [], [], [5209, 5210], [], [], [6104, 6106, 45], [], [], [], [], [], [], [], [5051], [], [], [], [], [], [], [], [], [], [5051], [], [], [], [], [], [], [], [6125, 6127, 47], [5239, 6000], [], [], [], [], [], [], [], [], [], [], [], [], [], [], [], [], [5051], [], [], [], [], [], [], [], [], [], [5051], [], [], [], [], [], [5051]]
  | none => false) = true := by decide +kernel
set_option maxRecDepth 100000 in
theorem okX11_sheet : (match mtab[177]? with
  | some mi => acokB mi [[], [], [5037], [], [], [], [6133], [5209, 5210], [], [], [], [], [], [], [], [], [], [], [], [], [], [], [], [], [], [], [], [], [], [5044], [], [], [], [], [], [], [], [], [], [], [], [], [], [], [], [5050], [], [], [], [], [], [], [], [], [], [], [], [], [5220], [6134], [], [], [], [5050]]
  | none => false) = true := by decide +kernel
set_option maxRecDepth 100000 in
theorem okX11_putsBy : (match mtab[178]? with
  | some mi => acokB mi [[], [], [], [], [], [], [5067], [], [], [5066], [], [], [], [], [5051]]
  | none => false) = true := by decide +kernel
set_option maxRecDepth 100000 in
theorem okX11_adds : (match mtab[179]? with
  | some mi => acokB mi [[], [], [5066], [], [], [5066], [], [5066], [], [], [], [], [], [], [], [], [5067], [], [], [5067], [], [], [], [], [], [], [], [], [], [5066], [], [], [5066]]
  | none => false) = true := by decide +kernel
set_option maxRecDepth 100000 in
theorem okX11_counts : (match mtab[180]? with
  | some mi => acokB mi [[], [], [], [], [], [], [6175, 6177, 54]]
  | none => false) = true := by decide +kernel
set_option maxRecDepth 100000 in
theorem okX11_undo : (match mtab[181]? with
  | some mi => acokB mi [[], [], [5037], [], [5066], [], [], [], [], [], [5066], [], [], [5066], [], [], [], [], [], [], [5051], [], [], [5067], [], [], [5066], [], [], [], [], [], [], [], [], [5066]]
  | none => false) = true := by decide +kernel
set_option maxRecDepth 100000 in
theorem okX11_put : (match mtab[182]? with
  | some mi => acokB mi [[], [], [], [5220], [6134]]
  | none => false) = true := by decide +kernel
set_option maxRecDepth 100000 in
theorem okX11_doesDue : (match mtab[183]? with
  | some mi => acokB mi [[], [], [], [], [], [], [], [], [], [], [], [], [], [], [], [], [], [], [], [], [], [], [], [], [], [], [], [], [], [], [], [], [], [], [], [6212, 6213]]
  | none => false) = true := by decide +kernel
set_option maxRecDepth 100000 in
theorem okX11_hitsAt : (match mtab[184]? with
  | some mi => acokB mi [[], [], [], [], [], [], [5043], [], [], [], [5048], [], [], [], [], [], [5049], [], [], [], [], [], [], [], [5239, 6000]]
  | none => false) = true := by decide +kernel
set_option maxRecDepth 100000 in
theorem okX11_stepGoes : (match mtab[185]? with
  | some mi => acokB mi [[], [], [], [], [], [], [], [], [6209, 6210], [], [], [], [], [], [], [], [6215, 6217, 59], [], [], [], [], [], [], [], [], [], [], [5068], [], [], [5068], [], [], [], [], [5044], [], [], [], [], [], [], [], [5050], [], [], [], [], [], [], [], [], [], [], [], [], [], [], [5239, 6000], [], [], [], [], [5069], [], [5239, 6000], [], [5069], [], [], [], [], [], [], [], [], [], [], [], [], [], [], [5050]]
  | none => false) = true := by decide +kernel
set_option maxRecDepth 100000 in
theorem okX11_gives : (match mtab[186]? with
  | some mi => acokB mi [[], [], [6166], [], [5209, 5210], [], [], [], [], [], [], [], [], [], [], [], [], [], [], [], [], [], [], [], [], [], [], [], [6143, 6145, 48], [], [], [], [], [], [], [], [], [], [], [], [], [], [], [], [], [], [], [], [], [], [], [], [], [], [6167, 6169, 52]]
  | none => false) = true := by decide +kernel
set_option maxRecDepth 100000 in
theorem okX11_passes : (match mtab[187]? with
  | some mi => acokB mi [[], [], [], [], [], [], [], [], [], [], [], [], [], [6116, 6118, 46], [], [], [], [], [], [5209, 5210], [], [], [], [6116, 6118, 46], [], [], [], [], [6187], [5209, 5210], [], [], [], [], [5051], [], [], [], [], [], [], [], [], [], [5051], [], [], [], [], [], [], [], [], [], [], [], [5051], [], [], [], [], [], [], [], [], [], [5051], [], [], [], [], [], [], [], [], [], [5051]]
  | none => false) = true := by decide +kernel
set_option maxRecDepth 100000 in
theorem okX11_cooks : (match mtab[188]? with
  | some mi => acokB mi [[], [], [6116, 6118, 46], [], [], [], [], [6187], [5209, 5210], [], [], [], [], [5051], [], [], [], [], [], [], [5051]]
  | none => false) = true := by decide +kernel
set_option maxRecDepth 100000 in
theorem okX11_delay : (match mtab[189]? with
  | some mi => acokB mi [[], [], [5037], [], [], [5051], [], [], [6143, 6145, 48]]
  | none => false) = true := by decide +kernel
set_option maxRecDepth 100000 in
theorem okX11_order : (match mtab[190]? with
  | some mi => acokB mi [[], [], [5037], [], [6158, 6160, 50], [], [], [], [5051], [], [6162, 6164, 51], [6171, 6173, 53]]
  | none => false) = true := by decide +kernel
set_option maxRecDepth 100000 in
theorem okX11_pass : (match mtab[191]? with
  | some mi => acokB mi [[], [], [5037], [], [6158, 6160, 50], [], [], [], [], [], [6183, 6185, 55], [6171, 6173, 53]]
  | none => false) = true := by decide +kernel
set_option maxRecDepth 100000 in
theorem okX11_cook : (match mtab[192]? with
  | some mi => acokB mi [[], [], [5037], [], [6158, 6160, 50], [], [], [], [], [6192, 6194, 56], [6171, 6173, 53]]
  | none => false) = true := by decide +kernel
set_option maxRecDepth 100000 in
theorem okX11_startsCounting : (match mtab[193]? with
  | some mi => acokB mi [[], [], [5068], [], [], [5069]]
  | none => false) = true := by decide +kernel
set_option maxRecDepth 100000 in
theorem okX11_steps : (match mtab[194]? with
  | some mi => acokB mi [[], [], [5037], [], [], [], [6200], [5209, 5210], [], [], [], [], [6158, 6160, 50], [], [6201, 6203, 57], [], [], [], [], [], [], [], [5051], [6205, 6207, 58], [], [], [], [], [5038], [], [], [5068], [], [6219, 6221, 60], [], [], [5069], [], [6219, 6221, 60], [], [], [5051], [], [], [6175, 6177, 54]]
  | none => false) = true := by decide +kernel
set_option maxRecDepth 100000 in
theorem okX11_readsAct : (match mtab[195]? with
  | some mi => acokB mi [[], [5072], [], [], [], [6015, 6017, 39], [], [], [], [], [], [], [], [5072], [], [], [5072], [], [5070], [], [], [], [], [], [], [], [], [], [], [], [], [], [], [5071], [], [], [], [], [], [], [], [], [], [], [], [], [], [5225, 5227, 34], [], [], [], [], [], [], [], [], [], [5071]]
  | none => false) = true := by decide +kernel
set_option maxRecDepth 100000 in
theorem okX11_does : (match mtab[196]? with
  | some mi => acokB mi [[], [5070], [], [], [], [], [], [5051], [], [5071], [], [], [6162, 6164, 51], [], [], [], [], [], [], [5070], [], [], [], [], [], [], [5071], [], [], [], [], [6183, 6185, 55], [], [], [], [], [], [], [], [], [], [5071], [], [], [], [], [], [5051], [6205, 6207, 58]]
  | none => false) = true := by decide +kernel
set_option maxRecDepth 100000 in
theorem okX11_voyage : (match mtab[197]? with
  | some mi => acokB mi [[], [], [5037], [], [], [5216, 5218, 32], [], [], [], [5072], [], [], [], [], [], [5055], [], [5056], [], [], [6227, 6229, 61], [], [], [], [], [], [], [6002, 6004, 37], [], [], [], [], [], [], [6158, 6160, 50], [], [6201, 6203, 57], [], [], [], [], [5072], [], [], [], [6232, 6234, 62], [], [], [], [], [], [5038], [], [], [], [5072], [], [], [], [], [5239, 6000], [], [6219, 6221, 60], [], [], [5068], [], [6219, 6221, 60], [], [], [], [], [6175, 6177, 54]]
  | none => false) = true := by decide +kernel
set_option maxRecDepth 100000 in
theorem okX11_puts : (match mtab[198]? with
  | some mi => acokB mi [[], [], [], [], [], [], [5052], [], [], [5051]]
  | none => false) = true := by decide +kernel
set_option maxRecDepth 100000 in
theorem okX11_lane : (match mtab[199]? with
  | some mi => acokB mi [[], [], [5037], [], [], [], [6200], [5209, 5210], [], [], [], [], [7000, 7002, 63], [], [6201, 6203, 57], [], [], [], [], [], [], [], [5052], [6205, 6207, 58], [], [], [], [], [5038], [], [], [5068], [], [6219, 6221, 60], [], [5052]]
  | none => false) = true := by decide +kernel
set_option maxRecDepth 100000 in
theorem okX11_strikes : (match mtab[200]? with
  | some mi => acokB mi [[], [], [5037], [], [7000, 7002, 63], [], [], [], [], [], [], [], [5052], [6205, 6207, 58], [], [], [], [], [5043], [], [], [5048], [], [], [], [5052], [], [], [], [], [5049], [], [], [], [5052], [], [], [], [], [], [5038], [], [], [], [6219, 6221, 60]]
  | none => false) = true := by decide +kernel
set_option maxRecDepth 100000 in
theorem okX11_moved : (match mtab[201]? with
  | some mi => acokB mi [[], [], [], [], [], [], [], [], [], [], [7019, 7020], [], [], [], [], [], [6212, 6213]]
  | none => false) = true := by decide +kernel
set_option maxRecDepth 100000 in
theorem okX11_movedByDue : (match mtab[202]? with
  | some mi => acokB mi [[], [], [], [], [], [], [5051], [], [], [], [], [], [], [], [], [], [], [5051], [], [], [], [], [], [5051], [], [], [], [], [], [], [], [5051], [], [], [], [], [7016, 7017]]
  | none => false) = true := by decide +kernel
set_option maxRecDepth 100000 in
theorem okX11_mayGive : (match mtab[203]? with
  | some mi => acokB mi [[], [], [], [5051], [], [], [], [5051]]
  | none => false) = true := by decide +kernel
end
section
/-! ROWS IN ORDER, 3 -/
set_option maxRecDepth 100000 in
theorem okX11_comesAt : (match mtab[204]? with
  | some mi => acokB mi [[], [], [7026, 7028, 66], [], [], [], [], [5051], [], [], [], [], [6143, 6145, 48]]
  | none => false) = true := by decide +kernel
set_option maxRecDepth 100000 in
theorem okX11_clears : (match mtab[205]? with
  | some mi => acokB mi [[], [], [5037], [], [], [], [], [], [], [], [], [5043], [], [], [5048], [], [], [], [5051], [], [], [], [], [], [], [], [], [], [], [], [5048], [], [], [], [5051], [], [], [], [6134], [], [], [], [], [], [], [], [], [], [], [], [], [], [], [], [], [], [], [], [5051], [], [], [], [], [], [], [], [], [], [], [], [], [7012, 7014, 64], [], [], [], [], [], [6134], [], [], [], [], [], [], [], [], [7022, 7024, 65], [], [], [], [7016, 7017], [], [], [7016, 7017], [], [], [], [], [], [], [], [], [], [], [], [5043], [], [], [5048], [], [], [], [5051], [], [], [], [], [], [], [], [], [], [], [], [], [], [], [], [5049], [], [], [], [], [], [], [], [], [], [], [], [], [], [], [], [], [], [], [], [], [5038], [], [], [], [], [], [], [], [6219, 6221, 60]]
  | none => false) = true := by decide +kernel
set_option maxRecDepth 100000 in
theorem okX11_goesBy : (match mtab[206]? with
  | some mi => acokB mi [[], [], [], [], [], [], [5075], [], [], [], [], [], [], [], [], [], [], [], [], [], [], [], [], [], [], [], [], [], [], [], [], [], [], [6212, 6213], [], [], [5075], [], [], [5075], [], [], [], [5074], [], [], [], [], [], [], [], [], [], [5239, 6000], [], [5220], [], [], [], [], [], [], [], [], [], [], [], [5074], [], [], [5075]]
  | none => false) = true := by decide +kernel
set_option maxRecDepth 100000 in
theorem okX11_laysLeast : (match mtab[207]? with
  | some mi => acokB mi [[], [], [], [], [], [], [5074], [], [], [], [5051], [], [], [], [], [], [], [], [], [], [], [], [], [], [], [], [], [], [], [5051], [], [], [], [], [], [], [], [], [], [], [5051], [], [], [], [], [], [5051], [], [], [], [], [], [], [], [5051], [], [], [], [], [], [7047, 7049, 70], [], [], [], [], [], [], [], [], [], [], [7022, 7024, 65], [], [], [], [], [5073], [], [], [6167, 6169, 52], [], [5073], [], [], [], [], [], [], [], [7047, 7049, 70], [], [], [], [], [], [], [], [], [5074], [], [], [], [5051], [], [], [], [], [], [6215, 6217, 59], [], [], [], [], [5074]]
  | none => false) = true := by decide +kernel
set_option maxRecDepth 100000 in
theorem okX11_fewestOrders : (match mtab[208]? with
  | some mi => acokB mi [[], [], [7043, 7045, 69], [], [], [], [], [], [], [], [], [], [5074], [], [], [5220]]
  | none => false) = true := by decide +kernel
set_option maxRecDepth 100000 in
theorem okX11_choosesAny : (match mtab[209]? with
  | some mi => acokB mi [[], [], [], [], [], [], [5073]]
  | none => false) = true := by decide +kernel
set_option maxRecDepth 100000 in
theorem okX11_plan : (match mtab[210]? with
  | some mi => acokB mi [[], [], [5037], [], [], [], [7034], [5209, 5210], [], [], [], [], [], [7035, 7037, 67], [], [], [7039, 7041, 68], [], [], [], [], [], [], [], [], [], [], [5038], [], [], [], [], [], [], [], [7026, 7028, 66], [], [], [], [], [5051], [], [], [], [], [6143, 6145, 48], [], [], [], [], [], [], [], [], [], [], [], [], [], [], [], [], [], [], [5073], [], [], [], [], [], [], [], [7039, 7041, 68], [], [], [], [], [], [5239, 6000], [], [], [], [], [], [], [], [], [], [], [], [], [], [5239, 6000], [], [], [], [], [], [], [], [], [], [5239, 6000], [], [], [], [], [], [6219, 6221, 60]]
  | none => false) = true := by decide +kernel
set_option maxRecDepth 100000 in
theorem okX11_latest : (match mtab[211]? with
  | some mi => acokB mi [[], [], [5037], [], [], [], [7034], [5209, 5210], [], [], [], [], [], [], [], [], [], [], [], [7035, 7037, 67], [], [], [7039, 7041, 68]]
  | none => false) = true := by decide +kernel
set_option maxRecDepth 100000 in
theorem okX11_lanes : (match mtab[212]? with
  | some mi => acokB mi [[], [], [5037], [], [], [], [7034], [5209, 5210], [], [], [], [], [], [7035, 7037, 67], [], [], [7043, 7045, 69], [], [], [], [], [], [], [], [], [], [5074], [], [], [], [], [], [], [], [], [], [], [], [], [], [], [], [5038], [], [], [7059, 3223], [], [6219, 6221, 60]]
  | none => false) = true := by decide +kernel
set_option maxRecDepth 100000 in
theorem okX11_rocksIn : (match mtab[213]? with
  | some mi => acokB mi [[], [], [], [], [], [], [5043], [], [], [], [5049], [], [], [], [], [], [5048], [], [], [], [], [5051], [], [], [], [], [], [], [5051], [], [], [], [], [], [], [5209, 5210], [], [], [], [], [5239, 6000]]
  | none => false) = true := by decide +kernel
set_option maxRecDepth 100000 in
theorem okX11_safest : (match mtab[214]? with
  | some mi => acokB mi [[], [], [5037], [], [], [], [7064], [5209, 5210], [], [], [], [], [], [], [], [], [], [], [], [], [], [7065, 7067, 71], [], [], [], [7065, 7067, 71], [], [], [], [], [5051], [], [], [], [7069], [], [], [5051], [], [], [], [7069], [], [], [], [], [], [], [], [], [], [], [], [], [], [], [], [], [5038], [], [], [], [], [7065, 7067, 71], [], [6219, 6221, 60], [], [], [], [5051], [], [], [], [7065, 7067, 71], [], [6219, 6221, 60]]
  | none => false) = true := by decide +kernel
set_option maxRecDepth 100000 in
theorem okX11_late : (match mtab[215]? with
  | some mi => acokB mi [[], [], [5037], [], [], [], [7034], [5209, 5210], [], [], [], [], [], [5038], [], [], [], [], [], [], [], [], [], [], [5051], [], [], [], [], [6143, 6145, 48], [], [], [], [], [], [], [], [], [], [], [], [], [], [], [], [], [5051], [], [], [], [], [6143, 6145, 48], [], [], [], [], [], [], [], [], [], [], [], [5239, 6000], [], [], [], [], [], [6219, 6221, 60]]
  | none => false) = true := by decide +kernel
set_option maxRecDepth 100000 in
theorem okX11_comes : (match mtab[216]? with
  | some mi => acokB mi [[], [], [5037], [], [], [], [7078], [5209, 5210], [], [], [], [], [5040], [], [], [], [5040], [], [], [], [], [], [], [5051], [], [], [6143, 6145, 48], [], [5220], [], [], [], [], [], [], [], [], [], [5041], [], [], [], [5046], [], [], [], [], [], [], [], [5239, 6000], [], [], [], [], [5046], [], [], [], [], [], [5047], [], [], [], [], [], [], [5239, 6000], [], [], [], [], [], [], [5038], [], [], [], [6219, 6221, 60], [], [], [], [], [], [6219, 6221, 60]]
  | none => false) = true := by decide +kernel
set_option maxRecDepth 100000 in
theorem okX11_postsFor : (match mtab[217]? with
  | some mi => acokB mi [[], [5040]]
  | none => false) = true := by decide +kernel
set_option maxRecDepth 100000 in
theorem okX11_relay : (match mtab[218]? with
  | some mi => acokB mi [[], [], [5037], [], [], [], [7083], [5209, 5210], [], [], [], [], [], [5040], [], [], [], [], [], [], [], [], [], [7084, 7086, 72], [], [], [], [], [], [], [5038], [], [], [], [], [], [], [], [], [], [], [], [5040], [], [], [], [], [], [], [], [], [], [], [6134], [], [], [], [], [6219, 6221, 60]]
  | none => false) = true := by decide +kernel
set_option maxRecDepth 100000 in
theorem okX11_fewest : (match mtab[219]? with
  | some mi => acokB mi [[], [], [5037], [], [], [], [7092], [5209, 5210], [], [], [], [7084, 7086, 72]]
  | none => false) = true := by decide +kernel
set_option maxRecDepth 100000 in
theorem okX11_bets : (match mtab[220]? with
  | some mi => acokB mi [[], [], [5076], [], [], [5077], [], [], [], [], [], [], [], [5077], [7083], [], [5077], [], [], [], [], [], [], [], [], [], [], [], [], [], [], [], [], [], [], [], [], [], [], [], [], [], [], [], [], [], [], [], [], [], [], [], [], [], [], [], [], [], [], [], [], [], [], [], [], [], [], [], [], [5076], [], [], [5076]]
  | none => false) = true := by decide +kernel
set_option maxRecDepth 100000 in
theorem okX11_word : (match mtab[221]? with
  | some mi => acokB mi [[], [], [5037], [], [], [], [7097], [5209, 5210], [], [], [], [], [], [], [], [], [7083], [5209, 5210], [], [], [], [], [], [], [7098, 7100, 73], [], [], [5076], [], [5077], [7102, 7104, 74]]
  | none => false) = true := by decide +kernel
set_option maxRecDepth 100000 in
theorem okX11_survives : (match mtab[222]? with
  | some mi => acokB mi [[], [], [5037], [], [], [], [7083], [5209, 5210], [], [], [], [], [7113], [5209, 5210], [], [], [], [], [], [], [], [], [], [], [], [7098, 7100, 73], [7113], [], [5076], [], [], [], [], [5077]]
  | none => false) = true := by decide +kernel
set_option maxRecDepth 100000 in
theorem okX11_lastsFor : (match mtab[223]? with
  | some mi => acokB mi [[], [], [], [], [], [], [], [], [], [], [], [5051], [], [], [], [], [], [], [], [], [5050], [], [], [], [], [], [], [], [], [7122]]
  | none => false) = true := by decide +kernel
set_option maxRecDepth 100000 in
theorem okX11_lives : (match mtab[224]? with
  | some mi => acokB mi [[], [], [5037], [], [], [], [6133], [5209, 5210], [], [], [5044], [], [], [], [], [], [], [], [], [], [5044], [], [], [7118, 7120, 75], [], [7122], [], [], [], [], [], [7122], [], [], [], [], [], [], [], [], [], [5044], [], [], [], [], [], [], [], [], [], [], [], [], [], [], [], [5044], [], [], [], [], [7118, 7120, 75], [], [], [], [], [], [], [], [], [], [], [5220], [], [], [], [], [], [5038], [], [], [], [6219, 6221, 60]]
  | none => false) = true := by decide +kernel
set_option maxRecDepth 100000 in
theorem okX11_spare : (match mtab[225]? with
  | some mi => acokB mi [[], [5051], [], [], [], [], [], [], [5050]]
  | none => false) = true := by decide +kernel
set_option maxRecDepth 100000 in
theorem okX11_laysFlows : (match mtab[226]? with
  | some mi => acokB mi [[], [], [], [], [], [], [5078], [], [], [5044], [], [], [], [], [], [], [], [], [], [], [5044], [], [], [], [7127, 7129, 76], [], [], [], [], [7135], [], [], [], [], [5044], [], [], [], [], [], [7135], [], [], [], [], [], [], [], [], [], [], [], [], [], [], [], [], [7127, 7129, 76], [], [], [], [], [], [], [7136, 7138, 78], [5220], [], [], [], [], [5078]]
  | none => false) = true := by decide +kernel
set_option maxRecDepth 100000 in
theorem okX11_flow : (match mtab[227]? with
  | some mi => acokB mi [[], [7069], [], [5078]]
  | none => false) = true := by decide +kernel
set_option maxRecDepth 100000 in
theorem okX11_shares : (match mtab[228]? with
  | some mi => acokB mi [[], [], [5037], [], [], [], [6187], [5209, 5210], [], [], [5044], [], [], [], [], [], [], [], [], [], [5044], [], [], [], [], [], [7127, 7129, 76], [], [], [], [], [], [], [], [], [], [], [7131, 7133, 77], [], [], [5038], [], [], [], [], [], [], [5044], [], [], [], [], [], [], [], [], [7136, 7138, 78], [], [5078], [], [], [], [], [], [], [], [], [], [], [], [], [], [], [6219, 6221, 60], [], [], [], [], [], [5078]]
  | none => false) = true := by decide +kernel
set_option maxRecDepth 100000 in
theorem okX11_fast : (match mtab[229]? with
  | some mi => acokB mi [[], [], [5037], [], [], [], [6187], [5209, 5210], [], [], [5044], [], [], [], [], [], [], [], [], [], [5044], [], [], [], [5051], [], [], [], [], [], [], [], [], [], [], [], [], [], [], [], [], [], [5044], [], [], [], [], [], [], [], [], [5044], [], [], [], [], [7019, 7020], [], [], [], [], [], [5050], [], [], [], [], [], [], [], [], [], [], [7059, 3223], [], [7059, 3223], [], [], [], [], [], [], [], [], [], [], [], [], [], [], [], [], [], [], [], [], [], [], [], [], [], [5038], [], [], [7059, 3223], [], [6219, 6221, 60], [], [], [], [6219, 6221, 60]]
  | none => false) = true := by decide +kernel
set_option maxRecDepth 100000 in
theorem okX11_seenIn : (match mtab[230]? with
  | some mi => acokB mi [[], [], [], [], [], [], [5079], [], [], [5080], [], [], [], [], [], [5081]]
  | none => false) = true := by decide +kernel
set_option maxRecDepth 100000 in
theorem okX11_seen : (match mtab[231]? with
  | some mi => acokB mi [[], [], [5037], [], [], [], [7148], [5209, 5210], [], [], [], [], [7149], [5209, 5210], [], [], [], [], [], [7150, 7152, 79], [], [], [], [], [], [], [], [5079], [], [], [], [], [5079], [], [], [], [], [], [5080], [], [5079], [], [], [], [5081], [], [5079], [], [], [], [], [5079], [], [], [5079], [], [5079]]
  | none => false) = true := by decide +kernel
set_option maxRecDepth 100000 in
theorem okX11_forget : (match mtab[232]? with
  | some mi => acokB mi [[], [], [5037], [], [5079], [], [], [], [5079]]
  | none => false) = true := by decide +kernel
set_option maxRecDepth 100000 in
theorem okX11_lastSeen : (match mtab[233]? with
  | some mi => acokB mi [[], [], [], [], [], [], [5079], [], [], [], [5080], [], [], [6134]]
  | none => false) = true := by decide +kernel
set_option maxRecDepth 100000 in
theorem okX11_isFine : (match mtab[234]? with
  | some mi => acokB mi [[], [], [7150, 7152, 79], [], [], [], [7150, 7152, 79]]
  | none => false) = true := by decide +kernel
set_option maxRecDepth 100000 in
theorem okX11_laysSeen : (match mtab[235]? with
  | some mi => acokB mi [[], [], [], [], [], [], [], [], [], [], [], [], [], [], [], [], [5082], [], [], [], [], [], [], [], [], [], [5083], [], [], [], [], [], [], [], [], [], [], [], [], [], [], [], [], [], [5082], [], [], [], [], [5082], [], [], [], [], [], [], [], [], [6212, 6213], [], [], [], [], [], [5083], [], [], [5083], [], [], [], [], [5083], [], [], [], [], [], [], [], [], [6212, 6213], [], [], [], [], [], [], [], [], [], [], [5082], [], [], [], [], [7170, 7172, 82], [], [7135], [], [5082], [], [], [5220], [], [], [], [], [5083], [], [], [5083], [], [], [], [], [], [], [7170, 7172, 82]]
  | none => false) = true := by decide +kernel
set_option maxRecDepth 100000 in
theorem okX11_ordered : (match mtab[236]? with
  | some mi => acokB mi [[], [], [5037], [], [7162, 7164, 80], [], [], [], [], [], [], [], [7166, 7168, 81], [], [], [5038], [], [], [], [], [], [], [], [], [5083], [], [], [], [], [], [], [5083], [], [], [], [], [], [], [6212, 6213], [], [], [], [], [], [], [], [], [6219, 6221, 60], [], [], [], [6212, 6213], [], [], [], [], [5082]]
  | none => false) = true := by decide +kernel
set_option maxRecDepth 100000 in
theorem okX11_unsure : (match mtab[237]? with
  | some mi => acokB mi [[], [], [5037], [], [7162, 7164, 80], [], [], [], [], [], [], [], [7166, 7168, 81], [], [], [], [], [], [], [], [], [], [], [5083], [], [], [], [], [], [], [], [], [], [], [], [], [], [], [], [], [], [], [], [], [], [], [], [], [], [], [], [], [], [5084], [], [], [], [], [], [], [], [], [], [], [], [], [6212, 6213], [], [], [], [], [], [], [], [], [6212, 6213], [], [], [], [], [], [], [], [], [], [5084], [], [], [], [], [], [], [], [], [5083], [], [], [], [], [], [], [], [], [], [], [], [], [], [5084], [], [], [], [], [], [], [], [], [], [], [], [], [], [], [], [], [], [7059, 3223], [], [7059, 3223], [], [], [], [], [], [], [], [], [], [], [], [], [], [5038], [], [], [], [6219, 6221, 60]]
  | none => false) = true := by decide +kernel
set_option maxRecDepth 100000 in
theorem okX11_boyBegins : (match mtab[238]? with
  | some mi => acokB mi [[], [], [5085], [], [], [5086]]
  | none => false) = true := by decide +kernel
set_option maxRecDepth 100000 in
theorem okX11_boyGoes : (match mtab[239]? with
  | some mi => acokB mi [[], [], [5085], [], [5086], [], [5085], [], [], [5085], [], [5040], [], [], [], [], [], [], [5085], [], [], [], [], [5086], [5086]]
  | none => false) = true := by decide +kernel
set_option maxRecDepth 100000 in
theorem okX11_canRest : (match mtab[240]? with
  | some mi => acokB mi [[], [], [6120], [7186], [5209, 5210]]
  | none => false) = true := by decide +kernel
set_option maxRecDepth 100000 in
theorem okX11_boy : (match mtab[241]? with
  | some mi => acokB mi [[], [], [5037], [], [], [], [7182], [5209, 5210], [], [], [7183, 7184], [], [], [], [], [], [], [7187, 7189, 83], [], [], [], [], [], [], [], [], [], [], [7191, 7193, 84], [], [], [], [], [5038], [], [], [5086], [], [6219, 6221, 60], [], [5085]]
  | none => false) = true := by decide +kernel
set_option maxRecDepth 100000 in
theorem okX11_meets : (match mtab[242]? with
  | some mi => acokB mi [[], [], [5037], [], [7183, 7184], [], [], [], [], [5040], [], [], [], [], [], [], [], [], [7187, 7189, 83], [], [], [], [], [], [], [], [], [], [], [7191, 7193, 84], [], [], [], [], [], [], [5040], [], [], [], [], [], [], [], [], [], [], [], [], [], [5085], [], [], [], [5038], [], [], [], [6219, 6221, 60]]
  | none => false) = true := by decide +kernel
set_option maxRecDepth 100000 in
theorem okX11_knows : (match mtab[243]? with
  | some mi => acokB mi [[], [], [5037], [], [], [], [7078], [5209, 5210], [], [], [], [], [7083], [5209, 5210], [], [], [], [], [], [], [7083], [], [], [], [], [], [], [], [], [], [], [], [], [], [], [7083], [], [], [], [], [], [], [], [7102, 7104, 74]]
  | none => false) = true := by decide +kernel
set_option maxRecDepth 100000 in
theorem okX11_keeps : (match mtab[244]? with
  | some mi => acokB mi []
  | none => false) = true := by decide +kernel
set_option maxRecDepth 100000 in
theorem okX11_isRest : (match mtab[245]? with
  | some mi => acokB mi [[], [], [], [], [], [], [], [5220], [], [], [], [], [], [], [], [7212, 7213], [], [], [], [], [7212, 7213]]
  | none => false) = true := by decide +kernel
set_option maxRecDepth 100000 in
theorem okX11_mutiny : (match mtab[246]? with
  | some mi => acokB mi [[], [], [5037], [], [], [], [7207], [5209, 5210], [], [], [], [], [7207], [5209, 5210], [], [], [], [], [7208], [5209, 5210], [], [], [], [], [], [], [], [5038], [], [], [], [], [], [5220], [], [], [], [], [], [], [5220], [], [], [], [], [], [7209, 7210], [], [], [], [], [], [7209, 7210], [], [], [], [], [], [], [6219, 6221, 60], [], [], [], [6219, 6221, 60]]
  | none => false) = true := by decide +kernel
set_option maxRecDepth 100000 in
theorem okX11_chance : (match mtab[247]? with
  | some mi => acokB mi [[], [], [5037], [], [], [], [7078], [5209, 5210], [], [], [], [], [7083], [5209, 5210], [], [], [], [], [7078], [5209, 5210], [], [], [], [], [], [], [], [], [], [], [], [], [], [], [], [5051], [], [], [6143, 6145, 48], [], [], [], [], [], [], [], [], [], [7083], [], [], [], [], [], [], [], [7102, 7104, 74]]
  | none => false) = true := by decide +kernel
set_option maxRecDepth 100000 in
theorem okX11_voyages : (match mtab[248]? with
  | some mi => acokB mi [[], [], [5037], [], [], [], [6200], [5209, 5210], [], [], [], [], [], [], [], [], [7000, 7002, 63], [], [6201, 6203, 57], [], [], [], [], [], [], [7223], [], [], [], [], [], [], [], [], [], [], [], [], [], [], [], [], [5052], [], [], [], [], [], [6162, 6164, 51], [], [], [], [], [5239, 6000], [], [], [], [], [5052], [6205, 6207, 58], [], [], [], [], [5038], [], [], [5052], [], [], [], [6219, 6221, 60], [], [], [], [6219, 6221, 60], [], [5068]]
  | none => false) = true := by decide +kernel
set_option maxRecDepth 100000 in
theorem okX11_keep : (match mtab[249]? with
  | some mi => acokB mi [[], [], [5037], [], [], [], [6120], [5209, 5210], [], [], [], [], [5087], [], [], [], [], [5088], [], [], [5045], [], [], [], [], [], [], [], [5089], [], [], [], [], [], [], [5051]]
  | none => false) = true := by decide +kernel
end
section
/-! ROWS IN ORDER, 4 -/
set_option maxRecDepth 100000 in
theorem okX11_again : (match mtab[250]? with
  | some mi => acokB mi [[], [], [5037], [], [], [], [6120], [5209, 5210], [], [], [5087], [], [], [], [], [5088], [], [], [], [5045], [], [], [], [], [], [], [], [], [], [5051], [], [], [5089], [], [], [], [], [], [], [], [], [], [], [], [5066]]
  | none => false) = true := by decide +kernel
set_option maxRecDepth 100000 in
theorem okX11_count : (match mtab[251]? with
  | some mi => acokB mi [[], [], [5037], [], [66], [], [5040], [], [], [5041], [], [], [5042], [], [], [5043], [], [], [5044], [], [], [5051], [], [], [], [], [5051], [], [], [], [], [5051], [], [], [], [], [5051], [], [], [], [], [5079], [], [], [5066], [], [], [5038], [], [], [5054]]
  | none => false) = true := by decide +kernel
set_option maxRecDepth 100000 in
theorem okX11_row : (match mtab[252]? with
  | some mi => acokB mi [[], [], [5037], [], [], [], [], [5038], [], [], [], [5209, 5210], [], [], [], [5037], [], [], [], [5039]]
  | none => false) = true := by decide +kernel
set_option maxRecDepth 100000 in
theorem okJ6_bitCount_0f7a4 : (match mtab[253]? with
  | some mi => acokB mi [[], [], [], [], [3225], [], [], [], [], [3226], [], [], [], [], [3226], [], [], [], [], [], [], [], [], [3227]]
  | none => false) = true := by decide +kernel
set_option maxRecDepth 100000 in
theorem okJ0_length_8abf5 : (match mtab[254]? with
  | some mi => acokB mi []
  | none => false) = true := by decide +kernel
set_option maxRecDepth 100000 in
theorem okJ0_charAt_5068e : (match mtab[255]? with
  | some mi => acokB mi []
  | none => false) = true := by decide +kernel
set_option maxRecDepth 100000 in
theorem okJ7_fill_53178 : (match mtab[256]? with
  | some mi => acokB mi []
  | none => false) = true := by decide +kernel
end
