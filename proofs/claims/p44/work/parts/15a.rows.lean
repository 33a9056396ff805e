/-! ROWS IN ORDER, 0 -/
set_option maxRecDepth 100000 in
theorem okX0_init : (match mtab[0]? with
  | some mi => acokB mi [[], [2015], [], [], [1111], [2016], [], [], [1111], [2018], [], [], [1111], [2020], [], [], [1111], [2022], [], [], [1111], [2024]]
  | none => false) = true := by decide +kernel
set_option maxRecDepth 100000 in
theorem okX0_isOvertaken : (match mtab[1]? with
  | some mi => acokB mi [[], [], [], [], [], [], [], [], [2016], [], [], [], [2016]]
  | none => false) = true := by decide +kernel
set_option maxRecDepth 100000 in
theorem okX0_reach : (match mtab[2]? with
  | some mi => acokB mi [[], [2020], [], [], [], [1184], [], [], [], [], [], [], [], [], [], [], [2020], [], [], [], [], [], [], [], [1190], [], [], [1193], [], [], [], [1181], [], [], [], [], [], [1196], [], [], [3173, 3174], [], [], [], [], [], [], [], [3176], [], [], [], [], [], [2016], [], [], [], [], [], [0, 3178], [], [], [], [], [], [], [2020], [], [], [], [], [], [2018]]
  | none => false) = true := by decide +kernel
set_option maxRecDepth 100000 in
theorem okX0_moved : (match mtab[3]? with
  | some mi => acokB mi []
  | none => false) = true := by decide +kernel
set_option maxRecDepth 100000 in
theorem okX0_freeOrders : (match mtab[4]? with
  | some mi => acokB mi [[], [], [], [], [], [], [2022], [], [], [], [], [], [2016]]
  | none => false) = true := by decide +kernel
set_option maxRecDepth 100000 in
theorem okX0_fewestOrders : (match mtab[5]? with
  | some mi => acokB mi [[], [2024], [], [3192, 2049], [], [2024], [], [1184], [], [], [], [], [], [], [], [], [], [], [], [1190], [], [], [1193], [], [], [], [1181], [], [], [], [], [], [1196], [], [], [3193, 3195, 18], [], [], [], [], [], [], [3176], [], [], [], [], [], [2016], [], [], [], [], [], [], [2022], [], [], [3199, 3201, 19], [], [], [], [], [], [], [], [], [2024], [], [], [2018], [], [], [], [], [], [], [], [], [], [], [], [2024], [], [], [], [], [], [], [], [], [], [], [], [], [], [], [], [], [2024], [], [], [3197]]
  | none => false) = true := by decide +kernel
set_option maxRecDepth 100000 in
theorem okX0_doChosen : (match mtab[6]? with
  | some mi => acokB mi [[], [], [], [], [], [], [], [], [], [], [], [2024], [], [], [], [], [], [], [], [2024], [], [], [], [], [], [], [], [], [2024], [], [], [], [], [], [3197], [], [3197], [], [], [], [], [], [], [], [], [], [], [2025], [], [], [], [], [], [3193, 3195, 18], [], [], [], [], [], [], [2024]]
  | none => false) = true := by decide +kernel
set_option maxRecDepth 100000 in
theorem okX0_moveCosts : (match mtab[7]? with
  | some mi => acokB mi [[], [], [], [2024], [], [], [2024], [], [], [], [2024], [], [], [3197], [], [], [2024], [], [], [2024], [], [], [3198], [], [2024], [], [], [], [], [], [], [], [2024], [], [], [2024], [], [], [], [2024], [], [], [3197], [], [], [2024], [], [], [2024], [], [], [3198], [], [2024]]
  | none => false) = true := by decide +kernel
set_option maxRecDepth 100000 in
theorem okX0_chooseLeastRow : (match mtab[8]? with
  | some mi => acokB mi [[], [], [], [], [], [], [], [], [2022], [], [], [], [], [], [2022], [], [], [], [], [], [], [], [], [], [], [], [3207, 3209, 20], [], [], [], [2022]]
  | none => false) = true := by decide +kernel
set_option maxRecDepth 100000 in
theorem okX0_leastChoice : (match mtab[9]? with
  | some mi => acokB mi [[], [], [], [], [], [2022], [], [], [], [], [], [], [3211, 3189, 3190]]
  | none => false) = true := by decide +kernel
set_option maxRecDepth 100000 in
theorem okX1_init : (match mtab[10]? with
  | some mi => acokB mi [[], [1226], [], [], [1227], [1230], [], [], [1227], [1234], [], [], [2009], [1236], [], [], [], [], [], [], [1230], [], [1227, 1175, 1008], [], [0, 1177], [], [], [], [], [], [], [], [], [], [1234], [], [1227, 1175, 1008], [], [0, 1177]]
  | none => false) = true := by decide +kernel
set_option maxRecDepth 100000 in
theorem okX1_remember : (match mtab[11]? with
  | some mi => acokB mi [[], [1230], [], [1231], [], [1232], [], [], [], [], [], [3055, 3056, 3057], [], [1232], [], [], [], [], [1232], [], [], [1232], [], [], [], [1231], [], [], [], [], [1231]]
  | none => false) = true := by decide +kernel
set_option maxRecDepth 100000 in
theorem okX1_bringBack : (match mtab[12]? with
  | some mi => acokB mi [[], [1232], [], [], [], [], [], [1232], [], [], [1232], [], [], [1230], [], [1231], [], [1232], [], [], [], [], [3055, 3056, 3057]]
  | none => false) = true := by decide +kernel
set_option maxRecDepth 100000 in
theorem okX1_forgetAll : (match mtab[13]? with
  | some mi => acokB mi [[], [], [1232], [], [], [], [], [], [], [1236]]
  | none => false) = true := by decide +kernel
set_option maxRecDepth 100000 in
theorem okX2_init : (match mtab[14]? with
  | some mi => acokB mi [[], [1160], [], [], [1111], [1163], [], [], [1111], [1165]]
  | none => false) = true := by decide +kernel
set_option maxRecDepth 100000 in
theorem okX2_readFrom : (match mtab[15]? with
  | some mi => acokB mi [[], [1161], [], [], [], [], [], [], [], [], [], [], [1042], [], [], [], [2181, 2146, 2147], [], [], [], [], [1049], [], [], [1042], [], [], [], [], [], [], [], [], [2182, 2162, 2163], [], [], [1042], [], [], [2183, 2150, 2151], [], [], [], [], [], [], [], [], [], [1042], [], [], [], [1042], [], [], [1042], [], [1163], [], [], [], [], [1165], [], [], [], [], [], [2184, 2157, 2158], [], [], [], [], [2182, 2162, 2163], [], [], [1042], [], [], [], [], [2185, 2170, 2171], [], [], [], [], [], [], [], [], [1161], [1161]]
  | none => false) = true := by decide +kernel
set_option maxRecDepth 100000 in
theorem okX3_init : (match mtab[16]? with
  | some mi => acokB mi [[], [1070], [], [], [1080], [1071]]
  | none => false) = true := by decide +kernel
set_option maxRecDepth 100000 in
theorem okX3_clear : (match mtab[17]? with
  | some mi => acokB mi [[], [], [1073]]
  | none => false) = true := by decide +kernel
set_option maxRecDepth 100000 in
theorem okX3_add : (match mtab[18]? with
  | some mi => acokB mi [[], [1073], [], [], [], [1071], [], [1073], [], [], [], [], [1073], [], [], [1073]]
  | none => false) = true := by decide +kernel
set_option maxRecDepth 100000 in
theorem okX3_tellOne : (match mtab[19]? with
  | some mi => acokB mi [[], [3109, 3110, 3111], [], [], [3113, 3114, 3115]]
  | none => false) = true := by decide +kernel
set_option maxRecDepth 100000 in
theorem okX3_tellTwo : (match mtab[20]? with
  | some mi => acokB mi [[], [3109, 3110, 3111], [], [], [3113, 3114, 3115], [], [], [3113, 3114, 3115]]
  | none => false) = true := by decide +kernel
set_option maxRecDepth 100000 in
theorem okX3_tellFraction : (match mtab[21]? with
  | some mi => acokB mi [[], [], [], [], [], [], [], [], [], [], [], [], [], [], [], [], [], [], [], [], [], [], [], [], [], [], [], [], [], [], [], [], [], [], [], [], [], [], [4038, 3106, 3107]]
  | none => false) = true := by decide +kernel
set_option maxRecDepth 100000 in
theorem okX4_init : (match mtab[22]? with
  | some mi => acokB mi [[], [1117], [], [], [1111], [1118], [], [], [1111], [1122]]
  | none => false) = true := by decide +kernel
set_option maxRecDepth 100000 in
theorem okX4_add : (match mtab[23]? with
  | some mi => acokB mi [[], [1119], [], [], [], [1118], [], [1119], [], [], [], [], [1119], [], [], [1119]]
  | none => false) = true := by decide +kernel
set_option maxRecDepth 100000 in
theorem okX4_work : (match mtab[24]? with
  | some mi => acokB mi [[], [], [1123], [], [], [], [], [1119], [], [], [1118], [], [], [], [], [], [], [], [], [1118], [], [], [3024, 3026, 7], [], [], [], [], [], [], [3028, 3030, 8], [], [3024, 3026, 7], [], [], [3032, 2231], [], [], [3028, 3030, 8], [], [], [], [], [3028, 3030, 8], [], [3033, 3034], [3024, 3026, 7], [], [], [], [], [], [3036, 3037], [3024, 3026, 7], [], [], [], [3028, 3030, 8]]
  | none => false) = true := by decide +kernel
set_option maxRecDepth 100000 in
theorem okX4_push : (match mtab[25]? with
  | some mi => acokB mi [[], [1123], [], [], [], [1122], [], [1123], [], [], [], [], [1123], [], [], [1123]]
  | none => false) = true := by decide +kernel
set_option maxRecDepth 100000 in
theorem okX4_pop : (match mtab[26]? with
  | some mi => acokB mi [[], [1123], [], [], [], [], [], [1123], [], [], [1123], [], [1122], [], [1123]]
  | none => false) = true := by decide +kernel
set_option maxRecDepth 100000 in
theorem okX4_valueOf : (match mtab[27]? with
  | some mi => acokB mi [[], [35], [], [1088], [], [], [1092], [], [], [1094]]
  | none => false) = true := by decide +kernel
set_option maxRecDepth 100000 in
theorem okX4_apply : (match mtab[28]? with
  | some mi => acokB mi [[], [59]]
  | none => false) = true := by decide +kernel
set_option maxRecDepth 100000 in
theorem okX5_init : (match mtab[29]? with
  | some mi => acokB mi [[], [1138], [], [], [1111], [1139]]
  | none => false) = true := by decide +kernel
set_option maxRecDepth 100000 in
theorem okX5_readFrom : (match mtab[30]? with
  | some mi => acokB mi [[], [], [1120], [], [], [1140], [], [], [1141], [], [], [1142], [], [], [1143], [], [], [], [], [], [], [2210, 2157, 2158], [], [], [1143], [], [], [], [], [2211, 2213, 2], [], [], [], [], [2226, 2228, 4], [], [], [], [], [1044], [], [], [], [], [1143], [], [], [1141], [], [], [1044], [], [], [], [], [2233, 2235, 5], [], [2237, 2170, 2171]]
  | none => false) = true := by decide +kernel
set_option maxRecDepth 100000 in
theorem okX5_takeThing : (match mtab[31]? with
  | some mi => acokB mi [[], [2215, 2150, 2151], [], [], [0, 2154], [], [], [], [], [2217, 2146, 2147], [2218, 2219, 2220], [], [], [1143], [], [], [], [], [], [], [], [], [], [], [], [], [], [], [], [], [], [2218, 2219, 2220], [], [], [1143], [], [], [], [], [], [], [2222, 2224, 3], [], [], [], [], [], [1141], [], [], [], [], [1141], [], [], [1141], [], [], [1142], [], [], [1141], [], [], [], [], [1142], [], [], [2222, 2224, 3], [], [], [], [], [], [1044], [], [], [1044]]
  | none => false) = true := by decide +kernel
set_option maxRecDepth 100000 in
theorem okX5_takeOperator : (match mtab[32]? with
  | some mi => acokB mi [[], [2215, 2150, 2151], [], [], [2230, 2231], [], [], [], [], [], [1141], [], [], [], [], [2233, 2235, 5], [], [], [1140], [], [], [1140], [], [], [1141], [], [], [1141], [], [], [], [], [], [], [], [1142], [], [1141], [], [], [], [], [], [], [], [], [], [1142], [], [], [], [], [], [1141], [], [], [], [], [1142], [], [], [], [2233, 2235, 5], [], [], [2222, 2224, 3], [], [], [1143], [], [], [1044], [], [], [1044]]
  | none => false) = true := by decide +kernel
set_option maxRecDepth 100000 in
theorem okX5_hold : (match mtab[33]? with
  | some mi => acokB mi [[], [1140], [], [], [], [1139], [], [1140], [], [], [], [], [1140], [], [], [1140]]
  | none => false) = true := by decide +kernel
set_option maxRecDepth 100000 in
theorem okX5_release : (match mtab[34]? with
  | some mi => acokB mi [[], [1140], [], [], [1139], [], [1140], [], [], [], [2230, 2231], [], [], [], [], [1140], [], [], [1140], [], [], [1139], [], [1140], [], [], [2218, 2219, 2220]]
  | none => false) = true := by decide +kernel
set_option maxRecDepth 100000 in
theorem okX5_rank : (match mtab[35]? with
  | some mi => acokB mi [[], [75]]
  | none => false) = true := by decide +kernel
set_option maxRecDepth 100000 in
theorem okX6_init : (match mtab[36]? with
  | some mi => acokB mi [[], [1086], [], [], [1087], [], [], [1111], [1096], [], [], [1111], [1098]]
  | none => false) = true := by decide +kernel
set_option maxRecDepth 100000 in
theorem okX6_readFrom : (match mtab[37]? with
  | some mi => acokB mi [[], [], [1090], [], [], [1093], [], [], [], [2145, 2146, 2147], [1087], [], [1087], [], [], [], [1043], [], [], [1087], [], [], [], [1087], [], [], [], [1043], [], [], [], [], [], [], [], [], [], [], [], [2160, 2157, 2158], [], [], [], [], [], [], [2161, 2162, 2163], [], [], [1043], [], [], [], [2145, 2146, 2147], [], [], [], [], [], [1043], [], [], [], [], [], [], [1087], [], [], [1043], [], [], [], [], [], [], [], [], [], [2161, 2162, 2163], [], [], [], [], [2165, 2167, 0], [], [], [], [2169, 2170, 2171]]
  | none => false) = true := by decide +kernel
set_option maxRecDepth 100000 in
theorem okX6_addPost : (match mtab[38]? with
  | some mi => acokB mi [[], [1090], [], [], [], [1096], [], [1090], [], [], [], [1098], [], [1090], [], [], [], [], [1090], [], [], [1090], [], [], [1093], [], [], [1093]]
  | none => false) = true := by decide +kernel
set_option maxRecDepth 100000 in
theorem okX7_init : (match mtab[39]? with
  | some mi => acokB mi [[], [2045], [], [], [1111], [2053], [], [], [], [2046, 1080], [2055], [], [2053], [], [2048, 2049]]
  | none => false) = true := by decide +kernel
set_option maxRecDepth 100000 in
theorem okX7_forgetAll : (match mtab[40]? with
  | some mi => acokB mi [[], [], [2051], [], [2053], [], [2048, 2049]]
  | none => false) = true := by decide +kernel
set_option maxRecDepth 100000 in
theorem okX7_lastStep : (match mtab[41]? with
  | some mi => acokB mi [[], [], [], [], [], [2053]]
  | none => false) = true := by decide +kernel
set_option maxRecDepth 100000 in
theorem okX7_countWays : (match mtab[42]? with
  | some mi => acokB mi [[], [], [], [], [], [], [], [], [], [], [2053], [], [], [], [], [], [2053], [], [], [], [], [], [], [], [], [], [2055], [], [], [], [], [], [], [], [], [], [], [], [], [], [], [], [4102, 4104, 28]]
  | none => false) = true := by decide +kernel
set_option maxRecDepth 100000 in
theorem okX7_waysBehind : (match mtab[43]? with
  | some mi => acokB mi [[], [], [], [], [], [], [], [], [], [2055], [], [], [], [], [], [], [], [0, 3099]]
  | none => false) = true := by decide +kernel
set_option maxRecDepth 100000 in
theorem okX7_leastOrder : (match mtab[44]? with
  | some mi => acokB mi [[], [], [], [], [], [], [2055], [], [], [], [], [], [0, 3099]]
  | none => false) = true := by decide +kernel
set_option maxRecDepth 100000 in
theorem okX7_possible : (match mtab[45]? with
  | some mi => acokB mi [[], [], [], [], [], [], [], [], [], [2055]]
  | none => false) = true := by decide +kernel
set_option maxRecDepth 100000 in
theorem okX8_init : (match mtab[46]? with
  | some mi => acokB mi [[], [1179], [], [], [1183], [], [], [1188], [], [], [1111], [1192], [], [], [1111], [1195], [], [], [1111], [1198], [], [], [1111], [1200]]
  | none => false) = true := by decide +kernel
set_option maxRecDepth 100000 in
theorem okX8_copyFrom : (match mtab[47]? with
  | some mi => acokB mi [[], [], [1180], [1180], [], [], [1183], [1183], [], [], [1186], [1186], [], [], [1188], [1188], [], [], [1189], [1189], [], [1192], [], [], [1192], [], [], [3059], [], [1195], [], [], [1195], [], [], [3059], [], [1198], [], [], [1198], [], [], [3059], [], [1200], [], [], [1200], [], [], [3059]]
  | none => false) = true := by decide +kernel
set_option maxRecDepth 100000 in
theorem okX8_gaveNow : (match mtab[48]? with
  | some mi => acokB mi [[], [1188], [], [1180]]
  | none => false) = true := by decide +kernel
set_option maxRecDepth 100000 in
theorem okX8_addOrder : (match mtab[49]? with
  | some mi => acokB mi [[], [1189], [], [], [], [], [1189], [], [], [], [], [1192], [], [], [], [], [], [1180], [], [], [], [], [1192], [], [], [1192], [], [], [], [], [], [], [1195], [], [], [1195], [], [], [], [], [], [], [], [], [1192], [], [], [1180], [], [], [], [], [1195], [], [], [], [], [], [1189], [], [], [1189], [], [], [1180], [1188]]
  | none => false) = true := by decide +kernel
set_option maxRecDepth 100000 in
theorem okX8_doDueOrders : (match mtab[50]? with
  | some mi => acokB mi [[], [], [], [], [1189], [], [], [1192], [], [], [], [1180], [], [], [], [1183], [], [1195], [], [], [], [0, 3099], [1183], [], [], [], [], [1189], [], [], [1189], [], [1192], [], [], [1192], [], [], [1189], [3059], [], [1195], [], [], [1195], [], [], [1189], [3059]]
  | none => false) = true := by decide +kernel
set_option maxRecDepth 100000 in
theorem okX8_laneIn : (match mtab[51]? with
  | some mi => acokB mi [[], [1183], [], [], [], [], [], [1189], [], [], [1192], [], [], [], [1180], [], [], [], [], [], [1195], [], [], [], [0, 3099]]
  | none => false) = true := by decide +kernel
set_option maxRecDepth 100000 in
theorem okX8_eat : (match mtab[52]? with
  | some mi => acokB mi [[], [1198], [], [], [], [], [], [1198], [], [], [], [], [1200], [], [], [], [], [], [], [], [], [], [1198]]
  | none => false) = true := by decide +kernel
set_option maxRecDepth 100000 in
theorem okX9_init : (match mtab[53]? with
  | some mi => acokB mi [[], [1038], [], [], [1064], [1039]]
  | none => false) = true := by decide +kernel
set_option maxRecDepth 100000 in
theorem okX9_append : (match mtab[54]? with
  | some mi => acokB mi [[], [1040], [], [], [], [1039], [], [1040], [], [], [], [], [1040], [], [], [1040]]
  | none => false) = true := by decide +kernel
set_option maxRecDepth 100000 in
theorem okX9_open : (match mtab[55]? with
  | some mi => acokB mi [[], [], [1045], [], [], [1040], [], [2138], [1047], [], [], [1040], [], [], [], [], [], [1048], [], [], [1050]]
  | none => false) = true := by decide +kernel
set_option maxRecDepth 100000 in
theorem okX9_ended : (match mtab[56]? with
  | some mi => acokB mi [[], [1045], [], [1047]]
  | none => false) = true := by decide +kernel
set_option maxRecDepth 100000 in
theorem okX9_next : (match mtab[57]? with
  | some mi => acokB mi [[], [1045], [], [], [1045], [], [1047], [], [], [1045], [], [], [], [1039], [], [1045]]
  | none => false) = true := by decide +kernel
set_option maxRecDepth 100000 in
theorem okX9_take : (match mtab[58]? with
  | some mi => acokB mi [[], [2149, 2150, 2151], [], [], [], [], [], [], [1045], [], [], [1045]]
  | none => false) = true := by decide +kernel
set_option maxRecDepth 100000 in
theorem okX9_takeNumber : (match mtab[59]? with
  | some mi => acokB mi [[], [], [], [], [], [], [], [], [2149, 2150, 2151], [0, 2154], [], [], [], [], [], [2149, 2150, 2151], [], [], [], [], [], [], [1045], [], [], [1045], [], [], [], [], [], [], [], [1048], [], [], [2156, 2157, 2158], [], [], [], [], [1050]]
  | none => false) = true := by decide +kernel
set_option maxRecDepth 100000 in
theorem okX9_faultAtEnd : (match mtab[60]? with
  | some mi => acokB mi [[], [1048], [], [], [1047]]
  | none => false) = true := by decide +kernel
set_option maxRecDepth 100000 in
theorem okX10_init : (match mtab[61]? with
  | some mi => acokB mi [[], [1030], [], [1033, 1034, 1002], [], [0, 1036], [2066], [], [1065, 1066, 1003], [], [0, 1068], [2067], [], [1081, 1082, 1004], [], [0, 1084], [2068], [], [1081, 1082, 1004], [], [0, 1084], [2069], [], [1112, 1113, 1005], [], [0, 1115], [2070], [], [1112, 1113, 1005], [], [0, 1115], [2071], [], [1133, 1134, 1006], [], [0, 1136], [2072], [], [1155, 1156, 1007], [], [0, 1158], [2073], [], [], [1111], [2074], [], [], [2075], [], [1174, 1175, 1008], [], [0, 1177], [2076], [], [1174, 1175, 1008], [], [0, 1177], [2077], [], [1221, 1222, 1009], [], [1223, 1224], [2078], [], [2010, 2011, 1010], [], [0, 2013], [2079], [], [2040, 2041, 1011], [], [2042, 2043], [2080], [], [], [1111], [2081], [], [], [], [2064, 1111], [2082]]
  | none => false) = true := by decide +kernel
set_option maxRecDepth 100000 in
theorem okX10_sign : (match mtab[62]? with
  | some mi => acokB mi [[], [2066], [1041], [], [], [], [], [], [], [], [], [], [], [], [2066], [], [], [], [], [], [], [2122, 2123, 2124], [], [], [], [2066], [1041]]
  | none => false) = true := by decide +kernel
set_option maxRecDepth 100000 in
theorem okX10_end : (match mtab[63]? with
  | some mi => acokB mi [[], [], [], [], [2066], [1041], [], [], [], [], [2066], [], [1041]]
  | none => false) = true := by decide +kernel
set_option maxRecDepth 100000 in
theorem okX10_ship : (match mtab[64]? with
  | some mi => acokB mi [[], [2066], [], [2134, 2135, 2136], [], [2069], [], [2066], [2141, 2142, 2143], [], [], [2066], [], [1041], [], [], [], [], [], [], [], [], [2068], [], [], [], [2069], [2068], [], [], [2069], [], [2068], [1091]]
  | none => false) = true := by decide +kernel
set_option maxRecDepth 100000 in
theorem okX10_rocks : (match mtab[65]? with
  | some mi => acokB mi [[], [2066], [1041], [], [], [], [], [2066], [], [2134, 2135, 2136], [], [2073], [1162], [], [], [2073], [], [2066], [2177, 2178, 2179], [], [], [2066], [], [1041], [], [], [], [], [], [], [], [], [2073], [1162]]
  | none => false) = true := by decide +kernel
set_option maxRecDepth 100000 in
theorem okX10_messes : (match mtab[66]? with
  | some mi => acokB mi [[], [2066], [1041], [], [], [], [], [2066], [], [2134, 2135, 2136], [], [2075], [], [], [2190, 2192, 1], [], [], [2066], [], [1041], [], [], [], [], [], [], [], [], [2078], [2198, 2199, 2200], [], [2075]]
  | none => false) = true := by decide +kernel
set_option maxRecDepth 100000 in
theorem okX10_rule : (match mtab[67]? with
  | some mi => acokB mi [[], [2066], [1041], [], [], [2070], [], [1121], [], [], [], [2066], [], [2134, 2135, 2136], [], [2072], [], [2066], [], [2071], [2206, 2207, 2208], [], [], [2066], [], [1041], [], [], [], [], [], [], [], [], [2070], [], [], [], [2071], [2070], [], [], [2071]]
  | none => false) = true := by decide +kernel
set_option maxRecDepth 100000 in
theorem okX10_post : (match mtab[68]? with
  | some mi => acokB mi []
  | none => false) = true := by decide +kernel
set_option maxRecDepth 100000 in
theorem okX10_rock : (match mtab[69]? with
  | some mi => acokB mi []
  | none => false) = true := by decide +kernel
set_option maxRecDepth 100000 in
theorem okX10_mess : (match mtab[70]? with
  | some mi => acokB mi []
  | none => false) = true := by decide +kernel
set_option maxRecDepth 100000 in
theorem okX10_way : (match mtab[71]? with
  | some mi => acokB mi []
  | none => false) = true := by decide +kernel
set_option maxRecDepth 100000 in
theorem okX10_sheet : (match mtab[72]? with
  | some mi => acokB mi [[], [], [], [], [], [], [], [], [], [], [], [], [], [], [], [], [], [], [], [], [], [], [], [], [], [], [], [], [], [], [2075], [], [], [2074], [], [], [], [], [], [], [], [], [], [], [3002, 3003], [], [], [3005, 3006], [], [], [], [], [], [2074]]
  | none => false) = true := by decide +kernel
set_option maxRecDepth 100000 in
theorem okX10_delay : (match mtab[73]? with
  | some mi => acokB mi [[], [], [2076], [1182], [3016, 3018, 6]]
  | none => false) = true := by decide +kernel
set_option maxRecDepth 100000 in
theorem okX10_order : (match mtab[74]? with
  | some mi => acokB mi [[], [], [], [], [], [], [], [], [], [3043, 3045, 9], [], [], [], [], [], [], [2078], [], [2076], [3051, 3052, 3053], [], [], [3062, 3064, 10]]
  | none => false) = true := by decide +kernel
set_option maxRecDepth 100000 in
theorem okX10_pass : (match mtab[75]? with
  | some mi => acokB mi [[], [], [], [], [3074, 3076, 11], [], [], [], [], [], [], [2078], [], [2076], [3051, 3052, 3053], [], [], [], [], [3078, 3080, 12], [], [2076], [1199]]
  | none => false) = true := by decide +kernel
set_option maxRecDepth 100000 in
theorem okX10_cook : (match mtab[76]? with
  | some mi => acokB mi [[], [], [], [], [2075], [], [], [], [], [], [], [], [], [], [2078], [], [2076], [3051, 3052, 3053], [], [2076], [1199], [], [], [], [], [2076], [1199]]
  | none => false) = true := by decide +kernel
set_option maxRecDepth 100000 in
theorem okX10_steps : (match mtab[77]? with
  | some mi => acokB mi [[], [], [], [], [], [], [], [], [2078], [], [2076], [3051, 3052, 3053], [], [2076], [1187], [], [], [], [], [], [], [], [], [], [], [3090, 3092, 13], [], [], [], [], [], [2067], [], [2076], [1187], [], [], [], [], [], [3105, 3106, 3107], [], [2076], [1185]]
  | none => false) = true := by decide +kernel
set_option maxRecDepth 100000 in
theorem okX10_voyage : (match mtab[78]? with
  | some mi => acokB mi [[], [2066], [], [2134, 2135, 2136], [], [3121, 3123, 14], [], [], [], [], [], [2066], [], [1041], [], [], [], [], [], [2077], [], [2076], [3127, 3056, 3057], [], [2066], [], [2134, 2135, 2136], [], [], [], [], [], [], [], [], [], [], [], [], [2066], [2196, 2157, 2158], [], [], [3128, 3130, 15], [], [], [], [], [], [], [], [], [], [], [], [], [], [], [], [], [2066], [], [1041], [], [], [], [2078], [], [2077], [3051, 3052, 3053], [], [2067], [], [], [], [], [], [], [2076], [1187], [], [2077], [1187], [], [], [3105, 3106, 3107]]
  | none => false) = true := by decide +kernel
