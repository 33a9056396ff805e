/-! ROWS IN ORDER, 2 -/
set_option maxRecDepth 100000 in
theorem okX11_refuse : (match mtab[140]? with
  | some mi => acokB mi [[], [], [1082]]
  | none => false) = true := by decide +kernel
set_option maxRecDepth 100000 in
theorem okX11_in : (match mtab[141]? with
  | some mi => acokB mi []
  | none => false) = true := by decide +kernel
set_option maxRecDepth 100000 in
theorem okX11_has : (match mtab[142]? with
  | some mi => acokB mi []
  | none => false) = true := by decide +kernel
set_option maxRecDepth 100000 in
theorem okX11_flag : (match mtab[143]? with
  | some mi => acokB mi []
  | none => false) = true := by decide +kernel
set_option maxRecDepth 100000 in
theorem okX11_common : (match mtab[144]? with
  | some mi => acokB mi [[], [], [], [], [], [], [], [], [], [], [1627, 1628]]
  | none => false) = true := by decide +kernel
set_option maxRecDepth 100000 in
theorem okX11_enters : (match mtab[145]? with
  | some mi => acokB mi [[], [1084], [], [1083], [], [], [], [], [1083], [], [], [1083]]
  | none => false) = true := by decide +kernel
set_option maxRecDepth 100000 in
theorem okX11_tellsFraction : (match mtab[146]? with
  | some mi => acokB mi [[], [], [1627, 1628], [], [], [], [1083], [], [], [], [], [1500, 1502, 60], [], [], [], [], [1500, 1502, 60]]
  | none => false) = true := by decide +kernel
set_option maxRecDepth 100000 in
theorem okX11_isMess : (match mtab[147]? with
  | some mi => acokB mi [[], [], [], [], [1089], [], [], [], [1250, 1251]]
  | none => false) = true := by decide +kernel
set_option maxRecDepth 100000 in
theorem okX11_sign : (match mtab[148]? with
  | some mi => acokB mi [[], [], [1082], [], [1099], [], [], [], [], [], [], [], [], [], [], [1098], [], [1099], [], [], [], [], [], [], [], [], [], [], [], [], [], [], [], [], [1099], [], [], [1099], [], [1099]]
  | none => false) = true := by decide +kernel
set_option maxRecDepth 100000 in
theorem okX11_end : (match mtab[149]? with
  | some mi => acokB mi [[], [], [1082], [], [], [], [], [1099], [], [1250, 1251], [], [], [], [], [], [1099]]
  | none => false) = true := by decide +kernel
set_option maxRecDepth 100000 in
theorem okX11_begins : (match mtab[150]? with
  | some mi => acokB mi [[], [1099], [], [], [], [1099], [], [], [1100], [], [], [1102], [], [], [], [1261], [1101]]
  | none => false) = true := by decide +kernel
set_option maxRecDepth 100000 in
theorem okX11_takes : (match mtab[151]? with
  | some mi => acokB mi [[], [1100], [], [1101], [], [], [1098], [], [1100], [], [], [], [], [], [], [], [], [], [1100], [], [1280, 1281], [], [1100]]
  | none => false) = true := by decide +kernel
set_option maxRecDepth 100000 in
theorem okX11_isDigit : (match mtab[152]? with
  | some mi => acokB mi [[], [1100], [], [1101], [], [], [1098], [], [1100], [], [], [1274], [1275], [1250, 1251]]
  | none => false) = true := by decide +kernel
set_option maxRecDepth 100000 in
theorem okX11_among : (match mtab[153]? with
  | some mi => acokB mi [[], [], [], [], [1304, 1305, 1306], [], [], [1100], [], [1101], [], [], [], [1314, 1315, 1316], [], [1098], [], [1100]]
  | none => false) = true := by decide +kernel
set_option maxRecDepth 100000 in
theorem okX11_takesOf : (match mtab[154]? with
  | some mi => acokB mi [[], [], [1300, 1302, 40], [], [], [], [1100], [], [], [], [], [], [1280, 1281], [], [1100]]
  | none => false) = true := by decide +kernel
set_option maxRecDepth 100000 in
theorem okX11_number : (match mtab[155]? with
  | some mi => acokB mi [[], [1270, 1272, 35], [], [], [], [], [], [], [], [], [], [], [], [1270, 1272, 35], [], [], [], [], [], [1098], [], [1100], [], [], [], [], [], [], [], [1100], [], [], [1100]]
  | none => false) = true := by decide +kernel
set_option maxRecDepth 100000 in
theorem okX11_numberIn : (match mtab[156]? with
  | some mi => acokB mi [[], [], [1266, 1268, 34], [], [], [], [], [], [], [], [], [], [1250, 1251], [], [], [], [], [], [1100], [], [], [1100]]
  | none => false) = true := by decide +kernel
set_option maxRecDepth 100000 in
theorem okX11_faultOf : (match mtab[157]? with
  | some mi => acokB mi [[], [], [], [1100], [], [1101], [], [], [], [], [], [], [], [], [], [], [], [1100], [], [], [], [], [], [], [], [], [], [], [], [], [1100]]
  | none => false) = true := by decide +kernel
set_option maxRecDepth 100000 in
theorem okX11_ship : (match mtab[158]? with
  | some mi => acokB mi [[], [], [1082], [], [], [1257, 1259, 32], [], [], [], [1104], [], [], [], [], [1262, 1264, 33], [], [], [], [], [], [], [], [], [], [], [], [], [1104], [], [], [], [], [1276, 1278, 36], [], [], [], [], [], [], [], [], [], [1262, 1264, 33], [], [], [], [], [], [], [], [], [], [], [], [], [1103], [], [], [1104], [], [], [], [], [1103], [], [], [1104], [], [], [], [], [], [1276, 1278, 36], [1280, 1281], [], [], [], [1104], [], [], [1104], [], [], [], [], [], [1283, 1285, 37], [], [], [], [], [], [], [], [1085], [], [], [1104], [1086], [], [], [1087], [], [], [], [], [1086], [], [], [1091], [], [], [1103], [], [], [], [], [], [], [1092], [], [], [1103], [], [], [], [], [], [], [], [], [], [], [], [], [], [], [1087], [], [1103], [], [], [], [], [], [], [], [1087], [], [], [], [1086]]
  | none => false) = true := by decide +kernel
set_option maxRecDepth 100000 in
theorem okX11_readsRock : (match mtab[159]? with
  | some mi => acokB mi [[], [1088], [], [1104], [], [], [], [], [], [], [], [1104], [], [], [], [1103], [], [], [], [], [], [1262, 1264, 33], [], [], [1103], [], [], [], [], [], [1276, 1278, 36], [], [], [], [], [1103], [], [], [], [], [], [1296, 1298, 39], [], [], [], [1104], [], [], [1104], [], [1103]]
  | none => false) = true := by decide +kernel
set_option maxRecDepth 100000 in
theorem okX11_readsMess : (match mtab[160]? with
  | some mi => acokB mi [[], [1089], [], [1104], [], [], [], [], [], [], [], [1104], [], [], [], [1103], [], [], [], [1266, 1268, 34], [], [], [1103], [], [], [], [], [], [1276, 1278, 36], [], [], [], [], [1103], [], [], [], [], [], [1266, 1268, 34], [], [], [], [1104], [], [], [1104], [], [1103]]
  | none => false) = true := by decide +kernel
set_option maxRecDepth 100000 in
theorem okX11_rocks : (match mtab[161]? with
  | some mi => acokB mi [[], [], [1082], [], [], [1257, 1259, 32], [], [], [], [1104], [], [], [], [], [], [], [], [], [], [], [], [1291, 1293, 38], [], [], [], [], [], [1276, 1278, 36], [], [], [], [], [], [], [], [], [], [], [1283, 1285, 37], [], [], [], [], [], [], [], [], [], [1104], [], [], [1093], [], [1088], [], [1103], [], [], [], [], [], [], [1094], [], [1088], [], [1103], [], [], [], [], [], [], [], [], [], [1088], [], [], [1088], [], [], [], [1104]]
  | none => false) = true := by decide +kernel
set_option maxRecDepth 100000 in
theorem okX11_messes : (match mtab[162]? with
  | some mi => acokB mi [[], [], [1082], [], [], [1257, 1259, 32], [], [], [], [1104], [], [], [], [], [], [], [], [], [], [], [], [1357, 1359, 41], [], [], [], [], [], [1276, 1278, 36], [], [], [], [], [], [], [], [], [], [], [1283, 1285, 37], [], [], [], [], [], [], [], [], [], [1104], [], [], [1096], [], [], [1089], [], [], [1103], [], [], [], [], [], [], [1096], [], [], [1089], [], [], [], [], [1095], [], [1089], [], [1103], [], [], [], [], [], [], [], [], [], [1089], [], [], [1089], [], [], [], [1104], [], [], [], [1111], [], [], [1090], [], [], [1090], [], [1104]]
  | none => false) = true := by decide +kernel
set_option maxRecDepth 100000 in
theorem okX11_codes : (match mtab[163]? with
  | some mi => acokB mi [[], [1106], [], [1108], [], [], [], [], [1108], [], [], [1108]]
  | none => false) = true := by decide +kernel
set_option maxRecDepth 100000 in
theorem okX11_readsThing : (match mtab[164]? with
  | some mi => acokB mi [[], [], [1276, 1278, 36], [], [], [1369, 1371, 43], [], [], [], [1373, 1375, 44], [], [], [], [1270, 1272, 35], [], [], [], [], [1266, 1268, 34], [1373, 1375, 44], [], [], [], [], [1296, 1298, 39], [], [], [], [], [], [], [], [1373, 1375, 44], [], [], [], [1102], [], [], [], [], [1276, 1278, 36], [], [], [], [], [], [1102], [], [], [1102], [], [], [1365, 1367, 42], [], [], [], [1276, 1278, 36], [], [], [], [], [], [1102], [], [], [1102]]
  | none => false) = true := by decide +kernel
set_option maxRecDepth 100000 in
theorem okX11_readsRank : (match mtab[165]? with
  | some mi => acokB mi [[], [], [], [], [1369, 1371, 43], [], [], [], [], [], [1365, 1367, 42], [], [], [], [], [], [], [], [], [], [], [], [], [], [], [], [], [], [], [1296, 1298, 39], [], [], [], [], [], [], [], [], [], [1365, 1367, 42], [], [], [], [], [], [], [], [], [], [], [], [], [], [], [], [], [], [], [1373, 1375, 44]]
  | none => false) = true := by decide +kernel
set_option maxRecDepth 100000 in
theorem okX11_rule : (match mtab[166]? with
  | some mi => acokB mi [[], [], [1082], [], [], [1257, 1259, 32], [], [], [], [1108], [], [], [], [], [1365, 1367, 42], [], [], [], [], [], [], [], [], [], [1283, 1285, 37], [], [], [], [], [], [], [], [1108], [1107], [], [], [], [], [1108], [], [], [1105], [], [], [1106]]
  | none => false) = true := by decide +kernel
set_option maxRecDepth 100000 in
theorem okX11_worked : (match mtab[167]? with
  | some mi => acokB mi [[], [39], [], [], [], [], [], [], [1280, 1281], [], [], [], [], [], [], [], [1280, 1281], [], [], [], [], [], [], [], [1280, 1281]]
  | none => false) = true := by decide +kernel
set_option maxRecDepth 100000 in
theorem okX11_ruled : (match mtab[168]? with
  | some mi => acokB mi [[], [], [], [], [], [], [1107], [], [], [1105], [], [], [], [], [], [], [], [1109], [], [], [], [], [1109], [], [], [], [], [], [], [], [], [], [], [], [], [1109], [], [], [], [], [], [], [], [1109], [], [], [], [], [], [1109], [], [], [1432, 1433], [], [], [], [1109], [], [], [], [], [], [1110], [], [], [], [], [], [], [], [], [], [], [], [1107], [], [], [1110], [], [], [], [], [], [], [], [], [1109], [], [], [], [], [], [], [1261], [1415]]
  | none => false) = true := by decide +kernel
set_option maxRecDepth 100000 in
theorem okX11_delayAt : (match mtab[169]? with
  | some mi => acokB mi [[], [1110], [], [], [1085], [], [], [1110], [], [], [1086], [], [], [1110], [], [], [1087], [], [], [1110], [], [], [], [], [], [], [1428, 1430, 49]]
  | none => false) = true := by decide +kernel
set_option maxRecDepth 100000 in
theorem okX11_turned : (match mtab[170]? with
  | some mi => acokB mi [[], [1087]]
  | none => false) = true := by decide +kernel
set_option maxRecDepth 100000 in
theorem okX11_post : (match mtab[171]? with
  | some mi => acokB mi [[], [], [1082], [], [], [], [], [1086], [], [], [], [1250, 1251], [], [], [], [], [], [1250, 1251], [], [], [1385, 1387, 45], [], [], [], [], [1091], [], [], [], [], [1092], [], [], [1280, 1281]]
  | none => false) = true := by decide +kernel
set_option maxRecDepth 100000 in
theorem okX11_rock : (match mtab[172]? with
  | some mi => acokB mi [[], [], [1082], [], [], [], [], [1088], [], [], [], [1250, 1251], [], [], [], [], [], [1250, 1251], [], [], [1385, 1387, 45], [], [], [], [], [1093], [], [], [], [], [1094]]
  | none => false) = true := by decide +kernel
set_option maxRecDepth 100000 in
theorem okX11_mess : (match mtab[173]? with
  | some mi => acokB mi [[], [], [1082], [], [], [1397, 1399, 46], [], [], [], [], [1401], [1250, 1251], [], [], [1385, 1387, 45], [], [], [], [], [1096], [], [], [], [], [], [], [], [], [], [1095], [], [], [], [], [1096]]
  | none => false) = true := by decide +kernel
set_option maxRecDepth 100000 in
theorem okX11_isAhead : (match mtab[174]? with
  | some mi => acokB mi [[], [], [], [], [], [], [], [], [], [], [], [], [], [1096], [], [], [], [], [], [1096], [], [], [], [], [], [], [1096], [], [], [], [], [], [1096], [], [], [], [], [], [], [1096], [], [], [], [], [], [1096]]
  | none => false) = true := by decide +kernel
set_option maxRecDepth 100000 in
theorem okX11_way : (match mtab[175]? with
  | some mi => acokB mi [[], [], [1082], [], [], [], [], [1096], [], [], [], [], [], [1250, 1251], [], [], [], [], [], [1250, 1251], [], [], [1385, 1387, 45], [], [], [], [], [], [], [], [1096], [], [], [], [], [], [], [], [], [], [1096], [], [], [], [], [], [], [], [1406, 1408, 47], [1280, 1281], [], [], [], [], [], [], [], [], [], [], [], [], [], [], [], [], [1096], [], [], [], [], [], [], [], [], [], [1096], [], [], [], [], [], [1096]]
  | none => false) = true := by decide +kernel
set_option maxRecDepth 100000 in
theorem okX11_sheet : (match mtab[176]? with
  | some mi => acokB mi [[], [], [1082], [], [], [], [1414], [1250, 1251], [], [], [], [], [], [], [], [], [], [], [], [], [], [], [], [], [], [], [], [], [], [1089], [], [], [], [], [], [], [], [], [], [], [], [], [], [], [], [1095], [], [], [], [], [], [], [], [], [], [], [], [], [1261], [1415], [], [], [], [1095]]
  | none => false) = true := by decide +kernel
set_option maxRecDepth 100000 in
theorem okX11_putsBy : (match mtab[177]? with
  | some mi => acokB mi [[], [], [], [], [], [], [1112], [], [], [1111], [], [], [], [], [1096]]
  | none => false) = true := by decide +kernel
set_option maxRecDepth 100000 in
theorem okX11_adds : (match mtab[178]? with
  | some mi => acokB mi [[], [], [1111], [], [], [1111], [], [1111], [], [], [], [], [], [], [], [], [1112], [], [], [1112], [], [], [], [], [], [], [], [], [], [1111], [], [], [1111]]
  | none => false) = true := by decide +kernel
set_option maxRecDepth 100000 in
theorem okX11_counts : (match mtab[179]? with
  | some mi => acokB mi [[], [], [], [], [], [], [1456, 1458, 54]]
  | none => false) = true := by decide +kernel
set_option maxRecDepth 100000 in
theorem okX11_undo : (match mtab[180]? with
  | some mi => acokB mi [[], [], [1082], [], [1111], [], [], [], [], [], [1111], [], [], [1111], [], [], [], [], [], [], [1096], [], [], [1112], [], [], [1111], [], [], [], [], [], [], [], [], [1111]]
  | none => false) = true := by decide +kernel
set_option maxRecDepth 100000 in
theorem okX11_put : (match mtab[181]? with
  | some mi => acokB mi [[], [], [], [1261], [1415]]
  | none => false) = true := by decide +kernel
set_option maxRecDepth 100000 in
theorem okX11_doesDue : (match mtab[182]? with
  | some mi => acokB mi [[], [], [], [], [], [], [], [], [], [], [], [], [], [], [], [], [], [], [], [], [], [], [], [], [], [], [], [], [], [], [], [], [], [], [], [1493, 1494]]
  | none => false) = true := by decide +kernel
set_option maxRecDepth 100000 in
theorem okX11_hitsAt : (match mtab[183]? with
  | some mi => acokB mi [[], [], [], [], [], [], [1088], [], [], [], [1093], [], [], [], [], [], [1094], [], [], [], [], [], [], [], [1280, 1281]]
  | none => false) = true := by decide +kernel
set_option maxRecDepth 100000 in
theorem okX11_stepGoes : (match mtab[184]? with
  | some mi => acokB mi [[], [], [], [], [], [], [], [], [1490, 1491], [], [], [], [], [], [], [], [1496, 1498, 59], [], [], [], [], [], [], [], [], [], [], [1113], [], [], [1113], [], [], [], [], [1089], [], [], [], [], [], [], [], [1095], [], [], [], [], [], [], [], [], [], [], [], [], [], [], [1280, 1281], [], [], [], [], [1114], [], [1280, 1281], [], [1114], [], [], [], [], [], [], [], [], [], [], [], [], [], [], [1095]]
  | none => false) = true := by decide +kernel
set_option maxRecDepth 100000 in
theorem okX11_gives : (match mtab[185]? with
  | some mi => acokB mi [[], [], [1447], [], [1250, 1251], [], [], [], [], [], [], [], [], [], [], [], [], [], [], [], [], [], [], [], [], [], [], [], [1424, 1426, 48], [], [], [], [], [], [], [], [], [], [], [], [], [], [], [], [], [], [], [], [], [], [], [], [], [], [1448, 1450, 52]]
  | none => false) = true := by decide +kernel
set_option maxRecDepth 100000 in
theorem okX11_passes : (match mtab[186]? with
  | some mi => acokB mi [[], [], [], [], [], [], [], [], [], [], [], [], [], [1397, 1399, 46], [], [], [], [], [], [1250, 1251], [], [], [], [1397, 1399, 46], [], [], [], [], [1468], [1250, 1251], [], [], [], [], [1096], [], [], [], [], [], [], [], [], [], [1096], [], [], [], [], [], [], [], [], [], [], [], [1096], [], [], [], [], [], [], [], [], [], [1096], [], [], [], [], [], [], [], [], [], [1096]]
  | none => false) = true := by decide +kernel
set_option maxRecDepth 100000 in
theorem okX11_cooks : (match mtab[187]? with
  | some mi => acokB mi [[], [], [1397, 1399, 46], [], [], [], [], [1468], [1250, 1251], [], [], [], [], [1096], [], [], [], [], [], [], [1096]]
  | none => false) = true := by decide +kernel
set_option maxRecDepth 100000 in
theorem okX11_delay : (match mtab[188]? with
  | some mi => acokB mi [[], [], [1082], [], [], [1096], [], [], [1424, 1426, 48]]
  | none => false) = true := by decide +kernel
set_option maxRecDepth 100000 in
theorem okX11_order : (match mtab[189]? with
  | some mi => acokB mi [[], [], [1082], [], [1439, 1441, 50], [], [], [], [1096], [], [1443, 1445, 51], [1452, 1454, 53]]
  | none => false) = true := by decide +kernel
set_option maxRecDepth 100000 in
theorem okX11_pass : (match mtab[190]? with
  | some mi => acokB mi [[], [], [1082], [], [1439, 1441, 50], [], [], [], [], [], [1464, 1466, 55], [1452, 1454, 53]]
  | none => false) = true := by decide +kernel
set_option maxRecDepth 100000 in
theorem okX11_cook : (match mtab[191]? with
  | some mi => acokB mi [[], [], [1082], [], [1439, 1441, 50], [], [], [], [], [1473, 1475, 56], [1452, 1454, 53]]
  | none => false) = true := by decide +kernel
set_option maxRecDepth 100000 in
theorem okX11_startsCounting : (match mtab[192]? with
  | some mi => acokB mi [[], [], [1113], [], [], [1114]]
  | none => false) = true := by decide +kernel
set_option maxRecDepth 100000 in
theorem okX11_steps : (match mtab[193]? with
  | some mi => acokB mi [[], [], [1082], [], [], [], [1481], [1250, 1251], [], [], [], [], [1439, 1441, 50], [], [1482, 1484, 57], [], [], [], [], [], [], [], [1096], [1486, 1488, 58], [], [], [], [], [1083], [], [], [1113], [], [1500, 1502, 60], [], [], [1114], [], [1500, 1502, 60], [], [], [1096], [], [], [1456, 1458, 54]]
  | none => false) = true := by decide +kernel
set_option maxRecDepth 100000 in
theorem okX11_readsAct : (match mtab[194]? with
  | some mi => acokB mi [[], [1117], [], [], [], [1296, 1298, 39], [], [], [], [], [], [], [], [1117], [], [], [1117], [], [1115], [], [], [], [], [], [], [], [], [], [], [], [], [], [], [1116], [], [], [], [], [], [], [], [], [], [], [], [], [], [1266, 1268, 34], [], [], [], [], [], [], [], [], [], [1116]]
  | none => false) = true := by decide +kernel
set_option maxRecDepth 100000 in
theorem okX11_does : (match mtab[195]? with
  | some mi => acokB mi [[], [1115], [], [], [], [], [], [1096], [], [1116], [], [], [1443, 1445, 51], [], [], [], [], [], [], [1115], [], [], [], [], [], [], [1116], [], [], [], [], [1464, 1466, 55], [], [], [], [], [], [], [], [], [], [1116], [], [], [], [], [], [1096], [1486, 1488, 58]]
  | none => false) = true := by decide +kernel
set_option maxRecDepth 100000 in
theorem okX11_voyage : (match mtab[196]? with
  | some mi => acokB mi [[], [], [1082], [], [], [1257, 1259, 32], [], [], [], [1117], [], [], [], [], [], [1100], [], [1101], [], [], [1508, 1510, 61], [], [], [], [], [], [], [1283, 1285, 37], [], [], [], [], [], [], [1439, 1441, 50], [], [1482, 1484, 57], [], [], [], [], [1117], [], [], [], [1513, 1515, 62], [], [], [], [], [], [1083], [], [], [], [1117], [], [], [], [], [1280, 1281], [], [1500, 1502, 60], [], [], [1113], [], [1500, 1502, 60], [], [], [], [], [1456, 1458, 54]]
  | none => false) = true := by decide +kernel
set_option maxRecDepth 100000 in
theorem okX11_puts : (match mtab[197]? with
  | some mi => acokB mi [[], [], [], [], [], [], [1097], [], [], [1096]]
  | none => false) = true := by decide +kernel
set_option maxRecDepth 100000 in
theorem okX11_lane : (match mtab[198]? with
  | some mi => acokB mi [[], [], [1082], [], [], [], [1481], [1250, 1251], [], [], [], [], [1521, 1523, 63], [], [1482, 1484, 57], [], [], [], [], [], [], [], [1097], [1486, 1488, 58], [], [], [], [], [1083], [], [], [1113], [], [1500, 1502, 60], [], [1097]]
  | none => false) = true := by decide +kernel
set_option maxRecDepth 100000 in
theorem okX11_strikes : (match mtab[199]? with
  | some mi => acokB mi [[], [], [1082], [], [1521, 1523, 63], [], [], [], [], [], [], [], [1097], [1486, 1488, 58], [], [], [], [], [1088], [], [], [1093], [], [], [], [1097], [], [], [], [], [1094], [], [], [], [1097], [], [], [], [], [], [1083], [], [], [], [1500, 1502, 60]]
  | none => false) = true := by decide +kernel
set_option maxRecDepth 100000 in
theorem okX11_moved : (match mtab[200]? with
  | some mi => acokB mi [[], [], [], [], [], [], [], [], [], [], [1540, 1541], [], [], [], [], [], [1493, 1494]]
  | none => false) = true := by decide +kernel
set_option maxRecDepth 100000 in
theorem okX11_movedByDue : (match mtab[201]? with
  | some mi => acokB mi [[], [], [], [], [], [], [1096], [], [], [], [], [], [], [], [], [], [], [1096], [], [], [], [], [], [1096], [], [], [], [], [], [], [], [1096], [], [], [], [], [1537, 1538]]
  | none => false) = true := by decide +kernel
set_option maxRecDepth 100000 in
theorem okX11_mayGive : (match mtab[202]? with
  | some mi => acokB mi [[], [], [], [1096], [], [], [], [1096]]
  | none => false) = true := by decide +kernel
