/-! WHAT THE TABLES SAY OF METHODS -/
def mk1 (k n : Nat) (hs : List Nat) : Bool := match mtab[k]? with
  | some mi => mokB mi n hs && Nat.beq mi.2.2.2.2.2.2 (if minst.getD k false then n + 1 else n)
  | none => false
theorem mk1_ok {k n : Nat} {hs : List Nat} (hb : mk1 k n hs = true) {mi : MI} (h : mtab[k]? = some mi) : ∃ n, mok mi n ∧ mi.2.2.2.2.2.2 = if minst.getD k false = true then n + 1 else n := by
  unfold mk1 at hb
  rw [h] at hb
  simp only [Bool.and_eq_true] at hb
  exact ⟨n, mokB_ok hb.1, Nat.beq_eq.mp hb.2⟩
theorem mkX0_init : mk1 0 0 [339, 95] = true := by decide +kernel
theorem mkX0_isOvertaken : mk1 1 2 [815, 95] = true := by decide +kernel
theorem mkX0_reach : mk1 2 4 [737, 95] = true := by decide +kernel
theorem mkX0_moved : mk1 3 2 [740, 95] = true := by decide +kernel
theorem mkX0_freeOrders : mk1 4 2 [752, 95] = true := by decide +kernel
theorem mkX0_fewestOrders : mk1 5 2 [756, 95] = true := by decide +kernel
theorem mkX0_doChosen : mk1 6 1 [767, 95] = true := by decide +kernel
theorem mkX0_moveCosts : mk1 7 1 [761, 95] = true := by decide +kernel
theorem mkX0_chooseLeastRow : mk1 8 3 [771, 95] = true := by decide +kernel
theorem mkX0_leastChoice : mk1 9 4 [775, 95] = true := by decide +kernel
theorem mkX1_init : mk1 10 0 [310, 94] = true := by decide +kernel
theorem mkX1_remember : mk1 11 1 [619, 94] = true := by decide +kernel
theorem mkX1_bringBack : mk1 12 1 [704, 94] = true := by decide +kernel
theorem mkX1_forgetAll : mk1 13 0 [526, 94] = true := by decide +kernel
theorem mkX2_init : mk1 14 0 [244, 92] = true := by decide +kernel
theorem mkX2_readFrom : mk1 15 1 [505, 92] = true := by decide +kernel
theorem mkX3_init : mk1 16 0 [154, 88] = true := by decide +kernel
theorem mkX3_clear : mk1 17 0 [677, 88] = true := by decide +kernel
theorem mkX3_add : mk1 18 1 [681, 88] = true := by decide +kernel
theorem mkX3_tellOne : mk1 19 1 [716, 88] = true := by decide +kernel
theorem mkX3_tellTwo : mk1 20 2 [673, 88] = true := by decide +kernel
theorem mkX3_tellFraction : mk1 21 2 [842, 88] = true := by decide +kernel
theorem mkX4_init : mk1 22 0 [201, 90] = true := by decide +kernel
theorem mkX4_add : mk1 23 1 [546, 90] = true := by decide +kernel
theorem mkX4_work : mk1 24 2 [588, 90] = true := by decide +kernel
theorem mkX4_push : mk1 25 1 [592, 90] = true := by decide +kernel
theorem mkX4_pop : mk1 26 0 [596, 90] = true := by decide +kernel
theorem mkX4_valueOf : mk1 27 3 [603, 90] = true := by decide +kernel
theorem mkX4_apply : mk1 28 3 [600, 90] = true := by decide +kernel
theorem mkX5_init : mk1 29 0 [222, 91] = true := by decide +kernel
theorem mkX5_readFrom : mk1 30 2 [534, 91] = true := by decide +kernel
theorem mkX5_takeThing : mk1 31 2 [539, 91] = true := by decide +kernel
theorem mkX5_takeOperator : mk1 32 2 [554, 91] = true := by decide +kernel
theorem mkX5_hold : mk1 33 1 [550, 91] = true := by decide +kernel
theorem mkX5_release : mk1 34 2 [561, 91] = true := by decide +kernel
theorem mkX5_rank : mk1 35 1 [557, 91] = true := by decide +kernel
theorem mkX6_init : mk1 36 0 [170, 89] = true := by decide +kernel
theorem mkX6_readFrom : mk1 37 1 [469, 89] = true := by decide +kernel
theorem mkX6_addPost : mk1 38 2 [493, 89] = true := by decide +kernel
theorem mkX7_init : mk1 39 0 [369, 96] = true := by decide +kernel
theorem mkX7_forgetAll : mk1 40 0 [894, 96] = true := by decide +kernel
theorem mkX7_lastStep : mk1 41 0 [902, 96] = true := by decide +kernel
theorem mkX7_countWays : mk1 42 1 [906, 96] = true := by decide +kernel
theorem mkX7_waysBehind : mk1 43 2 [910, 96] = true := by decide +kernel
theorem mkX7_leastOrder : mk1 44 2 [915, 96] = true := by decide +kernel
theorem mkX7_possible : mk1 45 1 [925, 96] = true := by decide +kernel
theorem mkX8_init : mk1 46 0 [263, 93] = true := by decide +kernel
theorem mkX8_copyFrom : mk1 47 1 [623, 93] = true := by decide +kernel
theorem mkX8_gaveNow : mk1 48 0 [615, 93] = true := by decide +kernel
theorem mkX8_addOrder : mk1 49 2 [634, 93] = true := by decide +kernel
theorem mkX8_doDueOrders : mk1 50 0 [662, 93] = true := by decide +kernel
theorem mkX8_laneIn : mk1 51 1 [712, 93] = true := by decide +kernel
theorem mkX8_eat : mk1 52 2 [669, 93] = true := by decide +kernel
theorem mkX9_init : mk1 53 0 [122, 87] = true := by decide +kernel
theorem mkX9_append : mk1 54 1 [450, 87] = true := by decide +kernel
theorem mkX9_open : mk1 55 1 [462, 87] = true := by decide +kernel
theorem mkX9_ended : mk1 56 0 [484, 87] = true := by decide +kernel
theorem mkX9_next : mk1 57 0 [477, 87] = true := by decide +kernel
theorem mkX9_take : mk1 58 1 [489, 87] = true := by decide +kernel
theorem mkX9_takeNumber : mk1 59 1 [473, 87] = true := by decide +kernel
theorem mkX9_faultAtEnd : mk1 60 0 [497, 87] = true := by decide +kernel
theorem mkX10_init : mk1 61 0 [114, 86] = true := by decide +kernel
theorem mkX10_sign : mk1 62 1 [446, 86] = true := by decide +kernel
theorem mkX10_end : mk1 63 1 [454, 86] = true := by decide +kernel
theorem mkX10_ship : mk1 64 0 [458, 86] = true := by decide +kernel
theorem mkX10_rocks : mk1 65 0 [501, 86] = true := by decide +kernel
theorem mkX10_messes : mk1 66 0 [514, 86] = true := by decide +kernel
theorem mkX10_rule : mk1 67 0 [530, 86] = true := by decide +kernel
theorem mkX10_post : mk1 68 2 [986, 86] = true := by decide +kernel
theorem mkX10_rock : mk1 69 2 [1054, 86] = true := by decide +kernel
theorem mkX10_mess : mk1 70 2 [1061, 86] = true := by decide +kernel
theorem mkX10_way : mk1 71 2 [1068, 86] = true := by decide +kernel
theorem mkX10_sheet : mk1 72 4 [566, 86] = true := by decide +kernel
theorem mkX10_delay : mk1 73 0 [580, 86] = true := by decide +kernel
theorem mkX10_order : mk1 74 1 [607, 86] = true := by decide +kernel
theorem mkX10_pass : mk1 75 3 [638, 86] = true := by decide +kernel
theorem mkX10_cook : mk1 76 2 [650, 86] = true := by decide +kernel
theorem mkX10_steps : mk1 77 1 [654, 86] = true := by decide +kernel
theorem mkX10_voyage : mk1 78 0 [685, 86] = true := by decide +kernel
theorem mkX10_undo : mk1 79 0 [700, 86] = true := by decide +kernel
theorem mkX10_lane : mk1 80 1 [708, 86] = true := by decide +kernel
theorem mkX10_strikes : mk1 81 0 [720, 86] = true := by decide +kernel
theorem mkX10_clears : mk1 82 0 [724, 86] = true := by decide +kernel
theorem mkX10_plan : mk1 83 1 [748, 86] = true := by decide +kernel
theorem mkX10_latest : mk1 84 1 [782, 86] = true := by decide +kernel
theorem mkX10_lanes : mk1 85 1 [786, 86] = true := by decide +kernel
theorem mkX10_safest : mk1 86 1 [796, 86] = true := by decide +kernel
theorem mkX10_late : mk1 87 1 [811, 86] = true := by decide +kernel
theorem mkX10_comes : mk1 88 1 [819, 86] = true := by decide +kernel
theorem mkX10_relay : mk1 89 1 [823, 86] = true := by decide +kernel
theorem mkX10_fewest : mk1 90 1 [827, 86] = true := by decide +kernel
theorem mkX10_word : mk1 91 2 [831, 86] = true := by decide +kernel
theorem mkX10_survives : mk1 92 2 [847, 86] = true := by decide +kernel
theorem mkX10_lives : mk1 93 1 [852, 86] = true := by decide +kernel
theorem mkX10_shares : mk1 94 1 [861, 86] = true := by decide +kernel
theorem mkX10_fast : mk1 95 1 [878, 86] = true := by decide +kernel
theorem mkX10_seen : mk1 96 2 [886, 86] = true := by decide +kernel
theorem mkX10_forget : mk1 97 0 [890, 86] = true := by decide +kernel
theorem mkX10_ordered : mk1 98 0 [898, 86] = true := by decide +kernel
theorem mkX10_unsure : mk1 99 0 [921, 86] = true := by decide +kernel
theorem mkX10_boy : mk1 100 2 [930, 86] = true := by decide +kernel
theorem mkX10_meets : mk1 101 1 [943, 86] = true := by decide +kernel
theorem mkX10_knows : mk1 102 2 [947, 86] = true := by decide +kernel
theorem mkX10_mutiny : mk1 103 3 [951, 86] = true := by decide +kernel
theorem mkX10_chance : mk1 104 3 [961, 86] = true := by decide +kernel
theorem mkX10_voyages : mk1 105 2 [965, 86] = true := by decide +kernel
theorem mkX10_keep : mk1 106 1 [970, 86] = true := by decide +kernel
theorem mkX10_again : mk1 107 1 [974, 86] = true := by decide +kernel
theorem mkX10_count : mk1 108 1 [978, 86] = true := by decide +kernel
theorem mkX10_row : mk1 109 1 [1075, 86] = true := by decide +kernel
theorem mkX10_isDigit : mk1 110 1 [480, 86] = true := by decide +kernel
theorem mkX10_readMesses : mk1 111 0 [518, 86] = true := by decide +kernel
theorem mkX10_voyageFault : mk1 112 0 [689, 86] = true := by decide +kernel
theorem mkX10_doVoyageSign : mk1 113 0 [696, 86] = true := by decide +kernel
theorem mkX10_put : mk1 114 3 [572, 86] = true := by decide +kernel
theorem mkX10_entry : mk1 115 2 [569, 86] = true := by decide +kernel
theorem mkX10_keepOnSea : mk1 116 1 [665, 86] = true := by decide +kernel
theorem mkX10_delayAt : mk1 117 1 [584, 86] = true := by decide +kernel
theorem mkX10_orderRefusal : mk1 118 0 [611, 86] = true := by decide +kernel
theorem mkX10_giveOrder : mk1 119 1 [630, 86] = true := by decide +kernel
theorem mkX10_passRefusal : mk1 120 3 [642, 86] = true := by decide +kernel
theorem mkX10_moveFood : mk1 121 3 [646, 86] = true := by decide +kernel
theorem mkX10_goStep : mk1 122 0 [658, 86] = true := by decide +kernel
theorem mkX10_firstFree : mk1 123 0 [733, 86] = true := by decide +kernel
theorem mkX10_lookAhead : mk1 124 0 [728, 86] = true := by decide +kernel
theorem mkX10_rocksInLane : mk1 125 2 [800, 86] = true := by decide +kernel
theorem mkX10_apart : mk1 126 1 [804, 86] = true := by decide +kernel
theorem mkX10_widened : mk1 127 1 [744, 86] = true := by decide +kernel
theorem mkX10_power : mk1 128 2 [837, 86] = true := by decide +kernel
theorem mkX10_likelyWord : mk1 129 2 [834, 86] = true := by decide +kernel
theorem mkX10_lastsFor : mk1 130 2 [857, 86] = true := by decide +kernel
theorem mkX10_foodLeft : mk1 131 2 [882, 86] = true := by decide +kernel
theorem mkX10_weighPassing : mk1 132 0 [865, 86] = true := by decide +kernel
theorem mkX10_leastPassing : mk1 133 2 [869, 86] = true := by decide +kernel
theorem mkX10_choosePassing : mk1 134 0 [874, 86] = true := by decide +kernel
theorem mkX10_lap : mk1 135 0 [934, 86] = true := by decide +kernel
theorem mkX10_cellAfter : mk1 136 1 [939, 86] = true := by decide +kernel
theorem mkX10_holdsThen : mk1 137 4 [957, 86] = true := by decide +kernel
theorem mkX10_wantsAnother : mk1 138 4 [954, 86] = true := by decide +kernel
theorem mkX11_init : mk1 139 0 [1080, 98] = true := by decide +kernel
theorem mkX11_refuse : mk1 140 0 [1388, 98] = true := by decide +kernel
theorem mkX11_in : mk1 141 3 [1252, 98] = true := by decide +kernel
theorem mkX11_has : mk1 142 2 [1542, 98] = true := by decide +kernel
theorem mkX11_flag : mk1 143 1 [1282, 98] = true := by decide +kernel
theorem mkX11_common : mk1 144 2 [1629, 98] = true := by decide +kernel
theorem mkX11_enters : mk1 145 1 [1503, 98] = true := by decide +kernel
theorem mkX11_tellsFraction : mk1 146 2 [1626, 98] = true := by decide +kernel
theorem mkX11_isMess : mk1 147 1 [1400, 98] = true := by decide +kernel
theorem mkX11_sign : mk1 148 1 [1245, 98] = true := by decide +kernel
theorem mkX11_end : mk1 149 1 [1249, 98] = true := by decide +kernel
theorem mkX11_begins : mk1 150 1 [1260, 98] = true := by decide +kernel
theorem mkX11_takes : mk1 151 1 [1279, 98] = true := by decide +kernel
theorem mkX11_isDigit : mk1 152 0 [1273, 98] = true := by decide +kernel
theorem mkX11_among : mk1 153 1 [1303, 98] = true := by decide +kernel
theorem mkX11_takesOf : mk1 154 1 [1299, 98] = true := by decide +kernel
theorem mkX11_number : mk1 155 1 [1269, 98] = true := by decide +kernel
theorem mkX11_numberIn : mk1 156 3 [1265, 98] = true := by decide +kernel
theorem mkX11_faultOf : mk1 157 3 [1286, 98] = true := by decide +kernel
theorem mkX11_ship : mk1 158 0 [1256, 98] = true := by decide +kernel
theorem mkX11_readsRock : mk1 159 0 [1294, 98] = true := by decide +kernel
theorem mkX11_readsMess : mk1 160 0 [1360, 98] = true := by decide +kernel
theorem mkX11_rocks : mk1 161 0 [1290, 98] = true := by decide +kernel
theorem mkX11_messes : mk1 162 0 [1356, 98] = true := by decide +kernel
theorem mkX11_codes : mk1 163 1 [1376, 98] = true := by decide +kernel
theorem mkX11_readsThing : mk1 164 0 [1372, 98] = true := by decide +kernel
theorem mkX11_readsRank : mk1 165 1 [1368, 98] = true := by decide +kernel
theorem mkX11_rule : mk1 166 0 [1364, 98] = true := by decide +kernel
theorem mkX11_worked : mk1 167 3 [1434, 98] = true := by decide +kernel
theorem mkX11_ruled : mk1 168 0 [1431, 98] = true := by decide +kernel
theorem mkX11_delayAt : mk1 169 1 [1427, 98] = true := by decide +kernel
theorem mkX11_turned : mk1 170 1 [1451, 98] = true := by decide +kernel
theorem mkX11_post : mk1 171 2 [1384, 98] = true := by decide +kernel
theorem mkX11_rock : mk1 172 2 [1392, 98] = true := by decide +kernel
theorem mkX11_mess : mk1 173 2 [1396, 98] = true := by decide +kernel
theorem mkX11_isAhead : mk1 174 2 [1409, 98] = true := by decide +kernel
theorem mkX11_way : mk1 175 2 [1405, 98] = true := by decide +kernel
theorem mkX11_sheet : mk1 176 4 [1413, 98] = true := by decide +kernel
theorem mkX11_putsBy : mk1 177 0 [1442, 98] = true := by decide +kernel
theorem mkX11_adds : mk1 178 1 [1459, 98] = true := by decide +kernel
theorem mkX11_counts : mk1 179 1 [1455, 98] = true := by decide +kernel
theorem mkX11_undo : mk1 180 0 [1419, 98] = true := by decide +kernel
theorem mkX11_put : mk1 181 1 [1495, 98] = true := by decide +kernel
theorem mkX11_doesDue : mk1 182 1 [1492, 98] = true := by decide +kernel
theorem mkX11_hitsAt : mk1 183 2 [1499, 98] = true := by decide +kernel
theorem mkX11_stepGoes : mk1 184 1 [1489, 98] = true := by decide +kernel
theorem mkX11_gives : mk1 185 2 [1446, 98] = true := by decide +kernel
theorem mkX11_passes : mk1 186 3 [1467, 98] = true := by decide +kernel
theorem mkX11_cooks : mk1 187 2 [1476, 98] = true := by decide +kernel
theorem mkX11_delay : mk1 188 0 [1423, 98] = true := by decide +kernel
theorem mkX11_order : mk1 189 1 [1438, 98] = true := by decide +kernel
theorem mkX11_pass : mk1 190 3 [1463, 98] = true := by decide +kernel
theorem mkX11_cook : mk1 191 2 [1472, 98] = true := by decide +kernel
theorem mkX11_startsCounting : mk1 192 0 [1485, 98] = true := by decide +kernel
theorem mkX11_steps : mk1 193 1 [1480, 98] = true := by decide +kernel
theorem mkX11_readsAct : mk1 194 0 [1511, 98] = true := by decide +kernel
theorem mkX11_does : mk1 195 1 [1516, 98] = true := by decide +kernel
theorem mkX11_voyage : mk1 196 0 [1507, 98] = true := by decide +kernel
theorem mkX11_puts : mk1 197 0 [1524, 98] = true := by decide +kernel
theorem mkX11_lane : mk1 198 1 [1520, 98] = true := by decide +kernel
theorem mkX11_strikes : mk1 199 0 [1528, 98] = true := by decide +kernel
theorem mkX11_moved : mk1 200 2 [1539, 98] = true := by decide +kernel
theorem mkX11_movedByDue : mk1 201 2 [1536, 98] = true := by decide +kernel
theorem mkX11_mayGive : mk1 202 1 [1550, 98] = true := by decide +kernel
theorem mkX11_comesAt : mk1 203 2 [1546, 98] = true := by decide +kernel
theorem mkX11_clears : mk1 204 0 [1532, 98] = true := by decide +kernel
theorem mkX11_goesBy : mk1 205 2 [1571, 98] = true := by decide +kernel
theorem mkX11_laysLeast : mk1 206 1 [1567, 98] = true := by decide +kernel
theorem mkX11_fewestOrders : mk1 207 1 [1563, 98] = true := by decide +kernel
theorem mkX11_choosesAny : mk1 208 1 [1559, 98] = true := by decide +kernel
theorem mkX11_plan : mk1 209 1 [1554, 98] = true := by decide +kernel
theorem mkX11_latest : mk1 210 1 [1575, 98] = true := by decide +kernel
theorem mkX11_lanes : mk1 211 1 [1579, 98] = true := by decide +kernel
theorem mkX11_rocksIn : mk1 212 2 [1589, 98] = true := by decide +kernel
theorem mkX11_safest : mk1 213 1 [1584, 98] = true := by decide +kernel
theorem mkX11_late : mk1 214 1 [1594, 98] = true := by decide +kernel
theorem mkX11_comes : mk1 215 1 [1598, 98] = true := by decide +kernel
theorem mkX11_postsFor : mk1 216 1 [1608, 98] = true := by decide +kernel
theorem mkX11_relay : mk1 217 1 [1603, 98] = true := by decide +kernel
theorem mkX11_fewest : mk1 218 1 [1612, 98] = true := by decide +kernel
theorem mkX11_bets : mk1 219 2 [1622, 98] = true := by decide +kernel
theorem mkX11_word : mk1 220 2 [1617, 98] = true := by decide +kernel
theorem mkX11_survives : mk1 221 2 [1633, 98] = true := by decide +kernel
theorem mkX11_lastsFor : mk1 222 2 [1642, 98] = true := by decide +kernel
theorem mkX11_lives : mk1 223 1 [1638, 98] = true := by decide +kernel
theorem mkX11_spare : mk1 224 2 [1651, 98] = true := by decide +kernel
theorem mkX11_laysFlows : mk1 225 1 [1655, 98] = true := by decide +kernel
theorem mkX11_flow : mk1 226 2 [1660, 98] = true := by decide +kernel
theorem mkX11_shares : mk1 227 1 [1647, 98] = true := by decide +kernel
theorem mkX11_fast : mk1 228 1 [1664, 98] = true := by decide +kernel
theorem mkX11_seenIn : mk1 229 1 [1674, 98] = true := by decide +kernel
theorem mkX11_seen : mk1 230 2 [1668, 98] = true := by decide +kernel
theorem mkX11_forget : mk1 231 0 [1678, 98] = true := by decide +kernel
theorem mkX11_lastSeen : mk1 232 0 [1686, 98] = true := by decide +kernel
theorem mkX11_isFine : mk1 233 2 [1694, 98] = true := by decide +kernel
theorem mkX11_laysSeen : mk1 234 1 [1690, 98] = true := by decide +kernel
theorem mkX11_ordered : mk1 235 0 [1682, 98] = true := by decide +kernel
theorem mkX11_unsure : mk1 236 0 [1698, 98] = true := by decide +kernel
theorem mkX11_boyBegins : mk1 237 2 [1711, 98] = true := by decide +kernel
theorem mkX11_boyGoes : mk1 238 0 [1715, 98] = true := by decide +kernel
theorem mkX11_canRest : mk1 239 1 [1706, 98] = true := by decide +kernel
theorem mkX11_boy : mk1 240 2 [1702, 98] = true := by decide +kernel
theorem mkX11_meets : mk1 241 1 [1719, 98] = true := by decide +kernel
theorem mkX11_knows : mk1 242 2 [1723, 98] = true := by decide +kernel
theorem mkX11_keeps : mk1 243 4 [1735, 98] = true := by decide +kernel
theorem mkX11_isRest : mk1 244 4 [1732, 98] = true := by decide +kernel
theorem mkX11_mutiny : mk1 245 3 [1727, 98] = true := by decide +kernel
theorem mkX11_chance : mk1 246 3 [1739, 98] = true := by decide +kernel
theorem mkX11_voyages : mk1 247 2 [1743, 98] = true := by decide +kernel
theorem mkX11_keep : mk1 248 1 [1748, 98] = true := by decide +kernel
theorem mkX11_again : mk1 249 1 [1752, 98] = true := by decide +kernel
theorem mkX11_count : mk1 250 1 [1756, 98] = true := by decide +kernel
theorem mkX11_row : mk1 251 1 [1760, 98] = true := by decide +kernel
theorem mkJ6_bitCount_0f7a4 : mk1 252 1 [789, 109] = true := by decide +kernel
theorem mkJ0_length_8abf5 : mk1 253 0 [1307, 100] = true := by decide +kernel
theorem mkJ0_charAt_5068e : mk1 254 1 [1317, 100] = true := by decide +kernel
theorem mkJ7_fill_53178 : mk1 255 2 [375, 97] = true := by decide +kernel
theorem hmath_t : ∀ w ∈ mathW, w ∈ GW := by
  intro w hw
  simp only [mathW, List.mem_cons, List.not_mem_nil, or_false] at hw
  rcases hw with rfl | rfl | rfl | rfl | rfl | rfl | rfl | rfl | rfl | rfl | rfl | rfl
  · exact atT_gw (i := 575) (by decide +kernel)
  · exact atT_gw (i := 576) (by decide +kernel)
  · exact atT_gw (i := 464) (by decide +kernel)
  · exact atT_gw (i := 465) (by decide +kernel)
  · exact atT_gw (i := 806) (by decide +kernel)
  · exact atT_gw (i := 807) (by decide +kernel)
  · exact atT_gw (i := 99) (by decide +kernel)
  · exact atT_gw (i := 626) (by decide +kernel)
  · exact atT_gw (i := 625) (by decide +kernel)
  · exact atT_gw (i := 108) (by decide +kernel)
  · exact atT_gw (i := 116) (by decide +kernel)
  · exact atT_gw (i := 117) (by decide +kernel)
theorem mtab_len : mtab.length = 256 := by decide +kernel
theorem hac_of (k : Nat) {mi : MI} (hs : List (List Nat)) (h : mtab[k]? = some mi) (ho : (match mtab[k]? with
  | some mi => acokB mi hs
  | none => false) = true) : acok mi := by
  rw [h] at ho
  exact acokB_ok ho
theorem hac_t : ∀ (k : Nat) (mi : MI), mtab[k]? = some mi → acok mi := by
  intro k mi h
  have hk : k < 256 := by rw [← mtab_len]; exact (List.getElem?_eq_some_iff.mp h).1
  by_cases h0_256 : k < 128
  · by_cases h0_128 : k < 64
    · by_cases h0_64 : k < 32
      · by_cases h0_32 : k < 16
        · by_cases h0_16 : k < 8
          · by_cases h0_8 : k < 4
            · by_cases h0_4 : k < 2
              · by_cases h0_2 : k < 1
                · obtain rfl : k = 0 := by omega
                  exact hac_of 0 _ h okX0_init
                · obtain rfl : k = 1 := by omega
                  exact hac_of 1 _ h okX0_isOvertaken
              · by_cases h2_4 : k < 3
                · obtain rfl : k = 2 := by omega
                  exact hac_of 2 _ h okX0_reach
                · obtain rfl : k = 3 := by omega
                  exact hac_of 3 _ h okX0_moved
            · by_cases h4_8 : k < 6
              · by_cases h4_6 : k < 5
                · obtain rfl : k = 4 := by omega
                  exact hac_of 4 _ h okX0_freeOrders
                · obtain rfl : k = 5 := by omega
                  exact hac_of 5 _ h okX0_fewestOrders
              · by_cases h6_8 : k < 7
                · obtain rfl : k = 6 := by omega
                  exact hac_of 6 _ h okX0_doChosen
                · obtain rfl : k = 7 := by omega
                  exact hac_of 7 _ h okX0_moveCosts
          · by_cases h8_16 : k < 12
            · by_cases h8_12 : k < 10
              · by_cases h8_10 : k < 9
                · obtain rfl : k = 8 := by omega
                  exact hac_of 8 _ h okX0_chooseLeastRow
                · obtain rfl : k = 9 := by omega
                  exact hac_of 9 _ h okX0_leastChoice
              · by_cases h10_12 : k < 11
                · obtain rfl : k = 10 := by omega
                  exact hac_of 10 _ h okX1_init
                · obtain rfl : k = 11 := by omega
                  exact hac_of 11 _ h okX1_remember
            · by_cases h12_16 : k < 14
              · by_cases h12_14 : k < 13
                · obtain rfl : k = 12 := by omega
                  exact hac_of 12 _ h okX1_bringBack
                · obtain rfl : k = 13 := by omega
                  exact hac_of 13 _ h okX1_forgetAll
              · by_cases h14_16 : k < 15
                · obtain rfl : k = 14 := by omega
                  exact hac_of 14 _ h okX2_init
                · obtain rfl : k = 15 := by omega
                  exact hac_of 15 _ h okX2_readFrom
        · by_cases h16_32 : k < 24
          · by_cases h16_24 : k < 20
            · by_cases h16_20 : k < 18
              · by_cases h16_18 : k < 17
                · obtain rfl : k = 16 := by omega
                  exact hac_of 16 _ h okX3_init
                · obtain rfl : k = 17 := by omega
                  exact hac_of 17 _ h okX3_clear
              · by_cases h18_20 : k < 19
                · obtain rfl : k = 18 := by omega
                  exact hac_of 18 _ h okX3_add
                · obtain rfl : k = 19 := by omega
                  exact hac_of 19 _ h okX3_tellOne
            · by_cases h20_24 : k < 22
              · by_cases h20_22 : k < 21
                · obtain rfl : k = 20 := by omega
                  exact hac_of 20 _ h okX3_tellTwo
                · obtain rfl : k = 21 := by omega
                  exact hac_of 21 _ h okX3_tellFraction
              · by_cases h22_24 : k < 23
                · obtain rfl : k = 22 := by omega
                  exact hac_of 22 _ h okX4_init
                · obtain rfl : k = 23 := by omega
                  exact hac_of 23 _ h okX4_add
          · by_cases h24_32 : k < 28
            · by_cases h24_28 : k < 26
              · by_cases h24_26 : k < 25
                · obtain rfl : k = 24 := by omega
                  exact hac_of 24 _ h okX4_work
                · obtain rfl : k = 25 := by omega
                  exact hac_of 25 _ h okX4_push
              · by_cases h26_28 : k < 27
                · obtain rfl : k = 26 := by omega
                  exact hac_of 26 _ h okX4_pop
                · obtain rfl : k = 27 := by omega
                  exact hac_of 27 _ h okX4_valueOf
            · by_cases h28_32 : k < 30
              · by_cases h28_30 : k < 29
                · obtain rfl : k = 28 := by omega
                  exact hac_of 28 _ h okX4_apply
                · obtain rfl : k = 29 := by omega
                  exact hac_of 29 _ h okX5_init
              · by_cases h30_32 : k < 31
                · obtain rfl : k = 30 := by omega
                  exact hac_of 30 _ h okX5_readFrom
                · obtain rfl : k = 31 := by omega
                  exact hac_of 31 _ h okX5_takeThing
      · by_cases h32_64 : k < 48
        · by_cases h32_48 : k < 40
          · by_cases h32_40 : k < 36
            · by_cases h32_36 : k < 34
              · by_cases h32_34 : k < 33
                · obtain rfl : k = 32 := by omega
                  exact hac_of 32 _ h okX5_takeOperator
                · obtain rfl : k = 33 := by omega
                  exact hac_of 33 _ h okX5_hold
              · by_cases h34_36 : k < 35
                · obtain rfl : k = 34 := by omega
                  exact hac_of 34 _ h okX5_release
                · obtain rfl : k = 35 := by omega
                  exact hac_of 35 _ h okX5_rank
            · by_cases h36_40 : k < 38
              · by_cases h36_38 : k < 37
                · obtain rfl : k = 36 := by omega
                  exact hac_of 36 _ h okX6_init
                · obtain rfl : k = 37 := by omega
                  exact hac_of 37 _ h okX6_readFrom
              · by_cases h38_40 : k < 39
                · obtain rfl : k = 38 := by omega
                  exact hac_of 38 _ h okX6_addPost
                · obtain rfl : k = 39 := by omega
                  exact hac_of 39 _ h okX7_init
          · by_cases h40_48 : k < 44
            · by_cases h40_44 : k < 42
              · by_cases h40_42 : k < 41
                · obtain rfl : k = 40 := by omega
                  exact hac_of 40 _ h okX7_forgetAll
                · obtain rfl : k = 41 := by omega
                  exact hac_of 41 _ h okX7_lastStep
              · by_cases h42_44 : k < 43
                · obtain rfl : k = 42 := by omega
                  exact hac_of 42 _ h okX7_countWays
                · obtain rfl : k = 43 := by omega
                  exact hac_of 43 _ h okX7_waysBehind
            · by_cases h44_48 : k < 46
              · by_cases h44_46 : k < 45
                · obtain rfl : k = 44 := by omega
                  exact hac_of 44 _ h okX7_leastOrder
                · obtain rfl : k = 45 := by omega
                  exact hac_of 45 _ h okX7_possible
              · by_cases h46_48 : k < 47
                · obtain rfl : k = 46 := by omega
                  exact hac_of 46 _ h okX8_init
                · obtain rfl : k = 47 := by omega
                  exact hac_of 47 _ h okX8_copyFrom
        · by_cases h48_64 : k < 56
          · by_cases h48_56 : k < 52
            · by_cases h48_52 : k < 50
              · by_cases h48_50 : k < 49
                · obtain rfl : k = 48 := by omega
                  exact hac_of 48 _ h okX8_gaveNow
                · obtain rfl : k = 49 := by omega
                  exact hac_of 49 _ h okX8_addOrder
              · by_cases h50_52 : k < 51
                · obtain rfl : k = 50 := by omega
                  exact hac_of 50 _ h okX8_doDueOrders
                · obtain rfl : k = 51 := by omega
                  exact hac_of 51 _ h okX8_laneIn
            · by_cases h52_56 : k < 54
              · by_cases h52_54 : k < 53
                · obtain rfl : k = 52 := by omega
                  exact hac_of 52 _ h okX8_eat
                · obtain rfl : k = 53 := by omega
                  exact hac_of 53 _ h okX9_init
              · by_cases h54_56 : k < 55
                · obtain rfl : k = 54 := by omega
                  exact hac_of 54 _ h okX9_append
                · obtain rfl : k = 55 := by omega
                  exact hac_of 55 _ h okX9_open
          · by_cases h56_64 : k < 60
            · by_cases h56_60 : k < 58
              · by_cases h56_58 : k < 57
                · obtain rfl : k = 56 := by omega
                  exact hac_of 56 _ h okX9_ended
                · obtain rfl : k = 57 := by omega
                  exact hac_of 57 _ h okX9_next
              · by_cases h58_60 : k < 59
                · obtain rfl : k = 58 := by omega
                  exact hac_of 58 _ h okX9_take
                · obtain rfl : k = 59 := by omega
                  exact hac_of 59 _ h okX9_takeNumber
            · by_cases h60_64 : k < 62
              · by_cases h60_62 : k < 61
                · obtain rfl : k = 60 := by omega
                  exact hac_of 60 _ h okX9_faultAtEnd
                · obtain rfl : k = 61 := by omega
                  exact hac_of 61 _ h okX10_init
              · by_cases h62_64 : k < 63
                · obtain rfl : k = 62 := by omega
                  exact hac_of 62 _ h okX10_sign
                · obtain rfl : k = 63 := by omega
                  exact hac_of 63 _ h okX10_end
    · by_cases h64_128 : k < 96
      · by_cases h64_96 : k < 80
        · by_cases h64_80 : k < 72
          · by_cases h64_72 : k < 68
            · by_cases h64_68 : k < 66
              · by_cases h64_66 : k < 65
                · obtain rfl : k = 64 := by omega
                  exact hac_of 64 _ h okX10_ship
                · obtain rfl : k = 65 := by omega
                  exact hac_of 65 _ h okX10_rocks
              · by_cases h66_68 : k < 67
                · obtain rfl : k = 66 := by omega
                  exact hac_of 66 _ h okX10_messes
                · obtain rfl : k = 67 := by omega
                  exact hac_of 67 _ h okX10_rule
            · by_cases h68_72 : k < 70
              · by_cases h68_70 : k < 69
                · obtain rfl : k = 68 := by omega
                  exact hac_of 68 _ h okX10_post
                · obtain rfl : k = 69 := by omega
                  exact hac_of 69 _ h okX10_rock
              · by_cases h70_72 : k < 71
                · obtain rfl : k = 70 := by omega
                  exact hac_of 70 _ h okX10_mess
                · obtain rfl : k = 71 := by omega
                  exact hac_of 71 _ h okX10_way
          · by_cases h72_80 : k < 76
            · by_cases h72_76 : k < 74
              · by_cases h72_74 : k < 73
                · obtain rfl : k = 72 := by omega
                  exact hac_of 72 _ h okX10_sheet
                · obtain rfl : k = 73 := by omega
                  exact hac_of 73 _ h okX10_delay
              · by_cases h74_76 : k < 75
                · obtain rfl : k = 74 := by omega
                  exact hac_of 74 _ h okX10_order
                · obtain rfl : k = 75 := by omega
                  exact hac_of 75 _ h okX10_pass
            · by_cases h76_80 : k < 78
              · by_cases h76_78 : k < 77
                · obtain rfl : k = 76 := by omega
                  exact hac_of 76 _ h okX10_cook
                · obtain rfl : k = 77 := by omega
                  exact hac_of 77 _ h okX10_steps
              · by_cases h78_80 : k < 79
                · obtain rfl : k = 78 := by omega
                  exact hac_of 78 _ h okX10_voyage
                · obtain rfl : k = 79 := by omega
                  exact hac_of 79 _ h okX10_undo
        · by_cases h80_96 : k < 88
          · by_cases h80_88 : k < 84
            · by_cases h80_84 : k < 82
              · by_cases h80_82 : k < 81
                · obtain rfl : k = 80 := by omega
                  exact hac_of 80 _ h okX10_lane
                · obtain rfl : k = 81 := by omega
                  exact hac_of 81 _ h okX10_strikes
              · by_cases h82_84 : k < 83
                · obtain rfl : k = 82 := by omega
                  exact hac_of 82 _ h okX10_clears
                · obtain rfl : k = 83 := by omega
                  exact hac_of 83 _ h okX10_plan
            · by_cases h84_88 : k < 86
              · by_cases h84_86 : k < 85
                · obtain rfl : k = 84 := by omega
                  exact hac_of 84 _ h okX10_latest
                · obtain rfl : k = 85 := by omega
                  exact hac_of 85 _ h okX10_lanes
              · by_cases h86_88 : k < 87
                · obtain rfl : k = 86 := by omega
                  exact hac_of 86 _ h okX10_safest
                · obtain rfl : k = 87 := by omega
                  exact hac_of 87 _ h okX10_late
          · by_cases h88_96 : k < 92
            · by_cases h88_92 : k < 90
              · by_cases h88_90 : k < 89
                · obtain rfl : k = 88 := by omega
                  exact hac_of 88 _ h okX10_comes
                · obtain rfl : k = 89 := by omega
                  exact hac_of 89 _ h okX10_relay
              · by_cases h90_92 : k < 91
                · obtain rfl : k = 90 := by omega
                  exact hac_of 90 _ h okX10_fewest
                · obtain rfl : k = 91 := by omega
                  exact hac_of 91 _ h okX10_word
            · by_cases h92_96 : k < 94
              · by_cases h92_94 : k < 93
                · obtain rfl : k = 92 := by omega
                  exact hac_of 92 _ h okX10_survives
                · obtain rfl : k = 93 := by omega
                  exact hac_of 93 _ h okX10_lives
              · by_cases h94_96 : k < 95
                · obtain rfl : k = 94 := by omega
                  exact hac_of 94 _ h okX10_shares
                · obtain rfl : k = 95 := by omega
                  exact hac_of 95 _ h okX10_fast
      · by_cases h96_128 : k < 112
        · by_cases h96_112 : k < 104
          · by_cases h96_104 : k < 100
            · by_cases h96_100 : k < 98
              · by_cases h96_98 : k < 97
                · obtain rfl : k = 96 := by omega
                  exact hac_of 96 _ h okX10_seen
                · obtain rfl : k = 97 := by omega
                  exact hac_of 97 _ h okX10_forget
              · by_cases h98_100 : k < 99
                · obtain rfl : k = 98 := by omega
                  exact hac_of 98 _ h okX10_ordered
                · obtain rfl : k = 99 := by omega
                  exact hac_of 99 _ h okX10_unsure
            · by_cases h100_104 : k < 102
              · by_cases h100_102 : k < 101
                · obtain rfl : k = 100 := by omega
                  exact hac_of 100 _ h okX10_boy
                · obtain rfl : k = 101 := by omega
                  exact hac_of 101 _ h okX10_meets
              · by_cases h102_104 : k < 103
                · obtain rfl : k = 102 := by omega
                  exact hac_of 102 _ h okX10_knows
                · obtain rfl : k = 103 := by omega
                  exact hac_of 103 _ h okX10_mutiny
          · by_cases h104_112 : k < 108
            · by_cases h104_108 : k < 106
              · by_cases h104_106 : k < 105
                · obtain rfl : k = 104 := by omega
                  exact hac_of 104 _ h okX10_chance
                · obtain rfl : k = 105 := by omega
                  exact hac_of 105 _ h okX10_voyages
              · by_cases h106_108 : k < 107
                · obtain rfl : k = 106 := by omega
                  exact hac_of 106 _ h okX10_keep
                · obtain rfl : k = 107 := by omega
                  exact hac_of 107 _ h okX10_again
            · by_cases h108_112 : k < 110
              · by_cases h108_110 : k < 109
                · obtain rfl : k = 108 := by omega
                  exact hac_of 108 _ h okX10_count
                · obtain rfl : k = 109 := by omega
                  exact hac_of 109 _ h okX10_row
              · by_cases h110_112 : k < 111
                · obtain rfl : k = 110 := by omega
                  exact hac_of 110 _ h okX10_isDigit
                · obtain rfl : k = 111 := by omega
                  exact hac_of 111 _ h okX10_readMesses
        · by_cases h112_128 : k < 120
          · by_cases h112_120 : k < 116
            · by_cases h112_116 : k < 114
              · by_cases h112_114 : k < 113
                · obtain rfl : k = 112 := by omega
                  exact hac_of 112 _ h okX10_voyageFault
                · obtain rfl : k = 113 := by omega
                  exact hac_of 113 _ h okX10_doVoyageSign
              · by_cases h114_116 : k < 115
                · obtain rfl : k = 114 := by omega
                  exact hac_of 114 _ h okX10_put
                · obtain rfl : k = 115 := by omega
                  exact hac_of 115 _ h okX10_entry
            · by_cases h116_120 : k < 118
              · by_cases h116_118 : k < 117
                · obtain rfl : k = 116 := by omega
                  exact hac_of 116 _ h okX10_keepOnSea
                · obtain rfl : k = 117 := by omega
                  exact hac_of 117 _ h okX10_delayAt
              · by_cases h118_120 : k < 119
                · obtain rfl : k = 118 := by omega
                  exact hac_of 118 _ h okX10_orderRefusal
                · obtain rfl : k = 119 := by omega
                  exact hac_of 119 _ h okX10_giveOrder
          · by_cases h120_128 : k < 124
            · by_cases h120_124 : k < 122
              · by_cases h120_122 : k < 121
                · obtain rfl : k = 120 := by omega
                  exact hac_of 120 _ h okX10_passRefusal
                · obtain rfl : k = 121 := by omega
                  exact hac_of 121 _ h okX10_moveFood
              · by_cases h122_124 : k < 123
                · obtain rfl : k = 122 := by omega
                  exact hac_of 122 _ h okX10_goStep
                · obtain rfl : k = 123 := by omega
                  exact hac_of 123 _ h okX10_firstFree
            · by_cases h124_128 : k < 126
              · by_cases h124_126 : k < 125
                · obtain rfl : k = 124 := by omega
                  exact hac_of 124 _ h okX10_lookAhead
                · obtain rfl : k = 125 := by omega
                  exact hac_of 125 _ h okX10_rocksInLane
              · by_cases h126_128 : k < 127
                · obtain rfl : k = 126 := by omega
                  exact hac_of 126 _ h okX10_apart
                · obtain rfl : k = 127 := by omega
                  exact hac_of 127 _ h okX10_widened
  · by_cases h128_256 : k < 192
    · by_cases h128_192 : k < 160
      · by_cases h128_160 : k < 144
        · by_cases h128_144 : k < 136
          · by_cases h128_136 : k < 132
            · by_cases h128_132 : k < 130
              · by_cases h128_130 : k < 129
                · obtain rfl : k = 128 := by omega
                  exact hac_of 128 _ h okX10_power
                · obtain rfl : k = 129 := by omega
                  exact hac_of 129 _ h okX10_likelyWord
              · by_cases h130_132 : k < 131
                · obtain rfl : k = 130 := by omega
                  exact hac_of 130 _ h okX10_lastsFor
                · obtain rfl : k = 131 := by omega
                  exact hac_of 131 _ h okX10_foodLeft
            · by_cases h132_136 : k < 134
              · by_cases h132_134 : k < 133
                · obtain rfl : k = 132 := by omega
                  exact hac_of 132 _ h okX10_weighPassing
                · obtain rfl : k = 133 := by omega
                  exact hac_of 133 _ h okX10_leastPassing
              · by_cases h134_136 : k < 135
                · obtain rfl : k = 134 := by omega
                  exact hac_of 134 _ h okX10_choosePassing
                · obtain rfl : k = 135 := by omega
                  exact hac_of 135 _ h okX10_lap
          · by_cases h136_144 : k < 140
            · by_cases h136_140 : k < 138
              · by_cases h136_138 : k < 137
                · obtain rfl : k = 136 := by omega
                  exact hac_of 136 _ h okX10_cellAfter
                · obtain rfl : k = 137 := by omega
                  exact hac_of 137 _ h okX10_holdsThen
              · by_cases h138_140 : k < 139
                · obtain rfl : k = 138 := by omega
                  exact hac_of 138 _ h okX10_wantsAnother
                · obtain rfl : k = 139 := by omega
                  exact hac_of 139 _ h okX11_init
            · by_cases h140_144 : k < 142
              · by_cases h140_142 : k < 141
                · obtain rfl : k = 140 := by omega
                  exact hac_of 140 _ h okX11_refuse
                · obtain rfl : k = 141 := by omega
                  exact hac_of 141 _ h okX11_in
              · by_cases h142_144 : k < 143
                · obtain rfl : k = 142 := by omega
                  exact hac_of 142 _ h okX11_has
                · obtain rfl : k = 143 := by omega
                  exact hac_of 143 _ h okX11_flag
        · by_cases h144_160 : k < 152
          · by_cases h144_152 : k < 148
            · by_cases h144_148 : k < 146
              · by_cases h144_146 : k < 145
                · obtain rfl : k = 144 := by omega
                  exact hac_of 144 _ h okX11_common
                · obtain rfl : k = 145 := by omega
                  exact hac_of 145 _ h okX11_enters
              · by_cases h146_148 : k < 147
                · obtain rfl : k = 146 := by omega
                  exact hac_of 146 _ h okX11_tellsFraction
                · obtain rfl : k = 147 := by omega
                  exact hac_of 147 _ h okX11_isMess
            · by_cases h148_152 : k < 150
              · by_cases h148_150 : k < 149
                · obtain rfl : k = 148 := by omega
                  exact hac_of 148 _ h okX11_sign
                · obtain rfl : k = 149 := by omega
                  exact hac_of 149 _ h okX11_end
              · by_cases h150_152 : k < 151
                · obtain rfl : k = 150 := by omega
                  exact hac_of 150 _ h okX11_begins
                · obtain rfl : k = 151 := by omega
                  exact hac_of 151 _ h okX11_takes
          · by_cases h152_160 : k < 156
            · by_cases h152_156 : k < 154
              · by_cases h152_154 : k < 153
                · obtain rfl : k = 152 := by omega
                  exact hac_of 152 _ h okX11_isDigit
                · obtain rfl : k = 153 := by omega
                  exact hac_of 153 _ h okX11_among
              · by_cases h154_156 : k < 155
                · obtain rfl : k = 154 := by omega
                  exact hac_of 154 _ h okX11_takesOf
                · obtain rfl : k = 155 := by omega
                  exact hac_of 155 _ h okX11_number
            · by_cases h156_160 : k < 158
              · by_cases h156_158 : k < 157
                · obtain rfl : k = 156 := by omega
                  exact hac_of 156 _ h okX11_numberIn
                · obtain rfl : k = 157 := by omega
                  exact hac_of 157 _ h okX11_faultOf
              · by_cases h158_160 : k < 159
                · obtain rfl : k = 158 := by omega
                  exact hac_of 158 _ h okX11_ship
                · obtain rfl : k = 159 := by omega
                  exact hac_of 159 _ h okX11_readsRock
      · by_cases h160_192 : k < 176
        · by_cases h160_176 : k < 168
          · by_cases h160_168 : k < 164
            · by_cases h160_164 : k < 162
              · by_cases h160_162 : k < 161
                · obtain rfl : k = 160 := by omega
                  exact hac_of 160 _ h okX11_readsMess
                · obtain rfl : k = 161 := by omega
                  exact hac_of 161 _ h okX11_rocks
              · by_cases h162_164 : k < 163
                · obtain rfl : k = 162 := by omega
                  exact hac_of 162 _ h okX11_messes
                · obtain rfl : k = 163 := by omega
                  exact hac_of 163 _ h okX11_codes
            · by_cases h164_168 : k < 166
              · by_cases h164_166 : k < 165
                · obtain rfl : k = 164 := by omega
                  exact hac_of 164 _ h okX11_readsThing
                · obtain rfl : k = 165 := by omega
                  exact hac_of 165 _ h okX11_readsRank
              · by_cases h166_168 : k < 167
                · obtain rfl : k = 166 := by omega
                  exact hac_of 166 _ h okX11_rule
                · obtain rfl : k = 167 := by omega
                  exact hac_of 167 _ h okX11_worked
          · by_cases h168_176 : k < 172
            · by_cases h168_172 : k < 170
              · by_cases h168_170 : k < 169
                · obtain rfl : k = 168 := by omega
                  exact hac_of 168 _ h okX11_ruled
                · obtain rfl : k = 169 := by omega
                  exact hac_of 169 _ h okX11_delayAt
              · by_cases h170_172 : k < 171
                · obtain rfl : k = 170 := by omega
                  exact hac_of 170 _ h okX11_turned
                · obtain rfl : k = 171 := by omega
                  exact hac_of 171 _ h okX11_post
            · by_cases h172_176 : k < 174
              · by_cases h172_174 : k < 173
                · obtain rfl : k = 172 := by omega
                  exact hac_of 172 _ h okX11_rock
                · obtain rfl : k = 173 := by omega
                  exact hac_of 173 _ h okX11_mess
              · by_cases h174_176 : k < 175
                · obtain rfl : k = 174 := by omega
                  exact hac_of 174 _ h okX11_isAhead
                · obtain rfl : k = 175 := by omega
                  exact hac_of 175 _ h okX11_way
        · by_cases h176_192 : k < 184
          · by_cases h176_184 : k < 180
            · by_cases h176_180 : k < 178
              · by_cases h176_178 : k < 177
                · obtain rfl : k = 176 := by omega
                  exact hac_of 176 _ h okX11_sheet
                · obtain rfl : k = 177 := by omega
                  exact hac_of 177 _ h okX11_putsBy
              · by_cases h178_180 : k < 179
                · obtain rfl : k = 178 := by omega
                  exact hac_of 178 _ h okX11_adds
                · obtain rfl : k = 179 := by omega
                  exact hac_of 179 _ h okX11_counts
            · by_cases h180_184 : k < 182
              · by_cases h180_182 : k < 181
                · obtain rfl : k = 180 := by omega
                  exact hac_of 180 _ h okX11_undo
                · obtain rfl : k = 181 := by omega
                  exact hac_of 181 _ h okX11_put
              · by_cases h182_184 : k < 183
                · obtain rfl : k = 182 := by omega
                  exact hac_of 182 _ h okX11_doesDue
                · obtain rfl : k = 183 := by omega
                  exact hac_of 183 _ h okX11_hitsAt
          · by_cases h184_192 : k < 188
            · by_cases h184_188 : k < 186
              · by_cases h184_186 : k < 185
                · obtain rfl : k = 184 := by omega
                  exact hac_of 184 _ h okX11_stepGoes
                · obtain rfl : k = 185 := by omega
                  exact hac_of 185 _ h okX11_gives
              · by_cases h186_188 : k < 187
                · obtain rfl : k = 186 := by omega
                  exact hac_of 186 _ h okX11_passes
                · obtain rfl : k = 187 := by omega
                  exact hac_of 187 _ h okX11_cooks
            · by_cases h188_192 : k < 190
              · by_cases h188_190 : k < 189
                · obtain rfl : k = 188 := by omega
                  exact hac_of 188 _ h okX11_delay
                · obtain rfl : k = 189 := by omega
                  exact hac_of 189 _ h okX11_order
              · by_cases h190_192 : k < 191
                · obtain rfl : k = 190 := by omega
                  exact hac_of 190 _ h okX11_pass
                · obtain rfl : k = 191 := by omega
                  exact hac_of 191 _ h okX11_cook
    · by_cases h192_256 : k < 224
      · by_cases h192_224 : k < 208
        · by_cases h192_208 : k < 200
          · by_cases h192_200 : k < 196
            · by_cases h192_196 : k < 194
              · by_cases h192_194 : k < 193
                · obtain rfl : k = 192 := by omega
                  exact hac_of 192 _ h okX11_startsCounting
                · obtain rfl : k = 193 := by omega
                  exact hac_of 193 _ h okX11_steps
              · by_cases h194_196 : k < 195
                · obtain rfl : k = 194 := by omega
                  exact hac_of 194 _ h okX11_readsAct
                · obtain rfl : k = 195 := by omega
                  exact hac_of 195 _ h okX11_does
            · by_cases h196_200 : k < 198
              · by_cases h196_198 : k < 197
                · obtain rfl : k = 196 := by omega
                  exact hac_of 196 _ h okX11_voyage
                · obtain rfl : k = 197 := by omega
                  exact hac_of 197 _ h okX11_puts
              · by_cases h198_200 : k < 199
                · obtain rfl : k = 198 := by omega
                  exact hac_of 198 _ h okX11_lane
                · obtain rfl : k = 199 := by omega
                  exact hac_of 199 _ h okX11_strikes
          · by_cases h200_208 : k < 204
            · by_cases h200_204 : k < 202
              · by_cases h200_202 : k < 201
                · obtain rfl : k = 200 := by omega
                  exact hac_of 200 _ h okX11_moved
                · obtain rfl : k = 201 := by omega
                  exact hac_of 201 _ h okX11_movedByDue
              · by_cases h202_204 : k < 203
                · obtain rfl : k = 202 := by omega
                  exact hac_of 202 _ h okX11_mayGive
                · obtain rfl : k = 203 := by omega
                  exact hac_of 203 _ h okX11_comesAt
            · by_cases h204_208 : k < 206
              · by_cases h204_206 : k < 205
                · obtain rfl : k = 204 := by omega
                  exact hac_of 204 _ h okX11_clears
                · obtain rfl : k = 205 := by omega
                  exact hac_of 205 _ h okX11_goesBy
              · by_cases h206_208 : k < 207
                · obtain rfl : k = 206 := by omega
                  exact hac_of 206 _ h okX11_laysLeast
                · obtain rfl : k = 207 := by omega
                  exact hac_of 207 _ h okX11_fewestOrders
        · by_cases h208_224 : k < 216
          · by_cases h208_216 : k < 212
            · by_cases h208_212 : k < 210
              · by_cases h208_210 : k < 209
                · obtain rfl : k = 208 := by omega
                  exact hac_of 208 _ h okX11_choosesAny
                · obtain rfl : k = 209 := by omega
                  exact hac_of 209 _ h okX11_plan
              · by_cases h210_212 : k < 211
                · obtain rfl : k = 210 := by omega
                  exact hac_of 210 _ h okX11_latest
                · obtain rfl : k = 211 := by omega
                  exact hac_of 211 _ h okX11_lanes
            · by_cases h212_216 : k < 214
              · by_cases h212_214 : k < 213
                · obtain rfl : k = 212 := by omega
                  exact hac_of 212 _ h okX11_rocksIn
                · obtain rfl : k = 213 := by omega
                  exact hac_of 213 _ h okX11_safest
              · by_cases h214_216 : k < 215
                · obtain rfl : k = 214 := by omega
                  exact hac_of 214 _ h okX11_late
                · obtain rfl : k = 215 := by omega
                  exact hac_of 215 _ h okX11_comes
          · by_cases h216_224 : k < 220
            · by_cases h216_220 : k < 218
              · by_cases h216_218 : k < 217
                · obtain rfl : k = 216 := by omega
                  exact hac_of 216 _ h okX11_postsFor
                · obtain rfl : k = 217 := by omega
                  exact hac_of 217 _ h okX11_relay
              · by_cases h218_220 : k < 219
                · obtain rfl : k = 218 := by omega
                  exact hac_of 218 _ h okX11_fewest
                · obtain rfl : k = 219 := by omega
                  exact hac_of 219 _ h okX11_bets
            · by_cases h220_224 : k < 222
              · by_cases h220_222 : k < 221
                · obtain rfl : k = 220 := by omega
                  exact hac_of 220 _ h okX11_word
                · obtain rfl : k = 221 := by omega
                  exact hac_of 221 _ h okX11_survives
              · by_cases h222_224 : k < 223
                · obtain rfl : k = 222 := by omega
                  exact hac_of 222 _ h okX11_lastsFor
                · obtain rfl : k = 223 := by omega
                  exact hac_of 223 _ h okX11_lives
      · by_cases h224_256 : k < 240
        · by_cases h224_240 : k < 232
          · by_cases h224_232 : k < 228
            · by_cases h224_228 : k < 226
              · by_cases h224_226 : k < 225
                · obtain rfl : k = 224 := by omega
                  exact hac_of 224 _ h okX11_spare
                · obtain rfl : k = 225 := by omega
                  exact hac_of 225 _ h okX11_laysFlows
              · by_cases h226_228 : k < 227
                · obtain rfl : k = 226 := by omega
                  exact hac_of 226 _ h okX11_flow
                · obtain rfl : k = 227 := by omega
                  exact hac_of 227 _ h okX11_shares
            · by_cases h228_232 : k < 230
              · by_cases h228_230 : k < 229
                · obtain rfl : k = 228 := by omega
                  exact hac_of 228 _ h okX11_fast
                · obtain rfl : k = 229 := by omega
                  exact hac_of 229 _ h okX11_seenIn
              · by_cases h230_232 : k < 231
                · obtain rfl : k = 230 := by omega
                  exact hac_of 230 _ h okX11_seen
                · obtain rfl : k = 231 := by omega
                  exact hac_of 231 _ h okX11_forget
          · by_cases h232_240 : k < 236
            · by_cases h232_236 : k < 234
              · by_cases h232_234 : k < 233
                · obtain rfl : k = 232 := by omega
                  exact hac_of 232 _ h okX11_lastSeen
                · obtain rfl : k = 233 := by omega
                  exact hac_of 233 _ h okX11_isFine
              · by_cases h234_236 : k < 235
                · obtain rfl : k = 234 := by omega
                  exact hac_of 234 _ h okX11_laysSeen
                · obtain rfl : k = 235 := by omega
                  exact hac_of 235 _ h okX11_ordered
            · by_cases h236_240 : k < 238
              · by_cases h236_238 : k < 237
                · obtain rfl : k = 236 := by omega
                  exact hac_of 236 _ h okX11_unsure
                · obtain rfl : k = 237 := by omega
                  exact hac_of 237 _ h okX11_boyBegins
              · by_cases h238_240 : k < 239
                · obtain rfl : k = 238 := by omega
                  exact hac_of 238 _ h okX11_boyGoes
                · obtain rfl : k = 239 := by omega
                  exact hac_of 239 _ h okX11_canRest
        · by_cases h240_256 : k < 248
          · by_cases h240_248 : k < 244
            · by_cases h240_244 : k < 242
              · by_cases h240_242 : k < 241
                · obtain rfl : k = 240 := by omega
                  exact hac_of 240 _ h okX11_boy
                · obtain rfl : k = 241 := by omega
                  exact hac_of 241 _ h okX11_meets
              · by_cases h242_244 : k < 243
                · obtain rfl : k = 242 := by omega
                  exact hac_of 242 _ h okX11_knows
                · obtain rfl : k = 243 := by omega
                  exact hac_of 243 _ h okX11_keeps
            · by_cases h244_248 : k < 246
              · by_cases h244_246 : k < 245
                · obtain rfl : k = 244 := by omega
                  exact hac_of 244 _ h okX11_isRest
                · obtain rfl : k = 245 := by omega
                  exact hac_of 245 _ h okX11_mutiny
              · by_cases h246_248 : k < 247
                · obtain rfl : k = 246 := by omega
                  exact hac_of 246 _ h okX11_chance
                · obtain rfl : k = 247 := by omega
                  exact hac_of 247 _ h okX11_voyages
          · by_cases h248_256 : k < 252
            · by_cases h248_252 : k < 250
              · by_cases h248_250 : k < 249
                · obtain rfl : k = 248 := by omega
                  exact hac_of 248 _ h okX11_keep
                · obtain rfl : k = 249 := by omega
                  exact hac_of 249 _ h okX11_again
              · by_cases h250_252 : k < 251
                · obtain rfl : k = 250 := by omega
                  exact hac_of 250 _ h okX11_count
                · obtain rfl : k = 251 := by omega
                  exact hac_of 251 _ h okX11_row
            · by_cases h252_256 : k < 254
              · by_cases h252_254 : k < 253
                · obtain rfl : k = 252 := by omega
                  exact hac_of 252 _ h okJ6_bitCount_0f7a4
                · obtain rfl : k = 253 := by omega
                  exact hac_of 253 _ h okJ0_length_8abf5
              · by_cases h254_256 : k < 255
                · obtain rfl : k = 254 := by omega
                  exact hac_of 254 _ h okJ0_charAt_5068e
                · obtain rfl : k = 255 := by omega
                  exact hac_of 255 _ h okJ7_fill_53178
theorem hmok_t : ∀ (k : Nat) (mi : MI), mtab[k]? = some mi → ∃ n, mok mi n ∧ mi.2.2.2.2.2.2 = if minst.getD k false = true then n + 1 else n := by
  intro k mi h
  have hk : k < 256 := by rw [← mtab_len]; exact (List.getElem?_eq_some_iff.mp h).1
  by_cases h0_256 : k < 128
  · by_cases h0_128 : k < 64
    · by_cases h0_64 : k < 32
      · by_cases h0_32 : k < 16
        · by_cases h0_16 : k < 8
          · by_cases h0_8 : k < 4
            · by_cases h0_4 : k < 2
              · by_cases h0_2 : k < 1
                · obtain rfl : k = 0 := by omega
                  exact mk1_ok mkX0_init h
                · obtain rfl : k = 1 := by omega
                  exact mk1_ok mkX0_isOvertaken h
              · by_cases h2_4 : k < 3
                · obtain rfl : k = 2 := by omega
                  exact mk1_ok mkX0_reach h
                · obtain rfl : k = 3 := by omega
                  exact mk1_ok mkX0_moved h
            · by_cases h4_8 : k < 6
              · by_cases h4_6 : k < 5
                · obtain rfl : k = 4 := by omega
                  exact mk1_ok mkX0_freeOrders h
                · obtain rfl : k = 5 := by omega
                  exact mk1_ok mkX0_fewestOrders h
              · by_cases h6_8 : k < 7
                · obtain rfl : k = 6 := by omega
                  exact mk1_ok mkX0_doChosen h
                · obtain rfl : k = 7 := by omega
                  exact mk1_ok mkX0_moveCosts h
          · by_cases h8_16 : k < 12
            · by_cases h8_12 : k < 10
              · by_cases h8_10 : k < 9
                · obtain rfl : k = 8 := by omega
                  exact mk1_ok mkX0_chooseLeastRow h
                · obtain rfl : k = 9 := by omega
                  exact mk1_ok mkX0_leastChoice h
              · by_cases h10_12 : k < 11
                · obtain rfl : k = 10 := by omega
                  exact mk1_ok mkX1_init h
                · obtain rfl : k = 11 := by omega
                  exact mk1_ok mkX1_remember h
            · by_cases h12_16 : k < 14
              · by_cases h12_14 : k < 13
                · obtain rfl : k = 12 := by omega
                  exact mk1_ok mkX1_bringBack h
                · obtain rfl : k = 13 := by omega
                  exact mk1_ok mkX1_forgetAll h
              · by_cases h14_16 : k < 15
                · obtain rfl : k = 14 := by omega
                  exact mk1_ok mkX2_init h
                · obtain rfl : k = 15 := by omega
                  exact mk1_ok mkX2_readFrom h
        · by_cases h16_32 : k < 24
          · by_cases h16_24 : k < 20
            · by_cases h16_20 : k < 18
              · by_cases h16_18 : k < 17
                · obtain rfl : k = 16 := by omega
                  exact mk1_ok mkX3_init h
                · obtain rfl : k = 17 := by omega
                  exact mk1_ok mkX3_clear h
              · by_cases h18_20 : k < 19
                · obtain rfl : k = 18 := by omega
                  exact mk1_ok mkX3_add h
                · obtain rfl : k = 19 := by omega
                  exact mk1_ok mkX3_tellOne h
            · by_cases h20_24 : k < 22
              · by_cases h20_22 : k < 21
                · obtain rfl : k = 20 := by omega
                  exact mk1_ok mkX3_tellTwo h
                · obtain rfl : k = 21 := by omega
                  exact mk1_ok mkX3_tellFraction h
              · by_cases h22_24 : k < 23
                · obtain rfl : k = 22 := by omega
                  exact mk1_ok mkX4_init h
                · obtain rfl : k = 23 := by omega
                  exact mk1_ok mkX4_add h
          · by_cases h24_32 : k < 28
            · by_cases h24_28 : k < 26
              · by_cases h24_26 : k < 25
                · obtain rfl : k = 24 := by omega
                  exact mk1_ok mkX4_work h
                · obtain rfl : k = 25 := by omega
                  exact mk1_ok mkX4_push h
              · by_cases h26_28 : k < 27
                · obtain rfl : k = 26 := by omega
                  exact mk1_ok mkX4_pop h
                · obtain rfl : k = 27 := by omega
                  exact mk1_ok mkX4_valueOf h
            · by_cases h28_32 : k < 30
              · by_cases h28_30 : k < 29
                · obtain rfl : k = 28 := by omega
                  exact mk1_ok mkX4_apply h
                · obtain rfl : k = 29 := by omega
                  exact mk1_ok mkX5_init h
              · by_cases h30_32 : k < 31
                · obtain rfl : k = 30 := by omega
                  exact mk1_ok mkX5_readFrom h
                · obtain rfl : k = 31 := by omega
                  exact mk1_ok mkX5_takeThing h
      · by_cases h32_64 : k < 48
        · by_cases h32_48 : k < 40
          · by_cases h32_40 : k < 36
            · by_cases h32_36 : k < 34
              · by_cases h32_34 : k < 33
                · obtain rfl : k = 32 := by omega
                  exact mk1_ok mkX5_takeOperator h
                · obtain rfl : k = 33 := by omega
                  exact mk1_ok mkX5_hold h
              · by_cases h34_36 : k < 35
                · obtain rfl : k = 34 := by omega
                  exact mk1_ok mkX5_release h
                · obtain rfl : k = 35 := by omega
                  exact mk1_ok mkX5_rank h
            · by_cases h36_40 : k < 38
              · by_cases h36_38 : k < 37
                · obtain rfl : k = 36 := by omega
                  exact mk1_ok mkX6_init h
                · obtain rfl : k = 37 := by omega
                  exact mk1_ok mkX6_readFrom h
              · by_cases h38_40 : k < 39
                · obtain rfl : k = 38 := by omega
                  exact mk1_ok mkX6_addPost h
                · obtain rfl : k = 39 := by omega
                  exact mk1_ok mkX7_init h
          · by_cases h40_48 : k < 44
            · by_cases h40_44 : k < 42
              · by_cases h40_42 : k < 41
                · obtain rfl : k = 40 := by omega
                  exact mk1_ok mkX7_forgetAll h
                · obtain rfl : k = 41 := by omega
                  exact mk1_ok mkX7_lastStep h
              · by_cases h42_44 : k < 43
                · obtain rfl : k = 42 := by omega
                  exact mk1_ok mkX7_countWays h
                · obtain rfl : k = 43 := by omega
                  exact mk1_ok mkX7_waysBehind h
            · by_cases h44_48 : k < 46
              · by_cases h44_46 : k < 45
                · obtain rfl : k = 44 := by omega
                  exact mk1_ok mkX7_leastOrder h
                · obtain rfl : k = 45 := by omega
                  exact mk1_ok mkX7_possible h
              · by_cases h46_48 : k < 47
                · obtain rfl : k = 46 := by omega
                  exact mk1_ok mkX8_init h
                · obtain rfl : k = 47 := by omega
                  exact mk1_ok mkX8_copyFrom h
        · by_cases h48_64 : k < 56
          · by_cases h48_56 : k < 52
            · by_cases h48_52 : k < 50
              · by_cases h48_50 : k < 49
                · obtain rfl : k = 48 := by omega
                  exact mk1_ok mkX8_gaveNow h
                · obtain rfl : k = 49 := by omega
                  exact mk1_ok mkX8_addOrder h
              · by_cases h50_52 : k < 51
                · obtain rfl : k = 50 := by omega
                  exact mk1_ok mkX8_doDueOrders h
                · obtain rfl : k = 51 := by omega
                  exact mk1_ok mkX8_laneIn h
            · by_cases h52_56 : k < 54
              · by_cases h52_54 : k < 53
                · obtain rfl : k = 52 := by omega
                  exact mk1_ok mkX8_eat h
                · obtain rfl : k = 53 := by omega
                  exact mk1_ok mkX9_init h
              · by_cases h54_56 : k < 55
                · obtain rfl : k = 54 := by omega
                  exact mk1_ok mkX9_append h
                · obtain rfl : k = 55 := by omega
                  exact mk1_ok mkX9_open h
          · by_cases h56_64 : k < 60
            · by_cases h56_60 : k < 58
              · by_cases h56_58 : k < 57
                · obtain rfl : k = 56 := by omega
                  exact mk1_ok mkX9_ended h
                · obtain rfl : k = 57 := by omega
                  exact mk1_ok mkX9_next h
              · by_cases h58_60 : k < 59
                · obtain rfl : k = 58 := by omega
                  exact mk1_ok mkX9_take h
                · obtain rfl : k = 59 := by omega
                  exact mk1_ok mkX9_takeNumber h
            · by_cases h60_64 : k < 62
              · by_cases h60_62 : k < 61
                · obtain rfl : k = 60 := by omega
                  exact mk1_ok mkX9_faultAtEnd h
                · obtain rfl : k = 61 := by omega
                  exact mk1_ok mkX10_init h
              · by_cases h62_64 : k < 63
                · obtain rfl : k = 62 := by omega
                  exact mk1_ok mkX10_sign h
                · obtain rfl : k = 63 := by omega
                  exact mk1_ok mkX10_end h
    · by_cases h64_128 : k < 96
      · by_cases h64_96 : k < 80
        · by_cases h64_80 : k < 72
          · by_cases h64_72 : k < 68
            · by_cases h64_68 : k < 66
              · by_cases h64_66 : k < 65
                · obtain rfl : k = 64 := by omega
                  exact mk1_ok mkX10_ship h
                · obtain rfl : k = 65 := by omega
                  exact mk1_ok mkX10_rocks h
              · by_cases h66_68 : k < 67
                · obtain rfl : k = 66 := by omega
                  exact mk1_ok mkX10_messes h
                · obtain rfl : k = 67 := by omega
                  exact mk1_ok mkX10_rule h
            · by_cases h68_72 : k < 70
              · by_cases h68_70 : k < 69
                · obtain rfl : k = 68 := by omega
                  exact mk1_ok mkX10_post h
                · obtain rfl : k = 69 := by omega
                  exact mk1_ok mkX10_rock h
              · by_cases h70_72 : k < 71
                · obtain rfl : k = 70 := by omega
                  exact mk1_ok mkX10_mess h
                · obtain rfl : k = 71 := by omega
                  exact mk1_ok mkX10_way h
          · by_cases h72_80 : k < 76
            · by_cases h72_76 : k < 74
              · by_cases h72_74 : k < 73
                · obtain rfl : k = 72 := by omega
                  exact mk1_ok mkX10_sheet h
                · obtain rfl : k = 73 := by omega
                  exact mk1_ok mkX10_delay h
              · by_cases h74_76 : k < 75
                · obtain rfl : k = 74 := by omega
                  exact mk1_ok mkX10_order h
                · obtain rfl : k = 75 := by omega
                  exact mk1_ok mkX10_pass h
            · by_cases h76_80 : k < 78
              · by_cases h76_78 : k < 77
                · obtain rfl : k = 76 := by omega
                  exact mk1_ok mkX10_cook h
                · obtain rfl : k = 77 := by omega
                  exact mk1_ok mkX10_steps h
              · by_cases h78_80 : k < 79
                · obtain rfl : k = 78 := by omega
                  exact mk1_ok mkX10_voyage h
                · obtain rfl : k = 79 := by omega
                  exact mk1_ok mkX10_undo h
        · by_cases h80_96 : k < 88
          · by_cases h80_88 : k < 84
            · by_cases h80_84 : k < 82
              · by_cases h80_82 : k < 81
                · obtain rfl : k = 80 := by omega
                  exact mk1_ok mkX10_lane h
                · obtain rfl : k = 81 := by omega
                  exact mk1_ok mkX10_strikes h
              · by_cases h82_84 : k < 83
                · obtain rfl : k = 82 := by omega
                  exact mk1_ok mkX10_clears h
                · obtain rfl : k = 83 := by omega
                  exact mk1_ok mkX10_plan h
            · by_cases h84_88 : k < 86
              · by_cases h84_86 : k < 85
                · obtain rfl : k = 84 := by omega
                  exact mk1_ok mkX10_latest h
                · obtain rfl : k = 85 := by omega
                  exact mk1_ok mkX10_lanes h
              · by_cases h86_88 : k < 87
                · obtain rfl : k = 86 := by omega
                  exact mk1_ok mkX10_safest h
                · obtain rfl : k = 87 := by omega
                  exact mk1_ok mkX10_late h
          · by_cases h88_96 : k < 92
            · by_cases h88_92 : k < 90
              · by_cases h88_90 : k < 89
                · obtain rfl : k = 88 := by omega
                  exact mk1_ok mkX10_comes h
                · obtain rfl : k = 89 := by omega
                  exact mk1_ok mkX10_relay h
              · by_cases h90_92 : k < 91
                · obtain rfl : k = 90 := by omega
                  exact mk1_ok mkX10_fewest h
                · obtain rfl : k = 91 := by omega
                  exact mk1_ok mkX10_word h
            · by_cases h92_96 : k < 94
              · by_cases h92_94 : k < 93
                · obtain rfl : k = 92 := by omega
                  exact mk1_ok mkX10_survives h
                · obtain rfl : k = 93 := by omega
                  exact mk1_ok mkX10_lives h
              · by_cases h94_96 : k < 95
                · obtain rfl : k = 94 := by omega
                  exact mk1_ok mkX10_shares h
                · obtain rfl : k = 95 := by omega
                  exact mk1_ok mkX10_fast h
      · by_cases h96_128 : k < 112
        · by_cases h96_112 : k < 104
          · by_cases h96_104 : k < 100
            · by_cases h96_100 : k < 98
              · by_cases h96_98 : k < 97
                · obtain rfl : k = 96 := by omega
                  exact mk1_ok mkX10_seen h
                · obtain rfl : k = 97 := by omega
                  exact mk1_ok mkX10_forget h
              · by_cases h98_100 : k < 99
                · obtain rfl : k = 98 := by omega
                  exact mk1_ok mkX10_ordered h
                · obtain rfl : k = 99 := by omega
                  exact mk1_ok mkX10_unsure h
            · by_cases h100_104 : k < 102
              · by_cases h100_102 : k < 101
                · obtain rfl : k = 100 := by omega
                  exact mk1_ok mkX10_boy h
                · obtain rfl : k = 101 := by omega
                  exact mk1_ok mkX10_meets h
              · by_cases h102_104 : k < 103
                · obtain rfl : k = 102 := by omega
                  exact mk1_ok mkX10_knows h
                · obtain rfl : k = 103 := by omega
                  exact mk1_ok mkX10_mutiny h
          · by_cases h104_112 : k < 108
            · by_cases h104_108 : k < 106
              · by_cases h104_106 : k < 105
                · obtain rfl : k = 104 := by omega
                  exact mk1_ok mkX10_chance h
                · obtain rfl : k = 105 := by omega
                  exact mk1_ok mkX10_voyages h
              · by_cases h106_108 : k < 107
                · obtain rfl : k = 106 := by omega
                  exact mk1_ok mkX10_keep h
                · obtain rfl : k = 107 := by omega
                  exact mk1_ok mkX10_again h
            · by_cases h108_112 : k < 110
              · by_cases h108_110 : k < 109
                · obtain rfl : k = 108 := by omega
                  exact mk1_ok mkX10_count h
                · obtain rfl : k = 109 := by omega
                  exact mk1_ok mkX10_row h
              · by_cases h110_112 : k < 111
                · obtain rfl : k = 110 := by omega
                  exact mk1_ok mkX10_isDigit h
                · obtain rfl : k = 111 := by omega
                  exact mk1_ok mkX10_readMesses h
        · by_cases h112_128 : k < 120
          · by_cases h112_120 : k < 116
            · by_cases h112_116 : k < 114
              · by_cases h112_114 : k < 113
                · obtain rfl : k = 112 := by omega
                  exact mk1_ok mkX10_voyageFault h
                · obtain rfl : k = 113 := by omega
                  exact mk1_ok mkX10_doVoyageSign h
              · by_cases h114_116 : k < 115
                · obtain rfl : k = 114 := by omega
                  exact mk1_ok mkX10_put h
                · obtain rfl : k = 115 := by omega
                  exact mk1_ok mkX10_entry h
            · by_cases h116_120 : k < 118
              · by_cases h116_118 : k < 117
                · obtain rfl : k = 116 := by omega
                  exact mk1_ok mkX10_keepOnSea h
                · obtain rfl : k = 117 := by omega
                  exact mk1_ok mkX10_delayAt h
              · by_cases h118_120 : k < 119
                · obtain rfl : k = 118 := by omega
                  exact mk1_ok mkX10_orderRefusal h
                · obtain rfl : k = 119 := by omega
                  exact mk1_ok mkX10_giveOrder h
          · by_cases h120_128 : k < 124
            · by_cases h120_124 : k < 122
              · by_cases h120_122 : k < 121
                · obtain rfl : k = 120 := by omega
                  exact mk1_ok mkX10_passRefusal h
                · obtain rfl : k = 121 := by omega
                  exact mk1_ok mkX10_moveFood h
              · by_cases h122_124 : k < 123
                · obtain rfl : k = 122 := by omega
                  exact mk1_ok mkX10_goStep h
                · obtain rfl : k = 123 := by omega
                  exact mk1_ok mkX10_firstFree h
            · by_cases h124_128 : k < 126
              · by_cases h124_126 : k < 125
                · obtain rfl : k = 124 := by omega
                  exact mk1_ok mkX10_lookAhead h
                · obtain rfl : k = 125 := by omega
                  exact mk1_ok mkX10_rocksInLane h
              · by_cases h126_128 : k < 127
                · obtain rfl : k = 126 := by omega
                  exact mk1_ok mkX10_apart h
                · obtain rfl : k = 127 := by omega
                  exact mk1_ok mkX10_widened h
  · by_cases h128_256 : k < 192
    · by_cases h128_192 : k < 160
      · by_cases h128_160 : k < 144
        · by_cases h128_144 : k < 136
          · by_cases h128_136 : k < 132
            · by_cases h128_132 : k < 130
              · by_cases h128_130 : k < 129
                · obtain rfl : k = 128 := by omega
                  exact mk1_ok mkX10_power h
                · obtain rfl : k = 129 := by omega
                  exact mk1_ok mkX10_likelyWord h
              · by_cases h130_132 : k < 131
                · obtain rfl : k = 130 := by omega
                  exact mk1_ok mkX10_lastsFor h
                · obtain rfl : k = 131 := by omega
                  exact mk1_ok mkX10_foodLeft h
            · by_cases h132_136 : k < 134
              · by_cases h132_134 : k < 133
                · obtain rfl : k = 132 := by omega
                  exact mk1_ok mkX10_weighPassing h
                · obtain rfl : k = 133 := by omega
                  exact mk1_ok mkX10_leastPassing h
              · by_cases h134_136 : k < 135
                · obtain rfl : k = 134 := by omega
                  exact mk1_ok mkX10_choosePassing h
                · obtain rfl : k = 135 := by omega
                  exact mk1_ok mkX10_lap h
          · by_cases h136_144 : k < 140
            · by_cases h136_140 : k < 138
              · by_cases h136_138 : k < 137
                · obtain rfl : k = 136 := by omega
                  exact mk1_ok mkX10_cellAfter h
                · obtain rfl : k = 137 := by omega
                  exact mk1_ok mkX10_holdsThen h
              · by_cases h138_140 : k < 139
                · obtain rfl : k = 138 := by omega
                  exact mk1_ok mkX10_wantsAnother h
                · obtain rfl : k = 139 := by omega
                  exact mk1_ok mkX11_init h
            · by_cases h140_144 : k < 142
              · by_cases h140_142 : k < 141
                · obtain rfl : k = 140 := by omega
                  exact mk1_ok mkX11_refuse h
                · obtain rfl : k = 141 := by omega
                  exact mk1_ok mkX11_in h
              · by_cases h142_144 : k < 143
                · obtain rfl : k = 142 := by omega
                  exact mk1_ok mkX11_has h
                · obtain rfl : k = 143 := by omega
                  exact mk1_ok mkX11_flag h
        · by_cases h144_160 : k < 152
          · by_cases h144_152 : k < 148
            · by_cases h144_148 : k < 146
              · by_cases h144_146 : k < 145
                · obtain rfl : k = 144 := by omega
                  exact mk1_ok mkX11_common h
                · obtain rfl : k = 145 := by omega
                  exact mk1_ok mkX11_enters h
              · by_cases h146_148 : k < 147
                · obtain rfl : k = 146 := by omega
                  exact mk1_ok mkX11_tellsFraction h
                · obtain rfl : k = 147 := by omega
                  exact mk1_ok mkX11_isMess h
            · by_cases h148_152 : k < 150
              · by_cases h148_150 : k < 149
                · obtain rfl : k = 148 := by omega
                  exact mk1_ok mkX11_sign h
                · obtain rfl : k = 149 := by omega
                  exact mk1_ok mkX11_end h
              · by_cases h150_152 : k < 151
                · obtain rfl : k = 150 := by omega
                  exact mk1_ok mkX11_begins h
                · obtain rfl : k = 151 := by omega
                  exact mk1_ok mkX11_takes h
          · by_cases h152_160 : k < 156
            · by_cases h152_156 : k < 154
              · by_cases h152_154 : k < 153
                · obtain rfl : k = 152 := by omega
                  exact mk1_ok mkX11_isDigit h
                · obtain rfl : k = 153 := by omega
                  exact mk1_ok mkX11_among h
              · by_cases h154_156 : k < 155
                · obtain rfl : k = 154 := by omega
                  exact mk1_ok mkX11_takesOf h
                · obtain rfl : k = 155 := by omega
                  exact mk1_ok mkX11_number h
            · by_cases h156_160 : k < 158
              · by_cases h156_158 : k < 157
                · obtain rfl : k = 156 := by omega
                  exact mk1_ok mkX11_numberIn h
                · obtain rfl : k = 157 := by omega
                  exact mk1_ok mkX11_faultOf h
              · by_cases h158_160 : k < 159
                · obtain rfl : k = 158 := by omega
                  exact mk1_ok mkX11_ship h
                · obtain rfl : k = 159 := by omega
                  exact mk1_ok mkX11_readsRock h
      · by_cases h160_192 : k < 176
        · by_cases h160_176 : k < 168
          · by_cases h160_168 : k < 164
            · by_cases h160_164 : k < 162
              · by_cases h160_162 : k < 161
                · obtain rfl : k = 160 := by omega
                  exact mk1_ok mkX11_readsMess h
                · obtain rfl : k = 161 := by omega
                  exact mk1_ok mkX11_rocks h
              · by_cases h162_164 : k < 163
                · obtain rfl : k = 162 := by omega
                  exact mk1_ok mkX11_messes h
                · obtain rfl : k = 163 := by omega
                  exact mk1_ok mkX11_codes h
            · by_cases h164_168 : k < 166
              · by_cases h164_166 : k < 165
                · obtain rfl : k = 164 := by omega
                  exact mk1_ok mkX11_readsThing h
                · obtain rfl : k = 165 := by omega
                  exact mk1_ok mkX11_readsRank h
              · by_cases h166_168 : k < 167
                · obtain rfl : k = 166 := by omega
                  exact mk1_ok mkX11_rule h
                · obtain rfl : k = 167 := by omega
                  exact mk1_ok mkX11_worked h
          · by_cases h168_176 : k < 172
            · by_cases h168_172 : k < 170
              · by_cases h168_170 : k < 169
                · obtain rfl : k = 168 := by omega
                  exact mk1_ok mkX11_ruled h
                · obtain rfl : k = 169 := by omega
                  exact mk1_ok mkX11_delayAt h
              · by_cases h170_172 : k < 171
                · obtain rfl : k = 170 := by omega
                  exact mk1_ok mkX11_turned h
                · obtain rfl : k = 171 := by omega
                  exact mk1_ok mkX11_post h
            · by_cases h172_176 : k < 174
              · by_cases h172_174 : k < 173
                · obtain rfl : k = 172 := by omega
                  exact mk1_ok mkX11_rock h
                · obtain rfl : k = 173 := by omega
                  exact mk1_ok mkX11_mess h
              · by_cases h174_176 : k < 175
                · obtain rfl : k = 174 := by omega
                  exact mk1_ok mkX11_isAhead h
                · obtain rfl : k = 175 := by omega
                  exact mk1_ok mkX11_way h
        · by_cases h176_192 : k < 184
          · by_cases h176_184 : k < 180
            · by_cases h176_180 : k < 178
              · by_cases h176_178 : k < 177
                · obtain rfl : k = 176 := by omega
                  exact mk1_ok mkX11_sheet h
                · obtain rfl : k = 177 := by omega
                  exact mk1_ok mkX11_putsBy h
              · by_cases h178_180 : k < 179
                · obtain rfl : k = 178 := by omega
                  exact mk1_ok mkX11_adds h
                · obtain rfl : k = 179 := by omega
                  exact mk1_ok mkX11_counts h
            · by_cases h180_184 : k < 182
              · by_cases h180_182 : k < 181
                · obtain rfl : k = 180 := by omega
                  exact mk1_ok mkX11_undo h
                · obtain rfl : k = 181 := by omega
                  exact mk1_ok mkX11_put h
              · by_cases h182_184 : k < 183
                · obtain rfl : k = 182 := by omega
                  exact mk1_ok mkX11_doesDue h
                · obtain rfl : k = 183 := by omega
                  exact mk1_ok mkX11_hitsAt h
          · by_cases h184_192 : k < 188
            · by_cases h184_188 : k < 186
              · by_cases h184_186 : k < 185
                · obtain rfl : k = 184 := by omega
                  exact mk1_ok mkX11_stepGoes h
                · obtain rfl : k = 185 := by omega
                  exact mk1_ok mkX11_gives h
              · by_cases h186_188 : k < 187
                · obtain rfl : k = 186 := by omega
                  exact mk1_ok mkX11_passes h
                · obtain rfl : k = 187 := by omega
                  exact mk1_ok mkX11_cooks h
            · by_cases h188_192 : k < 190
              · by_cases h188_190 : k < 189
                · obtain rfl : k = 188 := by omega
                  exact mk1_ok mkX11_delay h
                · obtain rfl : k = 189 := by omega
                  exact mk1_ok mkX11_order h
              · by_cases h190_192 : k < 191
                · obtain rfl : k = 190 := by omega
                  exact mk1_ok mkX11_pass h
                · obtain rfl : k = 191 := by omega
                  exact mk1_ok mkX11_cook h
    · by_cases h192_256 : k < 224
      · by_cases h192_224 : k < 208
        · by_cases h192_208 : k < 200
          · by_cases h192_200 : k < 196
            · by_cases h192_196 : k < 194
              · by_cases h192_194 : k < 193
                · obtain rfl : k = 192 := by omega
                  exact mk1_ok mkX11_startsCounting h
                · obtain rfl : k = 193 := by omega
                  exact mk1_ok mkX11_steps h
              · by_cases h194_196 : k < 195
                · obtain rfl : k = 194 := by omega
                  exact mk1_ok mkX11_readsAct h
                · obtain rfl : k = 195 := by omega
                  exact mk1_ok mkX11_does h
            · by_cases h196_200 : k < 198
              · by_cases h196_198 : k < 197
                · obtain rfl : k = 196 := by omega
                  exact mk1_ok mkX11_voyage h
                · obtain rfl : k = 197 := by omega
                  exact mk1_ok mkX11_puts h
              · by_cases h198_200 : k < 199
                · obtain rfl : k = 198 := by omega
                  exact mk1_ok mkX11_lane h
                · obtain rfl : k = 199 := by omega
                  exact mk1_ok mkX11_strikes h
          · by_cases h200_208 : k < 204
            · by_cases h200_204 : k < 202
              · by_cases h200_202 : k < 201
                · obtain rfl : k = 200 := by omega
                  exact mk1_ok mkX11_moved h
                · obtain rfl : k = 201 := by omega
                  exact mk1_ok mkX11_movedByDue h
              · by_cases h202_204 : k < 203
                · obtain rfl : k = 202 := by omega
                  exact mk1_ok mkX11_mayGive h
                · obtain rfl : k = 203 := by omega
                  exact mk1_ok mkX11_comesAt h
            · by_cases h204_208 : k < 206
              · by_cases h204_206 : k < 205
                · obtain rfl : k = 204 := by omega
                  exact mk1_ok mkX11_clears h
                · obtain rfl : k = 205 := by omega
                  exact mk1_ok mkX11_goesBy h
              · by_cases h206_208 : k < 207
                · obtain rfl : k = 206 := by omega
                  exact mk1_ok mkX11_laysLeast h
                · obtain rfl : k = 207 := by omega
                  exact mk1_ok mkX11_fewestOrders h
        · by_cases h208_224 : k < 216
          · by_cases h208_216 : k < 212
            · by_cases h208_212 : k < 210
              · by_cases h208_210 : k < 209
                · obtain rfl : k = 208 := by omega
                  exact mk1_ok mkX11_choosesAny h
                · obtain rfl : k = 209 := by omega
                  exact mk1_ok mkX11_plan h
              · by_cases h210_212 : k < 211
                · obtain rfl : k = 210 := by omega
                  exact mk1_ok mkX11_latest h
                · obtain rfl : k = 211 := by omega
                  exact mk1_ok mkX11_lanes h
            · by_cases h212_216 : k < 214
              · by_cases h212_214 : k < 213
                · obtain rfl : k = 212 := by omega
                  exact mk1_ok mkX11_rocksIn h
                · obtain rfl : k = 213 := by omega
                  exact mk1_ok mkX11_safest h
              · by_cases h214_216 : k < 215
                · obtain rfl : k = 214 := by omega
                  exact mk1_ok mkX11_late h
                · obtain rfl : k = 215 := by omega
                  exact mk1_ok mkX11_comes h
          · by_cases h216_224 : k < 220
            · by_cases h216_220 : k < 218
              · by_cases h216_218 : k < 217
                · obtain rfl : k = 216 := by omega
                  exact mk1_ok mkX11_postsFor h
                · obtain rfl : k = 217 := by omega
                  exact mk1_ok mkX11_relay h
              · by_cases h218_220 : k < 219
                · obtain rfl : k = 218 := by omega
                  exact mk1_ok mkX11_fewest h
                · obtain rfl : k = 219 := by omega
                  exact mk1_ok mkX11_bets h
            · by_cases h220_224 : k < 222
              · by_cases h220_222 : k < 221
                · obtain rfl : k = 220 := by omega
                  exact mk1_ok mkX11_word h
                · obtain rfl : k = 221 := by omega
                  exact mk1_ok mkX11_survives h
              · by_cases h222_224 : k < 223
                · obtain rfl : k = 222 := by omega
                  exact mk1_ok mkX11_lastsFor h
                · obtain rfl : k = 223 := by omega
                  exact mk1_ok mkX11_lives h
      · by_cases h224_256 : k < 240
        · by_cases h224_240 : k < 232
          · by_cases h224_232 : k < 228
            · by_cases h224_228 : k < 226
              · by_cases h224_226 : k < 225
                · obtain rfl : k = 224 := by omega
                  exact mk1_ok mkX11_spare h
                · obtain rfl : k = 225 := by omega
                  exact mk1_ok mkX11_laysFlows h
              · by_cases h226_228 : k < 227
                · obtain rfl : k = 226 := by omega
                  exact mk1_ok mkX11_flow h
                · obtain rfl : k = 227 := by omega
                  exact mk1_ok mkX11_shares h
            · by_cases h228_232 : k < 230
              · by_cases h228_230 : k < 229
                · obtain rfl : k = 228 := by omega
                  exact mk1_ok mkX11_fast h
                · obtain rfl : k = 229 := by omega
                  exact mk1_ok mkX11_seenIn h
              · by_cases h230_232 : k < 231
                · obtain rfl : k = 230 := by omega
                  exact mk1_ok mkX11_seen h
                · obtain rfl : k = 231 := by omega
                  exact mk1_ok mkX11_forget h
          · by_cases h232_240 : k < 236
            · by_cases h232_236 : k < 234
              · by_cases h232_234 : k < 233
                · obtain rfl : k = 232 := by omega
                  exact mk1_ok mkX11_lastSeen h
                · obtain rfl : k = 233 := by omega
                  exact mk1_ok mkX11_isFine h
              · by_cases h234_236 : k < 235
                · obtain rfl : k = 234 := by omega
                  exact mk1_ok mkX11_laysSeen h
                · obtain rfl : k = 235 := by omega
                  exact mk1_ok mkX11_ordered h
            · by_cases h236_240 : k < 238
              · by_cases h236_238 : k < 237
                · obtain rfl : k = 236 := by omega
                  exact mk1_ok mkX11_unsure h
                · obtain rfl : k = 237 := by omega
                  exact mk1_ok mkX11_boyBegins h
              · by_cases h238_240 : k < 239
                · obtain rfl : k = 238 := by omega
                  exact mk1_ok mkX11_boyGoes h
                · obtain rfl : k = 239 := by omega
                  exact mk1_ok mkX11_canRest h
        · by_cases h240_256 : k < 248
          · by_cases h240_248 : k < 244
            · by_cases h240_244 : k < 242
              · by_cases h240_242 : k < 241
                · obtain rfl : k = 240 := by omega
                  exact mk1_ok mkX11_boy h
                · obtain rfl : k = 241 := by omega
                  exact mk1_ok mkX11_meets h
              · by_cases h242_244 : k < 243
                · obtain rfl : k = 242 := by omega
                  exact mk1_ok mkX11_knows h
                · obtain rfl : k = 243 := by omega
                  exact mk1_ok mkX11_keeps h
            · by_cases h244_248 : k < 246
              · by_cases h244_246 : k < 245
                · obtain rfl : k = 244 := by omega
                  exact mk1_ok mkX11_isRest h
                · obtain rfl : k = 245 := by omega
                  exact mk1_ok mkX11_mutiny h
              · by_cases h246_248 : k < 247
                · obtain rfl : k = 246 := by omega
                  exact mk1_ok mkX11_chance h
                · obtain rfl : k = 247 := by omega
                  exact mk1_ok mkX11_voyages h
          · by_cases h248_256 : k < 252
            · by_cases h248_252 : k < 250
              · by_cases h248_250 : k < 249
                · obtain rfl : k = 248 := by omega
                  exact mk1_ok mkX11_keep h
                · obtain rfl : k = 249 := by omega
                  exact mk1_ok mkX11_again h
              · by_cases h250_252 : k < 251
                · obtain rfl : k = 250 := by omega
                  exact mk1_ok mkX11_count h
                · obtain rfl : k = 251 := by omega
                  exact mk1_ok mkX11_row h
            · by_cases h252_256 : k < 254
              · by_cases h252_254 : k < 253
                · obtain rfl : k = 252 := by omega
                  exact mk1_ok mkJ6_bitCount_0f7a4 h
                · obtain rfl : k = 253 := by omega
                  exact mk1_ok mkJ0_length_8abf5 h
              · by_cases h254_256 : k < 255
                · obtain rfl : k = 254 := by omega
                  exact mk1_ok mkJ0_charAt_5068e h
                · obtain rfl : k = 255 := by omega
                  exact mk1_ok mkJ7_fill_53178 h
