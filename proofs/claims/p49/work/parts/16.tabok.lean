/-! WHAT THE TABLES SAY OF METHODS -/
theorem mk2_ok {k n : Nat} {m mi : MI} (hk : mtab[k]? = some m) (hm : mok m n) (hn : m.2.2.2.2.2.2 = if minst.getD k false = true then n + 1 else n) (h : mtab[k]? = some mi) : ∃ n, mok mi n ∧ mi.2.2.2.2.2.2 = if minst.getD k false = true then n + 1 else n := by
  rw [hk] at h
  cases h
  exact ⟨n, hm, hn⟩
/-- what the tables say of a class -/
noncomputable def clB (c : String) (i : Nat) : Bool := atC i (Jvm.Cond.initialized c) && plainName c && decide (c ≠ "java/lang/invoke/MethodHandle") && decide (c ≠ "java/lang/invoke/VarHandle")
theorem mok_of {m : MI} {n i : Nat} (c k : Nat) (h1 : (tbc c)[k]? = some (Jvm.Cond.code m.1 m.2.1 m.2.2.1 m.2.2.2.1)) (g : goodWord (Jvm.Cond.code m.1 m.2.1 m.2.2.1 m.2.2.2.1) = true) (hc : clB m.1.cls i = true) (hd : (parseMethodDescriptor m.1.desc).map (fun d => d.parameters.length) = some n) (hl : Nat.ble m.2.2.1 40 = true) : mok m n := by
  simp only [clB, Bool.and_eq_true] at hc
  exact ⟨gwC c k h1 g, atC_gw hc.1.1.1, hc.1.1.2, of_decide_eq_true hc.1.2, of_decide_eq_true hc.2, hd, Nat.ble_eq.mp hl⟩
theorem cl_0 : clB yX0_init.cls 1010 = true := by decide +kernel
theorem mkX0_init : mok (yX0_init, cX0_init, 1, none, acX0_init, 0, 1) 0 := mok_of 2 14 rfl rfl cl_0 (by decide +kernel) rfl
theorem mkX0_isOvertaken : mok (yX0_isOvertaken, cX0_isOvertaken, 4, (some .boolean), acX0_isOvertaken, 0, 3) 2 := mok_of 4 10 rfl rfl cl_0 (by decide +kernel) rfl
theorem mkX0_reach : mok (yX0_reach, cX0_reach, 9, none, acX0_reach, 0, 5) 4 := mok_of 3 172 rfl rfl cl_0 (by decide +kernel) rfl
theorem mkX0_moved : mok (yX0_moved, cX0_moved, 2, (some .int), acX0_moved, 0, 2) 2 := mok_of 3 175 rfl rfl cl_0 (by decide +kernel) rfl
theorem mkX0_freeOrders : mok (yX0_freeOrders, cX0_freeOrders, 4, none, acX0_freeOrders, 0, 3) 2 := mok_of 3 187 rfl rfl cl_0 (by decide +kernel) rfl
theorem mkX0_fewestOrders : mok (yX0_fewestOrders, cX0_fewestOrders, 6, (some .int), acX0_fewestOrders, 0, 3) 2 := mok_of 3 191 rfl rfl cl_0 (by decide +kernel) rfl
theorem mkX0_doChosen : mok (yX0_doChosen, cX0_doChosen, 6, none, acX0_doChosen, 0, 2) 1 := mok_of 3 202 rfl rfl cl_0 (by decide +kernel) rfl
theorem mkX0_moveCosts : mok (yX0_moveCosts, cX0_moveCosts, 2, none, acX0_moveCosts, 0, 2) 1 := mok_of 3 196 rfl rfl cl_0 (by decide +kernel) rfl
theorem mkX0_chooseLeastRow : mok (yX0_chooseLeastRow, cX0_chooseLeastRow, 6, none, acX0_chooseLeastRow, 0, 4) 3 := mok_of 3 206 rfl rfl cl_0 (by decide +kernel) rfl
theorem mkX0_leastChoice : mok (yX0_leastChoice, cX0_leastChoice, 6, (some .int), acX0_leastChoice, 0, 5) 4 := mok_of 3 210 rfl rfl cl_0 (by decide +kernel) rfl
theorem cl_1 : clB yX1_init.cls 1009 = true := by decide +kernel
theorem mkX1_init : mok (yX1_init, cX1_init, 2, none, acX1_init, 1, 1) 0 := mok_of 1 225 rfl rfl cl_1 (by decide +kernel) rfl
theorem mkX1_remember : mok (yX1_remember, cX1_remember, 2, none, acX1_remember, 1, 2) 1 := mok_of 3 54 rfl rfl cl_1 (by decide +kernel) rfl
theorem mkX1_bringBack : mok (yX1_bringBack, cX1_bringBack, 2, (some .boolean), acX1_bringBack, 1, 2) 1 := mok_of 3 139 rfl rfl cl_1 (by decide +kernel) rfl
theorem mkX1_forgetAll : mok (yX1_forgetAll, cX1_forgetAll, 2, none, acX1_forgetAll, 1, 1) 0 := mok_of 2 201 rfl rfl cl_1 (by decide +kernel) rfl
theorem cl_2 : clB yX2_init.cls 1007 = true := by decide +kernel
theorem mkX2_init : mok (yX2_init, cX2_init, 1, none, acX2_init, 2, 1) 0 := mok_of 1 159 rfl rfl cl_2 (by decide +kernel) rfl
theorem mkX2_readFrom : mok (yX2_readFrom, cX2_readFrom, 6, (some .int), acX2_readFrom, 2, 2) 1 := mok_of 2 180 rfl rfl cl_2 (by decide +kernel) rfl
theorem cl_3 : clB yX3_init.cls 1003 = true := by decide +kernel
theorem mkX3_init : mok (yX3_init, cX3_init, 1, none, acX3_init, 3, 1) 0 := mok_of 1 69 rfl rfl cl_3 (by decide +kernel) rfl
theorem mkX3_clear : mok (yX3_clear, cX3_clear, 1, none, acX3_clear, 3, 1) 0 := mok_of 3 112 rfl rfl cl_3 (by decide +kernel) rfl
theorem mkX3_add : mok (yX3_add, cX3_add, 3, none, acX3_add, 3, 2) 1 := mok_of 3 116 rfl rfl cl_3 (by decide +kernel) rfl
theorem mkX3_tellOne : mok (yX3_tellOne, cX3_tellOne, 3, none, acX3_tellOne, 3, 2) 1 := mok_of 3 151 rfl rfl cl_3 (by decide +kernel) rfl
theorem mkX3_tellTwo : mok (yX3_tellTwo, cX3_tellTwo, 5, none, acX3_tellTwo, 3, 3) 2 := mok_of 3 108 rfl rfl cl_3 (by decide +kernel) rfl
theorem mkX3_tellFraction : mok (yX3_tellFraction, cX3_tellFraction, 12, none, acX3_tellFraction, 3, 3) 2 := mok_of 4 37 rfl rfl cl_3 (by decide +kernel) rfl
theorem cl_4 : clB yX4_init.cls 1005 = true := by decide +kernel
theorem mkX4_init : mok (yX4_init, cX4_init, 1, none, acX4_init, 4, 1) 0 := mok_of 1 116 rfl rfl cl_4 (by decide +kernel) rfl
theorem mkX4_add : mok (yX4_add, cX4_add, 2, none, acX4_add, 4, 2) 1 := mok_of 2 221 rfl rfl cl_4 (by decide +kernel) rfl
theorem mkX4_work : mok (yX4_work, cX4_work, 6, (some .int), acX4_work, 4, 3) 2 := mok_of 3 23 rfl rfl cl_4 (by decide +kernel) rfl
theorem mkX4_push : mok (yX4_push, cX4_push, 2, none, acX4_push, 4, 2) 1 := mok_of 3 27 rfl rfl cl_4 (by decide +kernel) rfl
theorem mkX4_pop : mok (yX4_pop, cX4_pop, 1, (some .int), acX4_pop, 4, 1) 0 := mok_of 3 31 rfl rfl cl_4 (by decide +kernel) rfl
theorem mkX4_valueOf : mok (yX4_valueOf, cX4_valueOf, 3, (some .int), acX4_valueOf, 4, 3) 3 := mok_of 3 38 rfl rfl cl_4 (by decide +kernel) rfl
theorem mkX4_apply : mok (yX4_apply, cX4_apply, 3, (some .int), acX4_apply, 4, 3) 3 := mok_of 3 35 rfl rfl cl_4 (by decide +kernel) rfl
theorem cl_5 : clB yX5_init.cls 1006 = true := by decide +kernel
theorem mkX5_init : mok (yX5_init, cX5_init, 1, none, acX5_init, 5, 1) 0 := mok_of 1 137 rfl rfl cl_5 (by decide +kernel) rfl
theorem mkX5_readFrom : mok (yX5_readFrom, cX5_readFrom, 5, (some .int), acX5_readFrom, 5, 3) 2 := mok_of 2 209 rfl rfl cl_5 (by decide +kernel) rfl
theorem mkX5_takeThing : mok (yX5_takeThing, cX5_takeThing, 4, (some .boolean), acX5_takeThing, 5, 3) 2 := mok_of 2 214 rfl rfl cl_5 (by decide +kernel) rfl
theorem mkX5_takeOperator : mok (yX5_takeOperator, cX5_takeOperator, 5, (some .boolean), acX5_takeOperator, 5, 3) 2 := mok_of 2 229 rfl rfl cl_5 (by decide +kernel) rfl
theorem mkX5_hold : mok (yX5_hold, cX5_hold, 2, none, acX5_hold, 5, 2) 1 := mok_of 2 225 rfl rfl cl_5 (by decide +kernel) rfl
theorem mkX5_release : mok (yX5_release, cX5_release, 3, none, acX5_release, 5, 3) 2 := mok_of 2 236 rfl rfl cl_5 (by decide +kernel) rfl
theorem mkX5_rank : mok (yX5_rank, cX5_rank, 1, (some .int), acX5_rank, 5, 1) 1 := mok_of 2 232 rfl rfl cl_5 (by decide +kernel) rfl
theorem cl_6 : clB yX6_init.cls 1004 = true := by decide +kernel
theorem mkX6_init : mok (yX6_init, cX6_init, 1, none, acX6_init, 6, 1) 0 := mok_of 1 85 rfl rfl cl_6 (by decide +kernel) rfl
theorem mkX6_readFrom : mok (yX6_readFrom, cX6_readFrom, 5, (some .int), acX6_readFrom, 6, 2) 1 := mok_of 2 144 rfl rfl cl_6 (by decide +kernel) rfl
theorem mkX6_addPost : mok (yX6_addPost, cX6_addPost, 3, none, acX6_addPost, 6, 3) 2 := mok_of 2 168 rfl rfl cl_6 (by decide +kernel) rfl
theorem cl_7 : clB yX7_init.cls 1011 = true := by decide +kernel
theorem mkX7_init : mok (yX7_init, cX7_init, 1, none, acX7_init, 7, 1) 0 := mok_of 2 44 rfl rfl cl_7 (by decide +kernel) rfl
theorem mkX7_forgetAll : mok (yX7_forgetAll, cX7_forgetAll, 1, none, acX7_forgetAll, 7, 1) 0 := mok_of 4 89 rfl rfl cl_7 (by decide +kernel) rfl
theorem mkX7_lastStep : mok (yX7_lastStep, cX7_lastStep, 2, (some .int), acX7_lastStep, 7, 1) 0 := mok_of 4 97 rfl rfl cl_7 (by decide +kernel) rfl
theorem mkX7_countWays : mok (yX7_countWays, cX7_countWays, 5, none, acX7_countWays, 7, 2) 1 := mok_of 4 101 rfl rfl cl_7 (by decide +kernel) rfl
theorem mkX7_waysBehind : mok (yX7_waysBehind, cX7_waysBehind, 6, (some .long), acX7_waysBehind, 7, 3) 2 := mok_of 4 105 rfl rfl cl_7 (by decide +kernel) rfl
theorem mkX7_leastOrder : mok (yX7_leastOrder, cX7_leastOrder, 4, (some .int), acX7_leastOrder, 7, 3) 2 := mok_of 4 110 rfl rfl cl_7 (by decide +kernel) rfl
theorem mkX7_possible : mok (yX7_possible, cX7_possible, 4, (some .int), acX7_possible, 7, 2) 1 := mok_of 4 120 rfl rfl cl_7 (by decide +kernel) rfl
theorem cl_8 : clB yX8_init.cls 1008 = true := by decide +kernel
theorem mkX8_init : mok (yX8_init, cX8_init, 1, none, acX8_init, 8, 1) 0 := mok_of 1 178 rfl rfl cl_8 (by decide +kernel) rfl
theorem mkX8_copyFrom : mok (yX8_copyFrom, cX8_copyFrom, 2, none, acX8_copyFrom, 8, 2) 1 := mok_of 3 58 rfl rfl cl_8 (by decide +kernel) rfl
theorem mkX8_gaveNow : mok (yX8_gaveNow, cX8_gaveNow, 1, (some .boolean), acX8_gaveNow, 8, 1) 0 := mok_of 3 50 rfl rfl cl_8 (by decide +kernel) rfl
theorem mkX8_addOrder : mok (yX8_addOrder, cX8_addOrder, 4, none, acX8_addOrder, 8, 3) 2 := mok_of 3 69 rfl rfl cl_8 (by decide +kernel) rfl
theorem mkX8_doDueOrders : mok (yX8_doDueOrders, cX8_doDueOrders, 2, none, acX8_doDueOrders, 8, 1) 0 := mok_of 3 97 rfl rfl cl_8 (by decide +kernel) rfl
theorem mkX8_laneIn : mok (yX8_laneIn, cX8_laneIn, 4, (some .int), acX8_laneIn, 8, 2) 1 := mok_of 3 147 rfl rfl cl_8 (by decide +kernel) rfl
theorem mkX8_eat : mok (yX8_eat, cX8_eat, 3, (some .boolean), acX8_eat, 8, 3) 2 := mok_of 3 104 rfl rfl cl_8 (by decide +kernel) rfl
theorem cl_9 : clB yX9_init.cls 1002 = true := by decide +kernel
theorem mkX9_init : mok (yX9_init, cX9_init, 1, none, acX9_init, 9, 1) 0 := mok_of 1 37 rfl rfl cl_9 (by decide +kernel) rfl
theorem mkX9_append : mok (yX9_append, cX9_append, 2, none, acX9_append, 9, 2) 1 := mok_of 2 125 rfl rfl cl_9 (by decide +kernel) rfl
theorem mkX9_open : mok (yX9_open, cX9_open, 2, none, acX9_open, 9, 2) 1 := mok_of 2 137 rfl rfl cl_9 (by decide +kernel) rfl
theorem mkX9_ended : mok (yX9_ended, cX9_ended, 1, (some .boolean), acX9_ended, 9, 1) 0 := mok_of 2 159 rfl rfl cl_9 (by decide +kernel) rfl
theorem mkX9_next : mok (yX9_next, cX9_next, 1, (some .int), acX9_next, 9, 1) 0 := mok_of 2 152 rfl rfl cl_9 (by decide +kernel) rfl
theorem mkX9_take : mok (yX9_take, cX9_take, 2, (some .boolean), acX9_take, 9, 2) 1 := mok_of 2 164 rfl rfl cl_9 (by decide +kernel) rfl
theorem mkX9_takeNumber : mok (yX9_takeNumber, cX9_takeNumber, 4, (some .int), acX9_takeNumber, 9, 2) 1 := mok_of 2 148 rfl rfl cl_9 (by decide +kernel) rfl
theorem mkX9_faultAtEnd : mok (yX9_faultAtEnd, cX9_faultAtEnd, 1, (some .int), acX9_faultAtEnd, 9, 1) 0 := mok_of 2 172 rfl rfl cl_9 (by decide +kernel) rfl
theorem cl_10 : clB yX10_init.cls 1001 = true := by decide +kernel
theorem mkX10_init : mok (yX10_init, cX10_init, 1, none, acX10_init, 10, 1) 0 := mok_of 1 29 rfl rfl cl_10 (by decide +kernel) rfl
theorem mkX10_sign : mok (yX10_sign, cX10_sign, 3, (some .int), acX10_sign, 10, 2) 1 := mok_of 2 121 rfl rfl cl_10 (by decide +kernel) rfl
theorem mkX10_end : mok (yX10_end, cX10_end, 2, (some .boolean), acX10_end, 10, 2) 1 := mok_of 2 129 rfl rfl cl_10 (by decide +kernel) rfl
theorem mkX10_ship : mok (yX10_ship, cX10_ship, 3, (some .int), acX10_ship, 10, 1) 0 := mok_of 2 133 rfl rfl cl_10 (by decide +kernel) rfl
theorem mkX10_rocks : mok (yX10_rocks, cX10_rocks, 3, (some .int), acX10_rocks, 10, 1) 0 := mok_of 2 176 rfl rfl cl_10 (by decide +kernel) rfl
theorem mkX10_messes : mok (yX10_messes, cX10_messes, 3, (some .int), acX10_messes, 10, 1) 0 := mok_of 2 189 rfl rfl cl_10 (by decide +kernel) rfl
theorem mkX10_rule : mok (yX10_rule, cX10_rule, 3, (some .int), acX10_rule, 10, 1) 0 := mok_of 2 205 rfl rfl cl_10 (by decide +kernel) rfl
theorem mkX10_post : mok (yX10_post, cX10_post, 3, (some .int), [], 10, 3) 2 := mok_of 4 181 rfl rfl cl_10 (by decide +kernel) rfl
theorem mkX10_rock : mok (yX10_rock, cX10_rock, 3, (some .int), [], 10, 3) 2 := mok_of 5 9 rfl rfl cl_10 (by decide +kernel) rfl
theorem mkX10_mess : mok (yX10_mess, cX10_mess, 3, (some .int), [], 10, 3) 2 := mok_of 5 16 rfl rfl cl_10 (by decide +kernel) rfl
theorem mkX10_way : mok (yX10_way, cX10_way, 3, (some .int), [], 10, 3) 2 := mok_of 5 23 rfl rfl cl_10 (by decide +kernel) rfl
theorem mkX10_sheet : mok (yX10_sheet, cX10_sheet, 8, (some .int), acX10_sheet, 10, 5) 4 := mok_of 3 1 rfl rfl cl_10 (by decide +kernel) rfl
theorem mkX10_delay : mok (yX10_delay, cX10_delay, 1, (some .int), acX10_delay, 10, 1) 0 := mok_of 3 15 rfl rfl cl_10 (by decide +kernel) rfl
theorem mkX10_order : mok (yX10_order, cX10_order, 3, (some .int), acX10_order, 10, 2) 1 := mok_of 3 42 rfl rfl cl_10 (by decide +kernel) rfl
theorem mkX10_pass : mok (yX10_pass, cX10_pass, 5, (some .int), acX10_pass, 10, 4) 3 := mok_of 3 73 rfl rfl cl_10 (by decide +kernel) rfl
theorem mkX10_cook : mok (yX10_cook, cX10_cook, 4, (some .int), acX10_cook, 10, 3) 2 := mok_of 3 85 rfl rfl cl_10 (by decide +kernel) rfl
theorem mkX10_steps : mok (yX10_steps, cX10_steps, 5, (some .int), acX10_steps, 10, 2) 1 := mok_of 3 89 rfl rfl cl_10 (by decide +kernel) rfl
theorem mkX10_voyage : mok (yX10_voyage, cX10_voyage, 5, (some .int), acX10_voyage, 10, 1) 0 := mok_of 3 120 rfl rfl cl_10 (by decide +kernel) rfl
theorem mkX10_undo : mok (yX10_undo, cX10_undo, 1, (some .int), acX10_undo, 10, 1) 0 := mok_of 3 135 rfl rfl cl_10 (by decide +kernel) rfl
theorem mkX10_lane : mok (yX10_lane, cX10_lane, 5, (some .int), acX10_lane, 10, 2) 1 := mok_of 3 143 rfl rfl cl_10 (by decide +kernel) rfl
theorem mkX10_strikes : mok (yX10_strikes, cX10_strikes, 5, (some .int), acX10_strikes, 10, 1) 0 := mok_of 3 155 rfl rfl cl_10 (by decide +kernel) rfl
theorem mkX10_clears : mok (yX10_clears, cX10_clears, 7, (some .int), acX10_clears, 10, 1) 0 := mok_of 3 159 rfl rfl cl_10 (by decide +kernel) rfl
theorem mkX10_plan : mok (yX10_plan, cX10_plan, 4, (some .int), acX10_plan, 10, 2) 1 := mok_of 3 183 rfl rfl cl_10 (by decide +kernel) rfl
theorem mkX10_latest : mok (yX10_latest, cX10_latest, 3, (some .int), acX10_latest, 10, 2) 1 := mok_of 3 217 rfl rfl cl_10 (by decide +kernel) rfl
theorem mkX10_lanes : mok (yX10_lanes, cX10_lanes, 2, (some .int), acX10_lanes, 10, 2) 1 := mok_of 3 221 rfl rfl cl_10 (by decide +kernel) rfl
theorem mkX10_safest : mok (yX10_safest, cX10_safest, 7, (some .int), acX10_safest, 10, 2) 1 := mok_of 3 231 rfl rfl cl_10 (by decide +kernel) rfl
theorem mkX10_late : mok (yX10_late, cX10_late, 4, (some .int), acX10_late, 10, 2) 1 := mok_of 4 6 rfl rfl cl_10 (by decide +kernel) rfl
theorem mkX10_comes : mok (yX10_comes, cX10_comes, 8, (some .int), acX10_comes, 10, 2) 1 := mok_of 4 14 rfl rfl cl_10 (by decide +kernel) rfl
theorem mkX10_relay : mok (yX10_relay, cX10_relay, 6, (some .int), acX10_relay, 10, 2) 1 := mok_of 4 18 rfl rfl cl_10 (by decide +kernel) rfl
theorem mkX10_fewest : mok (yX10_fewest, cX10_fewest, 2, (some .int), acX10_fewest, 10, 2) 1 := mok_of 4 22 rfl rfl cl_10 (by decide +kernel) rfl
theorem mkX10_word : mok (yX10_word, cX10_word, 3, (some .int), acX10_word, 10, 3) 2 := mok_of 4 26 rfl rfl cl_10 (by decide +kernel) rfl
theorem mkX10_survives : mok (yX10_survives, cX10_survives, 4, (some .int), acX10_survives, 10, 3) 2 := mok_of 4 42 rfl rfl cl_10 (by decide +kernel) rfl
theorem mkX10_lives : mok (yX10_lives, cX10_lives, 8, (some .int), acX10_lives, 10, 2) 1 := mok_of 4 47 rfl rfl cl_10 (by decide +kernel) rfl
theorem mkX10_shares : mok (yX10_shares, cX10_shares, 3, (some .int), acX10_shares, 10, 2) 1 := mok_of 4 56 rfl rfl cl_10 (by decide +kernel) rfl
theorem mkX10_fast : mok (yX10_fast, cX10_fast, 6, (some .int), acX10_fast, 10, 2) 1 := mok_of 4 73 rfl rfl cl_10 (by decide +kernel) rfl
theorem mkX10_seen : mok (yX10_seen, cX10_seen, 3, (some .int), acX10_seen, 10, 3) 2 := mok_of 4 81 rfl rfl cl_10 (by decide +kernel) rfl
theorem mkX10_forget : mok (yX10_forget, cX10_forget, 2, (some .int), acX10_forget, 10, 1) 0 := mok_of 4 85 rfl rfl cl_10 (by decide +kernel) rfl
theorem mkX10_ordered : mok (yX10_ordered, cX10_ordered, 7, (some .int), acX10_ordered, 10, 1) 0 := mok_of 4 93 rfl rfl cl_10 (by decide +kernel) rfl
theorem mkX10_unsure : mok (yX10_unsure, cX10_unsure, 6, (some .int), acX10_unsure, 10, 1) 0 := mok_of 4 116 rfl rfl cl_10 (by decide +kernel) rfl
theorem mkX10_boy : mok (yX10_boy, cX10_boy, 4, (some .int), acX10_boy, 10, 3) 2 := mok_of 4 125 rfl rfl cl_10 (by decide +kernel) rfl
theorem mkX10_meets : mok (yX10_meets, cX10_meets, 5, (some .int), acX10_meets, 10, 2) 1 := mok_of 4 138 rfl rfl cl_10 (by decide +kernel) rfl
theorem mkX10_knows : mok (yX10_knows, cX10_knows, 3, (some .int), acX10_knows, 10, 3) 2 := mok_of 4 142 rfl rfl cl_10 (by decide +kernel) rfl
theorem mkX10_mutiny : mok (yX10_mutiny, cX10_mutiny, 7, (some .int), acX10_mutiny, 10, 4) 3 := mok_of 4 146 rfl rfl cl_10 (by decide +kernel) rfl
theorem mkX10_chance : mok (yX10_chance, cX10_chance, 4, (some .int), acX10_chance, 10, 4) 3 := mok_of 4 156 rfl rfl cl_10 (by decide +kernel) rfl
theorem mkX10_voyages : mok (yX10_voyages, cX10_voyages, 7, (some .int), acX10_voyages, 10, 3) 2 := mok_of 4 160 rfl rfl cl_10 (by decide +kernel) rfl
theorem mkX10_keep : mok (yX10_keep, cX10_keep, 2, (some .boolean), acX10_keep, 10, 2) 1 := mok_of 4 165 rfl rfl cl_10 (by decide +kernel) rfl
theorem mkX10_again : mok (yX10_again, cX10_again, 2, (some .boolean), acX10_again, 10, 2) 1 := mok_of 4 169 rfl rfl cl_10 (by decide +kernel) rfl
theorem mkX10_count : mok (yX10_count, cX10_count, 2, (some .int), acX10_count, 10, 2) 1 := mok_of 4 173 rfl rfl cl_10 (by decide +kernel) rfl
theorem mkX10_row : mok (yX10_row, cX10_row, 2, (some .long), [], 10, 2) 1 := mok_of 5 30 rfl rfl cl_10 (by decide +kernel) rfl
theorem mkX10_isDigit : mok (yX10_isDigit, cX10_isDigit, 1, (some .boolean), acX10_isDigit, 10, 1) 1 := mok_of 2 155 rfl rfl cl_10 (by decide +kernel) rfl
theorem mkX10_readMesses : mok (yX10_readMesses, cX10_readMesses, 5, (some .int), acX10_readMesses, 10, 1) 0 := mok_of 2 193 rfl rfl cl_10 (by decide +kernel) rfl
theorem mkX10_voyageFault : mok (yX10_voyageFault, cX10_voyageFault, 3, (some .int), acX10_voyageFault, 10, 1) 0 := mok_of 3 124 rfl rfl cl_10 (by decide +kernel) rfl
theorem mkX10_doVoyageSign : mok (yX10_doVoyageSign, cX10_doVoyageSign, 3, (some .boolean), acX10_doVoyageSign, 10, 1) 0 := mok_of 3 131 rfl rfl cl_10 (by decide +kernel) rfl
theorem mkX10_put : mok (yX10_put, cX10_put, 3, (some .int), acX10_put, 10, 3) 3 := mok_of 3 7 rfl rfl cl_10 (by decide +kernel) rfl
theorem mkX10_entry : mok (yX10_entry, cX10_entry, 2, (some .int), acX10_entry, 10, 2) 2 := mok_of 3 4 rfl rfl cl_10 (by decide +kernel) rfl
theorem mkX10_keepOnSea : mok (yX10_keepOnSea, cX10_keepOnSea, 1, (some .int), acX10_keepOnSea, 10, 1) 1 := mok_of 3 100 rfl rfl cl_10 (by decide +kernel) rfl
theorem mkX10_delayAt : mok (yX10_delayAt, cX10_delayAt, 3, (some .int), acX10_delayAt, 10, 2) 1 := mok_of 3 19 rfl rfl cl_10 (by decide +kernel) rfl
theorem mkX10_orderRefusal : mok (yX10_orderRefusal, cX10_orderRefusal, 1, (some .int), acX10_orderRefusal, 10, 1) 0 := mok_of 3 46 rfl rfl cl_10 (by decide +kernel) rfl
theorem mkX10_giveOrder : mok (yX10_giveOrder, cX10_giveOrder, 3, (some .int), acX10_giveOrder, 10, 2) 1 := mok_of 3 65 rfl rfl cl_10 (by decide +kernel) rfl
theorem mkX10_passRefusal : mok (yX10_passRefusal, cX10_passRefusal, 5, (some .int), acX10_passRefusal, 10, 4) 3 := mok_of 3 77 rfl rfl cl_10 (by decide +kernel) rfl
theorem mkX10_moveFood : mok (yX10_moveFood, cX10_moveFood, 5, none, acX10_moveFood, 10, 4) 3 := mok_of 3 81 rfl rfl cl_10 (by decide +kernel) rfl
theorem mkX10_goStep : mok (yX10_goStep, cX10_goStep, 3, (some .int), acX10_goStep, 10, 1) 0 := mok_of 3 93 rfl rfl cl_10 (by decide +kernel) rfl
theorem mkX10_firstFree : mok (yX10_firstFree, cX10_firstFree, 1, (some .int), acX10_firstFree, 10, 1) 0 := mok_of 3 168 rfl rfl cl_10 (by decide +kernel) rfl
theorem mkX10_lookAhead : mok (yX10_lookAhead, cX10_lookAhead, 3, none, acX10_lookAhead, 10, 1) 0 := mok_of 3 163 rfl rfl cl_10 (by decide +kernel) rfl
theorem mkX10_rocksInLane : mok (yX10_rocksInLane, cX10_rocksInLane, 6, (some .int), acX10_rocksInLane, 10, 3) 2 := mok_of 3 235 rfl rfl cl_10 (by decide +kernel) rfl
theorem mkX10_apart : mok (yX10_apart, cX10_apart, 2, (some .int), acX10_apart, 10, 2) 1 := mok_of 3 239 rfl rfl cl_10 (by decide +kernel) rfl
theorem mkX10_widened : mok (yX10_widened, cX10_widened, 1, (some .int), acX10_widened, 10, 1) 1 := mok_of 3 179 rfl rfl cl_10 (by decide +kernel) rfl
theorem mkX10_power : mok (yX10_power, cX10_power, 6, (some .long), acX10_power, 10, 2) 2 := mok_of 4 32 rfl rfl cl_10 (by decide +kernel) rfl
theorem mkX10_likelyWord : mok (yX10_likelyWord, cX10_likelyWord, 7, (some .long), acX10_likelyWord, 10, 2) 2 := mok_of 4 29 rfl rfl cl_10 (by decide +kernel) rfl
theorem mkX10_lastsFor : mok (yX10_lastsFor, cX10_lastsFor, 6, (some .int), acX10_lastsFor, 10, 3) 2 := mok_of 4 52 rfl rfl cl_10 (by decide +kernel) rfl
theorem mkX10_foodLeft : mok (yX10_foodLeft, cX10_foodLeft, 5, (some .int), acX10_foodLeft, 10, 3) 2 := mok_of 4 77 rfl rfl cl_10 (by decide +kernel) rfl
theorem mkX10_weighPassing : mok (yX10_weighPassing, cX10_weighPassing, 3, none, acX10_weighPassing, 10, 1) 0 := mok_of 4 60 rfl rfl cl_10 (by decide +kernel) rfl
theorem mkX10_leastPassing : mok (yX10_leastPassing, cX10_leastPassing, 5, (some .int), acX10_leastPassing, 10, 3) 2 := mok_of 4 64 rfl rfl cl_10 (by decide +kernel) rfl
theorem mkX10_choosePassing : mok (yX10_choosePassing, cX10_choosePassing, 7, (some .int), acX10_choosePassing, 10, 1) 0 := mok_of 4 69 rfl rfl cl_10 (by decide +kernel) rfl
theorem mkX10_lap : mok (yX10_lap, cX10_lap, 1, (some .int), acX10_lap, 10, 1) 0 := mok_of 4 129 rfl rfl cl_10 (by decide +kernel) rfl
theorem mkX10_cellAfter : mok (yX10_cellAfter, cX10_cellAfter, 3, (some .int), acX10_cellAfter, 10, 2) 1 := mok_of 4 134 rfl rfl cl_10 (by decide +kernel) rfl
theorem mkX10_holdsThen : mok (yX10_holdsThen, cX10_holdsThen, 4, (some .int), acX10_holdsThen, 10, 4) 4 := mok_of 4 152 rfl rfl cl_10 (by decide +kernel) rfl
theorem mkX10_wantsAnother : mok (yX10_wantsAnother, cX10_wantsAnother, 6, (some .boolean), acX10_wantsAnother, 10, 4) 4 := mok_of 4 149 rfl rfl cl_10 (by decide +kernel) rfl
theorem cl_11 : clB yX11_init.cls 1013 = true := by decide +kernel
theorem mkX11_init : mok (yX11_init, cX11_init, 1, none, acX11_init, 11, 1) 0 := mok_of 5 35 rfl rfl cl_11 (by decide +kernel) rfl
theorem mkX11_thrown : mok (yX11_thrown, cX11_thrown, 1, (some .int), acX11_thrown, 11, 1) 0 := mok_of 5 200 rfl rfl cl_11 (by decide +kernel) rfl
theorem mkX11_refuse : mok (yX11_refuse, cX11_refuse, 1, (some .int), acX11_refuse, 11, 1) 0 := mok_of 6 107 rfl rfl cl_11 (by decide +kernel) rfl
theorem mkX11_in : mok (yX11_in, cX11_in, 6, (some .boolean), acX11_in, 11, 3) 3 := mok_of 5 211 rfl rfl cl_11 (by decide +kernel) rfl
theorem mkX11_has : mok (yX11_has, cX11_has, 2, (some .boolean), acX11_has, 11, 2) 2 := mok_of 7 21 rfl rfl cl_11 (by decide +kernel) rfl
theorem mkX11_flag : mok (yX11_flag, cX11_flag, 1, (some .int), acX11_flag, 11, 1) 1 := mok_of 6 1 rfl rfl cl_11 (by decide +kernel) rfl
theorem mkX11_common : mok (yX11_common, cX11_common, 4, (some .long), acX11_common, 11, 2) 2 := mok_of 7 108 rfl rfl cl_11 (by decide +kernel) rfl
theorem mkX11_enters : mok (yX11_enters, cX11_enters, 3, none, acX11_enters, 11, 2) 1 := mok_of 6 222 rfl rfl cl_11 (by decide +kernel) rfl
theorem mkX11_tellsFraction : mok (yX11_tellsFraction, cX11_tellsFraction, 7, none, acX11_tellsFraction, 11, 3) 2 := mok_of 7 105 rfl rfl cl_11 (by decide +kernel) rfl
theorem mkX11_isMess : mok (yX11_isMess, cX11_isMess, 2, (some .boolean), acX11_isMess, 11, 2) 1 := mok_of 6 119 rfl rfl cl_11 (by decide +kernel) rfl
theorem mkX11_sign : mok (yX11_sign, cX11_sign, 3, (some .int), acX11_sign, 11, 2) 1 := mok_of 5 204 rfl rfl cl_11 (by decide +kernel) rfl
theorem mkX11_end : mok (yX11_end, cX11_end, 2, (some .boolean), acX11_end, 11, 2) 1 := mok_of 5 208 rfl rfl cl_11 (by decide +kernel) rfl
theorem mkX11_begins : mok (yX11_begins, cX11_begins, 3, (some .int), acX11_begins, 11, 2) 1 := mok_of 5 219 rfl rfl cl_11 (by decide +kernel) rfl
theorem mkX11_takes : mok (yX11_takes, cX11_takes, 3, (some .boolean), acX11_takes, 11, 2) 1 := mok_of 5 238 rfl rfl cl_11 (by decide +kernel) rfl
theorem mkX11_isDigit : mok (yX11_isDigit, cX11_isDigit, 1, (some .boolean), acX11_isDigit, 11, 1) 0 := mok_of 5 232 rfl rfl cl_11 (by decide +kernel) rfl
theorem mkX11_among : mok (yX11_among, cX11_among, 3, (some .int), acX11_among, 11, 2) 1 := mok_of 6 22 rfl rfl cl_11 (by decide +kernel) rfl
theorem mkX11_takesOf : mok (yX11_takesOf, cX11_takesOf, 3, (some .int), acX11_takesOf, 11, 2) 1 := mok_of 6 18 rfl rfl cl_11 (by decide +kernel) rfl
theorem mkX11_number : mok (yX11_number, cX11_number, 4, (some .int), acX11_number, 11, 2) 1 := mok_of 5 228 rfl rfl cl_11 (by decide +kernel) rfl
theorem mkX11_numberIn : mok (yX11_numberIn, cX11_numberIn, 5, (some .int), acX11_numberIn, 11, 4) 3 := mok_of 5 224 rfl rfl cl_11 (by decide +kernel) rfl
theorem mkX11_faultOf : mok (yX11_faultOf, cX11_faultOf, 5, (some .int), acX11_faultOf, 11, 4) 3 := mok_of 6 5 rfl rfl cl_11 (by decide +kernel) rfl
theorem mkX11_ship : mok (yX11_ship, cX11_ship, 7, (some .int), acX11_ship, 11, 1) 0 := mok_of 5 215 rfl rfl cl_11 (by decide +kernel) rfl
theorem mkX11_readsRock : mok (yX11_readsRock, cX11_readsRock, 2, (some .boolean), acX11_readsRock, 11, 1) 0 := mok_of 6 13 rfl rfl cl_11 (by decide +kernel) rfl
theorem mkX11_readsMess : mok (yX11_readsMess, cX11_readsMess, 2, (some .boolean), acX11_readsMess, 11, 1) 0 := mok_of 6 79 rfl rfl cl_11 (by decide +kernel) rfl
theorem mkX11_rocks : mok (yX11_rocks, cX11_rocks, 6, (some .int), acX11_rocks, 11, 1) 0 := mok_of 6 9 rfl rfl cl_11 (by decide +kernel) rfl
theorem mkX11_messes : mok (yX11_messes, cX11_messes, 6, (some .int), acX11_messes, 11, 1) 0 := mok_of 6 75 rfl rfl cl_11 (by decide +kernel) rfl
theorem mkX11_codes : mok (yX11_codes, cX11_codes, 2, none, acX11_codes, 11, 2) 1 := mok_of 6 95 rfl rfl cl_11 (by decide +kernel) rfl
theorem mkX11_readsThing : mok (yX11_readsThing, cX11_readsThing, 2, (some .boolean), acX11_readsThing, 11, 1) 0 := mok_of 6 91 rfl rfl cl_11 (by decide +kernel) rfl
theorem mkX11_readsRank : mok (yX11_readsRank, cX11_readsRank, 4, (some .boolean), acX11_readsRank, 11, 2) 1 := mok_of 6 87 rfl rfl cl_11 (by decide +kernel) rfl
theorem mkX11_rule : mok (yX11_rule, cX11_rule, 5, (some .int), acX11_rule, 11, 1) 0 := mok_of 6 83 rfl rfl cl_11 (by decide +kernel) rfl
theorem mkX11_worked : mok (yX11_worked, cX11_worked, 3, (some .int), acX11_worked, 11, 3) 3 := mok_of 6 153 rfl rfl cl_11 (by decide +kernel) rfl
theorem mkX11_ruled : mok (yX11_ruled, cX11_ruled, 4, (some .int), acX11_ruled, 11, 1) 0 := mok_of 6 150 rfl rfl cl_11 (by decide +kernel) rfl
theorem mkX11_delayAt : mok (yX11_delayAt, cX11_delayAt, 2, (some .int), acX11_delayAt, 11, 2) 1 := mok_of 6 146 rfl rfl cl_11 (by decide +kernel) rfl
theorem mkX11_turned : mok (yX11_turned, cX11_turned, 2, (some .int), acX11_turned, 11, 2) 1 := mok_of 6 170 rfl rfl cl_11 (by decide +kernel) rfl
theorem mkX11_post : mok (yX11_post, cX11_post, 3, (some .int), acX11_post, 11, 3) 2 := mok_of 6 103 rfl rfl cl_11 (by decide +kernel) rfl
theorem mkX11_rock : mok (yX11_rock, cX11_rock, 3, (some .int), acX11_rock, 11, 3) 2 := mok_of 6 111 rfl rfl cl_11 (by decide +kernel) rfl
theorem mkX11_mess : mok (yX11_mess, cX11_mess, 3, (some .int), acX11_mess, 11, 3) 2 := mok_of 6 115 rfl rfl cl_11 (by decide +kernel) rfl
theorem mkX11_isAhead : mok (yX11_isAhead, cX11_isAhead, 5, (some .boolean), acX11_isAhead, 11, 3) 2 := mok_of 6 128 rfl rfl cl_11 (by decide +kernel) rfl
theorem mkX11_way : mok (yX11_way, cX11_way, 7, (some .int), acX11_way, 11, 3) 2 := mok_of 6 124 rfl rfl cl_11 (by decide +kernel) rfl
theorem mkX11_sheet : mok (yX11_sheet, cX11_sheet, 9, (some .int), acX11_sheet, 11, 5) 4 := mok_of 6 132 rfl rfl cl_11 (by decide +kernel) rfl
theorem mkX11_putsBy : mok (yX11_putsBy, cX11_putsBy, 2, none, acX11_putsBy, 11, 1) 0 := mok_of 6 161 rfl rfl cl_11 (by decide +kernel) rfl
theorem mkX11_adds : mok (yX11_adds, cX11_adds, 3, (some .int), acX11_adds, 11, 2) 1 := mok_of 6 178 rfl rfl cl_11 (by decide +kernel) rfl
theorem mkX11_counts : mok (yX11_counts, cX11_counts, 2, (some .int), acX11_counts, 11, 2) 1 := mok_of 6 174 rfl rfl cl_11 (by decide +kernel) rfl
theorem mkX11_undo : mok (yX11_undo, cX11_undo, 2, (some .int), acX11_undo, 11, 1) 0 := mok_of 6 138 rfl rfl cl_11 (by decide +kernel) rfl
theorem mkX11_put : mok (yX11_put, cX11_put, 1, (some .int), acX11_put, 11, 1) 1 := mok_of 6 214 rfl rfl cl_11 (by decide +kernel) rfl
theorem mkX11_doesDue : mok (yX11_doesDue, cX11_doesDue, 5, none, acX11_doesDue, 11, 1) 1 := mok_of 6 211 rfl rfl cl_11 (by decide +kernel) rfl
theorem mkX11_hitsAt : mok (yX11_hitsAt, cX11_hitsAt, 5, (some .int), acX11_hitsAt, 11, 3) 2 := mok_of 6 218 rfl rfl cl_11 (by decide +kernel) rfl
theorem mkX11_stepGoes : mok (yX11_stepGoes, cX11_stepGoes, 5, none, acX11_stepGoes, 11, 2) 1 := mok_of 6 208 rfl rfl cl_11 (by decide +kernel) rfl
theorem mkX11_gives : mok (yX11_gives, cX11_gives, 5, (some .int), acX11_gives, 11, 3) 2 := mok_of 6 165 rfl rfl cl_11 (by decide +kernel) rfl
theorem mkX11_passes : mok (yX11_passes, cX11_passes, 5, (some .int), acX11_passes, 11, 4) 3 := mok_of 6 186 rfl rfl cl_11 (by decide +kernel) rfl
theorem mkX11_cooks : mok (yX11_cooks, cX11_cooks, 4, (some .int), acX11_cooks, 11, 3) 2 := mok_of 6 195 rfl rfl cl_11 (by decide +kernel) rfl
theorem mkX11_delay : mok (yX11_delay, cX11_delay, 1, (some .int), acX11_delay, 11, 1) 0 := mok_of 6 142 rfl rfl cl_11 (by decide +kernel) rfl
theorem mkX11_order : mok (yX11_order, cX11_order, 2, (some .int), acX11_order, 11, 2) 1 := mok_of 6 157 rfl rfl cl_11 (by decide +kernel) rfl
theorem mkX11_pass : mok (yX11_pass, cX11_pass, 4, (some .int), acX11_pass, 11, 4) 3 := mok_of 6 182 rfl rfl cl_11 (by decide +kernel) rfl
theorem mkX11_cook : mok (yX11_cook, cX11_cook, 3, (some .int), acX11_cook, 11, 3) 2 := mok_of 6 191 rfl rfl cl_11 (by decide +kernel) rfl
theorem mkX11_startsCounting : mok (yX11_startsCounting, cX11_startsCounting, 1, none, acX11_startsCounting, 11, 1) 0 := mok_of 6 204 rfl rfl cl_11 (by decide +kernel) rfl
theorem mkX11_steps : mok (yX11_steps, cX11_steps, 3, (some .int), acX11_steps, 11, 2) 1 := mok_of 6 199 rfl rfl cl_11 (by decide +kernel) rfl
theorem mkX11_readsAct : mok (yX11_readsAct, cX11_readsAct, 3, (some .boolean), acX11_readsAct, 11, 1) 0 := mok_of 6 230 rfl rfl cl_11 (by decide +kernel) rfl
theorem mkX11_does : mok (yX11_does, cX11_does, 3, (some .boolean), acX11_does, 11, 2) 1 := mok_of 6 235 rfl rfl cl_11 (by decide +kernel) rfl
theorem mkX11_voyage : mok (yX11_voyage, cX11_voyage, 5, (some .int), acX11_voyage, 11, 1) 0 := mok_of 6 226 rfl rfl cl_11 (by decide +kernel) rfl
theorem mkX11_puts : mok (yX11_puts, cX11_puts, 2, none, acX11_puts, 11, 1) 0 := mok_of 7 3 rfl rfl cl_11 (by decide +kernel) rfl
theorem mkX11_lane : mok (yX11_lane, cX11_lane, 3, (some .int), acX11_lane, 11, 2) 1 := mok_of 6 239 rfl rfl cl_11 (by decide +kernel) rfl
theorem mkX11_strikes : mok (yX11_strikes, cX11_strikes, 3, (some .int), acX11_strikes, 11, 1) 0 := mok_of 7 7 rfl rfl cl_11 (by decide +kernel) rfl
theorem mkX11_moved : mok (yX11_moved, cX11_moved, 4, (some .int), acX11_moved, 11, 2) 2 := mok_of 7 18 rfl rfl cl_11 (by decide +kernel) rfl
theorem mkX11_movedByDue : mok (yX11_movedByDue, cX11_movedByDue, 6, (some .int), acX11_movedByDue, 11, 3) 2 := mok_of 7 15 rfl rfl cl_11 (by decide +kernel) rfl
theorem mkX11_mayGive : mok (yX11_mayGive, cX11_mayGive, 2, (some .boolean), acX11_mayGive, 11, 2) 1 := mok_of 7 29 rfl rfl cl_11 (by decide +kernel) rfl
theorem mkX11_comesAt : mok (yX11_comesAt, cX11_comesAt, 3, (some .boolean), acX11_comesAt, 11, 3) 2 := mok_of 7 25 rfl rfl cl_11 (by decide +kernel) rfl
theorem mkX11_clears : mok (yX11_clears, cX11_clears, 8, (some .int), acX11_clears, 11, 1) 0 := mok_of 7 11 rfl rfl cl_11 (by decide +kernel) rfl
theorem mkX11_goesBy : mok (yX11_goesBy, cX11_goesBy, 6, none, acX11_goesBy, 11, 3) 2 := mok_of 7 50 rfl rfl cl_11 (by decide +kernel) rfl
theorem mkX11_laysLeast : mok (yX11_laysLeast, cX11_laysLeast, 5, none, acX11_laysLeast, 11, 2) 1 := mok_of 7 46 rfl rfl cl_11 (by decide +kernel) rfl
theorem mkX11_fewestOrders : mok (yX11_fewestOrders, cX11_fewestOrders, 4, (some .int), acX11_fewestOrders, 11, 2) 1 := mok_of 7 42 rfl rfl cl_11 (by decide +kernel) rfl
theorem mkX11_choosesAny : mok (yX11_choosesAny, cX11_choosesAny, 3, none, acX11_choosesAny, 11, 2) 1 := mok_of 7 38 rfl rfl cl_11 (by decide +kernel) rfl
theorem mkX11_plan : mok (yX11_plan, cX11_plan, 8, (some .int), acX11_plan, 11, 2) 1 := mok_of 7 33 rfl rfl cl_11 (by decide +kernel) rfl
theorem mkX11_latest : mok (yX11_latest, cX11_latest, 3, (some .int), acX11_latest, 11, 2) 1 := mok_of 7 54 rfl rfl cl_11 (by decide +kernel) rfl
theorem mkX11_lanes : mok (yX11_lanes, cX11_lanes, 4, (some .int), acX11_lanes, 11, 2) 1 := mok_of 7 58 rfl rfl cl_11 (by decide +kernel) rfl
theorem mkX11_rocksIn : mok (yX11_rocksIn, cX11_rocksIn, 5, (some .int), acX11_rocksIn, 11, 3) 2 := mok_of 7 68 rfl rfl cl_11 (by decide +kernel) rfl
theorem mkX11_safest : mok (yX11_safest, cX11_safest, 6, (some .int), acX11_safest, 11, 2) 1 := mok_of 7 63 rfl rfl cl_11 (by decide +kernel) rfl
theorem mkX11_late : mok (yX11_late, cX11_late, 7, (some .int), acX11_late, 11, 2) 1 := mok_of 7 73 rfl rfl cl_11 (by decide +kernel) rfl
theorem mkX11_comes : mok (yX11_comes, cX11_comes, 6, (some .int), acX11_comes, 11, 2) 1 := mok_of 7 77 rfl rfl cl_11 (by decide +kernel) rfl
theorem mkX11_postsFor : mok (yX11_postsFor, cX11_postsFor, 2, (some .int), acX11_postsFor, 11, 2) 1 := mok_of 7 87 rfl rfl cl_11 (by decide +kernel) rfl
theorem mkX11_relay : mok (yX11_relay, cX11_relay, 5, (some .int), acX11_relay, 11, 2) 1 := mok_of 7 82 rfl rfl cl_11 (by decide +kernel) rfl
theorem mkX11_fewest : mok (yX11_fewest, cX11_fewest, 2, (some .int), acX11_fewest, 11, 2) 1 := mok_of 7 91 rfl rfl cl_11 (by decide +kernel) rfl
theorem mkX11_bets : mok (yX11_bets, cX11_bets, 7, none, acX11_bets, 11, 3) 2 := mok_of 7 101 rfl rfl cl_11 (by decide +kernel) rfl
theorem mkX11_word : mok (yX11_word, cX11_word, 3, (some .int), acX11_word, 11, 3) 2 := mok_of 7 96 rfl rfl cl_11 (by decide +kernel) rfl
theorem mkX11_survives : mok (yX11_survives, cX11_survives, 4, (some .int), acX11_survives, 11, 3) 2 := mok_of 7 112 rfl rfl cl_11 (by decide +kernel) rfl
theorem mkX11_lastsFor : mok (yX11_lastsFor, cX11_lastsFor, 6, (some .int), acX11_lastsFor, 11, 3) 2 := mok_of 7 121 rfl rfl cl_11 (by decide +kernel) rfl
theorem mkX11_lives : mok (yX11_lives, cX11_lives, 6, (some .int), acX11_lives, 11, 2) 1 := mok_of 7 117 rfl rfl cl_11 (by decide +kernel) rfl
theorem mkX11_spare : mok (yX11_spare, cX11_spare, 3, (some .int), acX11_spare, 11, 3) 2 := mok_of 7 130 rfl rfl cl_11 (by decide +kernel) rfl
theorem mkX11_laysFlows : mok (yX11_laysFlows, cX11_laysFlows, 6, none, acX11_laysFlows, 11, 2) 1 := mok_of 7 134 rfl rfl cl_11 (by decide +kernel) rfl
theorem mkX11_flow : mok (yX11_flow, cX11_flow, 3, (some .int), acX11_flow, 11, 3) 2 := mok_of 7 139 rfl rfl cl_11 (by decide +kernel) rfl
theorem mkX11_shares : mok (yX11_shares, cX11_shares, 6, (some .int), acX11_shares, 11, 2) 1 := mok_of 7 126 rfl rfl cl_11 (by decide +kernel) rfl
theorem mkX11_fast : mok (yX11_fast, cX11_fast, 8, (some .int), acX11_fast, 11, 2) 1 := mok_of 7 143 rfl rfl cl_11 (by decide +kernel) rfl
theorem mkX11_seenIn : mok (yX11_seenIn, cX11_seenIn, 4, (some .int), acX11_seenIn, 11, 2) 1 := mok_of 7 153 rfl rfl cl_11 (by decide +kernel) rfl
theorem mkX11_seen : mok (yX11_seen, cX11_seen, 4, (some .int), acX11_seen, 11, 3) 2 := mok_of 7 147 rfl rfl cl_11 (by decide +kernel) rfl
theorem mkX11_forget : mok (yX11_forget, cX11_forget, 2, (some .int), acX11_forget, 11, 1) 0 := mok_of 7 157 rfl rfl cl_11 (by decide +kernel) rfl
theorem mkX11_lastSeen : mok (yX11_lastSeen, cX11_lastSeen, 3, (some .int), acX11_lastSeen, 11, 1) 0 := mok_of 7 165 rfl rfl cl_11 (by decide +kernel) rfl
theorem mkX11_isFine : mok (yX11_isFine, cX11_isFine, 3, (some .boolean), acX11_isFine, 11, 3) 2 := mok_of 7 173 rfl rfl cl_11 (by decide +kernel) rfl
theorem mkX11_laysSeen : mok (yX11_laysSeen, cX11_laysSeen, 6, none, acX11_laysSeen, 11, 2) 1 := mok_of 7 169 rfl rfl cl_11 (by decide +kernel) rfl
theorem mkX11_ordered : mok (yX11_ordered, cX11_ordered, 5, (some .int), acX11_ordered, 11, 1) 0 := mok_of 7 161 rfl rfl cl_11 (by decide +kernel) rfl
theorem mkX11_unsure : mok (yX11_unsure, cX11_unsure, 9, (some .int), acX11_unsure, 11, 1) 0 := mok_of 7 177 rfl rfl cl_11 (by decide +kernel) rfl
theorem mkX11_boyBegins : mok (yX11_boyBegins, cX11_boyBegins, 3, none, acX11_boyBegins, 11, 3) 2 := mok_of 7 190 rfl rfl cl_11 (by decide +kernel) rfl
theorem mkX11_boyGoes : mok (yX11_boyGoes, cX11_boyGoes, 1, none, acX11_boyGoes, 11, 1) 0 := mok_of 7 194 rfl rfl cl_11 (by decide +kernel) rfl
theorem mkX11_canRest : mok (yX11_canRest, cX11_canRest, 1, (some .boolean), acX11_canRest, 11, 1) 1 := mok_of 7 185 rfl rfl cl_11 (by decide +kernel) rfl
theorem mkX11_boy : mok (yX11_boy, cX11_boy, 4, (some .int), acX11_boy, 11, 3) 2 := mok_of 7 181 rfl rfl cl_11 (by decide +kernel) rfl
theorem mkX11_meets : mok (yX11_meets, cX11_meets, 5, (some .int), acX11_meets, 11, 2) 1 := mok_of 7 198 rfl rfl cl_11 (by decide +kernel) rfl
theorem mkX11_knows : mok (yX11_knows, cX11_knows, 8, (some .int), acX11_knows, 11, 3) 2 := mok_of 7 202 rfl rfl cl_11 (by decide +kernel) rfl
theorem mkX11_keeps : mok (yX11_keeps, cX11_keeps, 4, (some .int), acX11_keeps, 11, 4) 4 := mok_of 7 214 rfl rfl cl_11 (by decide +kernel) rfl
theorem mkX11_isRest : mok (yX11_isRest, cX11_isRest, 6, (some .boolean), acX11_isRest, 11, 4) 4 := mok_of 7 211 rfl rfl cl_11 (by decide +kernel) rfl
theorem mkX11_mutiny : mok (yX11_mutiny, cX11_mutiny, 7, (some .int), acX11_mutiny, 11, 4) 3 := mok_of 7 206 rfl rfl cl_11 (by decide +kernel) rfl
theorem mkX11_chance : mok (yX11_chance, cX11_chance, 9, (some .int), acX11_chance, 11, 4) 3 := mok_of 7 218 rfl rfl cl_11 (by decide +kernel) rfl
theorem mkX11_voyages : mok (yX11_voyages, cX11_voyages, 7, (some .int), acX11_voyages, 11, 3) 2 := mok_of 7 222 rfl rfl cl_11 (by decide +kernel) rfl
theorem mkX11_keep : mok (yX11_keep, cX11_keep, 3, (some .boolean), acX11_keep, 11, 2) 1 := mok_of 7 227 rfl rfl cl_11 (by decide +kernel) rfl
theorem mkX11_again : mok (yX11_again, cX11_again, 3, (some .boolean), acX11_again, 11, 2) 1 := mok_of 7 231 rfl rfl cl_11 (by decide +kernel) rfl
theorem mkX11_count : mok (yX11_count, cX11_count, 2, (some .int), acX11_count, 11, 2) 1 := mok_of 7 235 rfl rfl cl_11 (by decide +kernel) rfl
theorem mkX11_row : mok (yX11_row, cX11_row, 2, (some .long), acX11_row, 11, 2) 1 := mok_of 7 239 rfl rfl cl_11 (by decide +kernel) rfl
theorem cl_12 : clB yJ6_bitCount_0f7a4.cls 1024 = true := by decide +kernel
theorem mkJ6_bitCount_0f7a4 : mok (yJ6_bitCount_0f7a4, cJ6_bitCount_0f7a4, 1, (some .int), acJ6_bitCount_0f7a4, 12, 1) 1 := mok_of 3 224 rfl rfl cl_12 (by decide +kernel) rfl
theorem cl_13 : clB yJ0_length_8abf5.cls 1015 = true := by decide +kernel
theorem mkJ0_length_8abf5 : mok (yJ0_length_8abf5, cJ0_length_8abf5, 1, (some .int), [], 12, 1) 0 := mok_of 6 26 rfl rfl cl_13 (by decide +kernel) rfl
theorem mkJ0_charAt_5068e : mok (yJ0_charAt_5068e, cJ0_charAt_5068e, 2, (some .char), [], 12, 2) 1 := mok_of 6 36 rfl rfl cl_13 (by decide +kernel) rfl
theorem cl_14 : clB yJ7_fill_53178.cls 1012 = true := by decide +kernel
theorem mkJ7_fill_53178 : mok (yJ7_fill_53178, cJ7_fill_53178, 4, none, acJ7_fill_53178, 12, 2) 2 := mok_of 2 50 rfl rfl cl_14 (by decide +kernel) rfl
theorem hmath_t : ∀ w ∈ mathW, w ∈ GW := by
  intro w hw
  simp only [mathW, List.mem_cons, List.not_mem_nil, or_false] at hw
  rcases hw with rfl | rfl | rfl | rfl | rfl | rfl | rfl | rfl | rfl | rfl | rfl | rfl
  · exact atT_gw (i := 575) (by decide +kernel)
  · exact atT_gw (i := 576) (by decide +kernel)
  · exact atT_gw (i := 464) (by decide +kernel)
  · exact atT_gw (i := 465) (by decide +kernel)
  · exact atT_gw (i := 806) (by decide +kernel)
  · exact atT_gw (i := 807) (by decide +kernel)
  · exact atT_gw (i := 99) (by decide +kernel)
  · exact atT_gw (i := 626) (by decide +kernel)
  · exact atT_gw (i := 625) (by decide +kernel)
  · exact atT_gw (i := 108) (by decide +kernel)
  · exact atT_gw (i := 116) (by decide +kernel)
  · exact atT_gw (i := 117) (by decide +kernel)
theorem mtab_len : mtab.length = 257 := by decide +kernel
theorem hac_of (k : Nat) {mi : MI} (hs : List (List Nat)) (h : mtab[k]? = some mi) (ho : (match mtab[k]? with
  | some mi => acokB mi hs
  | none => false) = true) : acok mi := by
  rw [h] at ho
  exact acokB_ok ho
theorem hac_t : ∀ (k : Nat) (mi : MI), mtab[k]? = some mi → acok mi := by
  intro k mi h
  have hk : k < 257 := by rw [← mtab_len]; exact (List.getElem?_eq_some_iff.mp h).1
  by_cases h0_257 : k < 128
  · by_cases h0_128 : k < 64
    · by_cases h0_64 : k < 32
      · by_cases h0_32 : k < 16
        · by_cases h0_16 : k < 8
          · by_cases h0_8 : k < 4
            · by_cases h0_4 : k < 2
              · by_cases h0_2 : k < 1
                · obtain rfl : k = 0 := by omega
                  exact hac_of 0 _ h okX0_init
                · obtain rfl : k = 1 := by omega
                  exact hac_of 1 _ h okX0_isOvertaken
              · by_cases h2_4 : k < 3
                · obtain rfl : k = 2 := by omega
                  exact hac_of 2 _ h okX0_reach
                · obtain rfl : k = 3 := by omega
                  exact hac_of 3 _ h okX0_moved
            · by_cases h4_8 : k < 6
              · by_cases h4_6 : k < 5
                · obtain rfl : k = 4 := by omega
                  exact hac_of 4 _ h okX0_freeOrders
                · obtain rfl : k = 5 := by omega
                  exact hac_of 5 _ h okX0_fewestOrders
              · by_cases h6_8 : k < 7
                · obtain rfl : k = 6 := by omega
                  exact hac_of 6 _ h okX0_doChosen
                · obtain rfl : k = 7 := by omega
                  exact hac_of 7 _ h okX0_moveCosts
          · by_cases h8_16 : k < 12
            · by_cases h8_12 : k < 10
              · by_cases h8_10 : k < 9
                · obtain rfl : k = 8 := by omega
                  exact hac_of 8 _ h okX0_chooseLeastRow
                · obtain rfl : k = 9 := by omega
                  exact hac_of 9 _ h okX0_leastChoice
              · by_cases h10_12 : k < 11
                · obtain rfl : k = 10 := by omega
                  exact hac_of 10 _ h okX1_init
                · obtain rfl : k = 11 := by omega
                  exact hac_of 11 _ h okX1_remember
            · by_cases h12_16 : k < 14
              · by_cases h12_14 : k < 13
                · obtain rfl : k = 12 := by omega
                  exact hac_of 12 _ h okX1_bringBack
                · obtain rfl : k = 13 := by omega
                  exact hac_of 13 _ h okX1_forgetAll
              · by_cases h14_16 : k < 15
                · obtain rfl : k = 14 := by omega
                  exact hac_of 14 _ h okX2_init
                · obtain rfl : k = 15 := by omega
                  exact hac_of 15 _ h okX2_readFrom
        · by_cases h16_32 : k < 24
          · by_cases h16_24 : k < 20
            · by_cases h16_20 : k < 18
              · by_cases h16_18 : k < 17
                · obtain rfl : k = 16 := by omega
                  exact hac_of 16 _ h okX3_init
                · obtain rfl : k = 17 := by omega
                  exact hac_of 17 _ h okX3_clear
              · by_cases h18_20 : k < 19
                · obtain rfl : k = 18 := by omega
                  exact hac_of 18 _ h okX3_add
                · obtain rfl : k = 19 := by omega
                  exact hac_of 19 _ h okX3_tellOne
            · by_cases h20_24 : k < 22
              · by_cases h20_22 : k < 21
                · obtain rfl : k = 20 := by omega
                  exact hac_of 20 _ h okX3_tellTwo
                · obtain rfl : k = 21 := by omega
                  exact hac_of 21 _ h okX3_tellFraction
              · by_cases h22_24 : k < 23
                · obtain rfl : k = 22 := by omega
                  exact hac_of 22 _ h okX4_init
                · obtain rfl : k = 23 := by omega
                  exact hac_of 23 _ h okX4_add
          · by_cases h24_32 : k < 28
            · by_cases h24_28 : k < 26
              · by_cases h24_26 : k < 25
                · obtain rfl : k = 24 := by omega
                  exact hac_of 24 _ h okX4_work
                · obtain rfl : k = 25 := by omega
                  exact hac_of 25 _ h okX4_push
              · by_cases h26_28 : k < 27
                · obtain rfl : k = 26 := by omega
                  exact hac_of 26 _ h okX4_pop
                · obtain rfl : k = 27 := by omega
                  exact hac_of 27 _ h okX4_valueOf
            · by_cases h28_32 : k < 30
              · by_cases h28_30 : k < 29
                · obtain rfl : k = 28 := by omega
                  exact hac_of 28 _ h okX4_apply
                · obtain rfl : k = 29 := by omega
                  exact hac_of 29 _ h okX5_init
              · by_cases h30_32 : k < 31
                · obtain rfl : k = 30 := by omega
                  exact hac_of 30 _ h okX5_readFrom
                · obtain rfl : k = 31 := by omega
                  exact hac_of 31 _ h okX5_takeThing
      · by_cases h32_64 : k < 48
        · by_cases h32_48 : k < 40
          · by_cases h32_40 : k < 36
            · by_cases h32_36 : k < 34
              · by_cases h32_34 : k < 33
                · obtain rfl : k = 32 := by omega
                  exact hac_of 32 _ h okX5_takeOperator
                · obtain rfl : k = 33 := by omega
                  exact hac_of 33 _ h okX5_hold
              · by_cases h34_36 : k < 35
                · obtain rfl : k = 34 := by omega
                  exact hac_of 34 _ h okX5_release
                · obtain rfl : k = 35 := by omega
                  exact hac_of 35 _ h okX5_rank
            · by_cases h36_40 : k < 38
              · by_cases h36_38 : k < 37
                · obtain rfl : k = 36 := by omega
                  exact hac_of 36 _ h okX6_init
                · obtain rfl : k = 37 := by omega
                  exact hac_of 37 _ h okX6_readFrom
              · by_cases h38_40 : k < 39
                · obtain rfl : k = 38 := by omega
                  exact hac_of 38 _ h okX6_addPost
                · obtain rfl : k = 39 := by omega
                  exact hac_of 39 _ h okX7_init
          · by_cases h40_48 : k < 44
            · by_cases h40_44 : k < 42
              · by_cases h40_42 : k < 41
                · obtain rfl : k = 40 := by omega
                  exact hac_of 40 _ h okX7_forgetAll
                · obtain rfl : k = 41 := by omega
                  exact hac_of 41 _ h okX7_lastStep
              · by_cases h42_44 : k < 43
                · obtain rfl : k = 42 := by omega
                  exact hac_of 42 _ h okX7_countWays
                · obtain rfl : k = 43 := by omega
                  exact hac_of 43 _ h okX7_waysBehind
            · by_cases h44_48 : k < 46
              · by_cases h44_46 : k < 45
                · obtain rfl : k = 44 := by omega
                  exact hac_of 44 _ h okX7_leastOrder
                · obtain rfl : k = 45 := by omega
                  exact hac_of 45 _ h okX7_possible
              · by_cases h46_48 : k < 47
                · obtain rfl : k = 46 := by omega
                  exact hac_of 46 _ h okX8_init
                · obtain rfl : k = 47 := by omega
                  exact hac_of 47 _ h okX8_copyFrom
        · by_cases h48_64 : k < 56
          · by_cases h48_56 : k < 52
            · by_cases h48_52 : k < 50
              · by_cases h48_50 : k < 49
                · obtain rfl : k = 48 := by omega
                  exact hac_of 48 _ h okX8_gaveNow
                · obtain rfl : k = 49 := by omega
                  exact hac_of 49 _ h okX8_addOrder
              · by_cases h50_52 : k < 51
                · obtain rfl : k = 50 := by omega
                  exact hac_of 50 _ h okX8_doDueOrders
                · obtain rfl : k = 51 := by omega
                  exact hac_of 51 _ h okX8_laneIn
            · by_cases h52_56 : k < 54
              · by_cases h52_54 : k < 53
                · obtain rfl : k = 52 := by omega
                  exact hac_of 52 _ h okX8_eat
                · obtain rfl : k = 53 := by omega
                  exact hac_of 53 _ h okX9_init
              · by_cases h54_56 : k < 55
                · obtain rfl : k = 54 := by omega
                  exact hac_of 54 _ h okX9_append
                · obtain rfl : k = 55 := by omega
                  exact hac_of 55 _ h okX9_open
          · by_cases h56_64 : k < 60
            · by_cases h56_60 : k < 58
              · by_cases h56_58 : k < 57
                · obtain rfl : k = 56 := by omega
                  exact hac_of 56 _ h okX9_ended
                · obtain rfl : k = 57 := by omega
                  exact hac_of 57 _ h okX9_next
              · by_cases h58_60 : k < 59
                · obtain rfl : k = 58 := by omega
                  exact hac_of 58 _ h okX9_take
                · obtain rfl : k = 59 := by omega
                  exact hac_of 59 _ h okX9_takeNumber
            · by_cases h60_64 : k < 62
              · by_cases h60_62 : k < 61
                · obtain rfl : k = 60 := by omega
                  exact hac_of 60 _ h okX9_faultAtEnd
                · obtain rfl : k = 61 := by omega
                  exact hac_of 61 _ h okX10_init
              · by_cases h62_64 : k < 63
                · obtain rfl : k = 62 := by omega
                  exact hac_of 62 _ h okX10_sign
                · obtain rfl : k = 63 := by omega
                  exact hac_of 63 _ h okX10_end
    · by_cases h64_128 : k < 96
      · by_cases h64_96 : k < 80
        · by_cases h64_80 : k < 72
          · by_cases h64_72 : k < 68
            · by_cases h64_68 : k < 66
              · by_cases h64_66 : k < 65
                · obtain rfl : k = 64 := by omega
                  exact hac_of 64 _ h okX10_ship
                · obtain rfl : k = 65 := by omega
                  exact hac_of 65 _ h okX10_rocks
              · by_cases h66_68 : k < 67
                · obtain rfl : k = 66 := by omega
                  exact hac_of 66 _ h okX10_messes
                · obtain rfl : k = 67 := by omega
                  exact hac_of 67 _ h okX10_rule
            · by_cases h68_72 : k < 70
              · by_cases h68_70 : k < 69
                · obtain rfl : k = 68 := by omega
                  exact hac_of 68 _ h okX10_post
                · obtain rfl : k = 69 := by omega
                  exact hac_of 69 _ h okX10_rock
              · by_cases h70_72 : k < 71
                · obtain rfl : k = 70 := by omega
                  exact hac_of 70 _ h okX10_mess
                · obtain rfl : k = 71 := by omega
                  exact hac_of 71 _ h okX10_way
          · by_cases h72_80 : k < 76
            · by_cases h72_76 : k < 74
              · by_cases h72_74 : k < 73
                · obtain rfl : k = 72 := by omega
                  exact hac_of 72 _ h okX10_sheet
                · obtain rfl : k = 73 := by omega
                  exact hac_of 73 _ h okX10_delay
              · by_cases h74_76 : k < 75
                · obtain rfl : k = 74 := by omega
                  exact hac_of 74 _ h okX10_order
                · obtain rfl : k = 75 := by omega
                  exact hac_of 75 _ h okX10_pass
            · by_cases h76_80 : k < 78
              · by_cases h76_78 : k < 77
                · obtain rfl : k = 76 := by omega
                  exact hac_of 76 _ h okX10_cook
                · obtain rfl : k = 77 := by omega
                  exact hac_of 77 _ h okX10_steps
              · by_cases h78_80 : k < 79
                · obtain rfl : k = 78 := by omega
                  exact hac_of 78 _ h okX10_voyage
                · obtain rfl : k = 79 := by omega
                  exact hac_of 79 _ h okX10_undo
        · by_cases h80_96 : k < 88
          · by_cases h80_88 : k < 84
            · by_cases h80_84 : k < 82
              · by_cases h80_82 : k < 81
                · obtain rfl : k = 80 := by omega
                  exact hac_of 80 _ h okX10_lane
                · obtain rfl : k = 81 := by omega
                  exact hac_of 81 _ h okX10_strikes
              · by_cases h82_84 : k < 83
                · obtain rfl : k = 82 := by omega
                  exact hac_of 82 _ h okX10_clears
                · obtain rfl : k = 83 := by omega
                  exact hac_of 83 _ h okX10_plan
            · by_cases h84_88 : k < 86
              · by_cases h84_86 : k < 85
                · obtain rfl : k = 84 := by omega
                  exact hac_of 84 _ h okX10_latest
                · obtain rfl : k = 85 := by omega
                  exact hac_of 85 _ h okX10_lanes
              · by_cases h86_88 : k < 87
                · obtain rfl : k = 86 := by omega
                  exact hac_of 86 _ h okX10_safest
                · obtain rfl : k = 87 := by omega
                  exact hac_of 87 _ h okX10_late
          · by_cases h88_96 : k < 92
            · by_cases h88_92 : k < 90
              · by_cases h88_90 : k < 89
                · obtain rfl : k = 88 := by omega
                  exact hac_of 88 _ h okX10_comes
                · obtain rfl : k = 89 := by omega
                  exact hac_of 89 _ h okX10_relay
              · by_cases h90_92 : k < 91
                · obtain rfl : k = 90 := by omega
                  exact hac_of 90 _ h okX10_fewest
                · obtain rfl : k = 91 := by omega
                  exact hac_of 91 _ h okX10_word
            · by_cases h92_96 : k < 94
              · by_cases h92_94 : k < 93
                · obtain rfl : k = 92 := by omega
                  exact hac_of 92 _ h okX10_survives
                · obtain rfl : k = 93 := by omega
                  exact hac_of 93 _ h okX10_lives
              · by_cases h94_96 : k < 95
                · obtain rfl : k = 94 := by omega
                  exact hac_of 94 _ h okX10_shares
                · obtain rfl : k = 95 := by omega
                  exact hac_of 95 _ h okX10_fast
      · by_cases h96_128 : k < 112
        · by_cases h96_112 : k < 104
          · by_cases h96_104 : k < 100
            · by_cases h96_100 : k < 98
              · by_cases h96_98 : k < 97
                · obtain rfl : k = 96 := by omega
                  exact hac_of 96 _ h okX10_seen
                · obtain rfl : k = 97 := by omega
                  exact hac_of 97 _ h okX10_forget
              · by_cases h98_100 : k < 99
                · obtain rfl : k = 98 := by omega
                  exact hac_of 98 _ h okX10_ordered
                · obtain rfl : k = 99 := by omega
                  exact hac_of 99 _ h okX10_unsure
            · by_cases h100_104 : k < 102
              · by_cases h100_102 : k < 101
                · obtain rfl : k = 100 := by omega
                  exact hac_of 100 _ h okX10_boy
                · obtain rfl : k = 101 := by omega
                  exact hac_of 101 _ h okX10_meets
              · by_cases h102_104 : k < 103
                · obtain rfl : k = 102 := by omega
                  exact hac_of 102 _ h okX10_knows
                · obtain rfl : k = 103 := by omega
                  exact hac_of 103 _ h okX10_mutiny
          · by_cases h104_112 : k < 108
            · by_cases h104_108 : k < 106
              · by_cases h104_106 : k < 105
                · obtain rfl : k = 104 := by omega
                  exact hac_of 104 _ h okX10_chance
                · obtain rfl : k = 105 := by omega
                  exact hac_of 105 _ h okX10_voyages
              · by_cases h106_108 : k < 107
                · obtain rfl : k = 106 := by omega
                  exact hac_of 106 _ h okX10_keep
                · obtain rfl : k = 107 := by omega
                  exact hac_of 107 _ h okX10_again
            · by_cases h108_112 : k < 110
              · by_cases h108_110 : k < 109
                · obtain rfl : k = 108 := by omega
                  exact hac_of 108 _ h okX10_count
                · obtain rfl : k = 109 := by omega
                  exact hac_of 109 _ h okX10_row
              · by_cases h110_112 : k < 111
                · obtain rfl : k = 110 := by omega
                  exact hac_of 110 _ h okX10_isDigit
                · obtain rfl : k = 111 := by omega
                  exact hac_of 111 _ h okX10_readMesses
        · by_cases h112_128 : k < 120
          · by_cases h112_120 : k < 116
            · by_cases h112_116 : k < 114
              · by_cases h112_114 : k < 113
                · obtain rfl : k = 112 := by omega
                  exact hac_of 112 _ h okX10_voyageFault
                · obtain rfl : k = 113 := by omega
                  exact hac_of 113 _ h okX10_doVoyageSign
              · by_cases h114_116 : k < 115
                · obtain rfl : k = 114 := by omega
                  exact hac_of 114 _ h okX10_put
                · obtain rfl : k = 115 := by omega
                  exact hac_of 115 _ h okX10_entry
            · by_cases h116_120 : k < 118
              · by_cases h116_118 : k < 117
                · obtain rfl : k = 116 := by omega
                  exact hac_of 116 _ h okX10_keepOnSea
                · obtain rfl : k = 117 := by omega
                  exact hac_of 117 _ h okX10_delayAt
              · by_cases h118_120 : k < 119
                · obtain rfl : k = 118 := by omega
                  exact hac_of 118 _ h okX10_orderRefusal
                · obtain rfl : k = 119 := by omega
                  exact hac_of 119 _ h okX10_giveOrder
          · by_cases h120_128 : k < 124
            · by_cases h120_124 : k < 122
              · by_cases h120_122 : k < 121
                · obtain rfl : k = 120 := by omega
                  exact hac_of 120 _ h okX10_passRefusal
                · obtain rfl : k = 121 := by omega
                  exact hac_of 121 _ h okX10_moveFood
              · by_cases h122_124 : k < 123
                · obtain rfl : k = 122 := by omega
                  exact hac_of 122 _ h okX10_goStep
                · obtain rfl : k = 123 := by omega
                  exact hac_of 123 _ h okX10_firstFree
            · by_cases h124_128 : k < 126
              · by_cases h124_126 : k < 125
                · obtain rfl : k = 124 := by omega
                  exact hac_of 124 _ h okX10_lookAhead
                · obtain rfl : k = 125 := by omega
                  exact hac_of 125 _ h okX10_rocksInLane
              · by_cases h126_128 : k < 127
                · obtain rfl : k = 126 := by omega
                  exact hac_of 126 _ h okX10_apart
                · obtain rfl : k = 127 := by omega
                  exact hac_of 127 _ h okX10_widened
  · by_cases h128_257 : k < 192
    · by_cases h128_192 : k < 160
      · by_cases h128_160 : k < 144
        · by_cases h128_144 : k < 136
          · by_cases h128_136 : k < 132
            · by_cases h128_132 : k < 130
              · by_cases h128_130 : k < 129
                · obtain rfl : k = 128 := by omega
                  exact hac_of 128 _ h okX10_power
                · obtain rfl : k = 129 := by omega
                  exact hac_of 129 _ h okX10_likelyWord
              · by_cases h130_132 : k < 131
                · obtain rfl : k = 130 := by omega
                  exact hac_of 130 _ h okX10_lastsFor
                · obtain rfl : k = 131 := by omega
                  exact hac_of 131 _ h okX10_foodLeft
            · by_cases h132_136 : k < 134
              · by_cases h132_134 : k < 133
                · obtain rfl : k = 132 := by omega
                  exact hac_of 132 _ h okX10_weighPassing
                · obtain rfl : k = 133 := by omega
                  exact hac_of 133 _ h okX10_leastPassing
              · by_cases h134_136 : k < 135
                · obtain rfl : k = 134 := by omega
                  exact hac_of 134 _ h okX10_choosePassing
                · obtain rfl : k = 135 := by omega
                  exact hac_of 135 _ h okX10_lap
          · by_cases h136_144 : k < 140
            · by_cases h136_140 : k < 138
              · by_cases h136_138 : k < 137
                · obtain rfl : k = 136 := by omega
                  exact hac_of 136 _ h okX10_cellAfter
                · obtain rfl : k = 137 := by omega
                  exact hac_of 137 _ h okX10_holdsThen
              · by_cases h138_140 : k < 139
                · obtain rfl : k = 138 := by omega
                  exact hac_of 138 _ h okX10_wantsAnother
                · obtain rfl : k = 139 := by omega
                  exact hac_of 139 _ h okX11_init
            · by_cases h140_144 : k < 142
              · by_cases h140_142 : k < 141
                · obtain rfl : k = 140 := by omega
                  exact hac_of 140 _ h okX11_thrown
                · obtain rfl : k = 141 := by omega
                  exact hac_of 141 _ h okX11_refuse
              · by_cases h142_144 : k < 143
                · obtain rfl : k = 142 := by omega
                  exact hac_of 142 _ h okX11_in
                · obtain rfl : k = 143 := by omega
                  exact hac_of 143 _ h okX11_has
        · by_cases h144_160 : k < 152
          · by_cases h144_152 : k < 148
            · by_cases h144_148 : k < 146
              · by_cases h144_146 : k < 145
                · obtain rfl : k = 144 := by omega
                  exact hac_of 144 _ h okX11_flag
                · obtain rfl : k = 145 := by omega
                  exact hac_of 145 _ h okX11_common
              · by_cases h146_148 : k < 147
                · obtain rfl : k = 146 := by omega
                  exact hac_of 146 _ h okX11_enters
                · obtain rfl : k = 147 := by omega
                  exact hac_of 147 _ h okX11_tellsFraction
            · by_cases h148_152 : k < 150
              · by_cases h148_150 : k < 149
                · obtain rfl : k = 148 := by omega
                  exact hac_of 148 _ h okX11_isMess
                · obtain rfl : k = 149 := by omega
                  exact hac_of 149 _ h okX11_sign
              · by_cases h150_152 : k < 151
                · obtain rfl : k = 150 := by omega
                  exact hac_of 150 _ h okX11_end
                · obtain rfl : k = 151 := by omega
                  exact hac_of 151 _ h okX11_begins
          · by_cases h152_160 : k < 156
            · by_cases h152_156 : k < 154
              · by_cases h152_154 : k < 153
                · obtain rfl : k = 152 := by omega
                  exact hac_of 152 _ h okX11_takes
                · obtain rfl : k = 153 := by omega
                  exact hac_of 153 _ h okX11_isDigit
              · by_cases h154_156 : k < 155
                · obtain rfl : k = 154 := by omega
                  exact hac_of 154 _ h okX11_among
                · obtain rfl : k = 155 := by omega
                  exact hac_of 155 _ h okX11_takesOf
            · by_cases h156_160 : k < 158
              · by_cases h156_158 : k < 157
                · obtain rfl : k = 156 := by omega
                  exact hac_of 156 _ h okX11_number
                · obtain rfl : k = 157 := by omega
                  exact hac_of 157 _ h okX11_numberIn
              · by_cases h158_160 : k < 159
                · obtain rfl : k = 158 := by omega
                  exact hac_of 158 _ h okX11_faultOf
                · obtain rfl : k = 159 := by omega
                  exact hac_of 159 _ h okX11_ship
      · by_cases h160_192 : k < 176
        · by_cases h160_176 : k < 168
          · by_cases h160_168 : k < 164
            · by_cases h160_164 : k < 162
              · by_cases h160_162 : k < 161
                · obtain rfl : k = 160 := by omega
                  exact hac_of 160 _ h okX11_readsRock
                · obtain rfl : k = 161 := by omega
                  exact hac_of 161 _ h okX11_readsMess
              · by_cases h162_164 : k < 163
                · obtain rfl : k = 162 := by omega
                  exact hac_of 162 _ h okX11_rocks
                · obtain rfl : k = 163 := by omega
                  exact hac_of 163 _ h okX11_messes
            · by_cases h164_168 : k < 166
              · by_cases h164_166 : k < 165
                · obtain rfl : k = 164 := by omega
                  exact hac_of 164 _ h okX11_codes
                · obtain rfl : k = 165 := by omega
                  exact hac_of 165 _ h okX11_readsThing
              · by_cases h166_168 : k < 167
                · obtain rfl : k = 166 := by omega
                  exact hac_of 166 _ h okX11_readsRank
                · obtain rfl : k = 167 := by omega
                  exact hac_of 167 _ h okX11_rule
          · by_cases h168_176 : k < 172
            · by_cases h168_172 : k < 170
              · by_cases h168_170 : k < 169
                · obtain rfl : k = 168 := by omega
                  exact hac_of 168 _ h okX11_worked
                · obtain rfl : k = 169 := by omega
                  exact hac_of 169 _ h okX11_ruled
              · by_cases h170_172 : k < 171
                · obtain rfl : k = 170 := by omega
                  exact hac_of 170 _ h okX11_delayAt
                · obtain rfl : k = 171 := by omega
                  exact hac_of 171 _ h okX11_turned
            · by_cases h172_176 : k < 174
              · by_cases h172_174 : k < 173
                · obtain rfl : k = 172 := by omega
                  exact hac_of 172 _ h okX11_post
                · obtain rfl : k = 173 := by omega
                  exact hac_of 173 _ h okX11_rock
              · by_cases h174_176 : k < 175
                · obtain rfl : k = 174 := by omega
                  exact hac_of 174 _ h okX11_mess
                · obtain rfl : k = 175 := by omega
                  exact hac_of 175 _ h okX11_isAhead
        · by_cases h176_192 : k < 184
          · by_cases h176_184 : k < 180
            · by_cases h176_180 : k < 178
              · by_cases h176_178 : k < 177
                · obtain rfl : k = 176 := by omega
                  exact hac_of 176 _ h okX11_way
                · obtain rfl : k = 177 := by omega
                  exact hac_of 177 _ h okX11_sheet
              · by_cases h178_180 : k < 179
                · obtain rfl : k = 178 := by omega
                  exact hac_of 178 _ h okX11_putsBy
                · obtain rfl : k = 179 := by omega
                  exact hac_of 179 _ h okX11_adds
            · by_cases h180_184 : k < 182
              · by_cases h180_182 : k < 181
                · obtain rfl : k = 180 := by omega
                  exact hac_of 180 _ h okX11_counts
                · obtain rfl : k = 181 := by omega
                  exact hac_of 181 _ h okX11_undo
              · by_cases h182_184 : k < 183
                · obtain rfl : k = 182 := by omega
                  exact hac_of 182 _ h okX11_put
                · obtain rfl : k = 183 := by omega
                  exact hac_of 183 _ h okX11_doesDue
          · by_cases h184_192 : k < 188
            · by_cases h184_188 : k < 186
              · by_cases h184_186 : k < 185
                · obtain rfl : k = 184 := by omega
                  exact hac_of 184 _ h okX11_hitsAt
                · obtain rfl : k = 185 := by omega
                  exact hac_of 185 _ h okX11_stepGoes
              · by_cases h186_188 : k < 187
                · obtain rfl : k = 186 := by omega
                  exact hac_of 186 _ h okX11_gives
                · obtain rfl : k = 187 := by omega
                  exact hac_of 187 _ h okX11_passes
            · by_cases h188_192 : k < 190
              · by_cases h188_190 : k < 189
                · obtain rfl : k = 188 := by omega
                  exact hac_of 188 _ h okX11_cooks
                · obtain rfl : k = 189 := by omega
                  exact hac_of 189 _ h okX11_delay
              · by_cases h190_192 : k < 191
                · obtain rfl : k = 190 := by omega
                  exact hac_of 190 _ h okX11_order
                · obtain rfl : k = 191 := by omega
                  exact hac_of 191 _ h okX11_pass
    · by_cases h192_257 : k < 224
      · by_cases h192_224 : k < 208
        · by_cases h192_208 : k < 200
          · by_cases h192_200 : k < 196
            · by_cases h192_196 : k < 194
              · by_cases h192_194 : k < 193
                · obtain rfl : k = 192 := by omega
                  exact hac_of 192 _ h okX11_cook
                · obtain rfl : k = 193 := by omega
                  exact hac_of 193 _ h okX11_startsCounting
              · by_cases h194_196 : k < 195
                · obtain rfl : k = 194 := by omega
                  exact hac_of 194 _ h okX11_steps
                · obtain rfl : k = 195 := by omega
                  exact hac_of 195 _ h okX11_readsAct
            · by_cases h196_200 : k < 198
              · by_cases h196_198 : k < 197
                · obtain rfl : k = 196 := by omega
                  exact hac_of 196 _ h okX11_does
                · obtain rfl : k = 197 := by omega
                  exact hac_of 197 _ h okX11_voyage
              · by_cases h198_200 : k < 199
                · obtain rfl : k = 198 := by omega
                  exact hac_of 198 _ h okX11_puts
                · obtain rfl : k = 199 := by omega
                  exact hac_of 199 _ h okX11_lane
          · by_cases h200_208 : k < 204
            · by_cases h200_204 : k < 202
              · by_cases h200_202 : k < 201
                · obtain rfl : k = 200 := by omega
                  exact hac_of 200 _ h okX11_strikes
                · obtain rfl : k = 201 := by omega
                  exact hac_of 201 _ h okX11_moved
              · by_cases h202_204 : k < 203
                · obtain rfl : k = 202 := by omega
                  exact hac_of 202 _ h okX11_movedByDue
                · obtain rfl : k = 203 := by omega
                  exact hac_of 203 _ h okX11_mayGive
            · by_cases h204_208 : k < 206
              · by_cases h204_206 : k < 205
                · obtain rfl : k = 204 := by omega
                  exact hac_of 204 _ h okX11_comesAt
                · obtain rfl : k = 205 := by omega
                  exact hac_of 205 _ h okX11_clears
              · by_cases h206_208 : k < 207
                · obtain rfl : k = 206 := by omega
                  exact hac_of 206 _ h okX11_goesBy
                · obtain rfl : k = 207 := by omega
                  exact hac_of 207 _ h okX11_laysLeast
        · by_cases h208_224 : k < 216
          · by_cases h208_216 : k < 212
            · by_cases h208_212 : k < 210
              · by_cases h208_210 : k < 209
                · obtain rfl : k = 208 := by omega
                  exact hac_of 208 _ h okX11_fewestOrders
                · obtain rfl : k = 209 := by omega
                  exact hac_of 209 _ h okX11_choosesAny
              · by_cases h210_212 : k < 211
                · obtain rfl : k = 210 := by omega
                  exact hac_of 210 _ h okX11_plan
                · obtain rfl : k = 211 := by omega
                  exact hac_of 211 _ h okX11_latest
            · by_cases h212_216 : k < 214
              · by_cases h212_214 : k < 213
                · obtain rfl : k = 212 := by omega
                  exact hac_of 212 _ h okX11_lanes
                · obtain rfl : k = 213 := by omega
                  exact hac_of 213 _ h okX11_rocksIn
              · by_cases h214_216 : k < 215
                · obtain rfl : k = 214 := by omega
                  exact hac_of 214 _ h okX11_safest
                · obtain rfl : k = 215 := by omega
                  exact hac_of 215 _ h okX11_late
          · by_cases h216_224 : k < 220
            · by_cases h216_220 : k < 218
              · by_cases h216_218 : k < 217
                · obtain rfl : k = 216 := by omega
                  exact hac_of 216 _ h okX11_comes
                · obtain rfl : k = 217 := by omega
                  exact hac_of 217 _ h okX11_postsFor
              · by_cases h218_220 : k < 219
                · obtain rfl : k = 218 := by omega
                  exact hac_of 218 _ h okX11_relay
                · obtain rfl : k = 219 := by omega
                  exact hac_of 219 _ h okX11_fewest
            · by_cases h220_224 : k < 222
              · by_cases h220_222 : k < 221
                · obtain rfl : k = 220 := by omega
                  exact hac_of 220 _ h okX11_bets
                · obtain rfl : k = 221 := by omega
                  exact hac_of 221 _ h okX11_word
              · by_cases h222_224 : k < 223
                · obtain rfl : k = 222 := by omega
                  exact hac_of 222 _ h okX11_survives
                · obtain rfl : k = 223 := by omega
                  exact hac_of 223 _ h okX11_lastsFor
      · by_cases h224_257 : k < 240
        · by_cases h224_240 : k < 232
          · by_cases h224_232 : k < 228
            · by_cases h224_228 : k < 226
              · by_cases h224_226 : k < 225
                · obtain rfl : k = 224 := by omega
                  exact hac_of 224 _ h okX11_lives
                · obtain rfl : k = 225 := by omega
                  exact hac_of 225 _ h okX11_spare
              · by_cases h226_228 : k < 227
                · obtain rfl : k = 226 := by omega
                  exact hac_of 226 _ h okX11_laysFlows
                · obtain rfl : k = 227 := by omega
                  exact hac_of 227 _ h okX11_flow
            · by_cases h228_232 : k < 230
              · by_cases h228_230 : k < 229
                · obtain rfl : k = 228 := by omega
                  exact hac_of 228 _ h okX11_shares
                · obtain rfl : k = 229 := by omega
                  exact hac_of 229 _ h okX11_fast
              · by_cases h230_232 : k < 231
                · obtain rfl : k = 230 := by omega
                  exact hac_of 230 _ h okX11_seenIn
                · obtain rfl : k = 231 := by omega
                  exact hac_of 231 _ h okX11_seen
          · by_cases h232_240 : k < 236
            · by_cases h232_236 : k < 234
              · by_cases h232_234 : k < 233
                · obtain rfl : k = 232 := by omega
                  exact hac_of 232 _ h okX11_forget
                · obtain rfl : k = 233 := by omega
                  exact hac_of 233 _ h okX11_lastSeen
              · by_cases h234_236 : k < 235
                · obtain rfl : k = 234 := by omega
                  exact hac_of 234 _ h okX11_isFine
                · obtain rfl : k = 235 := by omega
                  exact hac_of 235 _ h okX11_laysSeen
            · by_cases h236_240 : k < 238
              · by_cases h236_238 : k < 237
                · obtain rfl : k = 236 := by omega
                  exact hac_of 236 _ h okX11_ordered
                · obtain rfl : k = 237 := by omega
                  exact hac_of 237 _ h okX11_unsure
              · by_cases h238_240 : k < 239
                · obtain rfl : k = 238 := by omega
                  exact hac_of 238 _ h okX11_boyBegins
                · obtain rfl : k = 239 := by omega
                  exact hac_of 239 _ h okX11_boyGoes
        · by_cases h240_257 : k < 248
          · by_cases h240_248 : k < 244
            · by_cases h240_244 : k < 242
              · by_cases h240_242 : k < 241
                · obtain rfl : k = 240 := by omega
                  exact hac_of 240 _ h okX11_canRest
                · obtain rfl : k = 241 := by omega
                  exact hac_of 241 _ h okX11_boy
              · by_cases h242_244 : k < 243
                · obtain rfl : k = 242 := by omega
                  exact hac_of 242 _ h okX11_meets
                · obtain rfl : k = 243 := by omega
                  exact hac_of 243 _ h okX11_knows
            · by_cases h244_248 : k < 246
              · by_cases h244_246 : k < 245
                · obtain rfl : k = 244 := by omega
                  exact hac_of 244 _ h okX11_keeps
                · obtain rfl : k = 245 := by omega
                  exact hac_of 245 _ h okX11_isRest
              · by_cases h246_248 : k < 247
                · obtain rfl : k = 246 := by omega
                  exact hac_of 246 _ h okX11_mutiny
                · obtain rfl : k = 247 := by omega
                  exact hac_of 247 _ h okX11_chance
          · by_cases h248_257 : k < 252
            · by_cases h248_252 : k < 250
              · by_cases h248_250 : k < 249
                · obtain rfl : k = 248 := by omega
                  exact hac_of 248 _ h okX11_voyages
                · obtain rfl : k = 249 := by omega
                  exact hac_of 249 _ h okX11_keep
              · by_cases h250_252 : k < 251
                · obtain rfl : k = 250 := by omega
                  exact hac_of 250 _ h okX11_again
                · obtain rfl : k = 251 := by omega
                  exact hac_of 251 _ h okX11_count
            · by_cases h252_257 : k < 254
              · by_cases h252_254 : k < 253
                · obtain rfl : k = 252 := by omega
                  exact hac_of 252 _ h okX11_row
                · obtain rfl : k = 253 := by omega
                  exact hac_of 253 _ h okJ6_bitCount_0f7a4
              · by_cases h254_257 : k < 255
                · obtain rfl : k = 254 := by omega
                  exact hac_of 254 _ h okJ0_length_8abf5
                · by_cases h255_257 : k < 256
                  · obtain rfl : k = 255 := by omega
                    exact hac_of 255 _ h okJ0_charAt_5068e
                  · obtain rfl : k = 256 := by omega
                    exact hac_of 256 _ h okJ7_fill_53178
theorem hmok_t : ∀ (k : Nat) (mi : MI), mtab[k]? = some mi → ∃ n, mok mi n ∧ mi.2.2.2.2.2.2 = if minst.getD k false = true then n + 1 else n := by
  intro k mi h
  have hk : k < 257 := by rw [← mtab_len]; exact (List.getElem?_eq_some_iff.mp h).1
  by_cases h0_257 : k < 128
  · by_cases h0_128 : k < 64
    · by_cases h0_64 : k < 32
      · by_cases h0_32 : k < 16
        · by_cases h0_16 : k < 8
          · by_cases h0_8 : k < 4
            · by_cases h0_4 : k < 2
              · by_cases h0_2 : k < 1
                · obtain rfl : k = 0 := by omega
                  exact mk2_ok (m := (yX0_init, cX0_init, 1, none, acX0_init, 0, 1)) rfl mkX0_init rfl h
                · obtain rfl : k = 1 := by omega
                  exact mk2_ok (m := (yX0_isOvertaken, cX0_isOvertaken, 4, (some .boolean), acX0_isOvertaken, 0, 3)) rfl mkX0_isOvertaken rfl h
              · by_cases h2_4 : k < 3
                · obtain rfl : k = 2 := by omega
                  exact mk2_ok (m := (yX0_reach, cX0_reach, 9, none, acX0_reach, 0, 5)) rfl mkX0_reach rfl h
                · obtain rfl : k = 3 := by omega
                  exact mk2_ok (m := (yX0_moved, cX0_moved, 2, (some .int), acX0_moved, 0, 2)) rfl mkX0_moved rfl h
            · by_cases h4_8 : k < 6
              · by_cases h4_6 : k < 5
                · obtain rfl : k = 4 := by omega
                  exact mk2_ok (m := (yX0_freeOrders, cX0_freeOrders, 4, none, acX0_freeOrders, 0, 3)) rfl mkX0_freeOrders rfl h
                · obtain rfl : k = 5 := by omega
                  exact mk2_ok (m := (yX0_fewestOrders, cX0_fewestOrders, 6, (some .int), acX0_fewestOrders, 0, 3)) rfl mkX0_fewestOrders rfl h
              · by_cases h6_8 : k < 7
                · obtain rfl : k = 6 := by omega
                  exact mk2_ok (m := (yX0_doChosen, cX0_doChosen, 6, none, acX0_doChosen, 0, 2)) rfl mkX0_doChosen rfl h
                · obtain rfl : k = 7 := by omega
                  exact mk2_ok (m := (yX0_moveCosts, cX0_moveCosts, 2, none, acX0_moveCosts, 0, 2)) rfl mkX0_moveCosts rfl h
          · by_cases h8_16 : k < 12
            · by_cases h8_12 : k < 10
              · by_cases h8_10 : k < 9
                · obtain rfl : k = 8 := by omega
                  exact mk2_ok (m := (yX0_chooseLeastRow, cX0_chooseLeastRow, 6, none, acX0_chooseLeastRow, 0, 4)) rfl mkX0_chooseLeastRow rfl h
                · obtain rfl : k = 9 := by omega
                  exact mk2_ok (m := (yX0_leastChoice, cX0_leastChoice, 6, (some .int), acX0_leastChoice, 0, 5)) rfl mkX0_leastChoice rfl h
              · by_cases h10_12 : k < 11
                · obtain rfl : k = 10 := by omega
                  exact mk2_ok (m := (yX1_init, cX1_init, 2, none, acX1_init, 1, 1)) rfl mkX1_init rfl h
                · obtain rfl : k = 11 := by omega
                  exact mk2_ok (m := (yX1_remember, cX1_remember, 2, none, acX1_remember, 1, 2)) rfl mkX1_remember rfl h
            · by_cases h12_16 : k < 14
              · by_cases h12_14 : k < 13
                · obtain rfl : k = 12 := by omega
                  exact mk2_ok (m := (yX1_bringBack, cX1_bringBack, 2, (some .boolean), acX1_bringBack, 1, 2)) rfl mkX1_bringBack rfl h
                · obtain rfl : k = 13 := by omega
                  exact mk2_ok (m := (yX1_forgetAll, cX1_forgetAll, 2, none, acX1_forgetAll, 1, 1)) rfl mkX1_forgetAll rfl h
              · by_cases h14_16 : k < 15
                · obtain rfl : k = 14 := by omega
                  exact mk2_ok (m := (yX2_init, cX2_init, 1, none, acX2_init, 2, 1)) rfl mkX2_init rfl h
                · obtain rfl : k = 15 := by omega
                  exact mk2_ok (m := (yX2_readFrom, cX2_readFrom, 6, (some .int), acX2_readFrom, 2, 2)) rfl mkX2_readFrom rfl h
        · by_cases h16_32 : k < 24
          · by_cases h16_24 : k < 20
            · by_cases h16_20 : k < 18
              · by_cases h16_18 : k < 17
                · obtain rfl : k = 16 := by omega
                  exact mk2_ok (m := (yX3_init, cX3_init, 1, none, acX3_init, 3, 1)) rfl mkX3_init rfl h
                · obtain rfl : k = 17 := by omega
                  exact mk2_ok (m := (yX3_clear, cX3_clear, 1, none, acX3_clear, 3, 1)) rfl mkX3_clear rfl h
              · by_cases h18_20 : k < 19
                · obtain rfl : k = 18 := by omega
                  exact mk2_ok (m := (yX3_add, cX3_add, 3, none, acX3_add, 3, 2)) rfl mkX3_add rfl h
                · obtain rfl : k = 19 := by omega
                  exact mk2_ok (m := (yX3_tellOne, cX3_tellOne, 3, none, acX3_tellOne, 3, 2)) rfl mkX3_tellOne rfl h
            · by_cases h20_24 : k < 22
              · by_cases h20_22 : k < 21
                · obtain rfl : k = 20 := by omega
                  exact mk2_ok (m := (yX3_tellTwo, cX3_tellTwo, 5, none, acX3_tellTwo, 3, 3)) rfl mkX3_tellTwo rfl h
                · obtain rfl : k = 21 := by omega
                  exact mk2_ok (m := (yX3_tellFraction, cX3_tellFraction, 12, none, acX3_tellFraction, 3, 3)) rfl mkX3_tellFraction rfl h
              · by_cases h22_24 : k < 23
                · obtain rfl : k = 22 := by omega
                  exact mk2_ok (m := (yX4_init, cX4_init, 1, none, acX4_init, 4, 1)) rfl mkX4_init rfl h
                · obtain rfl : k = 23 := by omega
                  exact mk2_ok (m := (yX4_add, cX4_add, 2, none, acX4_add, 4, 2)) rfl mkX4_add rfl h
          · by_cases h24_32 : k < 28
            · by_cases h24_28 : k < 26
              · by_cases h24_26 : k < 25
                · obtain rfl : k = 24 := by omega
                  exact mk2_ok (m := (yX4_work, cX4_work, 6, (some .int), acX4_work, 4, 3)) rfl mkX4_work rfl h
                · obtain rfl : k = 25 := by omega
                  exact mk2_ok (m := (yX4_push, cX4_push, 2, none, acX4_push, 4, 2)) rfl mkX4_push rfl h
              · by_cases h26_28 : k < 27
                · obtain rfl : k = 26 := by omega
                  exact mk2_ok (m := (yX4_pop, cX4_pop, 1, (some .int), acX4_pop, 4, 1)) rfl mkX4_pop rfl h
                · obtain rfl : k = 27 := by omega
                  exact mk2_ok (m := (yX4_valueOf, cX4_valueOf, 3, (some .int), acX4_valueOf, 4, 3)) rfl mkX4_valueOf rfl h
            · by_cases h28_32 : k < 30
              · by_cases h28_30 : k < 29
                · obtain rfl : k = 28 := by omega
                  exact mk2_ok (m := (yX4_apply, cX4_apply, 3, (some .int), acX4_apply, 4, 3)) rfl mkX4_apply rfl h
                · obtain rfl : k = 29 := by omega
                  exact mk2_ok (m := (yX5_init, cX5_init, 1, none, acX5_init, 5, 1)) rfl mkX5_init rfl h
              · by_cases h30_32 : k < 31
                · obtain rfl : k = 30 := by omega
                  exact mk2_ok (m := (yX5_readFrom, cX5_readFrom, 5, (some .int), acX5_readFrom, 5, 3)) rfl mkX5_readFrom rfl h
                · obtain rfl : k = 31 := by omega
                  exact mk2_ok (m := (yX5_takeThing, cX5_takeThing, 4, (some .boolean), acX5_takeThing, 5, 3)) rfl mkX5_takeThing rfl h
      · by_cases h32_64 : k < 48
        · by_cases h32_48 : k < 40
          · by_cases h32_40 : k < 36
            · by_cases h32_36 : k < 34
              · by_cases h32_34 : k < 33
                · obtain rfl : k = 32 := by omega
                  exact mk2_ok (m := (yX5_takeOperator, cX5_takeOperator, 5, (some .boolean), acX5_takeOperator, 5, 3)) rfl mkX5_takeOperator rfl h
                · obtain rfl : k = 33 := by omega
                  exact mk2_ok (m := (yX5_hold, cX5_hold, 2, none, acX5_hold, 5, 2)) rfl mkX5_hold rfl h
              · by_cases h34_36 : k < 35
                · obtain rfl : k = 34 := by omega
                  exact mk2_ok (m := (yX5_release, cX5_release, 3, none, acX5_release, 5, 3)) rfl mkX5_release rfl h
                · obtain rfl : k = 35 := by omega
                  exact mk2_ok (m := (yX5_rank, cX5_rank, 1, (some .int), acX5_rank, 5, 1)) rfl mkX5_rank rfl h
            · by_cases h36_40 : k < 38
              · by_cases h36_38 : k < 37
                · obtain rfl : k = 36 := by omega
                  exact mk2_ok (m := (yX6_init, cX6_init, 1, none, acX6_init, 6, 1)) rfl mkX6_init rfl h
                · obtain rfl : k = 37 := by omega
                  exact mk2_ok (m := (yX6_readFrom, cX6_readFrom, 5, (some .int), acX6_readFrom, 6, 2)) rfl mkX6_readFrom rfl h
              · by_cases h38_40 : k < 39
                · obtain rfl : k = 38 := by omega
                  exact mk2_ok (m := (yX6_addPost, cX6_addPost, 3, none, acX6_addPost, 6, 3)) rfl mkX6_addPost rfl h
                · obtain rfl : k = 39 := by omega
                  exact mk2_ok (m := (yX7_init, cX7_init, 1, none, acX7_init, 7, 1)) rfl mkX7_init rfl h
          · by_cases h40_48 : k < 44
            · by_cases h40_44 : k < 42
              · by_cases h40_42 : k < 41
                · obtain rfl : k = 40 := by omega
                  exact mk2_ok (m := (yX7_forgetAll, cX7_forgetAll, 1, none, acX7_forgetAll, 7, 1)) rfl mkX7_forgetAll rfl h
                · obtain rfl : k = 41 := by omega
                  exact mk2_ok (m := (yX7_lastStep, cX7_lastStep, 2, (some .int), acX7_lastStep, 7, 1)) rfl mkX7_lastStep rfl h
              · by_cases h42_44 : k < 43
                · obtain rfl : k = 42 := by omega
                  exact mk2_ok (m := (yX7_countWays, cX7_countWays, 5, none, acX7_countWays, 7, 2)) rfl mkX7_countWays rfl h
                · obtain rfl : k = 43 := by omega
                  exact mk2_ok (m := (yX7_waysBehind, cX7_waysBehind, 6, (some .long), acX7_waysBehind, 7, 3)) rfl mkX7_waysBehind rfl h
            · by_cases h44_48 : k < 46
              · by_cases h44_46 : k < 45
                · obtain rfl : k = 44 := by omega
                  exact mk2_ok (m := (yX7_leastOrder, cX7_leastOrder, 4, (some .int), acX7_leastOrder, 7, 3)) rfl mkX7_leastOrder rfl h
                · obtain rfl : k = 45 := by omega
                  exact mk2_ok (m := (yX7_possible, cX7_possible, 4, (some .int), acX7_possible, 7, 2)) rfl mkX7_possible rfl h
              · by_cases h46_48 : k < 47
                · obtain rfl : k = 46 := by omega
                  exact mk2_ok (m := (yX8_init, cX8_init, 1, none, acX8_init, 8, 1)) rfl mkX8_init rfl h
                · obtain rfl : k = 47 := by omega
                  exact mk2_ok (m := (yX8_copyFrom, cX8_copyFrom, 2, none, acX8_copyFrom, 8, 2)) rfl mkX8_copyFrom rfl h
        · by_cases h48_64 : k < 56
          · by_cases h48_56 : k < 52
            · by_cases h48_52 : k < 50
              · by_cases h48_50 : k < 49
                · obtain rfl : k = 48 := by omega
                  exact mk2_ok (m := (yX8_gaveNow, cX8_gaveNow, 1, (some .boolean), acX8_gaveNow, 8, 1)) rfl mkX8_gaveNow rfl h
                · obtain rfl : k = 49 := by omega
                  exact mk2_ok (m := (yX8_addOrder, cX8_addOrder, 4, none, acX8_addOrder, 8, 3)) rfl mkX8_addOrder rfl h
              · by_cases h50_52 : k < 51
                · obtain rfl : k = 50 := by omega
                  exact mk2_ok (m := (yX8_doDueOrders, cX8_doDueOrders, 2, none, acX8_doDueOrders, 8, 1)) rfl mkX8_doDueOrders rfl h
                · obtain rfl : k = 51 := by omega
                  exact mk2_ok (m := (yX8_laneIn, cX8_laneIn, 4, (some .int), acX8_laneIn, 8, 2)) rfl mkX8_laneIn rfl h
            · by_cases h52_56 : k < 54
              · by_cases h52_54 : k < 53
                · obtain rfl : k = 52 := by omega
                  exact mk2_ok (m := (yX8_eat, cX8_eat, 3, (some .boolean), acX8_eat, 8, 3)) rfl mkX8_eat rfl h
                · obtain rfl : k = 53 := by omega
                  exact mk2_ok (m := (yX9_init, cX9_init, 1, none, acX9_init, 9, 1)) rfl mkX9_init rfl h
              · by_cases h54_56 : k < 55
                · obtain rfl : k = 54 := by omega
                  exact mk2_ok (m := (yX9_append, cX9_append, 2, none, acX9_append, 9, 2)) rfl mkX9_append rfl h
                · obtain rfl : k = 55 := by omega
                  exact mk2_ok (m := (yX9_open, cX9_open, 2, none, acX9_open, 9, 2)) rfl mkX9_open rfl h
          · by_cases h56_64 : k < 60
            · by_cases h56_60 : k < 58
              · by_cases h56_58 : k < 57
                · obtain rfl : k = 56 := by omega
                  exact mk2_ok (m := (yX9_ended, cX9_ended, 1, (some .boolean), acX9_ended, 9, 1)) rfl mkX9_ended rfl h
                · obtain rfl : k = 57 := by omega
                  exact mk2_ok (m := (yX9_next, cX9_next, 1, (some .int), acX9_next, 9, 1)) rfl mkX9_next rfl h
              · by_cases h58_60 : k < 59
                · obtain rfl : k = 58 := by omega
                  exact mk2_ok (m := (yX9_take, cX9_take, 2, (some .boolean), acX9_take, 9, 2)) rfl mkX9_take rfl h
                · obtain rfl : k = 59 := by omega
                  exact mk2_ok (m := (yX9_takeNumber, cX9_takeNumber, 4, (some .int), acX9_takeNumber, 9, 2)) rfl mkX9_takeNumber rfl h
            · by_cases h60_64 : k < 62
              · by_cases h60_62 : k < 61
                · obtain rfl : k = 60 := by omega
                  exact mk2_ok (m := (yX9_faultAtEnd, cX9_faultAtEnd, 1, (some .int), acX9_faultAtEnd, 9, 1)) rfl mkX9_faultAtEnd rfl h
                · obtain rfl : k = 61 := by omega
                  exact mk2_ok (m := (yX10_init, cX10_init, 1, none, acX10_init, 10, 1)) rfl mkX10_init rfl h
              · by_cases h62_64 : k < 63
                · obtain rfl : k = 62 := by omega
                  exact mk2_ok (m := (yX10_sign, cX10_sign, 3, (some .int), acX10_sign, 10, 2)) rfl mkX10_sign rfl h
                · obtain rfl : k = 63 := by omega
                  exact mk2_ok (m := (yX10_end, cX10_end, 2, (some .boolean), acX10_end, 10, 2)) rfl mkX10_end rfl h
    · by_cases h64_128 : k < 96
      · by_cases h64_96 : k < 80
        · by_cases h64_80 : k < 72
          · by_cases h64_72 : k < 68
            · by_cases h64_68 : k < 66
              · by_cases h64_66 : k < 65
                · obtain rfl : k = 64 := by omega
                  exact mk2_ok (m := (yX10_ship, cX10_ship, 3, (some .int), acX10_ship, 10, 1)) rfl mkX10_ship rfl h
                · obtain rfl : k = 65 := by omega
                  exact mk2_ok (m := (yX10_rocks, cX10_rocks, 3, (some .int), acX10_rocks, 10, 1)) rfl mkX10_rocks rfl h
              · by_cases h66_68 : k < 67
                · obtain rfl : k = 66 := by omega
                  exact mk2_ok (m := (yX10_messes, cX10_messes, 3, (some .int), acX10_messes, 10, 1)) rfl mkX10_messes rfl h
                · obtain rfl : k = 67 := by omega
                  exact mk2_ok (m := (yX10_rule, cX10_rule, 3, (some .int), acX10_rule, 10, 1)) rfl mkX10_rule rfl h
            · by_cases h68_72 : k < 70
              · by_cases h68_70 : k < 69
                · obtain rfl : k = 68 := by omega
                  exact mk2_ok (m := (yX10_post, cX10_post, 3, (some .int), [], 10, 3)) rfl mkX10_post rfl h
                · obtain rfl : k = 69 := by omega
                  exact mk2_ok (m := (yX10_rock, cX10_rock, 3, (some .int), [], 10, 3)) rfl mkX10_rock rfl h
              · by_cases h70_72 : k < 71
                · obtain rfl : k = 70 := by omega
                  exact mk2_ok (m := (yX10_mess, cX10_mess, 3, (some .int), [], 10, 3)) rfl mkX10_mess rfl h
                · obtain rfl : k = 71 := by omega
                  exact mk2_ok (m := (yX10_way, cX10_way, 3, (some .int), [], 10, 3)) rfl mkX10_way rfl h
          · by_cases h72_80 : k < 76
            · by_cases h72_76 : k < 74
              · by_cases h72_74 : k < 73
                · obtain rfl : k = 72 := by omega
                  exact mk2_ok (m := (yX10_sheet, cX10_sheet, 8, (some .int), acX10_sheet, 10, 5)) rfl mkX10_sheet rfl h
                · obtain rfl : k = 73 := by omega
                  exact mk2_ok (m := (yX10_delay, cX10_delay, 1, (some .int), acX10_delay, 10, 1)) rfl mkX10_delay rfl h
              · by_cases h74_76 : k < 75
                · obtain rfl : k = 74 := by omega
                  exact mk2_ok (m := (yX10_order, cX10_order, 3, (some .int), acX10_order, 10, 2)) rfl mkX10_order rfl h
                · obtain rfl : k = 75 := by omega
                  exact mk2_ok (m := (yX10_pass, cX10_pass, 5, (some .int), acX10_pass, 10, 4)) rfl mkX10_pass rfl h
            · by_cases h76_80 : k < 78
              · by_cases h76_78 : k < 77
                · obtain rfl : k = 76 := by omega
                  exact mk2_ok (m := (yX10_cook, cX10_cook, 4, (some .int), acX10_cook, 10, 3)) rfl mkX10_cook rfl h
                · obtain rfl : k = 77 := by omega
                  exact mk2_ok (m := (yX10_steps, cX10_steps, 5, (some .int), acX10_steps, 10, 2)) rfl mkX10_steps rfl h
              · by_cases h78_80 : k < 79
                · obtain rfl : k = 78 := by omega
                  exact mk2_ok (m := (yX10_voyage, cX10_voyage, 5, (some .int), acX10_voyage, 10, 1)) rfl mkX10_voyage rfl h
                · obtain rfl : k = 79 := by omega
                  exact mk2_ok (m := (yX10_undo, cX10_undo, 1, (some .int), acX10_undo, 10, 1)) rfl mkX10_undo rfl h
        · by_cases h80_96 : k < 88
          · by_cases h80_88 : k < 84
            · by_cases h80_84 : k < 82
              · by_cases h80_82 : k < 81
                · obtain rfl : k = 80 := by omega
                  exact mk2_ok (m := (yX10_lane, cX10_lane, 5, (some .int), acX10_lane, 10, 2)) rfl mkX10_lane rfl h
                · obtain rfl : k = 81 := by omega
                  exact mk2_ok (m := (yX10_strikes, cX10_strikes, 5, (some .int), acX10_strikes, 10, 1)) rfl mkX10_strikes rfl h
              · by_cases h82_84 : k < 83
                · obtain rfl : k = 82 := by omega
                  exact mk2_ok (m := (yX10_clears, cX10_clears, 7, (some .int), acX10_clears, 10, 1)) rfl mkX10_clears rfl h
                · obtain rfl : k = 83 := by omega
                  exact mk2_ok (m := (yX10_plan, cX10_plan, 4, (some .int), acX10_plan, 10, 2)) rfl mkX10_plan rfl h
            · by_cases h84_88 : k < 86
              · by_cases h84_86 : k < 85
                · obtain rfl : k = 84 := by omega
                  exact mk2_ok (m := (yX10_latest, cX10_latest, 3, (some .int), acX10_latest, 10, 2)) rfl mkX10_latest rfl h
                · obtain rfl : k = 85 := by omega
                  exact mk2_ok (m := (yX10_lanes, cX10_lanes, 2, (some .int), acX10_lanes, 10, 2)) rfl mkX10_lanes rfl h
              · by_cases h86_88 : k < 87
                · obtain rfl : k = 86 := by omega
                  exact mk2_ok (m := (yX10_safest, cX10_safest, 7, (some .int), acX10_safest, 10, 2)) rfl mkX10_safest rfl h
                · obtain rfl : k = 87 := by omega
                  exact mk2_ok (m := (yX10_late, cX10_late, 4, (some .int), acX10_late, 10, 2)) rfl mkX10_late rfl h
          · by_cases h88_96 : k < 92
            · by_cases h88_92 : k < 90
              · by_cases h88_90 : k < 89
                · obtain rfl : k = 88 := by omega
                  exact mk2_ok (m := (yX10_comes, cX10_comes, 8, (some .int), acX10_comes, 10, 2)) rfl mkX10_comes rfl h
                · obtain rfl : k = 89 := by omega
                  exact mk2_ok (m := (yX10_relay, cX10_relay, 6, (some .int), acX10_relay, 10, 2)) rfl mkX10_relay rfl h
              · by_cases h90_92 : k < 91
                · obtain rfl : k = 90 := by omega
                  exact mk2_ok (m := (yX10_fewest, cX10_fewest, 2, (some .int), acX10_fewest, 10, 2)) rfl mkX10_fewest rfl h
                · obtain rfl : k = 91 := by omega
                  exact mk2_ok (m := (yX10_word, cX10_word, 3, (some .int), acX10_word, 10, 3)) rfl mkX10_word rfl h
            · by_cases h92_96 : k < 94
              · by_cases h92_94 : k < 93
                · obtain rfl : k = 92 := by omega
                  exact mk2_ok (m := (yX10_survives, cX10_survives, 4, (some .int), acX10_survives, 10, 3)) rfl mkX10_survives rfl h
                · obtain rfl : k = 93 := by omega
                  exact mk2_ok (m := (yX10_lives, cX10_lives, 8, (some .int), acX10_lives, 10, 2)) rfl mkX10_lives rfl h
              · by_cases h94_96 : k < 95
                · obtain rfl : k = 94 := by omega
                  exact mk2_ok (m := (yX10_shares, cX10_shares, 3, (some .int), acX10_shares, 10, 2)) rfl mkX10_shares rfl h
                · obtain rfl : k = 95 := by omega
                  exact mk2_ok (m := (yX10_fast, cX10_fast, 6, (some .int), acX10_fast, 10, 2)) rfl mkX10_fast rfl h
      · by_cases h96_128 : k < 112
        · by_cases h96_112 : k < 104
          · by_cases h96_104 : k < 100
            · by_cases h96_100 : k < 98
              · by_cases h96_98 : k < 97
                · obtain rfl : k = 96 := by omega
                  exact mk2_ok (m := (yX10_seen, cX10_seen, 3, (some .int), acX10_seen, 10, 3)) rfl mkX10_seen rfl h
                · obtain rfl : k = 97 := by omega
                  exact mk2_ok (m := (yX10_forget, cX10_forget, 2, (some .int), acX10_forget, 10, 1)) rfl mkX10_forget rfl h
              · by_cases h98_100 : k < 99
                · obtain rfl : k = 98 := by omega
                  exact mk2_ok (m := (yX10_ordered, cX10_ordered, 7, (some .int), acX10_ordered, 10, 1)) rfl mkX10_ordered rfl h
                · obtain rfl : k = 99 := by omega
                  exact mk2_ok (m := (yX10_unsure, cX10_unsure, 6, (some .int), acX10_unsure, 10, 1)) rfl mkX10_unsure rfl h
            · by_cases h100_104 : k < 102
              · by_cases h100_102 : k < 101
                · obtain rfl : k = 100 := by omega
                  exact mk2_ok (m := (yX10_boy, cX10_boy, 4, (some .int), acX10_boy, 10, 3)) rfl mkX10_boy rfl h
                · obtain rfl : k = 101 := by omega
                  exact mk2_ok (m := (yX10_meets, cX10_meets, 5, (some .int), acX10_meets, 10, 2)) rfl mkX10_meets rfl h
              · by_cases h102_104 : k < 103
                · obtain rfl : k = 102 := by omega
                  exact mk2_ok (m := (yX10_knows, cX10_knows, 3, (some .int), acX10_knows, 10, 3)) rfl mkX10_knows rfl h
                · obtain rfl : k = 103 := by omega
                  exact mk2_ok (m := (yX10_mutiny, cX10_mutiny, 7, (some .int), acX10_mutiny, 10, 4)) rfl mkX10_mutiny rfl h
          · by_cases h104_112 : k < 108
            · by_cases h104_108 : k < 106
              · by_cases h104_106 : k < 105
                · obtain rfl : k = 104 := by omega
                  exact mk2_ok (m := (yX10_chance, cX10_chance, 4, (some .int), acX10_chance, 10, 4)) rfl mkX10_chance rfl h
                · obtain rfl : k = 105 := by omega
                  exact mk2_ok (m := (yX10_voyages, cX10_voyages, 7, (some .int), acX10_voyages, 10, 3)) rfl mkX10_voyages rfl h
              · by_cases h106_108 : k < 107
                · obtain rfl : k = 106 := by omega
                  exact mk2_ok (m := (yX10_keep, cX10_keep, 2, (some .boolean), acX10_keep, 10, 2)) rfl mkX10_keep rfl h
                · obtain rfl : k = 107 := by omega
                  exact mk2_ok (m := (yX10_again, cX10_again, 2, (some .boolean), acX10_again, 10, 2)) rfl mkX10_again rfl h
            · by_cases h108_112 : k < 110
              · by_cases h108_110 : k < 109
                · obtain rfl : k = 108 := by omega
                  exact mk2_ok (m := (yX10_count, cX10_count, 2, (some .int), acX10_count, 10, 2)) rfl mkX10_count rfl h
                · obtain rfl : k = 109 := by omega
                  exact mk2_ok (m := (yX10_row, cX10_row, 2, (some .long), [], 10, 2)) rfl mkX10_row rfl h
              · by_cases h110_112 : k < 111
                · obtain rfl : k = 110 := by omega
                  exact mk2_ok (m := (yX10_isDigit, cX10_isDigit, 1, (some .boolean), acX10_isDigit, 10, 1)) rfl mkX10_isDigit rfl h
                · obtain rfl : k = 111 := by omega
                  exact mk2_ok (m := (yX10_readMesses, cX10_readMesses, 5, (some .int), acX10_readMesses, 10, 1)) rfl mkX10_readMesses rfl h
        · by_cases h112_128 : k < 120
          · by_cases h112_120 : k < 116
            · by_cases h112_116 : k < 114
              · by_cases h112_114 : k < 113
                · obtain rfl : k = 112 := by omega
                  exact mk2_ok (m := (yX10_voyageFault, cX10_voyageFault, 3, (some .int), acX10_voyageFault, 10, 1)) rfl mkX10_voyageFault rfl h
                · obtain rfl : k = 113 := by omega
                  exact mk2_ok (m := (yX10_doVoyageSign, cX10_doVoyageSign, 3, (some .boolean), acX10_doVoyageSign, 10, 1)) rfl mkX10_doVoyageSign rfl h
              · by_cases h114_116 : k < 115
                · obtain rfl : k = 114 := by omega
                  exact mk2_ok (m := (yX10_put, cX10_put, 3, (some .int), acX10_put, 10, 3)) rfl mkX10_put rfl h
                · obtain rfl : k = 115 := by omega
                  exact mk2_ok (m := (yX10_entry, cX10_entry, 2, (some .int), acX10_entry, 10, 2)) rfl mkX10_entry rfl h
            · by_cases h116_120 : k < 118
              · by_cases h116_118 : k < 117
                · obtain rfl : k = 116 := by omega
                  exact mk2_ok (m := (yX10_keepOnSea, cX10_keepOnSea, 1, (some .int), acX10_keepOnSea, 10, 1)) rfl mkX10_keepOnSea rfl h
                · obtain rfl : k = 117 := by omega
                  exact mk2_ok (m := (yX10_delayAt, cX10_delayAt, 3, (some .int), acX10_delayAt, 10, 2)) rfl mkX10_delayAt rfl h
              · by_cases h118_120 : k < 119
                · obtain rfl : k = 118 := by omega
                  exact mk2_ok (m := (yX10_orderRefusal, cX10_orderRefusal, 1, (some .int), acX10_orderRefusal, 10, 1)) rfl mkX10_orderRefusal rfl h
                · obtain rfl : k = 119 := by omega
                  exact mk2_ok (m := (yX10_giveOrder, cX10_giveOrder, 3, (some .int), acX10_giveOrder, 10, 2)) rfl mkX10_giveOrder rfl h
          · by_cases h120_128 : k < 124
            · by_cases h120_124 : k < 122
              · by_cases h120_122 : k < 121
                · obtain rfl : k = 120 := by omega
                  exact mk2_ok (m := (yX10_passRefusal, cX10_passRefusal, 5, (some .int), acX10_passRefusal, 10, 4)) rfl mkX10_passRefusal rfl h
                · obtain rfl : k = 121 := by omega
                  exact mk2_ok (m := (yX10_moveFood, cX10_moveFood, 5, none, acX10_moveFood, 10, 4)) rfl mkX10_moveFood rfl h
              · by_cases h122_124 : k < 123
                · obtain rfl : k = 122 := by omega
                  exact mk2_ok (m := (yX10_goStep, cX10_goStep, 3, (some .int), acX10_goStep, 10, 1)) rfl mkX10_goStep rfl h
                · obtain rfl : k = 123 := by omega
                  exact mk2_ok (m := (yX10_firstFree, cX10_firstFree, 1, (some .int), acX10_firstFree, 10, 1)) rfl mkX10_firstFree rfl h
            · by_cases h124_128 : k < 126
              · by_cases h124_126 : k < 125
                · obtain rfl : k = 124 := by omega
                  exact mk2_ok (m := (yX10_lookAhead, cX10_lookAhead, 3, none, acX10_lookAhead, 10, 1)) rfl mkX10_lookAhead rfl h
                · obtain rfl : k = 125 := by omega
                  exact mk2_ok (m := (yX10_rocksInLane, cX10_rocksInLane, 6, (some .int), acX10_rocksInLane, 10, 3)) rfl mkX10_rocksInLane rfl h
              · by_cases h126_128 : k < 127
                · obtain rfl : k = 126 := by omega
                  exact mk2_ok (m := (yX10_apart, cX10_apart, 2, (some .int), acX10_apart, 10, 2)) rfl mkX10_apart rfl h
                · obtain rfl : k = 127 := by omega
                  exact mk2_ok (m := (yX10_widened, cX10_widened, 1, (some .int), acX10_widened, 10, 1)) rfl mkX10_widened rfl h
  · by_cases h128_257 : k < 192
    · by_cases h128_192 : k < 160
      · by_cases h128_160 : k < 144
        · by_cases h128_144 : k < 136
          · by_cases h128_136 : k < 132
            · by_cases h128_132 : k < 130
              · by_cases h128_130 : k < 129
                · obtain rfl : k = 128 := by omega
                  exact mk2_ok (m := (yX10_power, cX10_power, 6, (some .long), acX10_power, 10, 2)) rfl mkX10_power rfl h
                · obtain rfl : k = 129 := by omega
                  exact mk2_ok (m := (yX10_likelyWord, cX10_likelyWord, 7, (some .long), acX10_likelyWord, 10, 2)) rfl mkX10_likelyWord rfl h
              · by_cases h130_132 : k < 131
                · obtain rfl : k = 130 := by omega
                  exact mk2_ok (m := (yX10_lastsFor, cX10_lastsFor, 6, (some .int), acX10_lastsFor, 10, 3)) rfl mkX10_lastsFor rfl h
                · obtain rfl : k = 131 := by omega
                  exact mk2_ok (m := (yX10_foodLeft, cX10_foodLeft, 5, (some .int), acX10_foodLeft, 10, 3)) rfl mkX10_foodLeft rfl h
            · by_cases h132_136 : k < 134
              · by_cases h132_134 : k < 133
                · obtain rfl : k = 132 := by omega
                  exact mk2_ok (m := (yX10_weighPassing, cX10_weighPassing, 3, none, acX10_weighPassing, 10, 1)) rfl mkX10_weighPassing rfl h
                · obtain rfl : k = 133 := by omega
                  exact mk2_ok (m := (yX10_leastPassing, cX10_leastPassing, 5, (some .int), acX10_leastPassing, 10, 3)) rfl mkX10_leastPassing rfl h
              · by_cases h134_136 : k < 135
                · obtain rfl : k = 134 := by omega
                  exact mk2_ok (m := (yX10_choosePassing, cX10_choosePassing, 7, (some .int), acX10_choosePassing, 10, 1)) rfl mkX10_choosePassing rfl h
                · obtain rfl : k = 135 := by omega
                  exact mk2_ok (m := (yX10_lap, cX10_lap, 1, (some .int), acX10_lap, 10, 1)) rfl mkX10_lap rfl h
          · by_cases h136_144 : k < 140
            · by_cases h136_140 : k < 138
              · by_cases h136_138 : k < 137
                · obtain rfl : k = 136 := by omega
                  exact mk2_ok (m := (yX10_cellAfter, cX10_cellAfter, 3, (some .int), acX10_cellAfter, 10, 2)) rfl mkX10_cellAfter rfl h
                · obtain rfl : k = 137 := by omega
                  exact mk2_ok (m := (yX10_holdsThen, cX10_holdsThen, 4, (some .int), acX10_holdsThen, 10, 4)) rfl mkX10_holdsThen rfl h
              · by_cases h138_140 : k < 139
                · obtain rfl : k = 138 := by omega
                  exact mk2_ok (m := (yX10_wantsAnother, cX10_wantsAnother, 6, (some .boolean), acX10_wantsAnother, 10, 4)) rfl mkX10_wantsAnother rfl h
                · obtain rfl : k = 139 := by omega
                  exact mk2_ok (m := (yX11_init, cX11_init, 1, none, acX11_init, 11, 1)) rfl mkX11_init rfl h
            · by_cases h140_144 : k < 142
              · by_cases h140_142 : k < 141
                · obtain rfl : k = 140 := by omega
                  exact mk2_ok (m := (yX11_thrown, cX11_thrown, 1, (some .int), acX11_thrown, 11, 1)) rfl mkX11_thrown rfl h
                · obtain rfl : k = 141 := by omega
                  exact mk2_ok (m := (yX11_refuse, cX11_refuse, 1, (some .int), acX11_refuse, 11, 1)) rfl mkX11_refuse rfl h
              · by_cases h142_144 : k < 143
                · obtain rfl : k = 142 := by omega
                  exact mk2_ok (m := (yX11_in, cX11_in, 6, (some .boolean), acX11_in, 11, 3)) rfl mkX11_in rfl h
                · obtain rfl : k = 143 := by omega
                  exact mk2_ok (m := (yX11_has, cX11_has, 2, (some .boolean), acX11_has, 11, 2)) rfl mkX11_has rfl h
        · by_cases h144_160 : k < 152
          · by_cases h144_152 : k < 148
            · by_cases h144_148 : k < 146
              · by_cases h144_146 : k < 145
                · obtain rfl : k = 144 := by omega
                  exact mk2_ok (m := (yX11_flag, cX11_flag, 1, (some .int), acX11_flag, 11, 1)) rfl mkX11_flag rfl h
                · obtain rfl : k = 145 := by omega
                  exact mk2_ok (m := (yX11_common, cX11_common, 4, (some .long), acX11_common, 11, 2)) rfl mkX11_common rfl h
              · by_cases h146_148 : k < 147
                · obtain rfl : k = 146 := by omega
                  exact mk2_ok (m := (yX11_enters, cX11_enters, 3, none, acX11_enters, 11, 2)) rfl mkX11_enters rfl h
                · obtain rfl : k = 147 := by omega
                  exact mk2_ok (m := (yX11_tellsFraction, cX11_tellsFraction, 7, none, acX11_tellsFraction, 11, 3)) rfl mkX11_tellsFraction rfl h
            · by_cases h148_152 : k < 150
              · by_cases h148_150 : k < 149
                · obtain rfl : k = 148 := by omega
                  exact mk2_ok (m := (yX11_isMess, cX11_isMess, 2, (some .boolean), acX11_isMess, 11, 2)) rfl mkX11_isMess rfl h
                · obtain rfl : k = 149 := by omega
                  exact mk2_ok (m := (yX11_sign, cX11_sign, 3, (some .int), acX11_sign, 11, 2)) rfl mkX11_sign rfl h
              · by_cases h150_152 : k < 151
                · obtain rfl : k = 150 := by omega
                  exact mk2_ok (m := (yX11_end, cX11_end, 2, (some .boolean), acX11_end, 11, 2)) rfl mkX11_end rfl h
                · obtain rfl : k = 151 := by omega
                  exact mk2_ok (m := (yX11_begins, cX11_begins, 3, (some .int), acX11_begins, 11, 2)) rfl mkX11_begins rfl h
          · by_cases h152_160 : k < 156
            · by_cases h152_156 : k < 154
              · by_cases h152_154 : k < 153
                · obtain rfl : k = 152 := by omega
                  exact mk2_ok (m := (yX11_takes, cX11_takes, 3, (some .boolean), acX11_takes, 11, 2)) rfl mkX11_takes rfl h
                · obtain rfl : k = 153 := by omega
                  exact mk2_ok (m := (yX11_isDigit, cX11_isDigit, 1, (some .boolean), acX11_isDigit, 11, 1)) rfl mkX11_isDigit rfl h
              · by_cases h154_156 : k < 155
                · obtain rfl : k = 154 := by omega
                  exact mk2_ok (m := (yX11_among, cX11_among, 3, (some .int), acX11_among, 11, 2)) rfl mkX11_among rfl h
                · obtain rfl : k = 155 := by omega
                  exact mk2_ok (m := (yX11_takesOf, cX11_takesOf, 3, (some .int), acX11_takesOf, 11, 2)) rfl mkX11_takesOf rfl h
            · by_cases h156_160 : k < 158
              · by_cases h156_158 : k < 157
                · obtain rfl : k = 156 := by omega
                  exact mk2_ok (m := (yX11_number, cX11_number, 4, (some .int), acX11_number, 11, 2)) rfl mkX11_number rfl h
                · obtain rfl : k = 157 := by omega
                  exact mk2_ok (m := (yX11_numberIn, cX11_numberIn, 5, (some .int), acX11_numberIn, 11, 4)) rfl mkX11_numberIn rfl h
              · by_cases h158_160 : k < 159
                · obtain rfl : k = 158 := by omega
                  exact mk2_ok (m := (yX11_faultOf, cX11_faultOf, 5, (some .int), acX11_faultOf, 11, 4)) rfl mkX11_faultOf rfl h
                · obtain rfl : k = 159 := by omega
                  exact mk2_ok (m := (yX11_ship, cX11_ship, 7, (some .int), acX11_ship, 11, 1)) rfl mkX11_ship rfl h
      · by_cases h160_192 : k < 176
        · by_cases h160_176 : k < 168
          · by_cases h160_168 : k < 164
            · by_cases h160_164 : k < 162
              · by_cases h160_162 : k < 161
                · obtain rfl : k = 160 := by omega
                  exact mk2_ok (m := (yX11_readsRock, cX11_readsRock, 2, (some .boolean), acX11_readsRock, 11, 1)) rfl mkX11_readsRock rfl h
                · obtain rfl : k = 161 := by omega
                  exact mk2_ok (m := (yX11_readsMess, cX11_readsMess, 2, (some .boolean), acX11_readsMess, 11, 1)) rfl mkX11_readsMess rfl h
              · by_cases h162_164 : k < 163
                · obtain rfl : k = 162 := by omega
                  exact mk2_ok (m := (yX11_rocks, cX11_rocks, 6, (some .int), acX11_rocks, 11, 1)) rfl mkX11_rocks rfl h
                · obtain rfl : k = 163 := by omega
                  exact mk2_ok (m := (yX11_messes, cX11_messes, 6, (some .int), acX11_messes, 11, 1)) rfl mkX11_messes rfl h
            · by_cases h164_168 : k < 166
              · by_cases h164_166 : k < 165
                · obtain rfl : k = 164 := by omega
                  exact mk2_ok (m := (yX11_codes, cX11_codes, 2, none, acX11_codes, 11, 2)) rfl mkX11_codes rfl h
                · obtain rfl : k = 165 := by omega
                  exact mk2_ok (m := (yX11_readsThing, cX11_readsThing, 2, (some .boolean), acX11_readsThing, 11, 1)) rfl mkX11_readsThing rfl h
              · by_cases h166_168 : k < 167
                · obtain rfl : k = 166 := by omega
                  exact mk2_ok (m := (yX11_readsRank, cX11_readsRank, 4, (some .boolean), acX11_readsRank, 11, 2)) rfl mkX11_readsRank rfl h
                · obtain rfl : k = 167 := by omega
                  exact mk2_ok (m := (yX11_rule, cX11_rule, 5, (some .int), acX11_rule, 11, 1)) rfl mkX11_rule rfl h
          · by_cases h168_176 : k < 172
            · by_cases h168_172 : k < 170
              · by_cases h168_170 : k < 169
                · obtain rfl : k = 168 := by omega
                  exact mk2_ok (m := (yX11_worked, cX11_worked, 3, (some .int), acX11_worked, 11, 3)) rfl mkX11_worked rfl h
                · obtain rfl : k = 169 := by omega
                  exact mk2_ok (m := (yX11_ruled, cX11_ruled, 4, (some .int), acX11_ruled, 11, 1)) rfl mkX11_ruled rfl h
              · by_cases h170_172 : k < 171
                · obtain rfl : k = 170 := by omega
                  exact mk2_ok (m := (yX11_delayAt, cX11_delayAt, 2, (some .int), acX11_delayAt, 11, 2)) rfl mkX11_delayAt rfl h
                · obtain rfl : k = 171 := by omega
                  exact mk2_ok (m := (yX11_turned, cX11_turned, 2, (some .int), acX11_turned, 11, 2)) rfl mkX11_turned rfl h
            · by_cases h172_176 : k < 174
              · by_cases h172_174 : k < 173
                · obtain rfl : k = 172 := by omega
                  exact mk2_ok (m := (yX11_post, cX11_post, 3, (some .int), acX11_post, 11, 3)) rfl mkX11_post rfl h
                · obtain rfl : k = 173 := by omega
                  exact mk2_ok (m := (yX11_rock, cX11_rock, 3, (some .int), acX11_rock, 11, 3)) rfl mkX11_rock rfl h
              · by_cases h174_176 : k < 175
                · obtain rfl : k = 174 := by omega
                  exact mk2_ok (m := (yX11_mess, cX11_mess, 3, (some .int), acX11_mess, 11, 3)) rfl mkX11_mess rfl h
                · obtain rfl : k = 175 := by omega
                  exact mk2_ok (m := (yX11_isAhead, cX11_isAhead, 5, (some .boolean), acX11_isAhead, 11, 3)) rfl mkX11_isAhead rfl h
        · by_cases h176_192 : k < 184
          · by_cases h176_184 : k < 180
            · by_cases h176_180 : k < 178
              · by_cases h176_178 : k < 177
                · obtain rfl : k = 176 := by omega
                  exact mk2_ok (m := (yX11_way, cX11_way, 7, (some .int), acX11_way, 11, 3)) rfl mkX11_way rfl h
                · obtain rfl : k = 177 := by omega
                  exact mk2_ok (m := (yX11_sheet, cX11_sheet, 9, (some .int), acX11_sheet, 11, 5)) rfl mkX11_sheet rfl h
              · by_cases h178_180 : k < 179
                · obtain rfl : k = 178 := by omega
                  exact mk2_ok (m := (yX11_putsBy, cX11_putsBy, 2, none, acX11_putsBy, 11, 1)) rfl mkX11_putsBy rfl h
                · obtain rfl : k = 179 := by omega
                  exact mk2_ok (m := (yX11_adds, cX11_adds, 3, (some .int), acX11_adds, 11, 2)) rfl mkX11_adds rfl h
            · by_cases h180_184 : k < 182
              · by_cases h180_182 : k < 181
                · obtain rfl : k = 180 := by omega
                  exact mk2_ok (m := (yX11_counts, cX11_counts, 2, (some .int), acX11_counts, 11, 2)) rfl mkX11_counts rfl h
                · obtain rfl : k = 181 := by omega
                  exact mk2_ok (m := (yX11_undo, cX11_undo, 2, (some .int), acX11_undo, 11, 1)) rfl mkX11_undo rfl h
              · by_cases h182_184 : k < 183
                · obtain rfl : k = 182 := by omega
                  exact mk2_ok (m := (yX11_put, cX11_put, 1, (some .int), acX11_put, 11, 1)) rfl mkX11_put rfl h
                · obtain rfl : k = 183 := by omega
                  exact mk2_ok (m := (yX11_doesDue, cX11_doesDue, 5, none, acX11_doesDue, 11, 1)) rfl mkX11_doesDue rfl h
          · by_cases h184_192 : k < 188
            · by_cases h184_188 : k < 186
              · by_cases h184_186 : k < 185
                · obtain rfl : k = 184 := by omega
                  exact mk2_ok (m := (yX11_hitsAt, cX11_hitsAt, 5, (some .int), acX11_hitsAt, 11, 3)) rfl mkX11_hitsAt rfl h
                · obtain rfl : k = 185 := by omega
                  exact mk2_ok (m := (yX11_stepGoes, cX11_stepGoes, 5, none, acX11_stepGoes, 11, 2)) rfl mkX11_stepGoes rfl h
              · by_cases h186_188 : k < 187
                · obtain rfl : k = 186 := by omega
                  exact mk2_ok (m := (yX11_gives, cX11_gives, 5, (some .int), acX11_gives, 11, 3)) rfl mkX11_gives rfl h
                · obtain rfl : k = 187 := by omega
                  exact mk2_ok (m := (yX11_passes, cX11_passes, 5, (some .int), acX11_passes, 11, 4)) rfl mkX11_passes rfl h
            · by_cases h188_192 : k < 190
              · by_cases h188_190 : k < 189
                · obtain rfl : k = 188 := by omega
                  exact mk2_ok (m := (yX11_cooks, cX11_cooks, 4, (some .int), acX11_cooks, 11, 3)) rfl mkX11_cooks rfl h
                · obtain rfl : k = 189 := by omega
                  exact mk2_ok (m := (yX11_delay, cX11_delay, 1, (some .int), acX11_delay, 11, 1)) rfl mkX11_delay rfl h
              · by_cases h190_192 : k < 191
                · obtain rfl : k = 190 := by omega
                  exact mk2_ok (m := (yX11_order, cX11_order, 2, (some .int), acX11_order, 11, 2)) rfl mkX11_order rfl h
                · obtain rfl : k = 191 := by omega
                  exact mk2_ok (m := (yX11_pass, cX11_pass, 4, (some .int), acX11_pass, 11, 4)) rfl mkX11_pass rfl h
    · by_cases h192_257 : k < 224
      · by_cases h192_224 : k < 208
        · by_cases h192_208 : k < 200
          · by_cases h192_200 : k < 196
            · by_cases h192_196 : k < 194
              · by_cases h192_194 : k < 193
                · obtain rfl : k = 192 := by omega
                  exact mk2_ok (m := (yX11_cook, cX11_cook, 3, (some .int), acX11_cook, 11, 3)) rfl mkX11_cook rfl h
                · obtain rfl : k = 193 := by omega
                  exact mk2_ok (m := (yX11_startsCounting, cX11_startsCounting, 1, none, acX11_startsCounting, 11, 1)) rfl mkX11_startsCounting rfl h
              · by_cases h194_196 : k < 195
                · obtain rfl : k = 194 := by omega
                  exact mk2_ok (m := (yX11_steps, cX11_steps, 3, (some .int), acX11_steps, 11, 2)) rfl mkX11_steps rfl h
                · obtain rfl : k = 195 := by omega
                  exact mk2_ok (m := (yX11_readsAct, cX11_readsAct, 3, (some .boolean), acX11_readsAct, 11, 1)) rfl mkX11_readsAct rfl h
            · by_cases h196_200 : k < 198
              · by_cases h196_198 : k < 197
                · obtain rfl : k = 196 := by omega
                  exact mk2_ok (m := (yX11_does, cX11_does, 3, (some .boolean), acX11_does, 11, 2)) rfl mkX11_does rfl h
                · obtain rfl : k = 197 := by omega
                  exact mk2_ok (m := (yX11_voyage, cX11_voyage, 5, (some .int), acX11_voyage, 11, 1)) rfl mkX11_voyage rfl h
              · by_cases h198_200 : k < 199
                · obtain rfl : k = 198 := by omega
                  exact mk2_ok (m := (yX11_puts, cX11_puts, 2, none, acX11_puts, 11, 1)) rfl mkX11_puts rfl h
                · obtain rfl : k = 199 := by omega
                  exact mk2_ok (m := (yX11_lane, cX11_lane, 3, (some .int), acX11_lane, 11, 2)) rfl mkX11_lane rfl h
          · by_cases h200_208 : k < 204
            · by_cases h200_204 : k < 202
              · by_cases h200_202 : k < 201
                · obtain rfl : k = 200 := by omega
                  exact mk2_ok (m := (yX11_strikes, cX11_strikes, 3, (some .int), acX11_strikes, 11, 1)) rfl mkX11_strikes rfl h
                · obtain rfl : k = 201 := by omega
                  exact mk2_ok (m := (yX11_moved, cX11_moved, 4, (some .int), acX11_moved, 11, 2)) rfl mkX11_moved rfl h
              · by_cases h202_204 : k < 203
                · obtain rfl : k = 202 := by omega
                  exact mk2_ok (m := (yX11_movedByDue, cX11_movedByDue, 6, (some .int), acX11_movedByDue, 11, 3)) rfl mkX11_movedByDue rfl h
                · obtain rfl : k = 203 := by omega
                  exact mk2_ok (m := (yX11_mayGive, cX11_mayGive, 2, (some .boolean), acX11_mayGive, 11, 2)) rfl mkX11_mayGive rfl h
            · by_cases h204_208 : k < 206
              · by_cases h204_206 : k < 205
                · obtain rfl : k = 204 := by omega
                  exact mk2_ok (m := (yX11_comesAt, cX11_comesAt, 3, (some .boolean), acX11_comesAt, 11, 3)) rfl mkX11_comesAt rfl h
                · obtain rfl : k = 205 := by omega
                  exact mk2_ok (m := (yX11_clears, cX11_clears, 8, (some .int), acX11_clears, 11, 1)) rfl mkX11_clears rfl h
              · by_cases h206_208 : k < 207
                · obtain rfl : k = 206 := by omega
                  exact mk2_ok (m := (yX11_goesBy, cX11_goesBy, 6, none, acX11_goesBy, 11, 3)) rfl mkX11_goesBy rfl h
                · obtain rfl : k = 207 := by omega
                  exact mk2_ok (m := (yX11_laysLeast, cX11_laysLeast, 5, none, acX11_laysLeast, 11, 2)) rfl mkX11_laysLeast rfl h
        · by_cases h208_224 : k < 216
          · by_cases h208_216 : k < 212
            · by_cases h208_212 : k < 210
              · by_cases h208_210 : k < 209
                · obtain rfl : k = 208 := by omega
                  exact mk2_ok (m := (yX11_fewestOrders, cX11_fewestOrders, 4, (some .int), acX11_fewestOrders, 11, 2)) rfl mkX11_fewestOrders rfl h
                · obtain rfl : k = 209 := by omega
                  exact mk2_ok (m := (yX11_choosesAny, cX11_choosesAny, 3, none, acX11_choosesAny, 11, 2)) rfl mkX11_choosesAny rfl h
              · by_cases h210_212 : k < 211
                · obtain rfl : k = 210 := by omega
                  exact mk2_ok (m := (yX11_plan, cX11_plan, 8, (some .int), acX11_plan, 11, 2)) rfl mkX11_plan rfl h
                · obtain rfl : k = 211 := by omega
                  exact mk2_ok (m := (yX11_latest, cX11_latest, 3, (some .int), acX11_latest, 11, 2)) rfl mkX11_latest rfl h
            · by_cases h212_216 : k < 214
              · by_cases h212_214 : k < 213
                · obtain rfl : k = 212 := by omega
                  exact mk2_ok (m := (yX11_lanes, cX11_lanes, 4, (some .int), acX11_lanes, 11, 2)) rfl mkX11_lanes rfl h
                · obtain rfl : k = 213 := by omega
                  exact mk2_ok (m := (yX11_rocksIn, cX11_rocksIn, 5, (some .int), acX11_rocksIn, 11, 3)) rfl mkX11_rocksIn rfl h
              · by_cases h214_216 : k < 215
                · obtain rfl : k = 214 := by omega
                  exact mk2_ok (m := (yX11_safest, cX11_safest, 6, (some .int), acX11_safest, 11, 2)) rfl mkX11_safest rfl h
                · obtain rfl : k = 215 := by omega
                  exact mk2_ok (m := (yX11_late, cX11_late, 7, (some .int), acX11_late, 11, 2)) rfl mkX11_late rfl h
          · by_cases h216_224 : k < 220
            · by_cases h216_220 : k < 218
              · by_cases h216_218 : k < 217
                · obtain rfl : k = 216 := by omega
                  exact mk2_ok (m := (yX11_comes, cX11_comes, 6, (some .int), acX11_comes, 11, 2)) rfl mkX11_comes rfl h
                · obtain rfl : k = 217 := by omega
                  exact mk2_ok (m := (yX11_postsFor, cX11_postsFor, 2, (some .int), acX11_postsFor, 11, 2)) rfl mkX11_postsFor rfl h
              · by_cases h218_220 : k < 219
                · obtain rfl : k = 218 := by omega
                  exact mk2_ok (m := (yX11_relay, cX11_relay, 5, (some .int), acX11_relay, 11, 2)) rfl mkX11_relay rfl h
                · obtain rfl : k = 219 := by omega
                  exact mk2_ok (m := (yX11_fewest, cX11_fewest, 2, (some .int), acX11_fewest, 11, 2)) rfl mkX11_fewest rfl h
            · by_cases h220_224 : k < 222
              · by_cases h220_222 : k < 221
                · obtain rfl : k = 220 := by omega
                  exact mk2_ok (m := (yX11_bets, cX11_bets, 7, none, acX11_bets, 11, 3)) rfl mkX11_bets rfl h
                · obtain rfl : k = 221 := by omega
                  exact mk2_ok (m := (yX11_word, cX11_word, 3, (some .int), acX11_word, 11, 3)) rfl mkX11_word rfl h
              · by_cases h222_224 : k < 223
                · obtain rfl : k = 222 := by omega
                  exact mk2_ok (m := (yX11_survives, cX11_survives, 4, (some .int), acX11_survives, 11, 3)) rfl mkX11_survives rfl h
                · obtain rfl : k = 223 := by omega
                  exact mk2_ok (m := (yX11_lastsFor, cX11_lastsFor, 6, (some .int), acX11_lastsFor, 11, 3)) rfl mkX11_lastsFor rfl h
      · by_cases h224_257 : k < 240
        · by_cases h224_240 : k < 232
          · by_cases h224_232 : k < 228
            · by_cases h224_228 : k < 226
              · by_cases h224_226 : k < 225
                · obtain rfl : k = 224 := by omega
                  exact mk2_ok (m := (yX11_lives, cX11_lives, 6, (some .int), acX11_lives, 11, 2)) rfl mkX11_lives rfl h
                · obtain rfl : k = 225 := by omega
                  exact mk2_ok (m := (yX11_spare, cX11_spare, 3, (some .int), acX11_spare, 11, 3)) rfl mkX11_spare rfl h
              · by_cases h226_228 : k < 227
                · obtain rfl : k = 226 := by omega
                  exact mk2_ok (m := (yX11_laysFlows, cX11_laysFlows, 6, none, acX11_laysFlows, 11, 2)) rfl mkX11_laysFlows rfl h
                · obtain rfl : k = 227 := by omega
                  exact mk2_ok (m := (yX11_flow, cX11_flow, 3, (some .int), acX11_flow, 11, 3)) rfl mkX11_flow rfl h
            · by_cases h228_232 : k < 230
              · by_cases h228_230 : k < 229
                · obtain rfl : k = 228 := by omega
                  exact mk2_ok (m := (yX11_shares, cX11_shares, 6, (some .int), acX11_shares, 11, 2)) rfl mkX11_shares rfl h
                · obtain rfl : k = 229 := by omega
                  exact mk2_ok (m := (yX11_fast, cX11_fast, 8, (some .int), acX11_fast, 11, 2)) rfl mkX11_fast rfl h
              · by_cases h230_232 : k < 231
                · obtain rfl : k = 230 := by omega
                  exact mk2_ok (m := (yX11_seenIn, cX11_seenIn, 4, (some .int), acX11_seenIn, 11, 2)) rfl mkX11_seenIn rfl h
                · obtain rfl : k = 231 := by omega
                  exact mk2_ok (m := (yX11_seen, cX11_seen, 4, (some .int), acX11_seen, 11, 3)) rfl mkX11_seen rfl h
          · by_cases h232_240 : k < 236
            · by_cases h232_236 : k < 234
              · by_cases h232_234 : k < 233
                · obtain rfl : k = 232 := by omega
                  exact mk2_ok (m := (yX11_forget, cX11_forget, 2, (some .int), acX11_forget, 11, 1)) rfl mkX11_forget rfl h
                · obtain rfl : k = 233 := by omega
                  exact mk2_ok (m := (yX11_lastSeen, cX11_lastSeen, 3, (some .int), acX11_lastSeen, 11, 1)) rfl mkX11_lastSeen rfl h
              · by_cases h234_236 : k < 235
                · obtain rfl : k = 234 := by omega
                  exact mk2_ok (m := (yX11_isFine, cX11_isFine, 3, (some .boolean), acX11_isFine, 11, 3)) rfl mkX11_isFine rfl h
                · obtain rfl : k = 235 := by omega
                  exact mk2_ok (m := (yX11_laysSeen, cX11_laysSeen, 6, none, acX11_laysSeen, 11, 2)) rfl mkX11_laysSeen rfl h
            · by_cases h236_240 : k < 238
              · by_cases h236_238 : k < 237
                · obtain rfl : k = 236 := by omega
                  exact mk2_ok (m := (yX11_ordered, cX11_ordered, 5, (some .int), acX11_ordered, 11, 1)) rfl mkX11_ordered rfl h
                · obtain rfl : k = 237 := by omega
                  exact mk2_ok (m := (yX11_unsure, cX11_unsure, 9, (some .int), acX11_unsure, 11, 1)) rfl mkX11_unsure rfl h
              · by_cases h238_240 : k < 239
                · obtain rfl : k = 238 := by omega
                  exact mk2_ok (m := (yX11_boyBegins, cX11_boyBegins, 3, none, acX11_boyBegins, 11, 3)) rfl mkX11_boyBegins rfl h
                · obtain rfl : k = 239 := by omega
                  exact mk2_ok (m := (yX11_boyGoes, cX11_boyGoes, 1, none, acX11_boyGoes, 11, 1)) rfl mkX11_boyGoes rfl h
        · by_cases h240_257 : k < 248
          · by_cases h240_248 : k < 244
            · by_cases h240_244 : k < 242
              · by_cases h240_242 : k < 241
                · obtain rfl : k = 240 := by omega
                  exact mk2_ok (m := (yX11_canRest, cX11_canRest, 1, (some .boolean), acX11_canRest, 11, 1)) rfl mkX11_canRest rfl h
                · obtain rfl : k = 241 := by omega
                  exact mk2_ok (m := (yX11_boy, cX11_boy, 4, (some .int), acX11_boy, 11, 3)) rfl mkX11_boy rfl h
              · by_cases h242_244 : k < 243
                · obtain rfl : k = 242 := by omega
                  exact mk2_ok (m := (yX11_meets, cX11_meets, 5, (some .int), acX11_meets, 11, 2)) rfl mkX11_meets rfl h
                · obtain rfl : k = 243 := by omega
                  exact mk2_ok (m := (yX11_knows, cX11_knows, 8, (some .int), acX11_knows, 11, 3)) rfl mkX11_knows rfl h
            · by_cases h244_248 : k < 246
              · by_cases h244_246 : k < 245
                · obtain rfl : k = 244 := by omega
                  exact mk2_ok (m := (yX11_keeps, cX11_keeps, 4, (some .int), acX11_keeps, 11, 4)) rfl mkX11_keeps rfl h
                · obtain rfl : k = 245 := by omega
                  exact mk2_ok (m := (yX11_isRest, cX11_isRest, 6, (some .boolean), acX11_isRest, 11, 4)) rfl mkX11_isRest rfl h
              · by_cases h246_248 : k < 247
                · obtain rfl : k = 246 := by omega
                  exact mk2_ok (m := (yX11_mutiny, cX11_mutiny, 7, (some .int), acX11_mutiny, 11, 4)) rfl mkX11_mutiny rfl h
                · obtain rfl : k = 247 := by omega
                  exact mk2_ok (m := (yX11_chance, cX11_chance, 9, (some .int), acX11_chance, 11, 4)) rfl mkX11_chance rfl h
          · by_cases h248_257 : k < 252
            · by_cases h248_252 : k < 250
              · by_cases h248_250 : k < 249
                · obtain rfl : k = 248 := by omega
                  exact mk2_ok (m := (yX11_voyages, cX11_voyages, 7, (some .int), acX11_voyages, 11, 3)) rfl mkX11_voyages rfl h
                · obtain rfl : k = 249 := by omega
                  exact mk2_ok (m := (yX11_keep, cX11_keep, 3, (some .boolean), acX11_keep, 11, 2)) rfl mkX11_keep rfl h
              · by_cases h250_252 : k < 251
                · obtain rfl : k = 250 := by omega
                  exact mk2_ok (m := (yX11_again, cX11_again, 3, (some .boolean), acX11_again, 11, 2)) rfl mkX11_again rfl h
                · obtain rfl : k = 251 := by omega
                  exact mk2_ok (m := (yX11_count, cX11_count, 2, (some .int), acX11_count, 11, 2)) rfl mkX11_count rfl h
            · by_cases h252_257 : k < 254
              · by_cases h252_254 : k < 253
                · obtain rfl : k = 252 := by omega
                  exact mk2_ok (m := (yX11_row, cX11_row, 2, (some .long), acX11_row, 11, 2)) rfl mkX11_row rfl h
                · obtain rfl : k = 253 := by omega
                  exact mk2_ok (m := (yJ6_bitCount_0f7a4, cJ6_bitCount_0f7a4, 1, (some .int), acJ6_bitCount_0f7a4, 12, 1)) rfl mkJ6_bitCount_0f7a4 rfl h
              · by_cases h254_257 : k < 255
                · obtain rfl : k = 254 := by omega
                  exact mk2_ok (m := (yJ0_length_8abf5, cJ0_length_8abf5, 1, (some .int), [], 12, 1)) rfl mkJ0_length_8abf5 rfl h
                · by_cases h255_257 : k < 256
                  · obtain rfl : k = 255 := by omega
                    exact mk2_ok (m := (yJ0_charAt_5068e, cJ0_charAt_5068e, 2, (some .char), [], 12, 2)) rfl mkJ0_charAt_5068e rfl h
                  · obtain rfl : k = 256 := by omega
                    exact mk2_ok (m := (yJ7_fill_53178, cJ7_fill_53178, 4, none, acJ7_fill_53178, 12, 2)) rfl mkJ7_fill_53178 rfl h
