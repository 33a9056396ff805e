/-! ROWS IN ORDER, 2 -/
set_option maxRecDepth 100000 in
theorem okX11_thrown : (match mtab[140]? with
  | some mi => acokB mi [[], [5037]]
  | none => false) = true := by decide +kernel
set_option maxRecDepth 100000 in
theorem okX11_refuse : (match mtab[141]? with
  | some mi => acokB mi [[], [], [5037]]
  | none => false) = true := by decide +kernel
set_option maxRecDepth 100000 in
theorem okX11_in : (match mtab[142]? with
  | some mi => acokB mi []
  | none => false) = true := by decide +kernel
set_option maxRecDepth 100000 in
theorem okX11_has : (match mtab[143]? with
  | some mi => acokB mi []
  | none => false) = true := by decide +kernel
set_option maxRecDepth 100000 in
theorem okX11_flag : (match mtab[144]? with
  | some mi => acokB mi []
  | none => false) = true := by decide +kernel
set_option maxRecDepth 100000 in
theorem okX11_common : (match mtab[145]? with
  | some mi => acokB mi [[], [], [], [], [], [], [], [], [], [], [7106, 7107]]
  | none => false) = true := by decide +kernel
set_option maxRecDepth 100000 in
theorem okX11_enters : (match mtab[146]? with
  | some mi => acokB mi [[], [5039], [], [5038], [], [], [], [], [5038], [], [], [5038]]
  | none => false) = true := by decide +kernel
set_option maxRecDepth 100000 in
theorem okX11_tellsFraction : (match mtab[147]? with
  | some mi => acokB mi [[], [], [7106, 7107], [], [], [], [5038], [], [], [], [], [6219, 6221, 60], [], [], [], [], [6219, 6221, 60]]
  | none => false) = true := by decide +kernel
set_option maxRecDepth 100000 in
theorem okX11_isMess : (match mtab[148]? with
  | some mi => acokB mi [[], [], [], [], [5044], [], [], [], [5209, 5210]]
  | none => false) = true := by decide +kernel
set_option maxRecDepth 100000 in
theorem okX11_sign : (match mtab[149]? with
  | some mi => acokB mi [[], [], [5037], [], [5054], [], [], [], [], [], [], [], [], [], [], [5053], [], [5054], [], [], [], [], [], [], [], [], [], [], [], [], [], [], [], [], [5054], [], [], [5054], [], [5054]]
  | none => false) = true := by decide +kernel
set_option maxRecDepth 100000 in
theorem okX11_end : (match mtab[150]? with
  | some mi => acokB mi [[], [], [5037], [], [], [], [], [5054], [], [5209, 5210], [], [], [], [], [], [5054]]
  | none => false) = true := by decide +kernel
set_option maxRecDepth 100000 in
theorem okX11_begins : (match mtab[151]? with
  | some mi => acokB mi [[], [5054], [], [], [], [5054], [], [], [5055], [], [], [5057], [], [], [], [5220], [5056]]
  | none => false) = true := by decide +kernel
set_option maxRecDepth 100000 in
theorem okX11_takes : (match mtab[152]? with
  | some mi => acokB mi [[], [5055], [], [5056], [], [], [5053], [], [5055], [], [], [], [], [], [], [], [], [], [5055], [], [5239, 6000], [], [5055]]
  | none => false) = true := by decide +kernel
set_option maxRecDepth 100000 in
theorem okX11_isDigit : (match mtab[153]? with
  | some mi => acokB mi [[], [5055], [], [5056], [], [], [5053], [], [5055], [], [], [5233], [5234], [5209, 5210]]
  | none => false) = true := by decide +kernel
set_option maxRecDepth 100000 in
theorem okX11_among : (match mtab[154]? with
  | some mi => acokB mi [[], [], [], [], [6023, 6024, 6025], [], [], [5055], [], [5056], [], [], [], [6033, 6034, 6035], [], [5053], [], [5055]]
  | none => false) = true := by decide +kernel
set_option maxRecDepth 100000 in
theorem okX11_takesOf : (match mtab[155]? with
  | some mi => acokB mi [[], [], [6019, 6021, 40], [], [], [], [5055], [], [], [], [], [], [5239, 6000], [], [5055]]
  | none => false) = true := by decide +kernel
set_option maxRecDepth 100000 in
theorem okX11_number : (match mtab[156]? with
  | some mi => acokB mi [[], [5229, 5231, 35], [], [], [], [], [], [], [], [], [], [], [], [5229, 5231, 35], [], [], [], [], [], [5053], [], [5055], [], [], [], [], [], [], [], [5055], [], [], [5055]]
  | none => false) = true := by decide +kernel
set_option maxRecDepth 100000 in
theorem okX11_numberIn : (match mtab[157]? with
  | some mi => acokB mi [[], [], [5225, 5227, 34], [], [], [], [], [], [], [], [], [], [5209, 5210], [], [], [], [], [], [5055], [], [], [5055]]
  | none => false) = true := by decide +kernel
set_option maxRecDepth 100000 in
theorem okX11_faultOf : (match mtab[158]? with
  | some mi => acokB mi [[], [], [], [5055], [], [5056], [], [], [], [], [], [], [], [], [], [], [], [5055], [], [], [], [], [], [], [], [], [], [], [], [], [5055]]
  | none => false) = true := by decide +kernel
set_option maxRecDepth 100000 in
theorem okX11_ship : (match mtab[159]? with
  | some mi => acokB mi [[], [], [5037], [], [], [5216, 5218, 32], [], [], [], [5059], [], [], [], [], [5221, 5223, 33], [], [], [], [], [], [], [], [], [], [], [], [], [5059], [], [], [], [], [5235, 5237, 36], [], [], [], [], [], [], [], [], [], [5221, 5223, 33], [], [], [], [], [], [], [], [], [], [], [], [], [5058], [], [], [5059], [], [], [], [], [5058], [], [], [5059], [], [], [], [], [], [5235, 5237, 36], [5239, 6000], [], [], [], [5059], [], [], [5059], [], [], [], [], [], [6002, 6004, 37], [], [], [], [], [], [], [], [5040], [], [], [5059], [5041], [], [], [5042], [], [], [], [], [5041], [], [], [5046], [], [], [5058], [], [], [], [], [], [], [5047], [], [], [5058], [], [], [], [], [], [], [], [], [], [], [], [], [], [], [5042], [], [5058], [], [], [], [], [], [], [], [5042], [], [], [], [5041]]
  | none => false) = true := by decide +kernel
set_option maxRecDepth 100000 in
theorem okX11_readsRock : (match mtab[160]? with
  | some mi => acokB mi [[], [5043], [], [5059], [], [], [], [], [], [], [], [5059], [], [], [], [5058], [], [], [], [], [], [5221, 5223, 33], [], [], [5058], [], [], [], [], [], [5235, 5237, 36], [], [], [], [], [5058], [], [], [], [], [], [6015, 6017, 39], [], [], [], [5059], [], [], [5059], [], [5058]]
  | none => false) = true := by decide +kernel
set_option maxRecDepth 100000 in
theorem okX11_readsMess : (match mtab[161]? with
  | some mi => acokB mi [[], [5044], [], [5059], [], [], [], [], [], [], [], [5059], [], [], [], [5058], [], [], [], [5225, 5227, 34], [], [], [5058], [], [], [], [], [], [5235, 5237, 36], [], [], [], [], [5058], [], [], [], [], [], [5225, 5227, 34], [], [], [], [5059], [], [], [5059], [], [5058]]
  | none => false) = true := by decide +kernel
set_option maxRecDepth 100000 in
theorem okX11_rocks : (match mtab[162]? with
  | some mi => acokB mi [[], [], [5037], [], [], [5216, 5218, 32], [], [], [], [5059], [], [], [], [], [], [], [], [], [], [], [], [6010, 6012, 38], [], [], [], [], [], [5235, 5237, 36], [], [], [], [], [], [], [], [], [], [], [6002, 6004, 37], [], [], [], [], [], [], [], [], [], [5059], [], [], [5048], [], [5043], [], [5058], [], [], [], [], [], [], [5049], [], [5043], [], [5058], [], [], [], [], [], [], [], [], [], [5043], [], [], [5043], [], [], [], [5059]]
  | none => false) = true := by decide +kernel
set_option maxRecDepth 100000 in
theorem okX11_messes : (match mtab[163]? with
  | some mi => acokB mi [[], [], [5037], [], [], [5216, 5218, 32], [], [], [], [5059], [], [], [], [], [], [], [], [], [], [], [], [6076, 6078, 41], [], [], [], [], [], [5235, 5237, 36], [], [], [], [], [], [], [], [], [], [], [6002, 6004, 37], [], [], [], [], [], [], [], [], [], [5059], [], [], [5051], [], [], [5044], [], [], [5058], [], [], [], [], [], [], [5051], [], [], [5044], [], [], [], [], [5050], [], [5044], [], [5058], [], [], [], [], [], [], [], [], [], [5044], [], [], [5044], [], [], [], [5059], [], [], [], [5066], [], [], [5045], [], [], [5045], [], [5059]]
  | none => false) = true := by decide +kernel
set_option maxRecDepth 100000 in
theorem okX11_codes : (match mtab[164]? with
  | some mi => acokB mi [[], [5061], [], [5063], [], [], [], [], [5063], [], [], [5063]]
  | none => false) = true := by decide +kernel
set_option maxRecDepth 100000 in
theorem okX11_readsThing : (match mtab[165]? with
  | some mi => acokB mi [[], [], [5235, 5237, 36], [], [], [6088, 6090, 43], [], [], [], [6092, 6094, 44], [], [], [], [5229, 5231, 35], [], [], [], [], [5225, 5227, 34], [6092, 6094, 44], [], [], [], [], [6015, 6017, 39], [], [], [], [], [], [], [], [6092, 6094, 44], [], [], [], [5057], [], [], [], [], [5235, 5237, 36], [], [], [], [], [], [5057], [], [], [5057], [], [], [6084, 6086, 42], [], [], [], [5235, 5237, 36], [], [], [], [], [], [5057], [], [], [5057]]
  | none => false) = true := by decide +kernel
set_option maxRecDepth 100000 in
theorem okX11_readsRank : (match mtab[166]? with
  | some mi => acokB mi [[], [], [], [], [6088, 6090, 43], [], [], [], [], [], [6084, 6086, 42], [], [], [], [], [], [], [], [], [], [], [], [], [], [], [], [], [], [], [6015, 6017, 39], [], [], [], [], [], [], [], [], [], [6084, 6086, 42], [], [], [], [], [], [], [], [], [], [], [], [], [], [], [], [], [], [], [6092, 6094, 44]]
  | none => false) = true := by decide +kernel
set_option maxRecDepth 100000 in
theorem okX11_rule : (match mtab[167]? with
  | some mi => acokB mi [[], [], [5037], [], [], [5216, 5218, 32], [], [], [], [5063], [], [], [], [], [6084, 6086, 42], [], [], [], [], [], [], [], [], [], [6002, 6004, 37], [], [], [], [], [], [], [], [5063], [5062], [], [], [], [], [5063], [], [], [5060], [], [], [5061]]
  | none => false) = true := by decide +kernel
set_option maxRecDepth 100000 in
theorem okX11_worked : (match mtab[168]? with
  | some mi => acokB mi [[], [39], [], [], [], [], [], [], [5239, 6000], [], [], [], [], [], [], [], [5239, 6000], [], [], [], [], [], [], [], [5239, 6000]]
  | none => false) = true := by decide +kernel
set_option maxRecDepth 100000 in
theorem okX11_ruled : (match mtab[169]? with
  | some mi => acokB mi [[], [], [], [], [], [], [5062], [], [], [5060], [], [], [], [], [], [], [], [5064], [], [], [], [], [5064], [], [], [], [], [], [], [], [], [], [], [], [], [5064], [], [], [], [], [], [], [], [5064], [], [], [], [], [], [5064], [], [], [6151, 6152], [], [], [], [5064], [], [], [], [], [], [5065], [], [], [], [], [], [], [], [], [], [], [], [5062], [], [], [5065], [], [], [], [], [], [], [], [], [5064], [], [], [], [], [], [], [5220], [6134]]
  | none => false) = true := by decide +kernel
set_option maxRecDepth 100000 in
theorem okX11_delayAt : (match mtab[170]? with
  | some mi => acokB mi [[], [5065], [], [], [5040], [], [], [5065], [], [], [5041], [], [], [5065], [], [], [5042], [], [], [5065], [], [], [], [], [], [], [6147, 6149, 49]]
  | none => false) = true := by decide +kernel
set_option maxRecDepth 100000 in
theorem okX11_turned : (match mtab[171]? with
  | some mi => acokB mi [[], [5042]]
  | none => false) = true := by decide +kernel
set_option maxRecDepth 100000 in
theorem okX11_post : (match mtab[172]? with
  | some mi => acokB mi [[], [], [5037], [], [], [], [], [5041], [], [], [], [5209, 5210], [], [], [], [], [], [5209, 5210], [], [], [6104, 6106, 45], [], [], [], [], [5046], [], [], [], [], [5047], [], [], [5239, 6000]]
  | none => false) = true := by decide +kernel
set_option maxRecDepth 100000 in
theorem okX11_rock : (match mtab[173]? with
  | some mi => acokB mi [[], [], [5037], [], [], [], [], [5043], [], [], [], [5209, 5210], [], [], [], [], [], [5209, 5210], [], [], [6104, 6106, 45], [], [], [], [], [5048], [], [], [], [], [5049]]
  | none => false) = true := by decide +kernel
set_option maxRecDepth 100000 in
theorem okX11_mess : (match mtab[174]? with
  | some mi => acokB mi [[], [], [5037], [], [], [6116, 6118, 46], [], [], [], [], [6120], [5209, 5210], [], [], [6104, 6106, 45], [], [], [], [], [5051], [], [], [], [], [], [], [], [], [], [5050], [], [], [], [], [5051]]
  | none => false) = true := by decide +kernel
set_option maxRecDepth 100000 in
theorem okX11_isAhead : (match mtab[175]? with
  | some mi => acokB mi [[], [], [], [], [], [], [], [], [], [], [], [], [], [5051], [], [], [], [], [], [5051], [], [], [], [], [], [], [5051], [], [], [], [], [], [5051], [], [], [], [], [], [], [5051], [], [], [], [], [], [5051]]
  | none => false) = true := by decide +kernel
set_option maxRecDepth 100000 in
theorem okX11_way : (match mtab[176]? with
  | some mi => acokB mi [[], [], [5037], [], [], [], [], [5051], [], [], [], [], [], [5209, 5210], [], [], [], [], [], [5209, 5210], [], [], [6104, 6106, 45], [], [], [], [], [], [], [], [5051], [], [], [], [], [], [], [], [], [], [5051], [], [], [], [], [], [], [], [6125, 6127, 47], [5239, 6000], [], [], [], [], [], [], [], [], [], [], [], [], [], [], [], [], [5051], [], [], [], [], [], [], [], [], [], [5051], [], [], [], [], [], [5051]]
  | none => false) = true := by decide +kernel
set_option maxRecDepth 100000 in
theorem okX11_sheet : (match mtab[177]? with
  | some mi => acokB mi [[], [], [5037], [], [], [], [6133], [5209, 5210], [], [], [], [], [], [], [], [], [], [], [], [], [], [], [], [], [], [], [], [], [], [5044], [], [], [], [], [], [], [], [], [], [], [], [], [], [], [], [5050], [], [], [], [], [], [], [], [], [], [], [], [], [5220], [6134], [], [], [], [5050]]
  | none => false) = true := by decide +kernel
set_option maxRecDepth 100000 in
theorem okX11_putsBy : (match mtab[178]? with
  | some mi => acokB mi [[], [], [], [], [], [], [5067], [], [], [5066], [], [], [], [], [5051]]
  | none => false) = true := by decide +kernel
set_option maxRecDepth 100000 in
theorem okX11_adds : (match mtab[179]? with
  | some mi => acokB mi [[], [], [5066], [], [], [5066], [], [5066], [], [], [], [], [], [], [], [], [5067], [], [], [5067], [], [], [], [], [], [], [], [], [], [5066], [], [], [5066]]
  | none => false) = true := by decide +kernel
set_option maxRecDepth 100000 in
theorem okX11_counts : (match mtab[180]? with
  | some mi => acokB mi [[], [], [], [], [], [], [6175, 6177, 54]]
  | none => false) = true := by decide +kernel
set_option maxRecDepth 100000 in
theorem okX11_undo : (match mtab[181]? with
  | some mi => acokB mi [[], [], [5037], [], [5066], [], [], [], [], [], [5066], [], [], [5066], [], [], [], [], [], [], [5051], [], [], [5067], [], [], [5066], [], [], [], [], [], [], [], [], [5066]]
  | none => false) = true := by decide +kernel
set_option maxRecDepth 100000 in
theorem okX11_put : (match mtab[182]? with
  | some mi => acokB mi [[], [], [], [5220], [6134]]
  | none => false) = true := by decide +kernel
set_option maxRecDepth 100000 in
theorem okX11_doesDue : (match mtab[183]? with
  | some mi => acokB mi [[], [], [], [], [], [], [], [], [], [], [], [], [], [], [], [], [], [], [], [], [], [], [], [], [], [], [], [], [], [], [], [], [], [], [], [6212, 6213]]
  | none => false) = true := by decide +kernel
set_option maxRecDepth 100000 in
theorem okX11_hitsAt : (match mtab[184]? with
  | some mi => acokB mi [[], [], [], [], [], [], [5043], [], [], [], [5048], [], [], [], [], [], [5049], [], [], [], [], [], [], [], [5239, 6000]]
  | none => false) = true := by decide +kernel
set_option maxRecDepth 100000 in
theorem okX11_stepGoes : (match mtab[185]? with
  | some mi => acokB mi [[], [], [], [], [], [], [], [], [6209, 6210], [], [], [], [], [], [], [], [6215, 6217, 59], [], [], [], [], [], [], [], [], [], [], [5068], [], [], [5068], [], [], [], [], [5044], [], [], [], [], [], [], [], [5050], [], [], [], [], [], [], [], [], [], [], [], [], [], [], [5239, 6000], [], [], [], [], [5069], [], [5239, 6000], [], [5069], [], [], [], [], [], [], [], [], [], [], [], [], [], [], [5050]]
  | none => false) = true := by decide +kernel
set_option maxRecDepth 100000 in
theorem okX11_gives : (match mtab[186]? with
  | some mi => acokB mi [[], [], [6166], [], [5209, 5210], [], [], [], [], [], [], [], [], [], [], [], [], [], [], [], [], [], [], [], [], [], [], [], [6143, 6145, 48], [], [], [], [], [], [], [], [], [], [], [], [], [], [], [], [], [], [], [], [], [], [], [], [], [], [6167, 6169, 52]]
  | none => false) = true := by decide +kernel
set_option maxRecDepth 100000 in
theorem okX11_passes : (match mtab[187]? with
  | some mi => acokB mi [[], [], [], [], [], [], [], [], [], [], [], [], [], [6116, 6118, 46], [], [], [], [], [], [5209, 5210], [], [], [], [6116, 6118, 46], [], [], [], [], [6187], [5209, 5210], [], [], [], [], [5051], [], [], [], [], [], [], [], [], [], [5051], [], [], [], [], [], [], [], [], [], [], [], [5051], [], [], [], [], [], [], [], [], [], [5051], [], [], [], [], [], [], [], [], [], [5051]]
  | none => false) = true := by decide +kernel
set_option maxRecDepth 100000 in
theorem okX11_cooks : (match mtab[188]? with
  | some mi => acokB mi [[], [], [6116, 6118, 46], [], [], [], [], [6187], [5209, 5210], [], [], [], [], [5051], [], [], [], [], [], [], [5051]]
  | none => false) = true := by decide +kernel
set_option maxRecDepth 100000 in
theorem okX11_delay : (match mtab[189]? with
  | some mi => acokB mi [[], [], [5037], [], [], [5051], [], [], [6143, 6145, 48]]
  | none => false) = true := by decide +kernel
set_option maxRecDepth 100000 in
theorem okX11_order : (match mtab[190]? with
  | some mi => acokB mi [[], [], [5037], [], [6158, 6160, 50], [], [], [], [5051], [], [6162, 6164, 51], [6171, 6173, 53]]
  | none => false) = true := by decide +kernel
set_option maxRecDepth 100000 in
theorem okX11_pass : (match mtab[191]? with
  | some mi => acokB mi [[], [], [5037], [], [6158, 6160, 50], [], [], [], [], [], [6183, 6185, 55], [6171, 6173, 53]]
  | none => false) = true := by decide +kernel
set_option maxRecDepth 100000 in
theorem okX11_cook : (match mtab[192]? with
  | some mi => acokB mi [[], [], [5037], [], [6158, 6160, 50], [], [], [], [], [6192, 6194, 56], [6171, 6173, 53]]
  | none => false) = true := by decide +kernel
set_option maxRecDepth 100000 in
theorem okX11_startsCounting : (match mtab[193]? with
  | some mi => acokB mi [[], [], [5068], [], [], [5069]]
  | none => false) = true := by decide +kernel
set_option maxRecDepth 100000 in
theorem okX11_steps : (match mtab[194]? with
  | some mi => acokB mi [[], [], [5037], [], [], [], [6200], [5209, 5210], [], [], [], [], [6158, 6160, 50], [], [6201, 6203, 57], [], [], [], [], [], [], [], [5051], [6205, 6207, 58], [], [], [], [], [5038], [], [], [5068], [], [6219, 6221, 60], [], [], [5069], [], [6219, 6221, 60], [], [], [5051], [], [], [6175, 6177, 54]]
  | none => false) = true := by decide +kernel
set_option maxRecDepth 100000 in
theorem okX11_readsAct : (match mtab[195]? with
  | some mi => acokB mi [[], [5072], [], [], [], [6015, 6017, 39], [], [], [], [], [], [], [], [5072], [], [], [5072], [], [5070], [], [], [], [], [], [], [], [], [], [], [], [], [], [], [5071], [], [], [], [], [], [], [], [], [], [], [], [], [], [5225, 5227, 34], [], [], [], [], [], [], [], [], [], [5071]]
  | none => false) = true := by decide +kernel
set_option maxRecDepth 100000 in
theorem okX11_does : (match mtab[196]? with
  | some mi => acokB mi [[], [5070], [], [], [], [], [], [5051], [], [5071], [], [], [6162, 6164, 51], [], [], [], [], [], [], [5070], [], [], [], [], [], [], [5071], [], [], [], [], [6183, 6185, 55], [], [], [], [], [], [], [], [], [], [5071], [], [], [], [], [], [5051], [6205, 6207, 58]]
  | none => false) = true := by decide +kernel
set_option maxRecDepth 100000 in
theorem okX11_voyage : (match mtab[197]? with
  | some mi => acokB mi [[], [], [5037], [], [], [5216, 5218, 32], [], [], [], [5072], [], [], [], [], [], [5055], [], [5056], [], [], [6227, 6229, 61], [], [], [], [], [], [], [6002, 6004, 37], [], [], [], [], [], [], [6158, 6160, 50], [], [6201, 6203, 57], [], [], [], [], [5072], [], [], [], [6232, 6234, 62], [], [], [], [], [], [5038], [], [], [], [5072], [], [], [], [], [5239, 6000], [], [6219, 6221, 60], [], [], [5068], [], [6219, 6221, 60], [], [], [], [], [6175, 6177, 54]]
  | none => false) = true := by decide +kernel
set_option maxRecDepth 100000 in
theorem okX11_puts : (match mtab[198]? with
  | some mi => acokB mi [[], [], [], [], [], [], [5052], [], [], [5051]]
  | none => false) = true := by decide +kernel
set_option maxRecDepth 100000 in
theorem okX11_lane : (match mtab[199]? with
  | some mi => acokB mi [[], [], [5037], [], [], [], [6200], [5209, 5210], [], [], [], [], [7000, 7002, 63], [], [6201, 6203, 57], [], [], [], [], [], [], [], [5052], [6205, 6207, 58], [], [], [], [], [5038], [], [], [5068], [], [6219, 6221, 60], [], [5052]]
  | none => false) = true := by decide +kernel
set_option maxRecDepth 100000 in
theorem okX11_strikes : (match mtab[200]? with
  | some mi => acokB mi [[], [], [5037], [], [7000, 7002, 63], [], [], [], [], [], [], [], [5052], [6205, 6207, 58], [], [], [], [], [5043], [], [], [5048], [], [], [], [5052], [], [], [], [], [5049], [], [], [], [5052], [], [], [], [], [], [5038], [], [], [], [6219, 6221, 60]]
  | none => false) = true := by decide +kernel
set_option maxRecDepth 100000 in
theorem okX11_moved : (match mtab[201]? with
  | some mi => acokB mi [[], [], [], [], [], [], [], [], [], [], [7019, 7020], [], [], [], [], [], [6212, 6213]]
  | none => false) = true := by decide +kernel
set_option maxRecDepth 100000 in
theorem okX11_movedByDue : (match mtab[202]? with
  | some mi => acokB mi [[], [], [], [], [], [], [5051], [], [], [], [], [], [], [], [], [], [], [5051], [], [], [], [], [], [5051], [], [], [], [], [], [], [], [5051], [], [], [], [], [7016, 7017]]
  | none => false) = true := by decide +kernel
set_option maxRecDepth 100000 in
theorem okX11_mayGive : (match mtab[203]? with
  | some mi => acokB mi [[], [], [], [5051], [], [], [], [5051]]
  | none => false) = true := by decide +kernel
