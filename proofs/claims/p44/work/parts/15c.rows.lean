/-! ROWS IN ORDER, 2 -/
set_option maxRecDepth 100000 in
theorem okX11_refuse : (match mtab[140]? with
  | some mi => acokB mi [[], [], [5037]]
  | none => false) = true := by decide +kernel
set_option maxRecDepth 100000 in
theorem okX11_in : (match mtab[141]? with
  | some mi => acokB mi []
  | none => false) = true := by decide +kernel
set_option maxRecDepth 100000 in
theorem okX11_has : (match mtab[142]? with
  | some mi => acokB mi []
  | none => false) = true := by decide +kernel
set_option maxRecDepth 100000 in
theorem okX11_flag : (match mtab[143]? with
  | some mi => acokB mi []
  | none => false) = true := by decide +kernel
set_option maxRecDepth 100000 in
theorem okX11_common : (match mtab[144]? with
  | some mi => acokB mi [[], [], [], [], [], [], [], [], [], [], [7102, 7103]]
  | none => false) = true := by decide +kernel
set_option maxRecDepth 100000 in
theorem okX11_enters : (match mtab[145]? with
  | some mi => acokB mi [[], [5039], [], [5038], [], [], [], [], [5038], [], [], [5038]]
  | none => false) = true := by decide +kernel
set_option maxRecDepth 100000 in
theorem okX11_tellsFraction : (match mtab[146]? with
  | some mi => acokB mi [[], [], [7102, 7103], [], [], [], [5038], [], [], [], [], [6215, 6217, 60], [], [], [], [], [6215, 6217, 60]]
  | none => false) = true := by decide +kernel
set_option maxRecDepth 100000 in
theorem okX11_isMess : (match mtab[147]? with
  | some mi => acokB mi [[], [], [], [], [5044], [], [], [], [5205, 5206]]
  | none => false) = true := by decide +kernel
set_option maxRecDepth 100000 in
theorem okX11_sign : (match mtab[148]? with
  | some mi => acokB mi [[], [], [5037], [], [5054], [], [], [], [], [], [], [], [], [], [], [5053], [], [5054], [], [], [], [], [], [], [], [], [], [], [], [], [], [], [], [], [5054], [], [], [5054], [], [5054]]
  | none => false) = true := by decide +kernel
set_option maxRecDepth 100000 in
theorem okX11_end : (match mtab[149]? with
  | some mi => acokB mi [[], [], [5037], [], [], [], [], [5054], [], [5205, 5206], [], [], [], [], [], [5054]]
  | none => false) = true := by decide +kernel
set_option maxRecDepth 100000 in
theorem okX11_begins : (match mtab[150]? with
  | some mi => acokB mi [[], [5054], [], [], [], [5054], [], [], [5055], [], [], [5057], [], [], [], [5216], [5056]]
  | none => false) = true := by decide +kernel
set_option maxRecDepth 100000 in
theorem okX11_takes : (match mtab[151]? with
  | some mi => acokB mi [[], [5055], [], [5056], [], [], [5053], [], [5055], [], [], [], [], [], [], [], [], [], [5055], [], [5235, 5236], [], [5055]]
  | none => false) = true := by decide +kernel
set_option maxRecDepth 100000 in
theorem okX11_isDigit : (match mtab[152]? with
  | some mi => acokB mi [[], [5055], [], [5056], [], [], [5053], [], [5055], [], [], [5229], [5230], [5205, 5206]]
  | none => false) = true := by decide +kernel
set_option maxRecDepth 100000 in
theorem okX11_among : (match mtab[153]? with
  | some mi => acokB mi [[], [], [], [], [6019, 6020, 6021], [], [], [5055], [], [5056], [], [], [], [6029, 6030, 6031], [], [5053], [], [5055]]
  | none => false) = true := by decide +kernel
set_option maxRecDepth 100000 in
theorem okX11_takesOf : (match mtab[154]? with
  | some mi => acokB mi [[], [], [6015, 6017, 40], [], [], [], [5055], [], [], [], [], [], [5235, 5236], [], [5055]]
  | none => false) = true := by decide +kernel
set_option maxRecDepth 100000 in
theorem okX11_number : (match mtab[155]? with
  | some mi => acokB mi [[], [5225, 5227, 35], [], [], [], [], [], [], [], [], [], [], [], [5225, 5227, 35], [], [], [], [], [], [5053], [], [5055], [], [], [], [], [], [], [], [5055], [], [], [5055]]
  | none => false) = true := by decide +kernel
set_option maxRecDepth 100000 in
theorem okX11_numberIn : (match mtab[156]? with
  | some mi => acokB mi [[], [], [5221, 5223, 34], [], [], [], [], [], [], [], [], [], [5205, 5206], [], [], [], [], [], [5055], [], [], [5055]]
  | none => false) = true := by decide +kernel
set_option maxRecDepth 100000 in
theorem okX11_faultOf : (match mtab[157]? with
  | some mi => acokB mi [[], [], [], [5055], [], [5056], [], [], [], [], [], [], [], [], [], [], [], [5055], [], [], [], [], [], [], [], [], [], [], [], [], [5055]]
  | none => false) = true := by decide +kernel
set_option maxRecDepth 100000 in
theorem okX11_ship : (match mtab[158]? with
  | some mi => acokB mi [[], [], [5037], [], [], [5212, 5214, 32], [], [], [], [5059], [], [], [], [], [5217, 5219, 33], [], [], [], [], [], [], [], [], [], [], [], [], [5059], [], [], [], [], [5231, 5233, 36], [], [], [], [], [], [], [], [], [], [5217, 5219, 33], [], [], [], [], [], [], [], [], [], [], [], [], [5058], [], [], [5059], [], [], [], [], [5058], [], [], [5059], [], [], [], [], [], [5231, 5233, 36], [5235, 5236], [], [], [], [5059], [], [], [5059], [], [], [], [], [], [5238, 6000, 37], [], [], [], [], [], [], [], [5040], [], [], [5059], [5041], [], [], [5042], [], [], [], [], [5041], [], [], [5046], [], [], [5058], [], [], [], [], [], [], [5047], [], [], [5058], [], [], [], [], [], [], [], [], [], [], [], [], [], [], [5042], [], [5058], [], [], [], [], [], [], [], [5042], [], [], [], [5041]]
  | none => false) = true := by decide +kernel
set_option maxRecDepth 100000 in
theorem okX11_readsRock : (match mtab[159]? with
  | some mi => acokB mi [[], [5043], [], [5059], [], [], [], [], [], [], [], [5059], [], [], [], [5058], [], [], [], [], [], [5217, 5219, 33], [], [], [5058], [], [], [], [], [], [5231, 5233, 36], [], [], [], [], [5058], [], [], [], [], [], [6011, 6013, 39], [], [], [], [5059], [], [], [5059], [], [5058]]
  | none => false) = true := by decide +kernel
set_option maxRecDepth 100000 in
theorem okX11_readsMess : (match mtab[160]? with
  | some mi => acokB mi [[], [5044], [], [5059], [], [], [], [], [], [], [], [5059], [], [], [], [5058], [], [], [], [5221, 5223, 34], [], [], [5058], [], [], [], [], [], [5231, 5233, 36], [], [], [], [], [5058], [], [], [], [], [], [5221, 5223, 34], [], [], [], [5059], [], [], [5059], [], [5058]]
  | none => false) = true := by decide +kernel
set_option maxRecDepth 100000 in
theorem okX11_rocks : (match mtab[161]? with
  | some mi => acokB mi [[], [], [5037], [], [], [5212, 5214, 32], [], [], [], [5059], [], [], [], [], [], [], [], [], [], [], [], [6006, 6008, 38], [], [], [], [], [], [5231, 5233, 36], [], [], [], [], [], [], [], [], [], [], [5238, 6000, 37], [], [], [], [], [], [], [], [], [], [5059], [], [], [5048], [], [5043], [], [5058], [], [], [], [], [], [], [5049], [], [5043], [], [5058], [], [], [], [], [], [], [], [], [], [5043], [], [], [5043], [], [], [], [5059]]
  | none => false) = true := by decide +kernel
set_option maxRecDepth 100000 in
theorem okX11_messes : (match mtab[162]? with
  | some mi => acokB mi [[], [], [5037], [], [], [5212, 5214, 32], [], [], [], [5059], [], [], [], [], [], [], [], [], [], [], [], [6072, 6074, 41], [], [], [], [], [], [5231, 5233, 36], [], [], [], [], [], [], [], [], [], [], [5238, 6000, 37], [], [], [], [], [], [], [], [], [], [5059], [], [], [5051], [], [], [5044], [], [], [5058], [], [], [], [], [], [], [5051], [], [], [5044], [], [], [], [], [5050], [], [5044], [], [5058], [], [], [], [], [], [], [], [], [], [5044], [], [], [5044], [], [], [], [5059], [], [], [], [5066], [], [], [5045], [], [], [5045], [], [5059]]
  | none => false) = true := by decide +kernel
set_option maxRecDepth 100000 in
theorem okX11_codes : (match mtab[163]? with
  | some mi => acokB mi [[], [5061], [], [5063], [], [], [], [], [5063], [], [], [5063]]
  | none => false) = true := by decide +kernel
set_option maxRecDepth 100000 in
theorem okX11_readsThing : (match mtab[164]? with
  | some mi => acokB mi [[], [], [5231, 5233, 36], [], [], [6084, 6086, 43], [], [], [], [6088, 6090, 44], [], [], [], [5225, 5227, 35], [], [], [], [], [5221, 5223, 34], [6088, 6090, 44], [], [], [], [], [6011, 6013, 39], [], [], [], [], [], [], [], [6088, 6090, 44], [], [], [], [5057], [], [], [], [], [5231, 5233, 36], [], [], [], [], [], [5057], [], [], [5057], [], [], [6080, 6082, 42], [], [], [], [5231, 5233, 36], [], [], [], [], [], [5057], [], [], [5057]]
  | none => false) = true := by decide +kernel
set_option maxRecDepth 100000 in
theorem okX11_readsRank : (match mtab[165]? with
  | some mi => acokB mi [[], [], [], [], [6084, 6086, 43], [], [], [], [], [], [6080, 6082, 42], [], [], [], [], [], [], [], [], [], [], [], [], [], [], [], [], [], [], [6011, 6013, 39], [], [], [], [], [], [], [], [], [], [6080, 6082, 42], [], [], [], [], [], [], [], [], [], [], [], [], [], [], [], [], [], [], [6088, 6090, 44]]
  | none => false) = true := by decide +kernel
set_option maxRecDepth 100000 in
theorem okX11_rule : (match mtab[166]? with
  | some mi => acokB mi [[], [], [5037], [], [], [5212, 5214, 32], [], [], [], [5063], [], [], [], [], [6080, 6082, 42], [], [], [], [], [], [], [], [], [], [5238, 6000, 37], [], [], [], [], [], [], [], [5063], [5062], [], [], [], [], [5063], [], [], [5060], [], [], [5061]]
  | none => false) = true := by decide +kernel
set_option maxRecDepth 100000 in
theorem okX11_worked : (match mtab[167]? with
  | some mi => acokB mi [[], [39], [], [], [], [], [], [], [5235, 5236], [], [], [], [], [], [], [], [5235, 5236], [], [], [], [], [], [], [], [5235, 5236]]
  | none => false) = true := by decide +kernel
set_option maxRecDepth 100000 in
theorem okX11_ruled : (match mtab[168]? with
  | some mi => acokB mi [[], [], [], [], [], [], [5062], [], [], [5060], [], [], [], [], [], [], [], [5064], [], [], [], [], [5064], [], [], [], [], [], [], [], [], [], [], [], [], [5064], [], [], [], [], [], [], [], [5064], [], [], [], [], [], [5064], [], [], [6147, 6148], [], [], [], [5064], [], [], [], [], [], [5065], [], [], [], [], [], [], [], [], [], [], [], [5062], [], [], [5065], [], [], [], [], [], [], [], [], [5064], [], [], [], [], [], [], [5216], [6130]]
  | none => false) = true := by decide +kernel
set_option maxRecDepth 100000 in
theorem okX11_delayAt : (match mtab[169]? with
  | some mi => acokB mi [[], [5065], [], [], [5040], [], [], [5065], [], [], [5041], [], [], [5065], [], [], [5042], [], [], [5065], [], [], [], [], [], [], [6143, 6145, 49]]
  | none => false) = true := by decide +kernel
set_option maxRecDepth 100000 in
theorem okX11_turned : (match mtab[170]? with
  | some mi => acokB mi [[], [5042]]
  | none => false) = true := by decide +kernel
set_option maxRecDepth 100000 in
theorem okX11_post : (match mtab[171]? with
  | some mi => acokB mi [[], [], [5037], [], [], [], [], [5041], [], [], [], [5205, 5206], [], [], [], [], [], [5205, 5206], [], [], [6100, 6102, 45], [], [], [], [], [5046], [], [], [], [], [5047], [], [], [5235, 5236]]
  | none => false) = true := by decide +kernel
set_option maxRecDepth 100000 in
theorem okX11_rock : (match mtab[172]? with
  | some mi => acokB mi [[], [], [5037], [], [], [], [], [5043], [], [], [], [5205, 5206], [], [], [], [], [], [5205, 5206], [], [], [6100, 6102, 45], [], [], [], [], [5048], [], [], [], [], [5049]]
  | none => false) = true := by decide +kernel
set_option maxRecDepth 100000 in
theorem okX11_mess : (match mtab[173]? with
  | some mi => acokB mi [[], [], [5037], [], [], [6112, 6114, 46], [], [], [], [], [6116], [5205, 5206], [], [], [6100, 6102, 45], [], [], [], [], [5051], [], [], [], [], [], [], [], [], [], [5050], [], [], [], [], [5051]]
  | none => false) = true := by decide +kernel
set_option maxRecDepth 100000 in
theorem okX11_isAhead : (match mtab[174]? with
  | some mi => acokB mi [[], [], [], [], [], [], [], [], [], [], [], [], [], [5051], [], [], [], [], [], [5051], [], [], [], [], [], [], [5051], [], [], [], [], [], [5051], [], [], [], [], [], [], [5051], [], [], [], [], [], [5051]]
  | none => false) = true := by decide +kernel
set_option maxRecDepth 100000 in
theorem okX11_way : (match mtab[175]? with
  | some mi => acokB mi [[], [], [5037], [], [], [], [], [5051], [], [], [], [], [], [5205, 5206], [], [], [], [], [], [5205, 5206], [], [], [6100, 6102, 45], [], [], [], [], [], [], [], [5051], [], [], [], [], [], [], [], [], [], [5051], [], [], [], [], [], [], [], [6121, 6123, 47], [5235, 5236], [], [], [], [], [], [], [], [], [], [], [], [], [], [], [], [], [5051], [], [], [], [], [], [], [], [], [], [5051], [], [], [], [], [], [5051]]
  | none => false) = true := by decide +kernel
set_option maxRecDepth 100000 in
theorem okX11_sheet : (match mtab[176]? with
  | some mi => acokB mi [[], [], [5037], [], [], [], [6129], [5205, 5206], [], [], [], [], [], [], [], [], [], [], [], [], [], [], [], [], [], [], [], [], [], [5044], [], [], [], [], [], [], [], [], [], [], [], [], [], [], [], [5050], [], [], [], [], [], [], [], [], [], [], [], [], [5216], [6130], [], [], [], [5050]]
  | none => false) = true := by decide +kernel
set_option maxRecDepth 100000 in
theorem okX11_putsBy : (match mtab[177]? with
  | some mi => acokB mi [[], [], [], [], [], [], [5067], [], [], [5066], [], [], [], [], [5051]]
  | none => false) = true := by decide +kernel
set_option maxRecDepth 100000 in
theorem okX11_adds : (match mtab[178]? with
  | some mi => acokB mi [[], [], [5066], [], [], [5066], [], [5066], [], [], [], [], [], [], [], [], [5067], [], [], [5067], [], [], [], [], [], [], [], [], [], [5066], [], [], [5066]]
  | none => false) = true := by decide +kernel
set_option maxRecDepth 100000 in
theorem okX11_counts : (match mtab[179]? with
  | some mi => acokB mi [[], [], [], [], [], [], [6171, 6173, 54]]
  | none => false) = true := by decide +kernel
set_option maxRecDepth 100000 in
theorem okX11_undo : (match mtab[180]? with
  | some mi => acokB mi [[], [], [5037], [], [5066], [], [], [], [], [], [5066], [], [], [5066], [], [], [], [], [], [], [5051], [], [], [5067], [], [], [5066], [], [], [], [], [], [], [], [], [5066]]
  | none => false) = true := by decide +kernel
set_option maxRecDepth 100000 in
theorem okX11_put : (match mtab[181]? with
  | some mi => acokB mi [[], [], [], [5216], [6130]]
  | none => false) = true := by decide +kernel
set_option maxRecDepth 100000 in
theorem okX11_doesDue : (match mtab[182]? with
  | some mi => acokB mi [[], [], [], [], [], [], [], [], [], [], [], [], [], [], [], [], [], [], [], [], [], [], [], [], [], [], [], [], [], [], [], [], [], [], [], [6208, 6209]]
  | none => false) = true := by decide +kernel
set_option maxRecDepth 100000 in
theorem okX11_hitsAt : (match mtab[183]? with
  | some mi => acokB mi [[], [], [], [], [], [], [5043], [], [], [], [5048], [], [], [], [], [], [5049], [], [], [], [], [], [], [], [5235, 5236]]
  | none => false) = true := by decide +kernel
set_option maxRecDepth 100000 in
theorem okX11_stepGoes : (match mtab[184]? with
  | some mi => acokB mi [[], [], [], [], [], [], [], [], [6205, 6206], [], [], [], [], [], [], [], [6211, 6213, 59], [], [], [], [], [], [], [], [], [], [], [5068], [], [], [5068], [], [], [], [], [5044], [], [], [], [], [], [], [], [5050], [], [], [], [], [], [], [], [], [], [], [], [], [], [], [5235, 5236], [], [], [], [], [5069], [], [5235, 5236], [], [5069], [], [], [], [], [], [], [], [], [], [], [], [], [], [], [5050]]
  | none => false) = true := by decide +kernel
set_option maxRecDepth 100000 in
theorem okX11_gives : (match mtab[185]? with
  | some mi => acokB mi [[], [], [6162], [], [5205, 5206], [], [], [], [], [], [], [], [], [], [], [], [], [], [], [], [], [], [], [], [], [], [], [], [6139, 6141, 48], [], [], [], [], [], [], [], [], [], [], [], [], [], [], [], [], [], [], [], [], [], [], [], [], [], [6163, 6165, 52]]
  | none => false) = true := by decide +kernel
set_option maxRecDepth 100000 in
theorem okX11_passes : (match mtab[186]? with
  | some mi => acokB mi [[], [], [], [], [], [], [], [], [], [], [], [], [], [6112, 6114, 46], [], [], [], [], [], [5205, 5206], [], [], [], [6112, 6114, 46], [], [], [], [], [6183], [5205, 5206], [], [], [], [], [5051], [], [], [], [], [], [], [], [], [], [5051], [], [], [], [], [], [], [], [], [], [], [], [5051], [], [], [], [], [], [], [], [], [], [5051], [], [], [], [], [], [], [], [], [], [5051]]
  | none => false) = true := by decide +kernel
set_option maxRecDepth 100000 in
theorem okX11_cooks : (match mtab[187]? with
  | some mi => acokB mi [[], [], [6112, 6114, 46], [], [], [], [], [6183], [5205, 5206], [], [], [], [], [5051], [], [], [], [], [], [], [5051]]
  | none => false) = true := by decide +kernel
set_option maxRecDepth 100000 in
theorem okX11_delay : (match mtab[188]? with
  | some mi => acokB mi [[], [], [5037], [], [], [5051], [], [], [6139, 6141, 48]]
  | none => false) = true := by decide +kernel
set_option maxRecDepth 100000 in
theorem okX11_order : (match mtab[189]? with
  | some mi => acokB mi [[], [], [5037], [], [6154, 6156, 50], [], [], [], [5051], [], [6158, 6160, 51], [6167, 6169, 53]]
  | none => false) = true := by decide +kernel
set_option maxRecDepth 100000 in
theorem okX11_pass : (match mtab[190]? with
  | some mi => acokB mi [[], [], [5037], [], [6154, 6156, 50], [], [], [], [], [], [6179, 6181, 55], [6167, 6169, 53]]
  | none => false) = true := by decide +kernel
set_option maxRecDepth 100000 in
theorem okX11_cook : (match mtab[191]? with
  | some mi => acokB mi [[], [], [5037], [], [6154, 6156, 50], [], [], [], [], [6188, 6190, 56], [6167, 6169, 53]]
  | none => false) = true := by decide +kernel
set_option maxRecDepth 100000 in
theorem okX11_startsCounting : (match mtab[192]? with
  | some mi => acokB mi [[], [], [5068], [], [], [5069]]
  | none => false) = true := by decide +kernel
set_option maxRecDepth 100000 in
theorem okX11_steps : (match mtab[193]? with
  | some mi => acokB mi [[], [], [5037], [], [], [], [6196], [5205, 5206], [], [], [], [], [6154, 6156, 50], [], [6197, 6199, 57], [], [], [], [], [], [], [], [5051], [6201, 6203, 58], [], [], [], [], [5038], [], [], [5068], [], [6215, 6217, 60], [], [], [5069], [], [6215, 6217, 60], [], [], [5051], [], [], [6171, 6173, 54]]
  | none => false) = true := by decide +kernel
set_option maxRecDepth 100000 in
theorem okX11_readsAct : (match mtab[194]? with
  | some mi => acokB mi [[], [5072], [], [], [], [6011, 6013, 39], [], [], [], [], [], [], [], [5072], [], [], [5072], [], [5070], [], [], [], [], [], [], [], [], [], [], [], [], [], [], [5071], [], [], [], [], [], [], [], [], [], [], [], [], [], [5221, 5223, 34], [], [], [], [], [], [], [], [], [], [5071]]
  | none => false) = true := by decide +kernel
set_option maxRecDepth 100000 in
theorem okX11_does : (match mtab[195]? with
  | some mi => acokB mi [[], [5070], [], [], [], [], [], [5051], [], [5071], [], [], [6158, 6160, 51], [], [], [], [], [], [], [5070], [], [], [], [], [], [], [5071], [], [], [], [], [6179, 6181, 55], [], [], [], [], [], [], [], [], [], [5071], [], [], [], [], [], [5051], [6201, 6203, 58]]
  | none => false) = true := by decide +kernel
set_option maxRecDepth 100000 in
theorem okX11_voyage : (match mtab[196]? with
  | some mi => acokB mi [[], [], [5037], [], [], [5212, 5214, 32], [], [], [], [5072], [], [], [], [], [], [5055], [], [5056], [], [], [6223, 6225, 61], [], [], [], [], [], [], [5238, 6000, 37], [], [], [], [], [], [], [6154, 6156, 50], [], [6197, 6199, 57], [], [], [], [], [5072], [], [], [], [6228, 6230, 62], [], [], [], [], [], [5038], [], [], [], [5072], [], [], [], [], [5235, 5236], [], [6215, 6217, 60], [], [], [5068], [], [6215, 6217, 60], [], [], [], [], [6171, 6173, 54]]
  | none => false) = true := by decide +kernel
set_option maxRecDepth 100000 in
theorem okX11_puts : (match mtab[197]? with
  | some mi => acokB mi [[], [], [], [], [], [], [5052], [], [], [5051]]
  | none => false) = true := by decide +kernel
set_option maxRecDepth 100000 in
theorem okX11_lane : (match mtab[198]? with
  | some mi => acokB mi [[], [], [5037], [], [], [], [6196], [5205, 5206], [], [], [], [], [6236, 6238, 63], [], [6197, 6199, 57], [], [], [], [], [], [], [], [5052], [6201, 6203, 58], [], [], [], [], [5038], [], [], [5068], [], [6215, 6217, 60], [], [5052]]
  | none => false) = true := by decide +kernel
set_option maxRecDepth 100000 in
theorem okX11_strikes : (match mtab[199]? with
  | some mi => acokB mi [[], [], [5037], [], [6236, 6238, 63], [], [], [], [], [], [], [], [5052], [6201, 6203, 58], [], [], [], [], [5043], [], [], [5048], [], [], [], [5052], [], [], [], [], [5049], [], [], [], [5052], [], [], [], [], [], [5038], [], [], [], [6215, 6217, 60]]
  | none => false) = true := by decide +kernel
set_option maxRecDepth 100000 in
theorem okX11_moved : (match mtab[200]? with
  | some mi => acokB mi [[], [], [], [], [], [], [], [], [], [], [7015, 7016], [], [], [], [], [], [6208, 6209]]
  | none => false) = true := by decide +kernel
set_option maxRecDepth 100000 in
theorem okX11_movedByDue : (match mtab[201]? with
  | some mi => acokB mi [[], [], [], [], [], [], [5051], [], [], [], [], [], [], [], [], [], [], [5051], [], [], [], [], [], [5051], [], [], [], [], [], [], [], [5051], [], [], [], [], [7012, 7013]]
  | none => false) = true := by decide +kernel
set_option maxRecDepth 100000 in
theorem okX11_mayGive : (match mtab[202]? with
  | some mi => acokB mi [[], [], [], [5051], [], [], [], [5051]]
  | none => false) = true := by decide +kernel
