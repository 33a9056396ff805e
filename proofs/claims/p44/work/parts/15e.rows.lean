/-! ROWS IN ORDER, 4 -/
set_option maxRecDepth 100000 in
theorem okX11_again : (match mtab[249]? with
  | some mi => acokB mi [[], [], [5037], [], [], [], [6116], [5205, 5206], [], [], [5087], [], [], [], [], [5088], [], [], [], [5045], [], [], [], [], [], [], [], [], [], [5051], [], [], [5089], [], [], [], [], [], [], [], [], [], [], [], [5066]]
  | none => false) = true := by decide +kernel
set_option maxRecDepth 100000 in
theorem okX11_count : (match mtab[250]? with
  | some mi => acokB mi [[], [], [5037], [], [66], [], [5040], [], [], [5041], [], [], [5042], [], [], [5043], [], [], [5044], [], [], [5051], [], [], [], [], [5051], [], [], [], [], [5051], [], [], [], [], [5051], [], [], [], [], [5079], [], [], [5066], [], [], [5038], [], [], [5054]]
  | none => false) = true := by decide +kernel
set_option maxRecDepth 100000 in
theorem okX11_row : (match mtab[251]? with
  | some mi => acokB mi [[], [], [5037], [], [], [], [], [5038], [], [], [], [5205, 5206], [], [], [], [5037], [], [], [], [5039]]
  | none => false) = true := by decide +kernel
set_option maxRecDepth 100000 in
theorem okJ6_bitCount_0f7a4 : (match mtab[252]? with
  | some mi => acokB mi [[], [], [], [], [3225], [], [], [], [], [3226], [], [], [], [], [3226], [], [], [], [], [], [], [], [], [3227]]
  | none => false) = true := by decide +kernel
set_option maxRecDepth 100000 in
theorem okJ0_length_8abf5 : (match mtab[253]? with
  | some mi => acokB mi []
  | none => false) = true := by decide +kernel
set_option maxRecDepth 100000 in
theorem okJ0_charAt_5068e : (match mtab[254]? with
  | some mi => acokB mi []
  | none => false) = true := by decide +kernel
set_option maxRecDepth 100000 in
theorem okJ7_fill_53178 : (match mtab[255]? with
  | some mi => acokB mi []
  | none => false) = true := by decide +kernel
