/-! ROWS IN ORDER, 4 -/
set_option maxRecDepth 100000 in
theorem okX11_again : (match mtab[249]? with
  | some mi => acokB mi [[], [], [1082], [], [], [], [1401], [1250, 1251], [], [], [1132], [], [], [], [], [1133], [], [], [], [1090], [], [], [], [], [], [], [], [], [], [1096], [], [], [1134], [], [], [], [], [], [], [], [], [], [], [], [1111]]
  | none => false) = true := by decide +kernel
set_option maxRecDepth 100000 in
theorem okX11_count : (match mtab[250]? with
  | some mi => acokB mi [[], [], [1082], [], [66], [], [1085], [], [], [1086], [], [], [1087], [], [], [1088], [], [], [1089], [], [], [1096], [], [], [], [], [1096], [], [], [], [], [1096], [], [], [], [], [1096], [], [], [], [], [1124], [], [], [1111], [], [], [1083], [], [], [1099]]
  | none => false) = true := by decide +kernel
set_option maxRecDepth 100000 in
theorem okX11_row : (match mtab[251]? with
  | some mi => acokB mi [[], [], [1082], [], [], [], [], [1083], [], [], [], [1250, 1251], [], [], [], [1082], [], [], [], [1084]]
  | none => false) = true := by decide +kernel
set_option maxRecDepth 100000 in
theorem okJ6_bitCount_0f7a4 : (match mtab[252]? with
  | some mi => acokB mi [[], [], [], [], [790], [], [], [], [], [791], [], [], [], [], [791], [], [], [], [], [], [], [], [], [792]]
  | none => false) = true := by decide +kernel
set_option maxRecDepth 100000 in
theorem okJ0_length_8abf5 : (match mtab[253]? with
  | some mi => acokB mi []
  | none => false) = true := by decide +kernel
set_option maxRecDepth 100000 in
theorem okJ0_charAt_5068e : (match mtab[254]? with
  | some mi => acokB mi []
  | none => false) = true := by decide +kernel
set_option maxRecDepth 100000 in
theorem okJ7_fill_53178 : (match mtab[255]? with
  | some mi => acokB mi []
  | none => false) = true := by decide +kernel
