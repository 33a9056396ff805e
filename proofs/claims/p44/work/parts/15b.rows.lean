/-! ROWS IN ORDER, 1 -/
set_option maxRecDepth 100000 in
theorem okX10_undo : (match mtab[79]? with
  | some mi => acokB mi [[], [2078], [], [2076], [3136, 3137, 3138], [], [], [2078], [1233]]
  | none => false) = true := by decide +kernel
set_option maxRecDepth 100000 in
theorem okX10_lane : (match mtab[80]? with
  | some mi => acokB mi [[], [], [], [], [], [], [], [], [], [], [], [], [], [2073], [1162], [], [], [2073], [1164], [], [], [], [2076], [1182], [], [], [], [], [], [], [], [], [], [2076], [], [3144, 3145, 3146], [], [2073], [1166], [], [], [], [], [], [], [], [2067], [], [], [3148, 3149, 3150], [], [2076], [], [3144, 3145, 3146]]
  | none => false) = true := by decide +kernel
set_option maxRecDepth 100000 in
theorem okX10_strikes : (match mtab[81]? with
  | some mi => acokB mi [[], [], [], [], [], [], [], [], [2073], [1162], [], [], [2073], [1164], [], [], [], [2076], [1182], [], [], [], [], [], [], [], [], [], [2076], [], [3144, 3145, 3146], [], [2073], [1166], [], [], [], [], [], [], [], [], [], [], [], [], [], [], [], [2067], [], [], [3148, 3149, 3150]]
  | none => false) = true := by decide +kernel
set_option maxRecDepth 100000 in
theorem okX10_clears : (match mtab[82]? with
  | some mi => acokB mi [[], [3160, 3162, 16], [], [2079], [], [2076], [], [3165, 3167, 17], [], [], [3169, 3170, 3171], [], [], [], [], [], [], [], [], [2073], [1162], [], [], [2073], [1164], [], [], [], [2076], [1182], [], [], [], [], [], [], [2079], [2021], [], [], [3008], [], [], [], [], [], [2073], [1166], [], [], [], [], [], [], [], [], [], [], [], [], [], [], [], [], [], [], [], [], [], [], [], [], [], [], [], [], [], [], [], [], [], [], [2067], [], [], [3148, 3149, 3150]]
  | none => false) = true := by decide +kernel
set_option maxRecDepth 100000 in
theorem okX10_plan : (match mtab[83]? with
  | some mi => acokB mi [[], [], [], [], [], [], [], [], [], [3160, 3162, 16], [], [2079], [], [3165, 3167, 17], [], [3184, 3185, 3186], [], [2079], [], [2076], [], [3188, 3189, 3190], [], [], [], [], [], [], [], [2079], [], [2076], [], [], [3203, 3204, 3205], [], [2067], [3212, 3110, 3111], [], [], [], [], [], [], [2067], [], [2079], [2023], [], [], [], [3213, 3114, 3115]]
  | none => false) = true := by decide +kernel
set_option maxRecDepth 100000 in
theorem okX10_latest : (match mtab[84]? with
  | some mi => acokB mi [[], [], [], [], [], [], [], [], [], [3160, 3162, 16], [], [], [], [], [], [], [], [2079], [], [2076], [], [], [3165, 3167, 17], [3009], [], [], [3169, 3170, 3171], [], [2079], [2021]]
  | none => false) = true := by decide +kernel
set_option maxRecDepth 100000 in
theorem okX10_lanes : (match mtab[85]? with
  | some mi => acokB mi [[], [], [], [], [], [], [], [], [3160, 3162, 16], [], [2079], [], [2076], [], [3165, 3167, 17], [], [], [3169, 3170, 3171], [], [2067], [], [2079], [2021], [], [], [3222, 3223], [], [3148, 3149, 3150], [], [2079], [2021]]
  | none => false) = true := by decide +kernel
set_option maxRecDepth 100000 in
theorem okX10_safest : (match mtab[86]? with
  | some mi => acokB mi [[], [], [], [], [], [], [], [], [], [2076], [1185], [], [], [], [2076], [1185], [], [3232, 3234, 21], [], [], [], [], [], [], [], [], [], [], [], [3232, 3234, 21], [], [], [], [], [], [], [], [], [], [3236, 3238, 22], [], [], [3236, 3238, 22], [], [], [], [], [], [], [], [], [2067], [], [], [], [], [3105, 3106, 3107]]
  | none => false) = true := by decide +kernel
set_option maxRecDepth 100000 in
theorem okX10_late : (match mtab[87]? with
  | some mi => acokB mi [[], [], [], [], [], [], [], [], [], [3160, 3162, 16], [], [2067], [3212, 3110, 3111], [], [], [], [], [], [], [], [], [2067], [], [2079], [2017], [], [], [], [3213, 3114, 3115], [], [], [2079], [], [], [4007, 4008, 4009]]
  | none => false) = true := by decide +kernel
set_option maxRecDepth 100000 in
theorem okX10_comes : (match mtab[88]? with
  | some mi => acokB mi [[], [], [], [], [], [], [], [], [2068], [1089], [], [], [], [], [], [2076], [1182], [3016, 3018, 6], [], [], [], [], [], [], [], [], [], [], [], [], [], [], [], [], [], [], [], [], [2068], [1091], [], [], [2068], [1097], [], [], [], [], [], [], [], [2068], [1099], [], [], [], [], [], [], [], [2067], [], [], [], [], [], [], [3105, 3106, 3107]]
  | none => false) = true := by decide +kernel
set_option maxRecDepth 100000 in
theorem okX10_relay : (match mtab[89]? with
  | some mi => acokB mi [[], [], [], [], [], [], [], [], [2068], [1089], [], [], [], [], [], [], [], [], [], [], [], [], [], [], [], [], [], [], [], [2067], [3212, 3110, 3111], [], [], [], [], [], [], [], [], [], [], [], [], [], [], [], [3009], [], [], [2067], [], [], [3213, 3114, 3115]]
  | none => false) = true := by decide +kernel
set_option maxRecDepth 100000 in
theorem okX10_fewest : (match mtab[90]? with
  | some mi => acokB mi [[], [], [], [], [], [], [], [], [], [2068], [1089]]
  | none => false) = true := by decide +kernel
set_option maxRecDepth 100000 in
theorem okX10_word : (match mtab[91]? with
  | some mi => acokB mi [[], [], [], [], [], [], [], [], [], [], [], [], [], [], [], [], [], [], [2067], [], [], [4027, 4028], [4033], [], [4030, 4031], [4034, 4035, 4036]]
  | none => false) = true := by decide +kernel
set_option maxRecDepth 100000 in
theorem okX10_survives : (match mtab[92]? with
  | some mi => acokB mi [[], [], [], [], [], [], [], [], [], [], [], [], [], [], [], [], [], [], [], [4027, 4028], [4043], [], [4033], [], [4030, 4031]]
  | none => false) = true := by decide +kernel
set_option maxRecDepth 100000 in
theorem okX10_lives : (match mtab[93]? with
  | some mi => acokB mi [[], [], [], [], [], [], [2075], [], [], [], [4048], [], [], [], [], [], [], [], [2075], [], [], [], [], [], [], [], [], [], [], [], [], [], [], [], [], [], [], [2075], [], [], [], [], [], [], [4049, 4051, 23], [], [], [], [], [], [], [], [], [], [], [], [2067], [], [], [3148, 3149, 3150]]
  | none => false) = true := by decide +kernel
set_option maxRecDepth 100000 in
theorem okX10_shares : (match mtab[94]? with
  | some mi => acokB mi [[], [], [], [], [], [], [2075], [], [], [], [], [2081], [], [], [], [], [], [], [], [2075], [], [], [2081], [], [], [], [], [2081], [], [], [], [2076], [1199], [], [], [], [], [2074], [], [], [], [], [], [], [], [], [], [2081], [], [2075], [], [], [], [], [], [4057, 4059, 24], [], [4066, 4068, 26]]
  | none => false) = true := by decide +kernel
set_option maxRecDepth 100000 in
theorem okX10_fast : (match mtab[95]? with
  | some mi => acokB mi [[], [], [], [], [], [], [2075], [], [], [], [], [], [2075], [], [], [], [], [], [], [], [4074, 4076, 27], [], [], [], [], [], [], [], [], [], [], [4074, 4076, 27], [], [], [], [], [3222, 3223], [], [3222, 3223], [], [], [], [], [], [], [], [], [2067], [], [3222, 3223], [], [], [], [3105, 3106, 3107]]
  | none => false) = true := by decide +kernel
set_option maxRecDepth 100000 in
theorem okX10_seen : (match mtab[96]? with
  | some mi => acokB mi [[], [], [], [], [], [], [], [], [], [], [], [], [], [2080], [2054], [], [], [], [], [], [2080], [2054], [], [], [], [], [], [2080], [2052], [], [], [], [], [2080], [2052], [], [], [], [], [], [2080], [2054], [], [], [], [], [2080], [], [2052], [], [], [2052], [], [2080], [2052]]
  | none => false) = true := by decide +kernel
set_option maxRecDepth 100000 in
theorem okX10_forget : (match mtab[97]? with
  | some mi => acokB mi [[], [2080], [2052], [], [], [2080], [4086, 4087, 4088]]
  | none => false) = true := by decide +kernel
set_option maxRecDepth 100000 in
theorem okX10_ordered : (match mtab[98]? with
  | some mi => acokB mi [[], [2080], [2052], [], [], [], [], [2080], [4094, 4095, 4096], [], [], [2080], [], [4098, 4099, 4100], [], [2067], [3212, 3110, 3111], [], [2080], [2056], [], [], [], [], [], [], [], [], [], [], [], [], [], [], [], [], [], [2080], [], [], [4107, 4108, 4109], [], [], [2067], [], [], [3213, 3114, 3115], [], [], [], [4111, 3099], [], [], [], [], [4112], [], [], [4065]]
  | none => false) = true := by decide +kernel
set_option maxRecDepth 100000 in
theorem okX10_unsure : (match mtab[99]? with
  | some mi => acokB mi [[], [2080], [2052], [], [], [], [], [2080], [4094, 4095, 4096], [], [], [2080], [], [4098, 4099, 4100], [], [], [2080], [], [4117, 4118, 4119], [], [], [], [], [], [], [], [], [], [], [], [], [], [], [], [], [4121, 3178], [], [2080], [], [4117, 4118, 4119], [], [], [], [3222, 3223], [], [3222, 3223], [], [], [], [], [], [], [], [], [2067], [], [], [3148, 3149, 3150]]
  | none => false) = true := by decide +kernel
set_option maxRecDepth 100000 in
theorem okX10_boy : (match mtab[100]? with
  | some mi => acokB mi [[], [], [], [4048], [], [], [], [], [], [], [], [], [], [], [], [], [], [], [], [], [2067], [], [], [4126, 4128, 29], [], [], [2068], [1089], [], [], [], [], [], [4130], [3148, 3149, 3150], [], [], [4131, 4133, 30]]
  | none => false) = true := by decide +kernel
set_option maxRecDepth 100000 in
theorem okX10_meets : (match mtab[101]? with
  | some mi => acokB mi [[], [], [], [], [], [], [], [], [], [2068], [1089], [], [], [], [], [], [], [], [], [], [], [], [], [], [], [4131, 4133, 30], [], [], [], [], [], [], [4131, 4133, 30], [], [], [2067], [], [], [3148, 3149, 3150]]
  | none => false) = true := by decide +kernel
set_option maxRecDepth 100000 in
theorem okX10_knows : (match mtab[102]? with
  | some mi => acokB mi [[], [], [], [], [], [], [], [], [], [], [], [], [], [2067], [], [], [], [], [], [4030, 4031], [], [], [], [4033], [], [], [], [4030, 4031], [4034, 4035, 4036]]
  | none => false) = true := by decide +kernel
set_option maxRecDepth 100000 in
theorem okX10_mutiny : (match mtab[103]? with
  | some mi => acokB mi [[], [], [], [], [], [], [], [], [], [], [], [], [], [], [], [], [], [], [], [], [], [2067], [3212, 3110, 3111], [], [], [], [], [], [], [], [3008], [], [], [], [], [], [], [3008], [], [], [], [], [], [4147, 4148], [], [], [], [], [], [4147, 4148], [], [], [], [], [2067], [], [], [], [], [3105, 3106, 3107]]
  | none => false) = true := by decide +kernel
set_option maxRecDepth 100000 in
theorem okX10_chance : (match mtab[104]? with
  | some mi => acokB mi [[], [], [], [], [], [], [], [], [], [], [], [], [], [], [], [], [], [], [], [], [], [2076], [1182], [3016, 3018, 6], [], [], [2067], [], [], [4034, 4035, 4036], [], [], [2067], [], [], [], [], [], [4030, 4031], [4033], [], [4030, 4031], [4034, 4035, 4036]]
  | none => false) = true := by decide +kernel
set_option maxRecDepth 100000 in
theorem okX10_voyages : (match mtab[105]? with
  | some mi => acokB mi [[], [], [], [], [], [], [], [], [], [2077], [], [2076], [3127, 3056, 3057], [], [], [], [], [], [], [], [], [], [], [4161], [], [], [], [], [], [], [], [], [], [], [], [], [], [], [3043, 3045, 9], [], [], [], [], [], [], [], [3062, 3064, 10], [], [], [], [3090, 3092, 13], [], [], [], [], [2076], [1187], [], [2077], [1187], [], [], [], [2067], [], [2076], [1185], [], [], [], [3105, 3106, 3107], [], [2076], [], [2077], [3127, 3056, 3057]]
  | none => false) = true := by decide +kernel
set_option maxRecDepth 100000 in
theorem okX10_keep : (match mtab[106]? with
  | some mi => acokB mi [[], [], [], [], [], [], [], [], [2078], [1235], [], [], [], [2076], [3127, 3056, 3057], [], [2078], [1237]]
  | none => false) = true := by decide +kernel
set_option maxRecDepth 100000 in
theorem okX10_again : (match mtab[107]? with
  | some mi => acokB mi [[], [], [], [], [], [], [2078], [1237], [], [], [], [], [], [], [2076], [], [2078], [1235], [], [], [3127, 3056, 3057], [], [2078], [], [1233]]
  | none => false) = true := by decide +kernel
set_option maxRecDepth 100000 in
theorem okX10_count : (match mtab[108]? with
  | some mi => acokB mi [[], [67], [], [2068], [1089], [], [], [2068], [1091], [], [], [2068], [1095], [], [], [2073], [1162], [], [], [2075], [], [], [2076], [1182], [], [], [2076], [1185], [], [], [2076], [1187], [], [], [2076], [1191], [], [], [2080], [2052], [], [], [2078], [1233], [], [], [2067], [1074], [], [], [2066], [1041]]
  | none => false) = true := by decide +kernel
set_option maxRecDepth 100000 in
theorem okX10_row : (match mtab[109]? with
  | some mi => acokB mi []
  | none => false) = true := by decide +kernel
set_option maxRecDepth 100000 in
theorem okX10_isDigit : (match mtab[110]? with
  | some mi => acokB mi []
  | none => false) = true := by decide +kernel
set_option maxRecDepth 100000 in
theorem okX10_readMesses : (match mtab[111]? with
  | some mi => acokB mi [[], [2075], [], [], [], [], [], [], [], [], [], [], [2066], [1046], [], [], [2066], [], [2194, 2146, 2147], [], [], [], [], [], [2066], [], [2195, 2162, 2163], [], [], [2066], [1046], [], [], [2066], [], [2194, 2146, 2147], [], [], [], [], [], [2066], [1046], [], [], [2076], [1199], [], [], [], [], [2076], [1201], [], [], [], [], [2074], [], [], [], [], [], [2066], [2196, 2157, 2158], [], [], [], [2066], [], [2195, 2162, 2163], [], [], [2066], [1046], [], [], [], [], [2066], [2197, 2170, 2171], [], [], [], [], [], [], [], [], [2075], [2075]]
  | none => false) = true := by decide +kernel
set_option maxRecDepth 100000 in
theorem okX10_voyageFault : (match mtab[112]? with
  | some mi => acokB mi [[], [], [], [], [], [], [2066], [2196, 2157, 2158], [], [], [2066], [3125, 2150, 2151], [], [], [2066], [], [1046], [], [], [1046], [], [], [], [], [2066], [3125, 2150, 2151], [3126, 2154], [], [], [2066], [1046], [], [], [2066], [], [1046], [], [], [1046], [], [], [], [], [], [], [], [], [], [], [], [], [], [], [], [], [], [2066], [1046], [], [], [], [], [], [], [2066], [2197, 2170, 2171]]
  | none => false) = true := by decide +kernel
set_option maxRecDepth 100000 in
theorem okX10_doVoyageSign : (match mtab[113]? with
  | some mi => acokB mi [[], [2066], [3125, 2150, 2151], [], [], [2066], [], [1046], [], [], [1046], [], [], [], [], [2066], [], [2194, 2146, 2147], [], [], [], [], [], [3074, 3076, 11], [], [], [], [], [], [], [], [3078, 3080, 12], [], [], [], [3126, 2154], [], [], [], [], [], [], [], [3090, 3092, 13], [], [], [], [], [], [], [3043, 3045, 9], [], [], [], [], [], [], [], [3062, 3064, 10]]
  | none => false) = true := by decide +kernel
set_option maxRecDepth 100000 in
theorem okX10_put : (match mtab[114]? with
  | some mi => acokB mi [[], [], [], [3008], [3009]]
  | none => false) = true := by decide +kernel
set_option maxRecDepth 100000 in
theorem okX10_entry : (match mtab[115]? with
  | some mi => acokB mi []
  | none => false) = true := by decide +kernel
set_option maxRecDepth 100000 in
theorem okX10_keepOnSea : (match mtab[116]? with
  | some mi => acokB mi [[], [], [], [3005, 3006]]
  | none => false) = true := by decide +kernel
set_option maxRecDepth 100000 in
theorem okX10_delayAt : (match mtab[117]? with
  | some mi => acokB mi [[], [2070], [1121], [], [], [2068], [1089], [], [], [], [], [], [], [2070], [], [2068], [], [], [], [3020, 3021, 3022], [], [], [], [], [3005, 3006]]
  | none => false) = true := by decide +kernel
set_option maxRecDepth 100000 in
theorem okX10_orderRefusal : (match mtab[118]? with
  | some mi => acokB mi [[], [2076], [3047, 3048, 3049], [], [], [], [], [2076], [1191]]
  | none => false) = true := by decide +kernel
set_option maxRecDepth 100000 in
theorem okX10_giveOrder : (match mtab[119]? with
  | some mi => acokB mi [[], [], [2076], [1182], [3016, 3018, 6], [], [], [2076], [], [], [2068], [1095], [], [], [], [], [], [], [], [], [3066, 3067, 3068]]
  | none => false) = true := by decide +kernel
set_option maxRecDepth 100000 in
theorem okX10_passRefusal : (match mtab[120]? with
  | some mi => acokB mi [[], [], [], [], [2075], [], [], [], [], [], [], [], [], [], [], [], [], [], [], [], [], [], [], [], [], [], [], [], [], [], [], [], [], [], [2075], [], [], [], [], [2076], [1199], [], [], [], [], [], [], [], [2076], [1199]]
  | none => false) = true := by decide +kernel
set_option maxRecDepth 100000 in
theorem okX10_moveFood : (match mtab[121]? with
  | some mi => acokB mi [[], [], [], [], [], [], [], [], [], [], [], [], [2076], [1199], [], [], [], [], [], [], [], [2076], [1199]]
  | none => false) = true := by decide +kernel
set_option maxRecDepth 100000 in
theorem okX10_goStep : (match mtab[122]? with
  | some mi => acokB mi [[], [2076], [], [1182], [], [], [1182], [], [2076], [3094, 3095, 3096], [], [], [], [], [2073], [1162], [], [], [2073], [1164], [], [], [], [2076], [1182], [], [], [2073], [1166], [], [], [], [2076], [1185], [], [], [2076], [], [1187], [], [], [1187], [], [], [], [], [], [], [], [], [2075], [], [], [], [2076], [], [], [2074], [], [], [3101, 3102, 3103]]
  | none => false) = true := by decide +kernel
set_option maxRecDepth 100000 in
theorem okX10_firstFree : (match mtab[123]? with
  | some mi => acokB mi [[], [2076], [3047, 3048, 3049]]
  | none => false) = true := by decide +kernel
set_option maxRecDepth 100000 in
theorem okX10_lookAhead : (match mtab[124]? with
  | some mi => acokB mi [[], [2079], [], [2068], [1095], [], [], [], [], [], [], [], [2026], [], [], [], [], [], [], [2079], [2017], [], [], [], [], [], [], [], [2076], [1182], [], [], [3016, 3018, 6], [], [], [], [2079], [2017], [], [], [], [], [], [], [], [], [], [], [2079], [2019], [], [3164, 2049], [], [], [], [], [2073], [1162], [], [], [2073], [1164], [], [], [], [2076], [1182], [], [], [], [], [], [], [], [], [], [2079], [2019], [], [], [], [], [], [2073], [1166]]
  | none => false) = true := by decide +kernel
set_option maxRecDepth 100000 in
theorem okX10_rocksInLane : (match mtab[125]? with
  | some mi => acokB mi [[], [], [], [], [], [], [2073], [1162], [], [], [2073], [1164], [], [], [], [2076], [1182], [], [], [], [2073], [1166]]
  | none => false) = true := by decide +kernel
set_option maxRecDepth 100000 in
theorem okX10_apart : (match mtab[126]? with
  | some mi => acokB mi [[], [], [2076], [1185], [], [4000]]
  | none => false) = true := by decide +kernel
set_option maxRecDepth 100000 in
theorem okX10_widened : (match mtab[127]? with
  | some mi => acokB mi []
  | none => false) = true := by decide +kernel
set_option maxRecDepth 100000 in
theorem okX10_power : (match mtab[128]? with
  | some mi => acokB mi []
  | none => false) = true := by decide +kernel
set_option maxRecDepth 100000 in
theorem okX10_likelyWord : (match mtab[129]? with
  | some mi => acokB mi [[], [], [], [], [], [], [], [], [], [], [], [], [], [], [], [], [4030, 4031], [], [], [], [], [], [], [], [], [4030, 4031]]
  | none => false) = true := by decide +kernel
set_option maxRecDepth 100000 in
theorem okX10_lastsFor : (match mtab[130]? with
  | some mi => acokB mi [[], [], [], [], [], [], [], [], [], [], [], [2076], [1199], [], [], [], [], [], [], [2074], [], [], [], [], [], [], [], [], [4048]]
  | none => false) = true := by decide +kernel
set_option maxRecDepth 100000 in
theorem okX10_foodLeft : (match mtab[131]? with
  | some mi => acokB mi [[], [], [], [], [], [], [2075], [], [], [], [2076], [1199], [], [], [], [], [], [], [], [], [], [], [], [], [], [], [], [2074]]
  | none => false) = true := by decide +kernel
set_option maxRecDepth 100000 in
theorem okX10_weighPassing : (match mtab[132]? with
  | some mi => acokB mi [[], [2075], [], [], [], [], [], [], [], [], [], [2075], [], [], [2082], [], [], [], [], [2081], [], [], [], [], [], [2081], [], [], [], [4000], [], [], [], [2075], [], [], [], [], [2082], [], [], [], [], [], [], [], [], [], [], [2081], [], [], [4061, 4063, 25]]
  | none => false) = true := by decide +kernel
set_option maxRecDepth 100000 in
theorem okX10_leastPassing : (match mtab[133]? with
  | some mi => acokB mi [[4065], [], [], [], [], [], [2075], [], [], [2081], [], [], [], [], [], [2081], [], [], [], [2081], [], [2075], [], [], [], [], [2082], [], [], [], [], [3008]]
  | none => false) = true := by decide +kernel
set_option maxRecDepth 100000 in
theorem okX10_choosePassing : (match mtab[134]? with
  | some mi => acokB mi [[], [2067], [3212, 3110, 3111], [], [], [], [], [], [], [], [], [2075], [], [], [], [], [], [], [4061, 4063, 25], [], [], [], [], [], [], [], [2075], [], [], [2081], [], [], [], [], [], [2081], [], [], [], [2081], [], [2075], [], [], [], [2082], [], [], [], [], [], [], [], [2081], [], [], [], [], [], [], [], [], [2067], [], [2081], [], [], [], [], [], [], [], [3213, 3114, 3115], [], [], [2081], [], [], [], [], [], [], [4000]]
  | none => false) = true := by decide +kernel
set_option maxRecDepth 100000 in
theorem okX10_lap : (match mtab[135]? with
  | some mi => acokB mi [[], [], [], [2068], [1089], [], [], [3009]]
  | none => false) = true := by decide +kernel
set_option maxRecDepth 100000 in
theorem okX10_cellAfter : (match mtab[136]? with
  | some mi => acokB mi [[], [], [4126, 4128, 29], [], [], [], [], [2068], [1089], [], [], [], [], [4126, 4128, 29]]
  | none => false) = true := by decide +kernel
set_option maxRecDepth 100000 in
theorem okX10_holdsThen : (match mtab[137]? with
  | some mi => acokB mi []
  | none => false) = true := by decide +kernel
set_option maxRecDepth 100000 in
theorem okX10_wantsAnother : (match mtab[138]? with
  | some mi => acokB mi [[], [], [], [], [4150, 4151], [], [], [], [], [], [], [3008], [], [], [], [], [], [4150, 4151]]
  | none => false) = true := by decide +kernel
set_option maxRecDepth 100000 in
theorem okX11_init : (match mtab[139]? with
  | some mi => acokB mi [[], [5036], [], [], [1080], [5039], [], [], [5040], [], [], [1111], [5046], [], [], [2009], [5047], [], [], [1111], [5048], [], [], [1111], [5049], [], [], [1111], [5050], [], [], [1111], [], [], [], [], [], [], [], [], [], [], [], [], [], [], [], [], [], [], [], [], [], [], [], [], [], [], [], [], [], [], [], [], [], [], [], [], [], [], [], [], [], [], [], [], [], [], [], [], [], [], [], [], [], [], [], [], [], [], [], [], [], [], [], [], [], [], [], [], [], [], [], [], [], [], [], [], [], [], [], [], [], [], [], [], [], [], [], [], [], [], [], [], [], [], [], [], [], [], [], [], [], [], [], [], [], [], [], [], [], [], [], [], [], [], [], [], [], [], [], [], [], [], [], [], [], [], [], [], [], [], [], [], [], [], [], [], [], [], [], [], [], [], [], [], [], [], [], [], [], [], [], [], [], [], [], [], [], [], [], [], [], [], [], [], [], [], [], [], [], [], [], [], [], [], [], [], [], [], [], [], [], [], [], [], [], [], [], [], [], [], [], [], [], [], [], [], [], [], [], [], [], [], [], [], [], [], [], [], [], [], [], [], [], [], [], [], [], [], [], [], [], [], [], [], [], [], [], [], [5051], [], [], [1111], [5052], [], [], [1111], [5053], [], [], [1111], [5058], [], [], [1111], [5060], [], [], [1111], [5061], [], [], [1111], [5064], [], [], [1111], [5065], [], [], [1111], [5067], [], [], [1111], [5070], [], [], [1111], [5071], [], [], [1111], [5073], [], [], [1111], [5074], [], [], [1111], [5075], [], [], [1111], [5078], [], [], [1111], [5080], [], [], [1111], [5081], [], [], [1111], [5082], [], [], [2009], [5083], [], [], [2009], [5084], [], [], [2009], [5087], [], [], [1111], [5088], [], [], [1111], [5089]]
  | none => false) = true := by decide +kernel
