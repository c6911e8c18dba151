theorem ic_b_10 : (Int8.ofInt (10)).toInt32 = (10 : Int32) := by decide
theorem ic_b_100 : (Int8.ofInt (100)).toInt32 = (100 : Int32) := by decide
theorem ic_b_12 : (Int8.ofInt (12)).toInt32 = (12 : Int32) := by decide
theorem ic_b_122 : (Int8.ofInt (122)).toInt32 = (122 : Int32) := by decide
theorem ic_b_16 : (Int8.ofInt (16)).toInt32 = (16 : Int32) := by decide
theorem ic_b_18 : (Int8.ofInt (18)).toInt32 = (18 : Int32) := by decide
theorem ic_b_20 : (Int8.ofInt (20)).toInt32 = (20 : Int32) := by decide
theorem ic_b_23 : (Int8.ofInt (23)).toInt32 = (23 : Int32) := by decide
theorem ic_b_24 : (Int8.ofInt (24)).toInt32 = (24 : Int32) := by decide
theorem ic_b_25 : (Int8.ofInt (25)).toInt32 = (25 : Int32) := by decide
theorem ic_b_27 : (Int8.ofInt (27)).toInt32 = (27 : Int32) := by decide
theorem ic_b_30 : (Int8.ofInt (30)).toInt32 = (30 : Int32) := by decide
theorem ic_b_31 : (Int8.ofInt (31)).toInt32 = (31 : Int32) := by decide
theorem ic_b_32 : (Int8.ofInt (32)).toInt32 = (32 : Int32) := by decide
theorem ic_b_33 : (Int8.ofInt (33)).toInt32 = (33 : Int32) := by decide
theorem ic_b_34 : (Int8.ofInt (34)).toInt32 = (34 : Int32) := by decide
theorem ic_b_35 : (Int8.ofInt (35)).toInt32 = (35 : Int32) := by decide
theorem ic_b_36 : (Int8.ofInt (36)).toInt32 = (36 : Int32) := by decide
theorem ic_b_37 : (Int8.ofInt (37)).toInt32 = (37 : Int32) := by decide
theorem ic_b_38 : (Int8.ofInt (38)).toInt32 = (38 : Int32) := by decide
theorem ic_b_39 : (Int8.ofInt (39)).toInt32 = (39 : Int32) := by decide
theorem ic_b_40 : (Int8.ofInt (40)).toInt32 = (40 : Int32) := by decide
theorem ic_b_41 : (Int8.ofInt (41)).toInt32 = (41 : Int32) := by decide
theorem ic_b_42 : (Int8.ofInt (42)).toInt32 = (42 : Int32) := by decide
theorem ic_b_43 : (Int8.ofInt (43)).toInt32 = (43 : Int32) := by decide
theorem ic_b_44 : (Int8.ofInt (44)).toInt32 = (44 : Int32) := by decide
theorem ic_b_45 : (Int8.ofInt (45)).toInt32 = (45 : Int32) := by decide
theorem ic_b_47 : (Int8.ofInt (47)).toInt32 = (47 : Int32) := by decide
theorem ic_b_48 : (Int8.ofInt (48)).toInt32 = (48 : Int32) := by decide
theorem ic_b_57 : (Int8.ofInt (57)).toInt32 = (57 : Int32) := by decide
theorem ic_b_59 : (Int8.ofInt (59)).toInt32 = (59 : Int32) := by decide
theorem ic_b_6 : (Int8.ofInt (6)).toInt32 = (6 : Int32) := by decide
theorem ic_b_60 : (Int8.ofInt (60)).toInt32 = (60 : Int32) := by decide
theorem ic_b_61 : (Int8.ofInt (61)).toInt32 = (61 : Int32) := by decide
theorem ic_b_62 : (Int8.ofInt (62)).toInt32 = (62 : Int32) := by decide
theorem ic_b_64 : (Int8.ofInt (64)).toInt32 = (64 : Int32) := by decide
theorem ic_b_7 : (Int8.ofInt (7)).toInt32 = (7 : Int32) := by decide
theorem ic_b_8 : (Int8.ofInt (8)).toInt32 = (8 : Int32) := by decide
theorem ic_b_80 : (Int8.ofInt (80)).toInt32 = (80 : Int32) := by decide
theorem ic_b_91 : (Int8.ofInt (91)).toInt32 = (91 : Int32) := by decide
theorem ic_b_93 : (Int8.ofInt (93)).toInt32 = (93 : Int32) := by decide
theorem ic_b_97 : (Int8.ofInt (97)).toInt32 = (97 : Int32) := by decide
theorem ic_b_99 : (Int8.ofInt (99)).toInt32 = (99 : Int32) := by decide
theorem ic_b_m10 : (Int8.ofInt (-10)).toInt32 = (-10 : Int32) := by decide
theorem ic_b_m11 : (Int8.ofInt (-11)).toInt32 = (-11 : Int32) := by decide
theorem ic_b_m12 : (Int8.ofInt (-12)).toInt32 = (-12 : Int32) := by decide
theorem ic_b_m13 : (Int8.ofInt (-13)).toInt32 = (-13 : Int32) := by decide
theorem ic_b_m14 : (Int8.ofInt (-14)).toInt32 = (-14 : Int32) := by decide
theorem ic_b_m15 : (Int8.ofInt (-15)).toInt32 = (-15 : Int32) := by decide
theorem ic_b_m16 : (Int8.ofInt (-16)).toInt32 = (-16 : Int32) := by decide
theorem ic_b_m17 : (Int8.ofInt (-17)).toInt32 = (-17 : Int32) := by decide
theorem ic_b_m18 : (Int8.ofInt (-18)).toInt32 = (-18 : Int32) := by decide
theorem ic_b_m19 : (Int8.ofInt (-19)).toInt32 = (-19 : Int32) := by decide
theorem ic_b_m2 : (Int8.ofInt (-2)).toInt32 = (-2 : Int32) := by decide
theorem ic_b_m3 : (Int8.ofInt (-3)).toInt32 = (-3 : Int32) := by decide
theorem ic_b_m4 : (Int8.ofInt (-4)).toInt32 = (-4 : Int32) := by decide
theorem ic_b_m5 : (Int8.ofInt (-5)).toInt32 = (-5 : Int32) := by decide
theorem ic_b_m6 : (Int8.ofInt (-6)).toInt32 = (-6 : Int32) := by decide
theorem ic_b_m7 : (Int8.ofInt (-7)).toInt32 = (-7 : Int32) := by decide
theorem ic_b_m8 : (Int8.ofInt (-8)).toInt32 = (-8 : Int32) := by decide
theorem ic_b_m9 : (Int8.ofInt (-9)).toInt32 = (-9 : Int32) := by decide
theorem ic_i_0 : Int32.ofInt (0) = (0 : Int32) := by decide
theorem ic_i_1 : Int32.ofInt (1) = (1 : Int32) := by decide
theorem ic_i_2 : Int32.ofInt (2) = (2 : Int32) := by decide
theorem ic_i_3 : Int32.ofInt (3) = (3 : Int32) := by decide
theorem ic_i_4 : Int32.ofInt (4) = (4 : Int32) := by decide
theorem ic_i_5 : Int32.ofInt (5) = (5 : Int32) := by decide
theorem ic_i_m1 : Int32.ofInt (-1) = (-1 : Int32) := by decide
theorem ic_i_m2 : Int32.ofInt (-2) = (-2 : Int32) := by decide
theorem ic_i_m8 : Int32.ofInt (-8) = (-8 : Int32) := by decide
theorem ic_s_1600 : (Int16.ofInt (1600)).toInt32 = (1600 : Int32) := by decide
theorem ic_s_227 : (Int16.ofInt (227)).toInt32 = (227 : Int32) := by decide
theorem ic_s_251 : (Int16.ofInt (251)).toInt32 = (251 : Int32) := by decide
theorem ic_s_255 : (Int16.ofInt (255)).toInt32 = (255 : Int32) := by decide
theorem ic_s_256 : (Int16.ofInt (256)).toInt32 = (256 : Int32) := by decide
theorem ic_s_257 : (Int16.ofInt (257)).toInt32 = (257 : Int32) := by decide
theorem ic_s_258 : (Int16.ofInt (258)).toInt32 = (258 : Int32) := by decide
theorem ic_s_259 : (Int16.ofInt (259)).toInt32 = (259 : Int32) := by decide
theorem ic_s_260 : (Int16.ofInt (260)).toInt32 = (260 : Int32) := by decide
theorem ic_s_261 : (Int16.ofInt (261)).toInt32 = (261 : Int32) := by decide
theorem ic_s_262 : (Int16.ofInt (262)).toInt32 = (262 : Int32) := by decide
theorem ic_s_265 : (Int16.ofInt (265)).toInt32 = (265 : Int32) := by decide
theorem ic_s_266 : (Int16.ofInt (266)).toInt32 = (266 : Int32) := by decide
theorem ic_s_268 : (Int16.ofInt (268)).toInt32 = (268 : Int32) := by decide
theorem ic_s_270 : (Int16.ofInt (270)).toInt32 = (270 : Int32) := by decide
theorem ic_s_271 : (Int16.ofInt (271)).toInt32 = (271 : Int32) := by decide
theorem ic_s_279 : (Int16.ofInt (279)).toInt32 = (279 : Int32) := by decide
theorem ic_s_280 : (Int16.ofInt (280)).toInt32 = (280 : Int32) := by decide
theorem ic_s_281 : (Int16.ofInt (281)).toInt32 = (281 : Int32) := by decide
theorem ic_s_999 : (Int16.ofInt (999)).toInt32 = (999 : Int32) := by decide
theorem ic_s_9999 : (Int16.ofInt (9999)).toInt32 = (9999 : Int32) := by decide
theorem kLX_0 : isK LX 0 11 := ⟨rfl, by decide⟩
theorem kLX_1 : isK LX 1 4 := ⟨rfl, by decide⟩
theorem kLX_2 : isK LX 2 3 := ⟨rfl, by decide⟩
theorem kLX_3 : isK LX 3 8 := ⟨rfl, by decide⟩
theorem kLX_4 : isK LX 4 13 := ⟨rfl, by decide⟩
theorem kLX_5 : isK LX 5 7 := ⟨rfl, by decide⟩
theorem kLX_6 : isK LX 6 13 := ⟨rfl, by decide⟩
theorem kLX_7 : isK LX 7 1 := ⟨rfl, by decide⟩
theorem kLX_8 : isK LX 8 13 := ⟨rfl, by decide⟩
theorem kLX_9 : isK LX 9 13 := ⟨rfl, by decide⟩
theorem kLX_10 : isK LX 10 6 := ⟨rfl, by decide⟩
theorem kLX_11 : isK LX 11 13 := ⟨rfl, by decide⟩
theorem kLX_12 : isK LX 12 13 := ⟨rfl, by decide⟩
theorem kLX_13 : isK LX 13 13 := ⟨rfl, by decide⟩
theorem kLX_14 : isK LX 14 13 := ⟨rfl, by decide⟩
theorem kLX_15 : isK LX 15 13 := ⟨rfl, by decide⟩
theorem kLX_16 : isK LX 16 2 := ⟨rfl, by decide⟩
theorem kLX_17 : isK LX 17 16 := ⟨rfl, by decide⟩
theorem kLX_18 : isK LX 18 10 := ⟨rfl, by decide⟩
theorem kLX_19 : isK LX 19 13 := ⟨rfl, by decide⟩
theorem kLX_20 : isK LX 20 13 := ⟨rfl, by decide⟩
theorem kLX_21 : isK LX 21 5 := ⟨rfl, by decide⟩
theorem kLX_22 : isK LX 22 13 := ⟨rfl, by decide⟩
theorem kLX_23 : isK LX 23 13 := ⟨rfl, by decide⟩
theorem kLX_24 : isK LX 24 13 := ⟨rfl, by decide⟩
theorem kLX_25 : isK LX 25 16 := ⟨rfl, by decide⟩
theorem kLX_26 : isK LX 26 13 := ⟨rfl, by decide⟩
theorem kLX_27 : isK LX 27 13 := ⟨rfl, by decide⟩
theorem kLX_28 : isK LX 28 13 := ⟨rfl, by decide⟩
theorem kLX_29 : isK LX 29 13 := ⟨rfl, by decide⟩
theorem kLX_30 : isK LX 30 13 := ⟨rfl, by decide⟩
theorem kLY_0 : isK LY 0 12 := ⟨rfl, by decide⟩
theorem kLY_1 : isK LY 1 13 := ⟨rfl, by decide⟩
theorem kLY_2 : isK LY 2 13 := ⟨rfl, by decide⟩
theorem kLY_3 : isK LY 3 13 := ⟨rfl, by decide⟩
theorem kLY_4 : isK LY 4 13 := ⟨rfl, by decide⟩
theorem kLY_5 : isK LY 5 13 := ⟨rfl, by decide⟩
theorem kLY_6 : isK LY 6 13 := ⟨rfl, by decide⟩
theorem kLY_7 : isK LY 7 13 := ⟨rfl, by decide⟩
theorem kLY_8 : isK LY 8 13 := ⟨rfl, by decide⟩
theorem kLY_9 : isK LY 9 13 := ⟨rfl, by decide⟩
theorem kLY_10 : isK LY 10 13 := ⟨rfl, by decide⟩
theorem kLY_11 : isK LY 11 13 := ⟨rfl, by decide⟩
theorem kLY_12 : isK LY 12 13 := ⟨rfl, by decide⟩
theorem kLY_13 : isK LY 13 13 := ⟨rfl, by decide⟩
theorem kLY_14 : isK LY 14 13 := ⟨rfl, by decide⟩
theorem kLY_15 : isK LY 15 13 := ⟨rfl, by decide⟩
theorem kLY_16 : isK LY 16 13 := ⟨rfl, by decide⟩
theorem kLY_17 : isK LY 17 13 := ⟨rfl, by decide⟩
theorem kLY_18 : isK LY 18 14 := ⟨rfl, by decide⟩
theorem kLY_19 : isK LY 19 14 := ⟨rfl, by decide⟩
theorem kLY_20 : isK LY 20 14 := ⟨rfl, by decide⟩
theorem kLY_21 : isK LY 21 13 := ⟨rfl, by decide⟩
theorem kLY_22 : isK LY 22 13 := ⟨rfl, by decide⟩
theorem kLY_23 : isK LY 23 15 := ⟨rfl, by decide⟩
theorem kLY_24 : isK LY 24 13 := ⟨rfl, by decide⟩
theorem kLY_25 : isK LY 25 13 := ⟨rfl, by decide⟩
theorem kLY_26 : isK LY 26 13 := ⟨rfl, by decide⟩
theorem kLY_27 : isK LY 27 13 := ⟨rfl, by decide⟩
theorem kLY_28 : isK LY 28 13 := ⟨rfl, by decide⟩
theorem kLY_29 : isK LY 29 13 := ⟨rfl, by decide⟩
theorem kLY_30 : isK LY 30 13 := ⟨rfl, by decide⟩
theorem kLY_31 : isK LY 31 13 := ⟨rfl, by decide⟩
theorem kLY_32 : isK LY 32 13 := ⟨rfl, by decide⟩
theorem kLY_33 : isK LY 33 13 := ⟨rfl, by decide⟩
theorem kLY_34 : isK LY 34 14 := ⟨rfl, by decide⟩
theorem kLY_35 : isK LY 35 13 := ⟨rfl, by decide⟩
theorem kLY_36 : isK LY 36 13 := ⟨rfl, by decide⟩
theorem kLY_37 : isK LY 37 13 := ⟨rfl, by decide⟩
theorem kLY_38 : isK LY 38 13 := ⟨rfl, by decide⟩
theorem kLY_39 : isK LY 39 13 := ⟨rfl, by decide⟩
theorem kLY_40 : isK LY 40 13 := ⟨rfl, by decide⟩
theorem kLY_41 : isK LY 41 13 := ⟨rfl, by decide⟩
theorem kLY_42 : isK LY 42 13 := ⟨rfl, by decide⟩
theorem kLY_43 : isK LY 43 13 := ⟨rfl, by decide⟩
theorem in_of (ws : List Cond) (ps : List Nat) (hp : ws = ps.filterMap (fun i => lw_tbl[i]?)) (h : ws.all goodWord = true) : ∀ w ∈ ws, w ∈ lw_g := fun w hw => by
  have h1 := List.all_eq_true.mp h w hw
  rw [hp] at hw
  obtain ⟨i, -, hi⟩ := List.mem_filterMap.mp hw
  exact mem_g (List.mem_of_getElem? hi) h1
theorem inX0 : ∀ w ∈ u_ws RX0 TX0 2, w ∈ lw_g := in_of _ [183, 185] (by decide +kernel) (by decide +kernel)
theorem inX1 : ∀ w ∈ u_ws RX1 TX1 8, w ∈ lw_g := in_of _ [429, 431, 433, 435, 437, 439, 441, 443] (by decide +kernel) (by decide +kernel)
theorem inX2 : ∀ w ∈ u_ws RX2 TX2 3, w ∈ lw_g := in_of _ [496, 498, 500] (by decide +kernel) (by decide +kernel)
theorem inX3 : ∀ w ∈ u_ws RX3 TX3 3, w ∈ lw_g := in_of _ [392, 394, 396] (by decide +kernel) (by decide +kernel)
theorem inX4 : ∀ w ∈ u_ws RX4 TX4 3, w ∈ lw_g := in_of _ [403, 405, 407] (by decide +kernel) (by decide +kernel)
theorem inX5 : ∀ w ∈ u_ws RX5 TX5 5, w ∈ lw_g := in_of _ [529, 531, 533, 535, 537] (by decide +kernel) (by decide +kernel)
theorem inX6 : ∀ w ∈ u_ws RX6 TX6 8, w ∈ lw_g := in_of _ [467, 469, 471, 473, 475, 477, 479, 481] (by decide +kernel) (by decide +kernel)
theorem inX7 : ∀ w ∈ u_ws RX7 TX7 2, w ∈ lw_g := in_of _ [160, 162] (by decide +kernel) (by decide +kernel)
theorem inX8 : ∀ w ∈ u_ws RX8 TX8 9, w ∈ lw_g := in_of _ [363, 365, 367, 369, 371, 373, 375, 377, 379] (by decide +kernel) (by decide +kernel)
theorem inX9 : ∀ w ∈ u_ws RX9 TX9 19, w ∈ lw_g := in_of _ [243, 245, 247, 249, 251, 253, 255, 257, 259, 261, 263, 265, 267, 269, 271, 273, 275, 277, 279] (by decide +kernel) (by decide +kernel)
theorem inX10 : ∀ w ∈ u_ws RX10 TX10 2, w ∈ lw_g := in_of _ [511, 513] (by decide +kernel) (by decide +kernel)
theorem inX11 : ∀ w ∈ u_ws RX11 TX11 18, w ∈ lw_g := in_of _ [626, 628, 630, 632, 634, 636, 638, 640, 642, 644, 646, 648, 650, 652, 654, 656, 658, 660] (by decide +kernel) (by decide +kernel)
theorem inX12 : ∀ w ∈ u_ws RX12 TX12 68, w ∈ lw_g := in_of _ [1310, 1312, 1314, 1316, 1318, 1320, 1322, 1324, 1326, 1328, 1330, 1332, 1334, 1336, 1338, 1340, 1342, 1344, 1346, 1348, 1350, 1352, 1354, 1356, 1358, 1360, 1362, 1364, 1366, 1368, 1370, 1372, 1374, 1376, 1378, 1380, 1382, 1384, 1386, 1388, 1390, 1392, 1394, 1396, 1398, 1400, 1402, 1404, 1406, 1408, 1410, 1412, 1414, 1416, 1418, 1420, 1422, 1424, 1426, 1428, 1430, 1432, 1434, 1436, 1438, 1440, 1442, 1444] (by decide +kernel) (by decide +kernel)
theorem w0 : Cond.selects "PalmHours" ⟨"PalmHours", "begin", "()V"⟩ ⟨"PalmHours", "begin", "()V"⟩ ∈ lw_g := mem_g (List.mem_of_getElem? (i := 0) (by decide +kernel)) (by decide +kernel)
theorem w1 : Cond.selects "PalmHours$State" ⟨"PalmHours$State", "isDue", "(ILPalmHours$Palm;)Z"⟩ ⟨"PalmHours$State", "isDue", "(ILPalmHours$Palm;)Z"⟩ ∈ lw_g := mem_g (List.mem_of_getElem? (i := 1) (by decide +kernel)) (by decide +kernel)
theorem w2 : Cond.selects "PalmHours$Palm" ⟨"PalmHours$Palm", "valueOf", "(LPalmHours$Formula;)I"⟩ ⟨"PalmHours$Palm", "valueOf", "(LPalmHours$Formula;)I"⟩ ∈ lw_g := mem_g (List.mem_of_getElem? (i := 2) (by decide +kernel)) (by decide +kernel)
theorem w3 : Cond.selects "PalmHours$Palm" ⟨"PalmHours$Palm", "join", "(I)V"⟩ ⟨"PalmHours$Palm", "join", "(I)V"⟩ ∈ lw_g := mem_g (List.mem_of_getElem? (i := 3) (by decide +kernel)) (by decide +kernel)
theorem w4 : Cond.selects "PalmHours$State" ⟨"PalmHours$State", "keep", "(I)V"⟩ ⟨"PalmHours$State", "keep", "(I)V"⟩ ∈ lw_g := mem_g (List.mem_of_getElem? (i := 4) (by decide +kernel)) (by decide +kernel)
theorem w5 : Cond.selects "PalmHours" ⟨"PalmHours", "refuse", "(I)I"⟩ ⟨"PalmHours", "refuse", "(I)I"⟩ ∈ lw_g := mem_g (List.mem_of_getElem? (i := 5) (by decide +kernel)) (by decide +kernel)
theorem w6 : Cond.selects "PalmHours$Tokens" ⟨"PalmHours$Tokens", "isWordOrNumber", "()Z"⟩ ⟨"PalmHours$Tokens", "isWordOrNumber", "()Z"⟩ ∈ lw_g := mem_g (List.mem_of_getElem? (i := 6) (by decide +kernel)) (by decide +kernel)
theorem w7 : Cond.selects "PalmHours$Tokens" ⟨"PalmHours$Tokens", "skipBlanks", "()V"⟩ ⟨"PalmHours$Tokens", "skipBlanks", "()V"⟩ ∈ lw_g := mem_g (List.mem_of_getElem? (i := 7) (by decide +kernel)) (by decide +kernel)
theorem w8 : Cond.selects "PalmHours$Tokens" ⟨"PalmHours$Tokens", "readWord", "()V"⟩ ⟨"PalmHours$Tokens", "readWord", "()V"⟩ ∈ lw_g := mem_g (List.mem_of_getElem? (i := 8) (by decide +kernel)) (by decide +kernel)
theorem w9 : Cond.selects "PalmHours$Tokens" ⟨"PalmHours$Tokens", "kindOf", "(I)I"⟩ ⟨"PalmHours$Tokens", "kindOf", "(I)I"⟩ ∈ lw_g := mem_g (List.mem_of_getElem? (i := 9) (by decide +kernel)) (by decide +kernel)
theorem w10 : Cond.selects "PalmHours$Tokens" ⟨"PalmHours$Tokens", "readNumber", "()V"⟩ ⟨"PalmHours$Tokens", "readNumber", "()V"⟩ ∈ lw_g := mem_g (List.mem_of_getElem? (i := 10) (by decide +kernel)) (by decide +kernel)
theorem w11 : Cond.selects "PalmHours$Reader" ⟨"PalmHours$Reader", "readStatement", "()Z"⟩ ⟨"PalmHours$Reader", "readStatement", "()Z"⟩ ∈ lw_g := mem_g (List.mem_of_getElem? (i := 11) (by decide +kernel)) (by decide +kernel)
theorem w12 : Cond.selects "PalmHours$Reader" ⟨"PalmHours$Reader", "skipFirst", "(Z)Z"⟩ ⟨"PalmHours$Reader", "skipFirst", "(Z)Z"⟩ ∈ lw_g := mem_g (List.mem_of_getElem? (i := 12) (by decide +kernel)) (by decide +kernel)
theorem w13 : Cond.selects "PalmHours$Reader" ⟨"PalmHours$Reader", "readThing", "()Z"⟩ ⟨"PalmHours$Reader", "readThing", "()Z"⟩ ∈ lw_g := mem_g (List.mem_of_getElem? (i := 13) (by decide +kernel)) (by decide +kernel)
theorem w14 : Cond.selects "PalmHours$Reader" ⟨"PalmHours$Reader", "newName", "()I"⟩ ⟨"PalmHours$Reader", "newName", "()I"⟩ ∈ lw_g := mem_g (List.mem_of_getElem? (i := 14) (by decide +kernel)) (by decide +kernel)
theorem w15 : Cond.selects "PalmHours$Reader" ⟨"PalmHours$Reader", "number", "(II)I"⟩ ⟨"PalmHours$Reader", "number", "(II)I"⟩ ∈ lw_g := mem_g (List.mem_of_getElem? (i := 15) (by decide +kernel)) (by decide +kernel)
theorem w16 : Cond.selects "PalmHours$Reader" ⟨"PalmHours$Reader", "readCorner", "()Z"⟩ ⟨"PalmHours$Reader", "readCorner", "()Z"⟩ ∈ lw_g := mem_g (List.mem_of_getElem? (i := 16) (by decide +kernel)) (by decide +kernel)
theorem w17 : Cond.selects "PalmHours$Reader" ⟨"PalmHours$Reader", "readRoad", "()Z"⟩ ⟨"PalmHours$Reader", "readRoad", "()Z"⟩ ∈ lw_g := mem_g (List.mem_of_getElem? (i := 17) (by decide +kernel)) (by decide +kernel)
theorem w18 : Cond.selects "PalmHours$Reader" ⟨"PalmHours$Reader", "cornerHere", "()I"⟩ ⟨"PalmHours$Reader", "cornerHere", "()I"⟩ ∈ lw_g := mem_g (List.mem_of_getElem? (i := 18) (by decide +kernel)) (by decide +kernel)
theorem w19 : Cond.selects "PalmHours$Reader" ⟨"PalmHours$Reader", "readPalm", "()Z"⟩ ⟨"PalmHours$Reader", "readPalm", "()Z"⟩ ∈ lw_g := mem_g (List.mem_of_getElem? (i := 19) (by decide +kernel)) (by decide +kernel)
theorem w20 : Cond.selects "PalmHours$Reader" ⟨"PalmHours$Reader", "readDoing", "()Z"⟩ ⟨"PalmHours$Reader", "readDoing", "()Z"⟩ ∈ lw_g := mem_g (List.mem_of_getElem? (i := 20) (by decide +kernel)) (by decide +kernel)
theorem w21 : Cond.selects "PalmHours$Phrases" ⟨"PalmHours$Phrases", "readSum", "(I)Z"⟩ ⟨"PalmHours$Phrases", "readSum", "(I)Z"⟩ ∈ lw_g := mem_g (List.mem_of_getElem? (i := 21) (by decide +kernel)) (by decide +kernel)
theorem w22 : Cond.selects "PalmHours$Phrases" ⟨"PalmHours$Phrases", "readProduct", "(I)Z"⟩ ⟨"PalmHours$Phrases", "readProduct", "(I)Z"⟩ ∈ lw_g := mem_g (List.mem_of_getElem? (i := 22) (by decide +kernel)) (by decide +kernel)
theorem w23 : Cond.selects "PalmHours$Phrases" ⟨"PalmHours$Phrases", "readPart", "(I)Z"⟩ ⟨"PalmHours$Phrases", "readPart", "(I)Z"⟩ ∈ lw_g := mem_g (List.mem_of_getElem? (i := 23) (by decide +kernel)) (by decide +kernel)
theorem w24 : Cond.selects "PalmHours$Phrases" ⟨"PalmHours$Phrases", "addAndAdvance", "(I)Z"⟩ ⟨"PalmHours$Phrases", "addAndAdvance", "(I)Z"⟩ ∈ lw_g := mem_g (List.mem_of_getElem? (i := 24) (by decide +kernel)) (by decide +kernel)
theorem w25 : Cond.selects "PalmHours$Phrases" ⟨"PalmHours$Phrases", "readPair", "(II)Z"⟩ ⟨"PalmHours$Phrases", "readPair", "(II)Z"⟩ ∈ lw_g := mem_g (List.mem_of_getElem? (i := 25) (by decide +kernel)) (by decide +kernel)
theorem w26 : Cond.selects "PalmHours$Phrases" ⟨"PalmHours$Phrases", "goIn", "(II)Z"⟩ ⟨"PalmHours$Phrases", "goIn", "(II)Z"⟩ ∈ lw_g := mem_g (List.mem_of_getElem? (i := 26) (by decide +kernel)) (by decide +kernel)
theorem w27 : Cond.selects "PalmHours$Phrases" ⟨"PalmHours$Phrases", "add", "(I)Z"⟩ ⟨"PalmHours$Phrases", "add", "(I)Z"⟩ ∈ lw_g := mem_g (List.mem_of_getElem? (i := 27) (by decide +kernel)) (by decide +kernel)
theorem w28 : Cond.selects "PalmHours$Phrases" ⟨"PalmHours$Phrases", "readChoice", "(I)Z"⟩ ⟨"PalmHours$Phrases", "readChoice", "(I)Z"⟩ ∈ lw_g := mem_g (List.mem_of_getElem? (i := 28) (by decide +kernel)) (by decide +kernel)
theorem w29 : Cond.selects "PalmHours$Phrases" ⟨"PalmHours$Phrases", "readTest", "(I)Z"⟩ ⟨"PalmHours$Phrases", "readTest", "(I)Z"⟩ ∈ lw_g := mem_g (List.mem_of_getElem? (i := 29) (by decide +kernel)) (by decide +kernel)
theorem w30 : Cond.selects "PalmHours$Phrases" ⟨"PalmHours$Phrases", "readBoth", "(I)Z"⟩ ⟨"PalmHours$Phrases", "readBoth", "(I)Z"⟩ ∈ lw_g := mem_g (List.mem_of_getElem? (i := 30) (by decide +kernel)) (by decide +kernel)
theorem w31 : Cond.selects "PalmHours$Phrases" ⟨"PalmHours$Phrases", "readFact", "(I)Z"⟩ ⟨"PalmHours$Phrases", "readFact", "(I)Z"⟩ ∈ lw_g := mem_g (List.mem_of_getElem? (i := 31) (by decide +kernel)) (by decide +kernel)
theorem w32 : Cond.selects "PalmHours$Phrases" ⟨"PalmHours$Phrases", "readComparison", "(I)Z"⟩ ⟨"PalmHours$Phrases", "readComparison", "(I)Z"⟩ ∈ lw_g := mem_g (List.mem_of_getElem? (i := 32) (by decide +kernel)) (by decide +kernel)
theorem w33 : Cond.selects "PalmHours$Phrases" ⟨"PalmHours$Phrases", "comparisonStep", "()I"⟩ ⟨"PalmHours$Phrases", "comparisonStep", "()I"⟩ ∈ lw_g := mem_g (List.mem_of_getElem? (i := 33) (by decide +kernel)) (by decide +kernel)
theorem w34 : Cond.selects "PalmHours$Phrases" ⟨"PalmHours$Phrases", "productStep", "()I"⟩ ⟨"PalmHours$Phrases", "productStep", "()I"⟩ ∈ lw_g := mem_g (List.mem_of_getElem? (i := 34) (by decide +kernel)) (by decide +kernel)
theorem w35 : Cond.selects "PalmHours$Phrases" ⟨"PalmHours$Phrases", "sumStep", "()I"⟩ ⟨"PalmHours$Phrases", "sumStep", "()I"⟩ ∈ lw_g := mem_g (List.mem_of_getElem? (i := 35) (by decide +kernel)) (by decide +kernel)
theorem w36 : Cond.selects "PalmHours$Reader" ⟨"PalmHours$Reader", "readPass", "()Z"⟩ ⟨"PalmHours$Reader", "readPass", "()Z"⟩ ∈ lw_g := mem_g (List.mem_of_getElem? (i := 36) (by decide +kernel)) (by decide +kernel)
theorem w37 : Cond.selects "PalmHours" ⟨"PalmHours", "hourAt", "(I)I"⟩ ⟨"PalmHours", "hourAt", "(I)I"⟩ ∈ lw_g := mem_g (List.mem_of_getElem? (i := 37) (by decide +kernel)) (by decide +kernel)
theorem w38 : Cond.selects "PalmHours" ⟨"PalmHours", "lookAt", "(I)V"⟩ ⟨"PalmHours", "lookAt", "(I)V"⟩ ∈ lw_g := mem_g (List.mem_of_getElem? (i := 38) (by decide +kernel)) (by decide +kernel)
theorem w39 : Cond.selects "PalmHours" ⟨"PalmHours", "isBeyond", "(I)Z"⟩ ⟨"PalmHours", "isBeyond", "(I)Z"⟩ ∈ lw_g := mem_g (List.mem_of_getElem? (i := 39) (by decide +kernel)) (by decide +kernel)
theorem w40 : Cond.selects "PalmHours" ⟨"PalmHours", "foresee", "(I[II)I"⟩ ⟨"PalmHours", "foresee", "(I[II)I"⟩ ∈ lw_g := mem_g (List.mem_of_getElem? (i := 40) (by decide +kernel)) (by decide +kernel)
theorem w41 : Cond.selects "PalmHours" ⟨"PalmHours", "planNothing", "(II)Z"⟩ ⟨"PalmHours", "planNothing", "(II)Z"⟩ ∈ lw_g := mem_g (List.mem_of_getElem? (i := 41) (by decide +kernel)) (by decide +kernel)
theorem w42 : Cond.selects "PalmHours" ⟨"PalmHours", "doesWithout", "(IIII)Z"⟩ ⟨"PalmHours", "doesWithout", "(IIII)Z"⟩ ∈ lw_g := mem_g (List.mem_of_getElem? (i := 42) (by decide +kernel)) (by decide +kernel)
theorem w43 : Cond.selects "PalmHours" ⟨"PalmHours", "doesAll", "(IIII)Z"⟩ ⟨"PalmHours", "doesAll", "(IIII)Z"⟩ ∈ lw_g := mem_g (List.mem_of_getElem? (i := 43) (by decide +kernel)) (by decide +kernel)
theorem w44 : Cond.selects "PalmHours" ⟨"PalmHours", "tellsWithin", "(III)Z"⟩ ⟨"PalmHours", "tellsWithin", "(III)Z"⟩ ∈ lw_g := mem_g (List.mem_of_getElem? (i := 44) (by decide +kernel)) (by decide +kernel)
theorem w45 : Cond.selects "PalmHours" ⟨"PalmHours", "planNeeded", "(II)Z"⟩ ⟨"PalmHours", "planNeeded", "(II)Z"⟩ ∈ lw_g := mem_g (List.mem_of_getElem? (i := 45) (by decide +kernel)) (by decide +kernel)
theorem w46 : Cond.selects "PalmHours" ⟨"PalmHours", "findGiving", "(III)I"⟩ ⟨"PalmHours", "findGiving", "(III)I"⟩ ∈ lw_g := mem_g (List.mem_of_getElem? (i := 46) (by decide +kernel)) (by decide +kernel)
theorem w47 : Cond.selects "PalmHours" ⟨"PalmHours", "countPlanned", "()I"⟩ ⟨"PalmHours", "countPlanned", "()I"⟩ ∈ lw_g := mem_g (List.mem_of_getElem? (i := 47) (by decide +kernel)) (by decide +kernel)
theorem w48 : Cond.selects "PalmHours" ⟨"PalmHours", "planAnywhere", "(II)Z"⟩ ⟨"PalmHours", "planAnywhere", "(II)Z"⟩ ∈ lw_g := mem_g (List.mem_of_getElem? (i := 48) (by decide +kernel)) (by decide +kernel)
theorem w49 : Cond.selects "PalmHours" ⟨"PalmHours", "countStaying", "(II)I"⟩ ⟨"PalmHours", "countStaying", "(II)I"⟩ ∈ lw_g := mem_g (List.mem_of_getElem? (i := 49) (by decide +kernel)) (by decide +kernel)
theorem w50 : Cond.selects "PalmHours" ⟨"PalmHours", "countRowsOfOne", "(I)J"⟩ ⟨"PalmHours", "countRowsOfOne", "(I)J"⟩ ∈ lw_g := mem_g (List.mem_of_getElem? (i := 50) (by decide +kernel)) (by decide +kernel)
theorem w51 : Cond.selects "PalmHours" ⟨"PalmHours", "countRowsWithout", "()J"⟩ ⟨"PalmHours", "countRowsWithout", "()J"⟩ ∈ lw_g := mem_g (List.mem_of_getElem? (i := 51) (by decide +kernel)) (by decide +kernel)
theorem w52 : Cond.selects "PalmHours" ⟨"PalmHours", "countRowsOfTwo", "(I)J"⟩ ⟨"PalmHours", "countRowsOfTwo", "(I)J"⟩ ∈ lw_g := mem_g (List.mem_of_getElem? (i := 52) (by decide +kernel)) (by decide +kernel)
theorem w53 : Cond.selects "PalmHours$Walks" ⟨"PalmHours$Walks", "shorten", "(III)V"⟩ ⟨"PalmHours$Walks", "shorten", "(III)V"⟩ ∈ lw_g := mem_g (List.mem_of_getElem? (i := 53) (by decide +kernel)) (by decide +kernel)
theorem w54 : Cond.selects "PalmHours" ⟨"PalmHours", "findHeld", "(I)I"⟩ ⟨"PalmHours", "findHeld", "(I)I"⟩ ∈ lw_g := mem_g (List.mem_of_getElem? (i := 54) (by decide +kernel)) (by decide +kernel)
theorem w55 : Cond.selects "PalmHours" ⟨"PalmHours", "letPass", "()I"⟩ ⟨"PalmHours", "letPass", "()I"⟩ ∈ lw_g := mem_g (List.mem_of_getElem? (i := 55) (by decide +kernel)) (by decide +kernel)
theorem w56 : Cond.selects "PalmHours" ⟨"PalmHours", "draw", "(I)I"⟩ ⟨"PalmHours", "draw", "(I)I"⟩ ∈ lw_g := mem_g (List.mem_of_getElem? (i := 56) (by decide +kernel)) (by decide +kernel)
theorem w57 : Cond.selects "PalmHours" ⟨"PalmHours", "putByAct", "(II)I"⟩ ⟨"PalmHours", "putByAct", "(II)I"⟩ ∈ lw_g := mem_g (List.mem_of_getElem? (i := 57) (by decide +kernel)) (by decide +kernel)
theorem w58 : Cond.selects "PalmHours$State" ⟨"PalmHours$State", "imageSize", "()I"⟩ ⟨"PalmHours$State", "imageSize", "()I"⟩ ∈ lw_g := mem_g (List.mem_of_getElem? (i := 58) (by decide +kernel)) (by decide +kernel)
theorem w59 : Cond.selects "PalmHoursModel" ⟨"PalmHoursModel", "refuses", "(I)I"⟩ ⟨"PalmHoursModel", "refuses", "(I)I"⟩ ∈ lw_g := mem_g (List.mem_of_getElem? (i := 59) (by decide +kernel)) (by decide +kernel)
theorem w60 : Cond.selects "PalmHoursModel" ⟨"PalmHoursModel", "put", "(I)V"⟩ ⟨"PalmHoursModel", "put", "(I)V"⟩ ∈ lw_g := mem_g (List.mem_of_getElem? (i := 60) (by decide +kernel)) (by decide +kernel)
theorem w61 : Cond.selects "PalmHoursModel" ⟨"PalmHoursModel", "at", "(III)I"⟩ ⟨"PalmHoursModel", "at", "(III)I"⟩ ∈ lw_g := mem_g (List.mem_of_getElem? (i := 61) (by decide +kernel)) (by decide +kernel)
theorem w62 : Cond.selects "PalmHoursModel" ⟨"PalmHoursModel", "ahead", "()V"⟩ ⟨"PalmHoursModel", "ahead", "()V"⟩ ∈ lw_g := mem_g (List.mem_of_getElem? (i := 62) (by decide +kernel)) (by decide +kernel)
theorem w63 : Cond.selects "PalmHoursModel" ⟨"PalmHoursModel", "statement", "()V"⟩ ⟨"PalmHoursModel", "statement", "()V"⟩ ∈ lw_g := mem_g (List.mem_of_getElem? (i := 63) (by decide +kernel)) (by decide +kernel)
theorem w64 : Cond.selects "PalmHoursModel" ⟨"PalmHoursModel", "lex", "()V"⟩ ⟨"PalmHoursModel", "lex", "()V"⟩ ∈ lw_g := mem_g (List.mem_of_getElem? (i := 64) (by decide +kernel)) (by decide +kernel)
theorem w65 : Cond.selects "PalmHoursModel" ⟨"PalmHoursModel", "blame", "(II)V"⟩ ⟨"PalmHoursModel", "blame", "(II)V"⟩ ∈ lw_g := mem_g (List.mem_of_getElem? (i := 65) (by decide +kernel)) (by decide +kernel)
theorem w66 : Cond.selects "PalmHoursModel" ⟨"PalmHoursModel", "isWord", "(J)Z"⟩ ⟨"PalmHoursModel", "isWord", "(J)Z"⟩ ∈ lw_g := mem_g (List.mem_of_getElem? (i := 66) (by decide +kernel)) (by decide +kernel)
theorem w67 : Cond.selects "PalmHoursModel" ⟨"PalmHoursModel", "thinging", "()V"⟩ ⟨"PalmHoursModel", "thinging", "()V"⟩ ∈ lw_g := mem_g (List.mem_of_getElem? (i := 67) (by decide +kernel)) (by decide +kernel)
theorem w68 : Cond.selects "PalmHoursModel" ⟨"PalmHoursModel", "counts", "(Z)Z"⟩ ⟨"PalmHoursModel", "counts", "(Z)Z"⟩ ∈ lw_g := mem_g (List.mem_of_getElem? (i := 68) (by decide +kernel)) (by decide +kernel)
theorem w69 : Cond.selects "PalmHoursModel" ⟨"PalmHoursModel", "fresh", "()J"⟩ ⟨"PalmHoursModel", "fresh", "()J"⟩ ∈ lw_g := mem_g (List.mem_of_getElem? (i := 69) (by decide +kernel)) (by decide +kernel)
theorem w70 : Cond.selects "PalmHoursModel" ⟨"PalmHoursModel", "isOwn", "(J)Z"⟩ ⟨"PalmHoursModel", "isOwn", "(J)Z"⟩ ∈ lw_g := mem_g (List.mem_of_getElem? (i := 70) (by decide +kernel)) (by decide +kernel)
theorem w71 : Cond.selects "PalmHoursModel" ⟨"PalmHoursModel", "named", "(IJ)I"⟩ ⟨"PalmHoursModel", "named", "(IJ)I"⟩ ∈ lw_g := mem_g (List.mem_of_getElem? (i := 71) (by decide +kernel)) (by decide +kernel)
theorem w72 : Cond.selects "PalmHoursModel" ⟨"PalmHoursModel", "manyOf", "(II)I"⟩ ⟨"PalmHoursModel", "manyOf", "(II)I"⟩ ∈ lw_g := mem_g (List.mem_of_getElem? (i := 72) (by decide +kernel)) (by decide +kernel)
theorem w73 : Cond.selects "PalmHoursModel" ⟨"PalmHoursModel", "nameOf", "(III)J"⟩ ⟨"PalmHoursModel", "nameOf", "(III)J"⟩ ∈ lw_g := mem_g (List.mem_of_getElem? (i := 73) (by decide +kernel)) (by decide +kernel)
theorem w74 : Cond.selects "PalmHoursModel" ⟨"PalmHoursModel", "must", "(J)V"⟩ ⟨"PalmHoursModel", "must", "(J)V"⟩ ∈ lw_g := mem_g (List.mem_of_getElem? (i := 74) (by decide +kernel)) (by decide +kernel)
theorem w75 : Cond.selects "PalmHoursModel" ⟨"PalmHoursModel", "number", "(II)I"⟩ ⟨"PalmHoursModel", "number", "(II)I"⟩ ∈ lw_g := mem_g (List.mem_of_getElem? (i := 75) (by decide +kernel)) (by decide +kernel)
theorem w76 : Cond.selects "PalmHoursModel" ⟨"PalmHoursModel", "cornering", "()V"⟩ ⟨"PalmHoursModel", "cornering", "()V"⟩ ∈ lw_g := mem_g (List.mem_of_getElem? (i := 76) (by decide +kernel)) (by decide +kernel)
theorem w77 : Cond.selects "PalmHoursModel" ⟨"PalmHoursModel", "roading", "()V"⟩ ⟨"PalmHoursModel", "roading", "()V"⟩ ∈ lw_g := mem_g (List.mem_of_getElem? (i := 77) (by decide +kernel)) (by decide +kernel)
theorem w78 : Cond.selects "PalmHoursModel" ⟨"PalmHoursModel", "knownBut", "(II)I"⟩ ⟨"PalmHoursModel", "knownBut", "(II)I"⟩ ∈ lw_g := mem_g (List.mem_of_getElem? (i := 78) (by decide +kernel)) (by decide +kernel)
theorem w79 : Cond.selects "PalmHoursModel" ⟨"PalmHoursModel", "palming", "()V"⟩ ⟨"PalmHoursModel", "palming", "()V"⟩ ∈ lw_g := mem_g (List.mem_of_getElem? (i := 79) (by decide +kernel)) (by decide +kernel)
theorem w80 : Cond.selects "PalmHoursModel" ⟨"PalmHoursModel", "doings", "()V"⟩ ⟨"PalmHoursModel", "doings", "()V"⟩ ∈ lw_g := mem_g (List.mem_of_getElem? (i := 80) (by decide +kernel)) (by decide +kernel)
theorem w81 : Cond.selects "PalmHoursModel" ⟨"PalmHoursModel", "reading", "(I)V"⟩ ⟨"PalmHoursModel", "reading", "(I)V"⟩ ∈ lw_g := mem_g (List.mem_of_getElem? (i := 81) (by decide +kernel)) (by decide +kernel)
theorem w82 : Cond.selects "PalmHoursModel" ⟨"PalmHoursModel", "reads", "(Z)V"⟩ ⟨"PalmHoursModel", "reads", "(Z)V"⟩ ∈ lw_g := mem_g (List.mem_of_getElem? (i := 82) (by decide +kernel)) (by decide +kernel)
theorem w83 : Cond.selects "PalmHoursModel" ⟨"PalmHoursModel", "pushes", "(I)V"⟩ ⟨"PalmHoursModel", "pushes", "(I)V"⟩ ∈ lw_g := mem_g (List.mem_of_getElem? (i := 83) (by decide +kernel)) (by decide +kernel)
theorem w84 : Cond.selects "PalmHoursModel" ⟨"PalmHoursModel", "operand", "()Z"⟩ ⟨"PalmHoursModel", "operand", "()Z"⟩ ∈ lw_g := mem_g (List.mem_of_getElem? (i := 84) (by decide +kernel)) (by decide +kernel)
theorem w85 : Cond.selects "PalmHoursModel" ⟨"PalmHoursModel", "holdsBack", "(I)V"⟩ ⟨"PalmHoursModel", "holdsBack", "(I)V"⟩ ∈ lw_g := mem_g (List.mem_of_getElem? (i := 85) (by decide +kernel)) (by decide +kernel)
theorem w86 : Cond.selects "PalmHoursModel" ⟨"PalmHoursModel", "isSign", "(I)Z"⟩ ⟨"PalmHoursModel", "isSign", "(I)Z"⟩ ∈ lw_g := mem_g (List.mem_of_getElem? (i := 86) (by decide +kernel)) (by decide +kernel)
theorem w87 : Cond.selects "PalmHoursModel" ⟨"PalmHoursModel", "opens", "(I)V"⟩ ⟨"PalmHoursModel", "opens", "(I)V"⟩ ∈ lw_g := mem_g (List.mem_of_getElem? (i := 87) (by decide +kernel)) (by decide +kernel)
theorem w88 : Cond.selects "PalmHoursModel" ⟨"PalmHoursModel", "add", "(II)V"⟩ ⟨"PalmHoursModel", "add", "(II)V"⟩ ∈ lw_g := mem_g (List.mem_of_getElem? (i := 88) (by decide +kernel)) (by decide +kernel)
theorem w89 : Cond.selects "PalmHoursModel" ⟨"PalmHoursModel", "goesOn", "()Z"⟩ ⟨"PalmHoursModel", "goesOn", "()Z"⟩ ∈ lw_g := mem_g (List.mem_of_getElem? (i := 89) (by decide +kernel)) (by decide +kernel)
theorem w90 : Cond.selects "PalmHoursModel" ⟨"PalmHoursModel", "joins", "(I)V"⟩ ⟨"PalmHoursModel", "joins", "(I)V"⟩ ∈ lw_g := mem_g (List.mem_of_getElem? (i := 90) (by decide +kernel)) (by decide +kernel)
theorem w91 : Cond.selects "PalmHoursModel" ⟨"PalmHoursModel", "passing", "()V"⟩ ⟨"PalmHoursModel", "passing", "()V"⟩ ∈ lw_g := mem_g (List.mem_of_getElem? (i := 91) (by decide +kernel)) (by decide +kernel)
theorem w92 : Cond.selects "PalmHoursModel" ⟨"PalmHoursModel", "finishes", "(I)V"⟩ ⟨"PalmHoursModel", "finishes", "(I)V"⟩ ∈ lw_g := mem_g (List.mem_of_getElem? (i := 92) (by decide +kernel)) (by decide +kernel)
theorem w93 : Cond.selects "PalmHoursModel" ⟨"PalmHoursModel", "must", "(I)V"⟩ ⟨"PalmHoursModel", "must", "(I)V"⟩ ∈ lw_g := mem_g (List.mem_of_getElem? (i := 93) (by decide +kernel)) (by decide +kernel)
theorem w94 : Cond.selects "PalmHoursModel" ⟨"PalmHoursModel", "measures", "()V"⟩ ⟨"PalmHoursModel", "measures", "()V"⟩ ∈ lw_g := mem_g (List.mem_of_getElem? (i := 94) (by decide +kernel)) (by decide +kernel)
theorem w95 : Cond.selects "PalmHoursModel" ⟨"PalmHoursModel", "begin", "()V"⟩ ⟨"PalmHoursModel", "begin", "()V"⟩ ∈ lw_g := mem_g (List.mem_of_getElem? (i := 95) (by decide +kernel)) (by decide +kernel)
theorem w96 : Cond.selects "PalmHoursModel" ⟨"PalmHoursModel", "finishesDoings", "(I)I"⟩ ⟨"PalmHoursModel", "finishesDoings", "(I)I"⟩ ∈ lw_g := mem_g (List.mem_of_getElem? (i := 96) (by decide +kernel)) (by decide +kernel)
theorem w97 : Cond.selects "PalmHoursModel" ⟨"PalmHoursModel", "hour", "(II)I"⟩ ⟨"PalmHoursModel", "hour", "(II)I"⟩ ∈ lw_g := mem_g (List.mem_of_getElem? (i := 97) (by decide +kernel)) (by decide +kernel)
theorem w98 : Cond.selects "PalmHoursModel" ⟨"PalmHoursModel", "lays", "(II)V"⟩ ⟨"PalmHoursModel", "lays", "(II)V"⟩ ∈ lw_g := mem_g (List.mem_of_getElem? (i := 98) (by decide +kernel)) (by decide +kernel)
theorem w99 : Cond.selects "PalmHoursModel" ⟨"PalmHoursModel", "isTold", "(I)Z"⟩ ⟨"PalmHoursModel", "isTold", "(I)Z"⟩ ∈ lw_g := mem_g (List.mem_of_getElem? (i := 99) (by decide +kernel)) (by decide +kernel)
theorem w100 : Cond.selects "PalmHoursModel" ⟨"PalmHoursModel", "reckons", "(I)J"⟩ ⟨"PalmHoursModel", "reckons", "(I)J"⟩ ∈ lw_g := mem_g (List.mem_of_getElem? (i := 100) (by decide +kernel)) (by decide +kernel)
theorem w101 : Cond.selects "PalmHoursModel" ⟨"PalmHoursModel", "writesDown", "(II)V"⟩ ⟨"PalmHoursModel", "writesDown", "(II)V"⟩ ∈ lw_g := mem_g (List.mem_of_getElem? (i := 101) (by decide +kernel)) (by decide +kernel)
theorem w102 : Cond.selects "PalmHoursModel" ⟨"PalmHoursModel", "slot", "(I)I"⟩ ⟨"PalmHoursModel", "slot", "(I)I"⟩ ∈ lw_g := mem_g (List.mem_of_getElem? (i := 102) (by decide +kernel)) (by decide +kernel)
theorem w103 : Cond.selects "PalmHoursModel" ⟨"PalmHoursModel", "copies", "(II)V"⟩ ⟨"PalmHoursModel", "copies", "(II)V"⟩ ∈ lw_g := mem_g (List.mem_of_getElem? (i := 103) (by decide +kernel)) (by decide +kernel)
theorem w104 : Cond.selects "PalmHoursModel" ⟨"PalmHoursModel", "isThing", "(I)Z"⟩ ⟨"PalmHoursModel", "isThing", "(I)Z"⟩ ∈ lw_g := mem_g (List.mem_of_getElem? (i := 104) (by decide +kernel)) (by decide +kernel)
theorem w105 : Cond.selects "PalmHoursModel" ⟨"PalmHoursModel", "isCorner", "(I)Z"⟩ ⟨"PalmHoursModel", "isCorner", "(I)Z"⟩ ∈ lw_g := mem_g (List.mem_of_getElem? (i := 105) (by decide +kernel)) (by decide +kernel)
theorem w106 : Cond.selects "PalmHoursModel" ⟨"PalmHoursModel", "isDoing", "(I)Z"⟩ ⟨"PalmHoursModel", "isDoing", "(I)Z"⟩ ∈ lw_g := mem_g (List.mem_of_getElem? (i := 106) (by decide +kernel)) (by decide +kernel)
theorem w107 : Cond.selects "PalmHoursModel" ⟨"PalmHoursModel", "isAhead", "(III)Z"⟩ ⟨"PalmHoursModel", "isAhead", "(III)Z"⟩ ∈ lw_g := mem_g (List.mem_of_getElem? (i := 107) (by decide +kernel)) (by decide +kernel)
theorem w108 : Cond.selects "PalmHoursModel" ⟨"PalmHoursModel", "passes", "(I)I"⟩ ⟨"PalmHoursModel", "passes", "(I)I"⟩ ∈ lw_g := mem_g (List.mem_of_getElem? (i := 108) (by decide +kernel)) (by decide +kernel)
theorem w109 : Cond.selects "PalmHoursModel" ⟨"PalmHoursModel", "ticks", "(I)V"⟩ ⟨"PalmHoursModel", "ticks", "(I)V"⟩ ∈ lw_g := mem_g (List.mem_of_getElem? (i := 109) (by decide +kernel)) (by decide +kernel)
theorem w110 : Cond.selects "PalmHoursModel" ⟨"PalmHoursModel", "isGone", "(II)Z"⟩ ⟨"PalmHoursModel", "isGone", "(II)Z"⟩ ∈ lw_g := mem_g (List.mem_of_getElem? (i := 110) (by decide +kernel)) (by decide +kernel)
theorem w111 : Cond.selects "PalmHoursModel" ⟨"PalmHoursModel", "puts", "(III)V"⟩ ⟨"PalmHoursModel", "puts", "(III)V"⟩ ∈ lw_g := mem_g (List.mem_of_getElem? (i := 111) (by decide +kernel)) (by decide +kernel)
theorem w112 : Cond.selects "PalmHoursModel" ⟨"PalmHoursModel", "isDoneBy", "(II)Z"⟩ ⟨"PalmHoursModel", "isDoneBy", "(II)Z"⟩ ∈ lw_g := mem_g (List.mem_of_getElem? (i := 112) (by decide +kernel)) (by decide +kernel)
theorem w113 : Cond.selects "PalmHoursModel" ⟨"PalmHoursModel", "heldBits", "(I)I"⟩ ⟨"PalmHoursModel", "heldBits", "(I)I"⟩ ∈ lw_g := mem_g (List.mem_of_getElem? (i := 113) (by decide +kernel)) (by decide +kernel)
theorem w114 : Cond.selects "PalmHoursModel" ⟨"PalmHoursModel", "keeps", "()V"⟩ ⟨"PalmHoursModel", "keeps", "()V"⟩ ∈ lw_g := mem_g (List.mem_of_getElem? (i := 114) (by decide +kernel)) (by decide +kernel)
theorem w115 : Cond.selects "PalmHoursModel" ⟨"PalmHoursModel", "draw", "(I)I"⟩ ⟨"PalmHoursModel", "draw", "(I)I"⟩ ∈ lw_g := mem_g (List.mem_of_getElem? (i := 115) (by decide +kernel)) (by decide +kernel)
theorem w116 : Cond.selects "PalmHoursModel" ⟨"PalmHoursModel", "writes", "(I)V"⟩ ⟨"PalmHoursModel", "writes", "(I)V"⟩ ∈ lw_g := mem_g (List.mem_of_getElem? (i := 116) (by decide +kernel)) (by decide +kernel)
theorem w117 : Cond.selects "PalmHoursModel" ⟨"PalmHoursModel", "comesOn", "(I)Z"⟩ ⟨"PalmHoursModel", "comesOn", "(I)Z"⟩ ∈ lw_g := mem_g (List.mem_of_getElem? (i := 117) (by decide +kernel)) (by decide +kernel)
theorem w118 : Cond.selects "PalmHoursModel" ⟨"PalmHoursModel", "cornerOn", "(II)Z"⟩ ⟨"PalmHoursModel", "cornerOn", "(II)Z"⟩ ∈ lw_g := mem_g (List.mem_of_getElem? (i := 118) (by decide +kernel)) (by decide +kernel)
theorem w120 : Cond.initialized "PalmHours" ∈ lw_g := mem_g (List.mem_of_getElem? (i := 120) (by decide +kernel)) (by decide +kernel)
theorem w121 : Cond.initialized "PalmHours$Tape" ∈ lw_g := mem_g (List.mem_of_getElem? (i := 121) (by decide +kernel)) (by decide +kernel)
theorem w122 : Cond.initialized "PalmHours$Town" ∈ lw_g := mem_g (List.mem_of_getElem? (i := 122) (by decide +kernel)) (by decide +kernel)
theorem w123 : Cond.initialized "PalmHours$Formula" ∈ lw_g := mem_g (List.mem_of_getElem? (i := 123) (by decide +kernel)) (by decide +kernel)
theorem w124 : Cond.initialized "PalmHours$Reader" ∈ lw_g := mem_g (List.mem_of_getElem? (i := 124) (by decide +kernel)) (by decide +kernel)
theorem w125 : Cond.initialized "PalmHours$Tokens" ∈ lw_g := mem_g (List.mem_of_getElem? (i := 125) (by decide +kernel)) (by decide +kernel)
theorem w130 : Cond.initialized "PalmHours$Phrases" ∈ lw_g := mem_g (List.mem_of_getElem? (i := 130) (by decide +kernel)) (by decide +kernel)
theorem w131 : Cond.initialized "PalmHours$Palm" ∈ lw_g := mem_g (List.mem_of_getElem? (i := 131) (by decide +kernel)) (by decide +kernel)
theorem w132 : Cond.initialized "PalmHours$State" ∈ lw_g := mem_g (List.mem_of_getElem? (i := 132) (by decide +kernel)) (by decide +kernel)
theorem w133 : Cond.initialized "PalmHours$Past" ∈ lw_g := mem_g (List.mem_of_getElem? (i := 133) (by decide +kernel)) (by decide +kernel)
theorem w134 : Cond.initialized "PalmHours$Walks" ∈ lw_g := mem_g (List.mem_of_getElem? (i := 134) (by decide +kernel)) (by decide +kernel)
theorem w135 : Cond.initialized "PalmHours$Seen" ∈ lw_g := mem_g (List.mem_of_getElem? (i := 135) (by decide +kernel)) (by decide +kernel)
theorem w136 : Cond.initialized "java/lang/Math" ∈ lw_g := mem_g (List.mem_of_getElem? (i := 136) (by decide +kernel)) (by decide +kernel)
theorem w137 : Cond.initialized "PalmHoursModel" ∈ lw_g := mem_g (List.mem_of_getElem? (i := 137) (by decide +kernel)) (by decide +kernel)
theorem w138 : Cond.initialized "java/lang/System" ∈ lw_g := mem_g (List.mem_of_getElem? (i := 138) (by decide +kernel)) (by decide +kernel)
theorem w153 : Cond.fieldLink "PalmHours$Tape" 9 "PalmHours$Tape" "bytes" "[I" ∈ lw_g := mem_g (List.mem_of_getElem? (i := 153) (by decide +kernel)) (by decide +kernel)
theorem w154 : Cond.fieldLink "PalmHours$State" 120 "PalmHours$Tape" "bytes" "[I" ∈ lw_g := mem_g (List.mem_of_getElem? (i := 154) (by decide +kernel)) (by decide +kernel)
theorem w155 : Cond.fieldLink "PalmHours$Tape" 15 "PalmHours$Tape" "length" "I" ∈ lw_g := mem_g (List.mem_of_getElem? (i := 155) (by decide +kernel)) (by decide +kernel)
theorem w156 : Cond.fieldLink "PalmHours$Seen" 30 "PalmHours$Tape" "length" "I" ∈ lw_g := mem_g (List.mem_of_getElem? (i := 156) (by decide +kernel)) (by decide +kernel)
theorem w157 : Cond.fieldLink "PalmHours" 116 "PalmHours$Tape" "length" "I" ∈ lw_g := mem_g (List.mem_of_getElem? (i := 157) (by decide +kernel)) (by decide +kernel)
theorem w158 : Cond.fieldLink "PalmHours$Tokens" 93 "PalmHours$Tape" "length" "I" ∈ lw_g := mem_g (List.mem_of_getElem? (i := 158) (by decide +kernel)) (by decide +kernel)
theorem w159 : Cond.fieldLink "PalmHours$State" 104 "PalmHours$Tape" "length" "I" ∈ lw_g := mem_g (List.mem_of_getElem? (i := 159) (by decide +kernel)) (by decide +kernel)
theorem w178 : Cond.fieldLink "PalmHours$Formula" 9 "PalmHours$Formula" "steps" "[I" ∈ lw_g := mem_g (List.mem_of_getElem? (i := 178) (by decide +kernel)) (by decide +kernel)
theorem w179 : Cond.fieldLink "PalmHours$Palm" 86 "PalmHours$Formula" "steps" "[I" ∈ lw_g := mem_g (List.mem_of_getElem? (i := 179) (by decide +kernel)) (by decide +kernel)
theorem w180 : Cond.fieldLink "PalmHours$Formula" 15 "PalmHours$Formula" "size" "I" ∈ lw_g := mem_g (List.mem_of_getElem? (i := 180) (by decide +kernel)) (by decide +kernel)
theorem w181 : Cond.fieldLink "PalmHours$Town" 74 "PalmHours$Formula" "size" "I" ∈ lw_g := mem_g (List.mem_of_getElem? (i := 181) (by decide +kernel)) (by decide +kernel)
theorem w182 : Cond.fieldLink "PalmHours$Palm" 83 "PalmHours$Formula" "size" "I" ∈ lw_g := mem_g (List.mem_of_getElem? (i := 182) (by decide +kernel)) (by decide +kernel)
theorem w188 : Cond.fieldLink "PalmHours$Town" 9 "PalmHours$Town" "statements" "I" ∈ lw_g := mem_g (List.mem_of_getElem? (i := 188) (by decide +kernel)) (by decide +kernel)
theorem w189 : Cond.fieldLink "PalmHours$Reader" 57 "PalmHours$Town" "statements" "I" ∈ lw_g := mem_g (List.mem_of_getElem? (i := 189) (by decide +kernel)) (by decide +kernel)
theorem w190 : Cond.fieldLink "PalmHours" 133 "PalmHours$Town" "statements" "I" ∈ lw_g := mem_g (List.mem_of_getElem? (i := 190) (by decide +kernel)) (by decide +kernel)
theorem w191 : Cond.fieldLink "PalmHours$Town" 15 "PalmHours$Town" "things" "I" ∈ lw_g := mem_g (List.mem_of_getElem? (i := 191) (by decide +kernel)) (by decide +kernel)
theorem w192 : Cond.fieldLink "PalmHours$Reader" 67 "PalmHours$Town" "things" "I" ∈ lw_g := mem_g (List.mem_of_getElem? (i := 192) (by decide +kernel)) (by decide +kernel)
theorem w193 : Cond.fieldLink "PalmHours" 136 "PalmHours$Town" "things" "I" ∈ lw_g := mem_g (List.mem_of_getElem? (i := 193) (by decide +kernel)) (by decide +kernel)
theorem w194 : Cond.fieldLink "PalmHours$Town" 18 "PalmHours$Town" "thingNames" "[I" ∈ lw_g := mem_g (List.mem_of_getElem? (i := 194) (by decide +kernel)) (by decide +kernel)
theorem w195 : Cond.fieldLink "PalmHours" 168 "PalmHours$Town" "thingNames" "[I" ∈ lw_g := mem_g (List.mem_of_getElem? (i := 195) (by decide +kernel)) (by decide +kernel)
theorem w196 : Cond.fieldLink "PalmHours$Town" 22 "PalmHours$Town" "weighs" "[I" ∈ lw_g := mem_g (List.mem_of_getElem? (i := 196) (by decide +kernel)) (by decide +kernel)
theorem w197 : Cond.fieldLink "PalmHours$Palm" 58 "PalmHours$Town" "weighs" "[I" ∈ lw_g := mem_g (List.mem_of_getElem? (i := 197) (by decide +kernel)) (by decide +kernel)
theorem w198 : Cond.fieldLink "PalmHours" 187 "PalmHours$Town" "weighs" "[I" ∈ lw_g := mem_g (List.mem_of_getElem? (i := 198) (by decide +kernel)) (by decide +kernel)
theorem w199 : Cond.fieldLink "PalmHours$Town" 25 "PalmHours$Town" "lasts" "[I" ∈ lw_g := mem_g (List.mem_of_getElem? (i := 199) (by decide +kernel)) (by decide +kernel)
theorem w200 : Cond.fieldLink "PalmHours$Palm" 73 "PalmHours$Town" "lasts" "[I" ∈ lw_g := mem_g (List.mem_of_getElem? (i := 200) (by decide +kernel)) (by decide +kernel)
theorem w201 : Cond.fieldLink "PalmHours" 190 "PalmHours$Town" "lasts" "[I" ∈ lw_g := mem_g (List.mem_of_getElem? (i := 201) (by decide +kernel)) (by decide +kernel)
theorem w202 : Cond.fieldLink "PalmHours$Town" 28 "PalmHours$Town" "corners" "I" ∈ lw_g := mem_g (List.mem_of_getElem? (i := 202) (by decide +kernel)) (by decide +kernel)
theorem w203 : Cond.fieldLink "PalmHours$State" 38 "PalmHours$Town" "corners" "I" ∈ lw_g := mem_g (List.mem_of_getElem? (i := 203) (by decide +kernel)) (by decide +kernel)
theorem w204 : Cond.fieldLink "PalmHours$Walks" 19 "PalmHours$Town" "corners" "I" ∈ lw_g := mem_g (List.mem_of_getElem? (i := 204) (by decide +kernel)) (by decide +kernel)
theorem w205 : Cond.fieldLink "PalmHours$Reader" 77 "PalmHours$Town" "corners" "I" ∈ lw_g := mem_g (List.mem_of_getElem? (i := 205) (by decide +kernel)) (by decide +kernel)
theorem w206 : Cond.fieldLink "PalmHours" 139 "PalmHours$Town" "corners" "I" ∈ lw_g := mem_g (List.mem_of_getElem? (i := 206) (by decide +kernel)) (by decide +kernel)
theorem w207 : Cond.fieldLink "PalmHours$Town" 31 "PalmHours$Town" "cornerNames" "[I" ∈ lw_g := mem_g (List.mem_of_getElem? (i := 207) (by decide +kernel)) (by decide +kernel)
theorem w208 : Cond.fieldLink "PalmHours" 178 "PalmHours$Town" "cornerNames" "[I" ∈ lw_g := mem_g (List.mem_of_getElem? (i := 208) (by decide +kernel)) (by decide +kernel)
theorem w209 : Cond.fieldLink "PalmHours$Town" 34 "PalmHours$Town" "palms" "[I" ∈ lw_g := mem_g (List.mem_of_getElem? (i := 209) (by decide +kernel)) (by decide +kernel)
theorem w210 : Cond.fieldLink "PalmHours$State" 43 "PalmHours$Town" "palms" "[I" ∈ lw_g := mem_g (List.mem_of_getElem? (i := 210) (by decide +kernel)) (by decide +kernel)
theorem w211 : Cond.fieldLink "PalmHours$Reader" 147 "PalmHours$Town" "palms" "[I" ∈ lw_g := mem_g (List.mem_of_getElem? (i := 211) (by decide +kernel)) (by decide +kernel)
theorem w212 : Cond.fieldLink "PalmHours$Town" 37 "PalmHours$Town" "roads" "I" ∈ lw_g := mem_g (List.mem_of_getElem? (i := 212) (by decide +kernel)) (by decide +kernel)
theorem w213 : Cond.fieldLink "PalmHours$Walks" 25 "PalmHours$Town" "roads" "I" ∈ lw_g := mem_g (List.mem_of_getElem? (i := 213) (by decide +kernel)) (by decide +kernel)
theorem w214 : Cond.fieldLink "PalmHours$Reader" 83 "PalmHours$Town" "roads" "I" ∈ lw_g := mem_g (List.mem_of_getElem? (i := 214) (by decide +kernel)) (by decide +kernel)
theorem w215 : Cond.fieldLink "PalmHours" 142 "PalmHours$Town" "roads" "I" ∈ lw_g := mem_g (List.mem_of_getElem? (i := 215) (by decide +kernel)) (by decide +kernel)
theorem w216 : Cond.fieldLink "PalmHours$Town" 40 "PalmHours$Town" "roadFrom" "[I" ∈ lw_g := mem_g (List.mem_of_getElem? (i := 216) (by decide +kernel)) (by decide +kernel)
theorem w217 : Cond.fieldLink "PalmHours$Walks" 28 "PalmHours$Town" "roadFrom" "[I" ∈ lw_g := mem_g (List.mem_of_getElem? (i := 217) (by decide +kernel)) (by decide +kernel)
theorem w218 : Cond.fieldLink "PalmHours$Town" 43 "PalmHours$Town" "roadTo" "[I" ∈ lw_g := mem_g (List.mem_of_getElem? (i := 218) (by decide +kernel)) (by decide +kernel)
theorem w219 : Cond.fieldLink "PalmHours$Walks" 31 "PalmHours$Town" "roadTo" "[I" ∈ lw_g := mem_g (List.mem_of_getElem? (i := 219) (by decide +kernel)) (by decide +kernel)
theorem w220 : Cond.fieldLink "PalmHours$Town" 46 "PalmHours$Town" "roadSteps" "[I" ∈ lw_g := mem_g (List.mem_of_getElem? (i := 220) (by decide +kernel)) (by decide +kernel)
theorem w221 : Cond.fieldLink "PalmHours$Walks" 34 "PalmHours$Town" "roadSteps" "[I" ∈ lw_g := mem_g (List.mem_of_getElem? (i := 221) (by decide +kernel)) (by decide +kernel)
theorem w222 : Cond.fieldLink "PalmHours$Town" 49 "PalmHours$Town" "doings" "I" ∈ lw_g := mem_g (List.mem_of_getElem? (i := 222) (by decide +kernel)) (by decide +kernel)
theorem w223 : Cond.fieldLink "PalmHours$State" 50 "PalmHours$Town" "doings" "I" ∈ lw_g := mem_g (List.mem_of_getElem? (i := 223) (by decide +kernel)) (by decide +kernel)
theorem w224 : Cond.fieldLink "PalmHours$Reader" 92 "PalmHours$Town" "doings" "I" ∈ lw_g := mem_g (List.mem_of_getElem? (i := 224) (by decide +kernel)) (by decide +kernel)
theorem w225 : Cond.fieldLink "PalmHours" 145 "PalmHours$Town" "doings" "I" ∈ lw_g := mem_g (List.mem_of_getElem? (i := 225) (by decide +kernel)) (by decide +kernel)
theorem w226 : Cond.fieldLink "PalmHours$Town" 52 "PalmHours$Town" "doingNames" "[I" ∈ lw_g := mem_g (List.mem_of_getElem? (i := 226) (by decide +kernel)) (by decide +kernel)
theorem w227 : Cond.fieldLink "PalmHours" 184 "PalmHours$Town" "doingNames" "[I" ∈ lw_g := mem_g (List.mem_of_getElem? (i := 227) (by decide +kernel)) (by decide +kernel)
theorem w228 : Cond.fieldLink "PalmHours$Town" 55 "PalmHours$Town" "doingCorners" "[I" ∈ lw_g := mem_g (List.mem_of_getElem? (i := 228) (by decide +kernel)) (by decide +kernel)
theorem w229 : Cond.fieldLink "PalmHours$State" 81 "PalmHours$Town" "doingCorners" "[I" ∈ lw_g := mem_g (List.mem_of_getElem? (i := 229) (by decide +kernel)) (by decide +kernel)
theorem w230 : Cond.fieldLink "PalmHours" 201 "PalmHours$Town" "doingCorners" "[I" ∈ lw_g := mem_g (List.mem_of_getElem? (i := 230) (by decide +kernel)) (by decide +kernel)
theorem w231 : Cond.fieldLink "PalmHours$Town" 58 "PalmHours$Town" "doingHours" "[I" ∈ lw_g := mem_g (List.mem_of_getElem? (i := 231) (by decide +kernel)) (by decide +kernel)
theorem w232 : Cond.fieldLink "PalmHours$State" 88 "PalmHours$Town" "doingHours" "[I" ∈ lw_g := mem_g (List.mem_of_getElem? (i := 232) (by decide +kernel)) (by decide +kernel)
theorem w233 : Cond.fieldLink "PalmHours" 204 "PalmHours$Town" "doingHours" "[I" ∈ lw_g := mem_g (List.mem_of_getElem? (i := 233) (by decide +kernel)) (by decide +kernel)
theorem w234 : Cond.fieldLink "PalmHours$Town" 61 "PalmHours$Town" "pass" "I" ∈ lw_g := mem_g (List.mem_of_getElem? (i := 234) (by decide +kernel)) (by decide +kernel)
theorem w235 : Cond.fieldLink "PalmHours$Reader" 161 "PalmHours$Town" "pass" "I" ∈ lw_g := mem_g (List.mem_of_getElem? (i := 235) (by decide +kernel)) (by decide +kernel)
theorem w236 : Cond.fieldLink "PalmHours" 346 "PalmHours$Town" "pass" "I" ∈ lw_g := mem_g (List.mem_of_getElem? (i := 236) (by decide +kernel)) (by decide +kernel)
theorem w237 : Cond.fieldLink "PalmHours$Reader" 22 "PalmHours$Town" "says" "LPalmHours$Formula;" ∈ lw_g := mem_g (List.mem_of_getElem? (i := 237) (by decide +kernel)) (by decide +kernel)
theorem w238 : Cond.fieldLink "PalmHours$Town" 67 "PalmHours$Town" "says" "LPalmHours$Formula;" ∈ lw_g := mem_g (List.mem_of_getElem? (i := 238) (by decide +kernel)) (by decide +kernel)
theorem w239 : Cond.fieldLink "PalmHours$Palm" 38 "PalmHours$Town" "says" "LPalmHours$Formula;" ∈ lw_g := mem_g (List.mem_of_getElem? (i := 239) (by decide +kernel)) (by decide +kernel)
theorem w240 : Cond.fieldLink "PalmHours$Town" 71 "PalmHours$Town" "gone" "LPalmHours$Formula;" ∈ lw_g := mem_g (List.mem_of_getElem? (i := 240) (by decide +kernel)) (by decide +kernel)
theorem w241 : Cond.fieldLink "PalmHours$Reader" 107 "PalmHours$Town" "gone" "LPalmHours$Formula;" ∈ lw_g := mem_g (List.mem_of_getElem? (i := 241) (by decide +kernel)) (by decide +kernel)
theorem w242 : Cond.fieldLink "PalmHours$Palm" 70 "PalmHours$Town" "gone" "LPalmHours$Formula;" ∈ lw_g := mem_g (List.mem_of_getElem? (i := 242) (by decide +kernel)) (by decide +kernel)
theorem w343 : Cond.methodLink "PalmHours$Tokens" 53 ⟨"PalmHours$Tokens", "fillUp", "(II)I"⟩ ∈ lw_g := mem_g (List.mem_of_getElem? (i := 343) (by decide +kernel)) (by decide +kernel)
theorem w344 : Cond.static ⟨"PalmHours$Tokens", "fillUp", "(II)I"⟩ ∈ lw_g := mem_g (List.mem_of_getElem? (i := 344) (by decide +kernel)) (by decide +kernel)
theorem w345 : Cond.code ⟨"PalmHours$Tokens", "fillUp", "(II)I"⟩ cX8_fillUp 4 (some .int) ∈ lw_g := mem_g (List.mem_of_getElem? (i := 345) (by decide +kernel)) (by decide +kernel)
theorem w346 : Cond.fieldLink "PalmHours$Tokens" 37 "PalmHours$Tokens" "tape" "LPalmHours$Tape;" ∈ lw_g := mem_g (List.mem_of_getElem? (i := 346) (by decide +kernel)) (by decide +kernel)
theorem w347 : Cond.fieldLink "PalmHours$Tokens" 11 "PalmHours$Tokens" "ownCodes" "[I" ∈ lw_g := mem_g (List.mem_of_getElem? (i := 347) (by decide +kernel)) (by decide +kernel)
theorem w348 : Cond.fieldLink "PalmHours$Tokens" 15 "PalmHours$Tokens" "kind" "I" ∈ lw_g := mem_g (List.mem_of_getElem? (i := 348) (by decide +kernel)) (by decide +kernel)
theorem w349 : Cond.fieldLink "PalmHours$Reader" 45 "PalmHours$Tokens" "kind" "I" ∈ lw_g := mem_g (List.mem_of_getElem? (i := 349) (by decide +kernel)) (by decide +kernel)
theorem w350 : Cond.fieldLink "PalmHours$Phrases" 30 "PalmHours$Tokens" "kind" "I" ∈ lw_g := mem_g (List.mem_of_getElem? (i := 350) (by decide +kernel)) (by decide +kernel)
theorem w351 : Cond.fieldLink "PalmHours$Tokens" 19 "PalmHours$Tokens" "start" "I" ∈ lw_g := mem_g (List.mem_of_getElem? (i := 351) (by decide +kernel)) (by decide +kernel)
theorem w352 : Cond.fieldLink "PalmHours$Reader" 60 "PalmHours$Tokens" "start" "I" ∈ lw_g := mem_g (List.mem_of_getElem? (i := 352) (by decide +kernel)) (by decide +kernel)
theorem w353 : Cond.fieldLink "PalmHours$Phrases" 40 "PalmHours$Tokens" "start" "I" ∈ lw_g := mem_g (List.mem_of_getElem? (i := 353) (by decide +kernel)) (by decide +kernel)
theorem w354 : Cond.fieldLink "PalmHours$Tokens" 22 "PalmHours$Tokens" "place" "I" ∈ lw_g := mem_g (List.mem_of_getElem? (i := 354) (by decide +kernel)) (by decide +kernel)
theorem w355 : Cond.fieldLink "PalmHours$Tokens" 25 "PalmHours$Tokens" "value" "I" ∈ lw_g := mem_g (List.mem_of_getElem? (i := 355) (by decide +kernel)) (by decide +kernel)
theorem w356 : Cond.fieldLink "PalmHours$Reader" 151 "PalmHours$Tokens" "value" "I" ∈ lw_g := mem_g (List.mem_of_getElem? (i := 356) (by decide +kernel)) (by decide +kernel)
theorem w357 : Cond.fieldLink "PalmHours$Phrases" 69 "PalmHours$Tokens" "value" "I" ∈ lw_g := mem_g (List.mem_of_getElem? (i := 357) (by decide +kernel)) (by decide +kernel)
theorem w358 : Cond.fieldLink "PalmHours$Tokens" 28 "PalmHours$Tokens" "next" "I" ∈ lw_g := mem_g (List.mem_of_getElem? (i := 358) (by decide +kernel)) (by decide +kernel)
theorem w359 : Cond.fieldLink "PalmHours$Tokens" 31 "PalmHours$Tokens" "fault" "I" ∈ lw_g := mem_g (List.mem_of_getElem? (i := 359) (by decide +kernel)) (by decide +kernel)
theorem w360 : Cond.fieldLink "PalmHours" 127 "PalmHours$Tokens" "fault" "I" ∈ lw_g := mem_g (List.mem_of_getElem? (i := 360) (by decide +kernel)) (by decide +kernel)
theorem w361 : Cond.fieldLink "PalmHours$Tokens" 34 "PalmHours$Tokens" "faultPlace" "I" ∈ lw_g := mem_g (List.mem_of_getElem? (i := 361) (by decide +kernel)) (by decide +kernel)
theorem w362 : Cond.fieldLink "PalmHours" 132 "PalmHours$Tokens" "faultPlace" "I" ∈ lw_g := mem_g (List.mem_of_getElem? (i := 362) (by decide +kernel)) (by decide +kernel)
theorem w389 : Cond.fieldLink "PalmHours$Phrases" 15 "PalmHours$Phrases" "tokens" "LPalmHours$Tokens;" ∈ lw_g := mem_g (List.mem_of_getElem? (i := 389) (by decide +kernel)) (by decide +kernel)
theorem w390 : Cond.fieldLink "PalmHours$Phrases" 19 "PalmHours$Phrases" "formula" "LPalmHours$Formula;" ∈ lw_g := mem_g (List.mem_of_getElem? (i := 390) (by decide +kernel)) (by decide +kernel)
theorem w391 : Cond.fieldLink "PalmHours$Phrases" 9 "PalmHours$Phrases" "isGone" "Z" ∈ lw_g := mem_g (List.mem_of_getElem? (i := 391) (by decide +kernel)) (by decide +kernel)
theorem w399 : Cond.fieldLink "PalmHours$Reader" 14 "PalmHours$Reader" "tokens" "LPalmHours$Tokens;" ∈ lw_g := mem_g (List.mem_of_getElem? (i := 399) (by decide +kernel)) (by decide +kernel)
theorem w400 : Cond.fieldLink "PalmHours" 123 "PalmHours$Reader" "tokens" "LPalmHours$Tokens;" ∈ lw_g := mem_g (List.mem_of_getElem? (i := 400) (by decide +kernel)) (by decide +kernel)
theorem w401 : Cond.fieldLink "PalmHours$Reader" 31 "PalmHours$Reader" "phrases" "LPalmHours$Phrases;" ∈ lw_g := mem_g (List.mem_of_getElem? (i := 401) (by decide +kernel)) (by decide +kernel)
theorem w402 : Cond.fieldLink "PalmHours$Reader" 35 "PalmHours$Reader" "town" "LPalmHours$Town;" ∈ lw_g := mem_g (List.mem_of_getElem? (i := 402) (by decide +kernel)) (by decide +kernel)
theorem w416 : Cond.fieldLink "PalmHours$Palm" 34 "PalmHours$Palm" "town" "LPalmHours$Town;" ∈ lw_g := mem_g (List.mem_of_getElem? (i := 416) (by decide +kernel)) (by decide +kernel)
theorem w417 : Cond.fieldLink "PalmHours" 312 "PalmHours$Palm" "town" "LPalmHours$Town;" ∈ lw_g := mem_g (List.mem_of_getElem? (i := 417) (by decide +kernel)) (by decide +kernel)
theorem w418 : Cond.fieldLink "PalmHours$Palm" 9 "PalmHours$Palm" "corner" "I" ∈ lw_g := mem_g (List.mem_of_getElem? (i := 418) (by decide +kernel)) (by decide +kernel)
theorem w419 : Cond.fieldLink "PalmHours" 355 "PalmHours$Palm" "corner" "I" ∈ lw_g := mem_g (List.mem_of_getElem? (i := 419) (by decide +kernel)) (by decide +kernel)
theorem w420 : Cond.fieldLink "PalmHours$Palm" 15 "PalmHours$Palm" "thing" "I" ∈ lw_g := mem_g (List.mem_of_getElem? (i := 420) (by decide +kernel)) (by decide +kernel)
theorem w421 : Cond.fieldLink "PalmHours$State" 62 "PalmHours$Palm" "thing" "I" ∈ lw_g := mem_g (List.mem_of_getElem? (i := 421) (by decide +kernel)) (by decide +kernel)
theorem w422 : Cond.fieldLink "PalmHours$Palm" 18 "PalmHours$Palm" "held" "I" ∈ lw_g := mem_g (List.mem_of_getElem? (i := 422) (by decide +kernel)) (by decide +kernel)
theorem w423 : Cond.fieldLink "PalmHours$State" 65 "PalmHours$Palm" "held" "I" ∈ lw_g := mem_g (List.mem_of_getElem? (i := 423) (by decide +kernel)) (by decide +kernel)
theorem w424 : Cond.fieldLink "PalmHours$Palm" 21 "PalmHours$Palm" "minute" "I" ∈ lw_g := mem_g (List.mem_of_getElem? (i := 424) (by decide +kernel)) (by decide +kernel)
theorem w425 : Cond.fieldLink "PalmHours" 358 "PalmHours$Palm" "minute" "I" ∈ lw_g := mem_g (List.mem_of_getElem? (i := 425) (by decide +kernel)) (by decide +kernel)
theorem w426 : Cond.fieldLink "PalmHours$Palm" 24 "PalmHours$Palm" "facts" "[I" ∈ lw_g := mem_g (List.mem_of_getElem? (i := 426) (by decide +kernel)) (by decide +kernel)
theorem w427 : Cond.fieldLink "PalmHours$Palm" 28 "PalmHours$Palm" "waiting" "[I" ∈ lw_g := mem_g (List.mem_of_getElem? (i := 427) (by decide +kernel)) (by decide +kernel)
theorem w428 : Cond.fieldLink "PalmHours$Palm" 31 "PalmHours$Palm" "waitingCount" "I" ∈ lw_g := mem_g (List.mem_of_getElem? (i := 428) (by decide +kernel)) (by decide +kernel)
theorem w452 : Cond.fieldLink "PalmHours$State" 34 "PalmHours$State" "town" "LPalmHours$Town;" ∈ lw_g := mem_g (List.mem_of_getElem? (i := 452) (by decide +kernel)) (by decide +kernel)
theorem w453 : Cond.fieldLink "PalmHours$State" 9 "PalmHours$State" "minute" "I" ∈ lw_g := mem_g (List.mem_of_getElem? (i := 453) (by decide +kernel)) (by decide +kernel)
theorem w454 : Cond.fieldLink "PalmHours" 148 "PalmHours$State" "minute" "I" ∈ lw_g := mem_g (List.mem_of_getElem? (i := 454) (by decide +kernel)) (by decide +kernel)
theorem w455 : Cond.fieldLink "PalmHours$State" 15 "PalmHours$State" "things" "[I" ∈ lw_g := mem_g (List.mem_of_getElem? (i := 455) (by decide +kernel)) (by decide +kernel)
theorem w456 : Cond.fieldLink "PalmHours" 193 "PalmHours$State" "things" "[I" ∈ lw_g := mem_g (List.mem_of_getElem? (i := 456) (by decide +kernel)) (by decide +kernel)
theorem w457 : Cond.fieldLink "PalmHours$State" 19 "PalmHours$State" "held" "[I" ∈ lw_g := mem_g (List.mem_of_getElem? (i := 457) (by decide +kernel)) (by decide +kernel)
theorem w458 : Cond.fieldLink "PalmHours" 195 "PalmHours$State" "held" "[I" ∈ lw_g := mem_g (List.mem_of_getElem? (i := 458) (by decide +kernel)) (by decide +kernel)
theorem w459 : Cond.fieldLink "PalmHours$State" 22 "PalmHours$State" "done" "[I" ∈ lw_g := mem_g (List.mem_of_getElem? (i := 459) (by decide +kernel)) (by decide +kernel)
theorem w460 : Cond.fieldLink "PalmHours" 207 "PalmHours$State" "done" "[I" ∈ lw_g := mem_g (List.mem_of_getElem? (i := 460) (by decide +kernel)) (by decide +kernel)
theorem w461 : Cond.fieldLink "PalmHours$State" 25 "PalmHours$State" "keptCount" "I" ∈ lw_g := mem_g (List.mem_of_getElem? (i := 461) (by decide +kernel)) (by decide +kernel)
theorem w462 : Cond.fieldLink "PalmHours" 158 "PalmHours$State" "keptCount" "I" ∈ lw_g := mem_g (List.mem_of_getElem? (i := 462) (by decide +kernel)) (by decide +kernel)
theorem w463 : Cond.fieldLink "PalmHours$State" 28 "PalmHours$State" "keptMinutes" "[I" ∈ lw_g := mem_g (List.mem_of_getElem? (i := 463) (by decide +kernel)) (by decide +kernel)
theorem w464 : Cond.fieldLink "PalmHours" 294 "PalmHours$State" "keptMinutes" "[I" ∈ lw_g := mem_g (List.mem_of_getElem? (i := 464) (by decide +kernel)) (by decide +kernel)
theorem w465 : Cond.fieldLink "PalmHours$State" 31 "PalmHours$State" "keptDoings" "[I" ∈ lw_g := mem_g (List.mem_of_getElem? (i := 465) (by decide +kernel)) (by decide +kernel)
theorem w466 : Cond.fieldLink "PalmHours" 297 "PalmHours$State" "keptDoings" "[I" ∈ lw_g := mem_g (List.mem_of_getElem? (i := 466) (by decide +kernel)) (by decide +kernel)
theorem w492 : Cond.fieldLink "PalmHours$Past" 13 "PalmHours$Past" "rows" "[[I" ∈ lw_g := mem_g (List.mem_of_getElem? (i := 492) (by decide +kernel)) (by decide +kernel)
theorem w493 : Cond.fieldLink "PalmHours$Past" 18 "PalmHours$Past" "next" "I" ∈ lw_g := mem_g (List.mem_of_getElem? (i := 493) (by decide +kernel)) (by decide +kernel)
theorem w494 : Cond.fieldLink "PalmHours$Past" 22 "PalmHours$Past" "count" "I" ∈ lw_g := mem_g (List.mem_of_getElem? (i := 494) (by decide +kernel)) (by decide +kernel)
theorem w495 : Cond.fieldLink "PalmHours" 164 "PalmHours$Past" "count" "I" ∈ lw_g := mem_g (List.mem_of_getElem? (i := 495) (by decide +kernel)) (by decide +kernel)
theorem w509 : Cond.fieldLink "PalmHours$Walks" 9 "PalmHours$Walks" "shortest" "[I" ∈ lw_g := mem_g (List.mem_of_getElem? (i := 509) (by decide +kernel)) (by decide +kernel)
theorem w510 : Cond.fieldLink "PalmHours$Walks" 15 "PalmHours$Walks" "ends" "[I" ∈ lw_g := mem_g (List.mem_of_getElem? (i := 510) (by decide +kernel)) (by decide +kernel)
theorem w523 : Cond.fieldLink "PalmHours$Seen" 9 "PalmHours$Seen" "count" "I" ∈ lw_g := mem_g (List.mem_of_getElem? (i := 523) (by decide +kernel)) (by decide +kernel)
theorem w524 : Cond.fieldLink "PalmHours" 161 "PalmHours$Seen" "count" "I" ∈ lw_g := mem_g (List.mem_of_getElem? (i := 524) (by decide +kernel)) (by decide +kernel)
theorem w525 : Cond.fieldLink "PalmHours$Seen" 15 "PalmHours$Seen" "ahead" "[I" ∈ lw_g := mem_g (List.mem_of_getElem? (i := 525) (by decide +kernel)) (by decide +kernel)
theorem w526 : Cond.fieldLink "PalmHours$Seen" 19 "PalmHours$Seen" "corners" "[I" ∈ lw_g := mem_g (List.mem_of_getElem? (i := 526) (by decide +kernel)) (by decide +kernel)
theorem w527 : Cond.fieldLink "PalmHours$Seen" 22 "PalmHours$Seen" "hours" "[I" ∈ lw_g := mem_g (List.mem_of_getElem? (i := 527) (by decide +kernel)) (by decide +kernel)
theorem w528 : Cond.fieldLink "PalmHours$Seen" 27 "PalmHours$Seen" "hoursBy" "[[I" ∈ lw_g := mem_g (List.mem_of_getElem? (i := 528) (by decide +kernel)) (by decide +kernel)
theorem w540 : Cond.methodLink "PalmHours" 101 ⟨"PalmHours", "begin", "()V"⟩ ∈ lw_g := mem_g (List.mem_of_getElem? (i := 540) (by decide +kernel)) (by decide +kernel)
theorem w542 : Cond.instanceMethod ⟨"PalmHours", "begin", "()V"⟩ ∈ lw_g := mem_g (List.mem_of_getElem? (i := 542) (by decide +kernel)) (by decide +kernel)
theorem w543 : Cond.code ⟨"PalmHours", "begin", "()V"⟩ cX11_begin 1 none ∈ lw_g := mem_g (List.mem_of_getElem? (i := 543) (by decide +kernel)) (by decide +kernel)
theorem w544 : Cond.methodLink "PalmHours" 315 ⟨"PalmHours$State", "begin", "(LPalmHours$Town;)V"⟩ ∈ lw_g := mem_g (List.mem_of_getElem? (i := 544) (by decide +kernel)) (by decide +kernel)
theorem w545 : Cond.instanceMethod ⟨"PalmHours$State", "begin", "(LPalmHours$Town;)V"⟩ ∈ lw_g := mem_g (List.mem_of_getElem? (i := 545) (by decide +kernel)) (by decide +kernel)
theorem w546 : Cond.selects "PalmHours$State" ⟨"PalmHours$State", "begin", "(LPalmHours$Town;)V"⟩ ⟨"PalmHours$State", "begin", "(LPalmHours$Town;)V"⟩ ∈ lw_g := mem_g (List.mem_of_getElem? (i := 546) (by decide +kernel)) (by decide +kernel)
theorem w547 : Cond.code ⟨"PalmHours$State", "begin", "(LPalmHours$Town;)V"⟩ cX6_begin 3 none ∈ lw_g := mem_g (List.mem_of_getElem? (i := 547) (by decide +kernel)) (by decide +kernel)
theorem w548 : Cond.methodLink "PalmHours$State" 46 ⟨"PalmHours$State", "put", "(II)V"⟩ ∈ lw_g := mem_g (List.mem_of_getElem? (i := 548) (by decide +kernel)) (by decide +kernel)
theorem w549 : Cond.instanceMethod ⟨"PalmHours$State", "put", "(II)V"⟩ ∈ lw_g := mem_g (List.mem_of_getElem? (i := 549) (by decide +kernel)) (by decide +kernel)
theorem w550 : Cond.selects "PalmHours$State" ⟨"PalmHours$State", "put", "(II)V"⟩ ⟨"PalmHours$State", "put", "(II)V"⟩ ∈ lw_g := mem_g (List.mem_of_getElem? (i := 550) (by decide +kernel)) (by decide +kernel)
theorem w551 : Cond.code ⟨"PalmHours$State", "put", "(II)V"⟩ cX6_put 3 none ∈ lw_g := mem_g (List.mem_of_getElem? (i := 551) (by decide +kernel)) (by decide +kernel)
theorem w552 : Cond.methodLink "PalmHours" 280 ⟨"PalmHours$State", "doWhatIsDue", "(LPalmHours$Palm;)I"⟩ ∈ lw_g := mem_g (List.mem_of_getElem? (i := 552) (by decide +kernel)) (by decide +kernel)
theorem w553 : Cond.instanceMethod ⟨"PalmHours$State", "doWhatIsDue", "(LPalmHours$Palm;)I"⟩ ∈ lw_g := mem_g (List.mem_of_getElem? (i := 553) (by decide +kernel)) (by decide +kernel)
theorem w554 : Cond.selects "PalmHours$State" ⟨"PalmHours$State", "doWhatIsDue", "(LPalmHours$Palm;)I"⟩ ⟨"PalmHours$State", "doWhatIsDue", "(LPalmHours$Palm;)I"⟩ ∈ lw_g := mem_g (List.mem_of_getElem? (i := 554) (by decide +kernel)) (by decide +kernel)
theorem w555 : Cond.code ⟨"PalmHours$State", "doWhatIsDue", "(LPalmHours$Palm;)I"⟩ cX6_doWhatIsDue 4 (some .int) ∈ lw_g := mem_g (List.mem_of_getElem? (i := 555) (by decide +kernel)) (by decide +kernel)
theorem w556 : Cond.methodLink "PalmHours$State" 73 ⟨"PalmHours$State", "isDue", "(ILPalmHours$Palm;)Z"⟩ ∈ lw_g := mem_g (List.mem_of_getElem? (i := 556) (by decide +kernel)) (by decide +kernel)
theorem w558 : Cond.instanceMethod ⟨"PalmHours$State", "isDue", "(ILPalmHours$Palm;)Z"⟩ ∈ lw_g := mem_g (List.mem_of_getElem? (i := 558) (by decide +kernel)) (by decide +kernel)
theorem w559 : Cond.code ⟨"PalmHours$State", "isDue", "(ILPalmHours$Palm;)Z"⟩ cX6_isDue 4 (some .boolean) ∈ lw_g := mem_g (List.mem_of_getElem? (i := 559) (by decide +kernel)) (by decide +kernel)
theorem w560 : Cond.methodLink "PalmHours$State" 53 ⟨"PalmHours$Palm", "hold", "(IIII)V"⟩ ∈ lw_g := mem_g (List.mem_of_getElem? (i := 560) (by decide +kernel)) (by decide +kernel)
theorem w561 : Cond.instanceMethod ⟨"PalmHours$Palm", "hold", "(IIII)V"⟩ ∈ lw_g := mem_g (List.mem_of_getElem? (i := 561) (by decide +kernel)) (by decide +kernel)
theorem w562 : Cond.selects "PalmHours$Palm" ⟨"PalmHours$Palm", "hold", "(IIII)V"⟩ ⟨"PalmHours$Palm", "hold", "(IIII)V"⟩ ∈ lw_g := mem_g (List.mem_of_getElem? (i := 562) (by decide +kernel)) (by decide +kernel)
theorem w563 : Cond.code ⟨"PalmHours$Palm", "hold", "(IIII)V"⟩ cX1_hold 5 none ∈ lw_g := mem_g (List.mem_of_getElem? (i := 563) (by decide +kernel)) (by decide +kernel)
theorem w564 : Cond.methodLink "PalmHours$State" 84 ⟨"PalmHours$Palm", "hourNow", "()I"⟩ ∈ lw_g := mem_g (List.mem_of_getElem? (i := 564) (by decide +kernel)) (by decide +kernel)
theorem w565 : Cond.instanceMethod ⟨"PalmHours$Palm", "hourNow", "()I"⟩ ∈ lw_g := mem_g (List.mem_of_getElem? (i := 565) (by decide +kernel)) (by decide +kernel)
theorem w566 : Cond.selects "PalmHours$Palm" ⟨"PalmHours$Palm", "hourNow", "()I"⟩ ⟨"PalmHours$Palm", "hourNow", "()I"⟩ ∈ lw_g := mem_g (List.mem_of_getElem? (i := 566) (by decide +kernel)) (by decide +kernel)
theorem w567 : Cond.code ⟨"PalmHours$Palm", "hourNow", "()I"⟩ cX1_hourNow 2 (some .int) ∈ lw_g := mem_g (List.mem_of_getElem? (i := 567) (by decide +kernel)) (by decide +kernel)
theorem w568 : Cond.methodLink "PalmHours$Palm" 44 ⟨"PalmHours$Formula", "isTold", "()Z"⟩ ∈ lw_g := mem_g (List.mem_of_getElem? (i := 568) (by decide +kernel)) (by decide +kernel)
theorem w569 : Cond.instanceMethod ⟨"PalmHours$Formula", "isTold", "()Z"⟩ ∈ lw_g := mem_g (List.mem_of_getElem? (i := 569) (by decide +kernel)) (by decide +kernel)
theorem w570 : Cond.selects "PalmHours$Formula" ⟨"PalmHours$Formula", "isTold", "()Z"⟩ ⟨"PalmHours$Formula", "isTold", "()Z"⟩ ∈ lw_g := mem_g (List.mem_of_getElem? (i := 570) (by decide +kernel)) (by decide +kernel)
theorem w571 : Cond.code ⟨"PalmHours$Formula", "isTold", "()Z"⟩ cX0_isTold 1 (some .boolean) ∈ lw_g := mem_g (List.mem_of_getElem? (i := 571) (by decide +kernel)) (by decide +kernel)
theorem w572 : Cond.methodLink "PalmHours$Palm" 50 ⟨"PalmHours$Palm", "valueOf", "(LPalmHours$Formula;)I"⟩ ∈ lw_g := mem_g (List.mem_of_getElem? (i := 572) (by decide +kernel)) (by decide +kernel)
theorem w574 : Cond.instanceMethod ⟨"PalmHours$Palm", "valueOf", "(LPalmHours$Formula;)I"⟩ ∈ lw_g := mem_g (List.mem_of_getElem? (i := 574) (by decide +kernel)) (by decide +kernel)
theorem w575 : Cond.code ⟨"PalmHours$Palm", "valueOf", "(LPalmHours$Formula;)I"⟩ cX1_valueOf 5 (some .int) ∈ lw_g := mem_g (List.mem_of_getElem? (i := 575) (by decide +kernel)) (by decide +kernel)
theorem w576 : Cond.methodLink "PalmHours$Palm" 54 ⟨"PalmHours$Town", "isThing", "(I)Z"⟩ ∈ lw_g := mem_g (List.mem_of_getElem? (i := 576) (by decide +kernel)) (by decide +kernel)
theorem w577 : Cond.instanceMethod ⟨"PalmHours$Town", "isThing", "(I)Z"⟩ ∈ lw_g := mem_g (List.mem_of_getElem? (i := 577) (by decide +kernel)) (by decide +kernel)
theorem w578 : Cond.selects "PalmHours$Town" ⟨"PalmHours$Town", "isThing", "(I)Z"⟩ ⟨"PalmHours$Town", "isThing", "(I)Z"⟩ ∈ lw_g := mem_g (List.mem_of_getElem? (i := 578) (by decide +kernel)) (by decide +kernel)
theorem w579 : Cond.code ⟨"PalmHours$Town", "isThing", "(I)Z"⟩ cX9_isThing 2 (some .boolean) ∈ lw_g := mem_g (List.mem_of_getElem? (i := 579) (by decide +kernel)) (by decide +kernel)
theorem w580 : Cond.methodLink "PalmHours$Palm" 89 ⟨"PalmHours$Palm", "join", "(I)V"⟩ ∈ lw_g := mem_g (List.mem_of_getElem? (i := 580) (by decide +kernel)) (by decide +kernel)
theorem w582 : Cond.instanceMethod ⟨"PalmHours$Palm", "join", "(I)V"⟩ ∈ lw_g := mem_g (List.mem_of_getElem? (i := 582) (by decide +kernel)) (by decide +kernel)
theorem w583 : Cond.code ⟨"PalmHours$Palm", "join", "(I)V"⟩ cX1_join 8 none ∈ lw_g := mem_g (List.mem_of_getElem? (i := 583) (by decide +kernel)) (by decide +kernel)
theorem w584 : Cond.methodLink "PalmHours$Palm" 93 ⟨"java/lang/Math", "floorDiv", "(II)I"⟩ ∈ lw_g := mem_g (List.mem_of_getElem? (i := 584) (by decide +kernel)) (by decide +kernel)
theorem w585 : Cond.static ⟨"java/lang/Math", "floorDiv", "(II)I"⟩ ∈ lw_g := mem_g (List.mem_of_getElem? (i := 585) (by decide +kernel)) (by decide +kernel)
theorem w586 : Cond.code ⟨"java/lang/Math", "floorDiv", "(II)I"⟩ cJ9_floorDiv_7cf53 3 (some .int) ∈ lw_g := mem_g (List.mem_of_getElem? (i := 586) (by decide +kernel)) (by decide +kernel)
theorem w587 : Cond.methodLink "PalmHours$Palm" 96 ⟨"java/lang/Math", "floorMod", "(II)I"⟩ ∈ lw_g := mem_g (List.mem_of_getElem? (i := 587) (by decide +kernel)) (by decide +kernel)
theorem w588 : Cond.static ⟨"java/lang/Math", "floorMod", "(II)I"⟩ ∈ lw_g := mem_g (List.mem_of_getElem? (i := 588) (by decide +kernel)) (by decide +kernel)
theorem w589 : Cond.code ⟨"java/lang/Math", "floorMod", "(II)I"⟩ cJ9_floorMod_7cf53 3 (some .int) ∈ lw_g := mem_g (List.mem_of_getElem? (i := 589) (by decide +kernel)) (by decide +kernel)
theorem w590 : Cond.methodLink "PalmHours$Palm" 61 ⟨"java/lang/Math", "min", "(II)I"⟩ ∈ lw_g := mem_g (List.mem_of_getElem? (i := 590) (by decide +kernel)) (by decide +kernel)
theorem w591 : Cond.static ⟨"java/lang/Math", "min", "(II)I"⟩ ∈ lw_g := mem_g (List.mem_of_getElem? (i := 591) (by decide +kernel)) (by decide +kernel)
theorem w593 : Cond.methodLink "PalmHours$Palm" 67 ⟨"java/lang/Math", "max", "(II)I"⟩ ∈ lw_g := mem_g (List.mem_of_getElem? (i := 593) (by decide +kernel)) (by decide +kernel)
theorem w594 : Cond.static ⟨"java/lang/Math", "max", "(II)I"⟩ ∈ lw_g := mem_g (List.mem_of_getElem? (i := 594) (by decide +kernel)) (by decide +kernel)
theorem w596 : Cond.constantLong "PalmHours$Palm" 99 (-1000000) ∈ lw_g := mem_g (List.mem_of_getElem? (i := 596) (by decide +kernel)) (by decide +kernel)
theorem w597 : Cond.constantLong "PalmHours$Palm" 101 (1000000) ∈ lw_g := mem_g (List.mem_of_getElem? (i := 597) (by decide +kernel)) (by decide +kernel)
theorem w598 : Cond.methodLink "PalmHours$Palm" 103 ⟨"java/lang/Math", "min", "(JJ)J"⟩ ∈ lw_g := mem_g (List.mem_of_getElem? (i := 598) (by decide +kernel)) (by decide +kernel)
theorem w599 : Cond.static ⟨"java/lang/Math", "min", "(JJ)J"⟩ ∈ lw_g := mem_g (List.mem_of_getElem? (i := 599) (by decide +kernel)) (by decide +kernel)
theorem w601 : Cond.methodLink "PalmHours$Palm" 106 ⟨"java/lang/Math", "max", "(JJ)J"⟩ ∈ lw_g := mem_g (List.mem_of_getElem? (i := 601) (by decide +kernel)) (by decide +kernel)
theorem w602 : Cond.static ⟨"java/lang/Math", "max", "(JJ)J"⟩ ∈ lw_g := mem_g (List.mem_of_getElem? (i := 602) (by decide +kernel)) (by decide +kernel)
theorem w604 : Cond.methodLink "PalmHours$State" 77 ⟨"PalmHours$State", "keep", "(I)V"⟩ ∈ lw_g := mem_g (List.mem_of_getElem? (i := 604) (by decide +kernel)) (by decide +kernel)
theorem w606 : Cond.instanceMethod ⟨"PalmHours$State", "keep", "(I)V"⟩ ∈ lw_g := mem_g (List.mem_of_getElem? (i := 606) (by decide +kernel)) (by decide +kernel)
theorem w607 : Cond.code ⟨"PalmHours$State", "keep", "(I)V"⟩ cX6_keep 2 none ∈ lw_g := mem_g (List.mem_of_getElem? (i := 607) (by decide +kernel)) (by decide +kernel)
theorem w608 : Cond.fieldLink "PalmHours" 12 "PalmHours" "tape" "LPalmHours$Tape;" ∈ lw_g := mem_g (List.mem_of_getElem? (i := 608) (by decide +kernel)) (by decide +kernel)
theorem w609 : Cond.fieldLink "PalmHours" 19 "PalmHours" "told" "LPalmHours$Town;" ∈ lw_g := mem_g (List.mem_of_getElem? (i := 609) (by decide +kernel)) (by decide +kernel)
theorem w610 : Cond.fieldLink "PalmHours" 23 "PalmHours" "draft" "LPalmHours$Town;" ∈ lw_g := mem_g (List.mem_of_getElem? (i := 610) (by decide +kernel)) (by decide +kernel)
theorem w611 : Cond.fieldLink "PalmHours" 31 "PalmHours" "reader" "LPalmHours$Reader;" ∈ lw_g := mem_g (List.mem_of_getElem? (i := 611) (by decide +kernel)) (by decide +kernel)
theorem w612 : Cond.fieldLink "PalmHours" 40 "PalmHours" "palm" "LPalmHours$Palm;" ∈ lw_g := mem_g (List.mem_of_getElem? (i := 612) (by decide +kernel)) (by decide +kernel)
theorem w613 : Cond.fieldLink "PalmHours" 47 "PalmHours" "state" "LPalmHours$State;" ∈ lw_g := mem_g (List.mem_of_getElem? (i := 613) (by decide +kernel)) (by decide +kernel)
theorem w614 : Cond.fieldLink "PalmHours" 54 "PalmHours" "past" "LPalmHours$Past;" ∈ lw_g := mem_g (List.mem_of_getElem? (i := 614) (by decide +kernel)) (by decide +kernel)
theorem w615 : Cond.fieldLink "PalmHours" 61 "PalmHours" "walks" "LPalmHours$Walks;" ∈ lw_g := mem_g (List.mem_of_getElem? (i := 615) (by decide +kernel)) (by decide +kernel)
theorem w616 : Cond.fieldLink "PalmHours" 68 "PalmHours" "seen" "LPalmHours$Seen;" ∈ lw_g := mem_g (List.mem_of_getElem? (i := 616) (by decide +kernel)) (by decide +kernel)
theorem w617 : Cond.fieldLink "PalmHours" 72 "PalmHours" "hours" "[I" ∈ lw_g := mem_g (List.mem_of_getElem? (i := 617) (by decide +kernel)) (by decide +kernel)
theorem w618 : Cond.fieldLink "PalmHours" 76 "PalmHours" "otherHours" "[I" ∈ lw_g := mem_g (List.mem_of_getElem? (i := 618) (by decide +kernel)) (by decide +kernel)
theorem w619 : Cond.fieldLink "PalmHours" 79 "PalmHours" "planned" "[I" ∈ lw_g := mem_g (List.mem_of_getElem? (i := 619) (by decide +kernel)) (by decide +kernel)
theorem w620 : Cond.fieldLink "PalmHours" 82 "PalmHours" "imageBytes" "[I" ∈ lw_g := mem_g (List.mem_of_getElem? (i := 620) (by decide +kernel)) (by decide +kernel)
theorem w621 : Cond.fieldLink "PalmHours" 85 "PalmHours" "refused" "[I" ∈ lw_g := mem_g (List.mem_of_getElem? (i := 621) (by decide +kernel)) (by decide +kernel)
theorem w622 : Cond.fieldLink "PalmHours" 88 "PalmHours" "imageLength" "I" ∈ lw_g := mem_g (List.mem_of_getElem? (i := 622) (by decide +kernel)) (by decide +kernel)
theorem w623 : Cond.fieldLink "PalmHours" 92 "PalmHours" "faultKind" "I" ∈ lw_g := mem_g (List.mem_of_getElem? (i := 623) (by decide +kernel)) (by decide +kernel)
theorem w624 : Cond.fieldLink "PalmHours" 95 "PalmHours" "faultPlace" "I" ∈ lw_g := mem_g (List.mem_of_getElem? (i := 624) (by decide +kernel)) (by decide +kernel)
theorem w625 : Cond.fieldLink "PalmHours" 98 "PalmHours" "drawn" "I" ∈ lw_g := mem_g (List.mem_of_getElem? (i := 625) (by decide +kernel)) (by decide +kernel)
theorem w667 : Cond.methodLink "PalmHours" 104 ⟨"PalmHours$Tape", "hasRoomFor", "(I)Z"⟩ ∈ lw_g := mem_g (List.mem_of_getElem? (i := 667) (by decide +kernel)) (by decide +kernel)
theorem w668 : Cond.instanceMethod ⟨"PalmHours$Tape", "hasRoomFor", "(I)Z"⟩ ∈ lw_g := mem_g (List.mem_of_getElem? (i := 668) (by decide +kernel)) (by decide +kernel)
theorem w669 : Cond.selects "PalmHours$Tape" ⟨"PalmHours$Tape", "hasRoomFor", "(I)Z"⟩ ⟨"PalmHours$Tape", "hasRoomFor", "(I)Z"⟩ ∈ lw_g := mem_g (List.mem_of_getElem? (i := 669) (by decide +kernel)) (by decide +kernel)
theorem w670 : Cond.code ⟨"PalmHours$Tape", "hasRoomFor", "(I)Z"⟩ cX7_hasRoomFor 2 (some .boolean) ∈ lw_g := mem_g (List.mem_of_getElem? (i := 670) (by decide +kernel)) (by decide +kernel)
theorem w671 : Cond.methodLink "PalmHours" 108 ⟨"PalmHours", "refuse", "(I)I"⟩ ∈ lw_g := mem_g (List.mem_of_getElem? (i := 671) (by decide +kernel)) (by decide +kernel)
theorem w673 : Cond.instanceMethod ⟨"PalmHours", "refuse", "(I)I"⟩ ∈ lw_g := mem_g (List.mem_of_getElem? (i := 673) (by decide +kernel)) (by decide +kernel)
theorem w674 : Cond.code ⟨"PalmHours", "refuse", "(I)I"⟩ cX11_refuse 2 (some .int) ∈ lw_g := mem_g (List.mem_of_getElem? (i := 674) (by decide +kernel)) (by decide +kernel)
theorem w675 : Cond.methodLink "PalmHours" 112 ⟨"PalmHours$Tape", "addNumber", "(I)V"⟩ ∈ lw_g := mem_g (List.mem_of_getElem? (i := 675) (by decide +kernel)) (by decide +kernel)
theorem w676 : Cond.instanceMethod ⟨"PalmHours$Tape", "addNumber", "(I)V"⟩ ∈ lw_g := mem_g (List.mem_of_getElem? (i := 676) (by decide +kernel)) (by decide +kernel)
theorem w677 : Cond.selects "PalmHours$Tape" ⟨"PalmHours$Tape", "addNumber", "(I)V"⟩ ⟨"PalmHours$Tape", "addNumber", "(I)V"⟩ ∈ lw_g := mem_g (List.mem_of_getElem? (i := 677) (by decide +kernel)) (by decide +kernel)
theorem w678 : Cond.code ⟨"PalmHours$Tape", "addNumber", "(I)V"⟩ cX7_addNumber 3 none ∈ lw_g := mem_g (List.mem_of_getElem? (i := 678) (by decide +kernel)) (by decide +kernel)
theorem w687 : Cond.methodLink "PalmHours" 119 ⟨"PalmHours$Reader", "read", "(LPalmHours$Town;)Z"⟩ ∈ lw_g := mem_g (List.mem_of_getElem? (i := 687) (by decide +kernel)) (by decide +kernel)
theorem w688 : Cond.instanceMethod ⟨"PalmHours$Reader", "read", "(LPalmHours$Town;)Z"⟩ ∈ lw_g := mem_g (List.mem_of_getElem? (i := 688) (by decide +kernel)) (by decide +kernel)
theorem w689 : Cond.selects "PalmHours$Reader" ⟨"PalmHours$Reader", "read", "(LPalmHours$Town;)Z"⟩ ⟨"PalmHours$Reader", "read", "(LPalmHours$Town;)Z"⟩ ∈ lw_g := mem_g (List.mem_of_getElem? (i := 689) (by decide +kernel)) (by decide +kernel)
theorem w690 : Cond.code ⟨"PalmHours$Reader", "read", "(LPalmHours$Town;)Z"⟩ cX4_read 3 (some .boolean) ∈ lw_g := mem_g (List.mem_of_getElem? (i := 690) (by decide +kernel)) (by decide +kernel)
theorem w691 : Cond.methodLink "PalmHours$Reader" 39 ⟨"PalmHours$Town", "clear", "()V"⟩ ∈ lw_g := mem_g (List.mem_of_getElem? (i := 691) (by decide +kernel)) (by decide +kernel)
theorem w692 : Cond.instanceMethod ⟨"PalmHours$Town", "clear", "()V"⟩ ∈ lw_g := mem_g (List.mem_of_getElem? (i := 692) (by decide +kernel)) (by decide +kernel)
theorem w693 : Cond.selects "PalmHours$Town" ⟨"PalmHours$Town", "clear", "()V"⟩ ⟨"PalmHours$Town", "clear", "()V"⟩ ∈ lw_g := mem_g (List.mem_of_getElem? (i := 693) (by decide +kernel)) (by decide +kernel)
theorem w694 : Cond.code ⟨"PalmHours$Town", "clear", "()V"⟩ cX9_clear 1 none ∈ lw_g := mem_g (List.mem_of_getElem? (i := 694) (by decide +kernel)) (by decide +kernel)
theorem w695 : Cond.methodLink "PalmHours$Reader" 42 ⟨"PalmHours$Tokens", "begin", "()V"⟩ ∈ lw_g := mem_g (List.mem_of_getElem? (i := 695) (by decide +kernel)) (by decide +kernel)
theorem w696 : Cond.instanceMethod ⟨"PalmHours$Tokens", "begin", "()V"⟩ ∈ lw_g := mem_g (List.mem_of_getElem? (i := 696) (by decide +kernel)) (by decide +kernel)
theorem w697 : Cond.selects "PalmHours$Tokens" ⟨"PalmHours$Tokens", "begin", "()V"⟩ ⟨"PalmHours$Tokens", "begin", "()V"⟩ ∈ lw_g := mem_g (List.mem_of_getElem? (i := 697) (by decide +kernel)) (by decide +kernel)
theorem w698 : Cond.code ⟨"PalmHours$Tokens", "begin", "()V"⟩ cX8_begin 1 none ∈ lw_g := mem_g (List.mem_of_getElem? (i := 698) (by decide +kernel)) (by decide +kernel)
theorem w699 : Cond.methodLink "PalmHours$Tokens" 57 ⟨"PalmHours$Tokens", "advance", "()V"⟩ ∈ lw_g := mem_g (List.mem_of_getElem? (i := 699) (by decide +kernel)) (by decide +kernel)
theorem w700 : Cond.instanceMethod ⟨"PalmHours$Tokens", "advance", "()V"⟩ ∈ lw_g := mem_g (List.mem_of_getElem? (i := 700) (by decide +kernel)) (by decide +kernel)
theorem w701 : Cond.selects "PalmHours$Tokens" ⟨"PalmHours$Tokens", "advance", "()V"⟩ ⟨"PalmHours$Tokens", "advance", "()V"⟩ ∈ lw_g := mem_g (List.mem_of_getElem? (i := 701) (by decide +kernel)) (by decide +kernel)
theorem w702 : Cond.code ⟨"PalmHours$Tokens", "advance", "()V"⟩ cX8_advance 4 none ∈ lw_g := mem_g (List.mem_of_getElem? (i := 702) (by decide +kernel)) (by decide +kernel)
theorem w703 : Cond.methodLink "PalmHours$Tokens" 68 ⟨"PalmHours$Tokens", "isWordOrNumber", "()Z"⟩ ∈ lw_g := mem_g (List.mem_of_getElem? (i := 703) (by decide +kernel)) (by decide +kernel)
theorem w705 : Cond.instanceMethod ⟨"PalmHours$Tokens", "isWordOrNumber", "()Z"⟩ ∈ lw_g := mem_g (List.mem_of_getElem? (i := 705) (by decide +kernel)) (by decide +kernel)
theorem w706 : Cond.code ⟨"PalmHours$Tokens", "isWordOrNumber", "()Z"⟩ cX8_isWordOrNumber 1 (some .boolean) ∈ lw_g := mem_g (List.mem_of_getElem? (i := 706) (by decide +kernel)) (by decide +kernel)
theorem w707 : Cond.methodLink "PalmHours$Tokens" 71 ⟨"PalmHours$Tokens", "skipBlanks", "()V"⟩ ∈ lw_g := mem_g (List.mem_of_getElem? (i := 707) (by decide +kernel)) (by decide +kernel)
theorem w709 : Cond.instanceMethod ⟨"PalmHours$Tokens", "skipBlanks", "()V"⟩ ∈ lw_g := mem_g (List.mem_of_getElem? (i := 709) (by decide +kernel)) (by decide +kernel)
theorem w710 : Cond.code ⟨"PalmHours$Tokens", "skipBlanks", "()V"⟩ cX8_skipBlanks 2 none ∈ lw_g := mem_g (List.mem_of_getElem? (i := 710) (by decide +kernel)) (by decide +kernel)
theorem w711 : Cond.methodLink "PalmHours$Tokens" 74 ⟨"PalmHours$Tape", "at", "(I)I"⟩ ∈ lw_g := mem_g (List.mem_of_getElem? (i := 711) (by decide +kernel)) (by decide +kernel)
theorem w712 : Cond.instanceMethod ⟨"PalmHours$Tape", "at", "(I)I"⟩ ∈ lw_g := mem_g (List.mem_of_getElem? (i := 712) (by decide +kernel)) (by decide +kernel)
theorem w713 : Cond.selects "PalmHours$Tape" ⟨"PalmHours$Tape", "at", "(I)I"⟩ ⟨"PalmHours$Tape", "at", "(I)I"⟩ ∈ lw_g := mem_g (List.mem_of_getElem? (i := 713) (by decide +kernel)) (by decide +kernel)
theorem w714 : Cond.code ⟨"PalmHours$Tape", "at", "(I)I"⟩ cX7_at 2 (some .int) ∈ lw_g := mem_g (List.mem_of_getElem? (i := 714) (by decide +kernel)) (by decide +kernel)
theorem w715 : Cond.methodLink "PalmHours$Tokens" 80 ⟨"PalmHours$Tokens", "isLetter", "(I)Z"⟩ ∈ lw_g := mem_g (List.mem_of_getElem? (i := 715) (by decide +kernel)) (by decide +kernel)
theorem w716 : Cond.static ⟨"PalmHours$Tokens", "isLetter", "(I)Z"⟩ ∈ lw_g := mem_g (List.mem_of_getElem? (i := 716) (by decide +kernel)) (by decide +kernel)
theorem w717 : Cond.code ⟨"PalmHours$Tokens", "isLetter", "(I)Z"⟩ cX8_isLetter 1 (some .boolean) ∈ lw_g := mem_g (List.mem_of_getElem? (i := 717) (by decide +kernel)) (by decide +kernel)
theorem w718 : Cond.methodLink "PalmHours$Tokens" 84 ⟨"PalmHours$Tokens", "readWord", "()V"⟩ ∈ lw_g := mem_g (List.mem_of_getElem? (i := 718) (by decide +kernel)) (by decide +kernel)
theorem w720 : Cond.instanceMethod ⟨"PalmHours$Tokens", "readWord", "()V"⟩ ∈ lw_g := mem_g (List.mem_of_getElem? (i := 720) (by decide +kernel)) (by decide +kernel)
theorem w721 : Cond.code ⟨"PalmHours$Tokens", "readWord", "()V"⟩ cX8_readWord 3 none ∈ lw_g := mem_g (List.mem_of_getElem? (i := 721) (by decide +kernel)) (by decide +kernel)
theorem w722 : Cond.methodLink "PalmHours$Tokens" 95 ⟨"PalmHours$Tokens", "kindOf", "(I)I"⟩ ∈ lw_g := mem_g (List.mem_of_getElem? (i := 722) (by decide +kernel)) (by decide +kernel)
theorem w724 : Cond.instanceMethod ⟨"PalmHours$Tokens", "kindOf", "(I)I"⟩ ∈ lw_g := mem_g (List.mem_of_getElem? (i := 724) (by decide +kernel)) (by decide +kernel)
theorem w725 : Cond.code ⟨"PalmHours$Tokens", "kindOf", "(I)I"⟩ cX8_kindOf 3 (some .int) ∈ lw_g := mem_g (List.mem_of_getElem? (i := 725) (by decide +kernel)) (by decide +kernel)
theorem w726 : Cond.methodLink "PalmHours$Tokens" 87 ⟨"PalmHours$Tokens", "isDigit", "(I)Z"⟩ ∈ lw_g := mem_g (List.mem_of_getElem? (i := 726) (by decide +kernel)) (by decide +kernel)
theorem w727 : Cond.static ⟨"PalmHours$Tokens", "isDigit", "(I)Z"⟩ ∈ lw_g := mem_g (List.mem_of_getElem? (i := 727) (by decide +kernel)) (by decide +kernel)
theorem w728 : Cond.code ⟨"PalmHours$Tokens", "isDigit", "(I)Z"⟩ cX8_isDigit 1 (some .boolean) ∈ lw_g := mem_g (List.mem_of_getElem? (i := 728) (by decide +kernel)) (by decide +kernel)
theorem w729 : Cond.methodLink "PalmHours$Tokens" 90 ⟨"PalmHours$Tokens", "readNumber", "()V"⟩ ∈ lw_g := mem_g (List.mem_of_getElem? (i := 729) (by decide +kernel)) (by decide +kernel)
theorem w731 : Cond.instanceMethod ⟨"PalmHours$Tokens", "readNumber", "()V"⟩ ∈ lw_g := mem_g (List.mem_of_getElem? (i := 731) (by decide +kernel)) (by decide +kernel)
theorem w732 : Cond.code ⟨"PalmHours$Tokens", "readNumber", "()V"⟩ cX8_readNumber 3 none ∈ lw_g := mem_g (List.mem_of_getElem? (i := 732) (by decide +kernel)) (by decide +kernel)
theorem w733 : Cond.methodLink "PalmHours$Reader" 49 ⟨"PalmHours$Reader", "readStatement", "()Z"⟩ ∈ lw_g := mem_g (List.mem_of_getElem? (i := 733) (by decide +kernel)) (by decide +kernel)
theorem w735 : Cond.instanceMethod ⟨"PalmHours$Reader", "readStatement", "()Z"⟩ ∈ lw_g := mem_g (List.mem_of_getElem? (i := 735) (by decide +kernel)) (by decide +kernel)
theorem w736 : Cond.code ⟨"PalmHours$Reader", "readStatement", "()Z"⟩ cX4_readStatement 1 (some .boolean) ∈ lw_g := mem_g (List.mem_of_getElem? (i := 736) (by decide +kernel)) (by decide +kernel)
theorem w737 : Cond.methodLink "PalmHours$Reader" 70 ⟨"PalmHours$Reader", "skipFirst", "(Z)Z"⟩ ∈ lw_g := mem_g (List.mem_of_getElem? (i := 737) (by decide +kernel)) (by decide +kernel)
theorem w739 : Cond.instanceMethod ⟨"PalmHours$Reader", "skipFirst", "(Z)Z"⟩ ∈ lw_g := mem_g (List.mem_of_getElem? (i := 739) (by decide +kernel)) (by decide +kernel)
theorem w740 : Cond.code ⟨"PalmHours$Reader", "skipFirst", "(Z)Z"⟩ cX4_skipFirst 2 (some .boolean) ∈ lw_g := mem_g (List.mem_of_getElem? (i := 740) (by decide +kernel)) (by decide +kernel)
theorem w741 : Cond.methodLink "PalmHours$Reader" 63 ⟨"PalmHours$Tokens", "fail", "(II)Z"⟩ ∈ lw_g := mem_g (List.mem_of_getElem? (i := 741) (by decide +kernel)) (by decide +kernel)
theorem w742 : Cond.instanceMethod ⟨"PalmHours$Tokens", "fail", "(II)Z"⟩ ∈ lw_g := mem_g (List.mem_of_getElem? (i := 742) (by decide +kernel)) (by decide +kernel)
theorem w743 : Cond.selects "PalmHours$Tokens" ⟨"PalmHours$Tokens", "fail", "(II)Z"⟩ ⟨"PalmHours$Tokens", "fail", "(II)Z"⟩ ∈ lw_g := mem_g (List.mem_of_getElem? (i := 743) (by decide +kernel)) (by decide +kernel)
theorem w744 : Cond.code ⟨"PalmHours$Tokens", "fail", "(II)Z"⟩ cX8_fail 3 (some .boolean) ∈ lw_g := mem_g (List.mem_of_getElem? (i := 744) (by decide +kernel)) (by decide +kernel)
theorem w745 : Cond.methodLink "PalmHours$Reader" 119 ⟨"PalmHours$Tokens", "advance", "()V"⟩ ∈ lw_g := mem_g (List.mem_of_getElem? (i := 745) (by decide +kernel)) (by decide +kernel)
theorem w746 : Cond.methodLink "PalmHours$Reader" 74 ⟨"PalmHours$Reader", "readThing", "()Z"⟩ ∈ lw_g := mem_g (List.mem_of_getElem? (i := 746) (by decide +kernel)) (by decide +kernel)
theorem w748 : Cond.instanceMethod ⟨"PalmHours$Reader", "readThing", "()Z"⟩ ∈ lw_g := mem_g (List.mem_of_getElem? (i := 748) (by decide +kernel)) (by decide +kernel)
theorem w749 : Cond.code ⟨"PalmHours$Reader", "readThing", "()Z"⟩ cX4_readThing 4 (some .boolean) ∈ lw_g := mem_g (List.mem_of_getElem? (i := 749) (by decide +kernel)) (by decide +kernel)
theorem w750 : Cond.methodLink "PalmHours$Reader" 122 ⟨"PalmHours$Reader", "newName", "()I"⟩ ∈ lw_g := mem_g (List.mem_of_getElem? (i := 750) (by decide +kernel)) (by decide +kernel)
theorem w752 : Cond.instanceMethod ⟨"PalmHours$Reader", "newName", "()I"⟩ ∈ lw_g := mem_g (List.mem_of_getElem? (i := 752) (by decide +kernel)) (by decide +kernel)
theorem w753 : Cond.code ⟨"PalmHours$Reader", "newName", "()I"⟩ cX4_newName 2 (some .int) ∈ lw_g := mem_g (List.mem_of_getElem? (i := 753) (by decide +kernel)) (by decide +kernel)
theorem w754 : Cond.methodLink "PalmHours$Reader" 116 ⟨"PalmHours$Tokens", "failHere", "()Z"⟩ ∈ lw_g := mem_g (List.mem_of_getElem? (i := 754) (by decide +kernel)) (by decide +kernel)
theorem w755 : Cond.instanceMethod ⟨"PalmHours$Tokens", "failHere", "()Z"⟩ ∈ lw_g := mem_g (List.mem_of_getElem? (i := 755) (by decide +kernel)) (by decide +kernel)
theorem w756 : Cond.selects "PalmHours$Tokens" ⟨"PalmHours$Tokens", "failHere", "()Z"⟩ ⟨"PalmHours$Tokens", "failHere", "()Z"⟩ ∈ lw_g := mem_g (List.mem_of_getElem? (i := 756) (by decide +kernel)) (by decide +kernel)
theorem w757 : Cond.code ⟨"PalmHours$Tokens", "failHere", "()Z"⟩ cX8_failHere 1 (some .boolean) ∈ lw_g := mem_g (List.mem_of_getElem? (i := 757) (by decide +kernel)) (by decide +kernel)
theorem w758 : Cond.methodLink "PalmHours$Tokens" 60 ⟨"PalmHours$Tokens", "fail", "(II)Z"⟩ ∈ lw_g := mem_g (List.mem_of_getElem? (i := 758) (by decide +kernel)) (by decide +kernel)
theorem w759 : Cond.methodLink "PalmHours$Reader" 154 ⟨"PalmHours$Town", "findThing", "(I)I"⟩ ∈ lw_g := mem_g (List.mem_of_getElem? (i := 759) (by decide +kernel)) (by decide +kernel)
theorem w760 : Cond.instanceMethod ⟨"PalmHours$Town", "findThing", "(I)I"⟩ ∈ lw_g := mem_g (List.mem_of_getElem? (i := 760) (by decide +kernel)) (by decide +kernel)
theorem w761 : Cond.selects "PalmHours$Town" ⟨"PalmHours$Town", "findThing", "(I)I"⟩ ⟨"PalmHours$Town", "findThing", "(I)I"⟩ ∈ lw_g := mem_g (List.mem_of_getElem? (i := 761) (by decide +kernel)) (by decide +kernel)
theorem w762 : Cond.code ⟨"PalmHours$Town", "findThing", "(I)I"⟩ cX9_findThing 2 (some .int) ∈ lw_g := mem_g (List.mem_of_getElem? (i := 762) (by decide +kernel)) (by decide +kernel)
theorem w763 : Cond.methodLink "PalmHours$Town" 77 ⟨"PalmHours$Town", "find", "([III)I"⟩ ∈ lw_g := mem_g (List.mem_of_getElem? (i := 763) (by decide +kernel)) (by decide +kernel)
theorem w764 : Cond.static ⟨"PalmHours$Town", "find", "([III)I"⟩ ∈ lw_g := mem_g (List.mem_of_getElem? (i := 764) (by decide +kernel)) (by decide +kernel)
theorem w765 : Cond.code ⟨"PalmHours$Town", "find", "([III)I"⟩ cX9_find 4 (some .int) ∈ lw_g := mem_g (List.mem_of_getElem? (i := 765) (by decide +kernel)) (by decide +kernel)
theorem w766 : Cond.methodLink "PalmHours$Reader" 164 ⟨"PalmHours$Town", "findCorner", "(I)I"⟩ ∈ lw_g := mem_g (List.mem_of_getElem? (i := 766) (by decide +kernel)) (by decide +kernel)
theorem w767 : Cond.instanceMethod ⟨"PalmHours$Town", "findCorner", "(I)I"⟩ ∈ lw_g := mem_g (List.mem_of_getElem? (i := 767) (by decide +kernel)) (by decide +kernel)
theorem w768 : Cond.selects "PalmHours$Town" ⟨"PalmHours$Town", "findCorner", "(I)I"⟩ ⟨"PalmHours$Town", "findCorner", "(I)I"⟩ ∈ lw_g := mem_g (List.mem_of_getElem? (i := 768) (by decide +kernel)) (by decide +kernel)
theorem w769 : Cond.code ⟨"PalmHours$Town", "findCorner", "(I)I"⟩ cX9_findCorner 2 (some .int) ∈ lw_g := mem_g (List.mem_of_getElem? (i := 769) (by decide +kernel)) (by decide +kernel)
theorem w770 : Cond.methodLink "PalmHours$Reader" 167 ⟨"PalmHours$Town", "findDoing", "(I)I"⟩ ∈ lw_g := mem_g (List.mem_of_getElem? (i := 770) (by decide +kernel)) (by decide +kernel)
theorem w771 : Cond.instanceMethod ⟨"PalmHours$Town", "findDoing", "(I)I"⟩ ∈ lw_g := mem_g (List.mem_of_getElem? (i := 771) (by decide +kernel)) (by decide +kernel)
theorem w772 : Cond.selects "PalmHours$Town" ⟨"PalmHours$Town", "findDoing", "(I)I"⟩ ⟨"PalmHours$Town", "findDoing", "(I)I"⟩ ∈ lw_g := mem_g (List.mem_of_getElem? (i := 772) (by decide +kernel)) (by decide +kernel)
theorem w773 : Cond.code ⟨"PalmHours$Town", "findDoing", "(I)I"⟩ cX9_findDoing 2 (some .int) ∈ lw_g := mem_g (List.mem_of_getElem? (i := 773) (by decide +kernel)) (by decide +kernel)
theorem w774 : Cond.methodLink "PalmHours$Reader" 53 ⟨"PalmHours$Tokens", "skip", "(I)Z"⟩ ∈ lw_g := mem_g (List.mem_of_getElem? (i := 774) (by decide +kernel)) (by decide +kernel)
theorem w775 : Cond.instanceMethod ⟨"PalmHours$Tokens", "skip", "(I)Z"⟩ ∈ lw_g := mem_g (List.mem_of_getElem? (i := 775) (by decide +kernel)) (by decide +kernel)
theorem w776 : Cond.selects "PalmHours$Tokens" ⟨"PalmHours$Tokens", "skip", "(I)Z"⟩ ⟨"PalmHours$Tokens", "skip", "(I)Z"⟩ ∈ lw_g := mem_g (List.mem_of_getElem? (i := 776) (by decide +kernel)) (by decide +kernel)
theorem w777 : Cond.code ⟨"PalmHours$Tokens", "skip", "(I)Z"⟩ cX8_skip 2 (some .boolean) ∈ lw_g := mem_g (List.mem_of_getElem? (i := 777) (by decide +kernel)) (by decide +kernel)
theorem w778 : Cond.methodLink "PalmHours$Tokens" 64 ⟨"PalmHours$Tokens", "failHere", "()Z"⟩ ∈ lw_g := mem_g (List.mem_of_getElem? (i := 778) (by decide +kernel)) (by decide +kernel)
theorem w779 : Cond.methodLink "PalmHours$Reader" 126 ⟨"PalmHours$Reader", "number", "(II)I"⟩ ∈ lw_g := mem_g (List.mem_of_getElem? (i := 779) (by decide +kernel)) (by decide +kernel)
theorem w781 : Cond.instanceMethod ⟨"PalmHours$Reader", "number", "(II)I"⟩ ∈ lw_g := mem_g (List.mem_of_getElem? (i := 781) (by decide +kernel)) (by decide +kernel)
theorem w782 : Cond.code ⟨"PalmHours$Reader", "number", "(II)I"⟩ cX4_number 4 (some .int) ∈ lw_g := mem_g (List.mem_of_getElem? (i := 782) (by decide +kernel)) (by decide +kernel)
theorem w783 : Cond.methodLink "PalmHours$Reader" 130 ⟨"PalmHours$Town", "addThing", "(III)V"⟩ ∈ lw_g := mem_g (List.mem_of_getElem? (i := 783) (by decide +kernel)) (by decide +kernel)
theorem w784 : Cond.instanceMethod ⟨"PalmHours$Town", "addThing", "(III)V"⟩ ∈ lw_g := mem_g (List.mem_of_getElem? (i := 784) (by decide +kernel)) (by decide +kernel)
theorem w785 : Cond.selects "PalmHours$Town" ⟨"PalmHours$Town", "addThing", "(III)V"⟩ ⟨"PalmHours$Town", "addThing", "(III)V"⟩ ∈ lw_g := mem_g (List.mem_of_getElem? (i := 785) (by decide +kernel)) (by decide +kernel)
theorem w786 : Cond.code ⟨"PalmHours$Town", "addThing", "(III)V"⟩ cX9_addThing 4 none ∈ lw_g := mem_g (List.mem_of_getElem? (i := 786) (by decide +kernel)) (by decide +kernel)
theorem w787 : Cond.methodLink "PalmHours$Reader" 80 ⟨"PalmHours$Reader", "readCorner", "()Z"⟩ ∈ lw_g := mem_g (List.mem_of_getElem? (i := 787) (by decide +kernel)) (by decide +kernel)
theorem w789 : Cond.instanceMethod ⟨"PalmHours$Reader", "readCorner", "()Z"⟩ ∈ lw_g := mem_g (List.mem_of_getElem? (i := 789) (by decide +kernel)) (by decide +kernel)
theorem w790 : Cond.code ⟨"PalmHours$Reader", "readCorner", "()Z"⟩ cX4_readCorner 2 (some .boolean) ∈ lw_g := mem_g (List.mem_of_getElem? (i := 790) (by decide +kernel)) (by decide +kernel)
theorem w791 : Cond.methodLink "PalmHours$Reader" 134 ⟨"PalmHours$Town", "addCorner", "(I)V"⟩ ∈ lw_g := mem_g (List.mem_of_getElem? (i := 791) (by decide +kernel)) (by decide +kernel)
theorem w792 : Cond.instanceMethod ⟨"PalmHours$Town", "addCorner", "(I)V"⟩ ∈ lw_g := mem_g (List.mem_of_getElem? (i := 792) (by decide +kernel)) (by decide +kernel)
theorem w793 : Cond.selects "PalmHours$Town" ⟨"PalmHours$Town", "addCorner", "(I)V"⟩ ⟨"PalmHours$Town", "addCorner", "(I)V"⟩ ∈ lw_g := mem_g (List.mem_of_getElem? (i := 793) (by decide +kernel)) (by decide +kernel)
theorem w794 : Cond.code ⟨"PalmHours$Town", "addCorner", "(I)V"⟩ cX9_addCorner 2 none ∈ lw_g := mem_g (List.mem_of_getElem? (i := 794) (by decide +kernel)) (by decide +kernel)
theorem w795 : Cond.methodLink "PalmHours$Reader" 86 ⟨"PalmHours$Reader", "readRoad", "()Z"⟩ ∈ lw_g := mem_g (List.mem_of_getElem? (i := 795) (by decide +kernel)) (by decide +kernel)
theorem w797 : Cond.instanceMethod ⟨"PalmHours$Reader", "readRoad", "()Z"⟩ ∈ lw_g := mem_g (List.mem_of_getElem? (i := 797) (by decide +kernel)) (by decide +kernel)
theorem w798 : Cond.code ⟨"PalmHours$Reader", "readRoad", "()Z"⟩ cX4_readRoad 4 (some .boolean) ∈ lw_g := mem_g (List.mem_of_getElem? (i := 798) (by decide +kernel)) (by decide +kernel)
theorem w799 : Cond.methodLink "PalmHours$Reader" 138 ⟨"PalmHours$Reader", "cornerHere", "()I"⟩ ∈ lw_g := mem_g (List.mem_of_getElem? (i := 799) (by decide +kernel)) (by decide +kernel)
theorem w801 : Cond.instanceMethod ⟨"PalmHours$Reader", "cornerHere", "()I"⟩ ∈ lw_g := mem_g (List.mem_of_getElem? (i := 801) (by decide +kernel)) (by decide +kernel)
theorem w802 : Cond.code ⟨"PalmHours$Reader", "cornerHere", "()I"⟩ cX4_cornerHere 2 (some .int) ∈ lw_g := mem_g (List.mem_of_getElem? (i := 802) (by decide +kernel)) (by decide +kernel)
theorem w803 : Cond.methodLink "PalmHours$Reader" 141 ⟨"PalmHours$Town", "hasRoad", "(II)Z"⟩ ∈ lw_g := mem_g (List.mem_of_getElem? (i := 803) (by decide +kernel)) (by decide +kernel)
theorem w804 : Cond.instanceMethod ⟨"PalmHours$Town", "hasRoad", "(II)Z"⟩ ∈ lw_g := mem_g (List.mem_of_getElem? (i := 804) (by decide +kernel)) (by decide +kernel)
theorem w805 : Cond.selects "PalmHours$Town" ⟨"PalmHours$Town", "hasRoad", "(II)Z"⟩ ⟨"PalmHours$Town", "hasRoad", "(II)Z"⟩ ∈ lw_g := mem_g (List.mem_of_getElem? (i := 805) (by decide +kernel)) (by decide +kernel)
theorem w806 : Cond.code ⟨"PalmHours$Town", "hasRoad", "(II)Z"⟩ cX9_hasRoad 6 (some .boolean) ∈ lw_g := mem_g (List.mem_of_getElem? (i := 806) (by decide +kernel)) (by decide +kernel)
theorem w807 : Cond.methodLink "PalmHours$Reader" 144 ⟨"PalmHours$Town", "addRoad", "(III)V"⟩ ∈ lw_g := mem_g (List.mem_of_getElem? (i := 807) (by decide +kernel)) (by decide +kernel)
theorem w808 : Cond.instanceMethod ⟨"PalmHours$Town", "addRoad", "(III)V"⟩ ∈ lw_g := mem_g (List.mem_of_getElem? (i := 808) (by decide +kernel)) (by decide +kernel)
theorem w809 : Cond.selects "PalmHours$Town" ⟨"PalmHours$Town", "addRoad", "(III)V"⟩ ⟨"PalmHours$Town", "addRoad", "(III)V"⟩ ∈ lw_g := mem_g (List.mem_of_getElem? (i := 809) (by decide +kernel)) (by decide +kernel)
theorem w810 : Cond.code ⟨"PalmHours$Town", "addRoad", "(III)V"⟩ cX9_addRoad 4 none ∈ lw_g := mem_g (List.mem_of_getElem? (i := 810) (by decide +kernel)) (by decide +kernel)
theorem w811 : Cond.methodLink "PalmHours$Reader" 89 ⟨"PalmHours$Reader", "readPalm", "()Z"⟩ ∈ lw_g := mem_g (List.mem_of_getElem? (i := 811) (by decide +kernel)) (by decide +kernel)
theorem w813 : Cond.instanceMethod ⟨"PalmHours$Reader", "readPalm", "()Z"⟩ ∈ lw_g := mem_g (List.mem_of_getElem? (i := 813) (by decide +kernel)) (by decide +kernel)
theorem w814 : Cond.code ⟨"PalmHours$Reader", "readPalm", "()Z"⟩ cX4_readPalm 3 (some .boolean) ∈ lw_g := mem_g (List.mem_of_getElem? (i := 814) (by decide +kernel)) (by decide +kernel)
theorem w815 : Cond.methodLink "PalmHours$Reader" 95 ⟨"PalmHours$Reader", "readDoing", "()Z"⟩ ∈ lw_g := mem_g (List.mem_of_getElem? (i := 815) (by decide +kernel)) (by decide +kernel)
theorem w817 : Cond.instanceMethod ⟨"PalmHours$Reader", "readDoing", "()Z"⟩ ∈ lw_g := mem_g (List.mem_of_getElem? (i := 817) (by decide +kernel)) (by decide +kernel)
theorem w818 : Cond.code ⟨"PalmHours$Reader", "readDoing", "()Z"⟩ cX4_readDoing 4 (some .boolean) ∈ lw_g := mem_g (List.mem_of_getElem? (i := 818) (by decide +kernel)) (by decide +kernel)
theorem w819 : Cond.methodLink "PalmHours$Reader" 158 ⟨"PalmHours$Town", "addDoing", "(III)V"⟩ ∈ lw_g := mem_g (List.mem_of_getElem? (i := 819) (by decide +kernel)) (by decide +kernel)
theorem w820 : Cond.instanceMethod ⟨"PalmHours$Town", "addDoing", "(III)V"⟩ ∈ lw_g := mem_g (List.mem_of_getElem? (i := 820) (by decide +kernel)) (by decide +kernel)
theorem w821 : Cond.selects "PalmHours$Town" ⟨"PalmHours$Town", "addDoing", "(III)V"⟩ ⟨"PalmHours$Town", "addDoing", "(III)V"⟩ ∈ lw_g := mem_g (List.mem_of_getElem? (i := 821) (by decide +kernel)) (by decide +kernel)
theorem w822 : Cond.code ⟨"PalmHours$Town", "addDoing", "(III)V"⟩ cX9_addDoing 4 none ∈ lw_g := mem_g (List.mem_of_getElem? (i := 822) (by decide +kernel)) (by decide +kernel)
theorem w823 : Cond.methodLink "PalmHours$Reader" 98 ⟨"PalmHours$Formula", "isTold", "()Z"⟩ ∈ lw_g := mem_g (List.mem_of_getElem? (i := 823) (by decide +kernel)) (by decide +kernel)
theorem w824 : Cond.methodLink "PalmHours$Reader" 103 ⟨"PalmHours$Phrases", "readSays", "(LPalmHours$Formula;)Z"⟩ ∈ lw_g := mem_g (List.mem_of_getElem? (i := 824) (by decide +kernel)) (by decide +kernel)
theorem w825 : Cond.instanceMethod ⟨"PalmHours$Phrases", "readSays", "(LPalmHours$Formula;)Z"⟩ ∈ lw_g := mem_g (List.mem_of_getElem? (i := 825) (by decide +kernel)) (by decide +kernel)
theorem w826 : Cond.selects "PalmHours$Phrases" ⟨"PalmHours$Phrases", "readSays", "(LPalmHours$Formula;)Z"⟩ ⟨"PalmHours$Phrases", "readSays", "(LPalmHours$Formula;)Z"⟩ ∈ lw_g := mem_g (List.mem_of_getElem? (i := 826) (by decide +kernel)) (by decide +kernel)
theorem w827 : Cond.code ⟨"PalmHours$Phrases", "readSays", "(LPalmHours$Formula;)Z"⟩ cX3_readSays 2 (some .boolean) ∈ lw_g := mem_g (List.mem_of_getElem? (i := 827) (by decide +kernel)) (by decide +kernel)
theorem w828 : Cond.methodLink "PalmHours$Phrases" 23 ⟨"PalmHours$Phrases", "readSum", "(I)Z"⟩ ∈ lw_g := mem_g (List.mem_of_getElem? (i := 828) (by decide +kernel)) (by decide +kernel)
theorem w830 : Cond.instanceMethod ⟨"PalmHours$Phrases", "readSum", "(I)Z"⟩ ∈ lw_g := mem_g (List.mem_of_getElem? (i := 830) (by decide +kernel)) (by decide +kernel)
theorem w831 : Cond.code ⟨"PalmHours$Phrases", "readSum", "(I)Z"⟩ cX3_readSum 4 (some .boolean) ∈ lw_g := mem_g (List.mem_of_getElem? (i := 831) (by decide +kernel)) (by decide +kernel)
theorem w832 : Cond.methodLink "PalmHours$Phrases" 56 ⟨"PalmHours$Phrases", "readProduct", "(I)Z"⟩ ∈ lw_g := mem_g (List.mem_of_getElem? (i := 832) (by decide +kernel)) (by decide +kernel)
theorem w834 : Cond.instanceMethod ⟨"PalmHours$Phrases", "readProduct", "(I)Z"⟩ ∈ lw_g := mem_g (List.mem_of_getElem? (i := 834) (by decide +kernel)) (by decide +kernel)
theorem w835 : Cond.code ⟨"PalmHours$Phrases", "readProduct", "(I)Z"⟩ cX3_readProduct 4 (some .boolean) ∈ lw_g := mem_g (List.mem_of_getElem? (i := 835) (by decide +kernel)) (by decide +kernel)
theorem w836 : Cond.methodLink "PalmHours$Phrases" 63 ⟨"PalmHours$Phrases", "readPart", "(I)Z"⟩ ∈ lw_g := mem_g (List.mem_of_getElem? (i := 836) (by decide +kernel)) (by decide +kernel)
theorem w838 : Cond.instanceMethod ⟨"PalmHours$Phrases", "readPart", "(I)Z"⟩ ∈ lw_g := mem_g (List.mem_of_getElem? (i := 838) (by decide +kernel)) (by decide +kernel)
theorem w839 : Cond.code ⟨"PalmHours$Phrases", "readPart", "(I)Z"⟩ cX3_readPart 2 (some .boolean) ∈ lw_g := mem_g (List.mem_of_getElem? (i := 839) (by decide +kernel)) (by decide +kernel)
theorem w840 : Cond.methodLink "PalmHours$Phrases" 72 ⟨"PalmHours$Phrases", "addAndAdvance", "(I)Z"⟩ ∈ lw_g := mem_g (List.mem_of_getElem? (i := 840) (by decide +kernel)) (by decide +kernel)
theorem w842 : Cond.instanceMethod ⟨"PalmHours$Phrases", "addAndAdvance", "(I)Z"⟩ ∈ lw_g := mem_g (List.mem_of_getElem? (i := 842) (by decide +kernel)) (by decide +kernel)
theorem w843 : Cond.code ⟨"PalmHours$Phrases", "addAndAdvance", "(I)Z"⟩ cX3_addAndAdvance 2 (some .boolean) ∈ lw_g := mem_g (List.mem_of_getElem? (i := 843) (by decide +kernel)) (by decide +kernel)
theorem w844 : Cond.methodLink "PalmHours$Phrases" 50 ⟨"PalmHours$Formula", "add", "(I)V"⟩ ∈ lw_g := mem_g (List.mem_of_getElem? (i := 844) (by decide +kernel)) (by decide +kernel)
theorem w845 : Cond.instanceMethod ⟨"PalmHours$Formula", "add", "(I)V"⟩ ∈ lw_g := mem_g (List.mem_of_getElem? (i := 845) (by decide +kernel)) (by decide +kernel)
theorem w846 : Cond.selects "PalmHours$Formula" ⟨"PalmHours$Formula", "add", "(I)V"⟩ ⟨"PalmHours$Formula", "add", "(I)V"⟩ ∈ lw_g := mem_g (List.mem_of_getElem? (i := 846) (by decide +kernel)) (by decide +kernel)
theorem w847 : Cond.code ⟨"PalmHours$Formula", "add", "(I)V"⟩ cX0_add 2 none ∈ lw_g := mem_g (List.mem_of_getElem? (i := 847) (by decide +kernel)) (by decide +kernel)
theorem w848 : Cond.methodLink "PalmHours$Phrases" 47 ⟨"PalmHours$Tokens", "advance", "()V"⟩ ∈ lw_g := mem_g (List.mem_of_getElem? (i := 848) (by decide +kernel)) (by decide +kernel)
theorem w849 : Cond.methodLink "PalmHours$Phrases" 36 ⟨"PalmHours$Tokens", "failHere", "()Z"⟩ ∈ lw_g := mem_g (List.mem_of_getElem? (i := 849) (by decide +kernel)) (by decide +kernel)
theorem w850 : Cond.methodLink "PalmHours$Phrases" 75 ⟨"PalmHours$Phrases", "readPair", "(II)Z"⟩ ∈ lw_g := mem_g (List.mem_of_getElem? (i := 850) (by decide +kernel)) (by decide +kernel)
theorem w852 : Cond.instanceMethod ⟨"PalmHours$Phrases", "readPair", "(II)Z"⟩ ∈ lw_g := mem_g (List.mem_of_getElem? (i := 852) (by decide +kernel)) (by decide +kernel)
theorem w853 : Cond.code ⟨"PalmHours$Phrases", "readPair", "(II)Z"⟩ cX3_readPair 3 (some .boolean) ∈ lw_g := mem_g (List.mem_of_getElem? (i := 853) (by decide +kernel)) (by decide +kernel)
theorem w854 : Cond.methodLink "PalmHours$Phrases" 81 ⟨"PalmHours$Phrases", "goIn", "(II)Z"⟩ ∈ lw_g := mem_g (List.mem_of_getElem? (i := 854) (by decide +kernel)) (by decide +kernel)
theorem w856 : Cond.instanceMethod ⟨"PalmHours$Phrases", "goIn", "(II)Z"⟩ ∈ lw_g := mem_g (List.mem_of_getElem? (i := 856) (by decide +kernel)) (by decide +kernel)
theorem w857 : Cond.code ⟨"PalmHours$Phrases", "goIn", "(II)Z"⟩ cX3_goIn 3 (some .boolean) ∈ lw_g := mem_g (List.mem_of_getElem? (i := 857) (by decide +kernel)) (by decide +kernel)
theorem w858 : Cond.methodLink "PalmHours$Phrases" 43 ⟨"PalmHours$Tokens", "fail", "(II)Z"⟩ ∈ lw_g := mem_g (List.mem_of_getElem? (i := 858) (by decide +kernel)) (by decide +kernel)
theorem w859 : Cond.methodLink "PalmHours$Phrases" 84 ⟨"PalmHours$Tokens", "skip", "(I)Z"⟩ ∈ lw_g := mem_g (List.mem_of_getElem? (i := 859) (by decide +kernel)) (by decide +kernel)
theorem w860 : Cond.methodLink "PalmHours$Phrases" 87 ⟨"PalmHours$Phrases", "add", "(I)Z"⟩ ∈ lw_g := mem_g (List.mem_of_getElem? (i := 860) (by decide +kernel)) (by decide +kernel)
theorem w862 : Cond.instanceMethod ⟨"PalmHours$Phrases", "add", "(I)Z"⟩ ∈ lw_g := mem_g (List.mem_of_getElem? (i := 862) (by decide +kernel)) (by decide +kernel)
theorem w863 : Cond.code ⟨"PalmHours$Phrases", "add", "(I)Z"⟩ cX3_add 2 (some .boolean) ∈ lw_g := mem_g (List.mem_of_getElem? (i := 863) (by decide +kernel)) (by decide +kernel)
theorem w864 : Cond.methodLink "PalmHours$Phrases" 78 ⟨"PalmHours$Phrases", "readChoice", "(I)Z"⟩ ∈ lw_g := mem_g (List.mem_of_getElem? (i := 864) (by decide +kernel)) (by decide +kernel)
theorem w866 : Cond.instanceMethod ⟨"PalmHours$Phrases", "readChoice", "(I)Z"⟩ ∈ lw_g := mem_g (List.mem_of_getElem? (i := 866) (by decide +kernel)) (by decide +kernel)
theorem w867 : Cond.code ⟨"PalmHours$Phrases", "readChoice", "(I)Z"⟩ cX3_readChoice 2 (some .boolean) ∈ lw_g := mem_g (List.mem_of_getElem? (i := 867) (by decide +kernel)) (by decide +kernel)
theorem w868 : Cond.methodLink "PalmHours$Phrases" 27 ⟨"PalmHours$Phrases", "readTest", "(I)Z"⟩ ∈ lw_g := mem_g (List.mem_of_getElem? (i := 868) (by decide +kernel)) (by decide +kernel)
theorem w870 : Cond.instanceMethod ⟨"PalmHours$Phrases", "readTest", "(I)Z"⟩ ∈ lw_g := mem_g (List.mem_of_getElem? (i := 870) (by decide +kernel)) (by decide +kernel)
theorem w871 : Cond.code ⟨"PalmHours$Phrases", "readTest", "(I)Z"⟩ cX3_readTest 3 (some .boolean) ∈ lw_g := mem_g (List.mem_of_getElem? (i := 871) (by decide +kernel)) (by decide +kernel)
theorem w872 : Cond.methodLink "PalmHours$Phrases" 89 ⟨"PalmHours$Phrases", "readBoth", "(I)Z"⟩ ∈ lw_g := mem_g (List.mem_of_getElem? (i := 872) (by decide +kernel)) (by decide +kernel)
theorem w874 : Cond.instanceMethod ⟨"PalmHours$Phrases", "readBoth", "(I)Z"⟩ ∈ lw_g := mem_g (List.mem_of_getElem? (i := 874) (by decide +kernel)) (by decide +kernel)
theorem w875 : Cond.code ⟨"PalmHours$Phrases", "readBoth", "(I)Z"⟩ cX3_readBoth 3 (some .boolean) ∈ lw_g := mem_g (List.mem_of_getElem? (i := 875) (by decide +kernel)) (by decide +kernel)
theorem w876 : Cond.methodLink "PalmHours$Phrases" 92 ⟨"PalmHours$Phrases", "readFact", "(I)Z"⟩ ∈ lw_g := mem_g (List.mem_of_getElem? (i := 876) (by decide +kernel)) (by decide +kernel)
theorem w878 : Cond.instanceMethod ⟨"PalmHours$Phrases", "readFact", "(I)Z"⟩ ∈ lw_g := mem_g (List.mem_of_getElem? (i := 878) (by decide +kernel)) (by decide +kernel)
theorem w879 : Cond.code ⟨"PalmHours$Phrases", "readFact", "(I)Z"⟩ cX3_readFact 2 (some .boolean) ∈ lw_g := mem_g (List.mem_of_getElem? (i := 879) (by decide +kernel)) (by decide +kernel)
theorem w880 : Cond.methodLink "PalmHours$Phrases" 95 ⟨"PalmHours$Phrases", "readComparison", "(I)Z"⟩ ∈ lw_g := mem_g (List.mem_of_getElem? (i := 880) (by decide +kernel)) (by decide +kernel)
theorem w882 : Cond.instanceMethod ⟨"PalmHours$Phrases", "readComparison", "(I)Z"⟩ ∈ lw_g := mem_g (List.mem_of_getElem? (i := 882) (by decide +kernel)) (by decide +kernel)
theorem w883 : Cond.code ⟨"PalmHours$Phrases", "readComparison", "(I)Z"⟩ cX3_readComparison 3 (some .boolean) ∈ lw_g := mem_g (List.mem_of_getElem? (i := 883) (by decide +kernel)) (by decide +kernel)
theorem w884 : Cond.methodLink "PalmHours$Phrases" 98 ⟨"PalmHours$Phrases", "comparisonStep", "()I"⟩ ∈ lw_g := mem_g (List.mem_of_getElem? (i := 884) (by decide +kernel)) (by decide +kernel)
theorem w886 : Cond.instanceMethod ⟨"PalmHours$Phrases", "comparisonStep", "()I"⟩ ∈ lw_g := mem_g (List.mem_of_getElem? (i := 886) (by decide +kernel)) (by decide +kernel)
theorem w887 : Cond.code ⟨"PalmHours$Phrases", "comparisonStep", "()I"⟩ cX3_comparisonStep 1 (some .int) ∈ lw_g := mem_g (List.mem_of_getElem? (i := 887) (by decide +kernel)) (by decide +kernel)
theorem w888 : Cond.methodLink "PalmHours$Phrases" 66 ⟨"PalmHours$Phrases", "productStep", "()I"⟩ ∈ lw_g := mem_g (List.mem_of_getElem? (i := 888) (by decide +kernel)) (by decide +kernel)
theorem w890 : Cond.instanceMethod ⟨"PalmHours$Phrases", "productStep", "()I"⟩ ∈ lw_g := mem_g (List.mem_of_getElem? (i := 890) (by decide +kernel)) (by decide +kernel)
theorem w891 : Cond.code ⟨"PalmHours$Phrases", "productStep", "()I"⟩ cX3_productStep 1 (some .int) ∈ lw_g := mem_g (List.mem_of_getElem? (i := 891) (by decide +kernel)) (by decide +kernel)
theorem w892 : Cond.methodLink "PalmHours$Phrases" 59 ⟨"PalmHours$Phrases", "sumStep", "()I"⟩ ∈ lw_g := mem_g (List.mem_of_getElem? (i := 892) (by decide +kernel)) (by decide +kernel)
theorem w894 : Cond.instanceMethod ⟨"PalmHours$Phrases", "sumStep", "()I"⟩ ∈ lw_g := mem_g (List.mem_of_getElem? (i := 894) (by decide +kernel)) (by decide +kernel)
theorem w895 : Cond.code ⟨"PalmHours$Phrases", "sumStep", "()I"⟩ cX3_sumStep 1 (some .int) ∈ lw_g := mem_g (List.mem_of_getElem? (i := 895) (by decide +kernel)) (by decide +kernel)
theorem w896 : Cond.methodLink "PalmHours$Reader" 110 ⟨"PalmHours$Phrases", "readGone", "(LPalmHours$Formula;)Z"⟩ ∈ lw_g := mem_g (List.mem_of_getElem? (i := 896) (by decide +kernel)) (by decide +kernel)
theorem w897 : Cond.instanceMethod ⟨"PalmHours$Phrases", "readGone", "(LPalmHours$Formula;)Z"⟩ ∈ lw_g := mem_g (List.mem_of_getElem? (i := 897) (by decide +kernel)) (by decide +kernel)
theorem w898 : Cond.selects "PalmHours$Phrases" ⟨"PalmHours$Phrases", "readGone", "(LPalmHours$Formula;)Z"⟩ ⟨"PalmHours$Phrases", "readGone", "(LPalmHours$Formula;)Z"⟩ ∈ lw_g := mem_g (List.mem_of_getElem? (i := 898) (by decide +kernel)) (by decide +kernel)
theorem w899 : Cond.code ⟨"PalmHours$Phrases", "readGone", "(LPalmHours$Formula;)Z"⟩ cX3_readGone 2 (some .boolean) ∈ lw_g := mem_g (List.mem_of_getElem? (i := 899) (by decide +kernel)) (by decide +kernel)
theorem w900 : Cond.methodLink "PalmHours$Reader" 113 ⟨"PalmHours$Reader", "readPass", "()Z"⟩ ∈ lw_g := mem_g (List.mem_of_getElem? (i := 900) (by decide +kernel)) (by decide +kernel)
theorem w902 : Cond.instanceMethod ⟨"PalmHours$Reader", "readPass", "()Z"⟩ ∈ lw_g := mem_g (List.mem_of_getElem? (i := 902) (by decide +kernel)) (by decide +kernel)
theorem w903 : Cond.code ⟨"PalmHours$Reader", "readPass", "()Z"⟩ cX4_readPass 2 (some .boolean) ∈ lw_g := mem_g (List.mem_of_getElem? (i := 903) (by decide +kernel)) (by decide +kernel)
theorem w912 : Cond.methodLink "PalmHours" 151 ⟨"PalmHours$State", "countDone", "()I"⟩ ∈ lw_g := mem_g (List.mem_of_getElem? (i := 912) (by decide +kernel)) (by decide +kernel)
theorem w913 : Cond.instanceMethod ⟨"PalmHours$State", "countDone", "()I"⟩ ∈ lw_g := mem_g (List.mem_of_getElem? (i := 913) (by decide +kernel)) (by decide +kernel)
theorem w914 : Cond.selects "PalmHours$State" ⟨"PalmHours$State", "countDone", "()I"⟩ ⟨"PalmHours$State", "countDone", "()I"⟩ ∈ lw_g := mem_g (List.mem_of_getElem? (i := 914) (by decide +kernel)) (by decide +kernel)
theorem w915 : Cond.code ⟨"PalmHours$State", "countDone", "()I"⟩ cX6_countDone 3 (some .int) ∈ lw_g := mem_g (List.mem_of_getElem? (i := 915) (by decide +kernel)) (by decide +kernel)
theorem w916 : Cond.methodLink "PalmHours" 155 ⟨"PalmHours$State", "countEmpty", "()I"⟩ ∈ lw_g := mem_g (List.mem_of_getElem? (i := 916) (by decide +kernel)) (by decide +kernel)
theorem w917 : Cond.instanceMethod ⟨"PalmHours$State", "countEmpty", "()I"⟩ ∈ lw_g := mem_g (List.mem_of_getElem? (i := 917) (by decide +kernel)) (by decide +kernel)
theorem w918 : Cond.selects "PalmHours$State" ⟨"PalmHours$State", "countEmpty", "()I"⟩ ⟨"PalmHours$State", "countEmpty", "()I"⟩ ∈ lw_g := mem_g (List.mem_of_getElem? (i := 918) (by decide +kernel)) (by decide +kernel)
theorem w919 : Cond.code ⟨"PalmHours$State", "countEmpty", "()I"⟩ cX6_countEmpty 3 (some .int) ∈ lw_g := mem_g (List.mem_of_getElem? (i := 919) (by decide +kernel)) (by decide +kernel)
theorem w924 : Cond.methodLink "PalmHours" 165 ⟨"PalmHours$Town", "isThing", "(I)Z"⟩ ∈ lw_g := mem_g (List.mem_of_getElem? (i := 924) (by decide +kernel)) (by decide +kernel)
theorem w925 : Cond.methodLink "PalmHours" 171 ⟨"PalmHours$Tokens", "letterOf", "(II)I"⟩ ∈ lw_g := mem_g (List.mem_of_getElem? (i := 925) (by decide +kernel)) (by decide +kernel)
theorem w926 : Cond.static ⟨"PalmHours$Tokens", "letterOf", "(II)I"⟩ ∈ lw_g := mem_g (List.mem_of_getElem? (i := 926) (by decide +kernel)) (by decide +kernel)
theorem w927 : Cond.code ⟨"PalmHours$Tokens", "letterOf", "(II)I"⟩ cX8_letterOf 4 (some .int) ∈ lw_g := mem_g (List.mem_of_getElem? (i := 927) (by decide +kernel)) (by decide +kernel)
theorem w928 : Cond.methodLink "PalmHours" 175 ⟨"PalmHours$Town", "isCorner", "(I)Z"⟩ ∈ lw_g := mem_g (List.mem_of_getElem? (i := 928) (by decide +kernel)) (by decide +kernel)
theorem w929 : Cond.instanceMethod ⟨"PalmHours$Town", "isCorner", "(I)Z"⟩ ∈ lw_g := mem_g (List.mem_of_getElem? (i := 929) (by decide +kernel)) (by decide +kernel)
theorem w930 : Cond.selects "PalmHours$Town" ⟨"PalmHours$Town", "isCorner", "(I)Z"⟩ ⟨"PalmHours$Town", "isCorner", "(I)Z"⟩ ∈ lw_g := mem_g (List.mem_of_getElem? (i := 930) (by decide +kernel)) (by decide +kernel)
theorem w931 : Cond.code ⟨"PalmHours$Town", "isCorner", "(I)Z"⟩ cX9_isCorner 2 (some .boolean) ∈ lw_g := mem_g (List.mem_of_getElem? (i := 931) (by decide +kernel)) (by decide +kernel)
theorem w932 : Cond.methodLink "PalmHours" 181 ⟨"PalmHours$Town", "isDoing", "(I)Z"⟩ ∈ lw_g := mem_g (List.mem_of_getElem? (i := 932) (by decide +kernel)) (by decide +kernel)
theorem w933 : Cond.instanceMethod ⟨"PalmHours$Town", "isDoing", "(I)Z"⟩ ∈ lw_g := mem_g (List.mem_of_getElem? (i := 933) (by decide +kernel)) (by decide +kernel)
theorem w934 : Cond.selects "PalmHours$Town" ⟨"PalmHours$Town", "isDoing", "(I)Z"⟩ ⟨"PalmHours$Town", "isDoing", "(I)Z"⟩ ∈ lw_g := mem_g (List.mem_of_getElem? (i := 934) (by decide +kernel)) (by decide +kernel)
theorem w935 : Cond.code ⟨"PalmHours$Town", "isDoing", "(I)Z"⟩ cX9_isDoing 2 (some .boolean) ∈ lw_g := mem_g (List.mem_of_getElem? (i := 935) (by decide +kernel)) (by decide +kernel)
theorem w944 : Cond.methodLink "PalmHours" 198 ⟨"PalmHours", "hourAt", "(I)I"⟩ ∈ lw_g := mem_g (List.mem_of_getElem? (i := 944) (by decide +kernel)) (by decide +kernel)
theorem w946 : Cond.instanceMethod ⟨"PalmHours", "hourAt", "(I)I"⟩ ∈ lw_g := mem_g (List.mem_of_getElem? (i := 946) (by decide +kernel)) (by decide +kernel)
theorem w947 : Cond.code ⟨"PalmHours", "hourAt", "(I)I"⟩ cX11_hourAt 2 (some .int) ∈ lw_g := mem_g (List.mem_of_getElem? (i := 947) (by decide +kernel)) (by decide +kernel)
theorem w948 : Cond.methodLink "PalmHours" 237 ⟨"PalmHours", "lookAt", "(I)V"⟩ ∈ lw_g := mem_g (List.mem_of_getElem? (i := 948) (by decide +kernel)) (by decide +kernel)
theorem w950 : Cond.instanceMethod ⟨"PalmHours", "lookAt", "(I)V"⟩ ∈ lw_g := mem_g (List.mem_of_getElem? (i := 950) (by decide +kernel)) (by decide +kernel)
theorem w951 : Cond.code ⟨"PalmHours", "lookAt", "(I)V"⟩ cX11_lookAt 2 none ∈ lw_g := mem_g (List.mem_of_getElem? (i := 951) (by decide +kernel)) (by decide +kernel)
theorem w952 : Cond.methodLink "PalmHours" 317 ⟨"PalmHours$Palm", "hold", "(IIII)V"⟩ ∈ lw_g := mem_g (List.mem_of_getElem? (i := 952) (by decide +kernel)) (by decide +kernel)
theorem w953 : Cond.methodLink "PalmHours" 321 ⟨"PalmHours$Palm", "hourNow", "()I"⟩ ∈ lw_g := mem_g (List.mem_of_getElem? (i := 953) (by decide +kernel)) (by decide +kernel)
theorem w962 : Cond.methodLink "PalmHours" 210 ⟨"PalmHours", "isBeyond", "(I)Z"⟩ ∈ lw_g := mem_g (List.mem_of_getElem? (i := 962) (by decide +kernel)) (by decide +kernel)
theorem w964 : Cond.instanceMethod ⟨"PalmHours", "isBeyond", "(I)Z"⟩ ∈ lw_g := mem_g (List.mem_of_getElem? (i := 964) (by decide +kernel)) (by decide +kernel)
theorem w965 : Cond.code ⟨"PalmHours", "isBeyond", "(I)Z"⟩ cX11_isBeyond 2 (some .boolean) ∈ lw_g := mem_g (List.mem_of_getElem? (i := 965) (by decide +kernel)) (by decide +kernel)
theorem w966 : Cond.methodLink "PalmHours" 213 ⟨"PalmHours", "foresee", "(I[II)I"⟩ ∈ lw_g := mem_g (List.mem_of_getElem? (i := 966) (by decide +kernel)) (by decide +kernel)
theorem w968 : Cond.instanceMethod ⟨"PalmHours", "foresee", "(I[II)I"⟩ ∈ lw_g := mem_g (List.mem_of_getElem? (i := 968) (by decide +kernel)) (by decide +kernel)
theorem w969 : Cond.code ⟨"PalmHours", "foresee", "(I[II)I"⟩ cX11_foresee 4 (some .int) ∈ lw_g := mem_g (List.mem_of_getElem? (i := 969) (by decide +kernel)) (by decide +kernel)
theorem w970 : Cond.methodLink "PalmHours" 324 ⟨"PalmHours$Palm", "foresee", "([II)I"⟩ ∈ lw_g := mem_g (List.mem_of_getElem? (i := 970) (by decide +kernel)) (by decide +kernel)
theorem w971 : Cond.instanceMethod ⟨"PalmHours$Palm", "foresee", "([II)I"⟩ ∈ lw_g := mem_g (List.mem_of_getElem? (i := 971) (by decide +kernel)) (by decide +kernel)
theorem w972 : Cond.selects "PalmHours$Palm" ⟨"PalmHours$Palm", "foresee", "([II)I"⟩ ⟨"PalmHours$Palm", "foresee", "([II)I"⟩ ∈ lw_g := mem_g (List.mem_of_getElem? (i := 972) (by decide +kernel)) (by decide +kernel)
theorem w973 : Cond.code ⟨"PalmHours$Palm", "foresee", "([II)I"⟩ cX1_foresee 5 (some .int) ∈ lw_g := mem_g (List.mem_of_getElem? (i := 973) (by decide +kernel)) (by decide +kernel)
theorem w974 : Cond.methodLink "PalmHours$Palm" 76 ⟨"PalmHours$Palm", "goOn", "()V"⟩ ∈ lw_g := mem_g (List.mem_of_getElem? (i := 974) (by decide +kernel)) (by decide +kernel)
theorem w975 : Cond.instanceMethod ⟨"PalmHours$Palm", "goOn", "()V"⟩ ∈ lw_g := mem_g (List.mem_of_getElem? (i := 975) (by decide +kernel)) (by decide +kernel)
theorem w976 : Cond.selects "PalmHours$Palm" ⟨"PalmHours$Palm", "goOn", "()V"⟩ ⟨"PalmHours$Palm", "goOn", "()V"⟩ ∈ lw_g := mem_g (List.mem_of_getElem? (i := 976) (by decide +kernel)) (by decide +kernel)
theorem w977 : Cond.code ⟨"PalmHours$Palm", "goOn", "()V"⟩ cX1_goOn 2 none ∈ lw_g := mem_g (List.mem_of_getElem? (i := 977) (by decide +kernel)) (by decide +kernel)
theorem w978 : Cond.methodLink "PalmHours$Palm" 79 ⟨"PalmHours$Palm", "hourNow", "()I"⟩ ∈ lw_g := mem_g (List.mem_of_getElem? (i := 978) (by decide +kernel)) (by decide +kernel)
theorem w991 : Cond.methodLink "PalmHours" 217 ⟨"PalmHours", "planNothing", "(II)Z"⟩ ∈ lw_g := mem_g (List.mem_of_getElem? (i := 991) (by decide +kernel)) (by decide +kernel)
theorem w993 : Cond.instanceMethod ⟨"PalmHours", "planNothing", "(II)Z"⟩ ∈ lw_g := mem_g (List.mem_of_getElem? (i := 993) (by decide +kernel)) (by decide +kernel)
theorem w994 : Cond.code ⟨"PalmHours", "planNothing", "(II)Z"⟩ cX11_planNothing 4 (some .boolean) ∈ lw_g := mem_g (List.mem_of_getElem? (i := 994) (by decide +kernel)) (by decide +kernel)
theorem w995 : Cond.methodLink "PalmHours" 331 ⟨"PalmHours", "doesWithout", "(IIII)Z"⟩ ∈ lw_g := mem_g (List.mem_of_getElem? (i := 995) (by decide +kernel)) (by decide +kernel)
theorem w997 : Cond.instanceMethod ⟨"PalmHours", "doesWithout", "(IIII)Z"⟩ ∈ lw_g := mem_g (List.mem_of_getElem? (i := 997) (by decide +kernel)) (by decide +kernel)
theorem w998 : Cond.code ⟨"PalmHours", "doesWithout", "(IIII)Z"⟩ cX11_doesWithout 5 (some .boolean) ∈ lw_g := mem_g (List.mem_of_getElem? (i := 998) (by decide +kernel)) (by decide +kernel)
theorem w999 : Cond.methodLink "PalmHours" 339 ⟨"PalmHours", "doesAll", "(IIII)Z"⟩ ∈ lw_g := mem_g (List.mem_of_getElem? (i := 999) (by decide +kernel)) (by decide +kernel)
theorem w1001 : Cond.instanceMethod ⟨"PalmHours", "doesAll", "(IIII)Z"⟩ ∈ lw_g := mem_g (List.mem_of_getElem? (i := 1001) (by decide +kernel)) (by decide +kernel)
theorem w1002 : Cond.code ⟨"PalmHours", "doesAll", "(IIII)Z"⟩ cX11_doesAll 7 (some .boolean) ∈ lw_g := mem_g (List.mem_of_getElem? (i := 1002) (by decide +kernel)) (by decide +kernel)
theorem w1003 : Cond.methodLink "PalmHours" 342 ⟨"PalmHours", "tellsWithin", "(III)Z"⟩ ∈ lw_g := mem_g (List.mem_of_getElem? (i := 1003) (by decide +kernel)) (by decide +kernel)
theorem w1005 : Cond.instanceMethod ⟨"PalmHours", "tellsWithin", "(III)Z"⟩ ∈ lw_g := mem_g (List.mem_of_getElem? (i := 1005) (by decide +kernel)) (by decide +kernel)
theorem w1006 : Cond.code ⟨"PalmHours", "tellsWithin", "(III)Z"⟩ cX11_tellsWithin 5 (some .boolean) ∈ lw_g := mem_g (List.mem_of_getElem? (i := 1006) (by decide +kernel)) (by decide +kernel)
theorem w1007 : Cond.methodLink "PalmHours" 221 ⟨"PalmHours", "planNeeded", "(II)Z"⟩ ∈ lw_g := mem_g (List.mem_of_getElem? (i := 1007) (by decide +kernel)) (by decide +kernel)
theorem w1009 : Cond.instanceMethod ⟨"PalmHours", "planNeeded", "(II)Z"⟩ ∈ lw_g := mem_g (List.mem_of_getElem? (i := 1009) (by decide +kernel)) (by decide +kernel)
theorem w1010 : Cond.code ⟨"PalmHours", "planNeeded", "(II)Z"⟩ cX11_planNeeded 4 (some .boolean) ∈ lw_g := mem_g (List.mem_of_getElem? (i := 1010) (by decide +kernel)) (by decide +kernel)
theorem w1011 : Cond.methodLink "PalmHours" 335 ⟨"PalmHours", "findGiving", "(III)I"⟩ ∈ lw_g := mem_g (List.mem_of_getElem? (i := 1011) (by decide +kernel)) (by decide +kernel)
theorem w1013 : Cond.instanceMethod ⟨"PalmHours", "findGiving", "(III)I"⟩ ∈ lw_g := mem_g (List.mem_of_getElem? (i := 1013) (by decide +kernel)) (by decide +kernel)
theorem w1014 : Cond.code ⟨"PalmHours", "findGiving", "(III)I"⟩ cX11_findGiving 5 (some .int) ∈ lw_g := mem_g (List.mem_of_getElem? (i := 1014) (by decide +kernel)) (by decide +kernel)
theorem w1015 : Cond.methodLink "PalmHours" 224 ⟨"PalmHours", "countPlanned", "()I"⟩ ∈ lw_g := mem_g (List.mem_of_getElem? (i := 1015) (by decide +kernel)) (by decide +kernel)
theorem w1017 : Cond.instanceMethod ⟨"PalmHours", "countPlanned", "()I"⟩ ∈ lw_g := mem_g (List.mem_of_getElem? (i := 1017) (by decide +kernel)) (by decide +kernel)
theorem w1018 : Cond.code ⟨"PalmHours", "countPlanned", "()I"⟩ cX11_countPlanned 3 (some .int) ∈ lw_g := mem_g (List.mem_of_getElem? (i := 1018) (by decide +kernel)) (by decide +kernel)
theorem w1019 : Cond.methodLink "PalmHours" 227 ⟨"PalmHours", "planAnywhere", "(II)Z"⟩ ∈ lw_g := mem_g (List.mem_of_getElem? (i := 1019) (by decide +kernel)) (by decide +kernel)
theorem w1021 : Cond.instanceMethod ⟨"PalmHours", "planAnywhere", "(II)Z"⟩ ∈ lw_g := mem_g (List.mem_of_getElem? (i := 1021) (by decide +kernel)) (by decide +kernel)
theorem w1022 : Cond.code ⟨"PalmHours", "planAnywhere", "(II)Z"⟩ cX11_planAnywhere 4 (some .boolean) ∈ lw_g := mem_g (List.mem_of_getElem? (i := 1022) (by decide +kernel)) (by decide +kernel)
theorem w1027 : Cond.methodLink "PalmHours" 230 ⟨"PalmHours", "countStaying", "(II)I"⟩ ∈ lw_g := mem_g (List.mem_of_getElem? (i := 1027) (by decide +kernel)) (by decide +kernel)
theorem w1029 : Cond.instanceMethod ⟨"PalmHours", "countStaying", "(II)I"⟩ ∈ lw_g := mem_g (List.mem_of_getElem? (i := 1029) (by decide +kernel)) (by decide +kernel)
theorem w1030 : Cond.code ⟨"PalmHours", "countStaying", "(II)I"⟩ cX11_countStaying 5 (some .int) ∈ lw_g := mem_g (List.mem_of_getElem? (i := 1030) (by decide +kernel)) (by decide +kernel)
theorem w1035 : Cond.constantLong "PalmHours" 233 (-1) ∈ lw_g := mem_g (List.mem_of_getElem? (i := 1035) (by decide +kernel)) (by decide +kernel)
theorem w1036 : Cond.constantLong "PalmHours" 235 (100) ∈ lw_g := mem_g (List.mem_of_getElem? (i := 1036) (by decide +kernel)) (by decide +kernel)
theorem w1037 : Cond.methodLink "PalmHours" 240 ⟨"PalmHours", "countRowsOfOne", "(I)J"⟩ ∈ lw_g := mem_g (List.mem_of_getElem? (i := 1037) (by decide +kernel)) (by decide +kernel)
theorem w1039 : Cond.instanceMethod ⟨"PalmHours", "countRowsOfOne", "(I)J"⟩ ∈ lw_g := mem_g (List.mem_of_getElem? (i := 1039) (by decide +kernel)) (by decide +kernel)
theorem w1040 : Cond.code ⟨"PalmHours", "countRowsOfOne", "(I)J"⟩ cX11_countRowsOfOne 5 (some .long) ∈ lw_g := mem_g (List.mem_of_getElem? (i := 1040) (by decide +kernel)) (by decide +kernel)
theorem w1041 : Cond.methodLink "PalmHours" 349 ⟨"PalmHours$Palm", "goOn", "()V"⟩ ∈ lw_g := mem_g (List.mem_of_getElem? (i := 1041) (by decide +kernel)) (by decide +kernel)
theorem w1042 : Cond.methodLink "PalmHours" 351 ⟨"PalmHours", "countRowsWithout", "()J"⟩ ∈ lw_g := mem_g (List.mem_of_getElem? (i := 1042) (by decide +kernel)) (by decide +kernel)
theorem w1044 : Cond.instanceMethod ⟨"PalmHours", "countRowsWithout", "()J"⟩ ∈ lw_g := mem_g (List.mem_of_getElem? (i := 1044) (by decide +kernel)) (by decide +kernel)
theorem w1045 : Cond.code ⟨"PalmHours", "countRowsWithout", "()J"⟩ cX11_countRowsWithout 3 (some .long) ∈ lw_g := mem_g (List.mem_of_getElem? (i := 1045) (by decide +kernel)) (by decide +kernel)
theorem w1046 : Cond.methodLink "PalmHours" 244 ⟨"PalmHours", "countRowsOfTwo", "(I)J"⟩ ∈ lw_g := mem_g (List.mem_of_getElem? (i := 1046) (by decide +kernel)) (by decide +kernel)
theorem w1048 : Cond.instanceMethod ⟨"PalmHours", "countRowsOfTwo", "(I)J"⟩ ∈ lw_g := mem_g (List.mem_of_getElem? (i := 1048) (by decide +kernel)) (by decide +kernel)
theorem w1049 : Cond.code ⟨"PalmHours", "countRowsOfTwo", "(I)J"⟩ cX11_countRowsOfTwo 7 (some .long) ∈ lw_g := mem_g (List.mem_of_getElem? (i := 1049) (by decide +kernel)) (by decide +kernel)
theorem w1054 : Cond.methodLink "PalmHours" 247 ⟨"PalmHours$Walks", "stepsOf", "(LPalmHours$Town;II)I"⟩ ∈ lw_g := mem_g (List.mem_of_getElem? (i := 1054) (by decide +kernel)) (by decide +kernel)
theorem w1055 : Cond.instanceMethod ⟨"PalmHours$Walks", "stepsOf", "(LPalmHours$Town;II)I"⟩ ∈ lw_g := mem_g (List.mem_of_getElem? (i := 1055) (by decide +kernel)) (by decide +kernel)
theorem w1056 : Cond.selects "PalmHours$Walks" ⟨"PalmHours$Walks", "stepsOf", "(LPalmHours$Town;II)I"⟩ ⟨"PalmHours$Walks", "stepsOf", "(LPalmHours$Town;II)I"⟩ ∈ lw_g := mem_g (List.mem_of_getElem? (i := 1056) (by decide +kernel)) (by decide +kernel)
theorem w1057 : Cond.code ⟨"PalmHours$Walks", "stepsOf", "(LPalmHours$Town;II)I"⟩ cX10_stepsOf 6 (some .int) ∈ lw_g := mem_g (List.mem_of_getElem? (i := 1057) (by decide +kernel)) (by decide +kernel)
theorem w1058 : Cond.constant "PalmHours$Walks" 18 (1000000) ∈ lw_g := mem_g (List.mem_of_getElem? (i := 1058) (by decide +kernel)) (by decide +kernel)
theorem w1059 : Cond.methodLink "PalmHours$Walks" 37 ⟨"PalmHours$Walks", "shorten", "(III)V"⟩ ∈ lw_g := mem_g (List.mem_of_getElem? (i := 1059) (by decide +kernel)) (by decide +kernel)
theorem w1061 : Cond.instanceMethod ⟨"PalmHours$Walks", "shorten", "(III)V"⟩ ∈ lw_g := mem_g (List.mem_of_getElem? (i := 1061) (by decide +kernel)) (by decide +kernel)
theorem w1062 : Cond.code ⟨"PalmHours$Walks", "shorten", "(III)V"⟩ cX10_shorten 4 none ∈ lw_g := mem_g (List.mem_of_getElem? (i := 1062) (by decide +kernel)) (by decide +kernel)
theorem w1063 : Cond.methodLink "PalmHours$Walks" 45 ⟨"java/lang/Math", "min", "(II)I"⟩ ∈ lw_g := mem_g (List.mem_of_getElem? (i := 1063) (by decide +kernel)) (by decide +kernel)
theorem w1064 : Cond.methodLink "PalmHours$Walks" 41 ⟨"PalmHours$Town", "isCorner", "(I)Z"⟩ ∈ lw_g := mem_g (List.mem_of_getElem? (i := 1064) (by decide +kernel)) (by decide +kernel)
theorem w1073 : Cond.methodLink "PalmHours" 251 ⟨"PalmHours$Walks", "goOutFrom", "(LPalmHours$Town;I)V"⟩ ∈ lw_g := mem_g (List.mem_of_getElem? (i := 1073) (by decide +kernel)) (by decide +kernel)
theorem w1074 : Cond.instanceMethod ⟨"PalmHours$Walks", "goOutFrom", "(LPalmHours$Town;I)V"⟩ ∈ lw_g := mem_g (List.mem_of_getElem? (i := 1074) (by decide +kernel)) (by decide +kernel)
theorem w1075 : Cond.selects "PalmHours$Walks" ⟨"PalmHours$Walks", "goOutFrom", "(LPalmHours$Town;I)V"⟩ ⟨"PalmHours$Walks", "goOutFrom", "(LPalmHours$Town;I)V"⟩ ∈ lw_g := mem_g (List.mem_of_getElem? (i := 1075) (by decide +kernel)) (by decide +kernel)
theorem w1076 : Cond.code ⟨"PalmHours$Walks", "goOutFrom", "(LPalmHours$Town;I)V"⟩ cX10_goOutFrom 6 none ∈ lw_g := mem_g (List.mem_of_getElem? (i := 1076) (by decide +kernel)) (by decide +kernel)
theorem w1077 : Cond.methodLink "PalmHours$Walks" 51 ⟨"PalmHours$Walks", "across", "(LPalmHours$Town;II)I"⟩ ∈ lw_g := mem_g (List.mem_of_getElem? (i := 1077) (by decide +kernel)) (by decide +kernel)
theorem w1078 : Cond.static ⟨"PalmHours$Walks", "across", "(LPalmHours$Town;II)I"⟩ ∈ lw_g := mem_g (List.mem_of_getElem? (i := 1078) (by decide +kernel)) (by decide +kernel)
theorem w1079 : Cond.code ⟨"PalmHours$Walks", "across", "(LPalmHours$Town;II)I"⟩ cX10_across 5 (some .int) ∈ lw_g := mem_g (List.mem_of_getElem? (i := 1079) (by decide +kernel)) (by decide +kernel)
theorem w1080 : Cond.methodLink "PalmHours" 255 ⟨"PalmHours$Walks", "canBeAt", "(II)Z"⟩ ∈ lw_g := mem_g (List.mem_of_getElem? (i := 1080) (by decide +kernel)) (by decide +kernel)
theorem w1081 : Cond.instanceMethod ⟨"PalmHours$Walks", "canBeAt", "(II)Z"⟩ ∈ lw_g := mem_g (List.mem_of_getElem? (i := 1081) (by decide +kernel)) (by decide +kernel)
theorem w1082 : Cond.selects "PalmHours$Walks" ⟨"PalmHours$Walks", "canBeAt", "(II)Z"⟩ ⟨"PalmHours$Walks", "canBeAt", "(II)Z"⟩ ∈ lw_g := mem_g (List.mem_of_getElem? (i := 1082) (by decide +kernel)) (by decide +kernel)
theorem w1083 : Cond.code ⟨"PalmHours$Walks", "canBeAt", "(II)Z"⟩ cX10_canBeAt 3 (some .boolean) ∈ lw_g := mem_g (List.mem_of_getElem? (i := 1083) (by decide +kernel)) (by decide +kernel)
theorem w1088 : Cond.methodLink "PalmHours" 258 ⟨"PalmHours$Seen", "read", "(LPalmHours$Tape;LPalmHours$Town;)Z"⟩ ∈ lw_g := mem_g (List.mem_of_getElem? (i := 1088) (by decide +kernel)) (by decide +kernel)
theorem w1089 : Cond.instanceMethod ⟨"PalmHours$Seen", "read", "(LPalmHours$Tape;LPalmHours$Town;)Z"⟩ ∈ lw_g := mem_g (List.mem_of_getElem? (i := 1089) (by decide +kernel)) (by decide +kernel)
theorem w1090 : Cond.selects "PalmHours$Seen" ⟨"PalmHours$Seen", "read", "(LPalmHours$Tape;LPalmHours$Town;)Z"⟩ ⟨"PalmHours$Seen", "read", "(LPalmHours$Tape;LPalmHours$Town;)Z"⟩ ∈ lw_g := mem_g (List.mem_of_getElem? (i := 1090) (by decide +kernel)) (by decide +kernel)
theorem w1091 : Cond.code ⟨"PalmHours$Seen", "read", "(LPalmHours$Tape;LPalmHours$Town;)Z"⟩ cX5_read 6 (some .boolean) ∈ lw_g := mem_g (List.mem_of_getElem? (i := 1091) (by decide +kernel)) (by decide +kernel)
theorem w1092 : Cond.methodLink "PalmHours$Seen" 35 ⟨"PalmHours$Tape", "at", "(I)I"⟩ ∈ lw_g := mem_g (List.mem_of_getElem? (i := 1092) (by decide +kernel)) (by decide +kernel)
theorem w1093 : Cond.methodLink "PalmHours$Seen" 39 ⟨"PalmHours$Town", "isCorner", "(I)Z"⟩ ∈ lw_g := mem_g (List.mem_of_getElem? (i := 1093) (by decide +kernel)) (by decide +kernel)
theorem w1098 : Cond.methodLink "PalmHours" 261 ⟨"PalmHours", "findHeld", "(I)I"⟩ ∈ lw_g := mem_g (List.mem_of_getElem? (i := 1098) (by decide +kernel)) (by decide +kernel)
theorem w1100 : Cond.instanceMethod ⟨"PalmHours", "findHeld", "(I)I"⟩ ∈ lw_g := mem_g (List.mem_of_getElem? (i := 1100) (by decide +kernel)) (by decide +kernel)
theorem w1101 : Cond.code ⟨"PalmHours", "findHeld", "(I)I"⟩ cX11_findHeld 5 (some .int) ∈ lw_g := mem_g (List.mem_of_getElem? (i := 1101) (by decide +kernel)) (by decide +kernel)
theorem w1102 : Cond.methodLink "PalmHours" 359 ⟨"PalmHours$Seen", "isAbout", "(I)Z"⟩ ∈ lw_g := mem_g (List.mem_of_getElem? (i := 1102) (by decide +kernel)) (by decide +kernel)
theorem w1103 : Cond.instanceMethod ⟨"PalmHours$Seen", "isAbout", "(I)Z"⟩ ∈ lw_g := mem_g (List.mem_of_getElem? (i := 1103) (by decide +kernel)) (by decide +kernel)
theorem w1104 : Cond.selects "PalmHours$Seen" ⟨"PalmHours$Seen", "isAbout", "(I)Z"⟩ ⟨"PalmHours$Seen", "isAbout", "(I)Z"⟩ ∈ lw_g := mem_g (List.mem_of_getElem? (i := 1104) (by decide +kernel)) (by decide +kernel)
theorem w1105 : Cond.code ⟨"PalmHours$Seen", "isAbout", "(I)Z"⟩ cX5_isAbout 3 (some .boolean) ∈ lw_g := mem_g (List.mem_of_getElem? (i := 1105) (by decide +kernel)) (by decide +kernel)
theorem w1106 : Cond.methodLink "PalmHours" 362 ⟨"PalmHours$Seen", "isSo", "(I[II)Z"⟩ ∈ lw_g := mem_g (List.mem_of_getElem? (i := 1106) (by decide +kernel)) (by decide +kernel)
theorem w1107 : Cond.instanceMethod ⟨"PalmHours$Seen", "isSo", "(I[II)Z"⟩ ∈ lw_g := mem_g (List.mem_of_getElem? (i := 1107) (by decide +kernel)) (by decide +kernel)
theorem w1108 : Cond.selects "PalmHours$Seen" ⟨"PalmHours$Seen", "isSo", "(I[II)Z"⟩ ⟨"PalmHours$Seen", "isSo", "(I[II)Z"⟩ ∈ lw_g := mem_g (List.mem_of_getElem? (i := 1108) (by decide +kernel)) (by decide +kernel)
theorem w1109 : Cond.code ⟨"PalmHours$Seen", "isSo", "(I[II)Z"⟩ cX5_isSo 6 (some .boolean) ∈ lw_g := mem_g (List.mem_of_getElem? (i := 1109) (by decide +kernel)) (by decide +kernel)
theorem w1110 : Cond.methodLink "PalmHours" 366 ⟨"PalmHours$Seen", "noteHours", "(I[II)V"⟩ ∈ lw_g := mem_g (List.mem_of_getElem? (i := 1110) (by decide +kernel)) (by decide +kernel)
theorem w1111 : Cond.instanceMethod ⟨"PalmHours$Seen", "noteHours", "(I[II)V"⟩ ∈ lw_g := mem_g (List.mem_of_getElem? (i := 1111) (by decide +kernel)) (by decide +kernel)
theorem w1112 : Cond.selects "PalmHours$Seen" ⟨"PalmHours$Seen", "noteHours", "(I[II)V"⟩ ⟨"PalmHours$Seen", "noteHours", "(I[II)V"⟩ ∈ lw_g := mem_g (List.mem_of_getElem? (i := 1112) (by decide +kernel)) (by decide +kernel)
theorem w1113 : Cond.code ⟨"PalmHours$Seen", "noteHours", "(I[II)V"⟩ cX5_noteHours 5 none ∈ lw_g := mem_g (List.mem_of_getElem? (i := 1113) (by decide +kernel)) (by decide +kernel)
theorem w1118 : Cond.methodLink "PalmHours" 264 ⟨"java/lang/Math", "min", "(II)I"⟩ ∈ lw_g := mem_g (List.mem_of_getElem? (i := 1118) (by decide +kernel)) (by decide +kernel)
theorem w1119 : Cond.methodLink "PalmHours" 269 ⟨"PalmHours$Seen", "mostLeft", "(II)I"⟩ ∈ lw_g := mem_g (List.mem_of_getElem? (i := 1119) (by decide +kernel)) (by decide +kernel)
theorem w1120 : Cond.instanceMethod ⟨"PalmHours$Seen", "mostLeft", "(II)I"⟩ ∈ lw_g := mem_g (List.mem_of_getElem? (i := 1120) (by decide +kernel)) (by decide +kernel)
theorem w1121 : Cond.selects "PalmHours$Seen" ⟨"PalmHours$Seen", "mostLeft", "(II)I"⟩ ⟨"PalmHours$Seen", "mostLeft", "(II)I"⟩ ∈ lw_g := mem_g (List.mem_of_getElem? (i := 1121) (by decide +kernel)) (by decide +kernel)
theorem w1122 : Cond.code ⟨"PalmHours$Seen", "mostLeft", "(II)I"⟩ cX5_mostLeft 8 (some .int) ∈ lw_g := mem_g (List.mem_of_getElem? (i := 1122) (by decide +kernel)) (by decide +kernel)
theorem w1123 : Cond.methodLink "PalmHours$Seen" 45 ⟨"java/lang/Math", "max", "(II)I"⟩ ∈ lw_g := mem_g (List.mem_of_getElem? (i := 1123) (by decide +kernel)) (by decide +kernel)
theorem w1128 : Cond.methodLink "PalmHours" 272 ⟨"PalmHours$Past", "remember", "(LPalmHours$State;)V"⟩ ∈ lw_g := mem_g (List.mem_of_getElem? (i := 1128) (by decide +kernel)) (by decide +kernel)
theorem w1129 : Cond.instanceMethod ⟨"PalmHours$Past", "remember", "(LPalmHours$State;)V"⟩ ∈ lw_g := mem_g (List.mem_of_getElem? (i := 1129) (by decide +kernel)) (by decide +kernel)
theorem w1130 : Cond.selects "PalmHours$Past" ⟨"PalmHours$Past", "remember", "(LPalmHours$State;)V"⟩ ⟨"PalmHours$Past", "remember", "(LPalmHours$State;)V"⟩ ∈ lw_g := mem_g (List.mem_of_getElem? (i := 1130) (by decide +kernel)) (by decide +kernel)
theorem w1131 : Cond.code ⟨"PalmHours$Past", "remember", "(LPalmHours$State;)V"⟩ cX2_remember 2 none ∈ lw_g := mem_g (List.mem_of_getElem? (i := 1131) (by decide +kernel)) (by decide +kernel)
theorem w1132 : Cond.methodLink "PalmHours$Past" 25 ⟨"PalmHours$State", "save", "([I)V"⟩ ∈ lw_g := mem_g (List.mem_of_getElem? (i := 1132) (by decide +kernel)) (by decide +kernel)
theorem w1133 : Cond.instanceMethod ⟨"PalmHours$State", "save", "([I)V"⟩ ∈ lw_g := mem_g (List.mem_of_getElem? (i := 1133) (by decide +kernel)) (by decide +kernel)
theorem w1134 : Cond.selects "PalmHours$State" ⟨"PalmHours$State", "save", "([I)V"⟩ ⟨"PalmHours$State", "save", "([I)V"⟩ ∈ lw_g := mem_g (List.mem_of_getElem? (i := 1134) (by decide +kernel)) (by decide +kernel)
theorem w1135 : Cond.code ⟨"PalmHours$State", "save", "([I)V"⟩ cX6_save 2 none ∈ lw_g := mem_g (List.mem_of_getElem? (i := 1135) (by decide +kernel)) (by decide +kernel)
theorem w1136 : Cond.methodLink "PalmHours$State" 91 ⟨"java/lang/System", "arraycopy", "(Ljava/lang/Object;ILjava/lang/Object;II)V"⟩ ∈ lw_g := mem_g (List.mem_of_getElem? (i := 1136) (by decide +kernel)) (by decide +kernel)
theorem w1137 : Cond.static ⟨"java/lang/System", "arraycopy", "(Ljava/lang/Object;ILjava/lang/Object;II)V"⟩ ∈ lw_g := mem_g (List.mem_of_getElem? (i := 1137) (by decide +kernel)) (by decide +kernel)
theorem w1138 : Cond.native ⟨"java/lang/System", "arraycopy", "(Ljava/lang/Object;ILjava/lang/Object;II)V"⟩ ∈ lw_g := mem_g (List.mem_of_getElem? (i := 1138) (by decide +kernel)) (by decide +kernel)
theorem w1139 : Cond.methodLink "PalmHours$Past" 29 ⟨"java/lang/Math", "min", "(II)I"⟩ ∈ lw_g := mem_g (List.mem_of_getElem? (i := 1139) (by decide +kernel)) (by decide +kernel)
theorem w1140 : Cond.methodLink "PalmHours" 276 ⟨"PalmHours$State", "goOn", "(LPalmHours$Palm;)V"⟩ ∈ lw_g := mem_g (List.mem_of_getElem? (i := 1140) (by decide +kernel)) (by decide +kernel)
theorem w1141 : Cond.instanceMethod ⟨"PalmHours$State", "goOn", "(LPalmHours$Palm;)V"⟩ ∈ lw_g := mem_g (List.mem_of_getElem? (i := 1141) (by decide +kernel)) (by decide +kernel)
theorem w1142 : Cond.selects "PalmHours$State" ⟨"PalmHours$State", "goOn", "(LPalmHours$Palm;)V"⟩ ⟨"PalmHours$State", "goOn", "(LPalmHours$Palm;)V"⟩ ∈ lw_g := mem_g (List.mem_of_getElem? (i := 1142) (by decide +kernel)) (by decide +kernel)
theorem w1143 : Cond.code ⟨"PalmHours$State", "goOn", "(LPalmHours$Palm;)V"⟩ cX6_goOn 3 none ∈ lw_g := mem_g (List.mem_of_getElem? (i := 1143) (by decide +kernel)) (by decide +kernel)
theorem w1144 : Cond.methodLink "PalmHours$State" 59 ⟨"PalmHours$Palm", "goOn", "()V"⟩ ∈ lw_g := mem_g (List.mem_of_getElem? (i := 1144) (by decide +kernel)) (by decide +kernel)
theorem w1145 : Cond.methodLink "PalmHours$State" 67 ⟨"java/lang/Math", "min", "(II)I"⟩ ∈ lw_g := mem_g (List.mem_of_getElem? (i := 1145) (by decide +kernel)) (by decide +kernel)
theorem w1150 : Cond.methodLink "PalmHours" 284 ⟨"PalmHours", "letPass", "()I"⟩ ∈ lw_g := mem_g (List.mem_of_getElem? (i := 1150) (by decide +kernel)) (by decide +kernel)
theorem w1152 : Cond.instanceMethod ⟨"PalmHours", "letPass", "()I"⟩ ∈ lw_g := mem_g (List.mem_of_getElem? (i := 1152) (by decide +kernel)) (by decide +kernel)
theorem w1153 : Cond.code ⟨"PalmHours", "letPass", "()I"⟩ cX11_letPass 2 (some .int) ∈ lw_g := mem_g (List.mem_of_getElem? (i := 1153) (by decide +kernel)) (by decide +kernel)
theorem w1154 : Cond.methodLink "PalmHours" 376 ⟨"PalmHours", "draw", "(I)I"⟩ ∈ lw_g := mem_g (List.mem_of_getElem? (i := 1154) (by decide +kernel)) (by decide +kernel)
theorem w1156 : Cond.instanceMethod ⟨"PalmHours", "draw", "(I)I"⟩ ∈ lw_g := mem_g (List.mem_of_getElem? (i := 1156) (by decide +kernel)) (by decide +kernel)
theorem w1157 : Cond.code ⟨"PalmHours", "draw", "(I)I"⟩ cX11_draw 2 (some .int) ∈ lw_g := mem_g (List.mem_of_getElem? (i := 1157) (by decide +kernel)) (by decide +kernel)
theorem w1158 : Cond.constantLong "PalmHours" 370 (1103515245) ∈ lw_g := mem_g (List.mem_of_getElem? (i := 1158) (by decide +kernel)) (by decide +kernel)
theorem w1159 : Cond.constantLong "PalmHours" 372 (12345) ∈ lw_g := mem_g (List.mem_of_getElem? (i := 1159) (by decide +kernel)) (by decide +kernel)
theorem w1160 : Cond.constantLong "PalmHours" 374 (2147483647) ∈ lw_g := mem_g (List.mem_of_getElem? (i := 1160) (by decide +kernel)) (by decide +kernel)
theorem w1161 : Cond.methodLink "PalmHours" 327 ⟨"PalmHours$State", "put", "(II)V"⟩ ∈ lw_g := mem_g (List.mem_of_getElem? (i := 1161) (by decide +kernel)) (by decide +kernel)
theorem w1166 : Cond.methodLink "PalmHours" 287 ⟨"PalmHours", "putByAct", "(II)I"⟩ ∈ lw_g := mem_g (List.mem_of_getElem? (i := 1166) (by decide +kernel)) (by decide +kernel)
theorem w1168 : Cond.instanceMethod ⟨"PalmHours", "putByAct", "(II)I"⟩ ∈ lw_g := mem_g (List.mem_of_getElem? (i := 1168) (by decide +kernel)) (by decide +kernel)
theorem w1169 : Cond.code ⟨"PalmHours", "putByAct", "(II)I"⟩ cX11_putByAct 3 (some .int) ∈ lw_g := mem_g (List.mem_of_getElem? (i := 1169) (by decide +kernel)) (by decide +kernel)
theorem w1178 : Cond.methodLink "PalmHours" 290 ⟨"PalmHours$Past", "bringBack", "(LPalmHours$State;)Z"⟩ ∈ lw_g := mem_g (List.mem_of_getElem? (i := 1178) (by decide +kernel)) (by decide +kernel)
theorem w1179 : Cond.instanceMethod ⟨"PalmHours$Past", "bringBack", "(LPalmHours$State;)Z"⟩ ∈ lw_g := mem_g (List.mem_of_getElem? (i := 1179) (by decide +kernel)) (by decide +kernel)
theorem w1180 : Cond.selects "PalmHours$Past" ⟨"PalmHours$Past", "bringBack", "(LPalmHours$State;)Z"⟩ ⟨"PalmHours$Past", "bringBack", "(LPalmHours$State;)Z"⟩ ∈ lw_g := mem_g (List.mem_of_getElem? (i := 1180) (by decide +kernel)) (by decide +kernel)
theorem w1181 : Cond.code ⟨"PalmHours$Past", "bringBack", "(LPalmHours$State;)Z"⟩ cX2_bringBack 2 (some .boolean) ∈ lw_g := mem_g (List.mem_of_getElem? (i := 1181) (by decide +kernel)) (by decide +kernel)
theorem w1182 : Cond.methodLink "PalmHours$Past" 35 ⟨"PalmHours$State", "bringBack", "([I)V"⟩ ∈ lw_g := mem_g (List.mem_of_getElem? (i := 1182) (by decide +kernel)) (by decide +kernel)
theorem w1183 : Cond.instanceMethod ⟨"PalmHours$State", "bringBack", "([I)V"⟩ ∈ lw_g := mem_g (List.mem_of_getElem? (i := 1183) (by decide +kernel)) (by decide +kernel)
theorem w1184 : Cond.selects "PalmHours$State" ⟨"PalmHours$State", "bringBack", "([I)V"⟩ ⟨"PalmHours$State", "bringBack", "([I)V"⟩ ∈ lw_g := mem_g (List.mem_of_getElem? (i := 1184) (by decide +kernel)) (by decide +kernel)
theorem w1185 : Cond.code ⟨"PalmHours$State", "bringBack", "([I)V"⟩ cX6_bringBack 2 none ∈ lw_g := mem_g (List.mem_of_getElem? (i := 1185) (by decide +kernel)) (by decide +kernel)
theorem w1198 : Cond.methodLink "PalmHours" 300 ⟨"PalmHours$State", "writeImage", "([I)I"⟩ ∈ lw_g := mem_g (List.mem_of_getElem? (i := 1198) (by decide +kernel)) (by decide +kernel)
theorem w1199 : Cond.instanceMethod ⟨"PalmHours$State", "writeImage", "([I)I"⟩ ∈ lw_g := mem_g (List.mem_of_getElem? (i := 1199) (by decide +kernel)) (by decide +kernel)
theorem w1200 : Cond.selects "PalmHours$State" ⟨"PalmHours$State", "writeImage", "([I)I"⟩ ⟨"PalmHours$State", "writeImage", "([I)I"⟩ ∈ lw_g := mem_g (List.mem_of_getElem? (i := 1200) (by decide +kernel)) (by decide +kernel)
theorem w1201 : Cond.code ⟨"PalmHours$State", "writeImage", "([I)I"⟩ cX6_writeImage 5 (some .int) ∈ lw_g := mem_g (List.mem_of_getElem? (i := 1201) (by decide +kernel)) (by decide +kernel)
theorem w1202 : Cond.methodLink "PalmHours$State" 97 ⟨"PalmHours$State", "imageSize", "()I"⟩ ∈ lw_g := mem_g (List.mem_of_getElem? (i := 1202) (by decide +kernel)) (by decide +kernel)
theorem w1204 : Cond.instanceMethod ⟨"PalmHours$State", "imageSize", "()I"⟩ ∈ lw_g := mem_g (List.mem_of_getElem? (i := 1204) (by decide +kernel)) (by decide +kernel)
theorem w1205 : Cond.code ⟨"PalmHours$State", "imageSize", "()I"⟩ cX6_imageSize 1 (some .int) ∈ lw_g := mem_g (List.mem_of_getElem? (i := 1205) (by decide +kernel)) (by decide +kernel)
theorem w1206 : Cond.methodLink "PalmHours$State" 100 ⟨"PalmHours$State", "checkOf", "([II)I"⟩ ∈ lw_g := mem_g (List.mem_of_getElem? (i := 1206) (by decide +kernel)) (by decide +kernel)
theorem w1207 : Cond.static ⟨"PalmHours$State", "checkOf", "([II)I"⟩ ∈ lw_g := mem_g (List.mem_of_getElem? (i := 1207) (by decide +kernel)) (by decide +kernel)
theorem w1208 : Cond.code ⟨"PalmHours$State", "checkOf", "([II)I"⟩ cX6_checkOf 4 (some .int) ∈ lw_g := mem_g (List.mem_of_getElem? (i := 1208) (by decide +kernel)) (by decide +kernel)
theorem w1217 : Cond.methodLink "PalmHours" 304 ⟨"PalmHours$State", "isImage", "(LPalmHours$Tape;)Z"⟩ ∈ lw_g := mem_g (List.mem_of_getElem? (i := 1217) (by decide +kernel)) (by decide +kernel)
theorem w1218 : Cond.instanceMethod ⟨"PalmHours$State", "isImage", "(LPalmHours$Tape;)Z"⟩ ∈ lw_g := mem_g (List.mem_of_getElem? (i := 1218) (by decide +kernel)) (by decide +kernel)
theorem w1219 : Cond.selects "PalmHours$State" ⟨"PalmHours$State", "isImage", "(LPalmHours$Tape;)Z"⟩ ⟨"PalmHours$State", "isImage", "(LPalmHours$Tape;)Z"⟩ ∈ lw_g := mem_g (List.mem_of_getElem? (i := 1219) (by decide +kernel)) (by decide +kernel)
theorem w1220 : Cond.code ⟨"PalmHours$State", "isImage", "(LPalmHours$Tape;)Z"⟩ cX6_isImage 6 (some .boolean) ∈ lw_g := mem_g (List.mem_of_getElem? (i := 1220) (by decide +kernel)) (by decide +kernel)
theorem w1221 : Cond.methodLink "PalmHours$State" 109 ⟨"PalmHours$Tape", "pairAt", "(I)I"⟩ ∈ lw_g := mem_g (List.mem_of_getElem? (i := 1221) (by decide +kernel)) (by decide +kernel)
theorem w1222 : Cond.instanceMethod ⟨"PalmHours$Tape", "pairAt", "(I)I"⟩ ∈ lw_g := mem_g (List.mem_of_getElem? (i := 1222) (by decide +kernel)) (by decide +kernel)
theorem w1223 : Cond.selects "PalmHours$Tape" ⟨"PalmHours$Tape", "pairAt", "(I)I"⟩ ⟨"PalmHours$Tape", "pairAt", "(I)I"⟩ ∈ lw_g := mem_g (List.mem_of_getElem? (i := 1223) (by decide +kernel)) (by decide +kernel)
theorem w1224 : Cond.code ⟨"PalmHours$Tape", "pairAt", "(I)I"⟩ cX7_pairAt 2 (some .int) ∈ lw_g := mem_g (List.mem_of_getElem? (i := 1224) (by decide +kernel)) (by decide +kernel)
theorem w1225 : Cond.methodLink "PalmHours$Tape" 19 ⟨"PalmHours$Tape", "at", "(I)I"⟩ ∈ lw_g := mem_g (List.mem_of_getElem? (i := 1225) (by decide +kernel)) (by decide +kernel)
theorem w1226 : Cond.methodLink "PalmHours$State" 113 ⟨"PalmHours$Tape", "at", "(I)I"⟩ ∈ lw_g := mem_g (List.mem_of_getElem? (i := 1226) (by decide +kernel)) (by decide +kernel)
theorem w1227 : Cond.methodLink "PalmHours$State" 116 ⟨"PalmHours$Town", "isThing", "(I)Z"⟩ ∈ lw_g := mem_g (List.mem_of_getElem? (i := 1227) (by decide +kernel)) (by decide +kernel)
theorem w1228 : Cond.methodLink "PalmHours" 308 ⟨"PalmHours$State", "readImage", "(LPalmHours$Tape;)V"⟩ ∈ lw_g := mem_g (List.mem_of_getElem? (i := 1228) (by decide +kernel)) (by decide +kernel)
theorem w1229 : Cond.instanceMethod ⟨"PalmHours$State", "readImage", "(LPalmHours$Tape;)V"⟩ ∈ lw_g := mem_g (List.mem_of_getElem? (i := 1229) (by decide +kernel)) (by decide +kernel)
theorem w1230 : Cond.selects "PalmHours$State" ⟨"PalmHours$State", "readImage", "(LPalmHours$Tape;)V"⟩ ⟨"PalmHours$State", "readImage", "(LPalmHours$Tape;)V"⟩ ∈ lw_g := mem_g (List.mem_of_getElem? (i := 1230) (by decide +kernel)) (by decide +kernel)
theorem w1231 : Cond.code ⟨"PalmHours$State", "readImage", "(LPalmHours$Tape;)V"⟩ cX6_readImage 4 none ∈ lw_g := mem_g (List.mem_of_getElem? (i := 1231) (by decide +kernel)) (by decide +kernel)
theorem w1242 : Cond.fieldLink "PalmHoursModel" 7 "PalmHoursModel" "tape" "[I" ∈ lw_g := mem_g (List.mem_of_getElem? (i := 1242) (by decide +kernel)) (by decide +kernel)
theorem w1243 : Cond.fieldLink "PalmHoursModel" 13 "PalmHoursModel" "taped" "I" ∈ lw_g := mem_g (List.mem_of_getElem? (i := 1243) (by decide +kernel)) (by decide +kernel)
theorem w1244 : Cond.fieldLink "PalmHoursModel" 17 "PalmHoursModel" "size" "I" ∈ lw_g := mem_g (List.mem_of_getElem? (i := 1244) (by decide +kernel)) (by decide +kernel)
theorem w1245 : Cond.fieldLink "PalmHoursModel" 20 "PalmHoursModel" "sign" "I" ∈ lw_g := mem_g (List.mem_of_getElem? (i := 1245) (by decide +kernel)) (by decide +kernel)
theorem w1246 : Cond.fieldLink "PalmHoursModel" 23 "PalmHoursModel" "signAt" "I" ∈ lw_g := mem_g (List.mem_of_getElem? (i := 1246) (by decide +kernel)) (by decide +kernel)
theorem w1247 : Cond.fieldLink "PalmHoursModel" 26 "PalmHoursModel" "signEnd" "I" ∈ lw_g := mem_g (List.mem_of_getElem? (i := 1247) (by decide +kernel)) (by decide +kernel)
theorem w1248 : Cond.fieldLink "PalmHoursModel" 29 "PalmHoursModel" "value" "I" ∈ lw_g := mem_g (List.mem_of_getElem? (i := 1248) (by decide +kernel)) (by decide +kernel)
theorem w1249 : Cond.fieldLink "PalmHoursModel" 32 "PalmHoursModel" "word" "J" ∈ lw_g := mem_g (List.mem_of_getElem? (i := 1249) (by decide +kernel)) (by decide +kernel)
theorem w1250 : Cond.fieldLink "PalmHoursModel" 36 "PalmHoursModel" "faultKind" "I" ∈ lw_g := mem_g (List.mem_of_getElem? (i := 1250) (by decide +kernel)) (by decide +kernel)
theorem w1251 : Cond.fieldLink "PalmHoursModel" 39 "PalmHoursModel" "faultPlace" "I" ∈ lw_g := mem_g (List.mem_of_getElem? (i := 1251) (by decide +kernel)) (by decide +kernel)
theorem w1252 : Cond.fieldLink "PalmHoursModel" 42 "PalmHoursModel" "toldKind" "I" ∈ lw_g := mem_g (List.mem_of_getElem? (i := 1252) (by decide +kernel)) (by decide +kernel)
theorem w1253 : Cond.fieldLink "PalmHoursModel" 45 "PalmHoursModel" "toldPlace" "I" ∈ lw_g := mem_g (List.mem_of_getElem? (i := 1253) (by decide +kernel)) (by decide +kernel)
theorem w1254 : Cond.fieldLink "PalmHoursModel" 48 "PalmHoursModel" "lexAt" "I" ∈ lw_g := mem_g (List.mem_of_getElem? (i := 1254) (by decide +kernel)) (by decide +kernel)
theorem w1255 : Cond.fieldLink "PalmHoursModel" 51 "PalmHoursModel" "bank" "I" ∈ lw_g := mem_g (List.mem_of_getElem? (i := 1255) (by decide +kernel)) (by decide +kernel)
theorem w1256 : Cond.fieldLink "PalmHoursModel" 54 "PalmHoursModel" "things" "[I" ∈ lw_g := mem_g (List.mem_of_getElem? (i := 1256) (by decide +kernel)) (by decide +kernel)
theorem w1257 : Cond.fieldLink "PalmHoursModel" 57 "PalmHoursModel" "weighOf" "[I" ∈ lw_g := mem_g (List.mem_of_getElem? (i := 1257) (by decide +kernel)) (by decide +kernel)
theorem w1258 : Cond.fieldLink "PalmHoursModel" 60 "PalmHoursModel" "lastsOf" "[I" ∈ lw_g := mem_g (List.mem_of_getElem? (i := 1258) (by decide +kernel)) (by decide +kernel)
theorem w1259 : Cond.fieldLink "PalmHoursModel" 63 "PalmHoursModel" "corners" "[I" ∈ lw_g := mem_g (List.mem_of_getElem? (i := 1259) (by decide +kernel)) (by decide +kernel)
theorem w1260 : Cond.fieldLink "PalmHoursModel" 66 "PalmHoursModel" "palmTold" "[I" ∈ lw_g := mem_g (List.mem_of_getElem? (i := 1260) (by decide +kernel)) (by decide +kernel)
theorem w1261 : Cond.fieldLink "PalmHoursModel" 69 "PalmHoursModel" "roads" "[I" ∈ lw_g := mem_g (List.mem_of_getElem? (i := 1261) (by decide +kernel)) (by decide +kernel)
theorem w1262 : Cond.fieldLink "PalmHoursModel" 72 "PalmHoursModel" "stepsOf" "[I" ∈ lw_g := mem_g (List.mem_of_getElem? (i := 1262) (by decide +kernel)) (by decide +kernel)
theorem w1263 : Cond.fieldLink "PalmHoursModel" 75 "PalmHoursModel" "farOf" "[I" ∈ lw_g := mem_g (List.mem_of_getElem? (i := 1263) (by decide +kernel)) (by decide +kernel)
theorem w1264 : Cond.fieldLink "PalmHoursModel" 78 "PalmHoursModel" "doings" "[I" ∈ lw_g := mem_g (List.mem_of_getElem? (i := 1264) (by decide +kernel)) (by decide +kernel)
theorem w1265 : Cond.fieldLink "PalmHoursModel" 81 "PalmHoursModel" "atOf" "[I" ∈ lw_g := mem_g (List.mem_of_getElem? (i := 1265) (by decide +kernel)) (by decide +kernel)
theorem w1266 : Cond.fieldLink "PalmHoursModel" 84 "PalmHoursModel" "hourOf" "[I" ∈ lw_g := mem_g (List.mem_of_getElem? (i := 1266) (by decide +kernel)) (by decide +kernel)
theorem w1267 : Cond.fieldLink "PalmHoursModel" 87 "PalmHoursModel" "passTold" "[I" ∈ lw_g := mem_g (List.mem_of_getElem? (i := 1267) (by decide +kernel)) (by decide +kernel)
theorem w1268 : Cond.fieldLink "PalmHoursModel" 90 "PalmHoursModel" "sumFrom" "[I" ∈ lw_g := mem_g (List.mem_of_getElem? (i := 1268) (by decide +kernel)) (by decide +kernel)
theorem w1269 : Cond.fieldLink "PalmHoursModel" 93 "PalmHoursModel" "sumBehind" "[I" ∈ lw_g := mem_g (List.mem_of_getElem? (i := 1269) (by decide +kernel)) (by decide +kernel)
theorem w1270 : Cond.fieldLink "PalmHoursModel" 96 "PalmHoursModel" "codeSort" "[I" ∈ lw_g := mem_g (List.mem_of_getElem? (i := 1270) (by decide +kernel)) (by decide +kernel)
theorem w1271 : Cond.fieldLink "PalmHoursModel" 99 "PalmHoursModel" "codeValue" "[I" ∈ lw_g := mem_g (List.mem_of_getElem? (i := 1271) (by decide +kernel)) (by decide +kernel)
theorem w1272 : Cond.fieldLink "PalmHoursModel" 102 "PalmHoursModel" "thingName" "[J" ∈ lw_g := mem_g (List.mem_of_getElem? (i := 1272) (by decide +kernel)) (by decide +kernel)
theorem w1273 : Cond.fieldLink "PalmHoursModel" 106 "PalmHoursModel" "cornerName" "[J" ∈ lw_g := mem_g (List.mem_of_getElem? (i := 1273) (by decide +kernel)) (by decide +kernel)
theorem w1274 : Cond.fieldLink "PalmHoursModel" 109 "PalmHoursModel" "doingName" "[J" ∈ lw_g := mem_g (List.mem_of_getElem? (i := 1274) (by decide +kernel)) (by decide +kernel)
theorem w1275 : Cond.fieldLink "PalmHoursModel" 112 "PalmHoursModel" "codes" "I" ∈ lw_g := mem_g (List.mem_of_getElem? (i := 1275) (by decide +kernel)) (by decide +kernel)
theorem w1276 : Cond.fieldLink "PalmHoursModel" 115 "PalmHoursModel" "in" "I" ∈ lw_g := mem_g (List.mem_of_getElem? (i := 1276) (by decide +kernel)) (by decide +kernel)
theorem w1277 : Cond.fieldLink "PalmHoursModel" 118 "PalmHoursModel" "isGone" "Z" ∈ lw_g := mem_g (List.mem_of_getElem? (i := 1277) (by decide +kernel)) (by decide +kernel)
theorem w1278 : Cond.fieldLink "PalmHoursModel" 122 "PalmHoursModel" "frame" "[I" ∈ lw_g := mem_g (List.mem_of_getElem? (i := 1278) (by decide +kernel)) (by decide +kernel)
theorem w1279 : Cond.fieldLink "PalmHoursModel" 125 "PalmHoursModel" "phase" "[I" ∈ lw_g := mem_g (List.mem_of_getElem? (i := 1279) (by decide +kernel)) (by decide +kernel)
theorem w1280 : Cond.fieldLink "PalmHoursModel" 128 "PalmHoursModel" "begins" "[Z" ∈ lw_g := mem_g (List.mem_of_getElem? (i := 1280) (by decide +kernel)) (by decide +kernel)
theorem w1281 : Cond.fieldLink "PalmHoursModel" 132 "PalmHoursModel" "pair" "[I" ∈ lw_g := mem_g (List.mem_of_getElem? (i := 1281) (by decide +kernel)) (by decide +kernel)
theorem w1282 : Cond.fieldLink "PalmHoursModel" 135 "PalmHoursModel" "base" "[I" ∈ lw_g := mem_g (List.mem_of_getElem? (i := 1282) (by decide +kernel)) (by decide +kernel)
theorem w1283 : Cond.fieldLink "PalmHoursModel" 138 "PalmHoursModel" "deep" "I" ∈ lw_g := mem_g (List.mem_of_getElem? (i := 1283) (by decide +kernel)) (by decide +kernel)
theorem w1284 : Cond.fieldLink "PalmHoursModel" 141 "PalmHoursModel" "open" "I" ∈ lw_g := mem_g (List.mem_of_getElem? (i := 1284) (by decide +kernel)) (by decide +kernel)
theorem w1285 : Cond.fieldLink "PalmHoursModel" 144 "PalmHoursModel" "ops" "[I" ∈ lw_g := mem_g (List.mem_of_getElem? (i := 1285) (by decide +kernel)) (by decide +kernel)
theorem w1286 : Cond.fieldLink "PalmHoursModel" 147 "PalmHoursModel" "opMany" "I" ∈ lw_g := mem_g (List.mem_of_getElem? (i := 1286) (by decide +kernel)) (by decide +kernel)
theorem w1287 : Cond.fieldLink "PalmHoursModel" 150 "PalmHoursModel" "operand" "Z" ∈ lw_g := mem_g (List.mem_of_getElem? (i := 1287) (by decide +kernel)) (by decide +kernel)
theorem w1288 : Cond.fieldLink "PalmHoursModel" 153 "PalmHoursModel" "refused" "[I" ∈ lw_g := mem_g (List.mem_of_getElem? (i := 1288) (by decide +kernel)) (by decide +kernel)
theorem w1289 : Cond.fieldLink "PalmHoursModel" 156 "PalmHoursModel" "minuteOf" "[I" ∈ lw_g := mem_g (List.mem_of_getElem? (i := 1289) (by decide +kernel)) (by decide +kernel)
theorem w1290 : Cond.fieldLink "PalmHoursModel" 159 "PalmHoursModel" "thingOf" "[I" ∈ lw_g := mem_g (List.mem_of_getElem? (i := 1290) (by decide +kernel)) (by decide +kernel)
theorem w1291 : Cond.fieldLink "PalmHoursModel" 162 "PalmHoursModel" "heldOf" "[I" ∈ lw_g := mem_g (List.mem_of_getElem? (i := 1291) (by decide +kernel)) (by decide +kernel)
theorem w1292 : Cond.fieldLink "PalmHoursModel" 165 "PalmHoursModel" "doneOf" "[I" ∈ lw_g := mem_g (List.mem_of_getElem? (i := 1292) (by decide +kernel)) (by decide +kernel)
theorem w1293 : Cond.fieldLink "PalmHoursModel" 168 "PalmHoursModel" "keptMany" "[I" ∈ lw_g := mem_g (List.mem_of_getElem? (i := 1293) (by decide +kernel)) (by decide +kernel)
theorem w1294 : Cond.fieldLink "PalmHoursModel" 171 "PalmHoursModel" "keptRow" "[I" ∈ lw_g := mem_g (List.mem_of_getElem? (i := 1294) (by decide +kernel)) (by decide +kernel)
theorem w1295 : Cond.fieldLink "PalmHoursModel" 174 "PalmHoursModel" "undoFirst" "I" ∈ lw_g := mem_g (List.mem_of_getElem? (i := 1295) (by decide +kernel)) (by decide +kernel)
theorem w1296 : Cond.fieldLink "PalmHoursModel" 177 "PalmHoursModel" "undos" "I" ∈ lw_g := mem_g (List.mem_of_getElem? (i := 1296) (by decide +kernel)) (by decide +kernel)
theorem w1297 : Cond.fieldLink "PalmHoursModel" 180 "PalmHoursModel" "seeds" "J" ∈ lw_g := mem_g (List.mem_of_getElem? (i := 1297) (by decide +kernel)) (by decide +kernel)
theorem w1298 : Cond.fieldLink "PalmHoursModel" 183 "PalmHoursModel" "stack" "[J" ∈ lw_g := mem_g (List.mem_of_getElem? (i := 1298) (by decide +kernel)) (by decide +kernel)
theorem w1299 : Cond.fieldLink "PalmHoursModel" 186 "PalmHoursModel" "asked" "[I" ∈ lw_g := mem_g (List.mem_of_getElem? (i := 1299) (by decide +kernel)) (by decide +kernel)
theorem w1300 : Cond.fieldLink "PalmHoursModel" 189 "PalmHoursModel" "given" "[I" ∈ lw_g := mem_g (List.mem_of_getElem? (i := 1300) (by decide +kernel)) (by decide +kernel)
theorem w1301 : Cond.fieldLink "PalmHoursModel" 192 "PalmHoursModel" "bestGiven" "[I" ∈ lw_g := mem_g (List.mem_of_getElem? (i := 1301) (by decide +kernel)) (by decide +kernel)
theorem w1302 : Cond.fieldLink "PalmHoursModel" 195 "PalmHoursModel" "walkAt" "[I" ∈ lw_g := mem_g (List.mem_of_getElem? (i := 1302) (by decide +kernel)) (by decide +kernel)
theorem w1303 : Cond.fieldLink "PalmHoursModel" 198 "PalmHoursModel" "rows" "I" ∈ lw_g := mem_g (List.mem_of_getElem? (i := 1303) (by decide +kernel)) (by decide +kernel)
theorem w1304 : Cond.fieldLink "PalmHoursModel" 201 "PalmHoursModel" "rowMinutes" "[I" ∈ lw_g := mem_g (List.mem_of_getElem? (i := 1304) (by decide +kernel)) (by decide +kernel)
theorem w1305 : Cond.fieldLink "PalmHoursModel" 204 "PalmHoursModel" "rowCorner" "[I" ∈ lw_g := mem_g (List.mem_of_getElem? (i := 1305) (by decide +kernel)) (by decide +kernel)
theorem w1306 : Cond.fieldLink "PalmHoursModel" 207 "PalmHoursModel" "rowHour" "[I" ∈ lw_g := mem_g (List.mem_of_getElem? (i := 1306) (by decide +kernel)) (by decide +kernel)
theorem w1307 : Cond.fieldLink "PalmHoursModel" 210 "PalmHoursModel" "hourBy" "[I" ∈ lw_g := mem_g (List.mem_of_getElem? (i := 1307) (by decide +kernel)) (by decide +kernel)
theorem w1308 : Cond.fieldLink "PalmHoursModel" 213 "PalmHoursModel" "out" "[I" ∈ lw_g := mem_g (List.mem_of_getElem? (i := 1308) (by decide +kernel)) (by decide +kernel)
theorem w1309 : Cond.fieldLink "PalmHoursModel" 216 "PalmHoursModel" "outs" "I" ∈ lw_g := mem_g (List.mem_of_getElem? (i := 1309) (by decide +kernel)) (by decide +kernel)
theorem w1453 : Cond.methodLink "PalmHoursModel" 219 ⟨"PalmHoursModel", "refuses", "(I)I"⟩ ∈ lw_g := mem_g (List.mem_of_getElem? (i := 1453) (by decide +kernel)) (by decide +kernel)
theorem w1455 : Cond.instanceMethod ⟨"PalmHoursModel", "refuses", "(I)I"⟩ ∈ lw_g := mem_g (List.mem_of_getElem? (i := 1455) (by decide +kernel)) (by decide +kernel)
theorem w1456 : Cond.code ⟨"PalmHoursModel", "refuses", "(I)I"⟩ cX12_refuses 2 (some .int) ∈ lw_g := mem_g (List.mem_of_getElem? (i := 1456) (by decide +kernel)) (by decide +kernel)
theorem w1457 : Cond.methodLink "PalmHoursModel" 223 ⟨"PalmHoursModel", "put", "(I)V"⟩ ∈ lw_g := mem_g (List.mem_of_getElem? (i := 1457) (by decide +kernel)) (by decide +kernel)
theorem w1459 : Cond.instanceMethod ⟨"PalmHoursModel", "put", "(I)V"⟩ ∈ lw_g := mem_g (List.mem_of_getElem? (i := 1459) (by decide +kernel)) (by decide +kernel)
theorem w1460 : Cond.code ⟨"PalmHoursModel", "put", "(I)V"⟩ cX12_put 3 none ∈ lw_g := mem_g (List.mem_of_getElem? (i := 1460) (by decide +kernel)) (by decide +kernel)
theorem w1469 : Cond.methodLink "PalmHoursModel" 369 ⟨"PalmHoursModel", "at", "(III)I"⟩ ∈ lw_g := mem_g (List.mem_of_getElem? (i := 1469) (by decide +kernel)) (by decide +kernel)
theorem w1471 : Cond.instanceMethod ⟨"PalmHoursModel", "at", "(III)I"⟩ ∈ lw_g := mem_g (List.mem_of_getElem? (i := 1471) (by decide +kernel)) (by decide +kernel)
theorem w1472 : Cond.code ⟨"PalmHoursModel", "at", "(III)I"⟩ cX12_at 4 (some .int) ∈ lw_g := mem_g (List.mem_of_getElem? (i := 1472) (by decide +kernel)) (by decide +kernel)
theorem w1473 : Cond.methodLink "PalmHoursModel" 244 ⟨"PalmHoursModel", "ahead", "()V"⟩ ∈ lw_g := mem_g (List.mem_of_getElem? (i := 1473) (by decide +kernel)) (by decide +kernel)
theorem w1475 : Cond.instanceMethod ⟨"PalmHoursModel", "ahead", "()V"⟩ ∈ lw_g := mem_g (List.mem_of_getElem? (i := 1475) (by decide +kernel)) (by decide +kernel)
theorem w1476 : Cond.code ⟨"PalmHoursModel", "ahead", "()V"⟩ cX12_ahead 6 none ∈ lw_g := mem_g (List.mem_of_getElem? (i := 1476) (by decide +kernel)) (by decide +kernel)
theorem w1477 : Cond.methodLink "PalmHoursModel" 231 ⟨"PalmHoursModel", "isLetter", "(I)Z"⟩ ∈ lw_g := mem_g (List.mem_of_getElem? (i := 1477) (by decide +kernel)) (by decide +kernel)
theorem w1478 : Cond.static ⟨"PalmHoursModel", "isLetter", "(I)Z"⟩ ∈ lw_g := mem_g (List.mem_of_getElem? (i := 1478) (by decide +kernel)) (by decide +kernel)
theorem w1479 : Cond.code ⟨"PalmHoursModel", "isLetter", "(I)Z"⟩ cX12_isLetter 1 (some .boolean) ∈ lw_g := mem_g (List.mem_of_getElem? (i := 1479) (by decide +kernel)) (by decide +kernel)
theorem w1480 : Cond.methodLink "PalmHoursModel" 235 ⟨"PalmHoursModel", "isDigit", "(I)Z"⟩ ∈ lw_g := mem_g (List.mem_of_getElem? (i := 1480) (by decide +kernel)) (by decide +kernel)
theorem w1481 : Cond.static ⟨"PalmHoursModel", "isDigit", "(I)Z"⟩ ∈ lw_g := mem_g (List.mem_of_getElem? (i := 1481) (by decide +kernel)) (by decide +kernel)
theorem w1482 : Cond.code ⟨"PalmHoursModel", "isDigit", "(I)Z"⟩ cX12_isDigit 1 (some .boolean) ∈ lw_g := mem_g (List.mem_of_getElem? (i := 1482) (by decide +kernel)) (by decide +kernel)
theorem w1483 : Cond.methodLink "PalmHoursModel" 400 ⟨"PalmHoursModel", "statement", "()V"⟩ ∈ lw_g := mem_g (List.mem_of_getElem? (i := 1483) (by decide +kernel)) (by decide +kernel)
theorem w1485 : Cond.instanceMethod ⟨"PalmHoursModel", "statement", "()V"⟩ ∈ lw_g := mem_g (List.mem_of_getElem? (i := 1485) (by decide +kernel)) (by decide +kernel)
theorem w1486 : Cond.code ⟨"PalmHoursModel", "statement", "()V"⟩ cX12_statement 1 none ∈ lw_g := mem_g (List.mem_of_getElem? (i := 1486) (by decide +kernel)) (by decide +kernel)
theorem w1487 : Cond.methodLink "PalmHoursModel" 238 ⟨"PalmHoursModel", "lex", "()V"⟩ ∈ lw_g := mem_g (List.mem_of_getElem? (i := 1487) (by decide +kernel)) (by decide +kernel)
theorem w1489 : Cond.instanceMethod ⟨"PalmHoursModel", "lex", "()V"⟩ ∈ lw_g := mem_g (List.mem_of_getElem? (i := 1489) (by decide +kernel)) (by decide +kernel)
theorem w1490 : Cond.code ⟨"PalmHoursModel", "lex", "()V"⟩ cX12_lex 1 none ∈ lw_g := mem_g (List.mem_of_getElem? (i := 1490) (by decide +kernel)) (by decide +kernel)
theorem w1491 : Cond.methodLink "PalmHoursModel" 227 ⟨"PalmHoursModel", "blame", "(II)V"⟩ ∈ lw_g := mem_g (List.mem_of_getElem? (i := 1491) (by decide +kernel)) (by decide +kernel)
theorem w1493 : Cond.instanceMethod ⟨"PalmHoursModel", "blame", "(II)V"⟩ ∈ lw_g := mem_g (List.mem_of_getElem? (i := 1493) (by decide +kernel)) (by decide +kernel)
theorem w1494 : Cond.code ⟨"PalmHoursModel", "blame", "(II)V"⟩ cX12_blame 3 none ∈ lw_g := mem_g (List.mem_of_getElem? (i := 1494) (by decide +kernel)) (by decide +kernel)
theorem w1495 : Cond.constantLong "PalmHoursModel" 247 (499967946343) ∈ lw_g := mem_g (List.mem_of_getElem? (i := 1495) (by decide +kernel)) (by decide +kernel)
theorem w1496 : Cond.methodLink "PalmHoursModel" 321 ⟨"PalmHoursModel", "isWord", "(J)Z"⟩ ∈ lw_g := mem_g (List.mem_of_getElem? (i := 1496) (by decide +kernel)) (by decide +kernel)
theorem w1498 : Cond.instanceMethod ⟨"PalmHoursModel", "isWord", "(J)Z"⟩ ∈ lw_g := mem_g (List.mem_of_getElem? (i := 1498) (by decide +kernel)) (by decide +kernel)
theorem w1499 : Cond.code ⟨"PalmHoursModel", "isWord", "(J)Z"⟩ cX12_isWord 3 (some .boolean) ∈ lw_g := mem_g (List.mem_of_getElem? (i := 1499) (by decide +kernel)) (by decide +kernel)
theorem w1500 : Cond.methodLink "PalmHoursModel" 377 ⟨"PalmHoursModel", "thinging", "()V"⟩ ∈ lw_g := mem_g (List.mem_of_getElem? (i := 1500) (by decide +kernel)) (by decide +kernel)
theorem w1502 : Cond.instanceMethod ⟨"PalmHoursModel", "thinging", "()V"⟩ ∈ lw_g := mem_g (List.mem_of_getElem? (i := 1502) (by decide +kernel)) (by decide +kernel)
theorem w1503 : Cond.code ⟨"PalmHoursModel", "thinging", "()V"⟩ cX12_thinging 2 none ∈ lw_g := mem_g (List.mem_of_getElem? (i := 1503) (by decide +kernel)) (by decide +kernel)
theorem w1504 : Cond.methodLink "PalmHoursModel" 351 ⟨"PalmHoursModel", "counts", "(Z)Z"⟩ ∈ lw_g := mem_g (List.mem_of_getElem? (i := 1504) (by decide +kernel)) (by decide +kernel)
theorem w1506 : Cond.instanceMethod ⟨"PalmHoursModel", "counts", "(Z)Z"⟩ ∈ lw_g := mem_g (List.mem_of_getElem? (i := 1506) (by decide +kernel)) (by decide +kernel)
theorem w1507 : Cond.code ⟨"PalmHoursModel", "counts", "(Z)Z"⟩ cX12_counts 2 (some .boolean) ∈ lw_g := mem_g (List.mem_of_getElem? (i := 1507) (by decide +kernel)) (by decide +kernel)
theorem w1508 : Cond.methodLink "PalmHoursModel" 355 ⟨"PalmHoursModel", "fresh", "()J"⟩ ∈ lw_g := mem_g (List.mem_of_getElem? (i := 1508) (by decide +kernel)) (by decide +kernel)
theorem w1510 : Cond.instanceMethod ⟨"PalmHoursModel", "fresh", "()J"⟩ ∈ lw_g := mem_g (List.mem_of_getElem? (i := 1510) (by decide +kernel)) (by decide +kernel)
theorem w1511 : Cond.code ⟨"PalmHoursModel", "fresh", "()J"⟩ cX12_fresh 3 (some .long) ∈ lw_g := mem_g (List.mem_of_getElem? (i := 1511) (by decide +kernel)) (by decide +kernel)
theorem w1512 : Cond.methodLink "PalmHoursModel" 340 ⟨"PalmHoursModel", "isOwn", "(J)Z"⟩ ∈ lw_g := mem_g (List.mem_of_getElem? (i := 1512) (by decide +kernel)) (by decide +kernel)
theorem w1514 : Cond.instanceMethod ⟨"PalmHoursModel", "isOwn", "(J)Z"⟩ ∈ lw_g := mem_g (List.mem_of_getElem? (i := 1514) (by decide +kernel)) (by decide +kernel)
theorem w1515 : Cond.code ⟨"PalmHoursModel", "isOwn", "(J)Z"⟩ cX12_isOwn 3 (some .boolean) ∈ lw_g := mem_g (List.mem_of_getElem? (i := 1515) (by decide +kernel)) (by decide +kernel)
theorem w1516 : Cond.constantLong "PalmHoursModel" 249 (512802514792) ∈ lw_g := mem_g (List.mem_of_getElem? (i := 1516) (by decide +kernel)) (by decide +kernel)
theorem w1517 : Cond.constantLong "PalmHoursModel" 251 (465491424371) ∈ lw_g := mem_g (List.mem_of_getElem? (i := 1517) (by decide +kernel)) (by decide +kernel)
theorem w1518 : Cond.constantLong "PalmHoursModel" 253 (109330312357234) ∈ lw_g := mem_g (List.mem_of_getElem? (i := 1518) (by decide +kernel)) (by decide +kernel)
theorem w1519 : Cond.constantLong "PalmHoursModel" 255 (1919902052) ∈ lw_g := mem_g (List.mem_of_getElem? (i := 1519) (by decide +kernel)) (by decide +kernel)
theorem w1520 : Cond.constantLong "PalmHoursModel" 257 (29807) ∈ lw_g := mem_g (List.mem_of_getElem? (i := 1520) (by decide +kernel)) (by decide +kernel)
theorem w1521 : Cond.constantLong "PalmHoursModel" 259 (495874044019) ∈ lw_g := mem_g (List.mem_of_getElem? (i := 1521) (by decide +kernel)) (by decide +kernel)
theorem w1522 : Cond.constantLong "PalmHoursModel" 261 (1885432941) ∈ lw_g := mem_g (List.mem_of_getElem? (i := 1522) (by decide +kernel)) (by decide +kernel)
theorem w1523 : Cond.constantLong "PalmHoursModel" 263 (6840691) ∈ lw_g := mem_g (List.mem_of_getElem? (i := 1523) (by decide +kernel)) (by decide +kernel)
theorem w1524 : Cond.constantLong "PalmHoursModel" 265 (431365910119) ∈ lw_g := mem_g (List.mem_of_getElem? (i := 1524) (by decide +kernel)) (by decide +kernel)
theorem w1525 : Cond.constantLong "PalmHoursModel" 267 (24948) ∈ lw_g := mem_g (List.mem_of_getElem? (i := 1525) (by decide +kernel)) (by decide +kernel)
theorem w1526 : Cond.constantLong "PalmHoursModel" 269 (1752135026) ∈ lw_g := mem_g (List.mem_of_getElem? (i := 1526) (by decide +kernel)) (by decide +kernel)
theorem w1527 : Cond.constantLong "PalmHoursModel" 271 (1935767923) ∈ lw_g := mem_g (List.mem_of_getElem? (i := 1527) (by decide +kernel)) (by decide +kernel)
theorem w1528 : Cond.constantLong "PalmHoursModel" 273 (1735356005) ∈ lw_g := mem_g (List.mem_of_getElem? (i := 1528) (by decide +kernel)) (by decide +kernel)
theorem w1529 : Cond.constantLong "PalmHoursModel" 275 (1885434739) ∈ lw_g := mem_g (List.mem_of_getElem? (i := 1529) (by decide +kernel)) (by decide +kernel)
theorem w1530 : Cond.constantLong "PalmHoursModel" 277 (1751477348) ∈ lw_g := mem_g (List.mem_of_getElem? (i := 1530) (by decide +kernel)) (by decide +kernel)
theorem w1531 : Cond.constantLong "PalmHoursModel" 279 (120299592184933) ∈ lw_g := mem_g (List.mem_of_getElem? (i := 1531) (by decide +kernel)) (by decide +kernel)
theorem w1532 : Cond.constantLong "PalmHoursModel" 281 (435627783289) ∈ lw_g := mem_g (List.mem_of_getElem? (i := 1532) (by decide +kernel)) (by decide +kernel)
theorem w1533 : Cond.constantLong "PalmHoursModel" 283 (26982) ∈ lw_g := mem_g (List.mem_of_getElem? (i := 1533) (by decide +kernel)) (by decide +kernel)
theorem w1534 : Cond.constantLong "PalmHoursModel" 285 (28530) ∈ lw_g := mem_g (List.mem_of_getElem? (i := 1534) (by decide +kernel)) (by decide +kernel)
theorem w1535 : Cond.constantLong "PalmHoursModel" 287 (6385252) ∈ lw_g := mem_g (List.mem_of_getElem? (i := 1535) (by decide +kernel)) (by decide +kernel)
theorem w1536 : Cond.constantLong "PalmHoursModel" 289 (7237492) ∈ lw_g := mem_g (List.mem_of_getElem? (i := 1536) (by decide +kernel)) (by decide +kernel)
theorem w1537 : Cond.constantLong "PalmHoursModel" 291 (6384748) ∈ lw_g := mem_g (List.mem_of_getElem? (i := 1537) (by decide +kernel)) (by decide +kernel)
theorem w1538 : Cond.constantLong "PalmHoursModel" 293 (7170414) ∈ lw_g := mem_g (List.mem_of_getElem? (i := 1538) (by decide +kernel)) (by decide +kernel)
theorem w1539 : Cond.constantLong "PalmHoursModel" 295 (7168376) ∈ lw_g := mem_g (List.mem_of_getElem? (i := 1539) (by decide +kernel)) (by decide +kernel)
theorem w1540 : Cond.methodLink "PalmHoursModel" 343 ⟨"PalmHoursModel", "named", "(IJ)I"⟩ ∈ lw_g := mem_g (List.mem_of_getElem? (i := 1540) (by decide +kernel)) (by decide +kernel)
theorem w1542 : Cond.instanceMethod ⟨"PalmHoursModel", "named", "(IJ)I"⟩ ∈ lw_g := mem_g (List.mem_of_getElem? (i := 1542) (by decide +kernel)) (by decide +kernel)
theorem w1543 : Cond.code ⟨"PalmHoursModel", "named", "(IJ)I"⟩ cX12_named 5 (some .int) ∈ lw_g := mem_g (List.mem_of_getElem? (i := 1543) (by decide +kernel)) (by decide +kernel)
theorem w1544 : Cond.methodLink "PalmHoursModel" 297 ⟨"PalmHoursModel", "manyOf", "(II)I"⟩ ∈ lw_g := mem_g (List.mem_of_getElem? (i := 1544) (by decide +kernel)) (by decide +kernel)
theorem w1546 : Cond.instanceMethod ⟨"PalmHoursModel", "manyOf", "(II)I"⟩ ∈ lw_g := mem_g (List.mem_of_getElem? (i := 1546) (by decide +kernel)) (by decide +kernel)
theorem w1547 : Cond.code ⟨"PalmHoursModel", "manyOf", "(II)I"⟩ cX12_manyOf 3 (some .int) ∈ lw_g := mem_g (List.mem_of_getElem? (i := 1547) (by decide +kernel)) (by decide +kernel)
theorem w1548 : Cond.methodLink "PalmHoursModel" 301 ⟨"PalmHoursModel", "nameOf", "(III)J"⟩ ∈ lw_g := mem_g (List.mem_of_getElem? (i := 1548) (by decide +kernel)) (by decide +kernel)
theorem w1550 : Cond.instanceMethod ⟨"PalmHoursModel", "nameOf", "(III)J"⟩ ∈ lw_g := mem_g (List.mem_of_getElem? (i := 1550) (by decide +kernel)) (by decide +kernel)
theorem w1551 : Cond.code ⟨"PalmHoursModel", "nameOf", "(III)J"⟩ cX12_nameOf 4 (some .long) ∈ lw_g := mem_g (List.mem_of_getElem? (i := 1551) (by decide +kernel)) (by decide +kernel)
theorem w1552 : Cond.methodLink "PalmHoursModel" 359 ⟨"PalmHoursModel", "must", "(J)V"⟩ ∈ lw_g := mem_g (List.mem_of_getElem? (i := 1552) (by decide +kernel)) (by decide +kernel)
theorem w1554 : Cond.instanceMethod ⟨"PalmHoursModel", "must", "(J)V"⟩ ∈ lw_g := mem_g (List.mem_of_getElem? (i := 1554) (by decide +kernel)) (by decide +kernel)
theorem w1555 : Cond.code ⟨"PalmHoursModel", "must", "(J)V"⟩ cX12_must_ 3 none ∈ lw_g := mem_g (List.mem_of_getElem? (i := 1555) (by decide +kernel)) (by decide +kernel)
theorem w1556 : Cond.methodLink "PalmHoursModel" 363 ⟨"PalmHoursModel", "number", "(II)I"⟩ ∈ lw_g := mem_g (List.mem_of_getElem? (i := 1556) (by decide +kernel)) (by decide +kernel)
theorem w1558 : Cond.instanceMethod ⟨"PalmHoursModel", "number", "(II)I"⟩ ∈ lw_g := mem_g (List.mem_of_getElem? (i := 1558) (by decide +kernel)) (by decide +kernel)
theorem w1559 : Cond.code ⟨"PalmHoursModel", "number", "(II)I"⟩ cX12_number 4 (some .int) ∈ lw_g := mem_g (List.mem_of_getElem? (i := 1559) (by decide +kernel)) (by decide +kernel)
theorem w1560 : Cond.methodLink "PalmHoursModel" 305 ⟨"PalmHoursModel", "is", "(III)Z"⟩ ∈ lw_g := mem_g (List.mem_of_getElem? (i := 1560) (by decide +kernel)) (by decide +kernel)
theorem w1561 : Cond.static ⟨"PalmHoursModel", "is", "(III)Z"⟩ ∈ lw_g := mem_g (List.mem_of_getElem? (i := 1561) (by decide +kernel)) (by decide +kernel)
theorem w1562 : Cond.code ⟨"PalmHoursModel", "is", "(III)Z"⟩ cX12_is 3 (some .boolean) ∈ lw_g := mem_g (List.mem_of_getElem? (i := 1562) (by decide +kernel)) (by decide +kernel)
theorem w1563 : Cond.methodLink "PalmHoursModel" 380 ⟨"PalmHoursModel", "cornering", "()V"⟩ ∈ lw_g := mem_g (List.mem_of_getElem? (i := 1563) (by decide +kernel)) (by decide +kernel)
theorem w1565 : Cond.instanceMethod ⟨"PalmHoursModel", "cornering", "()V"⟩ ∈ lw_g := mem_g (List.mem_of_getElem? (i := 1565) (by decide +kernel)) (by decide +kernel)
theorem w1566 : Cond.code ⟨"PalmHoursModel", "cornering", "()V"⟩ cX12_cornering 1 none ∈ lw_g := mem_g (List.mem_of_getElem? (i := 1566) (by decide +kernel)) (by decide +kernel)
theorem w1567 : Cond.methodLink "PalmHoursModel" 383 ⟨"PalmHoursModel", "roading", "()V"⟩ ∈ lw_g := mem_g (List.mem_of_getElem? (i := 1567) (by decide +kernel)) (by decide +kernel)
theorem w1569 : Cond.instanceMethod ⟨"PalmHoursModel", "roading", "()V"⟩ ∈ lw_g := mem_g (List.mem_of_getElem? (i := 1569) (by decide +kernel)) (by decide +kernel)
theorem w1570 : Cond.code ⟨"PalmHoursModel", "roading", "()V"⟩ cX12_roading 5 none ∈ lw_g := mem_g (List.mem_of_getElem? (i := 1570) (by decide +kernel)) (by decide +kernel)
theorem w1571 : Cond.methodLink "PalmHoursModel" 366 ⟨"PalmHoursModel", "knownBut", "(II)I"⟩ ∈ lw_g := mem_g (List.mem_of_getElem? (i := 1571) (by decide +kernel)) (by decide +kernel)
theorem w1573 : Cond.instanceMethod ⟨"PalmHoursModel", "knownBut", "(II)I"⟩ ∈ lw_g := mem_g (List.mem_of_getElem? (i := 1573) (by decide +kernel)) (by decide +kernel)
theorem w1574 : Cond.code ⟨"PalmHoursModel", "knownBut", "(II)I"⟩ cX12_knownBut 4 (some .int) ∈ lw_g := mem_g (List.mem_of_getElem? (i := 1574) (by decide +kernel)) (by decide +kernel)
theorem w1575 : Cond.methodLink "PalmHoursModel" 347 ⟨"PalmHoursModel", "has2", "(II)Z"⟩ ∈ lw_g := mem_g (List.mem_of_getElem? (i := 1575) (by decide +kernel)) (by decide +kernel)
theorem w1576 : Cond.static ⟨"PalmHoursModel", "has2", "(II)Z"⟩ ∈ lw_g := mem_g (List.mem_of_getElem? (i := 1576) (by decide +kernel)) (by decide +kernel)
theorem w1577 : Cond.code ⟨"PalmHoursModel", "has2", "(II)Z"⟩ cX12_has2 2 (some .boolean) ∈ lw_g := mem_g (List.mem_of_getElem? (i := 1577) (by decide +kernel)) (by decide +kernel)
theorem w1578 : Cond.methodLink "PalmHoursModel" 386 ⟨"PalmHoursModel", "palming", "()V"⟩ ∈ lw_g := mem_g (List.mem_of_getElem? (i := 1578) (by decide +kernel)) (by decide +kernel)
theorem w1580 : Cond.instanceMethod ⟨"PalmHoursModel", "palming", "()V"⟩ ∈ lw_g := mem_g (List.mem_of_getElem? (i := 1580) (by decide +kernel)) (by decide +kernel)
theorem w1581 : Cond.code ⟨"PalmHoursModel", "palming", "()V"⟩ cX12_palming 4 none ∈ lw_g := mem_g (List.mem_of_getElem? (i := 1581) (by decide +kernel)) (by decide +kernel)
theorem w1582 : Cond.methodLink "PalmHoursModel" 389 ⟨"PalmHoursModel", "doings", "()V"⟩ ∈ lw_g := mem_g (List.mem_of_getElem? (i := 1582) (by decide +kernel)) (by decide +kernel)
theorem w1584 : Cond.instanceMethod ⟨"PalmHoursModel", "doings", "()V"⟩ ∈ lw_g := mem_g (List.mem_of_getElem? (i := 1584) (by decide +kernel)) (by decide +kernel)
theorem w1585 : Cond.code ⟨"PalmHoursModel", "doings", "()V"⟩ cX12_doings 2 none ∈ lw_g := mem_g (List.mem_of_getElem? (i := 1585) (by decide +kernel)) (by decide +kernel)
theorem w1586 : Cond.methodLink "PalmHoursModel" 391 ⟨"PalmHoursModel", "reading", "(I)V"⟩ ∈ lw_g := mem_g (List.mem_of_getElem? (i := 1586) (by decide +kernel)) (by decide +kernel)
theorem w1588 : Cond.instanceMethod ⟨"PalmHoursModel", "reading", "(I)V"⟩ ∈ lw_g := mem_g (List.mem_of_getElem? (i := 1588) (by decide +kernel)) (by decide +kernel)
theorem w1589 : Cond.code ⟨"PalmHoursModel", "reading", "(I)V"⟩ cX12_reading 3 none ∈ lw_g := mem_g (List.mem_of_getElem? (i := 1589) (by decide +kernel)) (by decide +kernel)
theorem w1590 : Cond.methodLink "PalmHoursModel" 373 ⟨"PalmHoursModel", "reads", "(Z)V"⟩ ∈ lw_g := mem_g (List.mem_of_getElem? (i := 1590) (by decide +kernel)) (by decide +kernel)
theorem w1592 : Cond.instanceMethod ⟨"PalmHoursModel", "reads", "(Z)V"⟩ ∈ lw_g := mem_g (List.mem_of_getElem? (i := 1592) (by decide +kernel)) (by decide +kernel)
theorem w1593 : Cond.code ⟨"PalmHoursModel", "reads", "(Z)V"⟩ cX12_reads 3 none ∈ lw_g := mem_g (List.mem_of_getElem? (i := 1593) (by decide +kernel)) (by decide +kernel)
theorem w1594 : Cond.methodLink "PalmHoursModel" 315 ⟨"PalmHoursModel", "pushes", "(I)V"⟩ ∈ lw_g := mem_g (List.mem_of_getElem? (i := 1594) (by decide +kernel)) (by decide +kernel)
theorem w1596 : Cond.instanceMethod ⟨"PalmHoursModel", "pushes", "(I)V"⟩ ∈ lw_g := mem_g (List.mem_of_getElem? (i := 1596) (by decide +kernel)) (by decide +kernel)
theorem w1597 : Cond.code ⟨"PalmHoursModel", "pushes", "(I)V"⟩ cX12_pushes 2 none ∈ lw_g := mem_g (List.mem_of_getElem? (i := 1597) (by decide +kernel)) (by decide +kernel)
theorem w1598 : Cond.methodLink "PalmHoursModel" 334 ⟨"PalmHoursModel", "operand", "()Z"⟩ ∈ lw_g := mem_g (List.mem_of_getElem? (i := 1598) (by decide +kernel)) (by decide +kernel)
theorem w1600 : Cond.instanceMethod ⟨"PalmHoursModel", "operand", "()Z"⟩ ∈ lw_g := mem_g (List.mem_of_getElem? (i := 1600) (by decide +kernel)) (by decide +kernel)
theorem w1601 : Cond.code ⟨"PalmHoursModel", "operand", "()Z"⟩ cX12_operand 4 (some .boolean) ∈ lw_g := mem_g (List.mem_of_getElem? (i := 1601) (by decide +kernel)) (by decide +kernel)
theorem w1602 : Cond.methodLink "PalmHoursModel" 318 ⟨"PalmHoursModel", "isTest", "(I)Z"⟩ ∈ lw_g := mem_g (List.mem_of_getElem? (i := 1602) (by decide +kernel)) (by decide +kernel)
theorem w1603 : Cond.static ⟨"PalmHoursModel", "isTest", "(I)Z"⟩ ∈ lw_g := mem_g (List.mem_of_getElem? (i := 1603) (by decide +kernel)) (by decide +kernel)
theorem w1604 : Cond.code ⟨"PalmHoursModel", "isTest", "(I)Z"⟩ cX12_isTest 1 (some .boolean) ∈ lw_g := mem_g (List.mem_of_getElem? (i := 1604) (by decide +kernel)) (by decide +kernel)
theorem w1605 : Cond.methodLink "PalmHoursModel" 325 ⟨"PalmHoursModel", "holdsBack", "(I)V"⟩ ∈ lw_g := mem_g (List.mem_of_getElem? (i := 1605) (by decide +kernel)) (by decide +kernel)
theorem w1607 : Cond.instanceMethod ⟨"PalmHoursModel", "holdsBack", "(I)V"⟩ ∈ lw_g := mem_g (List.mem_of_getElem? (i := 1607) (by decide +kernel)) (by decide +kernel)
theorem w1608 : Cond.code ⟨"PalmHoursModel", "holdsBack", "(I)V"⟩ cX12_holdsBack 2 none ∈ lw_g := mem_g (List.mem_of_getElem? (i := 1608) (by decide +kernel)) (by decide +kernel)
theorem w1609 : Cond.methodLink "PalmHoursModel" 241 ⟨"PalmHoursModel", "isSign", "(I)Z"⟩ ∈ lw_g := mem_g (List.mem_of_getElem? (i := 1609) (by decide +kernel)) (by decide +kernel)
theorem w1611 : Cond.instanceMethod ⟨"PalmHoursModel", "isSign", "(I)Z"⟩ ∈ lw_g := mem_g (List.mem_of_getElem? (i := 1611) (by decide +kernel)) (by decide +kernel)
theorem w1612 : Cond.code ⟨"PalmHoursModel", "isSign", "(I)Z"⟩ cX12_isSign 2 (some .boolean) ∈ lw_g := mem_g (List.mem_of_getElem? (i := 1612) (by decide +kernel)) (by decide +kernel)
theorem w1613 : Cond.methodLink "PalmHoursModel" 328 ⟨"PalmHoursModel", "opens", "(I)V"⟩ ∈ lw_g := mem_g (List.mem_of_getElem? (i := 1613) (by decide +kernel)) (by decide +kernel)
theorem w1615 : Cond.instanceMethod ⟨"PalmHoursModel", "opens", "(I)V"⟩ ∈ lw_g := mem_g (List.mem_of_getElem? (i := 1615) (by decide +kernel)) (by decide +kernel)
theorem w1616 : Cond.code ⟨"PalmHoursModel", "opens", "(I)V"⟩ cX12_opens 2 none ∈ lw_g := mem_g (List.mem_of_getElem? (i := 1616) (by decide +kernel)) (by decide +kernel)
theorem w1617 : Cond.methodLink "PalmHoursModel" 312 ⟨"PalmHoursModel", "add", "(II)V"⟩ ∈ lw_g := mem_g (List.mem_of_getElem? (i := 1617) (by decide +kernel)) (by decide +kernel)
theorem w1619 : Cond.instanceMethod ⟨"PalmHoursModel", "add", "(II)V"⟩ ∈ lw_g := mem_g (List.mem_of_getElem? (i := 1619) (by decide +kernel)) (by decide +kernel)
theorem w1620 : Cond.code ⟨"PalmHoursModel", "add", "(II)V"⟩ cX12_add 3 none ∈ lw_g := mem_g (List.mem_of_getElem? (i := 1620) (by decide +kernel)) (by decide +kernel)
theorem w1621 : Cond.methodLink "PalmHoursModel" 337 ⟨"PalmHoursModel", "goesOn", "()Z"⟩ ∈ lw_g := mem_g (List.mem_of_getElem? (i := 1621) (by decide +kernel)) (by decide +kernel)
theorem w1623 : Cond.instanceMethod ⟨"PalmHoursModel", "goesOn", "()Z"⟩ ∈ lw_g := mem_g (List.mem_of_getElem? (i := 1623) (by decide +kernel)) (by decide +kernel)
theorem w1624 : Cond.code ⟨"PalmHoursModel", "goesOn", "()Z"⟩ cX12_goesOn 5 (some .boolean) ∈ lw_g := mem_g (List.mem_of_getElem? (i := 1624) (by decide +kernel)) (by decide +kernel)
theorem w1625 : Cond.methodLink "PalmHoursModel" 331 ⟨"PalmHoursModel", "joins", "(I)V"⟩ ∈ lw_g := mem_g (List.mem_of_getElem? (i := 1625) (by decide +kernel)) (by decide +kernel)
theorem w1627 : Cond.instanceMethod ⟨"PalmHoursModel", "joins", "(I)V"⟩ ∈ lw_g := mem_g (List.mem_of_getElem? (i := 1627) (by decide +kernel)) (by decide +kernel)
theorem w1628 : Cond.code ⟨"PalmHoursModel", "joins", "(I)V"⟩ cX12_joins 2 none ∈ lw_g := mem_g (List.mem_of_getElem? (i := 1628) (by decide +kernel)) (by decide +kernel)
theorem w1629 : Cond.methodLink "PalmHoursModel" 309 ⟨"PalmHoursModel", "rank", "(I)I"⟩ ∈ lw_g := mem_g (List.mem_of_getElem? (i := 1629) (by decide +kernel)) (by decide +kernel)
theorem w1630 : Cond.static ⟨"PalmHoursModel", "rank", "(I)I"⟩ ∈ lw_g := mem_g (List.mem_of_getElem? (i := 1630) (by decide +kernel)) (by decide +kernel)
theorem w1631 : Cond.code ⟨"PalmHoursModel", "rank", "(I)I"⟩ cX12_rank 1 (some .int) ∈ lw_g := mem_g (List.mem_of_getElem? (i := 1631) (by decide +kernel)) (by decide +kernel)
theorem w1632 : Cond.methodLink "PalmHoursModel" 394 ⟨"PalmHoursModel", "passing", "()V"⟩ ∈ lw_g := mem_g (List.mem_of_getElem? (i := 1632) (by decide +kernel)) (by decide +kernel)
theorem w1634 : Cond.instanceMethod ⟨"PalmHoursModel", "passing", "()V"⟩ ∈ lw_g := mem_g (List.mem_of_getElem? (i := 1634) (by decide +kernel)) (by decide +kernel)
theorem w1635 : Cond.code ⟨"PalmHoursModel", "passing", "()V"⟩ cX12_passing 2 none ∈ lw_g := mem_g (List.mem_of_getElem? (i := 1635) (by decide +kernel)) (by decide +kernel)
theorem w1636 : Cond.methodLink "PalmHoursModel" 403 ⟨"PalmHoursModel", "finishes", "(I)V"⟩ ∈ lw_g := mem_g (List.mem_of_getElem? (i := 1636) (by decide +kernel)) (by decide +kernel)
theorem w1638 : Cond.instanceMethod ⟨"PalmHoursModel", "finishes", "(I)V"⟩ ∈ lw_g := mem_g (List.mem_of_getElem? (i := 1638) (by decide +kernel)) (by decide +kernel)
theorem w1639 : Cond.code ⟨"PalmHoursModel", "finishes", "(I)V"⟩ cX12_finishes 3 none ∈ lw_g := mem_g (List.mem_of_getElem? (i := 1639) (by decide +kernel)) (by decide +kernel)
theorem w1640 : Cond.methodLink "PalmHoursModel" 397 ⟨"PalmHoursModel", "must", "(I)V"⟩ ∈ lw_g := mem_g (List.mem_of_getElem? (i := 1640) (by decide +kernel)) (by decide +kernel)
theorem w1642 : Cond.instanceMethod ⟨"PalmHoursModel", "must", "(I)V"⟩ ∈ lw_g := mem_g (List.mem_of_getElem? (i := 1642) (by decide +kernel)) (by decide +kernel)
theorem w1643 : Cond.code ⟨"PalmHoursModel", "must", "(I)V"⟩ cX12_must 2 none ∈ lw_g := mem_g (List.mem_of_getElem? (i := 1643) (by decide +kernel)) (by decide +kernel)
theorem w1644 : Cond.methodLink "PalmHoursModel" 406 ⟨"PalmHoursModel", "measures", "()V"⟩ ∈ lw_g := mem_g (List.mem_of_getElem? (i := 1644) (by decide +kernel)) (by decide +kernel)
theorem w1646 : Cond.instanceMethod ⟨"PalmHoursModel", "measures", "()V"⟩ ∈ lw_g := mem_g (List.mem_of_getElem? (i := 1646) (by decide +kernel)) (by decide +kernel)
theorem w1647 : Cond.code ⟨"PalmHoursModel", "measures", "()V"⟩ cX12_measures 5 none ∈ lw_g := mem_g (List.mem_of_getElem? (i := 1647) (by decide +kernel)) (by decide +kernel)
theorem w1648 : Cond.constant "PalmHoursModel" 399 (100000000) ∈ lw_g := mem_g (List.mem_of_getElem? (i := 1648) (by decide +kernel)) (by decide +kernel)
theorem w1649 : Cond.methodLink "PalmHoursModel" 409 ⟨"PalmHoursModel", "begin", "()V"⟩ ∈ lw_g := mem_g (List.mem_of_getElem? (i := 1649) (by decide +kernel)) (by decide +kernel)
theorem w1651 : Cond.instanceMethod ⟨"PalmHoursModel", "begin", "()V"⟩ ∈ lw_g := mem_g (List.mem_of_getElem? (i := 1651) (by decide +kernel)) (by decide +kernel)
theorem w1652 : Cond.code ⟨"PalmHoursModel", "begin", "()V"⟩ cX12_begin 2 none ∈ lw_g := mem_g (List.mem_of_getElem? (i := 1652) (by decide +kernel)) (by decide +kernel)
theorem w1653 : Cond.methodLink "PalmHoursModel" 412 ⟨"PalmHoursModel", "finishesDoings", "(I)I"⟩ ∈ lw_g := mem_g (List.mem_of_getElem? (i := 1653) (by decide +kernel)) (by decide +kernel)
theorem w1655 : Cond.instanceMethod ⟨"PalmHoursModel", "finishesDoings", "(I)I"⟩ ∈ lw_g := mem_g (List.mem_of_getElem? (i := 1655) (by decide +kernel)) (by decide +kernel)
theorem w1656 : Cond.code ⟨"PalmHoursModel", "finishesDoings", "(I)I"⟩ cX12_finishesDoings 4 (some .int) ∈ lw_g := mem_g (List.mem_of_getElem? (i := 1656) (by decide +kernel)) (by decide +kernel)
theorem w1657 : Cond.methodLink "PalmHoursModel" 449 ⟨"PalmHoursModel", "hour", "(II)I"⟩ ∈ lw_g := mem_g (List.mem_of_getElem? (i := 1657) (by decide +kernel)) (by decide +kernel)
theorem w1659 : Cond.instanceMethod ⟨"PalmHoursModel", "hour", "(II)I"⟩ ∈ lw_g := mem_g (List.mem_of_getElem? (i := 1659) (by decide +kernel)) (by decide +kernel)
theorem w1660 : Cond.code ⟨"PalmHoursModel", "hour", "(II)I"⟩ cX12_hour 5 (some .int) ∈ lw_g := mem_g (List.mem_of_getElem? (i := 1660) (by decide +kernel)) (by decide +kernel)
theorem w1661 : Cond.methodLink "PalmHoursModel" 437 ⟨"PalmHoursModel", "lays", "(II)V"⟩ ∈ lw_g := mem_g (List.mem_of_getElem? (i := 1661) (by decide +kernel)) (by decide +kernel)
theorem w1663 : Cond.instanceMethod ⟨"PalmHoursModel", "lays", "(II)V"⟩ ∈ lw_g := mem_g (List.mem_of_getElem? (i := 1663) (by decide +kernel)) (by decide +kernel)
theorem w1664 : Cond.code ⟨"PalmHoursModel", "lays", "(II)V"⟩ cX12_lays 4 none ∈ lw_g := mem_g (List.mem_of_getElem? (i := 1664) (by decide +kernel)) (by decide +kernel)
theorem w1665 : Cond.methodLink "PalmHoursModel" 440 ⟨"PalmHoursModel", "isTold", "(I)Z"⟩ ∈ lw_g := mem_g (List.mem_of_getElem? (i := 1665) (by decide +kernel)) (by decide +kernel)
theorem w1667 : Cond.instanceMethod ⟨"PalmHoursModel", "isTold", "(I)Z"⟩ ∈ lw_g := mem_g (List.mem_of_getElem? (i := 1667) (by decide +kernel)) (by decide +kernel)
theorem w1668 : Cond.code ⟨"PalmHoursModel", "isTold", "(I)Z"⟩ cX12_isTold 2 (some .boolean) ∈ lw_g := mem_g (List.mem_of_getElem? (i := 1668) (by decide +kernel)) (by decide +kernel)
theorem w1669 : Cond.methodLink "PalmHoursModel" 443 ⟨"PalmHoursModel", "reckons", "(I)J"⟩ ∈ lw_g := mem_g (List.mem_of_getElem? (i := 1669) (by decide +kernel)) (by decide +kernel)
theorem w1671 : Cond.instanceMethod ⟨"PalmHoursModel", "reckons", "(I)J"⟩ ∈ lw_g := mem_g (List.mem_of_getElem? (i := 1671) (by decide +kernel)) (by decide +kernel)
theorem w1672 : Cond.code ⟨"PalmHoursModel", "reckons", "(I)J"⟩ cX12_reckons 5 (some .long) ∈ lw_g := mem_g (List.mem_of_getElem? (i := 1672) (by decide +kernel)) (by decide +kernel)
theorem w1673 : Cond.methodLink "PalmHoursModel" 433 ⟨"PalmHoursModel", "two", "(IJJ)J"⟩ ∈ lw_g := mem_g (List.mem_of_getElem? (i := 1673) (by decide +kernel)) (by decide +kernel)
theorem w1674 : Cond.static ⟨"PalmHoursModel", "two", "(IJJ)J"⟩ ∈ lw_g := mem_g (List.mem_of_getElem? (i := 1674) (by decide +kernel)) (by decide +kernel)
theorem w1675 : Cond.code ⟨"PalmHoursModel", "two", "(IJJ)J"⟩ cX12_two 5 (some .long) ∈ lw_g := mem_g (List.mem_of_getElem? (i := 1675) (by decide +kernel)) (by decide +kernel)
theorem w1676 : Cond.methodLink "PalmHoursModel" 425 ⟨"PalmHoursModel", "within", "(J)J"⟩ ∈ lw_g := mem_g (List.mem_of_getElem? (i := 1676) (by decide +kernel)) (by decide +kernel)
theorem w1677 : Cond.static ⟨"PalmHoursModel", "within", "(J)J"⟩ ∈ lw_g := mem_g (List.mem_of_getElem? (i := 1677) (by decide +kernel)) (by decide +kernel)
theorem w1678 : Cond.code ⟨"PalmHoursModel", "within", "(J)J"⟩ cX12_within 2 (some .long) ∈ lw_g := mem_g (List.mem_of_getElem? (i := 1678) (by decide +kernel)) (by decide +kernel)
theorem w1679 : Cond.constantLong "PalmHoursModel" 421 (1000000) ∈ lw_g := mem_g (List.mem_of_getElem? (i := 1679) (by decide +kernel)) (by decide +kernel)
theorem w1680 : Cond.constantLong "PalmHoursModel" 423 (-1000000) ∈ lw_g := mem_g (List.mem_of_getElem? (i := 1680) (by decide +kernel)) (by decide +kernel)
theorem w1681 : Cond.methodLink "PalmHoursModel" 429 ⟨"PalmHoursModel", "floor", "(JJ)J"⟩ ∈ lw_g := mem_g (List.mem_of_getElem? (i := 1681) (by decide +kernel)) (by decide +kernel)
theorem w1682 : Cond.static ⟨"PalmHoursModel", "floor", "(JJ)J"⟩ ∈ lw_g := mem_g (List.mem_of_getElem? (i := 1682) (by decide +kernel)) (by decide +kernel)
theorem w1683 : Cond.code ⟨"PalmHoursModel", "floor", "(JJ)J"⟩ cX12_floor 6 (some .long) ∈ lw_g := mem_g (List.mem_of_getElem? (i := 1683) (by decide +kernel)) (by decide +kernel)
theorem w1684 : Cond.constantLong "PalmHoursModel" 447 (23) ∈ lw_g := mem_g (List.mem_of_getElem? (i := 1684) (by decide +kernel)) (by decide +kernel)
theorem w1685 : Cond.methodLink "PalmHoursModel" 452 ⟨"PalmHoursModel", "writesDown", "(II)V"⟩ ∈ lw_g := mem_g (List.mem_of_getElem? (i := 1685) (by decide +kernel)) (by decide +kernel)
theorem w1687 : Cond.instanceMethod ⟨"PalmHoursModel", "writesDown", "(II)V"⟩ ∈ lw_g := mem_g (List.mem_of_getElem? (i := 1687) (by decide +kernel)) (by decide +kernel)
theorem w1688 : Cond.code ⟨"PalmHoursModel", "writesDown", "(II)V"⟩ cX12_writesDown 4 none ∈ lw_g := mem_g (List.mem_of_getElem? (i := 1688) (by decide +kernel)) (by decide +kernel)
theorem w1701 : Cond.methodLink "PalmHoursModel" 415 ⟨"PalmHoursModel", "slot", "(I)I"⟩ ∈ lw_g := mem_g (List.mem_of_getElem? (i := 1701) (by decide +kernel)) (by decide +kernel)
theorem w1703 : Cond.instanceMethod ⟨"PalmHoursModel", "slot", "(I)I"⟩ ∈ lw_g := mem_g (List.mem_of_getElem? (i := 1703) (by decide +kernel)) (by decide +kernel)
theorem w1704 : Cond.code ⟨"PalmHoursModel", "slot", "(I)I"⟩ cX12_slot 2 (some .int) ∈ lw_g := mem_g (List.mem_of_getElem? (i := 1704) (by decide +kernel)) (by decide +kernel)
theorem w1705 : Cond.methodLink "PalmHoursModel" 418 ⟨"PalmHoursModel", "copies", "(II)V"⟩ ∈ lw_g := mem_g (List.mem_of_getElem? (i := 1705) (by decide +kernel)) (by decide +kernel)
theorem w1707 : Cond.instanceMethod ⟨"PalmHoursModel", "copies", "(II)V"⟩ ∈ lw_g := mem_g (List.mem_of_getElem? (i := 1707) (by decide +kernel)) (by decide +kernel)
theorem w1708 : Cond.code ⟨"PalmHoursModel", "copies", "(II)V"⟩ cX12_copies 4 none ∈ lw_g := mem_g (List.mem_of_getElem? (i := 1708) (by decide +kernel)) (by decide +kernel)
theorem w1713 : Cond.methodLink "PalmHoursModel" 464 ⟨"PalmHoursModel", "bits", "(I)I"⟩ ∈ lw_g := mem_g (List.mem_of_getElem? (i := 1713) (by decide +kernel)) (by decide +kernel)
theorem w1714 : Cond.static ⟨"PalmHoursModel", "bits", "(I)I"⟩ ∈ lw_g := mem_g (List.mem_of_getElem? (i := 1714) (by decide +kernel)) (by decide +kernel)
theorem w1715 : Cond.code ⟨"PalmHoursModel", "bits", "(I)I"⟩ cX12_bits 3 (some .int) ∈ lw_g := mem_g (List.mem_of_getElem? (i := 1715) (by decide +kernel)) (by decide +kernel)
theorem w1720 : Cond.constantLong "PalmHoursModel" 467 (255) ∈ lw_g := mem_g (List.mem_of_getElem? (i := 1720) (by decide +kernel)) (by decide +kernel)
theorem w1725 : Cond.methodLink "PalmHoursModel" 469 ⟨"PalmHoursModel", "isThing", "(I)Z"⟩ ∈ lw_g := mem_g (List.mem_of_getElem? (i := 1725) (by decide +kernel)) (by decide +kernel)
theorem w1727 : Cond.instanceMethod ⟨"PalmHoursModel", "isThing", "(I)Z"⟩ ∈ lw_g := mem_g (List.mem_of_getElem? (i := 1727) (by decide +kernel)) (by decide +kernel)
theorem w1728 : Cond.code ⟨"PalmHoursModel", "isThing", "(I)Z"⟩ cX12_isThing 2 (some .boolean) ∈ lw_g := mem_g (List.mem_of_getElem? (i := 1728) (by decide +kernel)) (by decide +kernel)
theorem w1733 : Cond.methodLink "PalmHoursModel" 472 ⟨"PalmHoursModel", "isCorner", "(I)Z"⟩ ∈ lw_g := mem_g (List.mem_of_getElem? (i := 1733) (by decide +kernel)) (by decide +kernel)
theorem w1735 : Cond.instanceMethod ⟨"PalmHoursModel", "isCorner", "(I)Z"⟩ ∈ lw_g := mem_g (List.mem_of_getElem? (i := 1735) (by decide +kernel)) (by decide +kernel)
theorem w1736 : Cond.code ⟨"PalmHoursModel", "isCorner", "(I)Z"⟩ cX12_isCorner 2 (some .boolean) ∈ lw_g := mem_g (List.mem_of_getElem? (i := 1736) (by decide +kernel)) (by decide +kernel)
theorem w1741 : Cond.methodLink "PalmHoursModel" 475 ⟨"PalmHoursModel", "isDoing", "(I)Z"⟩ ∈ lw_g := mem_g (List.mem_of_getElem? (i := 1741) (by decide +kernel)) (by decide +kernel)
theorem w1743 : Cond.instanceMethod ⟨"PalmHoursModel", "isDoing", "(I)Z"⟩ ∈ lw_g := mem_g (List.mem_of_getElem? (i := 1743) (by decide +kernel)) (by decide +kernel)
theorem w1744 : Cond.code ⟨"PalmHoursModel", "isDoing", "(I)Z"⟩ cX12_isDoing 2 (some .boolean) ∈ lw_g := mem_g (List.mem_of_getElem? (i := 1744) (by decide +kernel)) (by decide +kernel)
theorem w1746 : Cond.instanceMethod ⟨"PalmHoursModel", "later", "(II)I"⟩ ∈ lw_g := mem_g (List.mem_of_getElem? (i := 1746) (by decide +kernel)) (by decide +kernel)
theorem w1747 : Cond.selects "PalmHoursModel" ⟨"PalmHoursModel", "later", "(II)I"⟩ ⟨"PalmHoursModel", "later", "(II)I"⟩ ∈ lw_g := mem_g (List.mem_of_getElem? (i := 1747) (by decide +kernel)) (by decide +kernel)
theorem w1748 : Cond.code ⟨"PalmHoursModel", "later", "(II)I"⟩ cX12_later 4 (some .int) ∈ lw_g := mem_g (List.mem_of_getElem? (i := 1748) (by decide +kernel)) (by decide +kernel)
theorem w1749 : Cond.methodLink "PalmHoursModel" 478 ⟨"PalmHoursModel", "isAhead", "(III)Z"⟩ ∈ lw_g := mem_g (List.mem_of_getElem? (i := 1749) (by decide +kernel)) (by decide +kernel)
theorem w1751 : Cond.instanceMethod ⟨"PalmHoursModel", "isAhead", "(III)Z"⟩ ∈ lw_g := mem_g (List.mem_of_getElem? (i := 1751) (by decide +kernel)) (by decide +kernel)
theorem w1752 : Cond.code ⟨"PalmHoursModel", "isAhead", "(III)Z"⟩ cX12_isAhead 4 (some .boolean) ∈ lw_g := mem_g (List.mem_of_getElem? (i := 1752) (by decide +kernel)) (by decide +kernel)
theorem w1753 : Cond.methodLink "PalmHoursModel" 481 ⟨"PalmHoursModel", "passes", "(I)I"⟩ ∈ lw_g := mem_g (List.mem_of_getElem? (i := 1753) (by decide +kernel)) (by decide +kernel)
theorem w1755 : Cond.instanceMethod ⟨"PalmHoursModel", "passes", "(I)I"⟩ ∈ lw_g := mem_g (List.mem_of_getElem? (i := 1755) (by decide +kernel)) (by decide +kernel)
theorem w1756 : Cond.code ⟨"PalmHoursModel", "passes", "(I)I"⟩ cX12_passes 2 (some .int) ∈ lw_g := mem_g (List.mem_of_getElem? (i := 1756) (by decide +kernel)) (by decide +kernel)
theorem w1757 : Cond.methodLink "PalmHoursModel" 461 ⟨"PalmHoursModel", "ticks", "(I)V"⟩ ∈ lw_g := mem_g (List.mem_of_getElem? (i := 1757) (by decide +kernel)) (by decide +kernel)
theorem w1759 : Cond.instanceMethod ⟨"PalmHoursModel", "ticks", "(I)V"⟩ ∈ lw_g := mem_g (List.mem_of_getElem? (i := 1759) (by decide +kernel)) (by decide +kernel)
theorem w1760 : Cond.code ⟨"PalmHoursModel", "ticks", "(I)V"⟩ cX12_ticks 3 none ∈ lw_g := mem_g (List.mem_of_getElem? (i := 1760) (by decide +kernel)) (by decide +kernel)
theorem w1761 : Cond.methodLink "PalmHoursModel" 455 ⟨"PalmHoursModel", "isGone", "(II)Z"⟩ ∈ lw_g := mem_g (List.mem_of_getElem? (i := 1761) (by decide +kernel)) (by decide +kernel)
theorem w1763 : Cond.instanceMethod ⟨"PalmHoursModel", "isGone", "(II)Z"⟩ ∈ lw_g := mem_g (List.mem_of_getElem? (i := 1763) (by decide +kernel)) (by decide +kernel)
theorem w1764 : Cond.code ⟨"PalmHoursModel", "isGone", "(II)Z"⟩ cX12_isGone 3 (some .boolean) ∈ lw_g := mem_g (List.mem_of_getElem? (i := 1764) (by decide +kernel)) (by decide +kernel)
theorem w1765 : Cond.methodLink "PalmHoursModel" 457 ⟨"PalmHoursModel", "puts", "(III)V"⟩ ∈ lw_g := mem_g (List.mem_of_getElem? (i := 1765) (by decide +kernel)) (by decide +kernel)
theorem w1767 : Cond.instanceMethod ⟨"PalmHoursModel", "puts", "(III)V"⟩ ∈ lw_g := mem_g (List.mem_of_getElem? (i := 1767) (by decide +kernel)) (by decide +kernel)
theorem w1768 : Cond.code ⟨"PalmHoursModel", "puts", "(III)V"⟩ cX12_puts 4 none ∈ lw_g := mem_g (List.mem_of_getElem? (i := 1768) (by decide +kernel)) (by decide +kernel)
theorem w1781 : Cond.methodLink "PalmHoursModel" 484 ⟨"PalmHoursModel", "isDoneBy", "(II)Z"⟩ ∈ lw_g := mem_g (List.mem_of_getElem? (i := 1781) (by decide +kernel)) (by decide +kernel)
theorem w1783 : Cond.instanceMethod ⟨"PalmHoursModel", "isDoneBy", "(II)Z"⟩ ∈ lw_g := mem_g (List.mem_of_getElem? (i := 1783) (by decide +kernel)) (by decide +kernel)
theorem w1784 : Cond.code ⟨"PalmHoursModel", "isDoneBy", "(II)Z"⟩ cX12_isDoneBy 4 (some .boolean) ∈ lw_g := mem_g (List.mem_of_getElem? (i := 1784) (by decide +kernel)) (by decide +kernel)
theorem w1793 : Cond.constantLong "PalmHoursModel" 487 (-1) ∈ lw_g := mem_g (List.mem_of_getElem? (i := 1793) (by decide +kernel)) (by decide +kernel)
theorem w1795 : Cond.instanceMethod ⟨"PalmHoursModel", "way", "(II)I"⟩ ∈ lw_g := mem_g (List.mem_of_getElem? (i := 1795) (by decide +kernel)) (by decide +kernel)
theorem w1796 : Cond.selects "PalmHoursModel" ⟨"PalmHoursModel", "way", "(II)I"⟩ ⟨"PalmHoursModel", "way", "(II)I"⟩ ∈ lw_g := mem_g (List.mem_of_getElem? (i := 1796) (by decide +kernel)) (by decide +kernel)
theorem w1797 : Cond.code ⟨"PalmHoursModel", "way", "(II)I"⟩ cX12_way 3 (some .int) ∈ lw_g := mem_g (List.mem_of_getElem? (i := 1797) (by decide +kernel)) (by decide +kernel)
theorem w1802 : Cond.methodLink "PalmHoursModel" 489 ⟨"PalmHoursModel", "way", "(II)I"⟩ ∈ lw_g := mem_g (List.mem_of_getElem? (i := 1802) (by decide +kernel)) (by decide +kernel)
theorem w1803 : Cond.methodLink "PalmHoursModel" 492 ⟨"PalmHoursModel", "later", "(II)I"⟩ ∈ lw_g := mem_g (List.mem_of_getElem? (i := 1803) (by decide +kernel)) (by decide +kernel)
theorem w1816 : Cond.methodLink "PalmHoursModel" 495 ⟨"PalmHoursModel", "heldBits", "(I)I"⟩ ∈ lw_g := mem_g (List.mem_of_getElem? (i := 1816) (by decide +kernel)) (by decide +kernel)
theorem w1818 : Cond.instanceMethod ⟨"PalmHoursModel", "heldBits", "(I)I"⟩ ∈ lw_g := mem_g (List.mem_of_getElem? (i := 1818) (by decide +kernel)) (by decide +kernel)
theorem w1819 : Cond.code ⟨"PalmHoursModel", "heldBits", "(I)I"⟩ cX12_heldBits 7 (some .int) ∈ lw_g := mem_g (List.mem_of_getElem? (i := 1819) (by decide +kernel)) (by decide +kernel)
theorem w1828 : Cond.methodLink "PalmHoursModel" 498 ⟨"PalmHoursModel", "keeps", "()V"⟩ ∈ lw_g := mem_g (List.mem_of_getElem? (i := 1828) (by decide +kernel)) (by decide +kernel)
theorem w1830 : Cond.instanceMethod ⟨"PalmHoursModel", "keeps", "()V"⟩ ∈ lw_g := mem_g (List.mem_of_getElem? (i := 1830) (by decide +kernel)) (by decide +kernel)
theorem w1831 : Cond.code ⟨"PalmHoursModel", "keeps", "()V"⟩ cX12_keeps 1 none ∈ lw_g := mem_g (List.mem_of_getElem? (i := 1831) (by decide +kernel)) (by decide +kernel)
theorem w1836 : Cond.methodLink "PalmHoursModel" 509 ⟨"PalmHoursModel", "draw", "(I)I"⟩ ∈ lw_g := mem_g (List.mem_of_getElem? (i := 1836) (by decide +kernel)) (by decide +kernel)
theorem w1838 : Cond.instanceMethod ⟨"PalmHoursModel", "draw", "(I)I"⟩ ∈ lw_g := mem_g (List.mem_of_getElem? (i := 1838) (by decide +kernel)) (by decide +kernel)
theorem w1839 : Cond.code ⟨"PalmHoursModel", "draw", "(I)I"⟩ cX12_draw 2 (some .int) ∈ lw_g := mem_g (List.mem_of_getElem? (i := 1839) (by decide +kernel)) (by decide +kernel)
theorem w1840 : Cond.constantLong "PalmHoursModel" 501 (1103515245) ∈ lw_g := mem_g (List.mem_of_getElem? (i := 1840) (by decide +kernel)) (by decide +kernel)
theorem w1841 : Cond.constantLong "PalmHoursModel" 503 (12345) ∈ lw_g := mem_g (List.mem_of_getElem? (i := 1841) (by decide +kernel)) (by decide +kernel)
theorem w1842 : Cond.constantLong "PalmHoursModel" 505 (2147483648) ∈ lw_g := mem_g (List.mem_of_getElem? (i := 1842) (by decide +kernel)) (by decide +kernel)
theorem w1843 : Cond.constantLong "PalmHoursModel" 507 (64) ∈ lw_g := mem_g (List.mem_of_getElem? (i := 1843) (by decide +kernel)) (by decide +kernel)
theorem w1864 : Cond.methodLink "PalmHoursModel" 512 ⟨"PalmHoursModel", "writes", "(I)V"⟩ ∈ lw_g := mem_g (List.mem_of_getElem? (i := 1864) (by decide +kernel)) (by decide +kernel)
theorem w1866 : Cond.instanceMethod ⟨"PalmHoursModel", "writes", "(I)V"⟩ ∈ lw_g := mem_g (List.mem_of_getElem? (i := 1866) (by decide +kernel)) (by decide +kernel)
theorem w1867 : Cond.code ⟨"PalmHoursModel", "writes", "(I)V"⟩ cX12_writes 2 none ∈ lw_g := mem_g (List.mem_of_getElem? (i := 1867) (by decide +kernel)) (by decide +kernel)
theorem w1876 : Cond.methodLink "PalmHoursModel" 518 ⟨"PalmHoursModel", "comesOn", "(I)Z"⟩ ∈ lw_g := mem_g (List.mem_of_getElem? (i := 1876) (by decide +kernel)) (by decide +kernel)
theorem w1878 : Cond.instanceMethod ⟨"PalmHoursModel", "comesOn", "(I)Z"⟩ ∈ lw_g := mem_g (List.mem_of_getElem? (i := 1878) (by decide +kernel)) (by decide +kernel)
theorem w1879 : Cond.code ⟨"PalmHoursModel", "comesOn", "(I)Z"⟩ cX12_comesOn 5 (some .boolean) ∈ lw_g := mem_g (List.mem_of_getElem? (i := 1879) (by decide +kernel)) (by decide +kernel)
theorem w1880 : Cond.methodLink "PalmHoursModel" 515 ⟨"PalmHoursModel", "cornerOn", "(II)Z"⟩ ∈ lw_g := mem_g (List.mem_of_getElem? (i := 1880) (by decide +kernel)) (by decide +kernel)
theorem w1882 : Cond.instanceMethod ⟨"PalmHoursModel", "cornerOn", "(II)Z"⟩ ∈ lw_g := mem_g (List.mem_of_getElem? (i := 1882) (by decide +kernel)) (by decide +kernel)
theorem w1883 : Cond.code ⟨"PalmHoursModel", "cornerOn", "(II)Z"⟩ cX12_cornerOn 4 (some .boolean) ∈ lw_g := mem_g (List.mem_of_getElem? (i := 1883) (by decide +kernel)) (by decide +kernel)
theorem flX0_15 : FL RX0 15 0 1 RX0 TX0 2 tyX0 := ⟨rfl, inX0, by decide, w180, by decide, tyX0_ok, nmX0⟩
theorem flX0_9 : FL RX0 9 0 0 RX0 TX0 2 tyX0 := ⟨rfl, inX0, by decide, w178, by decide, tyX0_ok, nmX0⟩
theorem flX10_15 : FL RX10 15 10 1 RX10 TX10 2 tyX10 := ⟨rfl, inX10, by decide, w510, by decide, tyX10_ok, nmX10⟩
theorem flX10_19 : FL RX10 19 9 5 RX9 TX9 19 tyX9 := ⟨rfl, inX9, by decide, w204, by decide, tyX9_ok, nmX9⟩
theorem flX10_25 : FL RX10 25 9 8 RX9 TX9 19 tyX9 := ⟨rfl, inX9, by decide, w213, by decide, tyX9_ok, nmX9⟩
theorem flX10_28 : FL RX10 28 9 9 RX9 TX9 19 tyX9 := ⟨rfl, inX9, by decide, w217, by decide, tyX9_ok, nmX9⟩
theorem flX10_31 : FL RX10 31 9 10 RX9 TX9 19 tyX9 := ⟨rfl, inX9, by decide, w219, by decide, tyX9_ok, nmX9⟩
theorem flX10_34 : FL RX10 34 9 11 RX9 TX9 19 tyX9 := ⟨rfl, inX9, by decide, w221, by decide, tyX9_ok, nmX9⟩
theorem flX10_9 : FL RX10 9 10 0 RX10 TX10 2 tyX10 := ⟨rfl, inX10, by decide, w509, by decide, tyX10_ok, nmX10⟩
theorem flX11_116 : FL RX11 116 7 1 RX7 TX7 2 tyX7 := ⟨rfl, inX7, by decide, w157, by decide, tyX7_ok, nmX7⟩
theorem flX11_12 : FL RX11 12 11 0 RX11 TX11 18 tyX11 := ⟨rfl, inX11, by decide, w608, by decide, tyX11_ok, nmX11⟩
theorem flX11_123 : FL RX11 123 4 0 RX4 TX4 3 tyX4 := ⟨rfl, inX4, by decide, w400, by decide, tyX4_ok, nmX4⟩
theorem flX11_127 : FL RX11 127 8 7 RX8 TX8 9 tyX8 := ⟨rfl, inX8, by decide, w360, by decide, tyX8_ok, nmX8⟩
theorem flX11_132 : FL RX11 132 8 8 RX8 TX8 9 tyX8 := ⟨rfl, inX8, by decide, w362, by decide, tyX8_ok, nmX8⟩
theorem flX11_133 : FL RX11 133 9 0 RX9 TX9 19 tyX9 := ⟨rfl, inX9, by decide, w190, by decide, tyX9_ok, nmX9⟩
theorem flX11_136 : FL RX11 136 9 1 RX9 TX9 19 tyX9 := ⟨rfl, inX9, by decide, w193, by decide, tyX9_ok, nmX9⟩
theorem flX11_139 : FL RX11 139 9 5 RX9 TX9 19 tyX9 := ⟨rfl, inX9, by decide, w206, by decide, tyX9_ok, nmX9⟩
theorem flX11_142 : FL RX11 142 9 8 RX9 TX9 19 tyX9 := ⟨rfl, inX9, by decide, w215, by decide, tyX9_ok, nmX9⟩
theorem flX11_145 : FL RX11 145 9 12 RX9 TX9 19 tyX9 := ⟨rfl, inX9, by decide, w225, by decide, tyX9_ok, nmX9⟩
theorem flX11_148 : FL RX11 148 6 1 RX6 TX6 8 tyX6 := ⟨rfl, inX6, by decide, w454, by decide, tyX6_ok, nmX6⟩
theorem flX11_158 : FL RX11 158 6 5 RX6 TX6 8 tyX6 := ⟨rfl, inX6, by decide, w462, by decide, tyX6_ok, nmX6⟩
theorem flX11_161 : FL RX11 161 5 0 RX5 TX5 5 tyX5 := ⟨rfl, inX5, by decide, w524, by decide, tyX5_ok, nmX5⟩
theorem flX11_164 : FL RX11 164 2 2 RX2 TX2 3 tyX2 := ⟨rfl, inX2, by decide, w495, by decide, tyX2_ok, nmX2⟩
theorem flX11_168 : FL RX11 168 9 2 RX9 TX9 19 tyX9 := ⟨rfl, inX9, by decide, w195, by decide, tyX9_ok, nmX9⟩
theorem flX11_178 : FL RX11 178 9 6 RX9 TX9 19 tyX9 := ⟨rfl, inX9, by decide, w208, by decide, tyX9_ok, nmX9⟩
theorem flX11_184 : FL RX11 184 9 13 RX9 TX9 19 tyX9 := ⟨rfl, inX9, by decide, w227, by decide, tyX9_ok, nmX9⟩
theorem flX11_187 : FL RX11 187 9 3 RX9 TX9 19 tyX9 := ⟨rfl, inX9, by decide, w198, by decide, tyX9_ok, nmX9⟩
theorem flX11_19 : FL RX11 19 11 1 RX11 TX11 18 tyX11 := ⟨rfl, inX11, by decide, w609, by decide, tyX11_ok, nmX11⟩
theorem flX11_190 : FL RX11 190 9 4 RX9 TX9 19 tyX9 := ⟨rfl, inX9, by decide, w201, by decide, tyX9_ok, nmX9⟩
theorem flX11_193 : FL RX11 193 6 2 RX6 TX6 8 tyX6 := ⟨rfl, inX6, by decide, w456, by decide, tyX6_ok, nmX6⟩
theorem flX11_195 : FL RX11 195 6 3 RX6 TX6 8 tyX6 := ⟨rfl, inX6, by decide, w458, by decide, tyX6_ok, nmX6⟩
theorem flX11_201 : FL RX11 201 9 14 RX9 TX9 19 tyX9 := ⟨rfl, inX9, by decide, w230, by decide, tyX9_ok, nmX9⟩
theorem flX11_204 : FL RX11 204 9 15 RX9 TX9 19 tyX9 := ⟨rfl, inX9, by decide, w233, by decide, tyX9_ok, nmX9⟩
theorem flX11_207 : FL RX11 207 6 4 RX6 TX6 8 tyX6 := ⟨rfl, inX6, by decide, w460, by decide, tyX6_ok, nmX6⟩
theorem flX11_23 : FL RX11 23 11 2 RX11 TX11 18 tyX11 := ⟨rfl, inX11, by decide, w610, by decide, tyX11_ok, nmX11⟩
theorem flX11_294 : FL RX11 294 6 6 RX6 TX6 8 tyX6 := ⟨rfl, inX6, by decide, w464, by decide, tyX6_ok, nmX6⟩
theorem flX11_297 : FL RX11 297 6 7 RX6 TX6 8 tyX6 := ⟨rfl, inX6, by decide, w466, by decide, tyX6_ok, nmX6⟩
theorem flX11_31 : FL RX11 31 11 3 RX11 TX11 18 tyX11 := ⟨rfl, inX11, by decide, w611, by decide, tyX11_ok, nmX11⟩
theorem flX11_312 : FL RX11 312 1 0 RX1 TX1 8 tyX1 := ⟨rfl, inX1, by decide, w417, by decide, tyX1_ok, nmX1⟩
theorem flX11_346 : FL RX11 346 9 16 RX9 TX9 19 tyX9 := ⟨rfl, inX9, by decide, w236, by decide, tyX9_ok, nmX9⟩
theorem flX11_355 : FL RX11 355 1 1 RX1 TX1 8 tyX1 := ⟨rfl, inX1, by decide, w419, by decide, tyX1_ok, nmX1⟩
theorem flX11_358 : FL RX11 358 1 4 RX1 TX1 8 tyX1 := ⟨rfl, inX1, by decide, w425, by decide, tyX1_ok, nmX1⟩
theorem flX11_40 : FL RX11 40 11 4 RX11 TX11 18 tyX11 := ⟨rfl, inX11, by decide, w612, by decide, tyX11_ok, nmX11⟩
theorem flX11_47 : FL RX11 47 11 5 RX11 TX11 18 tyX11 := ⟨rfl, inX11, by decide, w613, by decide, tyX11_ok, nmX11⟩
theorem flX11_54 : FL RX11 54 11 6 RX11 TX11 18 tyX11 := ⟨rfl, inX11, by decide, w614, by decide, tyX11_ok, nmX11⟩
theorem flX11_61 : FL RX11 61 11 7 RX11 TX11 18 tyX11 := ⟨rfl, inX11, by decide, w615, by decide, tyX11_ok, nmX11⟩
theorem flX11_68 : FL RX11 68 11 8 RX11 TX11 18 tyX11 := ⟨rfl, inX11, by decide, w616, by decide, tyX11_ok, nmX11⟩
theorem flX11_72 : FL RX11 72 11 9 RX11 TX11 18 tyX11 := ⟨rfl, inX11, by decide, w617, by decide, tyX11_ok, nmX11⟩
theorem flX11_76 : FL RX11 76 11 10 RX11 TX11 18 tyX11 := ⟨rfl, inX11, by decide, w618, by decide, tyX11_ok, nmX11⟩
theorem flX11_79 : FL RX11 79 11 11 RX11 TX11 18 tyX11 := ⟨rfl, inX11, by decide, w619, by decide, tyX11_ok, nmX11⟩
theorem flX11_82 : FL RX11 82 11 12 RX11 TX11 18 tyX11 := ⟨rfl, inX11, by decide, w620, by decide, tyX11_ok, nmX11⟩
theorem flX11_85 : FL RX11 85 11 13 RX11 TX11 18 tyX11 := ⟨rfl, inX11, by decide, w621, by decide, tyX11_ok, nmX11⟩
theorem flX11_88 : FL RX11 88 11 14 RX11 TX11 18 tyX11 := ⟨rfl, inX11, by decide, w622, by decide, tyX11_ok, nmX11⟩
theorem flX11_92 : FL RX11 92 11 15 RX11 TX11 18 tyX11 := ⟨rfl, inX11, by decide, w623, by decide, tyX11_ok, nmX11⟩
theorem flX11_95 : FL RX11 95 11 16 RX11 TX11 18 tyX11 := ⟨rfl, inX11, by decide, w624, by decide, tyX11_ok, nmX11⟩
theorem flX11_98 : FL RX11 98 11 17 RX11 TX11 18 tyX11 := ⟨rfl, inX11, by decide, w625, by decide, tyX11_ok, nmX11⟩
theorem flX12_102 : FL RX12 102 12 30 RX12 TX12 68 tyX12 := ⟨rfl, inX12, by decide, w1272, by decide, tyX12_ok, nmX12⟩
theorem flX12_106 : FL RX12 106 12 31 RX12 TX12 68 tyX12 := ⟨rfl, inX12, by decide, w1273, by decide, tyX12_ok, nmX12⟩
theorem flX12_109 : FL RX12 109 12 32 RX12 TX12 68 tyX12 := ⟨rfl, inX12, by decide, w1274, by decide, tyX12_ok, nmX12⟩
theorem flX12_112 : FL RX12 112 12 33 RX12 TX12 68 tyX12 := ⟨rfl, inX12, by decide, w1275, by decide, tyX12_ok, nmX12⟩
theorem flX12_115 : FL RX12 115 12 34 RX12 TX12 68 tyX12 := ⟨rfl, inX12, by decide, w1276, by decide, tyX12_ok, nmX12⟩
theorem flX12_118 : FL RX12 118 12 35 RX12 TX12 68 tyX12 := ⟨rfl, inX12, by decide, w1277, by decide, tyX12_ok, nmX12⟩
theorem flX12_122 : FL RX12 122 12 36 RX12 TX12 68 tyX12 := ⟨rfl, inX12, by decide, w1278, by decide, tyX12_ok, nmX12⟩
theorem flX12_125 : FL RX12 125 12 37 RX12 TX12 68 tyX12 := ⟨rfl, inX12, by decide, w1279, by decide, tyX12_ok, nmX12⟩
theorem flX12_128 : FL RX12 128 12 38 RX12 TX12 68 tyX12 := ⟨rfl, inX12, by decide, w1280, by decide, tyX12_ok, nmX12⟩
theorem flX12_13 : FL RX12 13 12 1 RX12 TX12 68 tyX12 := ⟨rfl, inX12, by decide, w1243, by decide, tyX12_ok, nmX12⟩
theorem flX12_132 : FL RX12 132 12 39 RX12 TX12 68 tyX12 := ⟨rfl, inX12, by decide, w1281, by decide, tyX12_ok, nmX12⟩
theorem flX12_135 : FL RX12 135 12 40 RX12 TX12 68 tyX12 := ⟨rfl, inX12, by decide, w1282, by decide, tyX12_ok, nmX12⟩
theorem flX12_138 : FL RX12 138 12 41 RX12 TX12 68 tyX12 := ⟨rfl, inX12, by decide, w1283, by decide, tyX12_ok, nmX12⟩
theorem flX12_141 : FL RX12 141 12 42 RX12 TX12 68 tyX12 := ⟨rfl, inX12, by decide, w1284, by decide, tyX12_ok, nmX12⟩
theorem flX12_144 : FL RX12 144 12 43 RX12 TX12 68 tyX12 := ⟨rfl, inX12, by decide, w1285, by decide, tyX12_ok, nmX12⟩
theorem flX12_147 : FL RX12 147 12 44 RX12 TX12 68 tyX12 := ⟨rfl, inX12, by decide, w1286, by decide, tyX12_ok, nmX12⟩
theorem flX12_150 : FL RX12 150 12 45 RX12 TX12 68 tyX12 := ⟨rfl, inX12, by decide, w1287, by decide, tyX12_ok, nmX12⟩
theorem flX12_153 : FL RX12 153 12 46 RX12 TX12 68 tyX12 := ⟨rfl, inX12, by decide, w1288, by decide, tyX12_ok, nmX12⟩
theorem flX12_156 : FL RX12 156 12 47 RX12 TX12 68 tyX12 := ⟨rfl, inX12, by decide, w1289, by decide, tyX12_ok, nmX12⟩
theorem flX12_159 : FL RX12 159 12 48 RX12 TX12 68 tyX12 := ⟨rfl, inX12, by decide, w1290, by decide, tyX12_ok, nmX12⟩
theorem flX12_162 : FL RX12 162 12 49 RX12 TX12 68 tyX12 := ⟨rfl, inX12, by decide, w1291, by decide, tyX12_ok, nmX12⟩
theorem flX12_165 : FL RX12 165 12 50 RX12 TX12 68 tyX12 := ⟨rfl, inX12, by decide, w1292, by decide, tyX12_ok, nmX12⟩
theorem flX12_168 : FL RX12 168 12 51 RX12 TX12 68 tyX12 := ⟨rfl, inX12, by decide, w1293, by decide, tyX12_ok, nmX12⟩
theorem flX12_17 : FL RX12 17 12 2 RX12 TX12 68 tyX12 := ⟨rfl, inX12, by decide, w1244, by decide, tyX12_ok, nmX12⟩
theorem flX12_171 : FL RX12 171 12 52 RX12 TX12 68 tyX12 := ⟨rfl, inX12, by decide, w1294, by decide, tyX12_ok, nmX12⟩
theorem flX12_174 : FL RX12 174 12 53 RX12 TX12 68 tyX12 := ⟨rfl, inX12, by decide, w1295, by decide, tyX12_ok, nmX12⟩
theorem flX12_177 : FL RX12 177 12 54 RX12 TX12 68 tyX12 := ⟨rfl, inX12, by decide, w1296, by decide, tyX12_ok, nmX12⟩
theorem flX12_180 : FL RX12 180 12 55 RX12 TX12 68 tyX12 := ⟨rfl, inX12, by decide, w1297, by decide, tyX12_ok, nmX12⟩
theorem flX12_183 : FL RX12 183 12 56 RX12 TX12 68 tyX12 := ⟨rfl, inX12, by decide, w1298, by decide, tyX12_ok, nmX12⟩
theorem flX12_186 : FL RX12 186 12 57 RX12 TX12 68 tyX12 := ⟨rfl, inX12, by decide, w1299, by decide, tyX12_ok, nmX12⟩
theorem flX12_189 : FL RX12 189 12 58 RX12 TX12 68 tyX12 := ⟨rfl, inX12, by decide, w1300, by decide, tyX12_ok, nmX12⟩
theorem flX12_192 : FL RX12 192 12 59 RX12 TX12 68 tyX12 := ⟨rfl, inX12, by decide, w1301, by decide, tyX12_ok, nmX12⟩
theorem flX12_195 : FL RX12 195 12 60 RX12 TX12 68 tyX12 := ⟨rfl, inX12, by decide, w1302, by decide, tyX12_ok, nmX12⟩
theorem flX12_198 : FL RX12 198 12 61 RX12 TX12 68 tyX12 := ⟨rfl, inX12, by decide, w1303, by decide, tyX12_ok, nmX12⟩
theorem flX12_20 : FL RX12 20 12 3 RX12 TX12 68 tyX12 := ⟨rfl, inX12, by decide, w1245, by decide, tyX12_ok, nmX12⟩
theorem flX12_201 : FL RX12 201 12 62 RX12 TX12 68 tyX12 := ⟨rfl, inX12, by decide, w1304, by decide, tyX12_ok, nmX12⟩
theorem flX12_204 : FL RX12 204 12 63 RX12 TX12 68 tyX12 := ⟨rfl, inX12, by decide, w1305, by decide, tyX12_ok, nmX12⟩
theorem flX12_207 : FL RX12 207 12 64 RX12 TX12 68 tyX12 := ⟨rfl, inX12, by decide, w1306, by decide, tyX12_ok, nmX12⟩
theorem flX12_210 : FL RX12 210 12 65 RX12 TX12 68 tyX12 := ⟨rfl, inX12, by decide, w1307, by decide, tyX12_ok, nmX12⟩
theorem flX12_213 : FL RX12 213 12 66 RX12 TX12 68 tyX12 := ⟨rfl, inX12, by decide, w1308, by decide, tyX12_ok, nmX12⟩
theorem flX12_216 : FL RX12 216 12 67 RX12 TX12 68 tyX12 := ⟨rfl, inX12, by decide, w1309, by decide, tyX12_ok, nmX12⟩
theorem flX12_23 : FL RX12 23 12 4 RX12 TX12 68 tyX12 := ⟨rfl, inX12, by decide, w1246, by decide, tyX12_ok, nmX12⟩
theorem flX12_26 : FL RX12 26 12 5 RX12 TX12 68 tyX12 := ⟨rfl, inX12, by decide, w1247, by decide, tyX12_ok, nmX12⟩
theorem flX12_29 : FL RX12 29 12 6 RX12 TX12 68 tyX12 := ⟨rfl, inX12, by decide, w1248, by decide, tyX12_ok, nmX12⟩
theorem flX12_32 : FL RX12 32 12 7 RX12 TX12 68 tyX12 := ⟨rfl, inX12, by decide, w1249, by decide, tyX12_ok, nmX12⟩
theorem flX12_36 : FL RX12 36 12 8 RX12 TX12 68 tyX12 := ⟨rfl, inX12, by decide, w1250, by decide, tyX12_ok, nmX12⟩
theorem flX12_39 : FL RX12 39 12 9 RX12 TX12 68 tyX12 := ⟨rfl, inX12, by decide, w1251, by decide, tyX12_ok, nmX12⟩
theorem flX12_42 : FL RX12 42 12 10 RX12 TX12 68 tyX12 := ⟨rfl, inX12, by decide, w1252, by decide, tyX12_ok, nmX12⟩
theorem flX12_45 : FL RX12 45 12 11 RX12 TX12 68 tyX12 := ⟨rfl, inX12, by decide, w1253, by decide, tyX12_ok, nmX12⟩
theorem flX12_48 : FL RX12 48 12 12 RX12 TX12 68 tyX12 := ⟨rfl, inX12, by decide, w1254, by decide, tyX12_ok, nmX12⟩
theorem flX12_51 : FL RX12 51 12 13 RX12 TX12 68 tyX12 := ⟨rfl, inX12, by decide, w1255, by decide, tyX12_ok, nmX12⟩
theorem flX12_54 : FL RX12 54 12 14 RX12 TX12 68 tyX12 := ⟨rfl, inX12, by decide, w1256, by decide, tyX12_ok, nmX12⟩
theorem flX12_57 : FL RX12 57 12 15 RX12 TX12 68 tyX12 := ⟨rfl, inX12, by decide, w1257, by decide, tyX12_ok, nmX12⟩
theorem flX12_60 : FL RX12 60 12 16 RX12 TX12 68 tyX12 := ⟨rfl, inX12, by decide, w1258, by decide, tyX12_ok, nmX12⟩
theorem flX12_63 : FL RX12 63 12 17 RX12 TX12 68 tyX12 := ⟨rfl, inX12, by decide, w1259, by decide, tyX12_ok, nmX12⟩
theorem flX12_66 : FL RX12 66 12 18 RX12 TX12 68 tyX12 := ⟨rfl, inX12, by decide, w1260, by decide, tyX12_ok, nmX12⟩
theorem flX12_69 : FL RX12 69 12 19 RX12 TX12 68 tyX12 := ⟨rfl, inX12, by decide, w1261, by decide, tyX12_ok, nmX12⟩
theorem flX12_7 : FL RX12 7 12 0 RX12 TX12 68 tyX12 := ⟨rfl, inX12, by decide, w1242, by decide, tyX12_ok, nmX12⟩
theorem flX12_72 : FL RX12 72 12 20 RX12 TX12 68 tyX12 := ⟨rfl, inX12, by decide, w1262, by decide, tyX12_ok, nmX12⟩
theorem flX12_75 : FL RX12 75 12 21 RX12 TX12 68 tyX12 := ⟨rfl, inX12, by decide, w1263, by decide, tyX12_ok, nmX12⟩
theorem flX12_78 : FL RX12 78 12 22 RX12 TX12 68 tyX12 := ⟨rfl, inX12, by decide, w1264, by decide, tyX12_ok, nmX12⟩
theorem flX12_81 : FL RX12 81 12 23 RX12 TX12 68 tyX12 := ⟨rfl, inX12, by decide, w1265, by decide, tyX12_ok, nmX12⟩
theorem flX12_84 : FL RX12 84 12 24 RX12 TX12 68 tyX12 := ⟨rfl, inX12, by decide, w1266, by decide, tyX12_ok, nmX12⟩
theorem flX12_87 : FL RX12 87 12 25 RX12 TX12 68 tyX12 := ⟨rfl, inX12, by decide, w1267, by decide, tyX12_ok, nmX12⟩
theorem flX12_90 : FL RX12 90 12 26 RX12 TX12 68 tyX12 := ⟨rfl, inX12, by decide, w1268, by decide, tyX12_ok, nmX12⟩
theorem flX12_93 : FL RX12 93 12 27 RX12 TX12 68 tyX12 := ⟨rfl, inX12, by decide, w1269, by decide, tyX12_ok, nmX12⟩
theorem flX12_96 : FL RX12 96 12 28 RX12 TX12 68 tyX12 := ⟨rfl, inX12, by decide, w1270, by decide, tyX12_ok, nmX12⟩
theorem flX12_99 : FL RX12 99 12 29 RX12 TX12 68 tyX12 := ⟨rfl, inX12, by decide, w1271, by decide, tyX12_ok, nmX12⟩
theorem flX1_15 : FL RX1 15 1 2 RX1 TX1 8 tyX1 := ⟨rfl, inX1, by decide, w420, by decide, tyX1_ok, nmX1⟩
theorem flX1_18 : FL RX1 18 1 3 RX1 TX1 8 tyX1 := ⟨rfl, inX1, by decide, w422, by decide, tyX1_ok, nmX1⟩
theorem flX1_21 : FL RX1 21 1 4 RX1 TX1 8 tyX1 := ⟨rfl, inX1, by decide, w424, by decide, tyX1_ok, nmX1⟩
theorem flX1_24 : FL RX1 24 1 5 RX1 TX1 8 tyX1 := ⟨rfl, inX1, by decide, w426, by decide, tyX1_ok, nmX1⟩
theorem flX1_28 : FL RX1 28 1 6 RX1 TX1 8 tyX1 := ⟨rfl, inX1, by decide, w427, by decide, tyX1_ok, nmX1⟩
theorem flX1_31 : FL RX1 31 1 7 RX1 TX1 8 tyX1 := ⟨rfl, inX1, by decide, w428, by decide, tyX1_ok, nmX1⟩
theorem flX1_34 : FL RX1 34 1 0 RX1 TX1 8 tyX1 := ⟨rfl, inX1, by decide, w416, by decide, tyX1_ok, nmX1⟩
theorem flX1_38 : FL RX1 38 9 17 RX9 TX9 19 tyX9 := ⟨rfl, inX9, by decide, w239, by decide, tyX9_ok, nmX9⟩
theorem flX1_58 : FL RX1 58 9 3 RX9 TX9 19 tyX9 := ⟨rfl, inX9, by decide, w197, by decide, tyX9_ok, nmX9⟩
theorem flX1_70 : FL RX1 70 9 18 RX9 TX9 19 tyX9 := ⟨rfl, inX9, by decide, w242, by decide, tyX9_ok, nmX9⟩
theorem flX1_73 : FL RX1 73 9 4 RX9 TX9 19 tyX9 := ⟨rfl, inX9, by decide, w200, by decide, tyX9_ok, nmX9⟩
theorem flX1_83 : FL RX1 83 0 1 RX0 TX0 2 tyX0 := ⟨rfl, inX0, by decide, w182, by decide, tyX0_ok, nmX0⟩
theorem flX1_86 : FL RX1 86 0 0 RX0 TX0 2 tyX0 := ⟨rfl, inX0, by decide, w179, by decide, tyX0_ok, nmX0⟩
theorem flX1_9 : FL RX1 9 1 1 RX1 TX1 8 tyX1 := ⟨rfl, inX1, by decide, w418, by decide, tyX1_ok, nmX1⟩
theorem flX2_13 : FL RX2 13 2 0 RX2 TX2 3 tyX2 := ⟨rfl, inX2, by decide, w492, by decide, tyX2_ok, nmX2⟩
theorem flX2_18 : FL RX2 18 2 1 RX2 TX2 3 tyX2 := ⟨rfl, inX2, by decide, w493, by decide, tyX2_ok, nmX2⟩
theorem flX2_22 : FL RX2 22 2 2 RX2 TX2 3 tyX2 := ⟨rfl, inX2, by decide, w494, by decide, tyX2_ok, nmX2⟩
theorem flX3_15 : FL RX3 15 3 0 RX3 TX3 3 tyX3 := ⟨rfl, inX3, by decide, w389, by decide, tyX3_ok, nmX3⟩
theorem flX3_19 : FL RX3 19 3 1 RX3 TX3 3 tyX3 := ⟨rfl, inX3, by decide, w390, by decide, tyX3_ok, nmX3⟩
theorem flX3_30 : FL RX3 30 8 2 RX8 TX8 9 tyX8 := ⟨rfl, inX8, by decide, w350, by decide, tyX8_ok, nmX8⟩
theorem flX3_40 : FL RX3 40 8 3 RX8 TX8 9 tyX8 := ⟨rfl, inX8, by decide, w353, by decide, tyX8_ok, nmX8⟩
theorem flX3_69 : FL RX3 69 8 5 RX8 TX8 9 tyX8 := ⟨rfl, inX8, by decide, w357, by decide, tyX8_ok, nmX8⟩
theorem flX3_9 : FL RX3 9 3 2 RX3 TX3 3 tyX3 := ⟨rfl, inX3, by decide, w391, by decide, tyX3_ok, nmX3⟩
theorem flX4_107 : FL RX4 107 9 18 RX9 TX9 19 tyX9 := ⟨rfl, inX9, by decide, w241, by decide, tyX9_ok, nmX9⟩
theorem flX4_14 : FL RX4 14 4 0 RX4 TX4 3 tyX4 := ⟨rfl, inX4, by decide, w399, by decide, tyX4_ok, nmX4⟩
theorem flX4_147 : FL RX4 147 9 7 RX9 TX9 19 tyX9 := ⟨rfl, inX9, by decide, w211, by decide, tyX9_ok, nmX9⟩
theorem flX4_151 : FL RX4 151 8 5 RX8 TX8 9 tyX8 := ⟨rfl, inX8, by decide, w356, by decide, tyX8_ok, nmX8⟩
theorem flX4_161 : FL RX4 161 9 16 RX9 TX9 19 tyX9 := ⟨rfl, inX9, by decide, w235, by decide, tyX9_ok, nmX9⟩
theorem flX4_22 : FL RX4 22 9 17 RX9 TX9 19 tyX9 := ⟨rfl, inX9, by decide, w237, by decide, tyX9_ok, nmX9⟩
theorem flX4_31 : FL RX4 31 4 1 RX4 TX4 3 tyX4 := ⟨rfl, inX4, by decide, w401, by decide, tyX4_ok, nmX4⟩
theorem flX4_35 : FL RX4 35 4 2 RX4 TX4 3 tyX4 := ⟨rfl, inX4, by decide, w402, by decide, tyX4_ok, nmX4⟩
theorem flX4_45 : FL RX4 45 8 2 RX8 TX8 9 tyX8 := ⟨rfl, inX8, by decide, w349, by decide, tyX8_ok, nmX8⟩
theorem flX4_57 : FL RX4 57 9 0 RX9 TX9 19 tyX9 := ⟨rfl, inX9, by decide, w189, by decide, tyX9_ok, nmX9⟩
theorem flX4_60 : FL RX4 60 8 3 RX8 TX8 9 tyX8 := ⟨rfl, inX8, by decide, w352, by decide, tyX8_ok, nmX8⟩
theorem flX4_67 : FL RX4 67 9 1 RX9 TX9 19 tyX9 := ⟨rfl, inX9, by decide, w192, by decide, tyX9_ok, nmX9⟩
theorem flX4_77 : FL RX4 77 9 5 RX9 TX9 19 tyX9 := ⟨rfl, inX9, by decide, w205, by decide, tyX9_ok, nmX9⟩
theorem flX4_83 : FL RX4 83 9 8 RX9 TX9 19 tyX9 := ⟨rfl, inX9, by decide, w214, by decide, tyX9_ok, nmX9⟩
theorem flX4_92 : FL RX4 92 9 12 RX9 TX9 19 tyX9 := ⟨rfl, inX9, by decide, w224, by decide, tyX9_ok, nmX9⟩
theorem flX5_15 : FL RX5 15 5 1 RX5 TX5 5 tyX5 := ⟨rfl, inX5, by decide, w525, by decide, tyX5_ok, nmX5⟩
theorem flX5_19 : FL RX5 19 5 2 RX5 TX5 5 tyX5 := ⟨rfl, inX5, by decide, w526, by decide, tyX5_ok, nmX5⟩
theorem flX5_22 : FL RX5 22 5 3 RX5 TX5 5 tyX5 := ⟨rfl, inX5, by decide, w527, by decide, tyX5_ok, nmX5⟩
theorem flX5_27 : FL RX5 27 5 4 RX5 TX5 5 tyX5 := ⟨rfl, inX5, by decide, w528, by decide, tyX5_ok, nmX5⟩
theorem flX5_30 : FL RX5 30 7 1 RX7 TX7 2 tyX7 := ⟨rfl, inX7, by decide, w156, by decide, tyX7_ok, nmX7⟩
theorem flX5_9 : FL RX5 9 5 0 RX5 TX5 5 tyX5 := ⟨rfl, inX5, by decide, w523, by decide, tyX5_ok, nmX5⟩
theorem flX6_104 : FL RX6 104 7 1 RX7 TX7 2 tyX7 := ⟨rfl, inX7, by decide, w159, by decide, tyX7_ok, nmX7⟩
theorem flX6_120 : FL RX6 120 7 0 RX7 TX7 2 tyX7 := ⟨rfl, inX7, by decide, w154, by decide, tyX7_ok, nmX7⟩
theorem flX6_15 : FL RX6 15 6 2 RX6 TX6 8 tyX6 := ⟨rfl, inX6, by decide, w455, by decide, tyX6_ok, nmX6⟩
theorem flX6_19 : FL RX6 19 6 3 RX6 TX6 8 tyX6 := ⟨rfl, inX6, by decide, w457, by decide, tyX6_ok, nmX6⟩
theorem flX6_22 : FL RX6 22 6 4 RX6 TX6 8 tyX6 := ⟨rfl, inX6, by decide, w459, by decide, tyX6_ok, nmX6⟩
theorem flX6_25 : FL RX6 25 6 5 RX6 TX6 8 tyX6 := ⟨rfl, inX6, by decide, w461, by decide, tyX6_ok, nmX6⟩
theorem flX6_28 : FL RX6 28 6 6 RX6 TX6 8 tyX6 := ⟨rfl, inX6, by decide, w463, by decide, tyX6_ok, nmX6⟩
theorem flX6_31 : FL RX6 31 6 7 RX6 TX6 8 tyX6 := ⟨rfl, inX6, by decide, w465, by decide, tyX6_ok, nmX6⟩
theorem flX6_34 : FL RX6 34 6 0 RX6 TX6 8 tyX6 := ⟨rfl, inX6, by decide, w452, by decide, tyX6_ok, nmX6⟩
theorem flX6_38 : FL RX6 38 9 5 RX9 TX9 19 tyX9 := ⟨rfl, inX9, by decide, w203, by decide, tyX9_ok, nmX9⟩
theorem flX6_43 : FL RX6 43 9 7 RX9 TX9 19 tyX9 := ⟨rfl, inX9, by decide, w210, by decide, tyX9_ok, nmX9⟩
theorem flX6_50 : FL RX6 50 9 12 RX9 TX9 19 tyX9 := ⟨rfl, inX9, by decide, w223, by decide, tyX9_ok, nmX9⟩
theorem flX6_62 : FL RX6 62 1 2 RX1 TX1 8 tyX1 := ⟨rfl, inX1, by decide, w421, by decide, tyX1_ok, nmX1⟩
theorem flX6_65 : FL RX6 65 1 3 RX1 TX1 8 tyX1 := ⟨rfl, inX1, by decide, w423, by decide, tyX1_ok, nmX1⟩
theorem flX6_81 : FL RX6 81 9 14 RX9 TX9 19 tyX9 := ⟨rfl, inX9, by decide, w229, by decide, tyX9_ok, nmX9⟩
theorem flX6_88 : FL RX6 88 9 15 RX9 TX9 19 tyX9 := ⟨rfl, inX9, by decide, w232, by decide, tyX9_ok, nmX9⟩
theorem flX6_9 : FL RX6 9 6 1 RX6 TX6 8 tyX6 := ⟨rfl, inX6, by decide, w453, by decide, tyX6_ok, nmX6⟩
theorem flX7_15 : FL RX7 15 7 1 RX7 TX7 2 tyX7 := ⟨rfl, inX7, by decide, w155, by decide, tyX7_ok, nmX7⟩
theorem flX7_9 : FL RX7 9 7 0 RX7 TX7 2 tyX7 := ⟨rfl, inX7, by decide, w153, by decide, tyX7_ok, nmX7⟩
theorem flX8_11 : FL RX8 11 8 1 RX8 TX8 9 tyX8 := ⟨rfl, inX8, by decide, w347, by decide, tyX8_ok, nmX8⟩
theorem flX8_15 : FL RX8 15 8 2 RX8 TX8 9 tyX8 := ⟨rfl, inX8, by decide, w348, by decide, tyX8_ok, nmX8⟩
theorem flX8_19 : FL RX8 19 8 3 RX8 TX8 9 tyX8 := ⟨rfl, inX8, by decide, w351, by decide, tyX8_ok, nmX8⟩
theorem flX8_22 : FL RX8 22 8 4 RX8 TX8 9 tyX8 := ⟨rfl, inX8, by decide, w354, by decide, tyX8_ok, nmX8⟩
theorem flX8_25 : FL RX8 25 8 5 RX8 TX8 9 tyX8 := ⟨rfl, inX8, by decide, w355, by decide, tyX8_ok, nmX8⟩
theorem flX8_28 : FL RX8 28 8 6 RX8 TX8 9 tyX8 := ⟨rfl, inX8, by decide, w358, by decide, tyX8_ok, nmX8⟩
theorem flX8_31 : FL RX8 31 8 7 RX8 TX8 9 tyX8 := ⟨rfl, inX8, by decide, w359, by decide, tyX8_ok, nmX8⟩
theorem flX8_34 : FL RX8 34 8 8 RX8 TX8 9 tyX8 := ⟨rfl, inX8, by decide, w361, by decide, tyX8_ok, nmX8⟩
theorem flX8_37 : FL RX8 37 8 0 RX8 TX8 9 tyX8 := ⟨rfl, inX8, by decide, w346, by decide, tyX8_ok, nmX8⟩
theorem flX8_93 : FL RX8 93 7 1 RX7 TX7 2 tyX7 := ⟨rfl, inX7, by decide, w158, by decide, tyX7_ok, nmX7⟩
theorem flX9_15 : FL RX9 15 9 1 RX9 TX9 19 tyX9 := ⟨rfl, inX9, by decide, w191, by decide, tyX9_ok, nmX9⟩
theorem flX9_18 : FL RX9 18 9 2 RX9 TX9 19 tyX9 := ⟨rfl, inX9, by decide, w194, by decide, tyX9_ok, nmX9⟩
theorem flX9_22 : FL RX9 22 9 3 RX9 TX9 19 tyX9 := ⟨rfl, inX9, by decide, w196, by decide, tyX9_ok, nmX9⟩
theorem flX9_25 : FL RX9 25 9 4 RX9 TX9 19 tyX9 := ⟨rfl, inX9, by decide, w199, by decide, tyX9_ok, nmX9⟩
theorem flX9_28 : FL RX9 28 9 5 RX9 TX9 19 tyX9 := ⟨rfl, inX9, by decide, w202, by decide, tyX9_ok, nmX9⟩
theorem flX9_31 : FL RX9 31 9 6 RX9 TX9 19 tyX9 := ⟨rfl, inX9, by decide, w207, by decide, tyX9_ok, nmX9⟩
theorem flX9_34 : FL RX9 34 9 7 RX9 TX9 19 tyX9 := ⟨rfl, inX9, by decide, w209, by decide, tyX9_ok, nmX9⟩
theorem flX9_37 : FL RX9 37 9 8 RX9 TX9 19 tyX9 := ⟨rfl, inX9, by decide, w212, by decide, tyX9_ok, nmX9⟩
theorem flX9_40 : FL RX9 40 9 9 RX9 TX9 19 tyX9 := ⟨rfl, inX9, by decide, w216, by decide, tyX9_ok, nmX9⟩
theorem flX9_43 : FL RX9 43 9 10 RX9 TX9 19 tyX9 := ⟨rfl, inX9, by decide, w218, by decide, tyX9_ok, nmX9⟩
theorem flX9_46 : FL RX9 46 9 11 RX9 TX9 19 tyX9 := ⟨rfl, inX9, by decide, w220, by decide, tyX9_ok, nmX9⟩
theorem flX9_49 : FL RX9 49 9 12 RX9 TX9 19 tyX9 := ⟨rfl, inX9, by decide, w222, by decide, tyX9_ok, nmX9⟩
theorem flX9_52 : FL RX9 52 9 13 RX9 TX9 19 tyX9 := ⟨rfl, inX9, by decide, w226, by decide, tyX9_ok, nmX9⟩
theorem flX9_55 : FL RX9 55 9 14 RX9 TX9 19 tyX9 := ⟨rfl, inX9, by decide, w228, by decide, tyX9_ok, nmX9⟩
theorem flX9_58 : FL RX9 58 9 15 RX9 TX9 19 tyX9 := ⟨rfl, inX9, by decide, w231, by decide, tyX9_ok, nmX9⟩
theorem flX9_61 : FL RX9 61 9 16 RX9 TX9 19 tyX9 := ⟨rfl, inX9, by decide, w234, by decide, tyX9_ok, nmX9⟩
theorem flX9_67 : FL RX9 67 9 17 RX9 TX9 19 tyX9 := ⟨rfl, inX9, by decide, w238, by decide, tyX9_ok, nmX9⟩
theorem flX9_71 : FL RX9 71 9 18 RX9 TX9 19 tyX9 := ⟨rfl, inX9, by decide, w240, by decide, tyX9_ok, nmX9⟩
theorem flX9_74 : FL RX9 74 0 1 RX0 TX0 2 tyX0 := ⟨rfl, inX0, by decide, w181, by decide, tyX0_ok, nmX0⟩
theorem flX9_9 : FL RX9 9 9 0 RX9 TX9 19 tyX9 := ⟨rfl, inX9, by decide, w188, by decide, tyX9_ok, nmX9⟩
theorem wm595 : Cond.code Lib.Math.max.name Lib.Math.max.code 2 (some .int) ∈ lw_g := mem_g (List.mem_of_getElem? (i := 595) (by decide +kernel)) (by decide +kernel)
theorem wm603 : Cond.code Lib.MathLoose.max_long.x Lib.MathLoose.max_long.code 4 (some .long) ∈ lw_g := mem_g (List.mem_of_getElem? (i := 603) (by decide +kernel)) (by decide +kernel)
theorem wm592 : Cond.code Lib.Math.min.name Lib.Math.min.code 2 (some .int) ∈ lw_g := mem_g (List.mem_of_getElem? (i := 592) (by decide +kernel)) (by decide +kernel)
theorem wm600 : Cond.code Lib.MathLoose.min_long.x Lib.MathLoose.min_long.code 4 (some .long) ∈ lw_g := mem_g (List.mem_of_getElem? (i := 600) (by decide +kernel)) (by decide +kernel)
