def hwd : List Cond := lw_tbl.filter goodWord
theorem hmem {w : Cond} (i : Nat) (h : lw_tbl[i]? = some w) (g : goodWord w = true) : w ∈ hwd := List.mem_filter.mpr ⟨List.mem_of_getElem? h, g⟩
theorem hwd_good : GoodIn hwd hwd := fun w h => ⟨h, good_of_word (List.mem_filter.mp h).2⟩
theorem hmems {ws : List Cond} (ps : List Nat) (hp : ws = ps.filterMap (fun i => lw_tbl[i]?)) (h : ws.all goodWord = true) : ∀ w ∈ ws, w ∈ hwd := by
  intro w hw
  have h1 := List.all_eq_true.mp h w hw
  rw [hp] at hw
  obtain ⟨i, -, hi⟩ := List.mem_filterMap.mp hw
  exact hmem i hi h1
def hFl (own : String) (idx ci j : Nat) (fin : Bool) (ty : FieldType) : Prop := ∃ (C : String) (T : u_T) (N : Nat), vwCl[ci]? = some (C, T, N) ∧ j < N ∧ Cond.fieldLink own idx (T j).1 (T j).2.1 (T j).2.2.1 ∈ hwd ∧ (T j).2.2.2 = fin ∧ parseFieldDescriptor (T j).2.2.1 = some ty
def hMd (y : MethodName) (n : Nat) : Prop := y.cls ≠ "java/lang/invoke/MethodHandle" ∧ y.cls ≠ "java/lang/invoke/VarHandle" ∧ (parseMethodDescriptor y.desc).map (fun d => d.parameters.length) = some n
def hMv (y : MethodName) (cc : ByteArray) (nL : Nat) (ret : Option FieldType) (n : Nat) : Prop := (Cond.instanceMethod y ∈ hwd ∧ Cond.selects y.cls y y ∈ hwd ∧ Cond.initialized y.cls ∈ hwd ∧ Cond.code y cc nL ret ∈ hwd) ∧ hMd y n
def hMs (y : MethodName) (cc : ByteArray) (nL : Nat) (ret : Option FieldType) (n : Nat) : Prop := (Cond.static y ∈ hwd ∧ Cond.initialized y.cls ∈ hwd ∧ Cond.code y cc nL ret ∈ hwd) ∧ hMd y n
def hMi (y : MethodName) (cc : ByteArray) (nL : Nat) (n : Nat) : Prop := (Cond.instanceMethod y ∈ hwd ∧ Cond.initialized y.cls ∈ hwd ∧ Cond.code y cc nL none ∈ hwd ∧ y.name = "<init>") ∧ hMd y n
theorem hin_X0 : ∀ w ∈ u_ws RX0 TX0 6, w ∈ hwd := hmems [356, 358, 360, 362, 364, 366] (by decide +kernel) (by decide +kernel)
theorem hin_X1 : ∀ w ∈ u_ws RX1 TX1 6, w ∈ hwd := hmems [405, 407, 409, 411, 413, 415] (by decide +kernel) (by decide +kernel)
theorem hin_X2 : ∀ w ∈ u_ws RX2 TX2 6, w ∈ hwd := hmems [328, 330, 332, 334, 336, 338] (by decide +kernel) (by decide +kernel)
theorem hin_X3 : ∀ w ∈ u_ws RX3 TX3 3, w ∈ hwd := hmems [379, 381, 383] (by decide +kernel) (by decide +kernel)
theorem hin_X4 : ∀ w ∈ u_ws RX4 TX4 8, w ∈ hwd := hmems [197, 199, 201, 203, 205, 207, 209, 211] (by decide +kernel) (by decide +kernel)
theorem hin_X5 : ∀ w ∈ u_ws RX5 TX5 5, w ∈ hwd := hmems [300, 302, 304, 306, 308] (by decide +kernel) (by decide +kernel)
theorem hin_X6 : ∀ w ∈ u_ws RX6 TX6 8, w ∈ hwd := hmems [271, 273, 275, 277, 279, 281, 283, 285] (by decide +kernel) (by decide +kernel)
theorem hin_X7 : ∀ w ∈ u_ws RX7 TX7 2, w ∈ hwd := hmems [146, 148] (by decide +kernel) (by decide +kernel)
theorem hin_X8 : ∀ w ∈ u_ws RX8 TX8 7, w ∈ hwd := hmems [229, 231, 233, 235, 237, 239, 241] (by decide +kernel) (by decide +kernel)
theorem hin_X9 : ∀ w ∈ u_ws RX9 TX9 7, w ∈ hwd := hmems [165, 167, 169, 171, 173, 175, 177] (by decide +kernel) (by decide +kernel)
theorem hin_X10 : ∀ w ∈ u_ws RX10 TX10 13, w ∈ hwd := hmems [486, 488, 490, 492, 494, 496, 498, 500, 502, 504, 506, 508, 510] (by decide +kernel) (by decide +kernel)
theorem hin_X11 : ∀ w ∈ u_ws RX11 TX11 12, w ∈ hwd := hmems [529, 531, 533, 535, 537, 539, 541, 543, 545, 547, 549, 551] (by decide +kernel) (by decide +kernel)
theorem hin_X12 : ∀ w ∈ u_ws RX12 TX12 66, w ∈ hwd := hmems [1391, 1393, 1395, 1397, 1399, 1401, 1403, 1405, 1407, 1409, 1411, 1413, 1415, 1417, 1419, 1421, 1423, 1425, 1427, 1429, 1431, 1433, 1435, 1437, 1439, 1441, 1443, 1445, 1447, 1449, 1451, 1453, 1455, 1457, 1459, 1461, 1463, 1465, 1467, 1469, 1471, 1473, 1475, 1477, 1479, 1481, 1483, 1485, 1487, 1489, 1491, 1493, 1495, 1497, 1499, 1501, 1503, 1505, 1507, 1509, 1511, 1513, 1515, 1517, 1519, 1521] (by decide +kernel) (by decide +kernel)
theorem fl_X11_10 : hFl RX11 10 11 0 true (tyX11 0) := ⟨RX11, TX11, 12, rfl, by decide, hmem 517 (by decide +kernel) rfl, rfl, tyX11_ok 0 (by decide)⟩
theorem fl_X11_21 : hFl RX11 21 11 1 true (tyX11 1) := ⟨RX11, TX11, 12, rfl, by decide, hmem 518 (by decide +kernel) rfl, rfl, tyX11_ok 1 (by decide)⟩
theorem fl_X11_30 : hFl RX11 30 11 2 true (tyX11 2) := ⟨RX11, TX11, 12, rfl, by decide, hmem 519 (by decide +kernel) rfl, rfl, tyX11_ok 2 (by decide)⟩
theorem fl_X11_37 : hFl RX11 37 11 3 true (tyX11 3) := ⟨RX11, TX11, 12, rfl, by decide, hmem 520 (by decide +kernel) rfl, rfl, tyX11_ok 3 (by decide)⟩
theorem fl_X11_44 : hFl RX11 44 11 4 true (tyX11 4) := ⟨RX11, TX11, 12, rfl, by decide, hmem 521 (by decide +kernel) rfl, rfl, tyX11_ok 4 (by decide)⟩
theorem fl_X11_51 : hFl RX11 51 11 5 true (tyX11 5) := ⟨RX11, TX11, 12, rfl, by decide, hmem 522 (by decide +kernel) rfl, rfl, tyX11_ok 5 (by decide)⟩
theorem fl_X11_58 : hFl RX11 58 11 6 true (tyX11 6) := ⟨RX11, TX11, 12, rfl, by decide, hmem 523 (by decide +kernel) rfl, rfl, tyX11_ok 6 (by decide)⟩
theorem fl_X11_67 : hFl RX11 67 11 7 true (tyX11 7) := ⟨RX11, TX11, 12, rfl, by decide, hmem 524 (by decide +kernel) rfl, rfl, tyX11_ok 7 (by decide)⟩
theorem fl_X11_74 : hFl RX11 74 11 8 true (tyX11 8) := ⟨RX11, TX11, 12, rfl, by decide, hmem 525 (by decide +kernel) rfl, rfl, tyX11_ok 8 (by decide)⟩
theorem fl_X11_81 : hFl RX11 81 11 9 false (tyX11 9) := ⟨RX11, TX11, 12, rfl, by decide, hmem 526 (by decide +kernel) rfl, rfl, tyX11_ok 9 (by decide)⟩
theorem fl_X11_85 : hFl RX11 85 11 10 false (tyX11 10) := ⟨RX11, TX11, 12, rfl, by decide, hmem 527 (by decide +kernel) rfl, rfl, tyX11_ok 10 (by decide)⟩
theorem fl_X11_88 : hFl RX11 88 11 11 false (tyX11 11) := ⟨RX11, TX11, 12, rfl, by decide, hmem 528 (by decide +kernel) rfl, rfl, tyX11_ok 11 (by decide)⟩
theorem fl_X11_104 : hFl RX11 104 7 1 false (tyX7 1) := ⟨RX7, TX7, 2, rfl, by decide, hmem 144 (by decide +kernel) rfl, rfl, tyX7_ok 1 (by decide)⟩
theorem fl_X11_113 : hFl RX11 113 10 6 true (tyX10 6) := ⟨RX10, TX10, 13, rfl, by decide, hmem 462 (by decide +kernel) rfl, rfl, tyX10_ok 6 (by decide)⟩
theorem fl_X11_121 : hFl RX11 121 4 7 false (tyX4 7) := ⟨RX4, TX4, 8, rfl, by decide, hmem 196 (by decide +kernel) rfl, rfl, tyX4_ok 7 (by decide)⟩
theorem fl_X11_124 : hFl RX11 124 4 2 false (tyX4 2) := ⟨RX4, TX4, 8, rfl, by decide, hmem 190 (by decide +kernel) rfl, rfl, tyX4_ok 2 (by decide)⟩
theorem fl_X11_130 : hFl RX11 130 8 5 false (tyX8 5) := ⟨RX8, TX8, 7, rfl, by decide, hmem 226 (by decide +kernel) rfl, rfl, tyX8_ok 5 (by decide)⟩
theorem fl_X11_131 : hFl RX11 131 8 6 false (tyX8 6) := ⟨RX8, TX8, 7, rfl, by decide, hmem 228 (by decide +kernel) rfl, rfl, tyX8_ok 6 (by decide)⟩
theorem fl_X11_144 : hFl RX11 144 6 0 true (tyX6 0) := ⟨RX6, TX6, 8, rfl, by decide, hmem 252 (by decide +kernel) rfl, rfl, tyX6_ok 0 (by decide)⟩
theorem fl_X11_148 : hFl RX11 148 6 1 true (tyX6 1) := ⟨RX6, TX6, 8, rfl, by decide, hmem 254 (by decide +kernel) rfl, rfl, tyX6_ok 1 (by decide)⟩
theorem fl_X11_151 : hFl RX11 151 10 2 true (tyX10 2) := ⟨RX10, TX10, 13, rfl, by decide, hmem 445 (by decide +kernel) rfl, rfl, tyX10_ok 2 (by decide)⟩
theorem fl_X11_154 : hFl RX11 154 10 3 true (tyX10 3) := ⟨RX10, TX10, 13, rfl, by decide, hmem 450 (by decide +kernel) rfl, rfl, tyX10_ok 3 (by decide)⟩
theorem fl_X11_157 : hFl RX11 157 6 2 true (tyX6 2) := ⟨RX6, TX6, 8, rfl, by decide, hmem 257 (by decide +kernel) rfl, rfl, tyX6_ok 2 (by decide)⟩
theorem fl_X11_160 : hFl RX11 160 6 3 true (tyX6 3) := ⟨RX6, TX6, 8, rfl, by decide, hmem 261 (by decide +kernel) rfl, rfl, tyX6_ok 3 (by decide)⟩
theorem fl_X11_163 : hFl RX11 163 6 4 true (tyX6 4) := ⟨RX6, TX6, 8, rfl, by decide, hmem 264 (by decide +kernel) rfl, rfl, tyX6_ok 4 (by decide)⟩
theorem fl_X11_177 : hFl RX11 177 10 4 true (tyX10 4) := ⟨RX10, TX10, 13, rfl, by decide, hmem 455 (by decide +kernel) rfl, rfl, tyX10_ok 4 (by decide)⟩
theorem fl_X11_211 : hFl RX11 211 6 7 false (tyX6 7) := ⟨RX6, TX6, 8, rfl, by decide, hmem 270 (by decide +kernel) rfl, rfl, tyX6_ok 7 (by decide)⟩
theorem fl_X11_220 : hFl RX11 220 10 12 false (tyX10 12) := ⟨RX10, TX10, 13, rfl, by decide, hmem 484 (by decide +kernel) rfl, rfl, tyX10_ok 12 (by decide)⟩
theorem fl_X11_227 : hFl RX11 227 6 6 false (tyX6 6) := ⟨RX6, TX6, 8, rfl, by decide, hmem 268 (by decide +kernel) rfl, rfl, tyX6_ok 6 (by decide)⟩
theorem fl_X11_241 : hFl RX11 241 10 7 false (tyX10 7) := ⟨RX10, TX10, 13, rfl, by decide, hmem 469 (by decide +kernel) rfl, rfl, tyX10_ok 7 (by decide)⟩
theorem fl_X11_267 : hFl RX11 267 0 2 true (tyX0 2) := ⟨RX0, TX0, 6, rfl, by decide, hmem 351 (by decide +kernel) rfl, rfl, tyX0_ok 2 (by decide)⟩
theorem fl_X11_279 : hFl RX11 279 0 1 true (tyX0 1) := ⟨RX0, TX0, 6, rfl, by decide, hmem 349 (by decide +kernel) rfl, rfl, tyX0_ok 1 (by decide)⟩
theorem fl_X11_291 : hFl RX11 291 10 9 false (tyX10 9) := ⟨RX10, TX10, 13, rfl, by decide, hmem 475 (by decide +kernel) rfl, rfl, tyX10_ok 9 (by decide)⟩
theorem fl_X11_294 : hFl RX11 294 10 5 true (tyX10 5) := ⟨RX10, TX10, 13, rfl, by decide, hmem 459 (by decide +kernel) rfl, rfl, tyX10_ok 5 (by decide)⟩
theorem fl_X11_301 : hFl RX11 301 0 5 false (tyX0 5) := ⟨RX0, TX0, 6, rfl, by decide, hmem 355 (by decide +kernel) rfl, rfl, tyX0_ok 5 (by decide)⟩
theorem fl_X11_310 : hFl RX11 310 2 4 false (tyX2 4) := ⟨RX2, TX2, 6, rfl, by decide, hmem 325 (by decide +kernel) rfl, rfl, tyX2_ok 4 (by decide)⟩
theorem fl_X11_313 : hFl RX11 313 2 5 false (tyX2 5) := ⟨RX2, TX2, 6, rfl, by decide, hmem 327 (by decide +kernel) rfl, rfl, tyX2_ok 5 (by decide)⟩
theorem fl_X11_341 : hFl RX11 341 3 2 false (tyX3 2) := ⟨RX3, TX3, 3, rfl, by decide, hmem 378 (by decide +kernel) rfl, rfl, tyX3_ok 2 (by decide)⟩
theorem fl_X11_361 : hFl RX11 361 10 8 false (tyX10 8) := ⟨RX10, TX10, 13, rfl, by decide, hmem 472 (by decide +kernel) rfl, rfl, tyX10_ok 8 (by decide)⟩
theorem fl_X11_367 : hFl RX11 367 5 4 false (tyX5 4) := ⟨RX5, TX5, 5, rfl, by decide, hmem 299 (by decide +kernel) rfl, rfl, tyX5_ok 4 (by decide)⟩
theorem fl_X0_9 : hFl RX0 9 0 1 true (tyX0 1) := ⟨RX0, TX0, 6, rfl, by decide, hmem 348 (by decide +kernel) rfl, rfl, tyX0_ok 1 (by decide)⟩
theorem fl_X0_15 : hFl RX0 15 0 2 true (tyX0 2) := ⟨RX0, TX0, 6, rfl, by decide, hmem 350 (by decide +kernel) rfl, rfl, tyX0_ok 2 (by decide)⟩
theorem fl_X0_18 : hFl RX0 18 0 3 true (tyX0 3) := ⟨RX0, TX0, 6, rfl, by decide, hmem 352 (by decide +kernel) rfl, rfl, tyX0_ok 3 (by decide)⟩
theorem fl_X0_21 : hFl RX0 21 0 0 true (tyX0 0) := ⟨RX0, TX0, 6, rfl, by decide, hmem 347 (by decide +kernel) rfl, rfl, tyX0_ok 0 (by decide)⟩
theorem fl_X0_25 : hFl RX0 25 10 7 false (tyX10 7) := ⟨RX10, TX10, 13, rfl, by decide, hmem 465 (by decide +kernel) rfl, rfl, tyX10_ok 7 (by decide)⟩
theorem fl_X0_31 : hFl RX0 31 0 4 false (tyX0 4) := ⟨RX0, TX0, 6, rfl, by decide, hmem 353 (by decide +kernel) rfl, rfl, tyX0_ok 4 (by decide)⟩
theorem fl_X0_32 : hFl RX0 32 0 5 false (tyX0 5) := ⟨RX0, TX0, 6, rfl, by decide, hmem 354 (by decide +kernel) rfl, rfl, tyX0_ok 5 (by decide)⟩
theorem fl_X0_47 : hFl RX0 47 6 4 true (tyX6 4) := ⟨RX6, TX6, 8, rfl, by decide, hmem 263 (by decide +kernel) rfl, rfl, tyX6_ok 4 (by decide)⟩
theorem fl_X1_11 : hFl RX1 11 1 0 true (tyX1 0) := ⟨RX1, TX1, 6, rfl, by decide, hmem 398 (by decide +kernel) rfl, rfl, tyX1_ok 0 (by decide)⟩
theorem fl_X1_15 : hFl RX1 15 1 1 true (tyX1 1) := ⟨RX1, TX1, 6, rfl, by decide, hmem 399 (by decide +kernel) rfl, rfl, tyX1_ok 1 (by decide)⟩
theorem fl_X1_18 : hFl RX1 18 1 2 true (tyX1 2) := ⟨RX1, TX1, 6, rfl, by decide, hmem 400 (by decide +kernel) rfl, rfl, tyX1_ok 2 (by decide)⟩
theorem fl_X1_21 : hFl RX1 21 1 3 true (tyX1 3) := ⟨RX1, TX1, 6, rfl, by decide, hmem 401 (by decide +kernel) rfl, rfl, tyX1_ok 3 (by decide)⟩
theorem fl_X1_24 : hFl RX1 24 1 4 true (tyX1 4) := ⟨RX1, TX1, 6, rfl, by decide, hmem 402 (by decide +kernel) rfl, rfl, tyX1_ok 4 (by decide)⟩
theorem fl_X1_27 : hFl RX1 27 1 5 false (tyX1 5) := ⟨RX1, TX1, 6, rfl, by decide, hmem 404 (by decide +kernel) rfl, rfl, tyX1_ok 5 (by decide)⟩
theorem fl_X2_12 : hFl RX2 12 2 0 true (tyX2 0) := ⟨RX2, TX2, 6, rfl, by decide, hmem 320 (by decide +kernel) rfl, rfl, tyX2_ok 0 (by decide)⟩
theorem fl_X2_18 : hFl RX2 18 2 1 true (tyX2 1) := ⟨RX2, TX2, 6, rfl, by decide, hmem 321 (by decide +kernel) rfl, rfl, tyX2_ok 1 (by decide)⟩
theorem fl_X2_22 : hFl RX2 22 2 2 true (tyX2 2) := ⟨RX2, TX2, 6, rfl, by decide, hmem 322 (by decide +kernel) rfl, rfl, tyX2_ok 2 (by decide)⟩
theorem fl_X2_25 : hFl RX2 25 2 3 true (tyX2 3) := ⟨RX2, TX2, 6, rfl, by decide, hmem 323 (by decide +kernel) rfl, rfl, tyX2_ok 3 (by decide)⟩
theorem fl_X2_47 : hFl RX2 47 6 3 true (tyX6 3) := ⟨RX6, TX6, 8, rfl, by decide, hmem 260 (by decide +kernel) rfl, rfl, tyX6_ok 3 (by decide)⟩
theorem fl_X2_54 : hFl RX2 54 10 6 true (tyX10 6) := ⟨RX10, TX10, 13, rfl, by decide, hmem 461 (by decide +kernel) rfl, rfl, tyX10_ok 6 (by decide)⟩
theorem fl_X2_68 : hFl RX2 68 6 0 true (tyX6 0) := ⟨RX6, TX6, 8, rfl, by decide, hmem 251 (by decide +kernel) rfl, rfl, tyX6_ok 0 (by decide)⟩
theorem fl_X2_78 : hFl RX2 78 1 4 true (tyX1 4) := ⟨RX1, TX1, 6, rfl, by decide, hmem 403 (by decide +kernel) rfl, rfl, tyX1_ok 4 (by decide)⟩
theorem fl_X2_81 : hFl RX2 81 6 6 false (tyX6 6) := ⟨RX6, TX6, 8, rfl, by decide, hmem 267 (by decide +kernel) rfl, rfl, tyX6_ok 6 (by decide)⟩
theorem fl_X2_85 : hFl RX2 85 10 2 true (tyX10 2) := ⟨RX10, TX10, 13, rfl, by decide, hmem 447 (by decide +kernel) rfl, rfl, tyX10_ok 2 (by decide)⟩
theorem fl_X2_88 : hFl RX2 88 6 1 true (tyX6 1) := ⟨RX6, TX6, 8, rfl, by decide, hmem 255 (by decide +kernel) rfl, rfl, tyX6_ok 1 (by decide)⟩
theorem fl_X2_91 : hFl RX2 91 10 3 true (tyX10 3) := ⟨RX10, TX10, 13, rfl, by decide, hmem 452 (by decide +kernel) rfl, rfl, tyX10_ok 3 (by decide)⟩
theorem fl_X2_94 : hFl RX2 94 6 2 true (tyX6 2) := ⟨RX6, TX6, 8, rfl, by decide, hmem 258 (by decide +kernel) rfl, rfl, tyX6_ok 2 (by decide)⟩
theorem fl_X2_100 : hFl RX2 100 10 11 false (tyX10 11) := ⟨RX10, TX10, 13, rfl, by decide, hmem 481 (by decide +kernel) rfl, rfl, tyX10_ok 11 (by decide)⟩
theorem fl_X2_115 : hFl RX2 115 10 7 false (tyX10 7) := ⟨RX10, TX10, 13, rfl, by decide, hmem 468 (by decide +kernel) rfl, rfl, tyX10_ok 7 (by decide)⟩
theorem fl_X2_139 : hFl RX2 139 2 5 false (tyX2 5) := ⟨RX2, TX2, 6, rfl, by decide, hmem 326 (by decide +kernel) rfl, rfl, tyX2_ok 5 (by decide)⟩
theorem fl_X2_142 : hFl RX2 142 10 12 false (tyX10 12) := ⟨RX10, TX10, 13, rfl, by decide, hmem 485 (by decide +kernel) rfl, rfl, tyX10_ok 12 (by decide)⟩
theorem fl_X2_152 : hFl RX2 152 2 4 false (tyX2 4) := ⟨RX2, TX2, 6, rfl, by decide, hmem 324 (by decide +kernel) rfl, rfl, tyX2_ok 4 (by decide)⟩
theorem fl_X3_9 : hFl RX3 9 3 0 true (tyX3 0) := ⟨RX3, TX3, 3, rfl, by decide, hmem 375 (by decide +kernel) rfl, rfl, tyX3_ok 0 (by decide)⟩
theorem fl_X3_15 : hFl RX3 15 3 1 true (tyX3 1) := ⟨RX3, TX3, 3, rfl, by decide, hmem 376 (by decide +kernel) rfl, rfl, tyX3_ok 1 (by decide)⟩
theorem fl_X3_19 : hFl RX3 19 10 7 false (tyX10 7) := ⟨RX10, TX10, 13, rfl, by decide, hmem 466 (by decide +kernel) rfl, rfl, tyX10_ok 7 (by decide)⟩
theorem fl_X3_25 : hFl RX3 25 10 4 true (tyX10 4) := ⟨RX10, TX10, 13, rfl, by decide, hmem 454 (by decide +kernel) rfl, rfl, tyX10_ok 4 (by decide)⟩
theorem fl_X3_34 : hFl RX3 34 10 3 true (tyX10 3) := ⟨RX10, TX10, 13, rfl, by decide, hmem 449 (by decide +kernel) rfl, rfl, tyX10_ok 3 (by decide)⟩
theorem fl_X3_49 : hFl RX3 49 3 2 false (tyX3 2) := ⟨RX3, TX3, 3, rfl, by decide, hmem 377 (by decide +kernel) rfl, rfl, tyX3_ok 2 (by decide)⟩
theorem fl_X4_9 : hFl RX4 9 4 0 true (tyX4 0) := ⟨RX4, TX4, 8, rfl, by decide, hmem 187 (by decide +kernel) rfl, rfl, tyX4_ok 0 (by decide)⟩
theorem fl_X4_15 : hFl RX4 15 4 1 false (tyX4 1) := ⟨RX4, TX4, 8, rfl, by decide, hmem 188 (by decide +kernel) rfl, rfl, tyX4_ok 1 (by decide)⟩
theorem fl_X4_19 : hFl RX4 19 4 2 false (tyX4 2) := ⟨RX4, TX4, 8, rfl, by decide, hmem 189 (by decide +kernel) rfl, rfl, tyX4_ok 2 (by decide)⟩
theorem fl_X4_29 : hFl RX4 29 4 6 false (tyX4 6) := ⟨RX4, TX4, 8, rfl, by decide, hmem 194 (by decide +kernel) rfl, rfl, tyX4_ok 6 (by decide)⟩
theorem fl_X4_32 : hFl RX4 32 4 3 false (tyX4 3) := ⟨RX4, TX4, 8, rfl, by decide, hmem 191 (by decide +kernel) rfl, rfl, tyX4_ok 3 (by decide)⟩
theorem fl_X4_35 : hFl RX4 35 4 4 false (tyX4 4) := ⟨RX4, TX4, 8, rfl, by decide, hmem 192 (by decide +kernel) rfl, rfl, tyX4_ok 4 (by decide)⟩
theorem fl_X4_38 : hFl RX4 38 4 5 false (tyX4 5) := ⟨RX4, TX4, 8, rfl, by decide, hmem 193 (by decide +kernel) rfl, rfl, tyX4_ok 5 (by decide)⟩
theorem fl_X4_41 : hFl RX4 41 4 7 false (tyX4 7) := ⟨RX4, TX4, 8, rfl, by decide, hmem 195 (by decide +kernel) rfl, rfl, tyX4_ok 7 (by decide)⟩
theorem fl_X5_11 : hFl RX5 11 5 0 true (tyX5 0) := ⟨RX5, TX5, 5, rfl, by decide, hmem 294 (by decide +kernel) rfl, rfl, tyX5_ok 0 (by decide)⟩
theorem fl_X5_15 : hFl RX5 15 5 1 true (tyX5 1) := ⟨RX5, TX5, 5, rfl, by decide, hmem 295 (by decide +kernel) rfl, rfl, tyX5_ok 1 (by decide)⟩
theorem fl_X5_18 : hFl RX5 18 5 2 true (tyX5 2) := ⟨RX5, TX5, 5, rfl, by decide, hmem 296 (by decide +kernel) rfl, rfl, tyX5_ok 2 (by decide)⟩
theorem fl_X5_22 : hFl RX5 22 5 4 false (tyX5 4) := ⟨RX5, TX5, 5, rfl, by decide, hmem 298 (by decide +kernel) rfl, rfl, tyX5_ok 4 (by decide)⟩
theorem fl_X5_34 : hFl RX5 34 5 3 false (tyX5 3) := ⟨RX5, TX5, 5, rfl, by decide, hmem 297 (by decide +kernel) rfl, rfl, tyX5_ok 3 (by decide)⟩
theorem fl_X6_9 : hFl RX6 9 6 0 true (tyX6 0) := ⟨RX6, TX6, 8, rfl, by decide, hmem 250 (by decide +kernel) rfl, rfl, tyX6_ok 0 (by decide)⟩
theorem fl_X6_15 : hFl RX6 15 6 1 true (tyX6 1) := ⟨RX6, TX6, 8, rfl, by decide, hmem 253 (by decide +kernel) rfl, rfl, tyX6_ok 1 (by decide)⟩
theorem fl_X6_18 : hFl RX6 18 6 2 true (tyX6 2) := ⟨RX6, TX6, 8, rfl, by decide, hmem 256 (by decide +kernel) rfl, rfl, tyX6_ok 2 (by decide)⟩
theorem fl_X6_21 : hFl RX6 21 6 3 true (tyX6 3) := ⟨RX6, TX6, 8, rfl, by decide, hmem 259 (by decide +kernel) rfl, rfl, tyX6_ok 3 (by decide)⟩
theorem fl_X6_24 : hFl RX6 24 6 4 true (tyX6 4) := ⟨RX6, TX6, 8, rfl, by decide, hmem 262 (by decide +kernel) rfl, rfl, tyX6_ok 4 (by decide)⟩
theorem fl_X6_27 : hFl RX6 27 10 7 false (tyX10 7) := ⟨RX10, TX10, 13, rfl, by decide, hmem 464 (by decide +kernel) rfl, rfl, tyX10_ok 7 (by decide)⟩
theorem fl_X6_33 : hFl RX6 33 6 5 false (tyX6 5) := ⟨RX6, TX6, 8, rfl, by decide, hmem 265 (by decide +kernel) rfl, rfl, tyX6_ok 5 (by decide)⟩
theorem fl_X6_34 : hFl RX6 34 6 6 false (tyX6 6) := ⟨RX6, TX6, 8, rfl, by decide, hmem 266 (by decide +kernel) rfl, rfl, tyX6_ok 6 (by decide)⟩
theorem fl_X6_37 : hFl RX6 37 10 10 false (tyX10 10) := ⟨RX10, TX10, 13, rfl, by decide, hmem 476 (by decide +kernel) rfl, rfl, tyX10_ok 10 (by decide)⟩
theorem fl_X6_40 : hFl RX6 40 6 7 false (tyX6 7) := ⟨RX6, TX6, 8, rfl, by decide, hmem 269 (by decide +kernel) rfl, rfl, tyX6_ok 7 (by decide)⟩
theorem fl_X6_41 : hFl RX6 41 10 0 true (tyX10 0) := ⟨RX10, TX10, 13, rfl, by decide, hmem 439 (by decide +kernel) rfl, rfl, tyX10_ok 0 (by decide)⟩
theorem fl_X6_42 : hFl RX6 42 10 1 true (tyX10 1) := ⟨RX10, TX10, 13, rfl, by decide, hmem 442 (by decide +kernel) rfl, rfl, tyX10_ok 1 (by decide)⟩
theorem fl_X7_11 : hFl RX7 11 7 0 true (tyX7 0) := ⟨RX7, TX7, 2, rfl, by decide, hmem 142 (by decide +kernel) rfl, rfl, tyX7_ok 0 (by decide)⟩
theorem fl_X7_15 : hFl RX7 15 7 1 false (tyX7 1) := ⟨RX7, TX7, 2, rfl, by decide, hmem 143 (by decide +kernel) rfl, rfl, tyX7_ok 1 (by decide)⟩
theorem fl_X8_9 : hFl RX8 9 8 1 true (tyX8 1) := ⟨RX8, TX8, 7, rfl, by decide, hmem 221 (by decide +kernel) rfl, rfl, tyX8_ok 1 (by decide)⟩
theorem fl_X8_15 : hFl RX8 15 8 2 true (tyX8 2) := ⟨RX8, TX8, 7, rfl, by decide, hmem 222 (by decide +kernel) rfl, rfl, tyX8_ok 2 (by decide)⟩
theorem fl_X8_18 : hFl RX8 18 8 0 true (tyX8 0) := ⟨RX8, TX8, 7, rfl, by decide, hmem 220 (by decide +kernel) rfl, rfl, tyX8_ok 0 (by decide)⟩
theorem fl_X8_22 : hFl RX8 22 8 3 false (tyX8 3) := ⟨RX8, TX8, 7, rfl, by decide, hmem 223 (by decide +kernel) rfl, rfl, tyX8_ok 3 (by decide)⟩
theorem fl_X8_26 : hFl RX8 26 8 4 false (tyX8 4) := ⟨RX8, TX8, 7, rfl, by decide, hmem 224 (by decide +kernel) rfl, rfl, tyX8_ok 4 (by decide)⟩
theorem fl_X8_30 : hFl RX8 30 8 5 false (tyX8 5) := ⟨RX8, TX8, 7, rfl, by decide, hmem 225 (by decide +kernel) rfl, rfl, tyX8_ok 5 (by decide)⟩
theorem fl_X8_55 : hFl RX8 55 8 6 false (tyX8 6) := ⟨RX8, TX8, 7, rfl, by decide, hmem 227 (by decide +kernel) rfl, rfl, tyX8_ok 6 (by decide)⟩
theorem fl_X8_66 : hFl RX8 66 10 10 false (tyX10 10) := ⟨RX10, TX10, 13, rfl, by decide, hmem 478 (by decide +kernel) rfl, rfl, tyX10_ok 10 (by decide)⟩
theorem fl_X8_71 : hFl RX8 71 10 11 false (tyX10 11) := ⟨RX10, TX10, 13, rfl, by decide, hmem 480 (by decide +kernel) rfl, rfl, tyX10_ok 11 (by decide)⟩
theorem fl_X8_74 : hFl RX8 74 10 12 false (tyX10 12) := ⟨RX10, TX10, 13, rfl, by decide, hmem 483 (by decide +kernel) rfl, rfl, tyX10_ok 12 (by decide)⟩
theorem fl_X8_84 : hFl RX8 84 10 7 false (tyX10 7) := ⟨RX10, TX10, 13, rfl, by decide, hmem 467 (by decide +kernel) rfl, rfl, tyX10_ok 7 (by decide)⟩
theorem fl_X8_90 : hFl RX8 90 10 0 true (tyX10 0) := ⟨RX10, TX10, 13, rfl, by decide, hmem 440 (by decide +kernel) rfl, rfl, tyX10_ok 0 (by decide)⟩
theorem fl_X8_93 : hFl RX8 93 10 1 true (tyX10 1) := ⟨RX10, TX10, 13, rfl, by decide, hmem 443 (by decide +kernel) rfl, rfl, tyX10_ok 1 (by decide)⟩
theorem fl_X8_96 : hFl RX8 96 10 2 true (tyX10 2) := ⟨RX10, TX10, 13, rfl, by decide, hmem 446 (by decide +kernel) rfl, rfl, tyX10_ok 2 (by decide)⟩
theorem fl_X8_99 : hFl RX8 99 10 3 true (tyX10 3) := ⟨RX10, TX10, 13, rfl, by decide, hmem 451 (by decide +kernel) rfl, rfl, tyX10_ok 3 (by decide)⟩
theorem fl_X8_102 : hFl RX8 102 10 4 true (tyX10 4) := ⟨RX10, TX10, 13, rfl, by decide, hmem 456 (by decide +kernel) rfl, rfl, tyX10_ok 4 (by decide)⟩
theorem fl_X8_108 : hFl RX8 108 10 9 false (tyX10 9) := ⟨RX10, TX10, 13, rfl, by decide, hmem 474 (by decide +kernel) rfl, rfl, tyX10_ok 9 (by decide)⟩
theorem fl_X8_118 : hFl RX8 118 10 8 false (tyX10 8) := ⟨RX10, TX10, 13, rfl, by decide, hmem 471 (by decide +kernel) rfl, rfl, tyX10_ok 8 (by decide)⟩
theorem fl_X8_121 : hFl RX8 121 10 5 true (tyX10 5) := ⟨RX10, TX10, 13, rfl, by decide, hmem 458 (by decide +kernel) rfl, rfl, tyX10_ok 5 (by decide)⟩
theorem fl_X9_9 : hFl RX9 9 9 0 true (tyX9 0) := ⟨RX9, TX9, 7, rfl, by decide, hmem 158 (by decide +kernel) rfl, rfl, tyX9_ok 0 (by decide)⟩
theorem fl_X9_13 : hFl RX9 13 9 1 true (tyX9 1) := ⟨RX9, TX9, 7, rfl, by decide, hmem 159 (by decide +kernel) rfl, rfl, tyX9_ok 1 (by decide)⟩
theorem fl_X9_16 : hFl RX9 16 9 2 true (tyX9 2) := ⟨RX9, TX9, 7, rfl, by decide, hmem 160 (by decide +kernel) rfl, rfl, tyX9_ok 2 (by decide)⟩
theorem fl_X9_19 : hFl RX9 19 9 3 true (tyX9 3) := ⟨RX9, TX9, 7, rfl, by decide, hmem 161 (by decide +kernel) rfl, rfl, tyX9_ok 3 (by decide)⟩
theorem fl_X9_23 : hFl RX9 23 9 5 false (tyX9 5) := ⟨RX9, TX9, 7, rfl, by decide, hmem 163 (by decide +kernel) rfl, rfl, tyX9_ok 5 (by decide)⟩
theorem fl_X9_27 : hFl RX9 27 9 4 false (tyX9 4) := ⟨RX9, TX9, 7, rfl, by decide, hmem 162 (by decide +kernel) rfl, rfl, tyX9_ok 4 (by decide)⟩
theorem fl_X9_30 : hFl RX9 30 7 1 false (tyX7 1) := ⟨RX7, TX7, 2, rfl, by decide, hmem 145 (by decide +kernel) rfl, rfl, tyX7_ok 1 (by decide)⟩
theorem fl_X9_33 : hFl RX9 33 9 6 false (tyX9 6) := ⟨RX9, TX9, 7, rfl, by decide, hmem 164 (by decide +kernel) rfl, rfl, tyX9_ok 6 (by decide)⟩
theorem fl_X10_9 : hFl RX10 9 10 0 true (tyX10 0) := ⟨RX10, TX10, 13, rfl, by decide, hmem 438 (by decide +kernel) rfl, rfl, tyX10_ok 0 (by decide)⟩
theorem fl_X10_15 : hFl RX10 15 10 1 true (tyX10 1) := ⟨RX10, TX10, 13, rfl, by decide, hmem 441 (by decide +kernel) rfl, rfl, tyX10_ok 1 (by decide)⟩
theorem fl_X10_18 : hFl RX10 18 10 2 true (tyX10 2) := ⟨RX10, TX10, 13, rfl, by decide, hmem 444 (by decide +kernel) rfl, rfl, tyX10_ok 2 (by decide)⟩
theorem fl_X10_21 : hFl RX10 21 10 3 true (tyX10 3) := ⟨RX10, TX10, 13, rfl, by decide, hmem 448 (by decide +kernel) rfl, rfl, tyX10_ok 3 (by decide)⟩
theorem fl_X10_24 : hFl RX10 24 10 4 true (tyX10 4) := ⟨RX10, TX10, 13, rfl, by decide, hmem 453 (by decide +kernel) rfl, rfl, tyX10_ok 4 (by decide)⟩
theorem fl_X10_27 : hFl RX10 27 10 5 true (tyX10 5) := ⟨RX10, TX10, 13, rfl, by decide, hmem 457 (by decide +kernel) rfl, rfl, tyX10_ok 5 (by decide)⟩
theorem fl_X10_33 : hFl RX10 33 10 6 true (tyX10 6) := ⟨RX10, TX10, 13, rfl, by decide, hmem 460 (by decide +kernel) rfl, rfl, tyX10_ok 6 (by decide)⟩
theorem fl_X10_40 : hFl RX10 40 10 7 false (tyX10 7) := ⟨RX10, TX10, 13, rfl, by decide, hmem 463 (by decide +kernel) rfl, rfl, tyX10_ok 7 (by decide)⟩
theorem fl_X10_44 : hFl RX10 44 10 8 false (tyX10 8) := ⟨RX10, TX10, 13, rfl, by decide, hmem 470 (by decide +kernel) rfl, rfl, tyX10_ok 8 (by decide)⟩
theorem fl_X10_47 : hFl RX10 47 10 9 false (tyX10 9) := ⟨RX10, TX10, 13, rfl, by decide, hmem 473 (by decide +kernel) rfl, rfl, tyX10_ok 9 (by decide)⟩
theorem fl_X10_50 : hFl RX10 50 10 10 false (tyX10 10) := ⟨RX10, TX10, 13, rfl, by decide, hmem 477 (by decide +kernel) rfl, rfl, tyX10_ok 10 (by decide)⟩
theorem fl_X10_53 : hFl RX10 53 10 11 false (tyX10 11) := ⟨RX10, TX10, 13, rfl, by decide, hmem 479 (by decide +kernel) rfl, rfl, tyX10_ok 11 (by decide)⟩
theorem fl_X10_56 : hFl RX10 56 10 12 false (tyX10 12) := ⟨RX10, TX10, 13, rfl, by decide, hmem 482 (by decide +kernel) rfl, rfl, tyX10_ok 12 (by decide)⟩
theorem fl_X12_13 : hFl RX12 13 12 1 true (tyX12 1) := ⟨RX12, TX12, 66, rfl, by decide, hmem 1326 (by decide +kernel) rfl, rfl, tyX12_ok 1 (by decide)⟩
theorem fl_X12_17 : hFl RX12 17 12 3 true (tyX12 3) := ⟨RX12, TX12, 66, rfl, by decide, hmem 1328 (by decide +kernel) rfl, rfl, tyX12_ok 3 (by decide)⟩
theorem fl_X12_20 : hFl RX12 20 12 5 true (tyX12 5) := ⟨RX12, TX12, 66, rfl, by decide, hmem 1330 (by decide +kernel) rfl, rfl, tyX12_ok 5 (by decide)⟩
theorem fl_X12_24 : hFl RX12 24 12 6 true (tyX12 6) := ⟨RX12, TX12, 66, rfl, by decide, hmem 1331 (by decide +kernel) rfl, rfl, tyX12_ok 6 (by decide)⟩
theorem fl_X12_27 : hFl RX12 27 12 7 true (tyX12 7) := ⟨RX12, TX12, 66, rfl, by decide, hmem 1332 (by decide +kernel) rfl, rfl, tyX12_ok 7 (by decide)⟩
theorem fl_X12_30 : hFl RX12 30 12 8 true (tyX12 8) := ⟨RX12, TX12, 66, rfl, by decide, hmem 1333 (by decide +kernel) rfl, rfl, tyX12_ok 8 (by decide)⟩
theorem fl_X12_34 : hFl RX12 34 12 9 true (tyX12 9) := ⟨RX12, TX12, 66, rfl, by decide, hmem 1334 (by decide +kernel) rfl, rfl, tyX12_ok 9 (by decide)⟩
theorem fl_X12_37 : hFl RX12 37 12 17 false (tyX12 17) := ⟨RX12, TX12, 66, rfl, by decide, hmem 1342 (by decide +kernel) rfl, rfl, tyX12_ok 17 (by decide)⟩
theorem fl_X12_40 : hFl RX12 40 12 21 true (tyX12 21) := ⟨RX12, TX12, 66, rfl, by decide, hmem 1346 (by decide +kernel) rfl, rfl, tyX12_ok 21 (by decide)⟩
theorem fl_X12_43 : hFl RX12 43 12 22 true (tyX12 22) := ⟨RX12, TX12, 66, rfl, by decide, hmem 1347 (by decide +kernel) rfl, rfl, tyX12_ok 22 (by decide)⟩
theorem fl_X12_46 : hFl RX12 46 12 23 true (tyX12 23) := ⟨RX12, TX12, 66, rfl, by decide, hmem 1348 (by decide +kernel) rfl, rfl, tyX12_ok 23 (by decide)⟩
theorem fl_X12_49 : hFl RX12 49 12 24 true (tyX12 24) := ⟨RX12, TX12, 66, rfl, by decide, hmem 1349 (by decide +kernel) rfl, rfl, tyX12_ok 24 (by decide)⟩
theorem fl_X12_52 : hFl RX12 52 12 25 true (tyX12 25) := ⟨RX12, TX12, 66, rfl, by decide, hmem 1350 (by decide +kernel) rfl, rfl, tyX12_ok 25 (by decide)⟩
theorem fl_X12_55 : hFl RX12 55 12 26 true (tyX12 26) := ⟨RX12, TX12, 66, rfl, by decide, hmem 1351 (by decide +kernel) rfl, rfl, tyX12_ok 26 (by decide)⟩
theorem fl_X12_58 : hFl RX12 58 12 27 true (tyX12 27) := ⟨RX12, TX12, 66, rfl, by decide, hmem 1352 (by decide +kernel) rfl, rfl, tyX12_ok 27 (by decide)⟩
theorem fl_X12_61 : hFl RX12 61 12 28 true (tyX12 28) := ⟨RX12, TX12, 66, rfl, by decide, hmem 1353 (by decide +kernel) rfl, rfl, tyX12_ok 28 (by decide)⟩
theorem fl_X12_64 : hFl RX12 64 12 29 true (tyX12 29) := ⟨RX12, TX12, 66, rfl, by decide, hmem 1354 (by decide +kernel) rfl, rfl, tyX12_ok 29 (by decide)⟩
theorem fl_X12_67 : hFl RX12 67 12 30 true (tyX12 30) := ⟨RX12, TX12, 66, rfl, by decide, hmem 1355 (by decide +kernel) rfl, rfl, tyX12_ok 30 (by decide)⟩
theorem fl_X12_70 : hFl RX12 70 12 31 true (tyX12 31) := ⟨RX12, TX12, 66, rfl, by decide, hmem 1356 (by decide +kernel) rfl, rfl, tyX12_ok 31 (by decide)⟩
theorem fl_X12_73 : hFl RX12 73 12 32 true (tyX12 32) := ⟨RX12, TX12, 66, rfl, by decide, hmem 1357 (by decide +kernel) rfl, rfl, tyX12_ok 32 (by decide)⟩
theorem fl_X12_76 : hFl RX12 76 12 33 true (tyX12 33) := ⟨RX12, TX12, 66, rfl, by decide, hmem 1358 (by decide +kernel) rfl, rfl, tyX12_ok 33 (by decide)⟩
theorem fl_X12_79 : hFl RX12 79 12 34 true (tyX12 34) := ⟨RX12, TX12, 66, rfl, by decide, hmem 1359 (by decide +kernel) rfl, rfl, tyX12_ok 34 (by decide)⟩
theorem fl_X12_82 : hFl RX12 82 12 35 true (tyX12 35) := ⟨RX12, TX12, 66, rfl, by decide, hmem 1360 (by decide +kernel) rfl, rfl, tyX12_ok 35 (by decide)⟩
theorem fl_X12_85 : hFl RX12 85 12 36 true (tyX12 36) := ⟨RX12, TX12, 66, rfl, by decide, hmem 1361 (by decide +kernel) rfl, rfl, tyX12_ok 36 (by decide)⟩
theorem fl_X12_88 : hFl RX12 88 12 38 true (tyX12 38) := ⟨RX12, TX12, 66, rfl, by decide, hmem 1363 (by decide +kernel) rfl, rfl, tyX12_ok 38 (by decide)⟩
theorem fl_X12_92 : hFl RX12 92 12 39 true (tyX12 39) := ⟨RX12, TX12, 66, rfl, by decide, hmem 1364 (by decide +kernel) rfl, rfl, tyX12_ok 39 (by decide)⟩
theorem fl_X12_95 : hFl RX12 95 12 40 true (tyX12 40) := ⟨RX12, TX12, 66, rfl, by decide, hmem 1365 (by decide +kernel) rfl, rfl, tyX12_ok 40 (by decide)⟩
theorem fl_X12_98 : hFl RX12 98 12 41 true (tyX12 41) := ⟨RX12, TX12, 66, rfl, by decide, hmem 1366 (by decide +kernel) rfl, rfl, tyX12_ok 41 (by decide)⟩
theorem fl_X12_101 : hFl RX12 101 12 42 true (tyX12 42) := ⟨RX12, TX12, 66, rfl, by decide, hmem 1367 (by decide +kernel) rfl, rfl, tyX12_ok 42 (by decide)⟩
theorem fl_X12_104 : hFl RX12 104 12 44 true (tyX12 44) := ⟨RX12, TX12, 66, rfl, by decide, hmem 1369 (by decide +kernel) rfl, rfl, tyX12_ok 44 (by decide)⟩
theorem fl_X12_107 : hFl RX12 107 12 45 true (tyX12 45) := ⟨RX12, TX12, 66, rfl, by decide, hmem 1370 (by decide +kernel) rfl, rfl, tyX12_ok 45 (by decide)⟩
theorem fl_X12_110 : hFl RX12 110 12 46 true (tyX12 46) := ⟨RX12, TX12, 66, rfl, by decide, hmem 1371 (by decide +kernel) rfl, rfl, tyX12_ok 46 (by decide)⟩
theorem fl_X12_113 : hFl RX12 113 12 48 true (tyX12 48) := ⟨RX12, TX12, 66, rfl, by decide, hmem 1373 (by decide +kernel) rfl, rfl, tyX12_ok 48 (by decide)⟩
theorem fl_X12_116 : hFl RX12 116 12 49 true (tyX12 49) := ⟨RX12, TX12, 66, rfl, by decide, hmem 1374 (by decide +kernel) rfl, rfl, tyX12_ok 49 (by decide)⟩
theorem fl_X12_119 : hFl RX12 119 12 51 true (tyX12 51) := ⟨RX12, TX12, 66, rfl, by decide, hmem 1376 (by decide +kernel) rfl, rfl, tyX12_ok 51 (by decide)⟩
theorem fl_X12_122 : hFl RX12 122 12 52 true (tyX12 52) := ⟨RX12, TX12, 66, rfl, by decide, hmem 1377 (by decide +kernel) rfl, rfl, tyX12_ok 52 (by decide)⟩
theorem fl_X12_125 : hFl RX12 125 12 54 true (tyX12 54) := ⟨RX12, TX12, 66, rfl, by decide, hmem 1379 (by decide +kernel) rfl, rfl, tyX12_ok 54 (by decide)⟩
theorem fl_X12_128 : hFl RX12 128 12 55 true (tyX12 55) := ⟨RX12, TX12, 66, rfl, by decide, hmem 1380 (by decide +kernel) rfl, rfl, tyX12_ok 55 (by decide)⟩
theorem fl_X12_131 : hFl RX12 131 12 56 true (tyX12 56) := ⟨RX12, TX12, 66, rfl, by decide, hmem 1381 (by decide +kernel) rfl, rfl, tyX12_ok 56 (by decide)⟩
theorem fl_X12_134 : hFl RX12 134 12 58 true (tyX12 58) := ⟨RX12, TX12, 66, rfl, by decide, hmem 1383 (by decide +kernel) rfl, rfl, tyX12_ok 58 (by decide)⟩
theorem fl_X12_137 : hFl RX12 137 12 59 true (tyX12 59) := ⟨RX12, TX12, 66, rfl, by decide, hmem 1384 (by decide +kernel) rfl, rfl, tyX12_ok 59 (by decide)⟩
theorem fl_X12_140 : hFl RX12 140 12 62 true (tyX12 62) := ⟨RX12, TX12, 66, rfl, by decide, hmem 1387 (by decide +kernel) rfl, rfl, tyX12_ok 62 (by decide)⟩
theorem fl_X12_143 : hFl RX12 143 12 63 true (tyX12 63) := ⟨RX12, TX12, 66, rfl, by decide, hmem 1388 (by decide +kernel) rfl, rfl, tyX12_ok 63 (by decide)⟩
theorem fl_X12_146 : hFl RX12 146 12 64 true (tyX12 64) := ⟨RX12, TX12, 66, rfl, by decide, hmem 1389 (by decide +kernel) rfl, rfl, tyX12_ok 64 (by decide)⟩
theorem fl_X12_149 : hFl RX12 149 12 65 true (tyX12 65) := ⟨RX12, TX12, 66, rfl, by decide, hmem 1390 (by decide +kernel) rfl, rfl, tyX12_ok 65 (by decide)⟩
theorem fl_X12_166 : hFl RX12 166 12 2 false (tyX12 2) := ⟨RX12, TX12, 66, rfl, by decide, hmem 1327 (by decide +kernel) rfl, rfl, tyX12_ok 2 (by decide)⟩
theorem fl_X12_172 : hFl RX12 172 12 4 false (tyX12 4) := ⟨RX12, TX12, 66, rfl, by decide, hmem 1329 (by decide +kernel) rfl, rfl, tyX12_ok 4 (by decide)⟩
theorem fl_X12_181 : hFl RX12 181 12 10 false (tyX12 10) := ⟨RX12, TX12, 66, rfl, by decide, hmem 1335 (by decide +kernel) rfl, rfl, tyX12_ok 10 (by decide)⟩
theorem fl_X12_203 : hFl RX12 203 12 13 false (tyX12 13) := ⟨RX12, TX12, 66, rfl, by decide, hmem 1338 (by decide +kernel) rfl, rfl, tyX12_ok 13 (by decide)⟩
theorem fl_X12_206 : hFl RX12 206 12 11 false (tyX12 11) := ⟨RX12, TX12, 66, rfl, by decide, hmem 1336 (by decide +kernel) rfl, rfl, tyX12_ok 11 (by decide)⟩
theorem fl_X12_209 : hFl RX12 209 12 14 false (tyX12 14) := ⟨RX12, TX12, 66, rfl, by decide, hmem 1339 (by decide +kernel) rfl, rfl, tyX12_ok 14 (by decide)⟩
theorem fl_X12_212 : hFl RX12 212 12 15 false (tyX12 15) := ⟨RX12, TX12, 66, rfl, by decide, hmem 1340 (by decide +kernel) rfl, rfl, tyX12_ok 15 (by decide)⟩
theorem fl_X12_215 : hFl RX12 215 12 16 false (tyX12 16) := ⟨RX12, TX12, 66, rfl, by decide, hmem 1341 (by decide +kernel) rfl, rfl, tyX12_ok 16 (by decide)⟩
theorem fl_X12_230 : hFl RX12 230 12 12 false (tyX12 12) := ⟨RX12, TX12, 66, rfl, by decide, hmem 1337 (by decide +kernel) rfl, rfl, tyX12_ok 12 (by decide)⟩
theorem fl_X12_233 : hFl RX12 233 12 18 false (tyX12 18) := ⟨RX12, TX12, 66, rfl, by decide, hmem 1343 (by decide +kernel) rfl, rfl, tyX12_ok 18 (by decide)⟩
theorem fl_X12_236 : hFl RX12 236 12 19 false (tyX12 19) := ⟨RX12, TX12, 66, rfl, by decide, hmem 1344 (by decide +kernel) rfl, rfl, tyX12_ok 19 (by decide)⟩
theorem fl_X12_239 : hFl RX12 239 12 20 false (tyX12 20) := ⟨RX12, TX12, 66, rfl, by decide, hmem 1345 (by decide +kernel) rfl, rfl, tyX12_ok 20 (by decide)⟩
theorem fl_X12_242 : hFl RX12 242 12 37 false (tyX12 37) := ⟨RX12, TX12, 66, rfl, by decide, hmem 1362 (by decide +kernel) rfl, rfl, tyX12_ok 37 (by decide)⟩
theorem fl_X12_245 : hFl RX12 245 12 43 false (tyX12 43) := ⟨RX12, TX12, 66, rfl, by decide, hmem 1368 (by decide +kernel) rfl, rfl, tyX12_ok 43 (by decide)⟩
theorem fl_X12_251 : hFl RX12 251 12 57 false (tyX12 57) := ⟨RX12, TX12, 66, rfl, by decide, hmem 1382 (by decide +kernel) rfl, rfl, tyX12_ok 57 (by decide)⟩
theorem fl_X12_254 : hFl RX12 254 12 61 false (tyX12 61) := ⟨RX12, TX12, 66, rfl, by decide, hmem 1386 (by decide +kernel) rfl, rfl, tyX12_ok 61 (by decide)⟩
theorem fl_X12_302 : hFl RX12 302 12 47 false (tyX12 47) := ⟨RX12, TX12, 66, rfl, by decide, hmem 1372 (by decide +kernel) rfl, rfl, tyX12_ok 47 (by decide)⟩
theorem fl_X12_315 : hFl RX12 315 12 50 false (tyX12 50) := ⟨RX12, TX12, 66, rfl, by decide, hmem 1375 (by decide +kernel) rfl, rfl, tyX12_ok 50 (by decide)⟩
theorem fl_X12_323 : hFl RX12 323 12 53 false (tyX12 53) := ⟨RX12, TX12, 66, rfl, by decide, hmem 1378 (by decide +kernel) rfl, rfl, tyX12_ok 53 (by decide)⟩
theorem fl_X12_407 : hFl RX12 407 12 60 false (tyX12 60) := ⟨RX12, TX12, 66, rfl, by decide, hmem 1385 (by decide +kernel) rfl, rfl, tyX12_ok 60 (by decide)⟩
set_option maxRecDepth 100000 in
theorem mk_X11_init : hMi yX11_init cX11_init 1 0 := ⟨⟨hmem 131 (by decide +kernel) rfl, hmem 107 (by decide +kernel) rfl, hmem 132 rfl rfl, rfl⟩, by decide, by decide, by decide +kernel⟩
set_option maxRecDepth 100000 in
theorem mk_X11_allIn : hMv yX11_allIn cX11_allIn 2 ((some FieldType.int)) 1 := ⟨⟨hmem 1222 (by decide +kernel) rfl, hmem 1223 (by decide +kernel) rfl, hmem 107 (by decide +kernel) rfl, hmem 1224 rfl rfl⟩, by decide, by decide, by decide +kernel⟩
set_option maxRecDepth 100000 in
theorem mk_X11_allVotes : hMv yX11_allVotes cX11_allVotes 1 ((some FieldType.int)) 0 := ⟨⟨hmem 1298 (by decide +kernel) rfl, hmem 49 (by decide +kernel) rfl, hmem 107 (by decide +kernel) rfl, hmem 1299 rfl rfl⟩, by decide, by decide, by decide +kernel⟩
set_option maxRecDepth 100000 in
theorem mk_X11_allies : hMv yX11_allies cX11_allies 2 ((some FieldType.int)) 1 := ⟨⟨hmem 1123 (by decide +kernel) rfl, hmem 1124 (by decide +kernel) rfl, hmem 107 (by decide +kernel) rfl, hmem 1125 rfl rfl⟩, by decide, by decide, by decide +kernel⟩
set_option maxRecDepth 100000 in
theorem mk_X11_ask : hMv yX11_ask cX11_ask 3 ((some FieldType.int)) 1 := ⟨⟨hmem 1262 (by decide +kernel) rfl, hmem 1263 (by decide +kernel) rfl, hmem 107 (by decide +kernel) rfl, hmem 1264 rfl rfl⟩, by decide, by decide, by decide +kernel⟩
set_option maxRecDepth 100000 in
theorem mk_X11_back : hMv yX11_back cX11_back 2 ((some FieldType.int)) 1 := ⟨⟨hmem 567 (by decide +kernel) rfl, hmem 568 (by decide +kernel) rfl, hmem 107 (by decide +kernel) rfl, hmem 569 rfl rfl⟩, by decide, by decide, by decide +kernel⟩
set_option maxRecDepth 100000 in
theorem mk_X11_began : hMv yX11_began cX11_began 4 ((some FieldType.int)) 2 := ⟨⟨hmem 1250 (by decide +kernel) rfl, hmem 1251 (by decide +kernel) rfl, hmem 107 (by decide +kernel) rfl, hmem 1252 rfl rfl⟩, by decide, by decide, by decide +kernel⟩
set_option maxRecDepth 100000 in
theorem mk_X11_buy : hMv yX11_buy cX11_buy 5 ((some FieldType.int)) 3 := ⟨⟨hmem 953 (by decide +kernel) rfl, hmem 954 (by decide +kernel) rfl, hmem 107 (by decide +kernel) rfl, hmem 955 rfl rfl⟩, by decide, by decide, by decide +kernel⟩
set_option maxRecDepth 100000 in
theorem mk_X11_calm : hMv yX11_calm cX11_calm 5 ((some FieldType.int)) 3 := ⟨⟨hmem 1075 (by decide +kernel) rfl, hmem 1076 (by decide +kernel) rfl, hmem 107 (by decide +kernel) rfl, hmem 1077 rfl rfl⟩, by decide, by decide, by decide +kernel⟩
set_option maxRecDepth 100000 in
theorem mk_X11_count : hMv yX11_count cX11_count 2 ((some FieldType.int)) 1 := ⟨⟨hmem 1288 (by decide +kernel) rfl, hmem 1289 (by decide +kernel) rfl, hmem 107 (by decide +kernel) rfl, hmem 1290 rfl rfl⟩, by decide, by decide, by decide +kernel⟩
set_option maxRecDepth 100000 in
theorem mk_X11_days : hMv yX11_days cX11_days 2 ((some FieldType.int)) 1 := ⟨⟨hmem 1004 (by decide +kernel) rfl, hmem 1005 (by decide +kernel) rfl, hmem 107 (by decide +kernel) rfl, hmem 1006 rfl rfl⟩, by decide, by decide, by decide +kernel⟩
set_option maxRecDepth 100000 in
theorem mk_X11_deals : hMv yX11_deals cX11_deals 7 ((some FieldType.int)) 1 := ⟨⟨hmem 1226 (by decide +kernel) rfl, hmem 1227 (by decide +kernel) rfl, hmem 107 (by decide +kernel) rfl, hmem 1228 rfl rfl⟩, by decide, by decide, by decide +kernel⟩
set_option maxRecDepth 100000 in
theorem mk_X11_dearest : hMv yX11_dearest cX11_dearest 3 ((some FieldType.int)) 2 := ⟨⟨hmem 1178 (by decide +kernel) rfl, hmem 1179 (by decide +kernel) rfl, hmem 107 (by decide +kernel) rfl, hmem 1180 rfl rfl⟩, by decide, by decide, by decide +kernel⟩
set_option maxRecDepth 100000 in
theorem mk_X11_divisor : hMs yX11_divisor cX11_divisor 6 ((some FieldType.int)) 2 := ⟨⟨hmem 1110 (by decide +kernel) rfl, hmem 107 (by decide +kernel) rfl, hmem 1111 rfl rfl⟩, by decide, by decide, by decide +kernel⟩
set_option maxRecDepth 100000 in
theorem mk_X11_eat : hMv yX11_eat cX11_eat 3 ((some FieldType.int)) 2 := ⟨⟨hmem 982 (by decide +kernel) rfl, hmem 983 (by decide +kernel) rfl, hmem 107 (by decide +kernel) rfl, hmem 984 rfl rfl⟩, by decide, by decide, by decide +kernel⟩
set_option maxRecDepth 100000 in
theorem mk_X11_feed : hMv yX11_feed cX11_feed 6 ((some FieldType.int)) 5 := ⟨⟨hmem 555 (by decide +kernel) rfl, hmem 556 (by decide +kernel) rfl, hmem 107 (by decide +kernel) rfl, hmem 557 rfl rfl⟩, by decide, by decide, by decide +kernel⟩
set_option maxRecDepth 100000 in
theorem mk_X11_forget : hMv yX11_forget cX11_forget 2 ((some FieldType.int)) 0 := ⟨⟨hmem 1246 (by decide +kernel) rfl, hmem 1247 (by decide +kernel) rfl, hmem 107 (by decide +kernel) rfl, hmem 1248 rfl rfl⟩, by decide, by decide, by decide +kernel⟩
set_option maxRecDepth 100000 in
theorem mk_X11_hold : hMv yX11_hold cX11_hold 2 ((some FieldType.boolean)) 1 := ⟨⟨hmem 1272 (by decide +kernel) rfl, hmem 1273 (by decide +kernel) rfl, hmem 107 (by decide +kernel) rfl, hmem 1274 rfl rfl⟩, by decide, by decide, by decide +kernel⟩
set_option maxRecDepth 100000 in
theorem mk_X11_house : hMv yX11_house cX11_house 3 ((some FieldType.int)) 2 := ⟨⟨hmem 875 (by decide +kernel) rfl, hmem 876 (by decide +kernel) rfl, hmem 107 (by decide +kernel) rfl, hmem 877 rfl rfl⟩, by decide, by decide, by decide +kernel⟩
set_option maxRecDepth 100000 in
theorem mk_X11_isByHand : hMv yX11_isByHand cX11_isByHand 2 ((some FieldType.boolean)) 1 := ⟨⟨hmem 958 (by decide +kernel) rfl, hmem 37 (by decide +kernel) rfl, hmem 107 (by decide +kernel) rfl, hmem 959 rfl rfl⟩, by decide, by decide, by decide +kernel⟩
set_option maxRecDepth 100000 in
theorem mk_X11_isDeal : hMv yX11_isDeal cX11_isDeal 4 ((some FieldType.boolean)) 3 := ⟨⟨hmem 1231 (by decide +kernel) rfl, hmem 47 (by decide +kernel) rfl, hmem 107 (by decide +kernel) rfl, hmem 1232 rfl rfl⟩, by decide, by decide, by decide +kernel⟩
set_option maxRecDepth 100000 in
theorem mk_X11_isFirstOrSecond : hMv yX11_isFirstOrSecond cX11_isFirstOrSecond 2 ((some FieldType.boolean)) 1 := ⟨⟨hmem 1066 (by decide +kernel) rfl, hmem 41 (by decide +kernel) rfl, hmem 107 (by decide +kernel) rfl, hmem 1067 rfl rfl⟩, by decide, by decide, by decide +kernel⟩
set_option maxRecDepth 100000 in
theorem mk_X11_isHouse : hMv yX11_isHouse cX11_isHouse 2 ((some FieldType.boolean)) 1 := ⟨⟨hmem 880 (by decide +kernel) rfl, hmem 34 (by decide +kernel) rfl, hmem 107 (by decide +kernel) rfl, hmem 881 rfl rfl⟩, by decide, by decide, by decide +kernel⟩
set_option maxRecDepth 100000 in
theorem mk_X11_isLook : hMv yX11_isLook cX11_isLook 2 ((some FieldType.boolean)) 1 := ⟨⟨hmem 1149 (by decide +kernel) rfl, hmem 44 (by decide +kernel) rfl, hmem 107 (by decide +kernel) rfl, hmem 1150 rfl rfl⟩, by decide, by decide, by decide +kernel⟩
set_option maxRecDepth 100000 in
theorem mk_X11_isSpan : hMv yX11_isSpan cX11_isSpan 2 ((some FieldType.boolean)) 1 := ⟨⟨hmem 1009 (by decide +kernel) rfl, hmem 39 (by decide +kernel) rfl, hmem 107 (by decide +kernel) rfl, hmem 1010 rfl rfl⟩, by decide, by decide, by decide +kernel⟩
set_option maxRecDepth 100000 in
theorem mk_X11_motion : hMv yX11_motion cX11_motion 5 ((some FieldType.int)) 2 := ⟨⟨hmem 1139 (by decide +kernel) rfl, hmem 1140 (by decide +kernel) rfl, hmem 107 (by decide +kernel) rfl, hmem 1141 rfl rfl⟩, by decide, by decide, by decide +kernel⟩
set_option maxRecDepth 100000 in
theorem mk_X11_panic : hMv yX11_panic cX11_panic 2 ((some FieldType.int)) 1 := ⟨⟨hmem 1047 (by decide +kernel) rfl, hmem 1048 (by decide +kernel) rfl, hmem 107 (by decide +kernel) rfl, hmem 1049 rfl rfl⟩, by decide, by decide, by decide +kernel⟩
set_option maxRecDepth 100000 in
theorem mk_X11_place : hMv yX11_place cX11_place 1 ((some FieldType.int)) 0 := ⟨⟨hmem 871 (by decide +kernel) rfl, hmem 872 (by decide +kernel) rfl, hmem 107 (by decide +kernel) rfl, hmem 873 rfl rfl⟩, by decide, by decide, by decide +kernel⟩
set_option maxRecDepth 100000 in
theorem mk_X11_poorest : hMv yX11_poorest cX11_poorest 5 ((some FieldType.int)) 2 := ⟨⟨hmem 1186 (by decide +kernel) rfl, hmem 1187 (by decide +kernel) rfl, hmem 107 (by decide +kernel) rfl, hmem 1188 rfl rfl⟩, by decide, by decide, by decide +kernel⟩
set_option maxRecDepth 100000 in
theorem mk_X11_power : hMv yX11_power cX11_power 6 ((some FieldType.int)) 2 := ⟨⟨hmem 1094 (by decide +kernel) rfl, hmem 1095 (by decide +kernel) rfl, hmem 107 (by decide +kernel) rfl, hmem 1096 rfl rfl⟩, by decide, by decide, by decide +kernel⟩
set_option maxRecDepth 100000 in
theorem mk_X11_priceIn : hMv yX11_priceIn cX11_priceIn 2 ((some FieldType.int)) 1 := ⟨⟨hmem 1214 (by decide +kernel) rfl, hmem 1215 (by decide +kernel) rfl, hmem 107 (by decide +kernel) rfl, hmem 1216 rfl rfl⟩, by decide, by decide, by decide +kernel⟩
set_option maxRecDepth 100000 in
theorem mk_X11_proxy : hMv yX11_proxy cX11_proxy 4 ((some FieldType.boolean)) 2 := ⟨⟨hmem 996 (by decide +kernel) rfl, hmem 997 (by decide +kernel) rfl, hmem 107 (by decide +kernel) rfl, hmem 998 rfl rfl⟩, by decide, by decide, by decide +kernel⟩
set_option maxRecDepth 100000 in
theorem mk_X11_quiet : hMv yX11_quiet cX11_quiet 2 ((some FieldType.int)) 1 := ⟨⟨hmem 1198 (by decide +kernel) rfl, hmem 1199 (by decide +kernel) rfl, hmem 107 (by decide +kernel) rfl, hmem 1200 rfl rfl⟩, by decide, by decide, by decide +kernel⟩
set_option maxRecDepth 100000 in
theorem mk_X11_read : hMv yX11_read cX11_read 3 ((some FieldType.int)) 0 := ⟨⟨hmem 571 (by decide +kernel) rfl, hmem 572 (by decide +kernel) rfl, hmem 107 (by decide +kernel) rfl, hmem 573 rfl rfl⟩, by decide, by decide, by decide +kernel⟩
set_option maxRecDepth 100000 in
theorem mk_X11_restore : hMv yX11_restore cX11_restore 2 ((some FieldType.boolean)) 1 := ⟨⟨hmem 1280 (by decide +kernel) rfl, hmem 1281 (by decide +kernel) rfl, hmem 107 (by decide +kernel) rfl, hmem 1282 rfl rfl⟩, by decide, by decide, by decide +kernel⟩
set_option maxRecDepth 100000 in
theorem mk_X11_ruin : hMv yX11_ruin cX11_ruin 6 ((some FieldType.int)) 3 := ⟨⟨hmem 1234 (by decide +kernel) rfl, hmem 1235 (by decide +kernel) rfl, hmem 107 (by decide +kernel) rfl, hmem 1236 rfl rfl⟩, by decide, by decide, by decide +kernel⟩
set_option maxRecDepth 100000 in
theorem mk_X11_salting : hMv yX11_salting cX11_salting 3 ((some FieldType.int)) 2 := ⟨⟨hmem 1166 (by decide +kernel) rfl, hmem 1167 (by decide +kernel) rfl, hmem 107 (by decide +kernel) rfl, hmem 1168 rfl rfl⟩, by decide, by decide, by decide +kernel⟩
set_option maxRecDepth 100000 in
theorem mk_X11_salts : hMv yX11_salts cX11_salts 3 ((some FieldType.int)) 2 := ⟨⟨hmem 991 (by decide +kernel) rfl, hmem 992 (by decide +kernel) rfl, hmem 107 (by decide +kernel) rfl, hmem 993 rfl rfl⟩, by decide, by decide, by decide +kernel⟩
set_option maxRecDepth 100000 in
theorem mk_X11_sell : hMv yX11_sell cX11_sell 4 ((some FieldType.int)) 3 := ⟨⟨hmem 1144 (by decide +kernel) rfl, hmem 1145 (by decide +kernel) rfl, hmem 107 (by decide +kernel) rfl, hmem 1146 rfl rfl⟩, by decide, by decide, by decide +kernel⟩
set_option maxRecDepth 100000 in
theorem mk_X11_share : hMv yX11_share cX11_share 3 ((some FieldType.int)) 1 := ⟨⟨hmem 1206 (by decide +kernel) rfl, hmem 1207 (by decide +kernel) rfl, hmem 107 (by decide +kernel) rfl, hmem 1208 rfl rfl⟩, by decide, by decide, by decide +kernel⟩
set_option maxRecDepth 100000 in
theorem mk_X11_spark : hMv yX11_spark cX11_spark 3 ((some FieldType.int)) 1 := ⟨⟨hmem 1061 (by decide +kernel) rfl, hmem 1062 (by decide +kernel) rfl, hmem 107 (by decide +kernel) rfl, hmem 1063 rfl rfl⟩, by decide, by decide, by decide +kernel⟩
set_option maxRecDepth 100000 in
theorem mk_X11_strongest : hMv yX11_strongest cX11_strongest 3 ((some FieldType.int)) 1 := ⟨⟨hmem 1115 (by decide +kernel) rfl, hmem 1116 (by decide +kernel) rfl, hmem 107 (by decide +kernel) rfl, hmem 1117 rfl rfl⟩, by decide, by decide, by decide +kernel⟩
set_option maxRecDepth 100000 in
theorem mk_X11_takeDraft : hMv yX11_takeDraft cX11_takeDraft 2 ((none : Option FieldType)) 0 := ⟨⟨hmem 864 (by decide +kernel) rfl, hmem 33 (by decide +kernel) rfl, hmem 107 (by decide +kernel) rfl, hmem 865 rfl rfl⟩, by decide, by decide, by decide +kernel⟩
set_option maxRecDepth 100000 in
theorem mk_X11_takeover : hMv yX11_takeover cX11_takeover 6 ((some FieldType.int)) 2 := ⟨⟨hmem 1135 (by decide +kernel) rfl, hmem 1136 (by decide +kernel) rfl, hmem 107 (by decide +kernel) rfl, hmem 1137 rfl rfl⟩, by decide, by decide, by decide +kernel⟩
set_option maxRecDepth 100000 in
theorem mk_X11_tell : hMv yX11_tell cX11_tell 3 ((some FieldType.int)) 2 := ⟨⟨hmem 1238 (by decide +kernel) rfl, hmem 1239 (by decide +kernel) rfl, hmem 107 (by decide +kernel) rfl, hmem 1240 rfl rfl⟩, by decide, by decide, by decide +kernel⟩
set_option maxRecDepth 100000 in
theorem mk_X11_tells : hMv yX11_tells cX11_tells 3 ((some FieldType.int)) 2 := ⟨⟨hmem 924 (by decide +kernel) rfl, hmem 925 (by decide +kernel) rfl, hmem 107 (by decide +kernel) rfl, hmem 926 rfl rfl⟩, by decide, by decide, by decide +kernel⟩
set_option maxRecDepth 100000 in
theorem mk_X11_then : hMv yX11_then cX11_then 5 ((some FieldType.int)) 3 := ⟨⟨hmem 1218 (by decide +kernel) rfl, hmem 1219 (by decide +kernel) rfl, hmem 107 (by decide +kernel) rfl, hmem 1220 rfl rfl⟩, by decide, by decide, by decide +kernel⟩
set_option maxRecDepth 100000 in
theorem mk_X11_undo : hMv yX11_undo cX11_undo 1 ((some FieldType.boolean)) 0 := ⟨⟨hmem 1035 (by decide +kernel) rfl, hmem 1036 (by decide +kernel) rfl, hmem 107 (by decide +kernel) rfl, hmem 1037 rfl rfl⟩, by decide, by decide, by decide +kernel⟩
set_option maxRecDepth 100000 in
theorem mk_X11_votesHad : hMv yX11_votesHad cX11_votesHad 2 ((some FieldType.int)) 1 := ⟨⟨hmem 915 (by decide +kernel) rfl, hmem 36 (by decide +kernel) rfl, hmem 107 (by decide +kernel) rfl, hmem 916 rfl rfl⟩, by decide, by decide, by decide +kernel⟩
set_option maxRecDepth 100000 in
theorem mk_X0_init : hMi yX0_init cX0_init 2 1 := ⟨⟨hmem 344 (by decide +kernel) rfl, hmem 115 (by decide +kernel) rfl, hmem 345 rfl rfl, rfl⟩, by decide, by decide, by decide +kernel⟩
set_option maxRecDepth 100000 in
theorem mk_X0_allTurns : hMv yX0_allTurns cX0_allTurns 3 ((some FieldType.int)) 0 := ⟨⟨hmem 1106 (by decide +kernel) rfl, hmem 1107 (by decide +kernel) rfl, hmem 115 (by decide +kernel) rfl, hmem 1108 rfl rfl⟩, by decide, by decide, by decide +kernel⟩
set_option maxRecDepth 100000 in
theorem mk_X0_countTurns : hMv yX0_countTurns cX0_countTurns 4 ((none : Option FieldType)) 0 := ⟨⟨hmem 1098 (by decide +kernel) rfl, hmem 1099 (by decide +kernel) rfl, hmem 115 (by decide +kernel) rfl, hmem 1100 rfl rfl⟩, by decide, by decide, by decide +kernel⟩
set_option maxRecDepth 100000 in
theorem mk_X0_fewestToMajority : hMv yX0_fewestToMajority cX0_fewestToMajority 8 ((some FieldType.int)) 3 := ⟨⟨hmem 1127 (by decide +kernel) rfl, hmem 1128 (by decide +kernel) rfl, hmem 115 (by decide +kernel) rfl, hmem 1129 rfl rfl⟩, by decide, by decide, by decide +kernel⟩
set_option maxRecDepth 100000 in
theorem mk_X0_gather : hMv yX0_gather cX0_gather 7 ((none : Option FieldType)) 2 := ⟨⟨hmem 918 (by decide +kernel) rfl, hmem 919 (by decide +kernel) rfl, hmem 115 (by decide +kernel) rfl, hmem 920 rfl rfl⟩, by decide, by decide, by decide +kernel⟩
set_option maxRecDepth 100000 in
theorem mk_X0_largestOutside : hMv yX0_largestOutside cX0_largestOutside 7 ((some FieldType.int)) 3 := ⟨⟨hmem 1132 (by decide +kernel) rfl, hmem 43 (by decide +kernel) rfl, hmem 115 (by decide +kernel) rfl, hmem 1133 rfl rfl⟩, by decide, by decide, by decide +kernel⟩
set_option maxRecDepth 100000 in
theorem mk_X0_mostTurns : hMv yX0_mostTurns cX0_mostTurns 3 ((some FieldType.int)) 0 := ⟨⟨hmem 1119 (by decide +kernel) rfl, hmem 1120 (by decide +kernel) rfl, hmem 115 (by decide +kernel) rfl, hmem 1121 rfl rfl⟩, by decide, by decide, by decide +kernel⟩
set_option maxRecDepth 100000 in
theorem mk_X0_sum : hMv yX0_sum cX0_sum 5 ((some FieldType.int)) 2 := ⟨⟨hmem 1102 (by decide +kernel) rfl, hmem 1103 (by decide +kernel) rfl, hmem 115 (by decide +kernel) rfl, hmem 1104 rfl rfl⟩, by decide, by decide, by decide +kernel⟩
set_option maxRecDepth 100000 in
theorem mk_X1_init : hMi yX1_init cX1_init 1 0 := ⟨⟨hmem 395 (by decide +kernel) rfl, hmem 118 (by decide +kernel) rfl, hmem 396 rfl rfl, rfl⟩, by decide, by decide, by decide +kernel⟩
set_option maxRecDepth 100000 in
theorem mk_X1_joined : hMs yX1_joined cX1_joined 3 ((some FieldType.int)) 3 := ⟨⟨hmem 906 (by decide +kernel) rfl, hmem 118 (by decide +kernel) rfl, hmem 907 rfl rfl⟩, by decide, by decide, by decide +kernel⟩
set_option maxRecDepth 100000 in
theorem mk_X1_leadHere : hMv yX1_leadHere cX1_leadHere 2 ((none : Option FieldType)) 1 := ⟨⟨hmem 791 (by decide +kernel) rfl, hmem 792 (by decide +kernel) rfl, hmem 118 (by decide +kernel) rfl, hmem 793 rfl rfl⟩, by decide, by decide, by decide +kernel⟩
set_option maxRecDepth 100000 in
theorem mk_X1_put : hMv yX1_put cX1_put 3 ((some FieldType.int)) 2 := ⟨⟨hmem 435 (by decide +kernel) rfl, hmem 436 (by decide +kernel) rfl, hmem 118 (by decide +kernel) rfl, hmem 437 rfl rfl⟩, by decide, by decide, by decide +kernel⟩
set_option maxRecDepth 100000 in
theorem mk_X1_putUntold : hMv yX1_putUntold cX1_putUntold 4 ((none : Option FieldType)) 3 := ⟨⟨hmem 428 (by decide +kernel) rfl, hmem 0 (by decide +kernel) rfl, hmem 118 (by decide +kernel) rfl, hmem 429 rfl rfl⟩, by decide, by decide, by decide +kernel⟩
set_option maxRecDepth 100000 in
theorem mk_X1_reset : hMv yX1_reset cX1_reset 1 ((none : Option FieldType)) 0 := ⟨⟨hmem 423 (by decide +kernel) rfl, hmem 424 (by decide +kernel) rfl, hmem 118 (by decide +kernel) rfl, hmem 425 rfl rfl⟩, by decide, by decide, by decide +kernel⟩
set_option maxRecDepth 100000 in
theorem mk_X1_startHere : hMv yX1_startHere cX1_startHere 2 ((none : Option FieldType)) 1 := ⟨⟨hmem 431 (by decide +kernel) rfl, hmem 432 (by decide +kernel) rfl, hmem 118 (by decide +kernel) rfl, hmem 433 rfl rfl⟩, by decide, by decide, by decide +kernel⟩
set_option maxRecDepth 100000 in
theorem mk_X1_value : hMv yX1_value cX1_value 8 ((some FieldType.int)) 1 := ⟨⟨hmem 898 (by decide +kernel) rfl, hmem 899 (by decide +kernel) rfl, hmem 118 (by decide +kernel) rfl, hmem 900 rfl rfl⟩, by decide, by decide, by decide +kernel⟩
set_option maxRecDepth 100000 in
theorem mk_X1_varValue : hMv yX1_varValue cX1_varValue 2 ((some FieldType.int)) 1 := ⟨⟨hmem 903 (by decide +kernel) rfl, hmem 35 (by decide +kernel) rfl, hmem 118 (by decide +kernel) rfl, hmem 904 rfl rfl⟩, by decide, by decide, by decide +kernel⟩
set_option maxRecDepth 100000 in
theorem mk_X2_init : hMi yX2_init cX2_init 1 0 := ⟨⟨hmem 315 (by decide +kernel) rfl, hmem 114 (by decide +kernel) rfl, hmem 316 rfl rfl, rfl⟩, by decide, by decide, by decide +kernel⟩
set_option maxRecDepth 100000 in
theorem mk_X2_after : hMv yX2_after cX2_after 5 ((some (FieldType.object "HerringShares$State"))) 4 := ⟨⟨hmem 1190 (by decide +kernel) rfl, hmem 1191 (by decide +kernel) rfl, hmem 114 (by decide +kernel) rfl, hmem 1192 rfl rfl⟩, by decide, by decide, by decide +kernel⟩
set_option maxRecDepth 100000 in
theorem mk_X2_caught : hMv yX2_caught cX2_caught 6 ((some FieldType.int)) 4 := ⟨⟨hmem 949 (by decide +kernel) rfl, hmem 950 (by decide +kernel) rfl, hmem 114 (by decide +kernel) rfl, hmem 951 rfl rfl⟩, by decide, by decide, by decide +kernel⟩
set_option maxRecDepth 100000 in
theorem mk_X2_clearedVars : hMs yX2_clearedVars cX2_clearedVars 5 ((some (FieldType.array FieldType.int))) 3 := ⟨⟨hmem 933 (by decide +kernel) rfl, hmem 114 (by decide +kernel) rfl, hmem 934 rfl rfl⟩, by decide, by decide, by decide +kernel⟩
set_option maxRecDepth 100000 in
theorem mk_X2_eaten : hMv yX2_eaten cX2_eaten 6 ((some FieldType.int)) 4 := ⟨⟨hmem 937 (by decide +kernel) rfl, hmem 938 (by decide +kernel) rfl, hmem 114 (by decide +kernel) rfl, hmem 939 rfl rfl⟩, by decide, by decide, by decide +kernel⟩
set_option maxRecDepth 100000 in
theorem mk_X2_findBestSale : hMv yX2_findBestSale cX2_findBestSale 6 ((none : Option FieldType)) 4 := ⟨⟨hmem 1152 (by decide +kernel) rfl, hmem 1153 (by decide +kernel) rfl, hmem 114 (by decide +kernel) rfl, hmem 1154 rfl rfl⟩, by decide, by decide, by decide +kernel⟩
set_option maxRecDepth 100000 in
theorem mk_X2_findDearest : hMv yX2_findDearest cX2_findDearest 5 ((none : Option FieldType)) 3 := ⟨⟨hmem 1182 (by decide +kernel) rfl, hmem 1183 (by decide +kernel) rfl, hmem 114 (by decide +kernel) rfl, hmem 1184 rfl rfl⟩, by decide, by decide, by decide +kernel⟩
set_option maxRecDepth 100000 in
theorem mk_X2_fishIfSalted : hMv yX2_fishIfSalted cX2_fishIfSalted 6 ((some FieldType.int)) 5 := ⟨⟨hmem 1175 (by decide +kernel) rfl, hmem 46 (by decide +kernel) rfl, hmem 114 (by decide +kernel) rfl, hmem 1176 rfl rfl⟩, by decide, by decide, by decide +kernel⟩
set_option maxRecDepth 100000 in
theorem mk_X2_isGlut : hMv yX2_isGlut cX2_isGlut 4 ((some FieldType.boolean)) 3 := ⟨⟨hmem 1020 (by decide +kernel) rfl, hmem 1021 (by decide +kernel) rfl, hmem 114 (by decide +kernel) rfl, hmem 1022 rfl rfl⟩, by decide, by decide, by decide +kernel⟩
set_option maxRecDepth 100000 in
theorem mk_X2_leastSalting : hMv yX2_leastSalting cX2_leastSalting 9 ((some FieldType.int)) 4 := ⟨⟨hmem 1170 (by decide +kernel) rfl, hmem 1171 (by decide +kernel) rfl, hmem 114 (by decide +kernel) rfl, hmem 1172 rfl rfl⟩, by decide, by decide, by decide +kernel⟩
set_option maxRecDepth 100000 in
theorem mk_X2_lot : hMs yX2_lot cX2_lot 4 ((some FieldType.int)) 3 := ⟨⟨hmem 1024 (by decide +kernel) rfl, hmem 114 (by decide +kernel) rfl, hmem 1025 rfl rfl⟩, by decide, by decide, by decide +kernel⟩
set_option maxRecDepth 100000 in
theorem mk_X2_mixed : hMs yX2_mixed cX2_mixed 3 ((some FieldType.int)) 2 := ⟨⟨hmem 1027 (by decide +kernel) rfl, hmem 114 (by decide +kernel) rfl, hmem 1028 rfl rfl⟩, by decide, by decide, by decide +kernel⟩
set_option maxRecDepth 100000 in
theorem mk_X2_passMany : hMv yX2_passMany cX2_passMany 6 ((none : Option FieldType)) 4 := ⟨⟨hmem 1012 (by decide +kernel) rfl, hmem 1013 (by decide +kernel) rfl, hmem 114 (by decide +kernel) rfl, hmem 1014 rfl rfl⟩, by decide, by decide, by decide +kernel⟩
set_option maxRecDepth 100000 in
theorem mk_X2_passOne : hMv yX2_passOne cX2_passOne 9 ((none : Option FieldType)) 3 := ⟨⟨hmem 1017 (by decide +kernel) rfl, hmem 40 (by decide +kernel) rfl, hmem 114 (by decide +kernel) rfl, hmem 1018 rfl rfl⟩, by decide, by decide, by decide +kernel⟩
set_option maxRecDepth 100000 in
theorem mk_X2_price : hMv yX2_price cX2_price 4 ((some FieldType.int)) 2 := ⟨⟨hmem 928 (by decide +kernel) rfl, hmem 929 (by decide +kernel) rfl, hmem 114 (by decide +kernel) rfl, hmem 930 rfl rfl⟩, by decide, by decide, by decide +kernel⟩
set_option maxRecDepth 100000 in
theorem mk_X2_rotten : hMv yX2_rotten cX2_rotten 6 ((some FieldType.int)) 4 := ⟨⟨hmem 941 (by decide +kernel) rfl, hmem 942 (by decide +kernel) rfl, hmem 114 (by decide +kernel) rfl, hmem 943 rfl rfl⟩, by decide, by decide, by decide +kernel⟩
set_option maxRecDepth 100000 in
theorem mk_X2_setVars : hMs yX2_setVars cX2_setVars 5 ((none : Option FieldType)) 4 := ⟨⟨hmem 895 (by decide +kernel) rfl, hmem 114 (by decide +kernel) rfl, hmem 896 rfl rfl⟩, by decide, by decide, by decide +kernel⟩
set_option maxRecDepth 100000 in
theorem mk_X2_votes : hMv yX2_votes cX2_votes 5 ((some FieldType.int)) 4 := ⟨⟨hmem 891 (by decide +kernel) rfl, hmem 892 (by decide +kernel) rfl, hmem 114 (by decide +kernel) rfl, hmem 893 rfl rfl⟩, by decide, by decide, by decide +kernel⟩
set_option maxRecDepth 100000 in
theorem mk_X2_weigh : hMv yX2_weigh cX2_weigh 3 ((none : Option FieldType)) 2 := ⟨⟨hmem 1163 (by decide +kernel) rfl, hmem 45 (by decide +kernel) rfl, hmem 114 (by decide +kernel) rfl, hmem 1164 rfl rfl⟩, by decide, by decide, by decide +kernel⟩
set_option maxRecDepth 100000 in
theorem mk_X2_within : hMs yX2_within cX2_within 3 ((some FieldType.int)) 3 := ⟨⟨hmem 909 (by decide +kernel) rfl, hmem 114 (by decide +kernel) rfl, hmem 910 rfl rfl⟩, by decide, by decide, by decide +kernel⟩
set_option maxRecDepth 100000 in
theorem mk_X3_init : hMi yX3_init cX3_init 1 0 := ⟨⟨hmem 372 (by decide +kernel) rfl, hmem 116 (by decide +kernel) rfl, hmem 373 rfl rfl, rfl⟩, by decide, by decide, by decide +kernel⟩
set_option maxRecDepth 100000 in
theorem mk_X3_bestQuestion : hMv yX3_bestQuestion cX3_bestQuestion 8 ((some FieldType.int)) 2 := ⟨⟨hmem 1266 (by decide +kernel) rfl, hmem 1267 (by decide +kernel) rfl, hmem 116 (by decide +kernel) rfl, hmem 1268 rfl rfl⟩, by decide, by decide, by decide +kernel⟩
set_option maxRecDepth 100000 in
theorem mk_X3_eaters : hMv yX3_eaters cX3_eaters 8 ((some FieldType.int)) 3 := ⟨⟨hmem 1051 (by decide +kernel) rfl, hmem 1052 (by decide +kernel) rfl, hmem 116 (by decide +kernel) rfl, hmem 1053 rfl rfl⟩, by decide, by decide, by decide +kernel⟩
set_option maxRecDepth 100000 in
theorem mk_X3_eatsIn : hMv yX3_eatsIn cX3_eatsIn 5 ((some FieldType.boolean)) 4 := ⟨⟨hmem 1087 (by decide +kernel) rfl, hmem 42 (by decide +kernel) rfl, hmem 116 (by decide +kernel) rfl, hmem 1088 rfl rfl⟩, by decide, by decide, by decide +kernel⟩
set_option maxRecDepth 100000 in
theorem mk_X3_fewestCalmed : hMv yX3_fewestCalmed cX3_fewestCalmed 8 ((some FieldType.int)) 3 := ⟨⟨hmem 1079 (by decide +kernel) rfl, hmem 1080 (by decide +kernel) rfl, hmem 116 (by decide +kernel) rfl, hmem 1081 rfl rfl⟩, by decide, by decide, by decide +kernel⟩
set_option maxRecDepth 100000 in
theorem mk_X3_fits : hMv yX3_fits cX3_fits 5 ((some FieldType.boolean)) 2 := ⟨⟨hmem 1259 (by decide +kernel) rfl, hmem 48 (by decide +kernel) rfl, hmem 116 (by decide +kernel) rfl, hmem 1260 rfl rfl⟩, by decide, by decide, by decide +kernel⟩
set_option maxRecDepth 100000 in
theorem mk_X3_isAhead : hMs yX3_isAhead cX3_isAhead 6 ((some FieldType.boolean)) 2 := ⟨⟨hmem 1083 (by decide +kernel) rfl, hmem 116 (by decide +kernel) rfl, hmem 1084 rfl rfl⟩, by decide, by decide, by decide +kernel⟩
set_option maxRecDepth 100000 in
theorem mk_X3_member : hMv yX3_member cX3_member 5 ((some FieldType.int)) 2 := ⟨⟨hmem 1090 (by decide +kernel) rfl, hmem 1091 (by decide +kernel) rfl, hmem 116 (by decide +kernel) rfl, hmem 1092 rfl rfl⟩, by decide, by decide, by decide +kernel⟩
set_option maxRecDepth 100000 in
theorem mk_X3_note : hMv yX3_note cX3_note 3 ((some FieldType.int)) 2 := ⟨⟨hmem 1242 (by decide +kernel) rfl, hmem 1243 (by decide +kernel) rfl, hmem 116 (by decide +kernel) rfl, hmem 1244 rfl rfl⟩, by decide, by decide, by decide +kernel⟩
set_option maxRecDepth 100000 in
theorem mk_X3_quietFor : hMv yX3_quietFor cX3_quietFor 5 ((some FieldType.int)) 2 := ⟨⟨hmem 1202 (by decide +kernel) rfl, hmem 1203 (by decide +kernel) rfl, hmem 116 (by decide +kernel) rfl, hmem 1204 rfl rfl⟩, by decide, by decide, by decide +kernel⟩
set_option maxRecDepth 100000 in
theorem mk_X3_suspects : hMv yX3_suspects cX3_suspects 5 ((some FieldType.int)) 2 := ⟨⟨hmem 1254 (by decide +kernel) rfl, hmem 1255 (by decide +kernel) rfl, hmem 116 (by decide +kernel) rfl, hmem 1256 rfl rfl⟩, by decide, by decide, by decide +kernel⟩
set_option maxRecDepth 100000 in
theorem mk_X3_widest : hMv yX3_widest cX3_widest 6 ((some FieldType.int)) 1 := ⟨⟨hmem 1069 (by decide +kernel) rfl, hmem 1070 (by decide +kernel) rfl, hmem 116 (by decide +kernel) rfl, hmem 1071 rfl rfl⟩, by decide, by decide, by decide +kernel⟩
set_option maxRecDepth 100000 in
theorem mk_X4_init : hMi yX4_init cX4_init 2 1 := ⟨⟨hmem 184 (by decide +kernel) rfl, hmem 110 (by decide +kernel) rfl, hmem 185 rfl rfl, rfl⟩, by decide, by decide, by decide +kernel⟩
set_option maxRecDepth 100000 in
theorem mk_X4_fail : hMv yX4_fail cX4_fail 2 ((none : Option FieldType)) 1 := ⟨⟨hmem 750 (by decide +kernel) rfl, hmem 11 (by decide +kernel) rfl, hmem 110 (by decide +kernel) rfl, hmem 751 rfl rfl⟩, by decide, by decide, by decide +kernel⟩
set_option maxRecDepth 100000 in
theorem mk_X4_isOne : hMv yX4_isOne cX4_isOne 3 ((some FieldType.boolean)) 2 := ⟨⟨hmem 788 (by decide +kernel) rfl, hmem 19 (by decide +kernel) rfl, hmem 110 (by decide +kernel) rfl, hmem 789 rfl rfl⟩, by decide, by decide, by decide +kernel⟩
set_option maxRecDepth 100000 in
theorem mk_X4_parse : hMv yX4_parse cX4_parse 3 ((none : Option FieldType)) 1 := ⟨⟨hmem 733 (by decide +kernel) rfl, hmem 734 (by decide +kernel) rfl, hmem 110 (by decide +kernel) rfl, hmem 735 rfl rfl⟩, by decide, by decide, by decide +kernel⟩
set_option maxRecDepth 100000 in
theorem mk_X4_parseHearing : hMv yX4_parseHearing cX4_parseHearing 1 ((none : Option FieldType)) 0 := ⟨⟨hmem 758 (by decide +kernel) rfl, hmem 13 (by decide +kernel) rfl, hmem 110 (by decide +kernel) rfl, hmem 759 rfl rfl⟩, by decide, by decide, by decide +kernel⟩
set_option maxRecDepth 100000 in
theorem mk_X4_parseHouse : hMv yX4_parseHouse cX4_parseHouse 2 ((none : Option FieldType)) 0 := ⟨⟨hmem 742 (by decide +kernel) rfl, hmem 9 (by decide +kernel) rfl, hmem 110 (by decide +kernel) rfl, hmem 743 rfl rfl⟩, by decide, by decide, by decide +kernel⟩
set_option maxRecDepth 100000 in
theorem mk_X4_parseLaw : hMv yX4_parseLaw cX4_parseLaw 4 ((none : Option FieldType)) 1 := ⟨⟨hmem 766 (by decide +kernel) rfl, hmem 15 (by decide +kernel) rfl, hmem 110 (by decide +kernel) rfl, hmem 767 rfl rfl⟩, by decide, by decide, by decide +kernel⟩
set_option maxRecDepth 100000 in
theorem mk_X4_parseMotion : hMv yX4_parseMotion cX4_parseMotion 2 ((none : Option FieldType)) 0 := ⟨⟨hmem 762 (by decide +kernel) rfl, hmem 14 (by decide +kernel) rfl, hmem 110 (by decide +kernel) rfl, hmem 763 rfl rfl⟩, by decide, by decide, by decide +kernel⟩
set_option maxRecDepth 100000 in
theorem mk_X4_parseNumber : hMv yX4_parseNumber cX4_parseNumber 1 ((none : Option FieldType)) 0 := ⟨⟨hmem 796 (by decide +kernel) rfl, hmem 20 (by decide +kernel) rfl, hmem 110 (by decide +kernel) rfl, hmem 797 rfl rfl⟩, by decide, by decide, by decide +kernel⟩
set_option maxRecDepth 100000 in
theorem mk_X4_parseProduct : hMv yX4_parseProduct cX4_parseProduct 4 ((none : Option FieldType)) 1 := ⟨⟨hmem 775 (by decide +kernel) rfl, hmem 17 (by decide +kernel) rfl, hmem 110 (by decide +kernel) rfl, hmem 776 rfl rfl⟩, by decide, by decide, by decide +kernel⟩
set_option maxRecDepth 100000 in
theorem mk_X4_parseSum : hMv yX4_parseSum cX4_parseSum 4 ((none : Option FieldType)) 1 := ⟨⟨hmem 771 (by decide +kernel) rfl, hmem 16 (by decide +kernel) rfl, hmem 110 (by decide +kernel) rfl, hmem 772 rfl rfl⟩, by decide, by decide, by decide +kernel⟩
set_option maxRecDepth 100000 in
theorem mk_X4_parseUnit : hMv yX4_parseUnit cX4_parseUnit 2 ((none : Option FieldType)) 1 := ⟨⟨hmem 779 (by decide +kernel) rfl, hmem 18 (by decide +kernel) rfl, hmem 110 (by decide +kernel) rfl, hmem 780 rfl rfl⟩, by decide, by decide, by decide +kernel⟩
set_option maxRecDepth 100000 in
theorem mk_X4_take : hMv yX4_take cX4_take 2 ((none : Option FieldType)) 1 := ⟨⟨hmem 754 (by decide +kernel) rfl, hmem 12 (by decide +kernel) rfl, hmem 110 (by decide +kernel) rfl, hmem 755 rfl rfl⟩, by decide, by decide, by decide +kernel⟩
set_option maxRecDepth 100000 in
theorem mk_X4_takeSort : hMv yX4_takeSort cX4_takeSort 3 ((none : Option FieldType)) 2 := ⟨⟨hmem 746 (by decide +kernel) rfl, hmem 10 (by decide +kernel) rfl, hmem 110 (by decide +kernel) rfl, hmem 747 rfl rfl⟩, by decide, by decide, by decide +kernel⟩
set_option maxRecDepth 100000 in
theorem mk_X5_init : hMi yX5_init cX5_init 1 0 := ⟨⟨hmem 291 (by decide +kernel) rfl, hmem 113 (by decide +kernel) rfl, hmem 292 rfl rfl, rfl⟩, by decide, by decide, by decide +kernel⟩
set_option maxRecDepth 100000 in
theorem mk_X5_bringBack : hMv yX5_bringBack cX5_bringBack 2 ((some FieldType.boolean)) 1 := ⟨⟨hmem 1039 (by decide +kernel) rfl, hmem 1040 (by decide +kernel) rfl, hmem 113 (by decide +kernel) rfl, hmem 1041 rfl rfl⟩, by decide, by decide, by decide +kernel⟩
set_option maxRecDepth 100000 in
theorem mk_X5_clear : hMv yX5_clear cX5_clear 2 ((none : Option FieldType)) 0 := ⟨⟨hmem 867 (by decide +kernel) rfl, hmem 868 (by decide +kernel) rfl, hmem 113 (by decide +kernel) rfl, hmem 869 rfl rfl⟩, by decide, by decide, by decide +kernel⟩
set_option maxRecDepth 100000 in
theorem mk_X5_fetch : hMv yX5_fetch cX5_fetch 3 ((some FieldType.boolean)) 2 := ⟨⟨hmem 1284 (by decide +kernel) rfl, hmem 1285 (by decide +kernel) rfl, hmem 113 (by decide +kernel) rfl, hmem 1286 rfl rfl⟩, by decide, by decide, by decide +kernel⟩
set_option maxRecDepth 100000 in
theorem mk_X5_keep : hMv yX5_keep cX5_keep 2 ((none : Option FieldType)) 1 := ⟨⟨hmem 961 (by decide +kernel) rfl, hmem 962 (by decide +kernel) rfl, hmem 113 (by decide +kernel) rfl, hmem 963 rfl rfl⟩, by decide, by decide, by decide +kernel⟩
set_option maxRecDepth 100000 in
theorem mk_X5_rowOf : hMv yX5_rowOf cX5_rowOf 2 ((some FieldType.int)) 1 := ⟨⟨hmem 966 (by decide +kernel) rfl, hmem 38 (by decide +kernel) rfl, hmem 113 (by decide +kernel) rfl, hmem 967 rfl rfl⟩, by decide, by decide, by decide +kernel⟩
set_option maxRecDepth 100000 in
theorem mk_X5_slotsHeld : hMv yX5_slotsHeld cX5_slotsHeld 3 ((some FieldType.int)) 0 := ⟨⟨hmem 1293 (by decide +kernel) rfl, hmem 1294 (by decide +kernel) rfl, hmem 113 (by decide +kernel) rfl, hmem 1295 rfl rfl⟩, by decide, by decide, by decide +kernel⟩
set_option maxRecDepth 100000 in
theorem mk_X5_store : hMv yX5_store cX5_store 3 ((some FieldType.boolean)) 2 := ⟨⟨hmem 1276 (by decide +kernel) rfl, hmem 1277 (by decide +kernel) rfl, hmem 113 (by decide +kernel) rfl, hmem 1278 rfl rfl⟩, by decide, by decide, by decide +kernel⟩
set_option maxRecDepth 100000 in
theorem mk_X6_init : hMi yX6_init cX6_init 1 0 := ⟨⟨hmem 247 (by decide +kernel) rfl, hmem 112 (by decide +kernel) rfl, hmem 248 rfl rfl, rfl⟩, by decide, by decide, by decide +kernel⟩
set_option maxRecDepth 100000 in
theorem mk_X6_allFish : hMv yX6_allFish cX6_allFish 1 ((some FieldType.int)) 0 := ⟨⟨hmem 883 (by decide +kernel) rfl, hmem 884 (by decide +kernel) rfl, hmem 112 (by decide +kernel) rfl, hmem 885 rfl rfl⟩, by decide, by decide, by decide +kernel⟩
set_option maxRecDepth 100000 in
theorem mk_X6_begin : hMv yX6_begin cX6_begin 3 ((none : Option FieldType)) 1 := ⟨⟨hmem 514 (by decide +kernel) rfl, hmem 515 (by decide +kernel) rfl, hmem 112 (by decide +kernel) rfl, hmem 516 rfl rfl⟩, by decide, by decide, by decide +kernel⟩
set_option maxRecDepth 100000 in
theorem mk_X6_consume : hMv yX6_consume cX6_consume 3 ((none : Option FieldType)) 2 := ⟨⟨hmem 986 (by decide +kernel) rfl, hmem 987 (by decide +kernel) rfl, hmem 112 (by decide +kernel) rfl, hmem 988 rfl rfl⟩, by decide, by decide, by decide +kernel⟩
set_option maxRecDepth 100000 in
theorem mk_X6_copy : hMv yX6_copy cX6_copy 2 ((none : Option FieldType)) 1 := ⟨⟨hmem 1156 (by decide +kernel) rfl, hmem 1157 (by decide +kernel) rfl, hmem 112 (by decide +kernel) rfl, hmem 1158 rfl rfl⟩, by decide, by decide, by decide +kernel⟩
set_option maxRecDepth 100000 in
theorem mk_X6_fewestFish : hMv yX6_fewestFish cX6_fewestFish 3 ((some FieldType.int)) 0 := ⟨⟨hmem 1194 (by decide +kernel) rfl, hmem 1195 (by decide +kernel) rfl, hmem 112 (by decide +kernel) rfl, hmem 1196 rfl rfl⟩, by decide, by decide, by decide +kernel⟩
set_option maxRecDepth 100000 in
theorem mk_X6_fresh : hMv yX6_fresh cX6_fresh 2 ((some FieldType.int)) 1 := ⟨⟨hmem 945 (by decide +kernel) rfl, hmem 946 (by decide +kernel) rfl, hmem 112 (by decide +kernel) rfl, hmem 947 rfl rfl⟩, by decide, by decide, by decide +kernel⟩
set_option maxRecDepth 100000 in
theorem mk_X6_hasProxy : hMv yX6_hasProxy cX6_hasProxy 4 ((some FieldType.boolean)) 1 := ⟨⟨hmem 1000 (by decide +kernel) rfl, hmem 1001 (by decide +kernel) rfl, hmem 112 (by decide +kernel) rfl, hmem 1002 rfl rfl⟩, by decide, by decide, by decide +kernel⟩
set_option maxRecDepth 100000 in
theorem mk_X6_move : hMv yX6_move cX6_move 5 ((none : Option FieldType)) 3 := ⟨⟨hmem 976 (by decide +kernel) rfl, hmem 977 (by decide +kernel) rfl, hmem 112 (by decide +kernel) rfl, hmem 978 rfl rfl⟩, by decide, by decide, by decide +kernel⟩
set_option maxRecDepth 100000 in
theorem mk_X6_sum : hMv yX6_sum cX6_sum 4 ((some FieldType.int)) 1 := ⟨⟨hmem 887 (by decide +kernel) rfl, hmem 888 (by decide +kernel) rfl, hmem 112 (by decide +kernel) rfl, hmem 889 rfl rfl⟩, by decide, by decide, by decide +kernel⟩
set_option maxRecDepth 100000 in
theorem mk_X6_take : hMv yX6_take cX6_take 3 ((none : Option FieldType)) 2 := ⟨⟨hmem 1043 (by decide +kernel) rfl, hmem 1044 (by decide +kernel) rfl, hmem 112 (by decide +kernel) rfl, hmem 1045 rfl rfl⟩, by decide, by decide, by decide +kernel⟩
set_option maxRecDepth 100000 in
theorem mk_X6_write : hMv yX6_write cX6_write 3 ((none : Option FieldType)) 2 := ⟨⟨hmem 969 (by decide +kernel) rfl, hmem 970 (by decide +kernel) rfl, hmem 112 (by decide +kernel) rfl, hmem 971 rfl rfl⟩, by decide, by decide, by decide +kernel⟩
set_option maxRecDepth 100000 in
theorem mk_X7_init : hMi yX7_init cX7_init 1 0 := ⟨⟨hmem 139 (by decide +kernel) rfl, hmem 108 (by decide +kernel) rfl, hmem 140 rfl rfl, rfl⟩, by decide, by decide, by decide +kernel⟩
set_option maxRecDepth 100000 in
theorem mk_X7_add : hMv yX7_add cX7_add 3 ((none : Option FieldType)) 1 := ⟨⟨hmem 563 (by decide +kernel) rfl, hmem 564 (by decide +kernel) rfl, hmem 108 (by decide +kernel) rfl, hmem 565 rfl rfl⟩, by decide, by decide, by decide +kernel⟩
set_option maxRecDepth 100000 in
theorem mk_X7_hasRoom : hMv yX7_hasRoom cX7_hasRoom 2 ((some FieldType.boolean)) 1 := ⟨⟨hmem 559 (by decide +kernel) rfl, hmem 560 (by decide +kernel) rfl, hmem 108 (by decide +kernel) rfl, hmem 561 rfl rfl⟩, by decide, by decide, by decide +kernel⟩
set_option maxRecDepth 100000 in
theorem mk_X7_sign : hMv yX7_sign cX7_sign 2 ((some FieldType.int)) 1 := ⟨⟨hmem 584 (by decide +kernel) rfl, hmem 585 (by decide +kernel) rfl, hmem 108 (by decide +kernel) rfl, hmem 586 rfl rfl⟩, by decide, by decide, by decide +kernel⟩
set_option maxRecDepth 100000 in
theorem mk_X8_init : hMi yX8_init cX8_init 2 1 := ⟨⟨hmem 217 (by decide +kernel) rfl, hmem 111 (by decide +kernel) rfl, hmem 218 rfl rfl, rfl⟩, by decide, by decide, by decide +kernel⟩
set_option maxRecDepth 100000 in
theorem mk_X8_addSupporter : hMv yX8_addSupporter cX8_addSupporter 5 ((none : Option FieldType)) 2 := ⟨⟨hmem 851 (by decide +kernel) rfl, hmem 30 (by decide +kernel) rfl, hmem 111 (by decide +kernel) rfl, hmem 852 rfl rfl⟩, by decide, by decide, by decide +kernel⟩
set_option maxRecDepth 100000 in
theorem mk_X8_checkNewName : hMv yX8_checkNewName cX8_checkNewName 4 ((none : Option FieldType)) 1 := ⟨⟨hmem 809 (by decide +kernel) rfl, hmem 22 (by decide +kernel) rfl, hmem 111 (by decide +kernel) rfl, hmem 810 rfl rfl⟩, by decide, by decide, by decide +kernel⟩
set_option maxRecDepth 100000 in
theorem mk_X8_fail : hMv yX8_fail cX8_fail 3 ((none : Option FieldType)) 2 := ⟨⟨hmem 826 (by decide +kernel) rfl, hmem 24 (by decide +kernel) rfl, hmem 111 (by decide +kernel) rfl, hmem 827 rfl rfl⟩, by decide, by decide, by decide +kernel⟩
set_option maxRecDepth 100000 in
theorem mk_X8_fill : hMv yX8_fill cX8_fill 4 ((none : Option FieldType)) 1 := ⟨⟨hmem 799 (by decide +kernel) rfl, hmem 800 (by decide +kernel) rfl, hmem 111 (by decide +kernel) rfl, hmem 801 rfl rfl⟩, by decide, by decide, by decide +kernel⟩
set_option maxRecDepth 100000 in
theorem mk_X8_fillHearing : hMv yX8_fillHearing cX8_fillHearing 4 ((none : Option FieldType)) 0 := ⟨⟨hmem 835 (by decide +kernel) rfl, hmem 26 (by decide +kernel) rfl, hmem 111 (by decide +kernel) rfl, hmem 836 rfl rfl⟩, by decide, by decide, by decide +kernel⟩
set_option maxRecDepth 100000 in
theorem mk_X8_fillHouse : hMv yX8_fillHouse cX8_fillHouse 2 ((none : Option FieldType)) 0 := ⟨⟨hmem 805 (by decide +kernel) rfl, hmem 21 (by decide +kernel) rfl, hmem 111 (by decide +kernel) rfl, hmem 806 rfl rfl⟩, by decide, by decide, by decide +kernel⟩
set_option maxRecDepth 100000 in
theorem mk_X8_fillMotion : hMv yX8_fillMotion cX8_fillMotion 3 ((none : Option FieldType)) 0 := ⟨⟨hmem 843 (by decide +kernel) rfl, hmem 28 (by decide +kernel) rfl, hmem 111 (by decide +kernel) rfl, hmem 844 rfl rfl⟩, by decide, by decide, by decide +kernel⟩
set_option maxRecDepth 100000 in
theorem mk_X8_fillNumber : hMv yX8_fillNumber cX8_fillNumber 2 ((none : Option FieldType)) 1 := ⟨⟨hmem 855 (by decide +kernel) rfl, hmem 31 (by decide +kernel) rfl, hmem 111 (by decide +kernel) rfl, hmem 856 rfl rfl⟩, by decide, by decide, by decide +kernel⟩
set_option maxRecDepth 100000 in
theorem mk_X8_houseNamed : hMv yX8_houseNamed cX8_houseNamed 3 ((some FieldType.int)) 1 := ⟨⟨hmem 813 (by decide +kernel) rfl, hmem 23 (by decide +kernel) rfl, hmem 111 (by decide +kernel) rfl, hmem 814 rfl rfl⟩, by decide, by decide, by decide +kernel⟩
set_option maxRecDepth 100000 in
theorem mk_X8_isTellEnd : hMv yX8_isTellEnd cX8_isTellEnd 2 ((some FieldType.boolean)) 1 := ⟨⟨hmem 847 (by decide +kernel) rfl, hmem 29 (by decide +kernel) rfl, hmem 111 (by decide +kernel) rfl, hmem 848 rfl rfl⟩, by decide, by decide, by decide +kernel⟩
set_option maxRecDepth 100000 in
theorem mk_X8_knownHouse : hMv yX8_knownHouse cX8_knownHouse 3 ((some FieldType.int)) 1 := ⟨⟨hmem 839 (by decide +kernel) rfl, hmem 27 (by decide +kernel) rfl, hmem 111 (by decide +kernel) rfl, hmem 840 rfl rfl⟩, by decide, by decide, by decide +kernel⟩
set_option maxRecDepth 100000 in
theorem mk_X8_number : hMv yX8_number cX8_number 4 ((some FieldType.int)) 2 := ⟨⟨hmem 830 (by decide +kernel) rfl, hmem 25 (by decide +kernel) rfl, hmem 111 (by decide +kernel) rfl, hmem 831 rfl rfl⟩, by decide, by decide, by decide +kernel⟩
set_option maxRecDepth 100000 in
theorem mk_X8_skipTell : hMv yX8_skipTell cX8_skipTell 2 ((none : Option FieldType)) 0 := ⟨⟨hmem 859 (by decide +kernel) rfl, hmem 32 (by decide +kernel) rfl, hmem 111 (by decide +kernel) rfl, hmem 860 rfl rfl⟩, by decide, by decide, by decide +kernel⟩
set_option maxRecDepth 100000 in
theorem mk_X9_init : hMi yX9_init cX9_init 2 1 := ⟨⟨hmem 155 (by decide +kernel) rfl, hmem 109 (by decide +kernel) rfl, hmem 156 rfl rfl, rfl⟩, by decide, by decide, by decide +kernel⟩
set_option maxRecDepth 100000 in
theorem mk_X9_digits : hMv yX9_digits cX9_digits 3 ((some FieldType.int)) 0 := ⟨⟨hmem 655 (by decide +kernel) rfl, hmem 6 (by decide +kernel) rfl, hmem 109 (by decide +kernel) rfl, hmem 656 rfl rfl⟩, by decide, by decide, by decide +kernel⟩
set_option maxRecDepth 100000 in
theorem mk_X9_isBlank : hMs yX9_isBlank cX9_isBlank 1 ((some FieldType.boolean)) 1 := ⟨⟨hmem 588 (by decide +kernel) rfl, hmem 109 (by decide +kernel) rfl, hmem 589 rfl rfl⟩, by decide, by decide, by decide +kernel⟩
set_option maxRecDepth 100000 in
theorem mk_X9_isDigit : hMs yX9_isDigit cX9_isDigit 1 ((some FieldType.boolean)) 1 := ⟨⟨hmem 651 (by decide +kernel) rfl, hmem 109 (by decide +kernel) rfl, hmem 652 rfl rfl⟩, by decide, by decide, by decide +kernel⟩
set_option maxRecDepth 100000 in
theorem mk_X9_isLetter : hMs yX9_isLetter cX9_isLetter 1 ((some FieldType.boolean)) 1 := ⟨⟨hmem 595 (by decide +kernel) rfl, hmem 109 (by decide +kernel) rfl, hmem 596 rfl rfl⟩, by decide, by decide, by decide +kernel⟩
set_option maxRecDepth 100000 in
theorem mk_X9_isWord : hMv yX9_isWord cX9_isWord 6 ((some FieldType.boolean)) 2 := ⟨⟨hmem 607 (by decide +kernel) rfl, hmem 5 (by decide +kernel) rfl, hmem 109 (by decide +kernel) rfl, hmem 608 rfl rfl⟩, by decide, by decide, by decide +kernel⟩
set_option maxRecDepth 100000 in
theorem mk_X9_kind : hMv yX9_kind cX9_kind 2 ((some FieldType.int)) 1 := ⟨⟨hmem 737 (by decide +kernel) rfl, hmem 738 (by decide +kernel) rfl, hmem 109 (by decide +kernel) rfl, hmem 739 rfl rfl⟩, by decide, by decide, by decide +kernel⟩
set_option maxRecDepth 100000 in
theorem mk_X9_letters : hMv yX9_letters cX9_letters 3 ((some FieldType.int)) 0 := ⟨⟨hmem 599 (by decide +kernel) rfl, hmem 3 (by decide +kernel) rfl, hmem 109 (by decide +kernel) rfl, hmem 600 rfl rfl⟩, by decide, by decide, by decide +kernel⟩
set_option maxRecDepth 100000 in
theorem mk_X9_number : hMv yX9_number cX9_number 4 ((some FieldType.int)) 1 := ⟨⟨hmem 659 (by decide +kernel) rfl, hmem 7 (by decide +kernel) rfl, hmem 109 (by decide +kernel) rfl, hmem 660 rfl rfl⟩, by decide, by decide, by decide +kernel⟩
set_option maxRecDepth 100000 in
theorem mk_X9_placeOf : hMv yX9_placeOf cX9_placeOf 2 ((some FieldType.int)) 1 := ⟨⟨hmem 821 (by decide +kernel) rfl, hmem 822 (by decide +kernel) rfl, hmem 109 (by decide +kernel) rfl, hmem 823 rfl rfl⟩, by decide, by decide, by decide +kernel⟩
set_option maxRecDepth 100000 in
theorem mk_X9_put : hMv yX9_put cX9_put 3 ((none : Option FieldType)) 2 := ⟨⟨hmem 730 (by decide +kernel) rfl, hmem 8 (by decide +kernel) rfl, hmem 109 (by decide +kernel) rfl, hmem 731 rfl rfl⟩, by decide, by decide, by decide +kernel⟩
set_option maxRecDepth 100000 in
theorem mk_X9_sameName : hMv yX9_sameName cX9_sameName 6 ((some FieldType.boolean)) 2 := ⟨⟨hmem 816 (by decide +kernel) rfl, hmem 817 (by decide +kernel) rfl, hmem 109 (by decide +kernel) rfl, hmem 818 rfl rfl⟩, by decide, by decide, by decide +kernel⟩
set_option maxRecDepth 100000 in
theorem mk_X9_scan : hMv yX9_scan cX9_scan 3 ((none : Option FieldType)) 0 := ⟨⟨hmem 576 (by decide +kernel) rfl, hmem 577 (by decide +kernel) rfl, hmem 109 (by decide +kernel) rfl, hmem 578 rfl rfl⟩, by decide, by decide, by decide +kernel⟩
set_option maxRecDepth 100000 in
theorem mk_X9_scanOne : hMv yX9_scanOne cX9_scanOne 6 ((some FieldType.boolean)) 0 := ⟨⟨hmem 592 (by decide +kernel) rfl, hmem 2 (by decide +kernel) rfl, hmem 109 (by decide +kernel) rfl, hmem 593 rfl rfl⟩, by decide, by decide, by decide +kernel⟩
set_option maxRecDepth 100000 in
theorem mk_X9_skipBlanks : hMv yX9_skipBlanks cX9_skipBlanks 2 ((none : Option FieldType)) 0 := ⟨⟨hmem 581 (by decide +kernel) rfl, hmem 1 (by decide +kernel) rfl, hmem 109 (by decide +kernel) rfl, hmem 582 rfl rfl⟩, by decide, by decide, by decide +kernel⟩
set_option maxRecDepth 100000 in
theorem mk_X9_value : hMv yX9_value cX9_value 2 ((some FieldType.int)) 1 := ⟨⟨hmem 782 (by decide +kernel) rfl, hmem 783 (by decide +kernel) rfl, hmem 109 (by decide +kernel) rfl, hmem 784 rfl rfl⟩, by decide, by decide, by decide +kernel⟩
set_option maxRecDepth 100000 in
theorem mk_X9_wordOrName : hMv yX9_wordOrName cX9_wordOrName 3 ((some FieldType.int)) 1 := ⟨⟨hmem 603 (by decide +kernel) rfl, hmem 4 (by decide +kernel) rfl, hmem 109 (by decide +kernel) rfl, hmem 604 rfl rfl⟩, by decide, by decide, by decide +kernel⟩
set_option maxRecDepth 100000 in
theorem mk_X10_init : hMi yX10_init cX10_init 1 0 := ⟨⟨hmem 389 (by decide +kernel) rfl, hmem 117 (by decide +kernel) rfl, hmem 390 rfl rfl, rfl⟩, by decide, by decide, by decide +kernel⟩
set_option maxRecDepth 100000 in
theorem mk_X10_allHunger : hMv yX10_allHunger cX10_allHunger 3 ((some FieldType.int)) 0 := ⟨⟨hmem 1210 (by decide +kernel) rfl, hmem 1211 (by decide +kernel) rfl, hmem 117 (by decide +kernel) rfl, hmem 1212 rfl rfl⟩, by decide, by decide, by decide +kernel⟩
set_option maxRecDepth 100000 in
theorem mk_X10_clear : hMv yX10_clear cX10_clear 1 ((none : Option FieldType)) 0 := ⟨⟨hmem 419 (by decide +kernel) rfl, hmem 420 (by decide +kernel) rfl, hmem 117 (by decide +kernel) rfl, hmem 421 rfl rfl⟩, by decide, by decide, by decide +kernel⟩
set_option maxRecDepth 100000 in
theorem mk_X12_init : hMi yX12_init cX12_init 1 0 := ⟨⟨hmem 1304 (by decide +kernel) rfl, hmem 119 (by decide +kernel) rfl, hmem 1305 rfl rfl, rfl⟩, by decide, by decide, by decide +kernel⟩
set_option maxRecDepth 100000 in
theorem mk_X12_allIn : hMv yX12_allIn cX12_allIn 2 ((some FieldType.int)) 1 := ⟨⟨hmem 1880 (by decide +kernel) rfl, hmem 1881 (by decide +kernel) rfl, hmem 119 (by decide +kernel) rfl, hmem 1882 rfl rfl⟩, by decide, by decide, by decide +kernel⟩
set_option maxRecDepth 100000 in
theorem mk_X12_allies : hMv yX12_allies cX12_allies 2 ((some FieldType.int)) 1 := ⟨⟨hmem 1814 (by decide +kernel) rfl, hmem 1815 (by decide +kernel) rfl, hmem 119 (by decide +kernel) rfl, hmem 1816 rfl rfl⟩, by decide, by decide, by decide +kernel⟩
set_option maxRecDepth 100000 in
theorem mk_X12_appends : hMs yX12_appends cX12_appends 3 ((some FieldType.long)) 2 := ⟨⟨hmem 1315 (by decide +kernel) rfl, hmem 119 (by decide +kernel) rfl, hmem 1316 rfl rfl⟩, by decide, by decide, by decide +kernel⟩
set_option maxRecDepth 100000 in
theorem mk_X12_ask : hMv yX12_ask cX12_ask 8 ((some FieldType.int)) 1 := ⟨⟨hmem 1908 (by decide +kernel) rfl, hmem 1909 (by decide +kernel) rfl, hmem 119 (by decide +kernel) rfl, hmem 1910 rfl rfl⟩, by decide, by decide, by decide +kernel⟩
set_option maxRecDepth 100000 in
theorem mk_X12_back : hMv yX12_back cX12_back 2 ((some FieldType.int)) 1 := ⟨⟨hmem 1534 (by decide +kernel) rfl, hmem 1535 (by decide +kernel) rfl, hmem 119 (by decide +kernel) rfl, hmem 1536 rfl rfl⟩, by decide, by decide, by decide +kernel⟩
set_option maxRecDepth 100000 in
theorem mk_X12_began : hMv yX12_began cX12_began 4 ((some FieldType.int)) 2 := ⟨⟨hmem 1900 (by decide +kernel) rfl, hmem 1901 (by decide +kernel) rfl, hmem 119 (by decide +kernel) rfl, hmem 1902 rfl rfl⟩, by decide, by decide, by decide +kernel⟩
set_option maxRecDepth 100000 in
theorem mk_X12_beganBits : hMv yX12_beganBits cX12_beganBits 7 ((some FieldType.int)) 1 := ⟨⟨hmem 1905 (by decide +kernel) rfl, hmem 105 (by decide +kernel) rfl, hmem 119 (by decide +kernel) rfl, hmem 1906 rfl rfl⟩, by decide, by decide, by decide +kernel⟩
set_option maxRecDepth 100000 in
theorem mk_X12_begins : hMv yX12_begins cX12_begins 2 ((none : Option FieldType)) 0 := ⟨⟨hmem 1320 (by decide +kernel) rfl, hmem 51 (by decide +kernel) rfl, hmem 119 (by decide +kernel) rfl, hmem 1321 rfl rfl⟩, by decide, by decide, by decide +kernel⟩
set_option maxRecDepth 100000 in
theorem mk_X12_bits : hMs yX12_bits cX12_bits 3 ((some FieldType.int)) 1 := ⟨⟨hmem 1781 (by decide +kernel) rfl, hmem 119 (by decide +kernel) rfl, hmem 1782 rfl rfl⟩, by decide, by decide, by decide +kernel⟩
set_option maxRecDepth 100000 in
theorem mk_X12_bounded : hMv yX12_bounded cX12_bounded 4 ((some FieldType.int)) 2 := ⟨⟨hmem 1601 (by decide +kernel) rfl, hmem 67 (by decide +kernel) rfl, hmem 119 (by decide +kernel) rfl, hmem 1602 rfl rfl⟩, by decide, by decide, by decide +kernel⟩
set_option maxRecDepth 100000 in
theorem mk_X12_buy : hMv yX12_buy cX12_buy 7 ((some FieldType.int)) 3 := ⟨⟨hmem 1718 (by decide +kernel) rfl, hmem 1719 (by decide +kernel) rfl, hmem 119 (by decide +kernel) rfl, hmem 1720 rfl rfl⟩, by decide, by decide, by decide +kernel⟩
set_option maxRecDepth 100000 in
theorem mk_X12_byteAt : hMv yX12_byteAt cX12_byteAt 2 ((some FieldType.int)) 1 := ⟨⟨hmem 1547 (by decide +kernel) rfl, hmem 55 (by decide +kernel) rfl, hmem 119 (by decide +kernel) rfl, hmem 1548 rfl rfl⟩, by decide, by decide, by decide +kernel⟩
set_option maxRecDepth 100000 in
theorem mk_X12_calm : hMv yX12_calm cX12_calm 7 ((some FieldType.int)) 3 := ⟨⟨hmem 1788 (by decide +kernel) rfl, hmem 1789 (by decide +kernel) rfl, hmem 119 (by decide +kernel) rfl, hmem 1790 rfl rfl⟩, by decide, by decide, by decide +kernel⟩
set_option maxRecDepth 100000 in
theorem mk_X12_comesOut : hMv yX12_comesOut cX12_comesOut 3 ((none : Option FieldType)) 1 := ⟨⟨hmem 1641 (by decide +kernel) rfl, hmem 77 (by decide +kernel) rfl, hmem 119 (by decide +kernel) rfl, hmem 1642 rfl rfl⟩, by decide, by decide, by decide +kernel⟩
set_option maxRecDepth 100000 in
theorem mk_X12_copies : hMv yX12_copies cX12_copies 2 ((none : Option FieldType)) 0 := ⟨⟨hmem 1664 (by decide +kernel) rfl, hmem 80 (by decide +kernel) rfl, hmem 119 (by decide +kernel) rfl, hmem 1665 rfl rfl⟩, by decide, by decide, by decide +kernel⟩
set_option maxRecDepth 100000 in
theorem mk_X12_count : hMv yX12_count cX12_count 2 ((some FieldType.int)) 1 := ⟨⟨hmem 1920 (by decide +kernel) rfl, hmem 1921 (by decide +kernel) rfl, hmem 119 (by decide +kernel) rfl, hmem 1922 rfl rfl⟩, by decide, by decide, by decide +kernel⟩
set_option maxRecDepth 100000 in
theorem mk_X12_cut : hMv yX12_cut cX12_cut 8 ((none : Option FieldType)) 0 := ⟨⟨hmem 1543 (by decide +kernel) rfl, hmem 54 (by decide +kernel) rfl, hmem 119 (by decide +kernel) rfl, hmem 1544 rfl rfl⟩, by decide, by decide, by decide +kernel⟩
set_option maxRecDepth 100000 in
theorem mk_X12_dayGoes : hMv yX12_dayGoes cX12_dayGoes 3 ((none : Option FieldType)) 0 := ⟨⟨hmem 1758 (by decide +kernel) rfl, hmem 96 (by decide +kernel) rfl, hmem 119 (by decide +kernel) rfl, hmem 1759 rfl rfl⟩, by decide, by decide, by decide +kernel⟩
set_option maxRecDepth 100000 in
theorem mk_X12_days : hMv yX12_days cX12_days 2 ((some FieldType.int)) 1 := ⟨⟨hmem 1749 (by decide +kernel) rfl, hmem 1750 (by decide +kernel) rfl, hmem 119 (by decide +kernel) rfl, hmem 1751 rfl rfl⟩, by decide, by decide, by decide +kernel⟩
set_option maxRecDepth 100000 in
theorem mk_X12_deals : hMv yX12_deals cX12_deals 7 ((some FieldType.int)) 1 := ⟨⟨hmem 1884 (by decide +kernel) rfl, hmem 1885 (by decide +kernel) rfl, hmem 119 (by decide +kernel) rfl, hmem 1886 rfl rfl⟩, by decide, by decide, by decide +kernel⟩
set_option maxRecDepth 100000 in
theorem mk_X12_dearest : hMv yX12_dearest cX12_dearest 7 ((some FieldType.int)) 2 := ⟨⟨hmem 1853 (by decide +kernel) rfl, hmem 1854 (by decide +kernel) rfl, hmem 119 (by decide +kernel) rfl, hmem 1855 rfl rfl⟩, by decide, by decide, by decide +kernel⟩
set_option maxRecDepth 100000 in
theorem mk_X12_eat : hMv yX12_eat cX12_eat 3 ((some FieldType.int)) 2 := ⟨⟨hmem 1729 (by decide +kernel) rfl, hmem 1730 (by decide +kernel) rfl, hmem 119 (by decide +kernel) rfl, hmem 1731 rfl rfl⟩, by decide, by decide, by decide +kernel⟩
set_option maxRecDepth 100000 in
theorem mk_X12_eatsNow : hMv yX12_eatsNow cX12_eatsNow 2 ((some FieldType.int)) 1 := ⟨⟨hmem 1707 (by decide +kernel) rfl, hmem 89 (by decide +kernel) rfl, hmem 119 (by decide +kernel) rfl, hmem 1708 rfl rfl⟩, by decide, by decide, by decide +kernel⟩
set_option maxRecDepth 100000 in
theorem mk_X12_eatsUp : hMv yX12_eatsUp cX12_eatsUp 3 ((none : Option FieldType)) 2 := ⟨⟨hmem 1734 (by decide +kernel) rfl, hmem 93 (by decide +kernel) rfl, hmem 119 (by decide +kernel) rfl, hmem 1735 rfl rfl⟩, by decide, by decide, by decide +kernel⟩
set_option maxRecDepth 100000 in
theorem mk_X12_emit : hMv yX12_emit cX12_emit 3 ((none : Option FieldType)) 2 := ⟨⟨hmem 1637 (by decide +kernel) rfl, hmem 76 (by decide +kernel) rfl, hmem 119 (by decide +kernel) rfl, hmem 1638 rfl rfl⟩, by decide, by decide, by decide +kernel⟩
set_option maxRecDepth 100000 in
theorem mk_X12_ends : hMv yX12_ends cX12_ends 3 ((none : Option FieldType)) 2 := ⟨⟨hmem 1605 (by decide +kernel) rfl, hmem 68 (by decide +kernel) rfl, hmem 119 (by decide +kernel) rfl, hmem 1606 rfl rfl⟩, by decide, by decide, by decide +kernel⟩
set_option maxRecDepth 100000 in
theorem mk_X12_everybody : hMv yX12_everybody cX12_everybody 1 ((some FieldType.int)) 0 := ⟨⟨hmem 1819 (by decide +kernel) rfl, hmem 101 (by decide +kernel) rfl, hmem 119 (by decide +kernel) rfl, hmem 1820 rfl rfl⟩, by decide, by decide, by decide +kernel⟩
set_option maxRecDepth 100000 in
theorem mk_X12_expression : hMv yX12_expression cX12_expression 3 ((none : Option FieldType)) 0 := ⟨⟨hmem 1629 (by decide +kernel) rfl, hmem 74 (by decide +kernel) rfl, hmem 119 (by decide +kernel) rfl, hmem 1630 rfl rfl⟩, by decide, by decide, by decide +kernel⟩
set_option maxRecDepth 100000 in
theorem mk_X12_fail : hMv yX12_fail cX12_fail 2 ((none : Option FieldType)) 1 := ⟨⟨hmem 1577 (by decide +kernel) rfl, hmem 61 (by decide +kernel) rfl, hmem 119 (by decide +kernel) rfl, hmem 1578 rfl rfl⟩, by decide, by decide, by decide +kernel⟩
set_option maxRecDepth 100000 in
theorem mk_X12_feed : hMv yX12_feed cX12_feed 6 ((some FieldType.int)) 5 := ⟨⟨hmem 1526 (by decide +kernel) rfl, hmem 1527 (by decide +kernel) rfl, hmem 119 (by decide +kernel) rfl, hmem 1528 rfl rfl⟩, by decide, by decide, by decide +kernel⟩
set_option maxRecDepth 100000 in
theorem mk_X12_fewestFrom : hMv yX12_fewestFrom cX12_fewestFrom 7 ((some FieldType.int)) 2 := ⟨⟨hmem 1823 (by decide +kernel) rfl, hmem 102 (by decide +kernel) rfl, hmem 119 (by decide +kernel) rfl, hmem 1824 rfl rfl⟩, by decide, by decide, by decide +kernel⟩
set_option maxRecDepth 100000 in
theorem mk_X12_fillsVotes : hMv yX12_fillsVotes cX12_fillsVotes 2 ((none : Option FieldType)) 0 := ⟨⟨hmem 1803 (by decide +kernel) rfl, hmem 99 (by decide +kernel) rfl, hmem 119 (by decide +kernel) rfl, hmem 1804 rfl rfl⟩, by decide, by decide, by decide +kernel⟩
set_option maxRecDepth 100000 in
theorem mk_X12_forget : hMv yX12_forget cX12_forget 2 ((some FieldType.int)) 0 := ⟨⟨hmem 1896 (by decide +kernel) rfl, hmem 1897 (by decide +kernel) rfl, hmem 119 (by decide +kernel) rfl, hmem 1898 rfl rfl⟩, by decide, by decide, by decide +kernel⟩
set_option maxRecDepth 100000 in
theorem mk_X12_glutNow : hMv yX12_glutNow cX12_glutNow 2 ((some FieldType.int)) 1 := ⟨⟨hmem 1715 (by decide +kernel) rfl, hmem 91 (by decide +kernel) rfl, hmem 119 (by decide +kernel) rfl, hmem 1716 rfl rfl⟩, by decide, by decide, by decide +kernel⟩
set_option maxRecDepth 100000 in
theorem mk_X12_goes : hMv yX12_goes cX12_goes 3 ((none : Option FieldType)) 1 := ⟨⟨hmem 1754 (by decide +kernel) rfl, hmem 95 (by decide +kernel) rfl, hmem 119 (by decide +kernel) rfl, hmem 1755 rfl rfl⟩, by decide, by decide, by decide +kernel⟩
set_option maxRecDepth 100000 in
theorem mk_X12_goesOn : hMv yX12_goesOn cX12_goesOn 1 ((none : Option FieldType)) 0 := ⟨⟨hmem 1581 (by decide +kernel) rfl, hmem 62 (by decide +kernel) rfl, hmem 119 (by decide +kernel) rfl, hmem 1582 rfl rfl⟩, by decide, by decide, by decide +kernel⟩
set_option maxRecDepth 100000 in
theorem mk_X12_hasProxy : hMv yX12_hasProxy cX12_hasProxy 3 ((some FieldType.boolean)) 1 := ⟨⟨hmem 1746 (by decide +kernel) rfl, hmem 94 (by decide +kernel) rfl, hmem 119 (by decide +kernel) rfl, hmem 1747 rfl rfl⟩, by decide, by decide, by decide +kernel⟩
set_option maxRecDepth 100000 in
theorem mk_X12_hasWith : hMv yX12_hasWith cX12_hasWith 4 ((some FieldType.int)) 3 := ⟨⟨hmem 1850 (by decide +kernel) rfl, hmem 104 (by decide +kernel) rfl, hmem 119 (by decide +kernel) rfl, hmem 1851 rfl rfl⟩, by decide, by decide, by decide +kernel⟩
set_option maxRecDepth 100000 in
theorem mk_X12_held : hMs yX12_held cX12_held 3 ((some FieldType.int)) 3 := ⟨⟨hmem 1691 (by decide +kernel) rfl, hmem 119 (by decide +kernel) rfl, hmem 1692 rfl rfl⟩, by decide, by decide, by decide +kernel⟩
set_option maxRecDepth 100000 in
theorem mk_X12_hold : hMv yX12_hold cX12_hold 3 ((some FieldType.boolean)) 1 := ⟨⟨hmem 1912 (by decide +kernel) rfl, hmem 1913 (by decide +kernel) rfl, hmem 119 (by decide +kernel) rfl, hmem 1914 rfl rfl⟩, by decide, by decide, by decide +kernel⟩
set_option maxRecDepth 100000 in
theorem mk_X12_house : hMv yX12_house cX12_house 3 ((some FieldType.int)) 2 := ⟨⟨hmem 1652 (by decide +kernel) rfl, hmem 1653 (by decide +kernel) rfl, hmem 119 (by decide +kernel) rfl, hmem 1654 rfl rfl⟩, by decide, by decide, by decide +kernel⟩
set_option maxRecDepth 100000 in
theorem mk_X12_in : hMs yX12_in cX12_in 3 ((some FieldType.boolean)) 3 := ⟨⟨hmem 1660 (by decide +kernel) rfl, hmem 119 (by decide +kernel) rfl, hmem 1661 rfl rfl⟩, by decide, by decide, by decide +kernel⟩
set_option maxRecDepth 100000 in
theorem mk_X12_is : hMv yX12_is cX12_is 2 ((some FieldType.boolean)) 1 := ⟨⟨hmem 1565 (by decide +kernel) rfl, hmem 58 (by decide +kernel) rfl, hmem 119 (by decide +kernel) rfl, hmem 1566 rfl rfl⟩, by decide, by decide, by decide +kernel⟩
set_option maxRecDepth 100000 in
theorem mk_X12_isDigit : hMs yX12_isDigit cX12_isDigit 1 ((some FieldType.boolean)) 1 := ⟨⟨hmem 1557 (by decide +kernel) rfl, hmem 119 (by decide +kernel) rfl, hmem 1558 rfl rfl⟩, by decide, by decide, by decide +kernel⟩
set_option maxRecDepth 100000 in
theorem mk_X12_isEarlier : hMs yX12_isEarlier cX12_isEarlier 3 ((some FieldType.boolean)) 2 := ⟨⟨hmem 1792 (by decide +kernel) rfl, hmem 119 (by decide +kernel) rfl, hmem 1793 rfl rfl⟩, by decide, by decide, by decide +kernel⟩
set_option maxRecDepth 100000 in
theorem mk_X12_isFew : hMs yX12_isFew cX12_isFew 1 ((some FieldType.boolean)) 1 := ⟨⟨hmem 1842 (by decide +kernel) rfl, hmem 119 (by decide +kernel) rfl, hmem 1843 rfl rfl⟩, by decide, by decide, by decide +kernel⟩
set_option maxRecDepth 100000 in
theorem mk_X12_isGlut : hMv yX12_isGlut cX12_isGlut 1 ((some FieldType.boolean)) 0 := ⟨⟨hmem 1762 (by decide +kernel) rfl, hmem 97 (by decide +kernel) rfl, hmem 119 (by decide +kernel) rfl, hmem 1763 rfl rfl⟩, by decide, by decide, by decide +kernel⟩
set_option maxRecDepth 100000 in
theorem mk_X12_isHouse : hMv yX12_isHouse cX12_isHouse 2 ((some FieldType.boolean)) 1 := ⟨⟨hmem 1657 (by decide +kernel) rfl, hmem 79 (by decide +kernel) rfl, hmem 119 (by decide +kernel) rfl, hmem 1658 rfl rfl⟩, by decide, by decide, by decide +kernel⟩
set_option maxRecDepth 100000 in
theorem mk_X12_isLetter : hMs yX12_isLetter cX12_isLetter 1 ((some FieldType.boolean)) 1 := ⟨⟨hmem 1554 (by decide +kernel) rfl, hmem 119 (by decide +kernel) rfl, hmem 1555 rfl rfl⟩, by decide, by decide, by decide +kernel⟩
set_option maxRecDepth 100000 in
theorem mk_X12_isLong : hMs yX12_isLong cX12_isLong 1 ((some FieldType.boolean)) 1 := ⟨⟨hmem 1861 (by decide +kernel) rfl, hmem 119 (by decide +kernel) rfl, hmem 1862 rfl rfl⟩, by decide, by decide, by decide +kernel⟩
set_option maxRecDepth 100000 in
theorem mk_X12_isSome : hMs yX12_isSome cX12_isSome 1 ((some FieldType.boolean)) 1 := ⟨⟨hmem 1722 (by decide +kernel) rfl, hmem 119 (by decide +kernel) rfl, hmem 1723 rfl rfl⟩, by decide, by decide, by decide +kernel⟩
set_option maxRecDepth 100000 in
theorem mk_X12_ithOf : hMs yX12_ithOf cX12_ithOf 4 ((some FieldType.int)) 2 := ⟨⟨hmem 1795 (by decide +kernel) rfl, hmem 119 (by decide +kernel) rfl, hmem 1796 rfl rfl⟩, by decide, by decide, by decide +kernel⟩
set_option maxRecDepth 100000 in
theorem mk_X12_keepsRow : hMv yX12_keepsRow cX12_keepsRow 2 ((none : Option FieldType)) 0 := ⟨⟨hmem 1324 (by decide +kernel) rfl, hmem 52 (by decide +kernel) rfl, hmem 119 (by decide +kernel) rfl, hmem 1325 rfl rfl⟩, by decide, by decide, by decide +kernel⟩
set_option maxRecDepth 100000 in
theorem mk_X12_knownHouse : hMv yX12_knownHouse cX12_knownHouse 3 ((some FieldType.int)) 0 := ⟨⟨hmem 1613 (by decide +kernel) rfl, hmem 70 (by decide +kernel) rfl, hmem 119 (by decide +kernel) rfl, hmem 1614 rfl rfl⟩, by decide, by decide, by decide +kernel⟩
set_option maxRecDepth 100000 in
theorem mk_X12_lawTells : hMv yX12_lawTells cX12_lawTells 7 ((some FieldType.int)) 2 := ⟨⟨hmem 1684 (by decide +kernel) rfl, hmem 85 (by decide +kernel) rfl, hmem 119 (by decide +kernel) rfl, hmem 1685 rfl rfl⟩, by decide, by decide, by decide +kernel⟩
set_option maxRecDepth 100000 in
theorem mk_X12_looks : hMv yX12_looks cX12_looks 2 ((none : Option FieldType)) 0 := ⟨⟨hmem 1676 (by decide +kernel) rfl, hmem 83 (by decide +kernel) rfl, hmem 119 (by decide +kernel) rfl, hmem 1677 rfl rfl⟩, by decide, by decide, by decide +kernel⟩
set_option maxRecDepth 100000 in
theorem mk_X12_looksAt : hMv yX12_looksAt cX12_looksAt 2 ((none : Option FieldType)) 1 := ⟨⟨hmem 1672 (by decide +kernel) rfl, hmem 82 (by decide +kernel) rfl, hmem 119 (by decide +kernel) rfl, hmem 1673 rfl rfl⟩, by decide, by decide, by decide +kernel⟩
set_option maxRecDepth 100000 in
theorem mk_X12_mixed : hMs yX12_mixed cX12_mixed 3 ((some FieldType.int)) 2 := ⟨⟨hmem 1765 (by decide +kernel) rfl, hmem 119 (by decide +kernel) rfl, hmem 1766 rfl rfl⟩, by decide, by decide, by decide +kernel⟩
set_option maxRecDepth 100000 in
theorem mk_X12_mostOf : hMv yX12_mostOf cX12_mostOf 4 ((some FieldType.int)) 1 := ⟨⟨hmem 1827 (by decide +kernel) rfl, hmem 103 (by decide +kernel) rfl, hmem 119 (by decide +kernel) rfl, hmem 1828 rfl rfl⟩, by decide, by decide, by decide +kernel⟩
set_option maxRecDepth 100000 in
theorem mk_X12_motion : hMv yX12_motion cX12_motion 6 ((some FieldType.int)) 2 := ⟨⟨hmem 1830 (by decide +kernel) rfl, hmem 1831 (by decide +kernel) rfl, hmem 119 (by decide +kernel) rfl, hmem 1832 rfl rfl⟩, by decide, by decide, by decide +kernel⟩
set_option maxRecDepth 100000 in
theorem mk_X12_must : hMv yX12_must cX12_must 2 ((none : Option FieldType)) 1 := ⟨⟨hmem 1593 (by decide +kernel) rfl, hmem 65 (by decide +kernel) rfl, hmem 119 (by decide +kernel) rfl, hmem 1594 rfl rfl⟩, by decide, by decide, by decide +kernel⟩
set_option maxRecDepth 100000 in
theorem mk_X12_named : hMv yX12_named cX12_named 3 ((some FieldType.int)) 0 := ⟨⟨hmem 1589 (by decide +kernel) rfl, hmem 64 (by decide +kernel) rfl, hmem 119 (by decide +kernel) rfl, hmem 1590 rfl rfl⟩, by decide, by decide, by decide +kernel⟩
set_option maxRecDepth 100000 in
theorem mk_X12_ownVotes : hMv yX12_ownVotes cX12_ownVotes 2 ((some FieldType.int)) 1 := ⟨⟨hmem 1668 (by decide +kernel) rfl, hmem 81 (by decide +kernel) rfl, hmem 119 (by decide +kernel) rfl, hmem 1669 rfl rfl⟩, by decide, by decide, by decide +kernel⟩
set_option maxRecDepth 100000 in
theorem mk_X12_panic : hMv yX12_panic cX12_panic 2 ((some FieldType.int)) 1 := ⟨⟨hmem 1773 (by decide +kernel) rfl, hmem 1774 (by decide +kernel) rfl, hmem 119 (by decide +kernel) rfl, hmem 1775 rfl rfl⟩, by decide, by decide, by decide +kernel⟩
set_option maxRecDepth 100000 in
theorem mk_X12_panicBy : hMv yX12_panicBy cX12_panicBy 7 ((some FieldType.int)) 2 := ⟨⟨hmem 1778 (by decide +kernel) rfl, hmem 98 (by decide +kernel) rfl, hmem 119 (by decide +kernel) rfl, hmem 1779 rfl rfl⟩, by decide, by decide, by decide +kernel⟩
set_option maxRecDepth 100000 in
theorem mk_X12_place : hMv yX12_place cX12_place 1 ((some FieldType.int)) 0 := ⟨⟨hmem 1648 (by decide +kernel) rfl, hmem 1649 (by decide +kernel) rfl, hmem 119 (by decide +kernel) rfl, hmem 1650 rfl rfl⟩, by decide, by decide, by decide +kernel⟩
set_option maxRecDepth 100000 in
theorem mk_X12_plain : hMv yX12_plain cX12_plain 3 ((none : Option FieldType)) 1 := ⟨⟨hmem 1309 (by decide +kernel) rfl, hmem 50 (by decide +kernel) rfl, hmem 119 (by decide +kernel) rfl, hmem 1310 rfl rfl⟩, by decide, by decide, by decide +kernel⟩
set_option maxRecDepth 100000 in
theorem mk_X12_poorest : hMv yX12_poorest cX12_poorest 5 ((some FieldType.int)) 2 := ⟨⟨hmem 1857 (by decide +kernel) rfl, hmem 1858 (by decide +kernel) rfl, hmem 119 (by decide +kernel) rfl, hmem 1859 rfl rfl⟩, by decide, by decide, by decide +kernel⟩
set_option maxRecDepth 100000 in
theorem mk_X12_power : hMv yX12_power cX12_power 8 ((some FieldType.int)) 2 := ⟨⟨hmem 1798 (by decide +kernel) rfl, hmem 1799 (by decide +kernel) rfl, hmem 119 (by decide +kernel) rfl, hmem 1800 rfl rfl⟩, by decide, by decide, by decide +kernel⟩
set_option maxRecDepth 100000 in
theorem mk_X12_priceIn : hMv yX12_priceIn cX12_priceIn 2 ((some FieldType.int)) 1 := ⟨⟨hmem 1872 (by decide +kernel) rfl, hmem 1873 (by decide +kernel) rfl, hmem 119 (by decide +kernel) rfl, hmem 1874 rfl rfl⟩, by decide, by decide, by decide +kernel⟩
set_option maxRecDepth 100000 in
theorem mk_X12_priceNow : hMv yX12_priceNow cX12_priceNow 1 ((some FieldType.int)) 0 := ⟨⟨hmem 1703 (by decide +kernel) rfl, hmem 88 (by decide +kernel) rfl, hmem 119 (by decide +kernel) rfl, hmem 1704 rfl rfl⟩, by decide, by decide, by decide +kernel⟩
set_option maxRecDepth 100000 in
theorem mk_X12_proxy : hMv yX12_proxy cX12_proxy 4 ((some FieldType.boolean)) 2 := ⟨⟨hmem 1741 (by decide +kernel) rfl, hmem 1742 (by decide +kernel) rfl, hmem 119 (by decide +kernel) rfl, hmem 1743 rfl rfl⟩, by decide, by decide, by decide +kernel⟩
set_option maxRecDepth 100000 in
theorem mk_X12_put : hMv yX12_put cX12_put 3 ((none : Option FieldType)) 1 := ⟨⟨hmem 1531 (by decide +kernel) rfl, hmem 53 (by decide +kernel) rfl, hmem 119 (by decide +kernel) rfl, hmem 1532 rfl rfl⟩, by decide, by decide, by decide +kernel⟩
set_option maxRecDepth 100000 in
theorem mk_X12_quiet : hMv yX12_quiet cX12_quiet 4 ((some FieldType.int)) 1 := ⟨⟨hmem 1864 (by decide +kernel) rfl, hmem 1865 (by decide +kernel) rfl, hmem 119 (by decide +kernel) rfl, hmem 1866 rfl rfl⟩, by decide, by decide, by decide +kernel⟩
set_option maxRecDepth 100000 in
theorem mk_X12_read : hMv yX12_read cX12_read 2 ((some FieldType.int)) 0 := ⟨⟨hmem 1538 (by decide +kernel) rfl, hmem 1539 (by decide +kernel) rfl, hmem 119 (by decide +kernel) rfl, hmem 1540 rfl rfl⟩, by decide, by decide, by decide +kernel⟩
set_option maxRecDepth 100000 in
theorem mk_X12_records : hMv yX12_records cX12_records 2 ((none : Option FieldType)) 0 := ⟨⟨hmem 1726 (by decide +kernel) rfl, hmem 92 (by decide +kernel) rfl, hmem 119 (by decide +kernel) rfl, hmem 1727 rfl rfl⟩, by decide, by decide, by decide +kernel⟩
set_option maxRecDepth 100000 in
theorem mk_X12_restore : hMv yX12_restore cX12_restore 3 ((some FieldType.boolean)) 1 := ⟨⟨hmem 1916 (by decide +kernel) rfl, hmem 1917 (by decide +kernel) rfl, hmem 119 (by decide +kernel) rfl, hmem 1918 rfl rfl⟩, by decide, by decide, by decide +kernel⟩
set_option maxRecDepth 100000 in
theorem mk_X12_roomFor : hMv yX12_roomFor cX12_roomFor 3 ((none : Option FieldType)) 2 := ⟨⟨hmem 1573 (by decide +kernel) rfl, hmem 60 (by decide +kernel) rfl, hmem 119 (by decide +kernel) rfl, hmem 1574 rfl rfl⟩, by decide, by decide, by decide +kernel⟩
set_option maxRecDepth 100000 in
theorem mk_X12_rotsNow : hMv yX12_rotsNow cX12_rotsNow 2 ((some FieldType.int)) 1 := ⟨⟨hmem 1711 (by decide +kernel) rfl, hmem 90 (by decide +kernel) rfl, hmem 119 (by decide +kernel) rfl, hmem 1712 rfl rfl⟩, by decide, by decide, by decide +kernel⟩
set_option maxRecDepth 100000 in
theorem mk_X12_ruin : hMv yX12_ruin cX12_ruin 6 ((some FieldType.int)) 3 := ⟨⟨hmem 1888 (by decide +kernel) rfl, hmem 1889 (by decide +kernel) rfl, hmem 119 (by decide +kernel) rfl, hmem 1890 rfl rfl⟩, by decide, by decide, by decide +kernel⟩
set_option maxRecDepth 100000 in
theorem mk_X12_salting : hMv yX12_salting cX12_salting 6 ((some FieldType.int)) 2 := ⟨⟨hmem 1845 (by decide +kernel) rfl, hmem 1846 (by decide +kernel) rfl, hmem 119 (by decide +kernel) rfl, hmem 1847 rfl rfl⟩, by decide, by decide, by decide +kernel⟩
set_option maxRecDepth 100000 in
theorem mk_X12_salts : hMv yX12_salts cX12_salts 3 ((some FieldType.int)) 2 := ⟨⟨hmem 1737 (by decide +kernel) rfl, hmem 1738 (by decide +kernel) rfl, hmem 119 (by decide +kernel) rfl, hmem 1739 rfl rfl⟩, by decide, by decide, by decide +kernel⟩
set_option maxRecDepth 100000 in
theorem mk_X12_sell : hMv yX12_sell cX12_sell 8 ((some FieldType.int)) 3 := ⟨⟨hmem 1838 (by decide +kernel) rfl, hmem 1839 (by decide +kernel) rfl, hmem 119 (by decide +kernel) rfl, hmem 1840 rfl rfl⟩, by decide, by decide, by decide +kernel⟩
set_option maxRecDepth 100000 in
theorem mk_X12_share : hMv yX12_share cX12_share 4 ((some FieldType.int)) 1 := ⟨⟨hmem 1868 (by decide +kernel) rfl, hmem 1869 (by decide +kernel) rfl, hmem 119 (by decide +kernel) rfl, hmem 1870 rfl rfl⟩, by decide, by decide, by decide +kernel⟩
set_option maxRecDepth 100000 in
theorem mk_X12_sign : hMv yX12_sign cX12_sign 5 ((some FieldType.int)) 3 := ⟨⟨hmem 1561 (by decide +kernel) rfl, hmem 57 (by decide +kernel) rfl, hmem 119 (by decide +kernel) rfl, hmem 1562 rfl rfl⟩, by decide, by decide, by decide +kernel⟩
set_option maxRecDepth 100000 in
theorem mk_X12_spark : hMv yX12_spark cX12_spark 6 ((some FieldType.int)) 1 := ⟨⟨hmem 1784 (by decide +kernel) rfl, hmem 1785 (by decide +kernel) rfl, hmem 119 (by decide +kernel) rfl, hmem 1786 rfl rfl⟩, by decide, by decide, by decide +kernel⟩
set_option maxRecDepth 100000 in
theorem mk_X12_strongest : hMv yX12_strongest cX12_strongest 6 ((some FieldType.int)) 1 := ⟨⟨hmem 1810 (by decide +kernel) rfl, hmem 1811 (by decide +kernel) rfl, hmem 119 (by decide +kernel) rfl, hmem 1812 rfl rfl⟩, by decide, by decide, by decide +kernel⟩
set_option maxRecDepth 100000 in
theorem mk_X12_sumOf : hMv yX12_sumOf cX12_sumOf 4 ((some FieldType.int)) 1 := ⟨⟨hmem 1680 (by decide +kernel) rfl, hmem 84 (by decide +kernel) rfl, hmem 119 (by decide +kernel) rfl, hmem 1681 rfl rfl⟩, by decide, by decide, by decide +kernel⟩
set_option maxRecDepth 100000 in
theorem mk_X12_takeover : hMv yX12_takeover cX12_takeover 10 ((some FieldType.int)) 2 := ⟨⟨hmem 1834 (by decide +kernel) rfl, hmem 1835 (by decide +kernel) rfl, hmem 119 (by decide +kernel) rfl, hmem 1836 rfl rfl⟩, by decide, by decide, by decide +kernel⟩
set_option maxRecDepth 100000 in
theorem mk_X12_tell : hMv yX12_tell cX12_tell 3 ((some FieldType.int)) 2 := ⟨⟨hmem 1892 (by decide +kernel) rfl, hmem 1893 (by decide +kernel) rfl, hmem 119 (by decide +kernel) rfl, hmem 1894 rfl rfl⟩, by decide, by decide, by decide +kernel⟩
set_option maxRecDepth 100000 in
theorem mk_X12_tellHears : hMv yX12_tellHears cX12_tellHears 5 ((none : Option FieldType)) 0 := ⟨⟨hmem 1609 (by decide +kernel) rfl, hmem 69 (by decide +kernel) rfl, hmem 119 (by decide +kernel) rfl, hmem 1610 rfl rfl⟩, by decide, by decide, by decide +kernel⟩
set_option maxRecDepth 100000 in
theorem mk_X12_tellHouse : hMv yX12_tellHouse cX12_tellHouse 3 ((none : Option FieldType)) 0 := ⟨⟨hmem 1585 (by decide +kernel) rfl, hmem 63 (by decide +kernel) rfl, hmem 119 (by decide +kernel) rfl, hmem 1586 rfl rfl⟩, by decide, by decide, by decide +kernel⟩
set_option maxRecDepth 100000 in
theorem mk_X12_tellLaw : hMv yX12_tellLaw cX12_tellLaw 4 ((none : Option FieldType)) 1 := ⟨⟨hmem 1625 (by decide +kernel) rfl, hmem 73 (by decide +kernel) rfl, hmem 119 (by decide +kernel) rfl, hmem 1626 rfl rfl⟩, by decide, by decide, by decide +kernel⟩
set_option maxRecDepth 100000 in
theorem mk_X12_tellMotion : hMv yX12_tellMotion cX12_tellMotion 5 ((none : Option FieldType)) 0 := ⟨⟨hmem 1617 (by decide +kernel) rfl, hmem 71 (by decide +kernel) rfl, hmem 119 (by decide +kernel) rfl, hmem 1618 rfl rfl⟩, by decide, by decide, by decide +kernel⟩
set_option maxRecDepth 100000 in
theorem mk_X12_tellOne : hMv yX12_tellOne cX12_tellOne 2 ((none : Option FieldType)) 0 := ⟨⟨hmem 1569 (by decide +kernel) rfl, hmem 59 (by decide +kernel) rfl, hmem 119 (by decide +kernel) rfl, hmem 1570 rfl rfl⟩, by decide, by decide, by decide +kernel⟩
set_option maxRecDepth 100000 in
theorem mk_X12_tells : hMv yX12_tells cX12_tells 3 ((some FieldType.int)) 2 := ⟨⟨hmem 1698 (by decide +kernel) rfl, hmem 1699 (by decide +kernel) rfl, hmem 119 (by decide +kernel) rfl, hmem 1700 rfl rfl⟩, by decide, by decide, by decide +kernel⟩
set_option maxRecDepth 100000 in
theorem mk_X12_term : hMv yX12_term cX12_term 1 ((none : Option FieldType)) 0 := ⟨⟨hmem 1645 (by decide +kernel) rfl, hmem 78 (by decide +kernel) rfl, hmem 119 (by decide +kernel) rfl, hmem 1646 rfl rfl⟩, by decide, by decide, by decide +kernel⟩
set_option maxRecDepth 100000 in
theorem mk_X12_termOf : hMv yX12_termOf cX12_termOf 8 ((some FieldType.int)) 2 := ⟨⟨hmem 1688 (by decide +kernel) rfl, hmem 86 (by decide +kernel) rfl, hmem 119 (by decide +kernel) rfl, hmem 1689 rfl rfl⟩, by decide, by decide, by decide +kernel⟩
set_option maxRecDepth 100000 in
theorem mk_X12_then : hMv yX12_then cX12_then 4 ((some FieldType.int)) 3 := ⟨⟨hmem 1876 (by decide +kernel) rfl, hmem 1877 (by decide +kernel) rfl, hmem 119 (by decide +kernel) rfl, hmem 1878 rfl rfl⟩, by decide, by decide, by decide +kernel⟩
set_option maxRecDepth 100000 in
theorem mk_X12_token : hMv yX12_token cX12_token 6 ((none : Option FieldType)) 4 := ⟨⟨hmem 1551 (by decide +kernel) rfl, hmem 56 (by decide +kernel) rfl, hmem 119 (by decide +kernel) rfl, hmem 1552 rfl rfl⟩, by decide, by decide, by decide +kernel⟩
set_option maxRecDepth 100000 in
theorem mk_X12_toldInt : hMv yX12_toldInt cX12_toldInt 4 ((some FieldType.int)) 2 := ⟨⟨hmem 1621 (by decide +kernel) rfl, hmem 72 (by decide +kernel) rfl, hmem 119 (by decide +kernel) rfl, hmem 1622 rfl rfl⟩, by decide, by decide, by decide +kernel⟩
set_option maxRecDepth 100000 in
theorem mk_X12_turnsOf : hMv yX12_turnsOf cX12_turnsOf 6 ((some FieldType.int)) 1 := ⟨⟨hmem 1807 (by decide +kernel) rfl, hmem 100 (by decide +kernel) rfl, hmem 119 (by decide +kernel) rfl, hmem 1808 rfl rfl⟩, by decide, by decide, by decide +kernel⟩
set_option maxRecDepth 100000 in
theorem mk_X12_undo : hMv yX12_undo cX12_undo 2 ((some FieldType.boolean)) 0 := ⟨⟨hmem 1769 (by decide +kernel) rfl, hmem 1770 (by decide +kernel) rfl, hmem 119 (by decide +kernel) rfl, hmem 1771 rfl rfl⟩, by decide, by decide, by decide +kernel⟩
set_option maxRecDepth 100000 in
theorem mk_X12_unit : hMv yX12_unit cX12_unit 1 ((none : Option FieldType)) 0 := ⟨⟨hmem 1633 (by decide +kernel) rfl, hmem 75 (by decide +kernel) rfl, hmem 119 (by decide +kernel) rfl, hmem 1634 rfl rfl⟩, by decide, by decide, by decide +kernel⟩
set_option maxRecDepth 100000 in
theorem mk_X12_votesOf : hMv yX12_votesOf cX12_votesOf 4 ((some FieldType.int)) 1 := ⟨⟨hmem 1695 (by decide +kernel) rfl, hmem 87 (by decide +kernel) rfl, hmem 119 (by decide +kernel) rfl, hmem 1696 rfl rfl⟩, by decide, by decide, by decide +kernel⟩
set_option maxRecDepth 100000 in
theorem mk_X12_word : hMs yX12_word cX12_word 7 ((some FieldType.long)) 7 := ⟨⟨hmem 1312 (by decide +kernel) rfl, hmem 119 (by decide +kernel) rfl, hmem 1313 rfl rfl⟩, by decide, by decide, by decide +kernel⟩
set_option maxRecDepth 100000 in
theorem mk_X12_wrong : hMv yX12_wrong cX12_wrong 4 ((none : Option FieldType)) 2 := ⟨⟨hmem 1597 (by decide +kernel) rfl, hmem 66 (by decide +kernel) rfl, hmem 119 (by decide +kernel) rfl, hmem 1598 rfl rfl⟩, by decide, by decide, by decide +kernel⟩
set_option maxRecDepth 100000 in
theorem mk_J11_highSurrogate_5068e : hMs yJ11_highSurrogate_5068e cJ11_highSurrogate_5068e 1 ((some FieldType.char)) 1 := ⟨⟨hmem 721 (by decide +kernel) rfl, hmem 125 (by decide +kernel) rfl, hmem 722 rfl rfl⟩, by decide, by decide, by decide +kernel⟩
set_option maxRecDepth 100000 in
theorem mk_J11_isValidCodePoint_9a6ad : hMs yJ11_isValidCodePoint_9a6ad cJ11_isValidCodePoint_9a6ad 2 ((some FieldType.boolean)) 1 := ⟨⟨hmem 718 (by decide +kernel) rfl, hmem 125 (by decide +kernel) rfl, hmem 719 rfl rfl⟩, by decide, by decide, by decide +kernel⟩
set_option maxRecDepth 100000 in
theorem mk_J11_lowSurrogate_5068e : hMs yJ11_lowSurrogate_5068e cJ11_lowSurrogate_5068e 1 ((some FieldType.char)) 1 := ⟨⟨hmem 725 (by decide +kernel) rfl, hmem 125 (by decide +kernel) rfl, hmem 726 rfl rfl⟩, by decide, by decide, by decide +kernel⟩
set_option maxRecDepth 100000 in
theorem mk_J6_bitCount_0f7a4 : hMs yJ6_bitCount_0f7a4 cJ6_bitCount_0f7a4 1 ((some FieldType.int)) 1 := ⟨⟨hmem 1055 (by decide +kernel) rfl, hmem 127 (by decide +kernel) rfl, hmem 1056 rfl rfl⟩, by decide, by decide, by decide +kernel⟩
set_option maxRecDepth 100000 in
theorem mk_J9_max_7cf53 : hMs yJ9_max_7cf53 cJ9_max_7cf53 2 ((some FieldType.int)) 2 := ⟨⟨hmem 685 (by decide +kernel) rfl, hmem 124 (by decide +kernel) rfl, hmem 686 rfl rfl⟩, by decide, by decide, by decide +kernel⟩
set_option maxRecDepth 100000 in
theorem mk_J9_min_7cf53 : hMs yJ9_min_7cf53 cJ9_min_7cf53 2 ((some FieldType.int)) 2 := ⟨⟨hmem 688 (by decide +kernel) rfl, hmem 124 (by decide +kernel) rfl, hmem 689 rfl rfl⟩, by decide, by decide, by decide +kernel⟩
set_option maxRecDepth 100000 in
theorem mk_J0_charAt_5068e : hMv yJ0_charAt_5068e cJ0_charAt_5068e 2 ((some FieldType.char)) 1 := ⟨⟨hmem 611 (by decide +kernel) rfl, hmem 612 (by decide +kernel) rfl, hmem 120 (by decide +kernel) rfl, hmem 613 rfl rfl⟩, by decide, by decide, by decide +kernel⟩
set_option maxRecDepth 100000 in
theorem mk_J0_checkBoundsBeginEnd_23922 : hMs yJ0_checkBoundsBeginEnd_23922 cJ0_checkBoundsBeginEnd_23922 3 ((none : Option FieldType)) 3 := ⟨⟨hmem 706 (by decide +kernel) rfl, hmem 120 (by decide +kernel) rfl, hmem 707 rfl rfl⟩, by decide, by decide, by decide +kernel⟩
set_option maxRecDepth 100000 in
theorem mk_J0_checkIndex_df160 : hMs yJ0_checkIndex_df160 cJ0_checkIndex_df160 2 ((none : Option FieldType)) 2 := ⟨⟨hmem 624 (by decide +kernel) rfl, hmem 120 (by decide +kernel) rfl, hmem 625 rfl rfl⟩, by decide, by decide, by decide +kernel⟩
set_option maxRecDepth 100000 in
theorem mk_J0_coder_7d493 : hMv yJ0_coder_7d493 cJ0_coder_7d493 1 ((some FieldType.byte)) 0 := ⟨⟨hmem 675 (by decide +kernel) rfl, hmem 676 (by decide +kernel) rfl, hmem 120 (by decide +kernel) rfl, hmem 677 rfl rfl⟩, by decide, by decide, by decide +kernel⟩
set_option maxRecDepth 100000 in
theorem mk_J0_indexOf_0f7a4 : hMv yJ0_indexOf_0f7a4 cJ0_indexOf_0f7a4 2 ((some FieldType.int)) 1 := ⟨⟨hmem 663 (by decide +kernel) rfl, hmem 664 (by decide +kernel) rfl, hmem 120 (by decide +kernel) rfl, hmem 665 rfl rfl⟩, by decide, by decide, by decide +kernel⟩
set_option maxRecDepth 100000 in
theorem mk_J0_indexOf_7cf53 : hMv yJ0_indexOf_7cf53 cJ0_indexOf_7cf53 3 ((some FieldType.int)) 2 := ⟨⟨hmem 667 (by decide +kernel) rfl, hmem 668 (by decide +kernel) rfl, hmem 120 (by decide +kernel) rfl, hmem 669 rfl rfl⟩, by decide, by decide, by decide +kernel⟩
set_option maxRecDepth 100000 in
theorem mk_J0_isLatin1_aae02 : hMv yJ0_isLatin1_aae02 cJ0_isLatin1_aae02 1 ((some FieldType.boolean)) 0 := ⟨⟨hmem 615 (by decide +kernel) rfl, hmem 616 (by decide +kernel) rfl, hmem 120 (by decide +kernel) rfl, hmem 617 rfl rfl⟩, by decide, by decide, by decide +kernel⟩
set_option maxRecDepth 100000 in
theorem mk_J0_length_8abf5 : hMv yJ0_length_8abf5 cJ0_length_8abf5 1 ((some FieldType.int)) 0 := ⟨⟨hmem 671 (by decide +kernel) rfl, hmem 672 (by decide +kernel) rfl, hmem 120 (by decide +kernel) rfl, hmem 673 rfl rfl⟩, by decide, by decide, by decide +kernel⟩
set_option maxRecDepth 100000 in
theorem mk_J1_canEncode_9a6ad : hMs yJ1_canEncode_9a6ad cJ1_canEncode_9a6ad 1 ((some FieldType.boolean)) 1 := ⟨⟨hmem 682 (by decide +kernel) rfl, hmem 121 (by decide +kernel) rfl, hmem 683 rfl rfl⟩, by decide, by decide, by decide +kernel⟩
set_option maxRecDepth 100000 in
theorem mk_J1_charAt_3b067 : hMs yJ1_charAt_3b067 cJ1_charAt_3b067 2 ((some FieldType.char)) 2 := ⟨⟨hmem 621 (by decide +kernel) rfl, hmem 121 (by decide +kernel) rfl, hmem 622 rfl rfl⟩, by decide, by decide, by decide +kernel⟩
set_option maxRecDepth 100000 in
theorem mk_J1_indexOf_4cfef : hMs yJ1_indexOf_4cfef cJ1_indexOf_4cfef 4 ((some FieldType.int)) 4 := ⟨⟨hmem 679 (by decide +kernel) rfl, hmem 121 (by decide +kernel) rfl, hmem 680 rfl rfl⟩, by decide, by decide, by decide +kernel⟩
set_option maxRecDepth 100000 in
theorem mk_J1_indexOfChar_4cfef : hMs yJ1_indexOfChar_4cfef cJ1_indexOfChar_4cfef 6 ((some FieldType.int)) 4 := ⟨⟨hmem 691 (by decide +kernel) rfl, hmem 121 (by decide +kernel) rfl, hmem 692 rfl rfl⟩, by decide, by decide, by decide +kernel⟩
set_option maxRecDepth 100000 in
theorem mk_J2_charAt_3b067 : hMs yJ2_charAt_3b067 cJ2_charAt_3b067 2 ((some FieldType.char)) 2 := ⟨⟨hmem 632 (by decide +kernel) rfl, hmem 123 (by decide +kernel) rfl, hmem 633 rfl rfl⟩, by decide, by decide, by decide +kernel⟩
set_option maxRecDepth 100000 in
theorem mk_J2_checkBoundsBeginEnd_d044e : hMs yJ2_checkBoundsBeginEnd_d044e cJ2_checkBoundsBeginEnd_d044e 3 ((none : Option FieldType)) 3 := ⟨⟨hmem 703 (by decide +kernel) rfl, hmem 123 (by decide +kernel) rfl, hmem 704 rfl rfl⟩, by decide, by decide, by decide +kernel⟩
set_option maxRecDepth 100000 in
theorem mk_J2_checkIndex_2214a : hMs yJ2_checkIndex_2214a cJ2_checkIndex_2214a 2 ((none : Option FieldType)) 2 := ⟨⟨hmem 635 (by decide +kernel) rfl, hmem 123 (by decide +kernel) rfl, hmem 636 rfl rfl⟩, by decide, by decide, by decide +kernel⟩
set_option maxRecDepth 100000 in
theorem mk_J2_getChar_3b067 : hMs yJ2_getChar_3b067 cJ2_getChar_3b067 2 ((some FieldType.char)) 2 := ⟨⟨hmem 642 (by decide +kernel) rfl, hmem 123 (by decide +kernel) rfl, hmem 643 rfl rfl⟩, by decide, by decide, by decide +kernel⟩
set_option maxRecDepth 100000 in
theorem mk_J2_indexOf_4cfef : hMs yJ2_indexOf_4cfef cJ2_indexOf_4cfef 4 ((some FieldType.int)) 4 := ⟨⟨hmem 694 (by decide +kernel) rfl, hmem 123 (by decide +kernel) rfl, hmem 695 rfl rfl⟩, by decide, by decide, by decide +kernel⟩
set_option maxRecDepth 100000 in
theorem mk_J2_indexOfChar_4cfef : hMs yJ2_indexOfChar_4cfef cJ2_indexOfChar_4cfef 4 ((some FieldType.int)) 4 := ⟨⟨hmem 700 (by decide +kernel) rfl, hmem 123 (by decide +kernel) rfl, hmem 701 rfl rfl⟩, by decide, by decide, by decide +kernel⟩
set_option maxRecDepth 100000 in
theorem mk_J2_indexOfCharUnsafe_4cfef : hMs yJ2_indexOfCharUnsafe_4cfef cJ2_indexOfCharUnsafe_4cfef 5 ((some FieldType.int)) 4 := ⟨⟨hmem 712 (by decide +kernel) rfl, hmem 123 (by decide +kernel) rfl, hmem 713 rfl rfl⟩, by decide, by decide, by decide +kernel⟩
set_option maxRecDepth 100000 in
theorem mk_J2_indexOfSupplementary_4cfef : hMs yJ2_indexOfSupplementary_4cfef cJ2_indexOfSupplementary_4cfef 7 ((some FieldType.int)) 4 := ⟨⟨hmem 715 (by decide +kernel) rfl, hmem 123 (by decide +kernel) rfl, hmem 716 rfl rfl⟩, by decide, by decide, by decide +kernel⟩
set_option maxRecDepth 100000 in
theorem mk_J2_length_9d52b : hMs yJ2_length_9d52b cJ2_length_9d52b 1 ((some FieldType.int)) 1 := ⟨⟨hmem 638 (by decide +kernel) rfl, hmem 123 (by decide +kernel) rfl, hmem 639 rfl rfl⟩, by decide, by decide, by decide +kernel⟩
set_option maxRecDepth 100000 in
theorem mk_J3_checkFromToIndex_8c36e : hMs yJ3_checkFromToIndex_8c36e cJ3_checkFromToIndex_8c36e 4 ((some FieldType.int)) 4 := ⟨⟨hmem 709 (by decide +kernel) rfl, hmem 122 (by decide +kernel) rfl, hmem 710 rfl rfl⟩, by decide, by decide, by decide +kernel⟩
set_option maxRecDepth 100000 in
theorem mk_J3_checkIndex_8e157 : hMs yJ3_checkIndex_8e157 cJ3_checkIndex_8e157 3 ((some FieldType.int)) 3 := ⟨⟨hmem 629 (by decide +kernel) rfl, hmem 122 (by decide +kernel) rfl, hmem 630 rfl rfl⟩, by decide, by decide, by decide +kernel⟩
theorem ml_X11_18 : Cond.methodLink RX11 18 yX9_init ∈ hwd := hmem 154 (by decide +kernel) rfl
theorem ml_X11_27 : Cond.methodLink RX11 27 yX4_init ∈ hwd := hmem 183 (by decide +kernel) rfl
theorem ml_X11_36 : Cond.methodLink RX11 36 yX8_init ∈ hwd := hmem 216 (by decide +kernel) rfl
theorem ml_X11_64 : Cond.methodLink RX11 64 yX0_init ∈ hwd := hmem 343 (by decide +kernel) rfl
theorem ml_X11_80 : Cond.methodLink RX11 80 yX10_init ∈ hwd := hmem 388 (by decide +kernel) rfl
theorem ml_X11_92 : Cond.methodLink RX11 92 yX6_begin ∈ hwd := hmem 513 (by decide +kernel) rfl
theorem ml_X11_96 : Cond.methodLink RX11 96 yX7_hasRoom ∈ hwd := hmem 558 (by decide +kernel) rfl
theorem ml_X11_100 : Cond.methodLink RX11 100 yX7_add ∈ hwd := hmem 562 (by decide +kernel) rfl
theorem ml_X11_107 : Cond.methodLink RX11 107 yX10_clear ∈ hwd := hmem 574 (by decide +kernel) rfl
theorem ml_X11_110 : Cond.methodLink RX11 110 yX9_scan ∈ hwd := hmem 575 (by decide +kernel) rfl
theorem ml_X11_117 : Cond.methodLink RX11 117 yX4_parse ∈ hwd := hmem 732 (by decide +kernel) rfl
theorem ml_X11_127 : Cond.methodLink RX11 127 yX8_fill ∈ hwd := hmem 798 (by decide +kernel) rfl
theorem ml_X11_134 : Cond.methodLink RX11 134 yX9_placeOf ∈ hwd := hmem 861 (by decide +kernel) rfl
theorem ml_X11_138 : Cond.methodLink RX11 138 yX11_takeDraft ∈ hwd := hmem 862 (by decide +kernel) rfl
theorem ml_X11_141 : Cond.methodLink RX11 141 yX11_isHouse ∈ hwd := hmem 878 (by decide +kernel) rfl
theorem ml_X11_166 : Cond.methodLink RX11 166 yX6_allFish ∈ hwd := hmem 882 (by decide +kernel) rfl
theorem ml_X11_170 : Cond.methodLink RX11 170 yX2_votes ∈ hwd := hmem 890 (by decide +kernel) rfl
theorem ml_X11_174 : Cond.methodLink RX11 174 yX11_votesHad ∈ hwd := hmem 913 (by decide +kernel) rfl
theorem ml_X11_180 : Cond.methodLink RX11 180 yX2_price ∈ hwd := hmem 927 (by decide +kernel) rfl
theorem ml_X11_184 : Cond.methodLink RX11 184 yX2_eaten ∈ hwd := hmem 936 (by decide +kernel) rfl
theorem ml_X11_187 : Cond.methodLink RX11 187 yX2_rotten ∈ hwd := hmem 940 (by decide +kernel) rfl
theorem ml_X11_190 : Cond.methodLink RX11 190 yX2_caught ∈ hwd := hmem 948 (by decide +kernel) rfl
theorem ml_X11_193 : Cond.methodLink RX11 193 yX11_isByHand ∈ hwd := hmem 956 (by decide +kernel) rfl
theorem ml_X11_196 : Cond.methodLink RX11 196 yX5_keep ∈ hwd := hmem 960 (by decide +kernel) rfl
theorem ml_X11_200 : Cond.methodLink RX11 200 yX6_move ∈ hwd := hmem 975 (by decide +kernel) rfl
theorem ml_X11_204 : Cond.methodLink RX11 204 yX6_consume ∈ hwd := hmem 985 (by decide +kernel) rfl
theorem ml_X11_208 : Cond.methodLink RX11 208 yX6_fresh ∈ hwd := hmem 994 (by decide +kernel) rfl
theorem ml_X11_214 : Cond.methodLink RX11 214 yX6_hasProxy ∈ hwd := hmem 999 (by decide +kernel) rfl
theorem ml_X11_217 : Cond.methodLink RX11 217 yX11_isSpan ∈ hwd := hmem 1007 (by decide +kernel) rfl
theorem ml_X11_223 : Cond.methodLink RX11 223 yX2_passMany ∈ hwd := hmem 1011 (by decide +kernel) rfl
theorem ml_X11_230 : Cond.methodLink RX11 230 yX5_bringBack ∈ hwd := hmem 1038 (by decide +kernel) rfl
theorem ml_X11_234 : Cond.methodLink RX11 234 yX3_eaters ∈ hwd := hmem 1050 (by decide +kernel) rfl
theorem ml_X11_238 : Cond.methodLink RX11 238 yX11_isFirstOrSecond ∈ hwd := hmem 1064 (by decide +kernel) rfl
theorem ml_X11_244 : Cond.methodLink RX11 244 yX3_widest ∈ hwd := hmem 1068 (by decide +kernel) rfl
theorem ml_X11_248 : Cond.methodLink RX11 248 yJ6_bitCount_0f7a4 ∈ hwd := hmem 1073 (by decide +kernel) rfl
theorem ml_X11_253 : Cond.methodLink RX11 253 yX3_fewestCalmed ∈ hwd := hmem 1078 (by decide +kernel) rfl
theorem ml_X11_256 : Cond.methodLink RX11 256 yX3_member ∈ hwd := hmem 1089 (by decide +kernel) rfl
theorem ml_X11_260 : Cond.methodLink RX11 260 yX0_gather ∈ hwd := hmem 917 (by decide +kernel) rfl
theorem ml_X11_264 : Cond.methodLink RX11 264 yX0_countTurns ∈ hwd := hmem 1097 (by decide +kernel) rfl
theorem ml_X11_270 : Cond.methodLink RX11 270 yX0_allTurns ∈ hwd := hmem 1105 (by decide +kernel) rfl
theorem ml_X11_273 : Cond.methodLink RX11 273 yX11_divisor ∈ hwd := hmem 1109 (by decide +kernel) rfl
theorem ml_X11_276 : Cond.methodLink RX11 276 yX0_mostTurns ∈ hwd := hmem 1118 (by decide +kernel) rfl
theorem ml_X11_282 : Cond.methodLink RX11 282 yX0_fewestToMajority ∈ hwd := hmem 1126 (by decide +kernel) rfl
theorem ml_X11_286 : Cond.methodLink RX11 286 yJ9_max_7cf53 ∈ hwd := hmem 1112 (by decide +kernel) rfl
theorem ml_X11_297 : Cond.methodLink RX11 297 yX0_sum ∈ hwd := hmem 1142 (by decide +kernel) rfl
theorem ml_X11_304 : Cond.methodLink RX11 304 yX11_isLook ∈ hwd := hmem 1147 (by decide +kernel) rfl
theorem ml_X11_307 : Cond.methodLink RX11 307 yX2_findBestSale ∈ hwd := hmem 1151 (by decide +kernel) rfl
theorem ml_X11_316 : Cond.methodLink RX11 316 yX2_leastSalting ∈ hwd := hmem 1169 (by decide +kernel) rfl
theorem ml_X11_319 : Cond.methodLink RX11 319 yX2_findDearest ∈ hwd := hmem 1181 (by decide +kernel) rfl
theorem ml_X11_323 : Cond.methodLink RX11 323 yX2_after ∈ hwd := hmem 1189 (by decide +kernel) rfl
theorem ml_X11_327 : Cond.methodLink RX11 327 yX6_fewestFish ∈ hwd := hmem 1193 (by decide +kernel) rfl
theorem ml_X11_330 : Cond.methodLink RX11 330 yX3_quietFor ∈ hwd := hmem 1201 (by decide +kernel) rfl
theorem ml_X11_334 : Cond.methodLink RX11 334 yX10_allHunger ∈ hwd := hmem 1209 (by decide +kernel) rfl
theorem ml_X11_337 : Cond.methodLink RX11 337 yX11_isDeal ∈ hwd := hmem 1229 (by decide +kernel) rfl
theorem ml_X11_344 : Cond.methodLink RX11 344 yX3_note ∈ hwd := hmem 1241 (by decide +kernel) rfl
theorem ml_X11_348 : Cond.methodLink RX11 348 yX3_suspects ∈ hwd := hmem 1253 (by decide +kernel) rfl
theorem ml_X11_351 : Cond.methodLink RX11 351 yX3_bestQuestion ∈ hwd := hmem 1265 (by decide +kernel) rfl
theorem ml_X11_354 : Cond.methodLink RX11 354 yX5_store ∈ hwd := hmem 1275 (by decide +kernel) rfl
theorem ml_X11_358 : Cond.methodLink RX11 358 yX5_fetch ∈ hwd := hmem 1283 (by decide +kernel) rfl
theorem ml_X11_364 : Cond.methodLink RX11 364 yX6_sum ∈ hwd := hmem 1291 (by decide +kernel) rfl
theorem ml_X11_370 : Cond.methodLink RX11 370 yX5_slotsHeld ∈ hwd := hmem 1292 (by decide +kernel) rfl
theorem ml_X11_373 : Cond.methodLink RX11 373 yX11_allVotes ∈ hwd := hmem 1296 (by decide +kernel) rfl
theorem ml_X11_376 : Cond.methodLink RX11 376 yX2_isGlut ∈ hwd := hmem 1300 (by decide +kernel) rfl
theorem ml_X11_380 : Cond.methodLink RX11 380 yX5_clear ∈ hwd := hmem 866 (by decide +kernel) rfl
theorem ml_X11_381 : Cond.methodLink RX11 381 yJ9_min_7cf53 ∈ hwd := hmem 1113 (by decide +kernel) rfl
theorem ml_X0_35 : Cond.methodLink RX0 35 yX6_allFish ∈ hwd := hmem 921 (by decide +kernel) rfl
theorem ml_X0_41 : Cond.methodLink RX0 41 yX2_votes ∈ hwd := hmem 922 (by decide +kernel) rfl
theorem ml_X0_50 : Cond.methodLink RX0 50 yX0_sum ∈ hwd := hmem 1101 (by decide +kernel) rfl
theorem ml_X0_54 : Cond.methodLink RX0 54 yX0_largestOutside ∈ hwd := hmem 1130 (by decide +kernel) rfl
theorem ml_X1_31 : Cond.methodLink RX1 31 yX1_putUntold ∈ hwd := hmem 426 (by decide +kernel) rfl
theorem ml_X1_35 : Cond.methodLink RX1 35 yX1_startHere ∈ hwd := hmem 430 (by decide +kernel) rfl
theorem ml_X1_39 : Cond.methodLink RX1 39 yX1_put ∈ hwd := hmem 434 (by decide +kernel) rfl
theorem ml_X1_43 : Cond.methodLink RX1 43 yX1_varValue ∈ hwd := hmem 901 (by decide +kernel) rfl
theorem ml_X1_47 : Cond.methodLink RX1 47 yX1_joined ∈ hwd := hmem 905 (by decide +kernel) rfl
theorem ml_X2_28 : Cond.methodLink RX2 28 yJ9_min_7cf53 ∈ hwd := hmem 911 (by decide +kernel) rfl
theorem ml_X2_34 : Cond.methodLink RX2 34 yJ9_max_7cf53 ∈ hwd := hmem 912 (by decide +kernel) rfl
theorem ml_X2_37 : Cond.methodLink RX2 37 yX6_allFish ∈ hwd := hmem 931 (by decide +kernel) rfl
theorem ml_X2_41 : Cond.methodLink RX2 41 yX2_clearedVars ∈ hwd := hmem 932 (by decide +kernel) rfl
theorem ml_X2_50 : Cond.methodLink RX2 50 yX6_sum ∈ hwd := hmem 935 (by decide +kernel) rfl
theorem ml_X2_60 : Cond.methodLink RX2 60 yX1_value ∈ hwd := hmem 897 (by decide +kernel) rfl
theorem ml_X2_64 : Cond.methodLink RX2 64 yX2_within ∈ hwd := hmem 908 (by decide +kernel) rfl
theorem ml_X2_71 : Cond.methodLink RX2 71 yX2_setVars ∈ hwd := hmem 894 (by decide +kernel) rfl
theorem ml_X2_75 : Cond.methodLink RX2 75 yX6_fresh ∈ hwd := hmem 944 (by decide +kernel) rfl
theorem ml_X2_97 : Cond.methodLink RX2 97 yX2_lot ∈ hwd := hmem 1023 (by decide +kernel) rfl
theorem ml_X2_103 : Cond.methodLink RX2 103 yX2_mixed ∈ hwd := hmem 1026 (by decide +kernel) rfl
theorem ml_X2_107 : Cond.methodLink RX2 107 yX2_passOne ∈ hwd := hmem 1015 (by decide +kernel) rfl
theorem ml_X2_111 : Cond.methodLink RX2 111 yX2_isGlut ∈ hwd := hmem 1019 (by decide +kernel) rfl
theorem ml_X2_118 : Cond.methodLink RX2 118 yX2_eaten ∈ hwd := hmem 1030 (by decide +kernel) rfl
theorem ml_X2_122 : Cond.methodLink RX2 122 yX2_caught ∈ hwd := hmem 1031 (by decide +kernel) rfl
theorem ml_X2_125 : Cond.methodLink RX2 125 yX6_consume ∈ hwd := hmem 1032 (by decide +kernel) rfl
theorem ml_X2_129 : Cond.methodLink RX2 129 yX2_rotten ∈ hwd := hmem 1033 (by decide +kernel) rfl
theorem ml_X2_132 : Cond.methodLink RX2 132 yX6_copy ∈ hwd := hmem 1155 (by decide +kernel) rfl
theorem ml_X2_136 : Cond.methodLink RX2 136 yX2_passMany ∈ hwd := hmem 1159 (by decide +kernel) rfl
theorem ml_X2_145 : Cond.methodLink RX2 145 yX2_price ∈ hwd := hmem 1160 (by decide +kernel) rfl
theorem ml_X2_149 : Cond.methodLink RX2 149 yX2_weigh ∈ hwd := hmem 1161 (by decide +kernel) rfl
theorem ml_X2_155 : Cond.methodLink RX2 155 yX2_fishIfSalted ∈ hwd := hmem 1173 (by decide +kernel) rfl
theorem ml_X3_28 : Cond.methodLink RX3 28 yJ6_bitCount_0f7a4 ∈ hwd := hmem 1054 (by decide +kernel) rfl
theorem ml_X3_37 : Cond.methodLink RX3 37 yX3_eaters ∈ hwd := hmem 1072 (by decide +kernel) rfl
theorem ml_X3_41 : Cond.methodLink RX3 41 yX3_isAhead ∈ hwd := hmem 1082 (by decide +kernel) rfl
theorem ml_X3_45 : Cond.methodLink RX3 45 yX3_eatsIn ∈ hwd := hmem 1085 (by decide +kernel) rfl
theorem ml_X3_52 : Cond.methodLink RX3 52 yX3_fits ∈ hwd := hmem 1257 (by decide +kernel) rfl
theorem ml_X3_55 : Cond.methodLink RX3 55 yX3_quietFor ∈ hwd := hmem 1269 (by decide +kernel) rfl
theorem ml_X3_59 : Cond.methodLink RX3 59 yJ9_max_7cf53 ∈ hwd := hmem 1270 (by decide +kernel) rfl
theorem ml_X4_23 : Cond.methodLink RX4 23 yX9_kind ∈ hwd := hmem 736 (by decide +kernel) rfl
theorem ml_X4_44 : Cond.methodLink RX4 44 yX4_parseHouse ∈ hwd := hmem 740 (by decide +kernel) rfl
theorem ml_X4_47 : Cond.methodLink RX4 47 yX4_parseHearing ∈ hwd := hmem 756 (by decide +kernel) rfl
theorem ml_X4_50 : Cond.methodLink RX4 50 yX4_parseMotion ∈ hwd := hmem 760 (by decide +kernel) rfl
theorem ml_X4_53 : Cond.methodLink RX4 53 yX4_parseLaw ∈ hwd := hmem 764 (by decide +kernel) rfl
theorem ml_X4_57 : Cond.methodLink RX4 57 yX4_parseNumber ∈ hwd := hmem 794 (by decide +kernel) rfl
theorem ml_X4_60 : Cond.methodLink RX4 60 yX4_fail ∈ hwd := hmem 748 (by decide +kernel) rfl
theorem ml_X4_63 : Cond.methodLink RX4 63 yX4_take ∈ hwd := hmem 752 (by decide +kernel) rfl
theorem ml_X4_66 : Cond.methodLink RX4 66 yX4_takeSort ∈ hwd := hmem 744 (by decide +kernel) rfl
theorem ml_X4_72 : Cond.methodLink RX4 72 yX1_startHere ∈ hwd := hmem 768 (by decide +kernel) rfl
theorem ml_X4_77 : Cond.methodLink RX4 77 yX4_parseSum ∈ hwd := hmem 769 (by decide +kernel) rfl
theorem ml_X4_80 : Cond.methodLink RX4 80 yX1_put ∈ hwd := hmem 785 (by decide +kernel) rfl
theorem ml_X4_84 : Cond.methodLink RX4 84 yX1_leadHere ∈ hwd := hmem 790 (by decide +kernel) rfl
theorem ml_X4_87 : Cond.methodLink RX4 87 yX4_parseProduct ∈ hwd := hmem 773 (by decide +kernel) rfl
theorem ml_X4_90 : Cond.methodLink RX4 90 yX4_isOne ∈ hwd := hmem 786 (by decide +kernel) rfl
theorem ml_X4_94 : Cond.methodLink RX4 94 yX4_parseUnit ∈ hwd := hmem 777 (by decide +kernel) rfl
theorem ml_X4_97 : Cond.methodLink RX4 97 yX9_value ∈ hwd := hmem 781 (by decide +kernel) rfl
theorem ml_X5_26 : Cond.methodLink RX5 26 yX5_rowOf ∈ hwd := hmem 964 (by decide +kernel) rfl
theorem ml_X5_30 : Cond.methodLink RX5 30 yX6_write ∈ hwd := hmem 968 (by decide +kernel) rfl
theorem ml_X5_37 : Cond.methodLink RX5 37 yX6_take ∈ hwd := hmem 1042 (by decide +kernel) rfl
theorem ml_X6_43 : Cond.methodLink RX6 43 arraycopyName ∈ hwd := hmem 972 (by decide +kernel) rfl
theorem ml_X6_49 : Cond.methodLink RX6 49 yX6_sum ∈ hwd := hmem 886 (by decide +kernel) rfl
theorem ml_X6_53 : Cond.methodLink RX6 53 yJ9_min_7cf53 ∈ hwd := hmem 989 (by decide +kernel) rfl
theorem ml_X6_59 : Cond.methodLink RX6 59 yX6_fresh ∈ hwd := hmem 979 (by decide +kernel) rfl
theorem ml_X6_63 : Cond.methodLink RX6 63 yJ9_max_7cf53 ∈ hwd := hmem 980 (by decide +kernel) rfl
theorem ml_X8_33 : Cond.methodLink RX8 33 yX9_kind ∈ hwd := hmem 802 (by decide +kernel) rfl
theorem ml_X8_39 : Cond.methodLink RX8 39 yX8_fillHouse ∈ hwd := hmem 803 (by decide +kernel) rfl
theorem ml_X8_42 : Cond.methodLink RX8 42 yX8_fillHearing ∈ hwd := hmem 833 (by decide +kernel) rfl
theorem ml_X8_45 : Cond.methodLink RX8 45 yX8_fillMotion ∈ hwd := hmem 841 (by decide +kernel) rfl
theorem ml_X8_48 : Cond.methodLink RX8 48 yX8_fillNumber ∈ hwd := hmem 853 (by decide +kernel) rfl
theorem ml_X8_52 : Cond.methodLink RX8 52 yX8_skipTell ∈ hwd := hmem 857 (by decide +kernel) rfl
theorem ml_X8_58 : Cond.methodLink RX8 58 yX8_isTellEnd ∈ hwd := hmem 845 (by decide +kernel) rfl
theorem ml_X8_62 : Cond.methodLink RX8 62 yX8_number ∈ hwd := hmem 828 (by decide +kernel) rfl
theorem ml_X8_77 : Cond.methodLink RX8 77 yX9_value ∈ hwd := hmem 832 (by decide +kernel) rfl
theorem ml_X8_80 : Cond.methodLink RX8 80 yX8_fail ∈ hwd := hmem 824 (by decide +kernel) rfl
theorem ml_X8_87 : Cond.methodLink RX8 87 yX8_checkNewName ∈ hwd := hmem 807 (by decide +kernel) rfl
theorem ml_X8_105 : Cond.methodLink RX8 105 yX8_houseNamed ∈ hwd := hmem 811 (by decide +kernel) rfl
theorem ml_X8_111 : Cond.methodLink RX8 111 yX9_sameName ∈ hwd := hmem 815 (by decide +kernel) rfl
theorem ml_X8_115 : Cond.methodLink RX8 115 yX8_knownHouse ∈ hwd := hmem 837 (by decide +kernel) rfl
theorem ml_X8_124 : Cond.methodLink RX8 124 yX8_addSupporter ∈ hwd := hmem 849 (by decide +kernel) rfl
theorem ml_X9_36 : Cond.methodLink RX9 36 yX9_skipBlanks ∈ hwd := hmem 579 (by decide +kernel) rfl
theorem ml_X9_39 : Cond.methodLink RX9 39 yX9_scanOne ∈ hwd := hmem 590 (by decide +kernel) rfl
theorem ml_X9_43 : Cond.methodLink RX9 43 yX9_value ∈ hwd := hmem 819 (by decide +kernel) rfl
theorem ml_X9_47 : Cond.methodLink RX9 47 yX9_placeOf ∈ hwd := hmem 820 (by decide +kernel) rfl
theorem ml_X9_50 : Cond.methodLink RX9 50 yX7_sign ∈ hwd := hmem 583 (by decide +kernel) rfl
theorem ml_X9_53 : Cond.methodLink RX9 53 yX9_isBlank ∈ hwd := hmem 587 (by decide +kernel) rfl
theorem ml_X9_57 : Cond.methodLink RX9 57 yX9_isLetter ∈ hwd := hmem 594 (by decide +kernel) rfl
theorem ml_X9_60 : Cond.methodLink RX9 60 yX9_letters ∈ hwd := hmem 597 (by decide +kernel) rfl
theorem ml_X9_64 : Cond.methodLink RX9 64 yX9_wordOrName ∈ hwd := hmem 601 (by decide +kernel) rfl
theorem ml_X9_67 : Cond.methodLink RX9 67 yX9_isDigit ∈ hwd := hmem 650 (by decide +kernel) rfl
theorem ml_X9_70 : Cond.methodLink RX9 70 yX9_digits ∈ hwd := hmem 653 (by decide +kernel) rfl
theorem ml_X9_73 : Cond.methodLink RX9 73 yX9_number ∈ hwd := hmem 657 (by decide +kernel) rfl
theorem ml_X9_78 : Cond.methodLink RX9 78 yJ0_indexOf_0f7a4 ∈ hwd := hmem 662 (by decide +kernel) rfl
theorem ml_X9_83 : Cond.methodLink RX9 83 yX9_put ∈ hwd := hmem 728 (by decide +kernel) rfl
theorem ml_X9_87 : Cond.methodLink RX9 87 yX9_isWord ∈ hwd := hmem 605 (by decide +kernel) rfl
theorem ml_X9_93 : Cond.methodLink RX9 93 yJ0_charAt_5068e ∈ hwd := hmem 610 (by decide +kernel) rfl
theorem ml_X10_37 : Cond.methodLink RX10 37 yX10_clear ∈ hwd := hmem 418 (by decide +kernel) rfl
theorem ml_X10_59 : Cond.methodLink RX10 59 yX1_reset ∈ hwd := hmem 422 (by decide +kernel) rfl
theorem ml_L_9 : Cond.methodLink RL 9 yX11_init ∈ hwd := hmem 130 (by decide +kernel) rfl
theorem ml_L_12 : Cond.methodLink RL 12 yX12_init ∈ hwd := hmem 1303 (by decide +kernel) rfl
theorem ml_L_13 : Cond.methodLink RL 13 yX11_feed ∈ hwd := hmem 554 (by decide +kernel) rfl
theorem ml_L_17 : Cond.methodLink RL 17 yX12_feed ∈ hwd := hmem 1525 (by decide +kernel) rfl
theorem ml_L_18 : Cond.methodLink RL 18 yX11_back ∈ hwd := hmem 566 (by decide +kernel) rfl
theorem ml_L_22 : Cond.methodLink RL 22 yX12_back ∈ hwd := hmem 1533 (by decide +kernel) rfl
theorem ml_L_23 : Cond.methodLink RL 23 yX11_read ∈ hwd := hmem 570 (by decide +kernel) rfl
theorem ml_L_27 : Cond.methodLink RL 27 yX12_read ∈ hwd := hmem 1537 (by decide +kernel) rfl
theorem ml_L_28 : Cond.methodLink RL 28 yX11_place ∈ hwd := hmem 870 (by decide +kernel) rfl
theorem ml_L_31 : Cond.methodLink RL 31 yX12_place ∈ hwd := hmem 1647 (by decide +kernel) rfl
theorem ml_L_32 : Cond.methodLink RL 32 yX11_house ∈ hwd := hmem 874 (by decide +kernel) rfl
theorem ml_L_36 : Cond.methodLink RL 36 yX12_house ∈ hwd := hmem 1651 (by decide +kernel) rfl
theorem ml_L_37 : Cond.methodLink RL 37 yX11_tells ∈ hwd := hmem 923 (by decide +kernel) rfl
theorem ml_L_40 : Cond.methodLink RL 40 yX12_tells ∈ hwd := hmem 1697 (by decide +kernel) rfl
theorem ml_L_41 : Cond.methodLink RL 41 yX11_buy ∈ hwd := hmem 952 (by decide +kernel) rfl
theorem ml_L_45 : Cond.methodLink RL 45 yX12_buy ∈ hwd := hmem 1717 (by decide +kernel) rfl
theorem ml_L_46 : Cond.methodLink RL 46 yX11_eat ∈ hwd := hmem 981 (by decide +kernel) rfl
theorem ml_L_49 : Cond.methodLink RL 49 yX12_eat ∈ hwd := hmem 1728 (by decide +kernel) rfl
theorem ml_L_50 : Cond.methodLink RL 50 yX11_salts ∈ hwd := hmem 990 (by decide +kernel) rfl
theorem ml_L_53 : Cond.methodLink RL 53 yX12_salts ∈ hwd := hmem 1736 (by decide +kernel) rfl
theorem ml_L_54 : Cond.methodLink RL 54 yX11_proxy ∈ hwd := hmem 995 (by decide +kernel) rfl
theorem ml_L_58 : Cond.methodLink RL 58 yX12_proxy ∈ hwd := hmem 1740 (by decide +kernel) rfl
theorem ml_L_59 : Cond.methodLink RL 59 yX11_days ∈ hwd := hmem 1003 (by decide +kernel) rfl
theorem ml_L_62 : Cond.methodLink RL 62 yX12_days ∈ hwd := hmem 1748 (by decide +kernel) rfl
theorem ml_L_63 : Cond.methodLink RL 63 yX11_undo ∈ hwd := hmem 1034 (by decide +kernel) rfl
theorem ml_L_67 : Cond.methodLink RL 67 yX12_undo ∈ hwd := hmem 1768 (by decide +kernel) rfl
theorem ml_L_68 : Cond.methodLink RL 68 yX11_panic ∈ hwd := hmem 1046 (by decide +kernel) rfl
theorem ml_L_71 : Cond.methodLink RL 71 yX12_panic ∈ hwd := hmem 1772 (by decide +kernel) rfl
theorem ml_L_72 : Cond.methodLink RL 72 yX11_spark ∈ hwd := hmem 1060 (by decide +kernel) rfl
theorem ml_L_75 : Cond.methodLink RL 75 yX12_spark ∈ hwd := hmem 1783 (by decide +kernel) rfl
theorem ml_L_76 : Cond.methodLink RL 76 yX11_calm ∈ hwd := hmem 1074 (by decide +kernel) rfl
theorem ml_L_79 : Cond.methodLink RL 79 yX12_calm ∈ hwd := hmem 1787 (by decide +kernel) rfl
theorem ml_L_80 : Cond.methodLink RL 80 yX11_power ∈ hwd := hmem 1093 (by decide +kernel) rfl
theorem ml_L_84 : Cond.methodLink RL 84 yX12_power ∈ hwd := hmem 1797 (by decide +kernel) rfl
theorem ml_L_85 : Cond.methodLink RL 85 yX11_strongest ∈ hwd := hmem 1114 (by decide +kernel) rfl
theorem ml_L_88 : Cond.methodLink RL 88 yX12_strongest ∈ hwd := hmem 1809 (by decide +kernel) rfl
theorem ml_L_89 : Cond.methodLink RL 89 yX11_allies ∈ hwd := hmem 1122 (by decide +kernel) rfl
theorem ml_L_92 : Cond.methodLink RL 92 yX12_allies ∈ hwd := hmem 1813 (by decide +kernel) rfl
theorem ml_L_93 : Cond.methodLink RL 93 yX11_takeover ∈ hwd := hmem 1134 (by decide +kernel) rfl
theorem ml_L_96 : Cond.methodLink RL 96 yX12_takeover ∈ hwd := hmem 1833 (by decide +kernel) rfl
theorem ml_L_97 : Cond.methodLink RL 97 yX11_motion ∈ hwd := hmem 1138 (by decide +kernel) rfl
theorem ml_L_100 : Cond.methodLink RL 100 yX12_motion ∈ hwd := hmem 1829 (by decide +kernel) rfl
theorem ml_L_101 : Cond.methodLink RL 101 yX11_sell ∈ hwd := hmem 1143 (by decide +kernel) rfl
theorem ml_L_104 : Cond.methodLink RL 104 yX12_sell ∈ hwd := hmem 1837 (by decide +kernel) rfl
theorem ml_L_105 : Cond.methodLink RL 105 yX11_salting ∈ hwd := hmem 1165 (by decide +kernel) rfl
theorem ml_L_108 : Cond.methodLink RL 108 yX12_salting ∈ hwd := hmem 1844 (by decide +kernel) rfl
theorem ml_L_109 : Cond.methodLink RL 109 yX11_dearest ∈ hwd := hmem 1177 (by decide +kernel) rfl
theorem ml_L_112 : Cond.methodLink RL 112 yX12_dearest ∈ hwd := hmem 1852 (by decide +kernel) rfl
theorem ml_L_113 : Cond.methodLink RL 113 yX11_poorest ∈ hwd := hmem 1185 (by decide +kernel) rfl
theorem ml_L_116 : Cond.methodLink RL 116 yX12_poorest ∈ hwd := hmem 1856 (by decide +kernel) rfl
theorem ml_L_117 : Cond.methodLink RL 117 yX11_quiet ∈ hwd := hmem 1197 (by decide +kernel) rfl
theorem ml_L_120 : Cond.methodLink RL 120 yX12_quiet ∈ hwd := hmem 1863 (by decide +kernel) rfl
theorem ml_L_121 : Cond.methodLink RL 121 yX11_share ∈ hwd := hmem 1205 (by decide +kernel) rfl
theorem ml_L_124 : Cond.methodLink RL 124 yX12_share ∈ hwd := hmem 1867 (by decide +kernel) rfl
theorem ml_L_125 : Cond.methodLink RL 125 yX11_priceIn ∈ hwd := hmem 1213 (by decide +kernel) rfl
theorem ml_L_128 : Cond.methodLink RL 128 yX12_priceIn ∈ hwd := hmem 1871 (by decide +kernel) rfl
theorem ml_L_129 : Cond.methodLink RL 129 yX11_then ∈ hwd := hmem 1217 (by decide +kernel) rfl
theorem ml_L_132 : Cond.methodLink RL 132 yX12_then ∈ hwd := hmem 1875 (by decide +kernel) rfl
theorem ml_L_133 : Cond.methodLink RL 133 yX11_allIn ∈ hwd := hmem 1221 (by decide +kernel) rfl
theorem ml_L_136 : Cond.methodLink RL 136 yX12_allIn ∈ hwd := hmem 1879 (by decide +kernel) rfl
theorem ml_L_137 : Cond.methodLink RL 137 yX11_deals ∈ hwd := hmem 1225 (by decide +kernel) rfl
theorem ml_L_140 : Cond.methodLink RL 140 yX12_deals ∈ hwd := hmem 1883 (by decide +kernel) rfl
theorem ml_L_141 : Cond.methodLink RL 141 yX11_ruin ∈ hwd := hmem 1233 (by decide +kernel) rfl
theorem ml_L_144 : Cond.methodLink RL 144 yX12_ruin ∈ hwd := hmem 1887 (by decide +kernel) rfl
theorem ml_L_145 : Cond.methodLink RL 145 yX11_tell ∈ hwd := hmem 1237 (by decide +kernel) rfl
theorem ml_L_148 : Cond.methodLink RL 148 yX12_tell ∈ hwd := hmem 1891 (by decide +kernel) rfl
theorem ml_L_149 : Cond.methodLink RL 149 yX11_forget ∈ hwd := hmem 1245 (by decide +kernel) rfl
theorem ml_L_152 : Cond.methodLink RL 152 yX12_forget ∈ hwd := hmem 1895 (by decide +kernel) rfl
theorem ml_L_153 : Cond.methodLink RL 153 yX11_began ∈ hwd := hmem 1249 (by decide +kernel) rfl
theorem ml_L_156 : Cond.methodLink RL 156 yX12_began ∈ hwd := hmem 1899 (by decide +kernel) rfl
theorem ml_L_157 : Cond.methodLink RL 157 yX11_ask ∈ hwd := hmem 1261 (by decide +kernel) rfl
theorem ml_L_160 : Cond.methodLink RL 160 yX12_ask ∈ hwd := hmem 1907 (by decide +kernel) rfl
theorem ml_L_161 : Cond.methodLink RL 161 yX11_hold ∈ hwd := hmem 1271 (by decide +kernel) rfl
theorem ml_L_165 : Cond.methodLink RL 165 yX12_hold ∈ hwd := hmem 1911 (by decide +kernel) rfl
theorem ml_L_166 : Cond.methodLink RL 166 yX11_restore ∈ hwd := hmem 1279 (by decide +kernel) rfl
theorem ml_L_169 : Cond.methodLink RL 169 yX12_restore ∈ hwd := hmem 1915 (by decide +kernel) rfl
theorem ml_L_170 : Cond.methodLink RL 170 yX11_count ∈ hwd := hmem 1287 (by decide +kernel) rfl
theorem ml_L_173 : Cond.methodLink RL 173 yX12_count ∈ hwd := hmem 1919 (by decide +kernel) rfl
theorem ml_X12_152 : Cond.methodLink RX12 152 yX12_plain ∈ hwd := hmem 1307 (by decide +kernel) rfl
theorem ml_X12_156 : Cond.methodLink RX12 156 yX12_word ∈ hwd := hmem 1311 (by decide +kernel) rfl
theorem ml_X12_160 : Cond.methodLink RX12 160 yX12_begins ∈ hwd := hmem 1318 (by decide +kernel) rfl
theorem ml_X12_163 : Cond.methodLink RX12 163 yX12_keepsRow ∈ hwd := hmem 1322 (by decide +kernel) rfl
theorem ml_X12_169 : Cond.methodLink RX12 169 yX12_put ∈ hwd := hmem 1529 (by decide +kernel) rfl
theorem ml_X12_177 : Cond.methodLink RX12 177 yX12_appends ∈ hwd := hmem 1314 (by decide +kernel) rfl
theorem ml_X12_184 : Cond.methodLink RX12 184 yX12_byteAt ∈ hwd := hmem 1545 (by decide +kernel) rfl
theorem ml_X12_188 : Cond.methodLink RX12 188 yX12_token ∈ hwd := hmem 1549 (by decide +kernel) rfl
theorem ml_X12_192 : Cond.methodLink RX12 192 yX12_isLetter ∈ hwd := hmem 1553 (by decide +kernel) rfl
theorem ml_X12_196 : Cond.methodLink RX12 196 yX12_isDigit ∈ hwd := hmem 1556 (by decide +kernel) rfl
theorem ml_X12_199 : Cond.methodLink RX12 199 yX12_sign ∈ hwd := hmem 1559 (by decide +kernel) rfl
theorem ml_X12_218 : Cond.methodLink RX12 218 yX12_fail ∈ hwd := hmem 1575 (by decide +kernel) rfl
theorem ml_X12_221 : Cond.methodLink RX12 221 yX12_is ∈ hwd := hmem 1563 (by decide +kernel) rfl
theorem ml_X12_224 : Cond.methodLink RX12 224 yX12_goesOn ∈ hwd := hmem 1579 (by decide +kernel) rfl
theorem ml_X12_227 : Cond.methodLink RX12 227 yX12_cut ∈ hwd := hmem 1541 (by decide +kernel) rfl
theorem ml_X12_248 : Cond.methodLink RX12 248 yX12_tellOne ∈ hwd := hmem 1567 (by decide +kernel) rfl
theorem ml_X12_257 : Cond.methodLink RX12 257 yX12_bounded ∈ hwd := hmem 1599 (by decide +kernel) rfl
theorem ml_X12_261 : Cond.methodLink RX12 261 yX12_must ∈ hwd := hmem 1591 (by decide +kernel) rfl
theorem ml_X12_264 : Cond.methodLink RX12 264 yX12_roomFor ∈ hwd := hmem 1571 (by decide +kernel) rfl
theorem ml_X12_268 : Cond.methodLink RX12 268 yX12_tellHouse ∈ hwd := hmem 1583 (by decide +kernel) rfl
theorem ml_X12_271 : Cond.methodLink RX12 271 yX12_tellHears ∈ hwd := hmem 1607 (by decide +kernel) rfl
theorem ml_X12_274 : Cond.methodLink RX12 274 yX12_tellMotion ∈ hwd := hmem 1615 (by decide +kernel) rfl
theorem ml_X12_277 : Cond.methodLink RX12 277 yX12_toldInt ∈ hwd := hmem 1619 (by decide +kernel) rfl
theorem ml_X12_280 : Cond.methodLink RX12 280 yX12_tellLaw ∈ hwd := hmem 1623 (by decide +kernel) rfl
theorem ml_X12_283 : Cond.methodLink RX12 283 yX12_wrong ∈ hwd := hmem 1595 (by decide +kernel) rfl
theorem ml_X12_286 : Cond.methodLink RX12 286 yX12_named ∈ hwd := hmem 1587 (by decide +kernel) rfl
theorem ml_X12_290 : Cond.methodLink RX12 290 yX12_ends ∈ hwd := hmem 1603 (by decide +kernel) rfl
theorem ml_X12_293 : Cond.methodLink RX12 293 yX12_knownHouse ∈ hwd := hmem 1611 (by decide +kernel) rfl
theorem ml_X12_296 : Cond.methodLink RX12 296 yX12_expression ∈ hwd := hmem 1627 (by decide +kernel) rfl
theorem ml_X12_299 : Cond.methodLink RX12 299 yX12_term ∈ hwd := hmem 1643 (by decide +kernel) rfl
theorem ml_X12_305 : Cond.methodLink RX12 305 yX12_emit ∈ hwd := hmem 1635 (by decide +kernel) rfl
theorem ml_X12_308 : Cond.methodLink RX12 308 yX12_unit ∈ hwd := hmem 1631 (by decide +kernel) rfl
theorem ml_X12_311 : Cond.methodLink RX12 311 yX12_comesOut ∈ hwd := hmem 1639 (by decide +kernel) rfl
theorem ml_X12_319 : Cond.methodLink RX12 319 yX12_in ∈ hwd := hmem 1659 (by decide +kernel) rfl
theorem ml_X12_327 : Cond.methodLink RX12 327 yX12_mixed ∈ hwd := hmem 1764 (by decide +kernel) rfl
theorem ml_X12_330 : Cond.methodLink RX12 330 yX12_sumOf ∈ hwd := hmem 1678 (by decide +kernel) rfl
theorem ml_X12_333 : Cond.methodLink RX12 333 yX12_looks ∈ hwd := hmem 1674 (by decide +kernel) rfl
theorem ml_X12_336 : Cond.methodLink RX12 336 yX12_termOf ∈ hwd := hmem 1686 (by decide +kernel) rfl
theorem ml_X12_339 : Cond.methodLink RX12 339 yX12_lawTells ∈ hwd := hmem 1682 (by decide +kernel) rfl
theorem ml_X12_342 : Cond.methodLink RX12 342 yX12_held ∈ hwd := hmem 1690 (by decide +kernel) rfl
theorem ml_X12_345 : Cond.methodLink RX12 345 yX12_looksAt ∈ hwd := hmem 1670 (by decide +kernel) rfl
theorem ml_X12_348 : Cond.methodLink RX12 348 yX12_isGlut ∈ hwd := hmem 1760 (by decide +kernel) rfl
theorem ml_X12_352 : Cond.methodLink RX12 352 yX12_eatsNow ∈ hwd := hmem 1705 (by decide +kernel) rfl
theorem ml_X12_355 : Cond.methodLink RX12 355 yX12_glutNow ∈ hwd := hmem 1713 (by decide +kernel) rfl
theorem ml_X12_358 : Cond.methodLink RX12 358 yX12_eatsUp ∈ hwd := hmem 1732 (by decide +kernel) rfl
theorem ml_X12_361 : Cond.methodLink RX12 361 yX12_rotsNow ∈ hwd := hmem 1709 (by decide +kernel) rfl
theorem ml_X12_364 : Cond.methodLink RX12 364 yX12_dayGoes ∈ hwd := hmem 1756 (by decide +kernel) rfl
theorem ml_X12_367 : Cond.methodLink RX12 367 yX12_ownVotes ∈ hwd := hmem 1666 (by decide +kernel) rfl
theorem ml_X12_370 : Cond.methodLink RX12 370 yX12_isHouse ∈ hwd := hmem 1655 (by decide +kernel) rfl
theorem ml_X12_373 : Cond.methodLink RX12 373 yX12_copies ∈ hwd := hmem 1662 (by decide +kernel) rfl
theorem ml_X12_376 : Cond.methodLink RX12 376 yX12_votesOf ∈ hwd := hmem 1693 (by decide +kernel) rfl
theorem ml_X12_379 : Cond.methodLink RX12 379 yX12_priceNow ∈ hwd := hmem 1701 (by decide +kernel) rfl
theorem ml_X12_382 : Cond.methodLink RX12 382 yX12_isSome ∈ hwd := hmem 1721 (by decide +kernel) rfl
theorem ml_X12_385 : Cond.methodLink RX12 385 yX12_records ∈ hwd := hmem 1724 (by decide +kernel) rfl
theorem ml_X12_388 : Cond.methodLink RX12 388 yX12_hasProxy ∈ hwd := hmem 1744 (by decide +kernel) rfl
theorem ml_X12_391 : Cond.methodLink RX12 391 yX12_goes ∈ hwd := hmem 1752 (by decide +kernel) rfl
theorem ml_X12_394 : Cond.methodLink RX12 394 yX12_bits ∈ hwd := hmem 1780 (by decide +kernel) rfl
theorem ml_X12_397 : Cond.methodLink RX12 397 yX12_panicBy ∈ hwd := hmem 1776 (by decide +kernel) rfl
theorem ml_X12_400 : Cond.methodLink RX12 400 yX12_ithOf ∈ hwd := hmem 1794 (by decide +kernel) rfl
theorem ml_X12_403 : Cond.methodLink RX12 403 yX12_isEarlier ∈ hwd := hmem 1791 (by decide +kernel) rfl
theorem ml_X12_410 : Cond.methodLink RX12 410 yX12_fillsVotes ∈ hwd := hmem 1801 (by decide +kernel) rfl
theorem ml_X12_413 : Cond.methodLink RX12 413 yX12_turnsOf ∈ hwd := hmem 1805 (by decide +kernel) rfl
theorem ml_X12_416 : Cond.methodLink RX12 416 yX12_mostOf ∈ hwd := hmem 1825 (by decide +kernel) rfl
theorem ml_X12_419 : Cond.methodLink RX12 419 yX12_everybody ∈ hwd := hmem 1817 (by decide +kernel) rfl
theorem ml_X12_422 : Cond.methodLink RX12 422 yX12_fewestFrom ∈ hwd := hmem 1821 (by decide +kernel) rfl
theorem ml_X12_425 : Cond.methodLink RX12 425 yX12_isFew ∈ hwd := hmem 1841 (by decide +kernel) rfl
theorem ml_X12_428 : Cond.methodLink RX12 428 yX12_hasWith ∈ hwd := hmem 1848 (by decide +kernel) rfl
theorem ml_X12_431 : Cond.methodLink RX12 431 yX12_isLong ∈ hwd := hmem 1860 (by decide +kernel) rfl
theorem ml_X12_434 : Cond.methodLink RX12 434 yX12_beganBits ∈ hwd := hmem 1903 (by decide +kernel) rfl
theorem ml_J0_335 : Cond.methodLink RJ0 335 yJ0_coder_7d493 ∈ hwd := hmem 674 (by decide +kernel) rfl
theorem ml_J0_492 : Cond.methodLink RJ0 492 yJ0_isLatin1_aae02 ∈ hwd := hmem 614 (by decide +kernel) rfl
theorem ml_J0_495 : Cond.methodLink RJ0 495 yJ1_charAt_3b067 ∈ hwd := hmem 620 (by decide +kernel) rfl
theorem ml_J0_498 : Cond.methodLink RJ0 498 yJ2_charAt_3b067 ∈ hwd := hmem 631 (by decide +kernel) rfl
theorem ml_J0_505 : Cond.methodLink RJ0 505 yJ0_length_8abf5 ∈ hwd := hmem 670 (by decide +kernel) rfl
theorem ml_J0_633 : Cond.methodLink RJ0 633 yJ0_indexOf_7cf53 ∈ hwd := hmem 666 (by decide +kernel) rfl
theorem ml_J0_637 : Cond.methodLink RJ0 637 yJ1_indexOf_4cfef ∈ hwd := hmem 678 (by decide +kernel) rfl
theorem ml_J0_640 : Cond.methodLink RJ0 640 yJ2_indexOf_4cfef ∈ hwd := hmem 693 (by decide +kernel) rfl
theorem ml_J0_1059 : Cond.methodLink RJ0 1059 yJ3_checkIndex_8e157 ∈ hwd := hmem 628 (by decide +kernel) rfl
theorem ml_J0_1062 : Cond.methodLink RJ0 1062 yJ3_checkFromToIndex_8c36e ∈ hwd := hmem 708 (by decide +kernel) rfl
theorem ml_J1_9 : Cond.methodLink RJ1 9 yJ0_checkIndex_df160 ∈ hwd := hmem 623 (by decide +kernel) rfl
theorem ml_J1_38 : Cond.methodLink RJ1 38 yJ9_min_7cf53 ∈ hwd := hmem 687 (by decide +kernel) rfl
theorem ml_J1_88 : Cond.methodLink RJ1 88 yJ1_canEncode_9a6ad ∈ hwd := hmem 681 (by decide +kernel) rfl
theorem ml_J1_92 : Cond.methodLink RJ1 92 yJ9_max_7cf53 ∈ hwd := hmem 684 (by decide +kernel) rfl
theorem ml_J1_95 : Cond.methodLink RJ1 95 yJ1_indexOfChar_4cfef ∈ hwd := hmem 690 (by decide +kernel) rfl
theorem ml_J2_48 : Cond.methodLink RJ2 48 yJ2_length_9d52b ∈ hwd := hmem 637 (by decide +kernel) rfl
theorem ml_J2_67 : Cond.methodLink RJ2 67 yJ2_checkIndex_2214a ∈ hwd := hmem 634 (by decide +kernel) rfl
theorem ml_J2_71 : Cond.methodLink RJ2 71 yJ2_getChar_3b067 ∈ hwd := hmem 641 (by decide +kernel) rfl
theorem ml_J2_96 : Cond.methodLink RJ2 96 yJ2_checkBoundsBeginEnd_d044e ∈ hwd := hmem 702 (by decide +kernel) rfl
theorem ml_J2_157 : Cond.methodLink RJ2 157 yJ11_highSurrogate_5068e ∈ hwd := hmem 720 (by decide +kernel) rfl
theorem ml_J2_161 : Cond.methodLink RJ2 161 yJ11_lowSurrogate_5068e ∈ hwd := hmem 724 (by decide +kernel) rfl
theorem ml_J2_164 : Cond.methodLink RJ2 164 yJ11_isValidCodePoint_9a6ad ∈ hwd := hmem 717 (by decide +kernel) rfl
theorem ml_J2_183 : Cond.methodLink RJ2 183 yJ9_min_7cf53 ∈ hwd := hmem 697 (by decide +kernel) rfl
theorem ml_J2_224 : Cond.methodLink RJ2 224 yJ9_max_7cf53 ∈ hwd := hmem 696 (by decide +kernel) rfl
theorem ml_J2_228 : Cond.methodLink RJ2 228 yJ2_indexOfChar_4cfef ∈ hwd := hmem 699 (by decide +kernel) rfl
theorem ml_J2_232 : Cond.methodLink RJ2 232 yJ2_indexOfSupplementary_4cfef ∈ hwd := hmem 714 (by decide +kernel) rfl
theorem ml_J2_241 : Cond.methodLink RJ2 241 yJ0_checkBoundsBeginEnd_23922 ∈ hwd := hmem 705 (by decide +kernel) rfl
theorem ml_J2_244 : Cond.methodLink RJ2 244 yJ2_indexOfCharUnsafe_4cfef ∈ hwd := hmem 711 (by decide +kernel) rfl
theorem ml_J2_414 : Cond.methodLink RJ2 414 yJ0_checkIndex_df160 ∈ hwd := hmem 640 (by decide +kernel) rfl
theorem hacp : Cond.native arraycopyName ∈ hwd ∧ Cond.static arraycopyName ∈ hwd ∧ Cond.initialized "java/lang/System" ∈ hwd := ⟨hmem 974 (by decide +kernel) rfl, hmem 973 (by decide +kernel) rfl, hmem 126 (by decide +kernel) rfl⟩
def hnw : List Cond := [Cond.methodLinkNest RX11 9 yX7_init "HerringShares", Cond.methodLinkNest RX11 43 yX6_init "HerringShares", Cond.methodLinkNest RX11 50 yX5_init "HerringShares", Cond.methodLinkNest RX11 57 yX2_init "HerringShares", Cond.methodLinkNest RX11 73 yX3_init "HerringShares", Cond.methodLinkNest RX2 11 yX6_init "HerringShares", Cond.methodLinkNest RX10 32 yX1_init "HerringShares"]
theorem hnw_in : ∀ w ∈ hnw, w ∈ lw_tbl := by
  have hp : hnw = ([138, 246, 290, 314, 371, 319, 394] : List Nat).filterMap (fun i => lw_tbl[i]?) := by decide +kernel
  intro w hw
  rw [hp] at hw
  obtain ⟨i, -, hi⟩ := List.mem_filterMap.mp hw
  exact List.mem_of_getElem? hi
theorem cn_X2_106 : Cond.constant RX2 106 1103515245 ∈ hwd := hmem 1029 (by decide +kernel) rfl
theorem cn_X12_175 : Cond.constantLong RX12 175 27 ∈ hwd := hmem 1317 (by decide +kernel) rfl
theorem cn_X12_326 : Cond.constant RX12 326 1103515245 ∈ hwd := hmem 1767 (by decide +kernel) rfl
theorem cn_J11_76 : Cond.constant RJ11 76 56320 ∈ hwd := hmem 727 (by decide +kernel) rfl
theorem cn_J11_110 : Cond.constant RJ11 110 55232 ∈ hwd := hmem 723 (by decide +kernel) rfl
theorem cn_J6_265 : Cond.constant RJ6 265 1431655765 ∈ hwd := hmem 1057 (by decide +kernel) rfl
theorem cn_J6_266 : Cond.constant RJ6 266 858993459 ∈ hwd := hmem 1058 (by decide +kernel) rfl
theorem cn_J6_267 : Cond.constant RJ6 267 252645135 ∈ hwd := hmem 1059 (by decide +kernel) rfl
theorem cn_J2_227 : Cond.constant RJ2 227 65536 ∈ hwd := hmem 698 (by decide +kernel) rfl
theorem kl_X11_7 : Cond.classLink RX11 7 RX7 ∈ hwd := hmem 136 (by decide +kernel) rfl
theorem kl_X11_16 : Cond.classLink RX11 16 RX9 ∈ hwd := hmem 152 (by decide +kernel) rfl
theorem kl_X11_25 : Cond.classLink RX11 25 RX4 ∈ hwd := hmem 181 (by decide +kernel) rfl
theorem kl_X11_34 : Cond.classLink RX11 34 RX8 ∈ hwd := hmem 214 (by decide +kernel) rfl
theorem kl_X11_41 : Cond.classLink RX11 41 RX6 ∈ hwd := hmem 244 (by decide +kernel) rfl
theorem kl_X11_48 : Cond.classLink RX11 48 RX5 ∈ hwd := hmem 288 (by decide +kernel) rfl
theorem kl_X11_55 : Cond.classLink RX11 55 RX2 ∈ hwd := hmem 312 (by decide +kernel) rfl
theorem kl_X11_62 : Cond.classLink RX11 62 RX0 ∈ hwd := hmem 341 (by decide +kernel) rfl
theorem kl_X11_71 : Cond.classLink RX11 71 RX3 ∈ hwd := hmem 369 (by decide +kernel) rfl
theorem kl_X11_78 : Cond.classLink RX11 78 RX10 ∈ hwd := hmem 386 (by decide +kernel) rfl
theorem kl_X2_9 : Cond.classLink RX2 9 RX6 ∈ hwd := hmem 318 (by decide +kernel) rfl
theorem kl_X10_30 : Cond.classLink RX10 30 RX1 ∈ hwd := hmem 392 (by decide +kernel) rfl
theorem kl_L_7 : Cond.classLink RL 7 RX11 ∈ hwd := hmem 128 (by decide +kernel) rfl
theorem kl_L_10 : Cond.classLink RL 10 RX12 ∈ hwd := hmem 1301 (by decide +kernel) rfl
theorem ki_X11 : Cond.instantiable RX11 12 ∈ hwd := hmem 129 (by decide +kernel) rfl
theorem kn_X11 : Cond.initialized RX11 ∈ hwd := hmem 107 (by decide +kernel) rfl
theorem ki_X0 : Cond.instantiable RX0 6 ∈ hwd := hmem 342 (by decide +kernel) rfl
theorem kn_X0 : Cond.initialized RX0 ∈ hwd := hmem 115 (by decide +kernel) rfl
theorem ki_X1 : Cond.instantiable RX1 6 ∈ hwd := hmem 393 (by decide +kernel) rfl
theorem kn_X1 : Cond.initialized RX1 ∈ hwd := hmem 118 (by decide +kernel) rfl
theorem ki_X2 : Cond.instantiable RX2 6 ∈ hwd := hmem 313 (by decide +kernel) rfl
theorem kn_X2 : Cond.initialized RX2 ∈ hwd := hmem 114 (by decide +kernel) rfl
theorem ki_X3 : Cond.instantiable RX3 3 ∈ hwd := hmem 370 (by decide +kernel) rfl
theorem kn_X3 : Cond.initialized RX3 ∈ hwd := hmem 116 (by decide +kernel) rfl
theorem ki_X4 : Cond.instantiable RX4 8 ∈ hwd := hmem 182 (by decide +kernel) rfl
theorem kn_X4 : Cond.initialized RX4 ∈ hwd := hmem 110 (by decide +kernel) rfl
theorem ki_X5 : Cond.instantiable RX5 5 ∈ hwd := hmem 289 (by decide +kernel) rfl
theorem kn_X5 : Cond.initialized RX5 ∈ hwd := hmem 113 (by decide +kernel) rfl
theorem ki_X6 : Cond.instantiable RX6 8 ∈ hwd := hmem 245 (by decide +kernel) rfl
theorem kn_X6 : Cond.initialized RX6 ∈ hwd := hmem 112 (by decide +kernel) rfl
theorem ki_X7 : Cond.instantiable RX7 2 ∈ hwd := hmem 137 (by decide +kernel) rfl
theorem kn_X7 : Cond.initialized RX7 ∈ hwd := hmem 108 (by decide +kernel) rfl
theorem ki_X8 : Cond.instantiable RX8 7 ∈ hwd := hmem 215 (by decide +kernel) rfl
theorem kn_X8 : Cond.initialized RX8 ∈ hwd := hmem 111 (by decide +kernel) rfl
theorem ki_X9 : Cond.instantiable RX9 7 ∈ hwd := hmem 153 (by decide +kernel) rfl
theorem kn_X9 : Cond.initialized RX9 ∈ hwd := hmem 109 (by decide +kernel) rfl
theorem ki_X10 : Cond.instantiable RX10 13 ∈ hwd := hmem 387 (by decide +kernel) rfl
theorem kn_X10 : Cond.initialized RX10 ∈ hwd := hmem 117 (by decide +kernel) rfl
theorem ki_X12 : Cond.instantiable RX12 66 ∈ hwd := hmem 1302 (by decide +kernel) rfl
theorem kn_X12 : Cond.initialized RX12 ∈ hwd := hmem 119 (by decide +kernel) rfl
