theorem k_places {T L : List Cond} (ps : List Nat) (h : ps.map (fun i => T[i]?) = L.map some) : ∀ w ∈ L, w ∈ T := by
  intro w hw
  have h1 : some w ∈ ps.map (fun i => T[i]?) := by rw [h]; exact List.mem_map.mpr ⟨w, hw, rfl⟩
  obtain ⟨i, _, hi⟩ := List.mem_map.mp h1
  exact List.mem_of_getElem? hi
theorem k_inc {T L : List Cond} {x : Cond} (h : x ∈ T) (h2 : ∀ w ∈ L, w ∈ T) : ∀ w ∈ x :: L, w ∈ T := List.forall_mem_cons.mpr ⟨h, h2⟩
theorem k_ina {T L M : List Cond} (h : ∀ w ∈ L, w ∈ T) (h2 : ∀ w ∈ M, w ∈ T) : ∀ w ∈ L ++ M, w ∈ T := List.forall_mem_append.mpr ⟨h, h2⟩
theorem k_inn {T : List Cond} : ∀ w ∈ ([] : List Cond), w ∈ T := fun _ h => absurd h List.not_mem_nil
theorem in_u_J0 : ∀ w ∈ u_ws RJ0 TJ0 4, w ∈ lw_tbl := k_places [1053, 1055, 1057, 1059] (by decide +kernel)
theorem in_u_J4 : ∀ w ∈ u_ws RJ4 TJ4 4, w ∈ lw_tbl := k_places [849, 851, 853, 855] (by decide +kernel)
theorem in_u_Jx00060 : ∀ w ∈ u_ws RJx00060 TJx00060 6, w ∈ lw_tbl := k_places [1068, 1069, 1070, 1071, 1072, 1086] (by decide +kernel)
theorem in_u_X0 : ∀ w ∈ u_ws RX0 TX0 4, w ∈ lw_tbl := k_places [169, 171, 173, 175] (by decide +kernel)
theorem in_u_X1 : ∀ w ∈ u_ws RX1 TX1 10, w ∈ lw_tbl := k_places [379, 381, 383, 385, 387, 389, 391, 393, 395, 397] (by decide +kernel)
theorem in_u_X2 : ∀ w ∈ u_ws RX2 TX2 2, w ∈ lw_tbl := k_places [238, 240] (by decide +kernel)
theorem in_u_X3 : ∀ w ∈ u_ws RX3 TX3 7, w ∈ lw_tbl := k_places [280, 282, 284, 286, 288, 290, 292] (by decide +kernel)
theorem in_u_X4 : ∀ w ∈ u_ws RX4 TX4 10, w ∈ lw_tbl := k_places [339, 341, 343, 345, 347, 349, 351, 353, 355, 357] (by decide +kernel)
theorem in_u_X5 : ∀ w ∈ u_ws RX5 TX5 9, w ∈ lw_tbl := k_places [420, 422, 424, 426, 428, 430, 432, 434, 436] (by decide +kernel)
theorem in_u_X6 : ∀ w ∈ u_ws RX6 TX6 7, w ∈ lw_tbl := k_places [308, 310, 312, 314, 316, 318, 320] (by decide +kernel)
theorem in_u_X7 : ∀ w ∈ u_ws RX7 TX7 5, w ∈ lw_tbl := k_places [191, 193, 195, 197, 199] (by decide +kernel)
theorem in_u_X8 : ∀ w ∈ u_ws RX8 TX8 3, w ∈ lw_tbl := k_places [157, 159, 161] (by decide +kernel)
theorem in_u_X9 : ∀ w ∈ u_ws RX9 TX9 12, w ∈ lw_tbl := k_places [457, 459, 461, 463, 465, 467, 469, 471, 473, 475, 477, 479] (by decide +kernel)
theorem in_u_X10 : ∀ w ∈ u_ws RX10 TX10 29, w ∈ lw_tbl := k_places [1496, 1498, 1500, 1502, 1504, 1506, 1508, 1510, 1512, 1514, 1516, 1518, 1520, 1522, 1524, 1526, 1528, 1530, 1532, 1534, 1536, 1538, 1540, 1542, 1544, 1546, 1548, 1550, 1552] (by decide +kernel)
theorem in_G8_init : ∀ w ∈ wd_G8_init, w ∈ lw_tbl := k_inc (List.mem_of_getElem? (i := 146) (by decide +kernel)) (k_ina (k_places [147, 134, 135, 164, 148, 150, 154] (by decide +kernel)) (k_ina in_u_X8 (k_inn)))
theorem in_G0_init : ∀ w ∈ wd_G0_init, w ∈ lw_tbl := k_inc (List.mem_of_getElem? (i := 140) (by decide +kernel)) (k_ina (k_places [141, 134, 135, 142, 143, 99, 144, 145, 165, 166, 167, 168] (by decide +kernel)) (k_ina in_u_X8 (k_ina in_G8_init (k_ina in_u_X0 (k_inn)))))
theorem in_G7_init : ∀ w ∈ wd_G7_init, w ∈ lw_tbl := k_inc (List.mem_of_getElem? (i := 182) (by decide +kernel)) (k_ina (k_places [183, 134, 135, 202, 184] (by decide +kernel)) (k_ina in_u_X7 (k_inn)))
theorem in_G8_put : ∀ w ∈ wd_G8_put, w ∈ lw_tbl := k_inc (List.mem_of_getElem? (i := 222) (by decide +kernel)) (k_ina (k_places [223, 224, 103, 225, 154, 150, 148] (by decide +kernel)) (k_ina in_u_X8 (k_inn)))
theorem in_G2_init : ∀ w ∈ wd_G2_init, w ∈ lw_tbl := k_inc (List.mem_of_getElem? (i := 215) (by decide +kernel)) (k_ina (k_places [216, 134, 135, 217, 143, 99, 218, 145, 226, 232, 219, 220, 221] (by decide +kernel)) (k_ina in_u_X8 (k_ina in_G8_init (k_ina in_u_X2 (k_ina in_G8_put (k_inn))))))
theorem in_G3_init : ∀ w ∈ wd_G3_init, w ∈ lw_tbl := k_inc (List.mem_of_getElem? (i := 249) (by decide +kernel)) (k_ina (k_places [250, 134, 135, 251, 212, 102, 252, 214, 253] (by decide +kernel)) (k_ina in_u_X2 (k_ina in_G2_init (k_ina in_u_X3 (k_inn)))))
theorem in_G6_init : ∀ w ∈ wd_G6_init, w ∈ lw_tbl := k_inc (List.mem_of_getElem? (i := 207) (by decide +kernel)) (k_ina (k_places [208, 134, 135, 209, 295, 243, 299, 164, 304, 211, 212, 102, 213, 214, 306, 244, 143, 99, 245, 145, 307, 305, 246, 104, 248] (by decide +kernel)) (k_ina in_u_X6 (k_ina in_u_X2 (k_ina in_G2_init (k_ina in_u_X8 (k_ina in_G8_init (k_ina in_u_X3 (k_ina in_G3_init (k_inn)))))))))
theorem in_G4_init : ∀ w ∈ wd_G4_init, w ∈ lw_tbl := k_inc (List.mem_of_getElem? (i := 327) (by decide +kernel)) (k_ina (k_places [328, 134, 135, 202, 331, 164, 332, 333, 334, 335, 329, 330] (by decide +kernel)) (k_ina in_u_X4 (k_inn)))
theorem in_G1_init : ∀ w ∈ wd_G1_init, w ∈ lw_tbl := k_inc (List.mem_of_getElem? (i := 364) (by decide +kernel)) (k_ina (k_places [365, 134, 135, 366, 370, 371, 372, 373, 400, 374, 164, 375, 143, 99, 368, 145, 376, 377, 378, 369] (by decide +kernel)) (k_ina in_u_X1 (k_ina in_u_X8 (k_ina in_G8_init (k_inn)))))
theorem in_G5_init : ∀ w ∈ wd_G5_init, w ∈ lw_tbl := k_inc (List.mem_of_getElem? (i := 405) (by decide +kernel)) (k_ina (k_places [406, 134, 135, 202, 409, 164, 414, 415, 416, 417, 407, 143, 99, 408, 145, 418, 413] (by decide +kernel)) (k_ina in_u_X5 (k_ina in_u_X8 (k_ina in_G8_init (k_inn)))))
theorem in_GF_fill : ∀ w ∈ wd_GF_fill, w ∈ lw_tbl := k_inc (List.mem_of_getElem? (i := 444) (by decide +kernel)) (k_ina (k_places [] (by decide +kernel)) (k_inn))
theorem in_G9_init : ∀ w ∈ wd_G9_init, w ∈ lw_tbl := k_inc (List.mem_of_getElem? (i := 132) (by decide +kernel)) (k_ina (k_places [133, 134, 135, 136, 137, 98, 139, 445, 178, 179, 100, 181, 446, 203, 204, 101, 205, 206, 447, 323, 324, 105, 325, 326, 448, 360, 361, 106, 362, 363, 449, 401, 402, 107, 403, 404, 450, 439, 451, 212, 102, 441, 214, 452, 164, 453, 442, 443, 108, 454, 455, 456] (by decide +kernel)) (k_ina in_u_X0 (k_ina in_G0_init (k_ina in_u_X9 (k_ina in_u_X7 (k_ina in_G7_init (k_ina in_u_X6 (k_ina in_G6_init (k_ina in_u_X4 (k_ina in_G4_init (k_ina in_u_X1 (k_ina in_G1_init (k_ina in_u_X5 (k_ina in_G5_init (k_ina in_u_X2 (k_ina in_G2_init (k_ina in_GF_fill (k_inn))))))))))))))))))
theorem in_X10_trim : ∀ w ∈ wd_X10_trim, w ∈ lw_tbl := k_inc (List.mem_of_getElem? (i := 1466) (by decide +kernel)) (k_ina (k_places [1469, 1470, 1468] (by decide +kernel)) (k_ina in_u_X10 (k_inn)))
theorem in_X10_assign : ∀ w ∈ wd_X10_assign, w ∈ lw_tbl := k_inc (List.mem_of_getElem? (i := 1461) (by decide +kernel)) (k_ina (k_places [1468, 1462, 1469, 1470, 1463, 1465, 44, 109] (by decide +kernel)) (k_ina in_u_X10 (k_ina in_X10_trim (k_inn))))
theorem in_X10_trimL : ∀ w ∈ wd_X10_trimL, w ∈ lw_tbl := k_inc (List.mem_of_getElem? (i := 1466) (by decide +kernel)) (k_ina (k_places [1469, 1468, 1470] (by decide +kernel)) (k_ina in_u_X10 (k_inn)))
theorem in_X10_asgL : ∀ w ∈ wd_X10_asgL, w ∈ lw_tbl := k_inc (List.mem_of_getElem? (i := 1461) (by decide +kernel)) (k_ina (k_places [1468, 1462, 1469, 1470, 1463, 1465, 44, 109] (by decide +kernel)) (k_ina in_u_X10 (k_ina in_X10_trimL (k_inn))))
theorem in_G10_init : ∀ w ∈ wd_G10_init, w ∈ lw_tbl := k_inc (List.mem_of_getElem? (i := 1455) (by decide +kernel)) (k_ina (k_places [1456, 134, 135, 1457, 400, 1468, 164, 1469, 243, 1470, 1471, 1473, 1474, 1475, 1476, 1477, 1478, 1479, 1482, 1483, 1484, 1485, 1486, 1490, 1491, 1493, 1494, 1458, 1460, 43, 109] (by decide +kernel)) (k_ina in_u_X10 (k_ina in_X10_assign (k_ina in_X10_asgL (k_inn)))))
