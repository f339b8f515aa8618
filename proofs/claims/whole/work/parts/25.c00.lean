set_option maxRecDepth 100000 in
theorem jc_0 : jp_chkL jcl jZ1 jSR 0 true cX0_init jo_0 ji_0 = true := by decide +kernel
set_option maxRecDepth 100000 in
theorem jgO_0 : GoodIn lw_tbl jwO_0 := goodIn_r _ [181, 149, 180, 182, 183, 358, 247, 361, 248, 363, 286, 288, 366, 247, 369, 286, 288, 373, 311, 313, 375, 369] rfl (by decide +kernel)
set_option maxRecDepth 100000 in
theorem jn_0 : jp_nws jY RX0 jo_0 ji_0 = ([0, 1] : List Nat).filterMap (fun i => jNW[i]?) := rfl
set_option maxRecDepth 100000 in
theorem jc_1 : jp_chkL jcl jZ1 jSR 0 false cX0_becomes jo_1 ji_1 = true := by decide +kernel
set_option maxRecDepth 100000 in
theorem jgO_1 : GoodIn lw_tbl jwO_1 := goodIn_r _ [1380, 149, 1378, 1379, 358, 358, 1381, 361, 361, 358, 209, 1382, 363, 363, 1383, 366, 366, 1104, 369, 369, 1382, 371, 371, 373, 373, 1104, 375, 375, 1384] rfl (by decide +kernel)
set_option maxRecDepth 100000 in
theorem jn_1 : jp_nws jY RX0 jo_1 ji_1 = ([] : List Nat).filterMap (fun i => jNW[i]?) := rfl
set_option maxRecDepth 100000 in
theorem jc_2 : jp_chkL jcl jZ1 jSR 0 false cX0_isTold jo_2 ji_2 = true := by decide +kernel
set_option maxRecDepth 100000 in
theorem jgO_2 : GoodIn lw_tbl jwO_2 := goodIn_r _ [1103, 149, 1101, 1102, 366, 1104, 1110, 373, 1104] rfl (by decide +kernel)
set_option maxRecDepth 100000 in
theorem jn_2 : jp_nws jY RX0 jo_2 ji_2 = ([] : List Nat).filterMap (fun i => jNW[i]?) := rfl
set_option maxRecDepth 100000 in
theorem jc_3 : jp_chkL jcl jZ1 jSR 0 false cX0_leases jo_3 ji_3 = true := by decide +kernel
set_option maxRecDepth 100000 in
theorem jgO_3 : GoodIn lw_tbl jwO_3 := goodIn_r _ [1113, 149, 1112, 31, 297, 371, 369, 297, 302, 369, 302] rfl (by decide +kernel)
set_option maxRecDepth 100000 in
theorem jn_3 : jp_nws jY RX0 jo_3 ji_3 = ([6] : List Nat).filterMap (fun i => jNW[i]?) := rfl
set_option maxRecDepth 100000 in
theorem jc_4 : jp_chkL jcl jZ1 jSR 0 false cX0_writes jo_4 ji_4 = true := by decide +kernel
set_option maxRecDepth 100000 in
theorem jgO_4 : GoodIn lw_tbl jwO_4 := goodIn_r _ [726, 149, 724, 725, 358, 209, 358, 209, 361, 358, 192, 361, 361, 361, 358, 209, 209] rfl (by decide +kernel)
set_option maxRecDepth 100000 in
theorem jn_4 : jp_nws jY RX0 jo_4 ji_4 = ([] : List Nat).filterMap (fun i => jNW[i]?) := rfl
set_option maxRecDepth 100000 in
theorem jc_5 : jp_chkL jcl jZ1 jSR 0 false cX0_sees jo_5 ji_5 = true := by decide +kernel
set_option maxRecDepth 100000 in
theorem jgO_5 : GoodIn lw_tbl jwO_5 := goodIn_r _ [829, 149, 827, 828, 358, 219, 358, 219, 830, 833, 834, 369] rfl (by decide +kernel)
set_option maxRecDepth 100000 in
theorem jn_5 : jp_nws jY RX0 jo_5 ji_5 = ([] : List Nat).filterMap (fun i => jNW[i]?) := rfl
set_option maxRecDepth 100000 in
theorem jc_6 : jp_chkL jcl jZ1 jSR 0 false cX0_seerOf jo_6 ji_6 = true := by decide +kernel
set_option maxRecDepth 100000 in
theorem jgO_6 : GoodIn lw_tbl jwO_6 := goodIn_r _ [825, 149, 823, 824, 358, 205, 826] rfl (by decide +kernel)
set_option maxRecDepth 100000 in
theorem jn_6 : jp_nws jY RX0 jo_6 ji_6 = ([] : List Nat).filterMap (fun i => jNW[i]?) := rfl
set_option maxRecDepth 100000 in
theorem jc_7 : jp_chkL jcl jZ1 jSR 1 true cX1_init jo_7 ji_7 = true := by decide +kernel
set_option maxRecDepth 100000 in
theorem jgO_7 : GoodIn lw_tbl jwO_7 := goodIn_r _ [422, 156, 421, 423, 247, 425, 247, 426, 247, 427, 247, 428, 424] rfl (by decide +kernel)
set_option maxRecDepth 100000 in
theorem jn_7 : jp_nws jY RX1 jo_7 ji_7 = ([] : List Nat).filterMap (fun i => jNW[i]?) := rfl
set_option maxRecDepth 100000 in
theorem jc_8 : jp_chkL jcl jZ1 jSR 1 false cX1_learnsFree jo_8 ji_8 = true := by decide +kernel
set_option maxRecDepth 100000 in
theorem jgO_8 : GoodIn lw_tbl jwO_8 := goodIn_r _ [1175, 156, 1174, 33, 425, 424, 1176] rfl (by decide +kernel)
set_option maxRecDepth 100000 in
theorem jn_8 : jp_nws jY RX1 jo_8 ji_8 = ([] : List Nat).filterMap (fun i => jNW[i]?) := rfl
set_option maxRecDepth 100000 in
theorem jc_9 : jp_chkL jcl jZ1 jSR 1 false cX1_isFree jo_9 ji_9 = true := by decide +kernel
set_option maxRecDepth 100000 in
theorem jgO_9 : GoodIn lw_tbl jwO_9 := goodIn_r _ [1180, 156, 1179, 34, 425] rfl (by decide +kernel)
set_option maxRecDepth 100000 in
theorem jn_9 : jp_nws jY RX1 jo_9 ji_9 = ([7, 7] : List Nat).filterMap (fun i => jNW[i]?) := rfl
set_option maxRecDepth 100000 in
theorem jc_10 : jp_chkL jcl jZ1 jSR 1 false cX1_walks jo_10 ji_10 = true := by decide +kernel
set_option maxRecDepth 100000 in
theorem jgO_10 : GoodIn lw_tbl jwO_10 := goodIn_r _ [1171, 156, 1169, 1170, 1172, 1177, 1177, 426, 427, 426, 427, 428, 429, 429, 428, 428, 428, 1182, 428, 1182, 428, 1182, 428, 1182, 426, 430, 427, 432, 430] rfl (by decide +kernel)
set_option maxRecDepth 100000 in
theorem jn_10 : jp_nws jY RX1 jo_10 ji_10 = ([] : List Nat).filterMap (fun i => jNW[i]?) := rfl
set_option maxRecDepth 100000 in
theorem jc_11 : jp_chkL jcl jZ1 jSR 1 false cX1_reaches jo_11 ji_11 = true := by decide +kernel
set_option maxRecDepth 100000 in
theorem jgO_11 : GoodIn lw_tbl jwO_11 := goodIn_r _ [1185, 156, 1184, 35, 1177, 426, 429, 426, 426, 428, 429, 429, 429, 426, 426, 427, 427, 427, 1186] rfl (by decide +kernel)
set_option maxRecDepth 100000 in
theorem jn_11 : jp_nws jY RX1 jo_11 ji_11 = ([] : List Nat).filterMap (fun i => jNW[i]?) := rfl
set_option maxRecDepth 100000 in
theorem jc_12 : jp_chkL jcl jZ1 jSR 1 false cX1_widens jo_12 ji_12 = true := by decide +kernel
set_option maxRecDepth 100000 in
theorem jgO_12 : GoodIn lw_tbl jwO_12 := goodIn_r _ [1194, 156, 1192, 1193, 1172, 434, 436, 1195] rfl (by decide +kernel)
set_option maxRecDepth 100000 in
theorem jn_12 : jp_nws jY RX1 jo_12 ji_12 = ([] : List Nat).filterMap (fun i => jNW[i]?) := rfl
set_option maxRecDepth 100000 in
theorem jc_13 : jp_chkL jcl jZ1 jSR 1 false cX1_widensFrom jo_13 ji_13 = true := by decide +kernel
set_option maxRecDepth 100000 in
theorem jgO_13 : GoodIn lw_tbl jwO_13 := goodIn_r _ [1198, 156, 1197, 36, 1199, 1203, 434, 434, 436] rfl (by decide +kernel)
set_option maxRecDepth 100000 in
theorem jn_13 : jp_nws jY RX1 jo_13 ji_13 = ([] : List Nat).filterMap (fun i => jNW[i]?) := rfl
set_option maxRecDepth 100000 in
theorem jc_14 : jp_chkL jcl jZ1 jSR 1 false cX1_runUp jo_14 ji_14 = true := by decide +kernel
set_option maxRecDepth 100000 in
theorem jgO_14 : GoodIn lw_tbl jwO_14 := goodIn_r _ [1202, 156, 1201, 37, 1177] rfl (by decide +kernel)
set_option maxRecDepth 100000 in
theorem jn_14 : jp_nws jY RX1 jo_14 ji_14 = ([] : List Nat).filterMap (fun i => jNW[i]?) := rfl
set_option maxRecDepth 100000 in
theorem jc_15 : jp_chkL jcl jZ1 jSR 1 false cX1_freeFromGround jo_15 ji_15 = true := by decide +kernel
set_option maxRecDepth 100000 in
theorem jgO_15 : GoodIn lw_tbl jwO_15 := goodIn_r _ [1325, 156, 1323, 1324, 1172, 1199] rfl (by decide +kernel)
set_option maxRecDepth 100000 in
theorem jn_15 : jp_nws jY RX1 jo_15 ji_15 = ([] : List Nat).filterMap (fun i => jNW[i]?) := rfl
set_option maxRecDepth 100000 in
theorem jc_16 : jp_chkL jcl jZ1 jSR 1 false cX1_gameMove jo_16 ji_16 = true := by decide +kernel
set_option maxRecDepth 100000 in
theorem jgO_16 : GoodIn lw_tbl jwO_16 := goodIn_r _ [1351, 156, 1349, 1350, 424, 202, 1352, 1356, 424, 202, 1352, 1356, 1356, 1356] rfl (by decide +kernel)
set_option maxRecDepth 100000 in
theorem jn_16 : jp_nws jY RX1 jo_16 ji_16 = ([] : List Nat).filterMap (fun i => jNW[i]?) := rfl
set_option maxRecDepth 100000 in
theorem jc_17 : jp_chkL jcl jZ1 jSR 1 false cX1_stoopsOf jo_17 ji_17 = true := by decide +kernel
set_option maxRecDepth 100000 in
theorem jgO_17 : GoodIn lw_tbl jwO_17 := goodIn_r _ [1355, 156, 1354, 47, 424, 215] rfl (by decide +kernel)
set_option maxRecDepth 100000 in
theorem jn_17 : jp_nws jY RX1 jo_17 ji_17 = ([] : List Nat).filterMap (fun i => jNW[i]?) := rfl
set_option maxRecDepth 100000 in
theorem jc_18 : jp_chkL jcl jZ1 jSR 1 false cX1_worth jo_18 ji_18 = true := by decide +kernel
set_option maxRecDepth 100000 in
theorem jgO_18 : GoodIn lw_tbl jwO_18 := goodIn_r _ [1358, 156, 1357, 1359, 1359] rfl (by decide +kernel)
set_option maxRecDepth 100000 in
theorem jn_18 : jp_nws jY RX1 jo_18 ji_18 = ([7] : List Nat).filterMap (fun i => jNW[i]?) := rfl
set_option maxRecDepth 100000 in
theorem jc_19 : jp_chkL jcl jZ1 jSR 1 false cX1_leapWays jo_19 ji_19 = true := by decide +kernel
set_option maxRecDepth 100000 in
theorem jgO_19 : GoodIn lw_tbl jwO_19 := goodIn_r _ [1368, 156, 1366, 1367, 1172, 1177] rfl (by decide +kernel)
set_option maxRecDepth 100000 in
theorem jn_19 : jp_nws jY RX1 jo_19 ji_19 = ([] : List Nat).filterMap (fun i => jNW[i]?) := rfl
set_option maxRecDepth 100000 in
theorem jc_20 : jp_chkL jcl jZ1 jSR 2 true cX2_init jo_20 ji_20 = true := by decide +kernel
set_option maxRecDepth 100000 in
theorem jgO_20 : GoodIn lw_tbl jwO_20 := goodIn_r _ [401, 155, 400, 402, 247, 405, 403, 359, 404] rfl (by decide +kernel)
set_option maxRecDepth 100000 in
theorem jn_20 : jp_nws jY RX2 jo_20 ji_20 = ([] : List Nat).filterMap (fun i => jNW[i]?) := rfl
set_option maxRecDepth 100000 in
theorem jc_21 : jp_chkL jcl jZ1 jSR 2 false cX2_wants jo_21 ji_21 = true := by decide +kernel
set_option maxRecDepth 100000 in
theorem jgO_21 : GoodIn lw_tbl jwO_21 := goodIn_r _ [681, 155, 679, 680, 404, 682, 405, 405, 405, 405, 405, 405] rfl (by decide +kernel)
set_option maxRecDepth 100000 in
theorem jn_21 : jp_nws jY RX2 jo_21 ji_21 = ([4, 4] : List Nat).filterMap (fun i => jNW[i]?) := rfl
set_option maxRecDepth 100000 in
theorem jc_22 : jp_chkL jcl jZ1 jSR 2 false cX2_fits jo_22 ji_22 = true := by decide +kernel
set_option maxRecDepth 100000 in
theorem jgO_22 : GoodIn lw_tbl jwO_22 := goodIn_r _ [687, 155, 685, 686, 405, 405, 688, 404, 207, 404, 405, 691] rfl (by decide +kernel)
set_option maxRecDepth 100000 in
theorem jn_22 : jp_nws jY RX2 jo_22 ji_22 = ([] : List Nat).filterMap (fun i => jNW[i]?) := rfl
set_option maxRecDepth 100000 in
theorem jc_23 : jp_chkL jcl jZ1 jSR 2 false cX2_asks jo_23 ji_23 = true := by decide +kernel
set_option maxRecDepth 100000 in
theorem jgO_23 : GoodIn lw_tbl jwO_23 := goodIn_r _ [713, 155, 711, 712, 404, 714, 718, 403, 364, 404, 405, 727, 407, 404, 762, 403, 405, 723, 403, 364, 404, 405, 727, 404, 405, 768, 718] rfl (by decide +kernel)
set_option maxRecDepth 100000 in
theorem jn_23 : jp_nws jY RX2 jo_23 ji_23 = ([] : List Nat).filterMap (fun i => jNW[i]?) := rfl
set_option maxRecDepth 100000 in
theorem jc_24 : jp_chkL jcl jZ1 jSR 2 false cX2_takes jo_24 ji_24 = true := by decide +kernel
set_option maxRecDepth 100000 in
theorem jgO_24 : GoodIn lw_tbl jwO_24 := goodIn_r _ [780, 155, 778, 779, 405, 718] rfl (by decide +kernel)
set_option maxRecDepth 100000 in
theorem jn_24 : jp_nws jY RX2 jo_24 ji_24 = ([] : List Nat).filterMap (fun i => jNW[i]?) := rfl
set_option maxRecDepth 100000 in
theorem jc_25 : jp_chkL jcl jZ1 jSR 2 false cX2_begins jo_25 ji_25 = true := by decide +kernel
set_option maxRecDepth 100000 in
theorem jgO_25 : GoodIn lw_tbl jwO_25 := goodIn_r _ [721, 155, 720, 5, 404, 199, 405, 405, 405, 404, 222, 404, 207, 722, 404, 207, 207, 404, 199, 199, 403, 723] rfl (by decide +kernel)
set_option maxRecDepth 100000 in
theorem jn_25 : jp_nws jY RX2 jo_25 ji_25 = ([] : List Nat).filterMap (fun i => jNW[i]?) := rfl
set_option maxRecDepth 100000 in
theorem jc_26 : jp_chkL jcl jZ1 jSR 2 false cX2_closes jo_26 ji_26 = true := by decide +kernel
set_option maxRecDepth 100000 in
theorem jgO_26 : GoodIn lw_tbl jwO_26 := goodIn_r _ [792, 155, 790, 791, 403, 404, 222, 723, 404, 793] rfl (by decide +kernel)
set_option maxRecDepth 100000 in
theorem jn_26 : jp_nws jY RX2 jo_26 ji_26 = ([] : List Nat).filterMap (fun i => jNW[i]?) := rfl
set_option maxRecDepth 100000 in
theorem jc_27 : jp_chkL jcl jZ1 jSR 2 false cX2_passesDay jo_27 ji_27 = true := by decide +kernel
set_option maxRecDepth 100000 in
theorem jgO_27 : GoodIn lw_tbl jwO_27 := goodIn_r _ [811, 155, 809, 810, 812, 404, 714, 818, 840, 404, 194, 404, 845, 404, 194, 194] rfl (by decide +kernel)
set_option maxRecDepth 100000 in
theorem jn_27 : jp_nws jY RX2 jo_27 ji_27 = ([] : List Nat).filterMap (fun i => jNW[i]?) := rfl
set_option maxRecDepth 100000 in
theorem jc_28 : jp_chkL jcl jZ1 jSR 2 false cX2_hears jo_28 ji_28 = true := by decide +kernel
set_option maxRecDepth 100000 in
theorem jgO_28 : GoodIn lw_tbl jwO_28 := goodIn_r _ [815, 155, 814, 10, 403, 367, 298, 303, 404, 194, 303, 405, 722, 816, 817] rfl (by decide +kernel)
set_option maxRecDepth 100000 in
theorem jn_28 : jp_nws jY RX2 jo_28 ji_28 = ([] : List Nat).filterMap (fun i => jNW[i]?) := rfl
set_option maxRecDepth 100000 in
theorem jc_29 : jp_chkL jcl jZ1 jSR 2 false cX2_fines jo_29 ji_29 = true := by decide +kernel
set_option maxRecDepth 100000 in
theorem jgO_29 : GoodIn lw_tbl jwO_29 := goodIn_r _ [821, 155, 820, 11, 404, 207, 404, 222, 403, 404, 222, 822, 835, 404, 207] rfl (by decide +kernel)
set_option maxRecDepth 100000 in
theorem jn_29 : jp_nws jY RX2 jo_29 ji_29 = ([] : List Nat).filterMap (fun i => jNW[i]?) := rfl
set_option maxRecDepth 100000 in
theorem jc_30 : jp_chkL jcl jZ1 jSR 2 false cX2_finesUse jo_30 ji_30 = true := by decide +kernel
set_option maxRecDepth 100000 in
theorem jgO_30 : GoodIn lw_tbl jwO_30 := goodIn_r _ [838, 155, 837, 12, 404, 222, 403, 364, 404, 404, 222, 727, 404, 768, 404, 216, 404, 216, 404, 216, 839, 404, 220, 403, 404, 222, 723, 404, 793] rfl (by decide +kernel)
set_option maxRecDepth 100000 in
theorem jn_30 : jp_nws jY RX2 jo_30 ji_30 = ([] : List Nat).filterMap (fun i => jNW[i]?) := rfl
set_option maxRecDepth 100000 in
theorem jc_31 : jp_chkL jcl jZ1 jSR 2 false cX2_wears jo_31 ji_31 = true := by decide +kernel
set_option maxRecDepth 100000 in
theorem jgO_31 : GoodIn lw_tbl jwO_31 := goodIn_r _ [843, 155, 842, 13, 404, 207, 404, 222, 404, 222, 844] rfl (by decide +kernel)
set_option maxRecDepth 100000 in
theorem jn_31 : jp_nws jY RX2 jo_31 ji_31 = ([] : List Nat).filterMap (fun i => jNW[i]?) := rfl
set_option maxRecDepth 100000 in
theorem jc_32 : jp_chkL jcl jZ1 jSR 3 true cX3_init jo_32 ji_32 = true := by decide +kernel
set_option maxRecDepth 100000 in
theorem jgO_32 : GoodIn lw_tbl jwO_32 := goodIn_r _ [252, 151, 251, 253, 247, 259, 247, 261, 247, 263, 285, 265, 247, 266, 247, 267] rfl (by decide +kernel)
set_option maxRecDepth 100000 in
theorem jn_32 : jp_nws jY RX3 jo_32 ji_32 = ([] : List Nat).filterMap (fun i => jNW[i]?) := rfl
set_option maxRecDepth 100000 in
theorem jc_33 : jp_chkL jcl jZ1 jSR 3 false cX3_becomes jo_33 ji_33 = true := by decide +kernel
set_option maxRecDepth 100000 in
theorem jgO_33 : GoodIn lw_tbl jwO_33 := goodIn_r _ [1053, 151, 1051, 1052, 254, 254, 257, 257, 259, 259, 254, 1054, 261, 261, 254, 1054, 263, 263, 254, 1054, 265, 265, 257, 1054] rfl (by decide +kernel)
set_option maxRecDepth 100000 in
theorem jn_33 : jp_nws jY RX3 jo_33 ji_33 = ([] : List Nat).filterMap (fun i => jNW[i]?) := rfl
set_option maxRecDepth 100000 in
theorem jc_34 : jp_chkL jcl jZ1 jSR 3 false cX3_clears jo_34 ji_34 = true := by decide +kernel
set_option maxRecDepth 100000 in
theorem jgO_34 : GoodIn lw_tbl jwO_34 := goodIn_r _ [1002, 151, 1000, 1001, 254, 257] rfl (by decide +kernel)
set_option maxRecDepth 100000 in
theorem jn_34 : jp_nws jY RX3 jo_34 ji_34 = ([] : List Nat).filterMap (fun i => jNW[i]?) := rfl
set_option maxRecDepth 100000 in
theorem jc_35 : jp_chkL jcl jZ1 jSR 3 false cX3_adds jo_35 ji_35 = true := by decide +kernel
set_option maxRecDepth 100000 in
theorem jgO_35 : GoodIn lw_tbl jwO_35 := goodIn_r _ [1023, 151, 1021, 1022, 257, 265, 257, 257, 257] rfl (by decide +kernel)
set_option maxRecDepth 100000 in
theorem jn_35 : jp_nws jY RX3 jo_35 ji_35 = ([] : List Nat).filterMap (fun i => jNW[i]?) := rfl
set_option maxRecDepth 100000 in
theorem jc_36 : jp_chkL jcl jZ1 jSR 3 false cX3_tells jo_36 ji_36 = true := by decide +kernel
set_option maxRecDepth 100000 in
theorem jgO_36 : GoodIn lw_tbl jwO_36 := goodIn_r _ [730, 151, 728, 729, 731, 744, 254, 261, 263, 259, 261, 263, 748, 263, 261, 748, 760, 761] rfl (by decide +kernel)
set_option maxRecDepth 100000 in
theorem jn_36 : jp_nws jY RX3 jo_36 ji_36 = ([] : List Nat).filterMap (fun i => jNW[i]?) := rfl
set_option maxRecDepth 100000 in
theorem jc_37 : jp_chkL jcl jZ1 jSR 3 false cX3_learns jo_37 ji_37 = true := by decide +kernel
set_option maxRecDepth 100000 in
theorem jgO_37 : GoodIn lw_tbl jwO_37 := goodIn_r _ [734, 151, 733, 6, 266, 266, 266, 266, 266, 214, 266, 214, 266, 735, 266, 739, 266, 740, 266, 193] rfl (by decide +kernel)
set_option maxRecDepth 100000 in
theorem jn_37 : jp_nws jY RX3 jo_37 ji_37 = ([] : List Nat).filterMap (fun i => jNW[i]?) := rfl
set_option maxRecDepth 100000 in
theorem jc_38 : jp_chkL jcl jZ1 jSR 3 false cX3_usual jo_38 ji_38 = true := by decide +kernel
set_option maxRecDepth 100000 in
theorem jgO_38 : GoodIn lw_tbl jwO_38 := goodIn_r _ [747, 151, 746, 7, 266, 266, 266] rfl (by decide +kernel)
set_option maxRecDepth 100000 in
theorem jn_38 : jp_nws jY RX3 jo_38 ji_38 = ([] : List Nat).filterMap (fun i => jNW[i]?) := rfl
set_option maxRecDepth 100000 in
theorem jc_39 : jp_chkL jcl jZ1 jSR 3 false cX3_value jo_39 ji_39 = true := by decide +kernel
set_option maxRecDepth 100000 in
theorem jgO_39 : GoodIn lw_tbl jwO_39 := goodIn_r _ [751, 151, 750, 8, 257, 265, 267, 267, 267, 752, 267, 755, 267] rfl (by decide +kernel)
set_option maxRecDepth 100000 in
theorem jn_39 : jp_nws jY RX3 jo_39 ji_39 = ([] : List Nat).filterMap (fun i => jNW[i]?) := rfl
set_option maxRecDepth 100000 in
theorem jg_jwG : GoodIn lw_tbl jwG := goodIn_r _ [706, 705, 162, 175, 176, 293, 294, 708, 709, 831, 832, 153] rfl (by decide +kernel)
set_option maxRecDepth 100000 in
theorem jg_jwC_0 : GoodIn lw_tbl jwC_0 := goodIn_r _ [377, 379, 381, 383, 385, 387, 389, 391, 178, 149] rfl (by decide +kernel)
set_option maxRecDepth 100000 in
theorem jg_jwC_1 : GoodIn lw_tbl jwC_1 := goodIn_r _ [438, 440, 442, 444, 446, 448, 450, 452, 454, 456, 419, 156] rfl (by decide +kernel)
set_option maxRecDepth 100000 in
theorem jg_jwC_2 : GoodIn lw_tbl jwC_2 := goodIn_r _ [409, 411, 413, 415, 398, 155] rfl (by decide +kernel)
set_option maxRecDepth 100000 in
theorem jg_jwC_3 : GoodIn lw_tbl jwC_3 := goodIn_r _ [268, 270, 272, 274, 276, 278, 280, 282, 249, 151] rfl (by decide +kernel)
set_option maxRecDepth 100000 in
theorem jg_jwC_4 : GoodIn lw_tbl jwC_4 := goodIn_r _ [552, 554, 542, 159] rfl (by decide +kernel)
set_option maxRecDepth 100000 in
theorem jg_jwC_5 : GoodIn lw_tbl jwC_5 := goodIn_r _ [572, 574, 576, 578, 580, 582, 558, 160] rfl (by decide +kernel)
set_option maxRecDepth 100000 in
theorem jg_jwC_6 : GoodIn lw_tbl jwC_6 := goodIn_r _ [521, 523, 525, 527, 529, 531, 533, 535, 537, 500, 158] rfl (by decide +kernel)
set_option maxRecDepth 100000 in
theorem jg_jwC_7 : GoodIn lw_tbl jwC_7 := goodIn_r _ [306, 308, 287, 152] rfl (by decide +kernel)
set_option maxRecDepth 100000 in
theorem jg_jwC_8 : GoodIn lw_tbl jwC_8 := goodIn_r _ [341, 343, 345, 347, 349, 351, 353, 355, 312, 154] rfl (by decide +kernel)
set_option maxRecDepth 100000 in
theorem jg_jwC_9 : GoodIn lw_tbl jwC_9 := goodIn_r _ [478, 480, 482, 484, 486, 488, 490, 492, 494, 496, 460, 157] rfl (by decide +kernel)
set_option maxRecDepth 100000 in
theorem jg_jwC_10 : GoodIn lw_tbl jwC_10 := goodIn_r _ [224, 226, 228, 230, 232, 234, 236, 238, 240, 242, 244, 184, 150] rfl (by decide +kernel)
set_option maxRecDepth 100000 in
theorem jg_jwC_11 : GoodIn lw_tbl jwC_11 := goodIn_r _ [600, 602, 604, 606, 608, 610, 612, 614, 616, 618, 620, 622, 624, 626, 628, 170, 148] rfl (by decide +kernel)
set_option maxRecDepth 100000 in
theorem jg_jwC_12 : GoodIn lw_tbl jwC_12 := goodIn_r _ [1467, 1469, 1471, 1473, 1475, 1477, 1479, 1481, 1483, 1485, 1487, 1489, 1491, 1493, 1495, 1497, 1499, 1501, 1503, 1505, 1507, 1509, 1511, 1513, 1515, 1517, 1519, 1521, 1523, 1525, 1527, 1529, 1531, 1533, 1535, 1537, 1539, 1541, 1543, 1545, 1547, 1549, 1551, 1553, 1555, 1557, 1559, 1561, 1563, 1565, 1567, 1569, 1571, 1573, 1575, 1577, 1579, 1581, 1583, 1585, 1587, 1589, 1591, 1593, 1595, 1597, 1396, 161] rfl (by decide +kernel)
