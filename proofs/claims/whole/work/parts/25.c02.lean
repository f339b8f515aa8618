set_option maxRecDepth 100000 in
theorem jc_80 : jp_chkL jcl jZ1 jSR 9 false cX9_worthOf jo_80 ji_80 = true := by decide +kernel
set_option maxRecDepth 100000 in
theorem jgO_80 : GoodIn lw_tbl jwO_80 := goodIn_r _ [1227, 157, 1226, 40, 465, 318, 467, 465, 327] rfl (by decide +kernel)
set_option maxRecDepth 100000 in
theorem jn_80 : jp_nws jY RX9 jo_80 ji_80 = ([] : List Nat).filterMap (fun i => jNW[i]?) := rfl
set_option maxRecDepth 100000 in
theorem jc_81 : jp_chkL jcl jZ1 jSR 9 false cX9_crossings jo_81 ji_81 = true := by decide +kernel
set_option maxRecDepth 100000 in
theorem jgO_81 : GoodIn lw_tbl jwO_81 := goodIn_r _ [1239, 157, 1237, 1238, 465, 321, 465, 321, 1240] rfl (by decide +kernel)
set_option maxRecDepth 100000 in
theorem jn_81 : jp_nws jY RX9 jo_81 ji_81 = ([] : List Nat).filterMap (fun i => jNW[i]?) := rfl
set_option maxRecDepth 100000 in
theorem jc_82 : jp_chkL jcl jZ1 jSR 9 false cX9_crosses jo_82 ji_82 = true := by decide +kernel
set_option maxRecDepth 100000 in
theorem jgO_82 : GoodIn lw_tbl jwO_82 := goodIn_r _ [1243, 157, 1242, 41, 465, 330] rfl (by decide +kernel)
set_option maxRecDepth 100000 in
theorem jn_82 : jp_nws jY RX9 jo_82 ji_82 = ([] : List Nat).filterMap (fun i => jNW[i]?) := rfl
set_option maxRecDepth 100000 in
theorem jc_83 : jp_chkL jcl jZ1 jSR 9 false cX9_layers jo_83 ji_83 = true := by decide +kernel
set_option maxRecDepth 100000 in
theorem jgO_83 : GoodIn lw_tbl jwO_83 := goodIn_r _ [1247, 157, 1245, 1246, 465, 321, 468, 465, 321, 465, 321, 1248, 468, 1252] rfl (by decide +kernel)
set_option maxRecDepth 100000 in
theorem jn_83 : jp_nws jY RX9 jo_83 ji_83 = ([] : List Nat).filterMap (fun i => jNW[i]?) := rfl
set_option maxRecDepth 100000 in
theorem jc_84 : jp_chkL jcl jZ1 jSR 9 false cX9_lengthensChain jo_84 ji_84 = true := by decide +kernel
set_option maxRecDepth 100000 in
theorem jgO_84 : GoodIn lw_tbl jwO_84 := goodIn_r _ [1251, 157, 1250, 42, 465, 321, 1240, 468, 468, 468, 1252] rfl (by decide +kernel)
set_option maxRecDepth 100000 in
theorem jn_84 : jp_nws jY RX9 jo_84 ji_84 = ([] : List Nat).filterMap (fun i => jNW[i]?) := rfl
set_option maxRecDepth 100000 in
theorem jc_85 : jp_chkL jcl jZ1 jSR 9 false cX9_leastWays jo_85 ji_85 = true := by decide +kernel
set_option maxRecDepth 100000 in
theorem jgO_85 : GoodIn lw_tbl jwO_85 := goodIn_r _ [1264, 157, 1262, 1263, 469, 1265, 1271, 1276, 469, 469] rfl (by decide +kernel)
set_option maxRecDepth 100000 in
theorem jn_85 : jp_nws jY RX9 jo_85 ji_85 = ([] : List Nat).filterMap (fun i => jNW[i]?) := rfl
set_option maxRecDepth 100000 in
theorem jc_86 : jp_chkL jcl jZ1 jSR 9 false cX9_costOf jo_86 ji_86 = true := by decide +kernel
set_option maxRecDepth 100000 in
theorem jgO_86 : GoodIn lw_tbl jwO_86 := goodIn_r _ [1274, 157, 1273, 43, 465, 336, 469, 465, 336, 469] rfl (by decide +kernel)
set_option maxRecDepth 100000 in
theorem jn_86 : jp_nws jY RX9 jo_86 ji_86 = ([8, 8] : List Nat).filterMap (fun i => jNW[i]?) := rfl
set_option maxRecDepth 100000 in
theorem jc_87 : jp_chkL jcl jZ1 jSR 9 false cX9_eaveOf jo_87 ji_87 = true := by decide +kernel
set_option maxRecDepth 100000 in
theorem jgO_87 : GoodIn lw_tbl jwO_87 := goodIn_r _ [1280, 157, 1278, 1279, 1281, 1271, 469, 1252] rfl (by decide +kernel)
set_option maxRecDepth 100000 in
theorem jn_87 : jp_nws jY RX9 jo_87 ji_87 = ([] : List Nat).filterMap (fun i => jNW[i]?) := rfl
set_option maxRecDepth 100000 in
theorem jc_88 : jp_chkL jcl jZ1 jSR 9 false cX9_choosesCallers jo_88 ji_88 = true := by decide +kernel
set_option maxRecDepth 100000 in
theorem jgO_88 : GoodIn lw_tbl jwO_88 := goodIn_r _ [1313, 157, 1311, 1312, 472, 474, 1265, 472, 1314, 472, 474] rfl (by decide +kernel)
set_option maxRecDepth 100000 in
theorem jn_88 : jp_nws jY RX9 jo_88 ji_88 = ([] : List Nat).filterMap (fun i => jNW[i]?) := rfl
set_option maxRecDepth 100000 in
theorem jc_89 : jp_chkL jcl jZ1 jSR 9 false cX9_reachedFrom jo_89 ji_89 = true := by decide +kernel
set_option maxRecDepth 100000 in
theorem jgO_89 : GoodIn lw_tbl jwO_89 := goodIn_r _ [1317, 157, 1316, 46, 465, 339] rfl (by decide +kernel)
set_option maxRecDepth 100000 in
theorem jn_89 : jp_nws jY RX9 jo_89 ji_89 = ([] : List Nat).filterMap (fun i => jNW[i]?) := rfl
set_option maxRecDepth 100000 in
theorem jc_90 : jp_chkL jcl jZ1 jSR 9 false cX9_arbitrates jo_90 ji_90 = true := by decide +kernel
set_option maxRecDepth 100000 in
theorem jgO_90 : GoodIn lw_tbl jwO_90 := goodIn_r _ [1338, 157, 1336, 1337, 472, 476, 465, 324, 465, 333, 465, 333, 465, 333, 1339, 1339, 472, 465, 333, 472, 476, 476] rfl (by decide +kernel)
set_option maxRecDepth 100000 in
theorem jn_90 : jp_nws jY RX9 jo_90 ji_90 = ([] : List Nat).filterMap (fun i => jNW[i]?) := rfl
set_option maxRecDepth 100000 in
theorem jc_91 : jp_chkL jcl jZ1 jSR 9 false cX9_learnsCites jo_91 ji_91 = true := by decide +kernel
set_option maxRecDepth 100000 in
theorem jgO_91 : GoodIn lw_tbl jwO_91 := goodIn_r _ [1293, 157, 1292, 44, 470, 471, 466, 300, 466, 305, 466, 305, 470, 471] rfl (by decide +kernel)
set_option maxRecDepth 100000 in
theorem jn_91 : jp_nws jY RX9 jo_91 ji_91 = ([8, 8] : List Nat).filterMap (fun i => jNW[i]?) := rfl
set_option maxRecDepth 100000 in
theorem jc_92 : jp_chkL jcl jZ1 jSR 9 false cX9_founds jo_92 ji_92 = true := by decide +kernel
set_option maxRecDepth 100000 in
theorem jgO_92 : GoodIn lw_tbl jwO_92 := goodIn_r _ [1289, 157, 1287, 1288, 1290, 470, 470] rfl (by decide +kernel)
set_option maxRecDepth 100000 in
theorem jn_92 : jp_nws jY RX9 jo_92 ji_92 = ([] : List Nat).filterMap (fun i => jNW[i]?) := rfl
set_option maxRecDepth 100000 in
theorem jc_93 : jp_chkL jcl jZ1 jSR 9 false cX9_placeOf jo_93 ji_93 = true := by decide +kernel
set_option maxRecDepth 100000 in
theorem jgO_93 : GoodIn lw_tbl jwO_93 := goodIn_r _ [1297, 157, 1295, 1296, 1290, 1298] rfl (by decide +kernel)
set_option maxRecDepth 100000 in
theorem jn_93 : jp_nws jY RX9 jo_93 ji_93 = ([] : List Nat).filterMap (fun i => jNW[i]?) := rfl
set_option maxRecDepth 100000 in
theorem jc_94 : jp_chkL jcl jZ1 jSR 9 false cX9_leastReady jo_94 ji_94 = true := by decide +kernel
set_option maxRecDepth 100000 in
theorem jgO_94 : GoodIn lw_tbl jwO_94 := goodIn_r _ [1301, 157, 1300, 45, 471] rfl (by decide +kernel)
set_option maxRecDepth 100000 in
theorem jn_94 : jp_nws jY RX9 jo_94 ji_94 = ([] : List Nat).filterMap (fun i => jNW[i]?) := rfl
set_option maxRecDepth 100000 in
theorem jc_95 : jp_chkL jcl jZ1 jSR 10 true cX10_init jo_95 ji_95 = true := by decide +kernel
set_option maxRecDepth 100000 in
theorem jgO_95 : GoodIn lw_tbl jwO_95 := goodIn_r _ [187, 150, 186, 188, 247, 212, 247, 217, 247, 221] rfl (by decide +kernel)
set_option maxRecDepth 100000 in
theorem jn_95 : jp_nws jY RX10 jo_95 ji_95 = ([] : List Nat).filterMap (fun i => jNW[i]?) := rfl
set_option maxRecDepth 100000 in
theorem jc_96 : jp_chkL jcl jZ1 jSR 10 false cX10_becomes jo_96 ji_96 = true := by decide +kernel
set_option maxRecDepth 100000 in
theorem jgO_96 : GoodIn lw_tbl jwO_96 := goodIn_r _ [703, 150, 701, 702, 190, 190, 191, 191, 196, 196, 198, 198, 200, 200, 203, 203, 206, 206, 210, 210, 212, 212, 212, 704, 217, 217, 217, 704, 221, 221, 221, 704] rfl (by decide +kernel)
set_option maxRecDepth 100000 in
theorem jn_96 : jp_nws jY RX10 jo_96 ji_96 = ([] : List Nat).filterMap (fun i => jNW[i]?) := rfl
set_option maxRecDepth 100000 in
theorem jc_97 : jp_chkL jcl jZ1 jSR 10 false cX10_hasPerson jo_97 ji_97 = true := by decide +kernel
set_option maxRecDepth 100000 in
theorem jgO_97 : GoodIn lw_tbl jwO_97 := goodIn_r _ [661, 150, 659, 660, 200] rfl (by decide +kernel)
set_option maxRecDepth 100000 in
theorem jn_97 : jp_nws jY RX10 jo_97 ji_97 = ([] : List Nat).filterMap (fun i => jNW[i]?) := rfl
set_option maxRecDepth 100000 in
theorem jc_98 : jp_chkL jcl jZ1 jSR 10 false cX10_hasSwallow jo_98 ji_98 = true := by decide +kernel
set_option maxRecDepth 100000 in
theorem jgO_98 : GoodIn lw_tbl jwO_98 := goodIn_r _ [669, 150, 667, 668, 203] rfl (by decide +kernel)
set_option maxRecDepth 100000 in
theorem jn_98 : jp_nws jY RX10 jo_98 ji_98 = ([] : List Nat).filterMap (fun i => jNW[i]?) := rfl
set_option maxRecDepth 100000 in
theorem jc_99 : jp_chkL jcl jZ1 jSR 10 false cX10_isSummer jo_99 ji_99 = true := by decide +kernel
set_option maxRecDepth 100000 in
theorem jgO_99 : GoodIn lw_tbl jwO_99 := goodIn_r _ [717, 150, 715, 716, 191] rfl (by decide +kernel)
set_option maxRecDepth 100000 in
theorem jn_99 : jp_nws jY RX10 jo_99 ji_99 = ([] : List Nat).filterMap (fun i => jNW[i]?) := rfl
set_option maxRecDepth 100000 in
theorem jc_100 : jp_chkL jcl jZ1 jSR 10 false cX10_drawsOfThousand jo_100 ji_100 = true := by decide +kernel
set_option maxRecDepth 100000 in
theorem jgO_100 : GoodIn lw_tbl jwO_100 := goodIn_r _ [765, 150, 763, 764, 766, 190, 767, 190, 190] rfl (by decide +kernel)
set_option maxRecDepth 100000 in
theorem jn_100 : jp_nws jY RX10 jo_100 ji_100 = ([] : List Nat).filterMap (fun i => jNW[i]?) := rfl
set_option maxRecDepth 100000 in
theorem jc_101 : jp_chkL jcl jZ1 jSR 10 false cX10_placeOf jo_101 ji_101 = true := by decide +kernel
set_option maxRecDepth 100000 in
theorem jgO_101 : GoodIn lw_tbl jwO_101 := goodIn_r _ [788, 150, 786, 787, 206, 221] rfl (by decide +kernel)
set_option maxRecDepth 100000 in
theorem jn_101 : jp_nws jY RX10 jo_101 ji_101 = ([] : List Nat).filterMap (fun i => jNW[i]?) := rfl
set_option maxRecDepth 100000 in
theorem jc_102 : jp_chkL jcl jZ1 jSR 10 false cX10_usedAbove jo_102 ji_102 = true := by decide +kernel
set_option maxRecDepth 100000 in
theorem jgO_102 : GoodIn lw_tbl jwO_102 := goodIn_r _ [694, 150, 692, 693, 206, 221, 221, 221, 695] rfl (by decide +kernel)
set_option maxRecDepth 100000 in
theorem jn_102 : jp_nws jY RX10 jo_102 ji_102 = ([] : List Nat).filterMap (fun i => jNW[i]?) := rfl
set_option maxRecDepth 100000 in
theorem jc_103 : jp_chkL jcl jZ1 jSR 10 false cX10_span jo_103 ji_103 = true := by decide +kernel
set_option maxRecDepth 100000 in
theorem jgO_103 : GoodIn lw_tbl jwO_103 := goodIn_r _ [690, 150, 689] rfl (by decide +kernel)
set_option maxRecDepth 100000 in
theorem jn_103 : jp_nws jY RX10 jo_103 ji_103 = ([] : List Nat).filterMap (fun i => jNW[i]?) := rfl
set_option maxRecDepth 100000 in
theorem jc_104 : jp_chkL jcl jZ1 jSR 10 false cX10_usedCells jo_104 ji_104 = true := by decide +kernel
set_option maxRecDepth 100000 in
theorem jgO_104 : GoodIn lw_tbl jwO_104 := goodIn_r _ [743, 150, 741, 742, 206, 221, 221] rfl (by decide +kernel)
set_option maxRecDepth 100000 in
theorem jn_104 : jp_nws jY RX10 jo_104 ji_104 = ([] : List Nat).filterMap (fun i => jNW[i]?) := rfl
set_option maxRecDepth 100000 in
theorem jc_105 : jp_chkL jcl jZ1 jSR 10 false cX10_nestsAt jo_105 ji_105 = true := by decide +kernel
set_option maxRecDepth 100000 in
theorem jgO_105 : GoodIn lw_tbl jwO_105 := goodIn_r _ [738, 150, 736, 737, 203, 217] rfl (by decide +kernel)
set_option maxRecDepth 100000 in
theorem jn_105 : jp_nws jY RX10 jo_105 ji_105 = ([] : List Nat).filterMap (fun i => jNW[i]?) := rfl
set_option maxRecDepth 100000 in
theorem jc_106 : jp_chkL jcl jZ1 jSR 10 false cX10_pays jo_106 ji_106 = true := by decide +kernel
set_option maxRecDepth 100000 in
theorem jgO_106 : GoodIn lw_tbl jwO_106 := goodIn_r _ [771, 150, 769, 770, 212, 772, 212, 196, 196] rfl (by decide +kernel)
set_option maxRecDepth 100000 in
theorem jn_106 : jp_nws jY RX10 jo_106 ji_106 = ([] : List Nat).filterMap (fun i => jNW[i]?) := rfl
set_option maxRecDepth 100000 in
theorem jc_107 : jp_chkL jcl jZ1 jSR 10 false cX10_finedOfAll jo_107 ji_107 = true := by decide +kernel
set_option maxRecDepth 100000 in
theorem jgO_107 : GoodIn lw_tbl jwO_107 := goodIn_r _ [1156, 150, 1154, 1155, 200, 212] rfl (by decide +kernel)
set_option maxRecDepth 100000 in
theorem jn_107 : jp_nws jY RX10 jo_107 ji_107 = ([] : List Nat).filterMap (fun i => jNW[i]?) := rfl
set_option maxRecDepth 100000 in
theorem jc_108 : jp_chkL jcl jZ1 jSR 10 false cX10_marksOfAll jo_108 ji_108 = true := by decide +kernel
set_option maxRecDepth 100000 in
theorem jgO_108 : GoodIn lw_tbl jwO_108 := goodIn_r _ [1160, 150, 1158, 1159, 203, 217] rfl (by decide +kernel)
set_option maxRecDepth 100000 in
theorem jn_108 : jp_nws jY RX10 jo_108 ji_108 = ([] : List Nat).filterMap (fun i => jNW[i]?) := rfl
set_option maxRecDepth 100000 in
theorem jc_109 : jp_chkL jcl jZ1 jSR 10 false cX10_clearsMarksAndStoops jo_109 ji_109 = true := by decide +kernel
set_option maxRecDepth 100000 in
theorem jgO_109 : GoodIn lw_tbl jwO_109 := goodIn_r _ [848, 150, 846, 847, 200, 212, 203, 217] rfl (by decide +kernel)
set_option maxRecDepth 100000 in
theorem jn_109 : jp_nws jY RX10 jo_109 ji_109 = ([] : List Nat).filterMap (fun i => jNW[i]?) := rfl
set_option maxRecDepth 100000 in
theorem jc_110 : jp_chkL jcl jZ1 jSR 10 false cX10_removes jo_110 ji_110 = true := by decide +kernel
set_option maxRecDepth 100000 in
theorem jgO_110 : GoodIn lw_tbl jwO_110 := goodIn_r _ [796, 150, 794, 795, 206, 221, 221, 704, 206, 206] rfl (by decide +kernel)
set_option maxRecDepth 100000 in
theorem jn_110 : jp_nws jY RX10 jo_110 ji_110 = ([] : List Nat).filterMap (fun i => jNW[i]?) := rfl
set_option maxRecDepth 100000 in
theorem jc_111 : jp_chkL jcl jZ1 jSR 11 true cX11_init jo_111 ji_111 = true := by decide +kernel
set_option maxRecDepth 100000 in
theorem jgO_111 : GoodIn lw_tbl jwO_111 := goodIn_r _ [173, 148, 172, 174, 177, 179, 585, 177, 179, 586, 394, 588, 394, 591, 397, 585, 399, 592, 418, 585, 360, 420, 593, 459, 585, 376, 585, 374, 461, 594, 540, 595, 499, 595, 501, 597, 541, 597, 543, 598, 557, 597, 559, 599, 588, 394] rfl (by decide +kernel)
set_option maxRecDepth 100000 in
theorem jn_111 : jp_nws jY RX11 jo_111 ji_111 = ([2, 2] : List Nat).filterMap (fun i => jNW[i]?) := rfl
set_option maxRecDepth 100000 in
theorem jc_112 : jp_chkL jcl jZ1 jSR 11 false cX11_state jo_112 ji_112 = true := by decide +kernel
set_option maxRecDepth 100000 in
theorem jgO_112 : GoodIn lw_tbl jwO_112 := goodIn_r _ [634, 148, 632, 633, 585, 360, 189, 585, 360, 189, 635] rfl (by decide +kernel)
set_option maxRecDepth 100000 in
theorem jn_112 : jp_nws jY RX11 jo_112 ji_112 = ([] : List Nat).filterMap (fun i => jNW[i]?) := rfl
set_option maxRecDepth 100000 in
theorem jc_113 : jp_chkL jcl jZ1 jSR 11 false cX11_person jo_113 ji_113 = true := by decide +kernel
set_option maxRecDepth 100000 in
theorem jgO_113 : GoodIn lw_tbl jwO_113 := goodIn_r _ [642, 148, 640, 641, 585, 360, 201, 643, 643, 643, 201, 213, 213, 213, 213, 213, 201, 201, 635, 201] rfl (by decide +kernel)
set_option maxRecDepth 100000 in
theorem jn_113 : jp_nws jY RX11 jo_113 ji_113 = ([] : List Nat).filterMap (fun i => jNW[i]?) := rfl
set_option maxRecDepth 100000 in
theorem jc_114 : jp_chkL jcl jZ1 jSR 11 false cX11_swallow jo_114 ji_114 = true := by decide +kernel
set_option maxRecDepth 100000 in
theorem jgO_114 : GoodIn lw_tbl jwO_114 := goodIn_r _ [649, 148, 647, 648, 585, 360, 204, 643, 204, 218, 218, 218, 204, 204, 635, 204] rfl (by decide +kernel)
set_option maxRecDepth 100000 in
theorem jn_114 : jp_nws jY RX11 jo_114 ji_114 = ([] : List Nat).filterMap (fun i => jNW[i]?) := rfl
set_option maxRecDepth 100000 in
theorem jc_115 : jp_chkL jcl jZ1 jSR 11 false cX11_set jo_115 ji_115 = true := by decide +kernel
set_option maxRecDepth 100000 in
theorem jgO_115 : GoodIn lw_tbl jwO_115 := goodIn_r _ [653, 148, 651, 652, 654, 654, 654, 654, 662, 670, 635] rfl (by decide +kernel)
set_option maxRecDepth 100000 in
theorem jn_115 : jp_nws jY RX11 jo_115 ji_115 = ([] : List Nat).filterMap (fun i => jNW[i]?) := rfl
set_option maxRecDepth 100000 in
theorem jc_116 : jp_chkL jcl jZ1 jSR 11 false cX11_ask jo_116 ji_116 = true := by decide +kernel
set_option maxRecDepth 100000 in
theorem jgO_116 : GoodIn lw_tbl jwO_116 := goodIn_r _ [677, 148, 675, 676, 592, 678, 592, 684, 696, 592, 710] rfl (by decide +kernel)
set_option maxRecDepth 100000 in
theorem jn_116 : jp_nws jY RX11 jo_116 ji_116 = ([] : List Nat).filterMap (fun i => jNW[i]?) := rfl
set_option maxRecDepth 100000 in
theorem jc_117 : jp_chkL jcl jZ1 jSR 11 false cX11_take jo_117 ji_117 = true := by decide +kernel
set_option maxRecDepth 100000 in
theorem jgO_117 : GoodIn lw_tbl jwO_117 := goodIn_r _ [776, 148, 774, 775, 592, 678, 592, 684, 696, 592, 777] rfl (by decide +kernel)
set_option maxRecDepth 100000 in
theorem jn_117 : jp_nws jY RX11 jo_117 ji_117 = ([] : List Nat).filterMap (fun i => jNW[i]?) := rfl
set_option maxRecDepth 100000 in
theorem jc_118 : jp_chkL jcl jZ1 jSR 11 false cX11_ends jo_118 ji_118 = true := by decide +kernel
set_option maxRecDepth 100000 in
theorem jgO_118 : GoodIn lw_tbl jwO_118 := goodIn_r _ [784, 148, 782, 783, 585, 360, 785, 696, 592, 789] rfl (by decide +kernel)
set_option maxRecDepth 100000 in
theorem jn_118 : jp_nws jY RX11 jo_118 ji_118 = ([] : List Nat).filterMap (fun i => jNW[i]?) := rfl
set_option maxRecDepth 100000 in
theorem jc_119 : jp_chkL jcl jZ1 jSR 11 false cX11_nest jo_119 ji_119 = true := by decide +kernel
set_option maxRecDepth 100000 in
theorem jgO_119 : GoodIn lw_tbl jwO_119 := goodIn_r _ [800, 148, 798, 799, 585, 360, 666, 643, 218, 696, 218] rfl (by decide +kernel)
set_option maxRecDepth 100000 in
theorem jn_119 : jp_nws jY RX11 jo_119 ji_119 = ([] : List Nat).filterMap (fun i => jNW[i]?) := rfl
