set_option maxRecDepth 100000 in
theorem jc_120 : jp_chkL jcl jZ1 jSR 11 false cX11_days jo_120 ji_120 = true := by decide +kernel
set_option maxRecDepth 100000 in
theorem jgO_120 : GoodIn lw_tbl jwO_120 := goodIn_r _ [804, 148, 802, 803, 805, 585, 360, 195, 696, 592, 808] rfl (by decide +kernel)
set_option maxRecDepth 100000 in
theorem jn_120 : jp_nws jY RX11 jo_120 ji_120 = ([] : List Nat).filterMap (fun i => jNW[i]?) := rfl
set_option maxRecDepth 100000 in
theorem jc_121 : jp_chkL jcl jZ1 jSR 11 false cX11_feed jo_121 ji_121 = true := by decide +kernel
set_option maxRecDepth 100000 in
theorem jgO_121 : GoodIn lw_tbl jwO_121 := goodIn_r _ [852, 148, 850, 851, 596, 853, 853, 853, 853, 853, 596] rfl (by decide +kernel)
set_option maxRecDepth 100000 in
theorem jn_121 : jp_nws jY RX11 jo_121 ji_121 = ([] : List Nat).filterMap (fun i => jNW[i]?) := rfl
set_option maxRecDepth 100000 in
theorem jc_122 : jp_chkL jcl jZ1 jSR 11 false cX11_end jo_122 ji_122 = true := by decide +kernel
set_option maxRecDepth 100000 in
theorem jgO_122 : GoodIn lw_tbl jwO_122 := goodIn_r _ [860, 148, 858, 859, 596, 643, 596] rfl (by decide +kernel)
set_option maxRecDepth 100000 in
theorem jn_122 : jp_nws jY RX11 jo_122 ji_122 = ([] : List Nat).filterMap (fun i => jNW[i]?) := rfl
set_option maxRecDepth 100000 in
theorem jc_123 : jp_chkL jcl jZ1 jSR 11 false cX11_text jo_123 ji_123 = true := by decide +kernel
set_option maxRecDepth 100000 in
theorem jgO_123 : GoodIn lw_tbl jwO_123 := goodIn_r _ [864, 148, 862, 863, 597, 596, 865, 596, 598, 995, 585, 365, 598, 551, 1050, 585, 365, 256, 643, 599, 585, 360, 201, 585, 360, 204, 1055, 585, 599, 567, 1100, 635, 599, 567, 299] rfl (by decide +kernel)
set_option maxRecDepth 100000 in
theorem jn_123 : jp_nws jY RX11 jo_123 ji_123 = ([] : List Nat).filterMap (fun i => jNW[i]?) := rfl
set_option maxRecDepth 100000 in
theorem jc_124 : jp_chkL jcl jZ1 jSR 11 false cX11_fault jo_124 ji_124 = true := by decide +kernel
set_option maxRecDepth 100000 in
theorem jgO_124 : GoodIn lw_tbl jwO_124 := goodIn_r _ [1118, 148, 1116, 1117, 597, 518, 597, 520] rfl (by decide +kernel)
set_option maxRecDepth 100000 in
theorem jn_124 : jp_nws jY RX11 jo_124 ji_124 = ([] : List Nat).filterMap (fun i => jNW[i]?) := rfl
set_option maxRecDepth 100000 in
theorem jc_125 : jp_chkL jcl jZ1 jSR 11 false cX11_of jo_125 ji_125 = true := by decide +kernel
set_option maxRecDepth 100000 in
theorem jgO_125 : GoodIn lw_tbl jwO_125 := goodIn_r _ [1122, 148, 1120, 1121, 585, 360, 658, 643, 585, 360, 213] rfl (by decide +kernel)
set_option maxRecDepth 100000 in
theorem jn_125 : jp_nws jY RX11 jo_125 ji_125 = ([] : List Nat).filterMap (fun i => jNW[i]?) := rfl
set_option maxRecDepth 100000 in
theorem jc_126 : jp_chkL jcl jZ1 jSR 11 false cX11_bird jo_126 ji_126 = true := by decide +kernel
set_option maxRecDepth 100000 in
theorem jgO_126 : GoodIn lw_tbl jwO_126 := goodIn_r _ [1126, 148, 1124, 1125, 585, 360, 666, 643, 585, 360, 218, 585, 1127] rfl (by decide +kernel)
set_option maxRecDepth 100000 in
theorem jn_126 : jp_nws jY RX11 jo_126 ji_126 = ([] : List Nat).filterMap (fun i => jNW[i]?) := rfl
set_option maxRecDepth 100000 in
theorem jc_127 : jp_chkL jcl jZ1 jSR 11 false cX11_use jo_127 ji_127 = true := by decide +kernel
set_option maxRecDepth 100000 in
theorem jgO_127 : GoodIn lw_tbl jwO_127 := goodIn_r _ [1131, 148, 1129, 1130, 585, 360, 208, 643, 223, 585, 365, 223, 1132] rfl (by decide +kernel)
set_option maxRecDepth 100000 in
theorem jn_127 : jp_nws jY RX11 jo_127 ji_127 = ([] : List Nat).filterMap (fun i => jNW[i]?) := rfl
set_option maxRecDepth 100000 in
theorem jc_128 : jp_chkL jcl jZ1 jSR 11 false cX11_lease jo_128 ji_128 = true := by decide +kernel
set_option maxRecDepth 100000 in
theorem jgO_128 : GoodIn lw_tbl jwO_128 := goodIn_r _ [1136, 148, 1134, 1135, 643, 585, 370] rfl (by decide +kernel)
set_option maxRecDepth 100000 in
theorem jn_128 : jp_nws jY RX11 jo_128 ji_128 = ([] : List Nat).filterMap (fun i => jNW[i]?) := rfl
set_option maxRecDepth 100000 in
theorem jc_129 : jp_chkL jcl jZ1 jSR 11 false cX11_book jo_129 ji_129 = true := by decide +kernel
set_option maxRecDepth 100000 in
theorem jgO_129 : GoodIn lw_tbl jwO_129 := goodIn_r _ [1140, 148, 1138, 1139, 585, 360, 211, 643, 585, 362] rfl (by decide +kernel)
set_option maxRecDepth 100000 in
theorem jn_129 : jp_nws jY RX11 jo_129 ji_129 = ([] : List Nat).filterMap (fun i => jNW[i]?) := rfl
set_option maxRecDepth 100000 in
theorem jc_130 : jp_chkL jcl jZ1 jSR 11 false cX11_would jo_130 ji_130 = true := by decide +kernel
set_option maxRecDepth 100000 in
theorem jgO_130 : GoodIn lw_tbl jwO_130 := goodIn_r _ [1144, 148, 1142, 1143, 592, 678, 585, 365, 585, 360, 592, 406, 1132, 592, 684] rfl (by decide +kernel)
set_option maxRecDepth 100000 in
theorem jn_130 : jp_nws jY RX11 jo_130 ji_130 = ([] : List Nat).filterMap (fun i => jNW[i]?) := rfl
set_option maxRecDepth 100000 in
theorem jc_131 : jp_chkL jcl jZ1 jSR 11 false cX11_goes jo_131 ji_131 = true := by decide +kernel
set_option maxRecDepth 100000 in
theorem jgO_131 : GoodIn lw_tbl jwO_131 := goodIn_r _ [1148, 148, 1146, 1147, 805, 643, 591, 585, 360, 700, 592, 408, 592, 808, 1149, 592, 408, 585, 360, 591, 700] rfl (by decide +kernel)
set_option maxRecDepth 100000 in
theorem jn_131 : jp_nws jY RX11 jo_131 ji_131 = ([] : List Nat).filterMap (fun i => jNW[i]?) := rfl
set_option maxRecDepth 100000 in
theorem jc_132 : jp_chkL jcl jZ1 jSR 11 false cX11_through jo_132 ji_132 = true := by decide +kernel
set_option maxRecDepth 100000 in
theorem jgO_132 : GoodIn lw_tbl jwO_132 := goodIn_r _ [1164, 148, 1162, 1163, 1165, 1165, 643, 593, 1168, 593, 431, 593, 433] rfl (by decide +kernel)
set_option maxRecDepth 100000 in
theorem jn_132 : jp_nws jY RX11 jo_132 ji_132 = ([] : List Nat).filterMap (fun i => jNW[i]?) := rfl
set_option maxRecDepth 100000 in
theorem jc_133 : jp_chkL jcl jZ1 jSR 11 false cX11_wide jo_133 ji_133 = true := by decide +kernel
set_option maxRecDepth 100000 in
theorem jgO_133 : GoodIn lw_tbl jwO_133 := goodIn_r _ [1190, 148, 1188, 1189, 643, 593, 1191, 593, 435, 593, 437] rfl (by decide +kernel)
set_option maxRecDepth 100000 in
theorem jn_133 : jp_nws jY RX11 jo_133 ji_133 = ([] : List Nat).filterMap (fun i => jNW[i]?) := rfl
set_option maxRecDepth 100000 in
theorem jc_134 : jp_chkL jcl jZ1 jSR 11 false cX11_wish jo_134 ji_134 = true := by decide +kernel
set_option maxRecDepth 100000 in
theorem jgO_134 : GoodIn lw_tbl jwO_134 := goodIn_r _ [1207, 148, 1205, 1206, 585, 376, 319, 319, 643, 643, 319, 328, 328, 328, 319, 319, 319] rfl (by decide +kernel)
set_option maxRecDepth 100000 in
theorem jn_134 : jp_nws jY RX11 jo_134 ji_134 = ([] : List Nat).filterMap (fun i => jNW[i]?) := rfl
set_option maxRecDepth 100000 in
theorem jc_135 : jp_chkL jcl jZ1 jSR 11 false cX11_beside jo_135 ji_135 = true := by decide +kernel
set_option maxRecDepth 100000 in
theorem jgO_135 : GoodIn lw_tbl jwO_135 := goodIn_r _ [1211, 148, 1209, 1210, 643, 594, 1212, 594, 473, 594, 475] rfl (by decide +kernel)
set_option maxRecDepth 100000 in
theorem jn_135 : jp_nws jY RX11 jo_135 ji_135 = ([] : List Nat).filterMap (fun i => jNW[i]?) := rfl
set_option maxRecDepth 100000 in
theorem jc_136 : jp_chkL jcl jZ1 jSR 11 false cX11_kite jo_136 ji_136 = true := by decide +kernel
set_option maxRecDepth 100000 in
theorem jgO_136 : GoodIn lw_tbl jwO_136 := goodIn_r _ [1231, 148, 1229, 1230, 585, 376, 322, 322, 643, 643, 331, 322, 331, 322, 322, 322, 322] rfl (by decide +kernel)
set_option maxRecDepth 100000 in
theorem jn_136 : jp_nws jY RX11 jo_136 ji_136 = ([] : List Nat).filterMap (fun i => jNW[i]?) := rfl
set_option maxRecDepth 100000 in
theorem jc_137 : jp_chkL jcl jZ1 jSR 11 false cX11_strings jo_137 ji_137 = true := by decide +kernel
set_option maxRecDepth 100000 in
theorem jgO_137 : GoodIn lw_tbl jwO_137 := goodIn_r _ [1235, 148, 1233, 1234, 594, 1236, 594, 1244] rfl (by decide +kernel)
set_option maxRecDepth 100000 in
theorem jn_137 : jp_nws jY RX11 jo_137 ji_137 = ([] : List Nat).filterMap (fun i => jNW[i]?) := rfl
set_option maxRecDepth 100000 in
theorem jc_138 : jp_chkL jcl jZ1 jSR 11 false cX11_way jo_138 ji_138 = true := by decide +kernel
set_option maxRecDepth 100000 in
theorem jgO_138 : GoodIn lw_tbl jwO_138 := goodIn_r _ [1256, 148, 1254, 1255, 643, 643, 643, 585, 376, 337] rfl (by decide +kernel)
set_option maxRecDepth 100000 in
theorem jn_138 : jp_nws jY RX11 jo_138 ji_138 = ([] : List Nat).filterMap (fun i => jNW[i]?) := rfl
set_option maxRecDepth 100000 in
theorem jc_139 : jp_chkL jcl jZ1 jSR 11 false cX11_eaves jo_139 ji_139 = true := by decide +kernel
set_option maxRecDepth 100000 in
theorem jgO_139 : GoodIn lw_tbl jwO_139 := goodIn_r _ [1260, 148, 1258, 1259, 594, 1261, 594, 1277] rfl (by decide +kernel)
set_option maxRecDepth 100000 in
theorem jn_139 : jp_nws jY RX11 jo_139 ji_139 = ([] : List Nat).filterMap (fun i => jNW[i]?) := rfl
set_option maxRecDepth 100000 in
theorem jc_140 : jp_chkL jcl jZ1 jSR 11 false cX11_cites jo_140 ji_140 = true := by decide +kernel
set_option maxRecDepth 100000 in
theorem jgO_140 : GoodIn lw_tbl jwO_140 := goodIn_r _ [1285, 148, 1283, 1284, 643, 594, 1286, 594, 1294] rfl (by decide +kernel)
set_option maxRecDepth 100000 in
theorem jn_140 : jp_nws jY RX11 jo_140 ji_140 = ([] : List Nat).filterMap (fun i => jNW[i]?) := rfl
set_option maxRecDepth 100000 in
theorem jc_141 : jp_chkL jcl jZ1 jSR 11 false cX11_voice jo_141 ji_141 = true := by decide +kernel
set_option maxRecDepth 100000 in
theorem jgO_141 : GoodIn lw_tbl jwO_141 := goodIn_r _ [1305, 148, 1303, 1304, 643, 643, 585, 376, 340] rfl (by decide +kernel)
set_option maxRecDepth 100000 in
theorem jn_141 : jp_nws jY RX11 jo_141 ji_141 = ([] : List Nat).filterMap (fun i => jNW[i]?) := rfl
set_option maxRecDepth 100000 in
theorem jc_142 : jp_chkL jcl jZ1 jSR 11 false cX11_asked jo_142 ji_142 = true := by decide +kernel
set_option maxRecDepth 100000 in
theorem jgO_142 : GoodIn lw_tbl jwO_142 := goodIn_r _ [1309, 148, 1307, 1308, 643, 594, 1310, 594, 473, 594, 475] rfl (by decide +kernel)
set_option maxRecDepth 100000 in
theorem jn_142 : jp_nws jY RX11 jo_142 ji_142 = ([] : List Nat).filterMap (fun i => jNW[i]?) := rfl
set_option maxRecDepth 100000 in
theorem jc_143 : jp_chkL jcl jZ1 jSR 11 false cX11_upright jo_143 ji_143 = true := by decide +kernel
set_option maxRecDepth 100000 in
theorem jgO_143 : GoodIn lw_tbl jwO_143 := goodIn_r _ [1321, 148, 1319, 1320, 585, 360, 658, 643, 593, 213, 1322, 213, 213, 1326] rfl (by decide +kernel)
set_option maxRecDepth 100000 in
theorem jn_143 : jp_nws jY RX11 jo_143 ji_143 = ([] : List Nat).filterMap (fun i => jNW[i]?) := rfl
set_option maxRecDepth 100000 in
theorem jc_144 : jp_chkL jcl jZ1 jSR 11 false cX11_point jo_144 ji_144 = true := by decide +kernel
set_option maxRecDepth 100000 in
theorem jgO_144 : GoodIn lw_tbl jwO_144 := goodIn_r _ [1330, 148, 1328, 1329, 585, 376, 325, 325, 643, 643, 643, 643, 325, 334, 334, 334, 334, 325, 325, 325] rfl (by decide +kernel)
set_option maxRecDepth 100000 in
theorem jn_144 : jp_nws jY RX11 jo_144 ji_144 = ([] : List Nat).filterMap (fun i => jNW[i]?) := rfl
set_option maxRecDepth 100000 in
theorem jc_145 : jp_chkL jcl jZ1 jSR 11 false cX11_arbiter jo_145 ji_145 = true := by decide +kernel
set_option maxRecDepth 100000 in
theorem jgO_145 : GoodIn lw_tbl jwO_145 := goodIn_r _ [1334, 148, 1332, 1333, 643, 594, 1335, 594, 473, 594, 477] rfl (by decide +kernel)
set_option maxRecDepth 100000 in
theorem jn_145 : jp_nws jY RX11 jo_145 ji_145 = ([] : List Nat).filterMap (fun i => jNW[i]?) := rfl
set_option maxRecDepth 100000 in
theorem jc_146 : jp_chkL jcl jZ1 jSR 11 false cX11_ball jo_146 ji_146 = true := by decide +kernel
set_option maxRecDepth 100000 in
theorem jgO_146 : GoodIn lw_tbl jwO_146 := goodIn_r _ [1343, 148, 1341, 1342, 643, 1326] rfl (by decide +kernel)
set_option maxRecDepth 100000 in
theorem jn_146 : jp_nws jY RX11 jo_146 ji_146 = ([] : List Nat).filterMap (fun i => jNW[i]?) := rfl
set_option maxRecDepth 100000 in
theorem jc_147 : jp_chkL jcl jZ1 jSR 11 false cX11_game jo_147 ji_147 = true := by decide +kernel
set_option maxRecDepth 100000 in
theorem jgO_147 : GoodIn lw_tbl jwO_147 := goodIn_r _ [1347, 148, 1345, 1346, 643, 593, 1348] rfl (by decide +kernel)
set_option maxRecDepth 100000 in
theorem jn_147 : jp_nws jY RX11 jo_147 ji_147 = ([] : List Nat).filterMap (fun i => jNW[i]?) := rfl
set_option maxRecDepth 100000 in
theorem jc_148 : jp_chkL jcl jZ1 jSR 11 false cX11_leaps jo_148 ji_148 = true := by decide +kernel
set_option maxRecDepth 100000 in
theorem jgO_148 : GoodIn lw_tbl jwO_148 := goodIn_r _ [1364, 148, 1362, 1363, 593, 1365] rfl (by decide +kernel)
set_option maxRecDepth 100000 in
theorem jn_148 : jp_nws jY RX11 jo_148 ji_148 = ([] : List Nat).filterMap (fun i => jNW[i]?) := rfl
set_option maxRecDepth 100000 in
theorem jc_149 : jp_chkL jcl jZ1 jSR 11 false cX11_undo jo_149 ji_149 = true := by decide +kernel
set_option maxRecDepth 100000 in
theorem jgO_149 : GoodIn lw_tbl jwO_149 := goodIn_r _ [1372, 148, 1370, 1371, 589, 585, 360, 588, 590, 700, 590, 590, 589, 589] rfl (by decide +kernel)
set_option maxRecDepth 100000 in
theorem jn_149 : jp_nws jY RX11 jo_149 ji_149 = ([] : List Nat).filterMap (fun i => jNW[i]?) := rfl
set_option maxRecDepth 100000 in
theorem jc_150 : jp_chkL jcl jZ1 jSR 11 false cX11_image jo_150 ji_150 = true := by decide +kernel
set_option maxRecDepth 100000 in
theorem jgO_150 : GoodIn lw_tbl jwO_150 := goodIn_r _ [1376, 148, 1374, 1375, 586, 585, 1377, 587, 587, 585, 586, 1377, 635] rfl (by decide +kernel)
set_option maxRecDepth 100000 in
theorem jn_150 : jp_nws jY RX11 jo_150 ji_150 = ([] : List Nat).filterMap (fun i => jNW[i]?) := rfl
set_option maxRecDepth 100000 in
theorem jc_151 : jp_chkL jcl jZ1 jSR 11 false cX11_look jo_151 ji_151 = true := by decide +kernel
set_option maxRecDepth 100000 in
theorem jgO_151 : GoodIn lw_tbl jwO_151 := goodIn_r _ [1392, 148, 1390, 1391, 585, 360, 201, 204, 208, 1393, 197, 1394, 195, 211, 189, 585, 365, 256, 585, 368, 299, 585, 372, 585, 374, 299, 589] rfl (by decide +kernel)
set_option maxRecDepth 100000 in
theorem jn_151 : jp_nws jY RX11 jo_151 ji_151 = ([] : List Nat).filterMap (fun i => jNW[i]?) := rfl
set_option maxRecDepth 100000 in
theorem jc_152 : jp_chkL jcl jZ1 jSR 11 false cX11_within jo_152 ji_152 = true := by decide +kernel
set_option maxRecDepth 100000 in
theorem jgO_152 : GoodIn lw_tbl jwO_152 := goodIn_r _ [645, 148, 644] rfl (by decide +kernel)
set_option maxRecDepth 100000 in
theorem jn_152 : jp_nws jY RX11 jo_152 ji_152 = ([] : List Nat).filterMap (fun i => jNW[i]?) := rfl
set_option maxRecDepth 100000 in
theorem jc_153 : jp_chkL jcl jZ1 jSR 11 false cX11_isCell jo_153 ji_153 = true := by decide +kernel
set_option maxRecDepth 100000 in
theorem jgO_153 : GoodIn lw_tbl jwO_153 := goodIn_r _ [1167, 148, 1166] rfl (by decide +kernel)
set_option maxRecDepth 100000 in
theorem jn_153 : jp_nws jY RX11 jo_153 ji_153 = ([] : List Nat).filterMap (fun i => jNW[i]?) := rfl
set_option maxRecDepth 100000 in
theorem jc_154 : jp_chkL jcl jZ1 jSR 11 false cX11_canGoBy jo_154 ji_154 = true := by decide +kernel
set_option maxRecDepth 100000 in
theorem jgO_154 : GoodIn lw_tbl jwO_154 := goodIn_r _ [807, 148, 806] rfl (by decide +kernel)
set_option maxRecDepth 100000 in
theorem jn_154 : jp_nws jY RX11 jo_154 ji_154 = ([] : List Nat).filterMap (fun i => jNW[i]?) := rfl
set_option maxRecDepth 100000 in
theorem jc_155 : jp_chkL jcl jZ1 jSR 11 false cX11_setPerson jo_155 ji_155 = true := by decide +kernel
set_option maxRecDepth 100000 in
theorem jgO_155 : GoodIn lw_tbl jwO_155 := goodIn_r _ [657, 148, 656, 1, 585, 360, 658, 643, 585, 360, 213] rfl (by decide +kernel)
set_option maxRecDepth 100000 in
theorem jn_155 : jp_nws jY RX11 jo_155 ji_155 = ([] : List Nat).filterMap (fun i => jNW[i]?) := rfl
set_option maxRecDepth 100000 in
theorem jc_156 : jp_chkL jcl jZ1 jSR 11 false cX11_setEyes jo_156 ji_156 = true := by decide +kernel
set_option maxRecDepth 100000 in
theorem jgO_156 : GoodIn lw_tbl jwO_156 := goodIn_r _ [665, 148, 664, 2, 585, 360, 666, 585, 360, 218] rfl (by decide +kernel)
set_option maxRecDepth 100000 in
theorem jn_156 : jp_nws jY RX11 jo_156 ji_156 = ([] : List Nat).filterMap (fun i => jNW[i]?) := rfl
set_option maxRecDepth 100000 in
theorem jc_157 : jp_chkL jcl jZ1 jSR 11 false cX11_setDay jo_157 ji_157 = true := by decide +kernel
set_option maxRecDepth 100000 in
theorem jgO_157 : GoodIn lw_tbl jwO_157 := goodIn_r _ [673, 148, 672, 3, 643, 585, 360, 195] rfl (by decide +kernel)
set_option maxRecDepth 100000 in
theorem jn_157 : jp_nws jY RX11 jo_157 ji_157 = ([] : List Nat).filterMap (fun i => jNW[i]?) := rfl
set_option maxRecDepth 100000 in
theorem jc_158 : jp_chkL jcl jZ1 jSR 11 false cX11_putBytes jo_158 ji_158 = true := by decide +kernel
set_option maxRecDepth 100000 in
theorem jgO_158 : GoodIn lw_tbl jwO_158 := goodIn_r _ [856, 148, 855, 14, 596, 595, 596, 596, 596] rfl (by decide +kernel)
set_option maxRecDepth 100000 in
theorem jn_158 : jp_nws jY RX11 jo_158 ji_158 = ([] : List Nat).filterMap (fun i => jNW[i]?) := rfl
set_option maxRecDepth 100000 in
theorem jc_159 : jp_chkL jcl jZ1 jSR 11 false cX11_keep jo_159 ji_159 = true := by decide +kernel
set_option maxRecDepth 100000 in
theorem jgO_159 : GoodIn lw_tbl jwO_159 := goodIn_r _ [699, 148, 698, 4, 590, 590, 588, 590, 585, 360, 700, 589, 707, 589] rfl (by decide +kernel)
set_option maxRecDepth 100000 in
theorem jn_159 : jp_nws jY RX11 jo_159 ji_159 = ([] : List Nat).filterMap (fun i => jNW[i]?) := rfl
