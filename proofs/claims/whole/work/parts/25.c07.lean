set_option maxRecDepth 100000 in
theorem jc_280 : jp_chkL jcl jZ1 jSR 12 false cX12_leastBy jo_280 ji_280 = true := by decide +kernel
set_option maxRecDepth 100000 in
theorem jgO_280 : GoodIn lw_tbl jwO_280 := goodIn_r _ [2083, 161, 2082, 136, 1454, 1455] rfl (by decide +kernel)
set_option maxRecDepth 100000 in
theorem jn_280 : jp_nws jY RX12 jo_280 ji_280 = ([] : List Nat).filterMap (fun i => jNW[i]?) := rfl
set_option maxRecDepth 100000 in
theorem jc_281 : jp_chkL jcl jZ1 jSR 12 false cX12_findsEaves jo_281 ji_281 = true := by decide +kernel
set_option maxRecDepth 100000 in
theorem jgO_281 : GoodIn lw_tbl jwO_281 := goodIn_r _ [2075, 161, 2074, 134, 2076, 1990, 2040, 2080, 1878, 1455] rfl (by decide +kernel)
set_option maxRecDepth 100000 in
theorem jn_281 : jp_nws jY RX12 jo_281 ji_281 = ([] : List Nat).filterMap (fun i => jNW[i]?) := rfl
set_option maxRecDepth 100000 in
theorem jc_282 : jp_chkL jcl jZ1 jSR 12 false cX12_eaves jo_282 ji_282 = true := by decide +kernel
set_option maxRecDepth 100000 in
theorem jgO_282 : GoodIn lw_tbl jwO_282 := goodIn_r _ [2071, 161, 2069, 2070, 1401, 1612, 2072, 1455, 2040, 2080, 1455] rfl (by decide +kernel)
set_option maxRecDepth 100000 in
theorem jn_282 : jp_nws jY RX12 jo_282 ji_282 = ([] : List Nat).filterMap (fun i => jNW[i]?) := rfl
set_option maxRecDepth 100000 in
theorem jc_283 : jp_chkL jcl jZ1 jSR 12 false cX12_foundedBy jo_283 ji_283 = true := by decide +kernel
set_option maxRecDepth 100000 in
theorem jgO_283 : GoodIn lw_tbl jwO_283 := goodIn_r _ [2095, 161, 2094, 138, 1441] rfl (by decide +kernel)
set_option maxRecDepth 100000 in
theorem jn_283 : jp_nws jY RX12 jo_283 ji_283 = ([] : List Nat).filterMap (fun i => jNW[i]?) := rfl
set_option maxRecDepth 100000 in
theorem jc_284 : jp_chkL jcl jZ1 jSR 12 false cX12_founds jo_284 ji_284 = true := by decide +kernel
set_option maxRecDepth 100000 in
theorem jgO_284 : GoodIn lw_tbl jwO_284 := goodIn_r _ [2091, 161, 2090, 137, 2092, 2092] rfl (by decide +kernel)
set_option maxRecDepth 100000 in
theorem jn_284 : jp_nws jY RX12 jo_284 ji_284 = ([] : List Nat).filterMap (fun i => jNW[i]?) := rfl
set_option maxRecDepth 100000 in
theorem jc_285 : jp_chkL jcl jZ1 jSR 12 false cX12_nextCase jo_285 ji_285 = true := by decide +kernel
set_option maxRecDepth 100000 in
theorem jgO_285 : GoodIn lw_tbl jwO_285 := goodIn_r _ [2103, 161, 2102, 140, 2040, 1441] rfl (by decide +kernel)
set_option maxRecDepth 100000 in
theorem jn_285 : jp_nws jY RX12 jo_285 ji_285 = ([] : List Nat).filterMap (fun i => jNW[i]?) := rfl
set_option maxRecDepth 100000 in
theorem jc_286 : jp_chkL jcl jZ1 jSR 12 false cX12_placeOf jo_286 ji_286 = true := by decide +kernel
set_option maxRecDepth 100000 in
theorem jgO_286 : GoodIn lw_tbl jwO_286 := goodIn_r _ [2099, 161, 2098, 139, 2100] rfl (by decide +kernel)
set_option maxRecDepth 100000 in
theorem jn_286 : jp_nws jY RX12 jo_286 ji_286 = ([] : List Nat).filterMap (fun i => jNW[i]?) := rfl
set_option maxRecDepth 100000 in
theorem jc_287 : jp_chkL jcl jZ1 jSR 12 false cX12_cites jo_287 ji_287 = true := by decide +kernel
set_option maxRecDepth 100000 in
theorem jgO_287 : GoodIn lw_tbl jwO_287 := goodIn_r _ [2087, 161, 2085, 2086, 1401, 1612, 1612, 2088, 2096] rfl (by decide +kernel)
set_option maxRecDepth 100000 in
theorem jn_287 : jp_nws jY RX12 jo_287 ji_287 = ([] : List Nat).filterMap (fun i => jNW[i]?) := rfl
set_option maxRecDepth 100000 in
theorem jc_288 : jp_chkL jcl jZ1 jSR 12 false cX12_voice jo_288 ji_288 = true := by decide +kernel
set_option maxRecDepth 100000 in
theorem jgO_288 : GoodIn lw_tbl jwO_288 := goodIn_r _ [2107, 161, 2105, 2106, 1401, 1612, 1612, 1456] rfl (by decide +kernel)
set_option maxRecDepth 100000 in
theorem jn_288 : jp_nws jY RX12 jo_288 ji_288 = ([] : List Nat).filterMap (fun i => jNW[i]?) := rfl
set_option maxRecDepth 100000 in
theorem jc_289 : jp_chkL jcl jZ1 jSR 12 false cX12_reachedFrom jo_289 ji_289 = true := by decide +kernel
set_option maxRecDepth 100000 in
theorem jgO_289 : GoodIn lw_tbl jwO_289 := goodIn_r _ [2115, 161, 2114, 141, 2040, 1456] rfl (by decide +kernel)
set_option maxRecDepth 100000 in
theorem jn_289 : jp_nws jY RX12 jo_289 ji_289 = ([] : List Nat).filterMap (fun i => jNW[i]?) := rfl
set_option maxRecDepth 100000 in
theorem jc_290 : jp_chkL jcl jZ1 jSR 12 false cX12_asked jo_290 ji_290 = true := by decide +kernel
set_option maxRecDepth 100000 in
theorem jgO_290 : GoodIn lw_tbl jwO_290 := goodIn_r _ [2111, 161, 2109, 2110, 1401, 1612, 2076, 2076, 2112, 2076] rfl (by decide +kernel)
set_option maxRecDepth 100000 in
theorem jn_290 : jp_nws jY RX12 jo_290 ji_290 = ([] : List Nat).filterMap (fun i => jNW[i]?) := rfl
set_option maxRecDepth 100000 in
theorem jc_291 : jp_chkL jcl jZ1 jSR 12 false cX12_point jo_291 ji_291 = true := by decide +kernel
set_option maxRecDepth 100000 in
theorem jgO_291 : GoodIn lw_tbl jwO_291 := goodIn_r _ [2119, 161, 2117, 2118, 1401, 1457, 1612, 1612, 1612, 1612, 1457, 1458, 1457, 1459, 1457, 1460, 1457, 1461, 1457, 1457, 1457, 1457] rfl (by decide +kernel)
set_option maxRecDepth 100000 in
theorem jn_291 : jp_nws jY RX12 jo_291 ji_291 = ([] : List Nat).filterMap (fun i => jNW[i]?) := rfl
set_option maxRecDepth 100000 in
theorem jc_292 : jp_chkL jcl jZ1 jSR 12 false cX12_arbiter jo_292 ji_292 = true := by decide +kernel
set_option maxRecDepth 100000 in
theorem jgO_292 : GoodIn lw_tbl jwO_292 := goodIn_r _ [2123, 161, 2121, 2122, 1401, 1612, 1457, 1458, 1460, 1926, 1459, 1460, 1926, 1461, 1458, 1459] rfl (by decide +kernel)
set_option maxRecDepth 100000 in
theorem jn_292 : jp_nws jY RX12 jo_292 ji_292 = ([] : List Nat).filterMap (fun i => jNW[i]?) := rfl
set_option maxRecDepth 100000 in
theorem jc_293 : jp_chkL jcl jZ1 jSR 12 false cX12_ball jo_293 ji_293 = true := by decide +kernel
set_option maxRecDepth 100000 in
theorem jgO_293 : GoodIn lw_tbl jwO_293 := goodIn_r _ [2127, 161, 2125, 2126, 1401, 1612, 1612, 1612, 2016] rfl (by decide +kernel)
set_option maxRecDepth 100000 in
theorem jn_293 : jp_nws jY RX12 jo_293 ji_293 = ([] : List Nat).filterMap (fun i => jNW[i]?) := rfl
set_option maxRecDepth 100000 in
theorem jc_294 : jp_chkL jcl jZ1 jSR 12 false cX12_findsNimbers jo_294 ji_294 = true := by decide +kernel
set_option maxRecDepth 100000 in
theorem jgO_294 : GoodIn lw_tbl jwO_294 := goodIn_r _ [2135, 161, 2134, 142, 1462, 1462, 1462, 2040, 1462] rfl (by decide +kernel)
set_option maxRecDepth 100000 in
theorem jn_294 : jp_nws jY RX12 jo_294 ji_294 = ([] : List Nat).filterMap (fun i => jNW[i]?) := rfl
set_option maxRecDepth 100000 in
theorem jcd_295_0 : ((jo_295.drop 0).take 30).all (fun o => jp_dec cX12_game o.1 o.2.1) = true := by decide +kernel
set_option maxRecDepth 100000 in
theorem jcd_295_1 : ((jo_295.drop 30).take 30).all (fun o => jp_dec cX12_game o.1 o.2.1) = true := by decide +kernel
set_option maxRecDepth 100000 in
theorem jcd_295_2 : ((jo_295.drop 60).take 30).all (fun o => jp_dec cX12_game o.1 o.2.1) = true := by decide +kernel
set_option maxRecDepth 100000 in
theorem jcd_295_3 : ((jo_295.drop 90).take 30).all (fun o => jp_dec cX12_game o.1 o.2.1) = true := by decide +kernel
set_option maxRecDepth 100000 in
theorem jcn_295 : jp_chkN jcl jZ1 jSR 12 false jo_295 ji_295 = true := by decide +kernel
set_option maxRecDepth 100000 in
theorem jc_295 : jp_chkL jcl jZ1 jSR 12 false cX12_game jo_295 ji_295 = true := jp_chkN_ok jcn_295 (jp_chunks 30 4 rfl (fun i hi => match i, hi with
  | 0, _ => jcd_295_0
  | 1, _ => jcd_295_1
  | 2, _ => jcd_295_2
  | 3, _ => jcd_295_3
  | n + 4, h => absurd h (by omega)))
set_option maxRecDepth 100000 in
theorem jgO_295 : GoodIn lw_tbl jwO_295 := goodIn_r _ [2131, 161, 2129, 2130, 1401, 1612, 2132, 1407, 1462, 1402, 1407, 1402, 1462, 1462, 1462] rfl (by decide +kernel)
set_option maxRecDepth 100000 in
theorem jn_295 : jp_nws jY RX12 jo_295 ji_295 = ([] : List Nat).filterMap (fun i => jNW[i]?) := rfl
set_option maxRecDepth 100000 in
theorem jc_296 : jp_chkL jcl jZ1 jSR 12 false cX12_keeps jo_296 ji_296 = true := by decide +kernel
set_option maxRecDepth 100000 in
theorem jgO_296 : GoodIn lw_tbl jwO_296 := goodIn_r _ [2143, 161, 2142, 143, 1465, 1465, 1463, 1466, 1465, 1466, 1465] rfl (by decide +kernel)
set_option maxRecDepth 100000 in
theorem jn_296 : jp_nws jY RX12 jo_296 ji_296 = ([] : List Nat).filterMap (fun i => jNW[i]?) := rfl
set_option maxRecDepth 100000 in
theorem jc_297 : jp_chkL jcl jZ1 jSR 12 false cX12_keepsLaw jo_297 ji_297 = true := by decide +kernel
set_option maxRecDepth 100000 in
theorem jgO_297 : GoodIn lw_tbl jwO_297 := goodIn_r _ [2155, 161, 2154, 146, 1420, 1420, 2140, 1421, 1421, 2140, 1422, 1422, 2140, 1423, 1423, 2140, 1424, 1424, 2140, 1425, 1425, 2140, 1426, 1426, 2140] rfl (by decide +kernel)
set_option maxRecDepth 100000 in
theorem jn_297 : jp_nws jY RX12 jo_297 ji_297 = ([] : List Nat).filterMap (fun i => jNW[i]?) := rfl
set_option maxRecDepth 100000 in
theorem jc_298 : jp_chkL jcl jZ1 jSR 12 false cX12_keepsMany jo_298 ji_298 = true := by decide +kernel
set_option maxRecDepth 100000 in
theorem jgO_298 : GoodIn lw_tbl jwO_298 := goodIn_r _ [2147, 161, 2146, 144, 1407, 2140, 1407, 1408, 2140, 1408, 1436, 2140, 1436, 1438, 2140, 1438, 1440, 2140, 1440, 1446, 2140, 1446, 1450, 2140, 1450, 1457, 2140, 1457] rfl (by decide +kernel)
set_option maxRecDepth 100000 in
theorem jn_298 : jp_nws jY RX12 jo_298 ji_298 = ([] : List Nat).filterMap (fun i => jNW[i]?) := rfl
set_option maxRecDepth 100000 in
theorem jcd_299_0 : ((jo_299.drop 0).take 30).all (fun o => jp_dec cX12_keepsTold o.1 o.2.1) = true := by decide +kernel
set_option maxRecDepth 100000 in
theorem jcd_299_1 : ((jo_299.drop 30).take 30).all (fun o => jp_dec cX12_keepsTold o.1 o.2.1) = true := by decide +kernel
set_option maxRecDepth 100000 in
theorem jcd_299_2 : ((jo_299.drop 60).take 30).all (fun o => jp_dec cX12_keepsTold o.1 o.2.1) = true := by decide +kernel
set_option maxRecDepth 100000 in
theorem jcd_299_3 : ((jo_299.drop 90).take 30).all (fun o => jp_dec cX12_keepsTold o.1 o.2.1) = true := by decide +kernel
set_option maxRecDepth 100000 in
theorem jcd_299_4 : ((jo_299.drop 120).take 30).all (fun o => jp_dec cX12_keepsTold o.1 o.2.1) = true := by decide +kernel
set_option maxRecDepth 100000 in
theorem jcd_299_5 : ((jo_299.drop 150).take 30).all (fun o => jp_dec cX12_keepsTold o.1 o.2.1) = true := by decide +kernel
set_option maxRecDepth 100000 in
theorem jcd_299_6 : ((jo_299.drop 180).take 30).all (fun o => jp_dec cX12_keepsTold o.1 o.2.1) = true := by decide +kernel
set_option maxRecDepth 100000 in
theorem jcn_299 : jp_chkN jcl jZ1 jSR 12 false jo_299 ji_299 = true := by decide +kernel
set_option maxRecDepth 100000 in
theorem jc_299 : jp_chkL jcl jZ1 jSR 12 false cX12_keepsTold jo_299 ji_299 = true := jp_chkN_ok jcn_299 (jp_chunks 30 7 rfl (fun i hi => match i, hi with
  | 0, _ => jcd_299_0
  | 1, _ => jcd_299_1
  | 2, _ => jcd_299_2
  | 3, _ => jcd_299_3
  | 4, _ => jcd_299_4
  | 5, _ => jcd_299_5
  | 6, _ => jcd_299_6
  | n + 7, h => absurd h (by omega)))
set_option maxRecDepth 100000 in
theorem jgO_299 : GoodIn lw_tbl jwO_299 := goodIn_r _ [2151, 161, 2150, 145, 1409, 1409, 2140, 1410, 1410, 2140, 1411, 1411, 2140, 1439, 1439, 2140, 1451, 1451, 2140, 1452, 1452, 2140, 1456, 1456, 2140, 1447, 1447, 2140, 1448, 1448, 2140, 1449, 1449, 2140, 1458, 1458, 2140, 1459, 1459, 2140, 1460, 1460, 2140, 1461, 1461, 2140, 1441, 1441, 2140, 1454, 1454, 2140, 1437, 1437, 2140] rfl (by decide +kernel)
set_option maxRecDepth 100000 in
theorem jn_299 : jp_nws jY RX12 jo_299 ji_299 = ([] : List Nat).filterMap (fun i => jNW[i]?) := rfl
set_option maxRecDepth 100000 in
theorem jc_300 : jp_chkL jcl jZ1 jSR 12 false cX12_image jo_300 ji_300 = true := by decide +kernel
set_option maxRecDepth 100000 in
theorem jgO_300 : GoodIn lw_tbl jwO_300 := goodIn_r _ [2139, 161, 2137, 2138, 1401, 1464, 1463, 1464, 1465, 1402, 1402, 2140, 2144, 2148, 1412, 1412, 2140, 2152, 1404] rfl (by decide +kernel)
set_option maxRecDepth 100000 in
theorem jn_300 : jp_nws jY RX12 jo_300 ji_300 = ([] : List Nat).filterMap (fun i => jNW[i]?) := rfl
set_option maxRecDepth 100000 in
theorem jcd_301_0 : ((jo_301.drop 0).take 30).all (fun o => jp_dec cX12_look o.1 o.2.1) = true := by decide +kernel
set_option maxRecDepth 100000 in
theorem jcd_301_1 : ((jo_301.drop 30).take 30).all (fun o => jp_dec cX12_look o.1 o.2.1) = true := by decide +kernel
set_option maxRecDepth 100000 in
theorem jcd_301_2 : ((jo_301.drop 60).take 30).all (fun o => jp_dec cX12_look o.1 o.2.1) = true := by decide +kernel
set_option maxRecDepth 100000 in
theorem jcd_301_3 : ((jo_301.drop 90).take 30).all (fun o => jp_dec cX12_look o.1 o.2.1) = true := by decide +kernel
set_option maxRecDepth 100000 in
theorem jcn_301 : jp_chkN jcl jZ1 jSR 12 false jo_301 ji_301 = true := by decide +kernel
set_option maxRecDepth 100000 in
theorem jc_301 : jp_chkL jcl jZ1 jSR 12 false cX12_look jo_301 ji_301 = true := jp_chkN_ok jcn_301 (jp_chunks 30 4 rfl (fun i hi => match i, hi with
  | 0, _ => jcd_301_0
  | 1, _ => jcd_301_1
  | 2, _ => jcd_301_2
  | 3, _ => jcd_301_3
  | n + 4, h => absurd h (by omega)))
set_option maxRecDepth 100000 in
theorem jgO_301 : GoodIn lw_tbl jwO_301 := goodIn_r _ [2159, 161, 2157, 2158, 1401, 1407, 1408, 1402, 1832, 1402, 1820, 1402, 1402, 1402, 1420, 1436, 1438, 1440, 1404] rfl (by decide +kernel)
set_option maxRecDepth 100000 in
theorem jn_301 : jp_nws jY RX12 jo_301 ji_301 = ([] : List Nat).filterMap (fun i => jNW[i]?) := rfl
set_option maxRecDepth 100000 in
theorem jc_302 : jp_chkL jcl jZ1 jSR 30 false cJ6_bitCount_0f7a4 jo_302 ji_302 = true := by decide +kernel
set_option maxRecDepth 100000 in
theorem jgO_302 : GoodIn lw_tbl jwO_302 := goodIn_r _ [1267, 168, 1266, 1268, 1269, 1269, 1270] rfl (by decide +kernel)
set_option maxRecDepth 100000 in
theorem jn_302 : jp_nws jY RJ6 jo_302 ji_302 = ([] : List Nat).filterMap (fun i => jNW[i]?) := rfl
set_option maxRecDepth 100000 in
theorem jc_303 : jp_chkL jcl jZ1 jSR 30 false cJ0_length_8abf5 jo_303 ji_303 = true := by decide +kernel
set_option maxRecDepth 100000 in
theorem jgO_303 : GoodIn lw_tbl jwO_303 := goodIn_r _ [887, 163, 885, 886, 2160, 888] rfl (by decide +kernel)
set_option maxRecDepth 100000 in
theorem jn_303 : jp_nws jY RJ0 jo_303 ji_303 = ([] : List Nat).filterMap (fun i => jNW[i]?) := rfl
set_option maxRecDepth 100000 in
theorem jc_304 : jp_chkL jcl jZ1 jSR 30 false cJ0_charAt_5068e jo_304 ji_304 = true := by decide +kernel
set_option maxRecDepth 100000 in
theorem jgO_304 : GoodIn lw_tbl jwO_304 := goodIn_r _ [897, 163, 895, 896, 898, 2160, 902, 2160] rfl (by decide +kernel)
set_option maxRecDepth 100000 in
theorem jn_304 : jp_nws jY RJ0 jo_304 ji_304 = ([] : List Nat).filterMap (fun i => jNW[i]?) := rfl
set_option maxRecDepth 100000 in
theorem jc_305 : jp_chkL jcl jZ1 jSR 30 false cJ0_indexOf_0f7a4 jo_305 ji_305 = true := by decide +kernel
set_option maxRecDepth 100000 in
theorem jgO_305 : GoodIn lw_tbl jwO_305 := goodIn_r _ [943, 163, 941, 942, 944] rfl (by decide +kernel)
set_option maxRecDepth 100000 in
theorem jn_305 : jp_nws jY RJ0 jo_305 ji_305 = ([] : List Nat).filterMap (fun i => jNW[i]?) := rfl
set_option maxRecDepth 100000 in
theorem jc_306 : jp_chkL jcl jZ1 jSR 30 false cJ0_indexOf_7cf53 jo_306 ji_306 = true := by decide +kernel
set_option maxRecDepth 100000 in
theorem jgO_306 : GoodIn lw_tbl jwO_306 := goodIn_r _ [947, 163, 945, 946, 898, 2160, 948, 949, 2160, 948] rfl (by decide +kernel)
set_option maxRecDepth 100000 in
theorem jn_306 : jp_nws jY RJ0 jo_306 ji_306 = ([] : List Nat).filterMap (fun i => jNW[i]?) := rfl
set_option maxRecDepth 100000 in
theorem jc_307 : jp_chkL jcl jZ1 jSR 30 false cJ0_coder_7d493 jo_307 ji_307 = true := by decide +kernel
set_option maxRecDepth 100000 in
theorem jgO_307 : GoodIn lw_tbl jwO_307 := goodIn_r _ [891, 163, 889, 890, 892, 2161] rfl (by decide +kernel)
set_option maxRecDepth 100000 in
theorem jn_307 : jp_nws jY RJ0 jo_307 ji_307 = ([] : List Nat).filterMap (fun i => jNW[i]?) := rfl
set_option maxRecDepth 100000 in
theorem jc_308 : jp_chkL jcl jZ1 jSR 30 false cJ0_isLatin1_aae02 jo_308 ji_308 = true := by decide +kernel
set_option maxRecDepth 100000 in
theorem jgO_308 : GoodIn lw_tbl jwO_308 := goodIn_r _ [901, 163, 899, 900, 892, 2161] rfl (by decide +kernel)
set_option maxRecDepth 100000 in
theorem jn_308 : jp_nws jY RJ0 jo_308 ji_308 = ([] : List Nat).filterMap (fun i => jNW[i]?) := rfl
set_option maxRecDepth 100000 in
theorem jc_309 : jp_chkL jcl jZ1 jSR 30 false cJ0_checkIndex_df160 jo_309 ji_309 = true := by decide +kernel
set_option maxRecDepth 100000 in
theorem jgO_309 : GoodIn lw_tbl jwO_309 := goodIn_r _ [907, 163, 906, 908, 910] rfl (by decide +kernel)
set_option maxRecDepth 100000 in
theorem jn_309 : jp_nws jY RJ0 jo_309 ji_309 = ([] : List Nat).filterMap (fun i => jNW[i]?) := rfl
set_option maxRecDepth 100000 in
theorem jc_310 : jp_chkL jcl jZ1 jSR 30 false cJ1_charAt_3b067 jo_310 ji_310 = true := by decide +kernel
set_option maxRecDepth 100000 in
theorem jgO_310 : GoodIn lw_tbl jwO_310 := goodIn_r _ [904, 164, 903, 905] rfl (by decide +kernel)
set_option maxRecDepth 100000 in
theorem jn_310 : jp_nws jY RJ1 jo_310 ji_310 = ([] : List Nat).filterMap (fun i => jNW[i]?) := rfl
set_option maxRecDepth 100000 in
theorem jc_311 : jp_chkL jcl jZ1 jSR 30 false cJ1_canEncode_9a6ad jo_311 ji_311 = true := by decide +kernel
set_option maxRecDepth 100000 in
theorem jgO_311 : GoodIn lw_tbl jwO_311 := goodIn_r _ [954, 164, 953] rfl (by decide +kernel)
set_option maxRecDepth 100000 in
theorem jn_311 : jp_nws jY RJ1 jo_311 ji_311 = ([] : List Nat).filterMap (fun i => jNW[i]?) := rfl
set_option maxRecDepth 100000 in
theorem jc_312 : jp_chkL jcl jZ1 jSR 30 false cJ1_indexOf_4cfef jo_312 ji_312 = true := by decide +kernel
set_option maxRecDepth 100000 in
theorem jgO_312 : GoodIn lw_tbl jwO_312 := goodIn_r _ [951, 164, 950, 952, 955, 956, 957] rfl (by decide +kernel)
set_option maxRecDepth 100000 in
theorem jn_312 : jp_nws jY RJ1 jo_312 ji_312 = ([] : List Nat).filterMap (fun i => jNW[i]?) := rfl
set_option maxRecDepth 100000 in
theorem jc_313 : jp_chkL jcl jZ1 jSR 30 false cJ1_indexOfChar_4cfef jo_313 ji_313 = true := by decide +kernel
set_option maxRecDepth 100000 in
theorem jgO_313 : GoodIn lw_tbl jwO_313 := goodIn_r _ [959, 164, 958] rfl (by decide +kernel)
set_option maxRecDepth 100000 in
theorem jn_313 : jp_nws jY RJ1 jo_313 ji_313 = ([] : List Nat).filterMap (fun i => jNW[i]?) := rfl
set_option maxRecDepth 100000 in
theorem jc_314 : jp_chkL jcl jZ1 jSR 30 false cJ3_checkIndex_8e157 jo_314 ji_314 = true := by decide +kernel
set_option maxRecDepth 100000 in
theorem jgO_314 : GoodIn lw_tbl jwO_314 := goodIn_r _ [912, 165, 911] rfl (by decide +kernel)
set_option maxRecDepth 100000 in
theorem jn_314 : jp_nws jY RJ3 jo_314 ji_314 = ([] : List Nat).filterMap (fun i => jNW[i]?) := rfl
set_option maxRecDepth 100000 in
theorem jcd_315_0 : ((jo_315.drop 0).take 30).all (fun o => jp_dec cL_law o.1 o.2.1) = true := by decide +kernel
set_option maxRecDepth 100000 in
theorem jcd_315_1 : ((jo_315.drop 30).take 30).all (fun o => jp_dec cL_law o.1 o.2.1) = true := by decide +kernel
set_option maxRecDepth 100000 in
theorem jcd_315_2 : ((jo_315.drop 60).take 30).all (fun o => jp_dec cL_law o.1 o.2.1) = true := by decide +kernel
set_option maxRecDepth 100000 in
theorem jcd_315_3 : ((jo_315.drop 90).take 30).all (fun o => jp_dec cL_law o.1 o.2.1) = true := by decide +kernel
set_option maxRecDepth 100000 in
theorem jcd_315_4 : ((jo_315.drop 120).take 30).all (fun o => jp_dec cL_law o.1 o.2.1) = true := by decide +kernel
set_option maxRecDepth 100000 in
theorem jcd_315_5 : ((jo_315.drop 150).take 30).all (fun o => jp_dec cL_law o.1 o.2.1) = true := by decide +kernel
set_option maxRecDepth 100000 in
theorem jcd_315_6 : ((jo_315.drop 180).take 30).all (fun o => jp_dec cL_law o.1 o.2.1) = true := by decide +kernel
set_option maxRecDepth 100000 in
theorem jcd_315_7 : ((jo_315.drop 210).take 30).all (fun o => jp_dec cL_law o.1 o.2.1) = true := by decide +kernel
set_option maxRecDepth 100000 in
theorem jcd_315_8 : ((jo_315.drop 240).take 30).all (fun o => jp_dec cL_law o.1 o.2.1) = true := by decide +kernel
set_option maxRecDepth 100000 in
theorem jcd_315_9 : ((jo_315.drop 270).take 30).all (fun o => jp_dec cL_law o.1 o.2.1) = true := by decide +kernel
set_option maxRecDepth 100000 in
theorem jcd_315_10 : ((jo_315.drop 300).take 30).all (fun o => jp_dec cL_law o.1 o.2.1) = true := by decide +kernel
set_option maxRecDepth 100000 in
theorem jcd_315_11 : ((jo_315.drop 330).take 30).all (fun o => jp_dec cL_law o.1 o.2.1) = true := by decide +kernel
set_option maxRecDepth 100000 in
theorem jcd_315_12 : ((jo_315.drop 360).take 30).all (fun o => jp_dec cL_law o.1 o.2.1) = true := by decide +kernel
set_option maxRecDepth 100000 in
theorem jcd_315_13 : ((jo_315.drop 390).take 30).all (fun o => jp_dec cL_law o.1 o.2.1) = true := by decide +kernel
set_option maxRecDepth 100000 in
theorem jcd_315_14 : ((jo_315.drop 420).take 30).all (fun o => jp_dec cL_law o.1 o.2.1) = true := by decide +kernel
set_option maxRecDepth 100000 in
theorem jcd_315_15 : ((jo_315.drop 450).take 30).all (fun o => jp_dec cL_law o.1 o.2.1) = true := by decide +kernel
set_option maxRecDepth 100000 in
theorem jcd_315_16 : ((jo_315.drop 480).take 30).all (fun o => jp_dec cL_law o.1 o.2.1) = true := by decide +kernel
set_option maxRecDepth 100000 in
theorem jcd_315_17 : ((jo_315.drop 510).take 30).all (fun o => jp_dec cL_law o.1 o.2.1) = true := by decide +kernel
set_option maxRecDepth 100000 in
theorem jcd_315_18 : ((jo_315.drop 540).take 30).all (fun o => jp_dec cL_law o.1 o.2.1) = true := by decide +kernel
set_option maxRecDepth 100000 in
theorem jcd_315_19 : ((jo_315.drop 570).take 30).all (fun o => jp_dec cL_law o.1 o.2.1) = true := by decide +kernel
set_option maxRecDepth 100000 in
theorem jcd_315_20 : ((jo_315.drop 600).take 30).all (fun o => jp_dec cL_law o.1 o.2.1) = true := by decide +kernel
set_option maxRecDepth 100000 in
theorem jcd_315_21 : ((jo_315.drop 630).take 30).all (fun o => jp_dec cL_law o.1 o.2.1) = true := by decide +kernel
set_option maxRecDepth 100000 in
theorem jcd_315_22 : ((jo_315.drop 660).take 30).all (fun o => jp_dec cL_law o.1 o.2.1) = true := by decide +kernel
set_option maxRecDepth 100000 in
theorem jcd_315_23 : ((jo_315.drop 690).take 30).all (fun o => jp_dec cL_law o.1 o.2.1) = true := by decide +kernel
set_option maxRecDepth 100000 in
theorem jcd_315_24 : ((jo_315.drop 720).take 30).all (fun o => jp_dec cL_law o.1 o.2.1) = true := by decide +kernel
set_option maxRecDepth 100000 in
theorem jcd_315_25 : ((jo_315.drop 750).take 30).all (fun o => jp_dec cL_law o.1 o.2.1) = true := by decide +kernel
set_option maxRecDepth 100000 in
theorem jcd_315_26 : ((jo_315.drop 780).take 30).all (fun o => jp_dec cL_law o.1 o.2.1) = true := by decide +kernel
set_option maxRecDepth 100000 in
theorem jcd_315_27 : ((jo_315.drop 810).take 30).all (fun o => jp_dec cL_law o.1 o.2.1) = true := by decide +kernel
set_option maxRecDepth 100000 in
theorem jcd_315_28 : ((jo_315.drop 840).take 30).all (fun o => jp_dec cL_law o.1 o.2.1) = true := by decide +kernel
set_option maxRecDepth 100000 in
theorem jcd_315_29 : ((jo_315.drop 870).take 30).all (fun o => jp_dec cL_law o.1 o.2.1) = true := by decide +kernel
set_option maxRecDepth 100000 in
theorem jcd_315_30 : ((jo_315.drop 900).take 30).all (fun o => jp_dec cL_law o.1 o.2.1) = true := by decide +kernel
set_option maxRecDepth 100000 in
theorem jcd_315_31 : ((jo_315.drop 930).take 30).all (fun o => jp_dec cL_law o.1 o.2.1) = true := by decide +kernel
set_option maxRecDepth 100000 in
theorem jcd_315_32 : ((jo_315.drop 960).take 30).all (fun o => jp_dec cL_law o.1 o.2.1) = true := by decide +kernel
set_option maxRecDepth 100000 in
theorem jcd_315_33 : ((jo_315.drop 990).take 30).all (fun o => jp_dec cL_law o.1 o.2.1) = true := by decide +kernel
set_option maxRecDepth 100000 in
theorem jcd_315_34 : ((jo_315.drop 1020).take 30).all (fun o => jp_dec cL_law o.1 o.2.1) = true := by decide +kernel
set_option maxRecDepth 100000 in
theorem jcd_315_35 : ((jo_315.drop 1050).take 30).all (fun o => jp_dec cL_law o.1 o.2.1) = true := by decide +kernel
set_option maxRecDepth 100000 in
theorem jcd_315_36 : ((jo_315.drop 1080).take 30).all (fun o => jp_dec cL_law o.1 o.2.1) = true := by decide +kernel
set_option maxRecDepth 100000 in
theorem jcd_315_37 : ((jo_315.drop 1110).take 30).all (fun o => jp_dec cL_law o.1 o.2.1) = true := by decide +kernel
set_option maxRecDepth 100000 in
theorem jcn_315 : jp_chkN jcl jZ1 jSR 30 false jo_315 ji_315 = true := by decide +kernel
set_option maxRecDepth 100000 in
theorem jc_315 : jp_chkL jcl jZ1 jSR 30 false cL_law jo_315 ji_315 = true := jp_chkN_ok jcn_315 (jp_chunks 30 38 rfl (fun i hi => match i, hi with
  | 0, _ => jcd_315_0
  | 1, _ => jcd_315_1
  | 2, _ => jcd_315_2
  | 3, _ => jcd_315_3
  | 4, _ => jcd_315_4
  | 5, _ => jcd_315_5
  | 6, _ => jcd_315_6
  | 7, _ => jcd_315_7
  | 8, _ => jcd_315_8
  | 9, _ => jcd_315_9
  | 10, _ => jcd_315_10
  | 11, _ => jcd_315_11
  | 12, _ => jcd_315_12
  | 13, _ => jcd_315_13
  | 14, _ => jcd_315_14
  | 15, _ => jcd_315_15
  | 16, _ => jcd_315_16
  | 17, _ => jcd_315_17
  | 18, _ => jcd_315_18
  | 19, _ => jcd_315_19
  | 20, _ => jcd_315_20
  | 21, _ => jcd_315_21
  | 22, _ => jcd_315_22
  | 23, _ => jcd_315_23
  | 24, _ => jcd_315_24
  | 25, _ => jcd_315_25
  | 26, _ => jcd_315_26
  | 27, _ => jcd_315_27
  | 28, _ => jcd_315_28
  | 29, _ => jcd_315_29
  | 30, _ => jcd_315_30
  | 31, _ => jcd_315_31
  | 32, _ => jcd_315_32
  | 33, _ => jcd_315_33
  | 34, _ => jcd_315_34
  | 35, _ => jcd_315_35
  | 36, _ => jcd_315_36
  | 37, _ => jcd_315_37
  | n + 38, h => absurd h (by omega)))
set_option maxRecDepth 100000 in
theorem jgO_315 : GoodIn lw_tbl jwO_315 := goodIn_r _ [147, 169, 171, 1395, 1397, 631, 1604, 639, 1608, 646, 1616, 650, 1620, 674, 1788, 773, 1886, 781, 1890, 797, 1898, 801, 1902, 849, 1636, 857, 1644, 861, 1648, 1115, 1784, 1119, 1942, 1123, 1946, 1128, 1950, 1133, 1954, 1137, 1958, 1141, 1962, 1145, 1966, 1161, 1978, 1187, 2008, 1204, 2028, 1208, 2032, 1228, 2048, 1232, 2052, 1253, 2064, 1257, 2068, 1282, 2084, 1302, 2104, 1306, 2108, 1318, 2020, 1327, 2116, 1331, 2120, 1340, 2124, 1344, 2128, 1361, 2024, 1369, 1600, 1373, 2136, 1389, 2156] rfl (by decide +kernel)
set_option maxRecDepth 100000 in
theorem jn_315 : jp_nws jY RL jo_315 ji_315 = ([] : List Nat).filterMap (fun i => jNW[i]?) := rfl
