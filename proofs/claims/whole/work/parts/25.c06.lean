set_option maxRecDepth 100000 in
theorem jcd_240_0 : ((jo_240.drop 0).take 30).all (fun o => jp_dec cX12_begins o.1 o.2.1) = true := by decide +kernel
set_option maxRecDepth 100000 in
theorem jcd_240_1 : ((jo_240.drop 30).take 30).all (fun o => jp_dec cX12_begins o.1 o.2.1) = true := by decide +kernel
set_option maxRecDepth 100000 in
theorem jcd_240_2 : ((jo_240.drop 60).take 30).all (fun o => jp_dec cX12_begins o.1 o.2.1) = true := by decide +kernel
set_option maxRecDepth 100000 in
theorem jcd_240_3 : ((jo_240.drop 90).take 30).all (fun o => jp_dec cX12_begins o.1 o.2.1) = true := by decide +kernel
set_option maxRecDepth 100000 in
theorem jcn_240 : jp_chkN jcl jZ1 jSR 12 false jo_240 ji_240 = true := by decide +kernel
set_option maxRecDepth 100000 in
theorem jc_240 : jp_chkL jcl jZ1 jSR 12 false cX12_begins jo_240 ji_240 = true := jp_chkN_ok jcn_240 (jp_chunks 30 4 rfl (fun i hi => match i, hi with
  | 0, _ => jcd_240_0
  | 1, _ => jcd_240_1
  | 2, _ => jcd_240_2
  | 3, _ => jcd_240_3
  | n + 4, h => absurd h (by omega)))
set_option maxRecDepth 100000 in
theorem jgO_240 : GoodIn lw_tbl jwO_240 := goodIn_r _ [1885, 161, 1884, 108, 1402, 1808, 1402, 1402, 1402, 1402, 1402, 1402, 1402, 1402, 1402, 1402, 1402, 1402, 1402, 1402] rfl (by decide +kernel)
set_option maxRecDepth 100000 in
theorem jn_240 : jp_nws jY RX12 jo_240 ji_240 = ([] : List Nat).filterMap (fun i => jNW[i]?) := rfl
set_option maxRecDepth 100000 in
theorem jc_241 : jp_chkL jcl jZ1 jSR 12 false cX12_asksFor jo_241 ji_241 = true := by decide +kernel
set_option maxRecDepth 100000 in
theorem jgO_241 : GoodIn lw_tbl jwO_241 := goodIn_r _ [1819, 161, 1818, 92, 1820, 1824, 1836, 1406, 1860, 1866, 1824, 1870, 1874, 1882, 1866] rfl (by decide +kernel)
set_option maxRecDepth 100000 in
theorem jn_241 : jp_nws jY RX12 jo_241 ji_241 = ([] : List Nat).filterMap (fun i => jNW[i]?) := rfl
set_option maxRecDepth 100000 in
theorem jc_242 : jp_chkL jcl jZ1 jSR 12 false cX12_isOver jo_242 ji_242 = true := by decide +kernel
set_option maxRecDepth 100000 in
theorem jgO_242 : GoodIn lw_tbl jwO_242 := goodIn_r _ [1897, 161, 1896, 109, 1402, 1402, 1808, 1402, 1808, 1402, 1402] rfl (by decide +kernel)
set_option maxRecDepth 100000 in
theorem jn_242 : jp_nws jY RX12 jo_242 ji_242 = ([] : List Nat).filterMap (fun i => jNW[i]?) := rfl
set_option maxRecDepth 100000 in
theorem jc_243 : jp_chkL jcl jZ1 jSR 12 false cX12_ask jo_243 ji_243 = true := by decide +kernel
set_option maxRecDepth 100000 in
theorem jgO_243 : GoodIn lw_tbl jwO_243 := goodIn_r _ [1791, 161, 1789, 1790, 1401, 1792, 1796, 1812, 1816] rfl (by decide +kernel)
set_option maxRecDepth 100000 in
theorem jn_243 : jp_nws jY RX12 jo_243 ji_243 = ([] : List Nat).filterMap (fun i => jNW[i]?) := rfl
set_option maxRecDepth 100000 in
theorem jc_244 : jp_chkL jcl jZ1 jSR 12 false cX12_take jo_244 ji_244 = true := by decide +kernel
set_option maxRecDepth 100000 in
theorem jgO_244 : GoodIn lw_tbl jwO_244 := goodIn_r _ [1889, 161, 1887, 1888, 1401, 1792, 1796, 1812, 1882, 1866] rfl (by decide +kernel)
set_option maxRecDepth 100000 in
theorem jn_244 : jp_nws jY RX12 jo_244 ji_244 = ([] : List Nat).filterMap (fun i => jNW[i]?) := rfl
set_option maxRecDepth 100000 in
theorem jc_245 : jp_chkL jcl jZ1 jSR 12 false cX12_ends jo_245 ji_245 = true := by decide +kernel
set_option maxRecDepth 100000 in
theorem jgO_245 : GoodIn lw_tbl jwO_245 := goodIn_r _ [1893, 161, 1891, 1892, 1401, 1402, 1402, 1808, 1812, 1866, 1894] rfl (by decide +kernel)
set_option maxRecDepth 100000 in
theorem jn_245 : jp_nws jY RX12 jo_245 ji_245 = ([] : List Nat).filterMap (fun i => jNW[i]?) := rfl
set_option maxRecDepth 100000 in
theorem jc_246 : jp_chkL jcl jZ1 jSR 12 false cX12_nest jo_246 ji_246 = true := by decide +kernel
set_option maxRecDepth 100000 in
theorem jgO_246 : GoodIn lw_tbl jwO_246 := goodIn_r _ [1901, 161, 1899, 1900, 1401, 1628, 1612, 1402, 1812, 1402] rfl (by decide +kernel)
set_option maxRecDepth 100000 in
theorem jn_246 : jp_nws jY RX12 jo_246 ji_246 = ([] : List Nat).filterMap (fun i => jNW[i]?) := rfl
set_option maxRecDepth 100000 in
theorem jc_247 : jp_chkL jcl jZ1 jSR 12 false cX12_sees jo_247 ji_247 = true := by decide +kernel
set_option maxRecDepth 100000 in
theorem jgO_247 : GoodIn lw_tbl jwO_247 := goodIn_r _ [1925, 161, 1924, 114, 1411, 1402, 1926, 1439, 1926] rfl (by decide +kernel)
set_option maxRecDepth 100000 in
theorem jn_247 : jp_nws jY RX12 jo_247 ji_247 = ([] : List Nat).filterMap (fun i => jNW[i]?) := rfl
set_option maxRecDepth 100000 in
theorem jc_248 : jp_chkL jcl jZ1 jSR 12 false cX12_whoSees jo_248 ji_248 = true := by decide +kernel
set_option maxRecDepth 100000 in
theorem jgO_248 : GoodIn lw_tbl jwO_248 := goodIn_r _ [1921, 161, 1920, 113, 1408, 1922] rfl (by decide +kernel)
set_option maxRecDepth 100000 in
theorem jn_248 : jp_nws jY RX12 jo_248 ji_248 = ([] : List Nat).filterMap (fun i => jNW[i]?) := rfl
set_option maxRecDepth 100000 in
theorem jcd_249_0 : ((jo_249.drop 0).take 30).all (fun o => jp_dec cX12_isFined o.1 o.2.1) = true := by decide +kernel
set_option maxRecDepth 100000 in
theorem jcd_249_1 : ((jo_249.drop 30).take 30).all (fun o => jp_dec cX12_isFined o.1 o.2.1) = true := by decide +kernel
set_option maxRecDepth 100000 in
theorem jcd_249_2 : ((jo_249.drop 60).take 30).all (fun o => jp_dec cX12_isFined o.1 o.2.1) = true := by decide +kernel
set_option maxRecDepth 100000 in
theorem jcd_249_3 : ((jo_249.drop 90).take 30).all (fun o => jp_dec cX12_isFined o.1 o.2.1) = true := by decide +kernel
set_option maxRecDepth 100000 in
theorem jcn_249 : jp_chkN jcl jZ1 jSR 12 false jo_249 ji_249 = true := by decide +kernel
set_option maxRecDepth 100000 in
theorem jc_249 : jp_chkL jcl jZ1 jSR 12 false cX12_isFined jo_249 ji_249 = true := jp_chkN_ok jcn_249 (jp_chunks 30 4 rfl (fun i hi => match i, hi with
  | 0, _ => jcd_249_0
  | 1, _ => jcd_249_1
  | 2, _ => jcd_249_2
  | 3, _ => jcd_249_3
  | n + 4, h => absurd h (by omega)))
set_option maxRecDepth 100000 in
theorem jgO_249 : GoodIn lw_tbl jwO_249 := goodIn_r _ [1917, 161, 1916, 112, 1808, 1402, 1402, 1918, 1402, 1402, 1402, 1930, 1934, 1874, 1402, 1402, 1402, 1402, 1878, 1402, 1866, 1894] rfl (by decide +kernel)
set_option maxRecDepth 100000 in
theorem jn_249 : jp_nws jY RX12 jo_249 ji_249 = ([] : List Nat).filterMap (fun i => jNW[i]?) := rfl
set_option maxRecDepth 100000 in
theorem jc_250 : jp_chkL jcl jZ1 jSR 12 false cX12_petitionsOf jo_250 ji_250 = true := by decide +kernel
set_option maxRecDepth 100000 in
theorem jgO_250 : GoodIn lw_tbl jwO_250 := goodIn_r _ [1913, 161, 1912, 111, 1436, 1437, 1402, 1437, 1437, 1437, 1796, 1437, 1437, 1437, 1437, 1437, 1437, 1816] rfl (by decide +kernel)
set_option maxRecDepth 100000 in
theorem jn_250 : jp_nws jY RX12 jo_250 ji_250 = ([] : List Nat).filterMap (fun i => jNW[i]?) := rfl
set_option maxRecDepth 100000 in
theorem jc_251 : jp_chkL jcl jZ1 jSR 12 false cX12_passes jo_251 ji_251 = true := by decide +kernel
set_option maxRecDepth 100000 in
theorem jgO_251 : GoodIn lw_tbl jwO_251 := goodIn_r _ [1941, 161, 1940, 118, 1402, 1808, 1402, 1402, 1402, 1402, 1866, 1894] rfl (by decide +kernel)
set_option maxRecDepth 100000 in
theorem jn_251 : jp_nws jY RX12 jo_251 ji_251 = ([] : List Nat).filterMap (fun i => jNW[i]?) := rfl
set_option maxRecDepth 100000 in
theorem jc_252 : jp_chkL jcl jZ1 jSR 12 false cX12_goesBy jo_252 ji_252 = true := by decide +kernel
set_option maxRecDepth 100000 in
theorem jgO_252 : GoodIn lw_tbl jwO_252 := goodIn_r _ [1909, 161, 1908, 110, 1910, 1402, 1820, 1914, 1938, 1402, 1408, 1402, 1407, 1402, 1402, 1402] rfl (by decide +kernel)
set_option maxRecDepth 100000 in
theorem jn_252 : jp_nws jY RX12 jo_252 ji_252 = ([] : List Nat).filterMap (fun i => jNW[i]?) := rfl
set_option maxRecDepth 100000 in
theorem jc_253 : jp_chkL jcl jZ1 jSR 12 false cX12_days jo_253 ji_253 = true := by decide +kernel
set_option maxRecDepth 100000 in
theorem jgO_253 : GoodIn lw_tbl jwO_253 := goodIn_r _ [1905, 161, 1903, 1904, 1401, 1612, 1402, 1812, 1906] rfl (by decide +kernel)
set_option maxRecDepth 100000 in
theorem jn_253 : jp_nws jY RX12 jo_253 ji_253 = ([] : List Nat).filterMap (fun i => jNW[i]?) := rfl
set_option maxRecDepth 100000 in
theorem jc_254 : jp_chkL jcl jZ1 jSR 12 false cX12_of jo_254 ji_254 = true := by decide +kernel
set_option maxRecDepth 100000 in
theorem jgO_254 : GoodIn lw_tbl jwO_254 := goodIn_r _ [1945, 161, 1943, 1944, 1401, 1632, 1409, 1402, 1410, 1402, 1402] rfl (by decide +kernel)
set_option maxRecDepth 100000 in
theorem jn_254 : jp_nws jY RX12 jo_254 ji_254 = ([] : List Nat).filterMap (fun i => jNW[i]?) := rfl
set_option maxRecDepth 100000 in
theorem jc_255 : jp_chkL jcl jZ1 jSR 12 false cX12_bird jo_255 ji_255 = true := by decide +kernel
set_option maxRecDepth 100000 in
theorem jgO_255 : GoodIn lw_tbl jwO_255 := goodIn_r _ [1949, 161, 1947, 1948, 1401, 1628, 1612, 1922, 1402, 1411, 1402] rfl (by decide +kernel)
set_option maxRecDepth 100000 in
theorem jn_255 : jp_nws jY RX12 jo_255 ji_255 = ([] : List Nat).filterMap (fun i => jNW[i]?) := rfl
set_option maxRecDepth 100000 in
theorem jc_256 : jp_chkL jcl jZ1 jSR 12 false cX12_use jo_256 ji_256 = true := by decide +kernel
set_option maxRecDepth 100000 in
theorem jgO_256 : GoodIn lw_tbl jwO_256 := goodIn_r _ [1953, 161, 1951, 1952, 1401, 1402, 1612, 1612, 1402, 1808, 1930, 1836, 1870, 1934] rfl (by decide +kernel)
set_option maxRecDepth 100000 in
theorem jn_256 : jp_nws jY RX12 jo_256 ji_256 = ([] : List Nat).filterMap (fun i => jNW[i]?) := rfl
set_option maxRecDepth 100000 in
theorem jc_257 : jp_chkL jcl jZ1 jSR 12 false cX12_lease jo_257 ji_257 = true := by decide +kernel
set_option maxRecDepth 100000 in
theorem jgO_257 : GoodIn lw_tbl jwO_257 := goodIn_r _ [1957, 161, 1955, 1956, 1401, 1612, 1439] rfl (by decide +kernel)
set_option maxRecDepth 100000 in
theorem jn_257 : jp_nws jY RX12 jo_257 ji_257 = ([] : List Nat).filterMap (fun i => jNW[i]?) := rfl
set_option maxRecDepth 100000 in
theorem jc_258 : jp_chkL jcl jZ1 jSR 12 false cX12_book jo_258 ji_258 = true := by decide +kernel
set_option maxRecDepth 100000 in
theorem jgO_258 : GoodIn lw_tbl jwO_258 := goodIn_r _ [1961, 161, 1959, 1960, 1401, 1402, 1612, 1612, 1412] rfl (by decide +kernel)
set_option maxRecDepth 100000 in
theorem jn_258 : jp_nws jY RX12 jo_258 ji_258 = ([] : List Nat).filterMap (fun i => jNW[i]?) := rfl
set_option maxRecDepth 100000 in
theorem jc_259 : jp_chkL jcl jZ1 jSR 12 false cX12_would jo_259 ji_259 = true := by decide +kernel
set_option maxRecDepth 100000 in
theorem jgO_259 : GoodIn lw_tbl jwO_259 := goodIn_r _ [1965, 161, 1963, 1964, 1401, 1792, 1824, 1836, 1796] rfl (by decide +kernel)
set_option maxRecDepth 100000 in
theorem jn_259 : jp_nws jY RX12 jo_259 ji_259 = ([] : List Nat).filterMap (fun i => jNW[i]?) := rfl
set_option maxRecDepth 100000 in
theorem jcd_260_0 : ((jo_260.drop 0).take 30).all (fun o => jp_dec cX12_goes o.1 o.2.1) = true := by decide +kernel
set_option maxRecDepth 100000 in
theorem jcd_260_1 : ((jo_260.drop 30).take 30).all (fun o => jp_dec cX12_goes o.1 o.2.1) = true := by decide +kernel
set_option maxRecDepth 100000 in
theorem jcd_260_2 : ((jo_260.drop 60).take 30).all (fun o => jp_dec cX12_goes o.1 o.2.1) = true := by decide +kernel
set_option maxRecDepth 100000 in
theorem jcd_260_3 : ((jo_260.drop 90).take 30).all (fun o => jp_dec cX12_goes o.1 o.2.1) = true := by decide +kernel
set_option maxRecDepth 100000 in
theorem jcn_260 : jp_chkN jcl jZ1 jSR 12 false jo_260 ji_260 = true := by decide +kernel
set_option maxRecDepth 100000 in
theorem jc_260 : jp_chkL jcl jZ1 jSR 12 false cX12_goes jo_260 ji_260 = true := jp_chkN_ok jcn_260 (jp_chunks 30 4 rfl (fun i hi => match i, hi with
  | 0, _ => jcd_260_0
  | 1, _ => jcd_260_1
  | 2, _ => jcd_260_2
  | 3, _ => jcd_260_3
  | n + 4, h => absurd h (by omega)))
set_option maxRecDepth 100000 in
theorem jgO_260 : GoodIn lw_tbl jwO_260 := goodIn_r _ [1969, 161, 1967, 1968, 1401, 1612, 1612, 1970, 1906, 1407, 1402, 1408, 1402, 1402, 1402, 1974] rfl (by decide +kernel)
set_option maxRecDepth 100000 in
theorem jn_260 : jp_nws jY RX12 jo_260 ji_260 = ([] : List Nat).filterMap (fun i => jNW[i]?) := rfl
set_option maxRecDepth 100000 in
theorem jc_261 : jp_chkL jcl jZ1 jSR 12 false cX12_isCell jo_261 ji_261 = true := by decide +kernel
set_option maxRecDepth 100000 in
theorem jgO_261 : GoodIn lw_tbl jwO_261 := goodIn_r _ [1985, 161, 1984, 121, 1612] rfl (by decide +kernel)
set_option maxRecDepth 100000 in
theorem jn_261 : jp_nws jY RX12 jo_261 ji_261 = ([] : List Nat).filterMap (fun i => jNW[i]?) := rfl
set_option maxRecDepth 100000 in
theorem jc_262 : jp_chkL jcl jZ1 jSR 12 false cX12_isFreeCell jo_262 ji_262 = true := by decide +kernel
set_option maxRecDepth 100000 in
theorem jgO_262 : GoodIn lw_tbl jwO_262 := goodIn_r _ [2002, 161, 2001, 125, 1800] rfl (by decide +kernel)
set_option maxRecDepth 100000 in
theorem jn_262 : jp_nws jY RX12 jo_262 ji_262 = ([] : List Nat).filterMap (fun i => jNW[i]?) := rfl
set_option maxRecDepth 100000 in
theorem jc_263 : jp_chkL jcl jZ1 jSR 12 false cX12_isBeside jo_263 ji_263 = true := by decide +kernel
set_option maxRecDepth 100000 in
theorem jgO_263 : GoodIn lw_tbl jwO_263 := goodIn_r _ [1998, 161, 1997, 124, 1926, 1926] rfl (by decide +kernel)
set_option maxRecDepth 100000 in
theorem jn_263 : jp_nws jY RX12 jo_263 ji_263 = ([] : List Nat).filterMap (fun i => jNW[i]?) := rfl
set_option maxRecDepth 100000 in
theorem jc_264 : jp_chkL jcl jZ1 jSR 12 false cX12_goesFrom jo_264 ji_264 = true := by decide +kernel
set_option maxRecDepth 100000 in
theorem jgO_264 : GoodIn lw_tbl jwO_264 := goodIn_r _ [1994, 161, 1993, 123, 1995, 1999, 1445, 1990, 1445, 1445, 1444, 1444, 1444, 2003] rfl (by decide +kernel)
set_option maxRecDepth 100000 in
theorem jn_264 : jp_nws jY RX12 jo_264 ji_264 = ([] : List Nat).filterMap (fun i => jNW[i]?) := rfl
set_option maxRecDepth 100000 in
theorem jc_265 : jp_chkL jcl jZ1 jSR 12 false cX12_findsSteps jo_265 ji_265 = true := by decide +kernel
set_option maxRecDepth 100000 in
theorem jgO_265 : GoodIn lw_tbl jwO_265 := goodIn_r _ [1989, 161, 1988, 122, 1445, 1990, 1444, 1445, 1991] rfl (by decide +kernel)
set_option maxRecDepth 100000 in
theorem jn_265 : jp_nws jY RX12 jo_265 ji_265 = ([] : List Nat).filterMap (fun i => jNW[i]?) := rfl
set_option maxRecDepth 100000 in
theorem jc_266 : jp_chkL jcl jZ1 jSR 12 false cX12_through jo_266 ji_266 = true := by decide +kernel
set_option maxRecDepth 100000 in
theorem jgO_266 : GoodIn lw_tbl jwO_266 := goodIn_r _ [1981, 161, 1979, 1980, 1401, 1982, 1982, 1612, 1800, 1800, 1986, 1445, 1990, 1445, 1444] rfl (by decide +kernel)
set_option maxRecDepth 100000 in
theorem jn_266 : jp_nws jY RX12 jo_266 ji_266 = ([] : List Nat).filterMap (fun i => jNW[i]?) := rfl
set_option maxRecDepth 100000 in
theorem jc_267 : jp_chkL jcl jZ1 jSR 12 false cX12_freeFrom jo_267 ji_267 = true := by decide +kernel
set_option maxRecDepth 100000 in
theorem jgO_267 : GoodIn lw_tbl jwO_267 := goodIn_r _ [2015, 161, 2014, 127, 1800] rfl (by decide +kernel)
set_option maxRecDepth 100000 in
theorem jn_267 : jp_nws jY RX12 jo_267 ji_267 = ([] : List Nat).filterMap (fun i => jNW[i]?) := rfl
set_option maxRecDepth 100000 in
theorem jc_268 : jp_chkL jcl jZ1 jSR 12 false cX12_wide jo_268 ji_268 = true := by decide +kernel
set_option maxRecDepth 100000 in
theorem jgO_268 : GoodIn lw_tbl jwO_268 := goodIn_r _ [2011, 161, 2009, 2010, 1401, 1612, 2012, 1878, 2016] rfl (by decide +kernel)
set_option maxRecDepth 100000 in
theorem jn_268 : jp_nws jY RX12 jo_268 ji_268 = ([] : List Nat).filterMap (fun i => jNW[i]?) := rfl
set_option maxRecDepth 100000 in
theorem jc_269 : jp_chkL jcl jZ1 jSR 12 false cX12_upright jo_269 ji_269 = true := by decide +kernel
set_option maxRecDepth 100000 in
theorem jgO_269 : GoodIn lw_tbl jwO_269 := goodIn_r _ [2023, 161, 2021, 2022, 1401, 1632, 1612, 1410, 2012, 1409, 1402, 2016] rfl (by decide +kernel)
set_option maxRecDepth 100000 in
theorem jn_269 : jp_nws jY RX12 jo_269 ji_269 = ([] : List Nat).filterMap (fun i => jNW[i]?) := rfl
set_option maxRecDepth 100000 in
theorem jc_270 : jp_chkL jcl jZ1 jSR 12 false cX12_leaps jo_270 ji_270 = true := by decide +kernel
set_option maxRecDepth 100000 in
theorem jgO_270 : GoodIn lw_tbl jwO_270 := goodIn_r _ [2027, 161, 2025, 2026, 1401, 1612, 1444, 1878, 1800, 1444, 1444, 1444, 1444] rfl (by decide +kernel)
set_option maxRecDepth 100000 in
theorem jn_270 : jp_nws jY RX12 jo_270 ji_270 = ([] : List Nat).filterMap (fun i => jNW[i]?) := rfl
set_option maxRecDepth 100000 in
theorem jc_271 : jp_chkL jcl jZ1 jSR 12 false cX12_wish jo_271 ji_271 = true := by decide +kernel
set_option maxRecDepth 100000 in
theorem jgO_271 : GoodIn lw_tbl jwO_271 := goodIn_r _ [2031, 161, 2029, 2030, 1401, 1446, 1612, 1612, 1612, 1446, 1447, 1446, 1448, 1446, 1449, 1446, 1446, 1446, 1446] rfl (by decide +kernel)
set_option maxRecDepth 100000 in
theorem jn_271 : jp_nws jY RX12 jo_271 ji_271 = ([] : List Nat).filterMap (fun i => jNW[i]?) := rfl
set_option maxRecDepth 100000 in
theorem jc_272 : jp_chkL jcl jZ1 jSR 12 false cX12_areBeside jo_272 ji_272 = true := by decide +kernel
set_option maxRecDepth 100000 in
theorem jgO_272 : GoodIn lw_tbl jwO_272 := goodIn_r _ [2047, 161, 2046, 131, 1446, 2040, 2040, 1447, 1448, 1447, 1448] rfl (by decide +kernel)
set_option maxRecDepth 100000 in
theorem jn_272 : jp_nws jY RX12 jo_272 ji_272 = ([] : List Nat).filterMap (fun i => jNW[i]?) := rfl
set_option maxRecDepth 100000 in
theorem jc_273 : jp_chkL jcl jZ1 jSR 12 false cX12_worthOf jo_273 ji_273 = true := by decide +kernel
set_option maxRecDepth 100000 in
theorem jgO_273 : GoodIn lw_tbl jwO_273 := goodIn_r _ [2039, 161, 2038, 129, 1446, 2040, 1449] rfl (by decide +kernel)
set_option maxRecDepth 100000 in
theorem jn_273 : jp_nws jY RX12 jo_273 ji_273 = ([] : List Nat).filterMap (fun i => jNW[i]?) := rfl
set_option maxRecDepth 100000 in
theorem jc_274 : jp_chkL jcl jZ1 jSR 12 false cX12_beside jo_274 ji_274 = true := by decide +kernel
set_option maxRecDepth 100000 in
theorem jgO_274 : GoodIn lw_tbl jwO_274 := goodIn_r _ [2035, 161, 2033, 2034, 1401, 1612, 1446, 2036, 2036, 2044, 2036] rfl (by decide +kernel)
set_option maxRecDepth 100000 in
theorem jn_274 : jp_nws jY RX12 jo_274 ji_274 = ([] : List Nat).filterMap (fun i => jNW[i]?) := rfl
set_option maxRecDepth 100000 in
theorem jc_275 : jp_chkL jcl jZ1 jSR 12 false cX12_kite jo_275 ji_275 = true := by decide +kernel
set_option maxRecDepth 100000 in
theorem jgO_275 : GoodIn lw_tbl jwO_275 := goodIn_r _ [2051, 161, 2049, 2050, 1401, 1450, 1612, 1612, 1450, 1451, 1450, 1452, 1450, 1450, 1450, 1450] rfl (by decide +kernel)
set_option maxRecDepth 100000 in
theorem jn_275 : jp_nws jY RX12 jo_275 ji_275 = ([] : List Nat).filterMap (fun i => jNW[i]?) := rfl
set_option maxRecDepth 100000 in
theorem jc_276 : jp_chkL jcl jZ1 jSR 12 false cX12_isOverOne jo_276 ji_276 = true := by decide +kernel
set_option maxRecDepth 100000 in
theorem jgO_276 : GoodIn lw_tbl jwO_276 := goodIn_r _ [2063, 161, 2062, 133, 1451, 1451, 1452, 1452] rfl (by decide +kernel)
set_option maxRecDepth 100000 in
theorem jn_276 : jp_nws jY RX12 jo_276 ji_276 = ([] : List Nat).filterMap (fun i => jNW[i]?) := rfl
set_option maxRecDepth 100000 in
theorem jc_277 : jp_chkL jcl jZ1 jSR 12 false cX12_layers jo_277 ji_277 = true := by decide +kernel
set_option maxRecDepth 100000 in
theorem jgO_277 : GoodIn lw_tbl jwO_277 := goodIn_r _ [2059, 161, 2058, 132, 1450, 1453, 1450, 1450, 1450, 2060, 1453, 1453, 1453, 2016, 1450, 1453, 2016] rfl (by decide +kernel)
set_option maxRecDepth 100000 in
theorem jn_277 : jp_nws jY RX12 jo_277 ji_277 = ([] : List Nat).filterMap (fun i => jNW[i]?) := rfl
set_option maxRecDepth 100000 in
theorem jc_278 : jp_chkL jcl jZ1 jSR 12 false cX12_strings jo_278 ji_278 = true := by decide +kernel
set_option maxRecDepth 100000 in
theorem jgO_278 : GoodIn lw_tbl jwO_278 := goodIn_r _ [2055, 161, 2053, 2054, 1401, 1612, 2056, 1450, 1450, 2060] rfl (by decide +kernel)
set_option maxRecDepth 100000 in
theorem jn_278 : jp_nws jY RX12 jo_278 ji_278 = ([] : List Nat).filterMap (fun i => jNW[i]?) := rfl
set_option maxRecDepth 100000 in
theorem jc_279 : jp_chkL jcl jZ1 jSR 12 false cX12_way jo_279 ji_279 = true := by decide +kernel
set_option maxRecDepth 100000 in
theorem jgO_279 : GoodIn lw_tbl jwO_279 := goodIn_r _ [2067, 161, 2065, 2066, 1401, 1612, 1612, 1612, 1454] rfl (by decide +kernel)
set_option maxRecDepth 100000 in
theorem jn_279 : jp_nws jY RX12 jo_279 ji_279 = ([] : List Nat).filterMap (fun i => jNW[i]?) := rfl
