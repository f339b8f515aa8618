set_option maxRecDepth 100000 in
theorem jc_200 : jp_chkL jcl jZ1 jSR 12 false cX12_emits jo_200 ji_200 = true := by decide +kernel
set_option maxRecDepth 100000 in
theorem jgO_200 : GoodIn lw_tbl jwO_200 := goodIn_r _ [1759, 161, 1758, 79, 1425, 1428, 1426, 1428, 1428, 1428] rfl (by decide +kernel)
set_option maxRecDepth 100000 in
theorem jn_200 : jp_nws jY RX12 jo_200 ji_200 = ([] : List Nat).filterMap (fun i => jNW[i]?) := rfl
set_option maxRecDepth 100000 in
theorem jc_201 : jp_chkL jcl jZ1 jSR 12 false cX12_canAsk jo_201 ji_201 = true := by decide +kernel
set_option maxRecDepth 100000 in
theorem jgO_201 : GoodIn lw_tbl jwO_201 := goodIn_r _ [1755, 161, 1754, 78, 1612] rfl (by decide +kernel)
set_option maxRecDepth 100000 in
theorem jn_201 : jp_nws jY RX12 jo_201 ji_201 = ([] : List Nat).filterMap (fun i => jNW[i]?) := rfl
set_option maxRecDepth 100000 in
theorem jc_202 : jp_chkL jcl jZ1 jSR 12 false cX12_readUnit jo_202 ji_202 = true := by decide +kernel
set_option maxRecDepth 100000 in
theorem jgO_202 : GoodIn lw_tbl jwO_202 := goodIn_r _ [1751, 161, 1750, 77, 1417, 1418, 1752, 1417, 1688, 1418, 1418, 1756, 1656] rfl (by decide +kernel)
set_option maxRecDepth 100000 in
theorem jn_202 : jp_nws jY RX12 jo_202 ji_202 = ([] : List Nat).filterMap (fun i => jNW[i]?) := rfl
set_option maxRecDepth 100000 in
theorem jc_203 : jp_chkL jcl jZ1 jSR 12 false cX12_readProduct jo_203 ji_203 = true := by decide +kernel
set_option maxRecDepth 100000 in
theorem jgO_203 : GoodIn lw_tbl jwO_203 := goodIn_r _ [1747, 161, 1746, 76, 1748, 1712, 1712, 1712, 1656, 1417, 1688, 1418, 1688, 1748, 1756] rfl (by decide +kernel)
set_option maxRecDepth 100000 in
theorem jn_203 : jp_nws jY RX12 jo_203 ji_203 = ([] : List Nat).filterMap (fun i => jNW[i]?) := rfl
set_option maxRecDepth 100000 in
theorem jc_204 : jp_chkL jcl jZ1 jSR 12 false cX12_readSum jo_204 ji_204 = true := by decide +kernel
set_option maxRecDepth 100000 in
theorem jgO_204 : GoodIn lw_tbl jwO_204 := goodIn_r _ [1743, 161, 1742, 75, 1744, 1712, 1712, 1418, 1656, 1744, 1756] rfl (by decide +kernel)
set_option maxRecDepth 100000 in
theorem jn_204 : jp_nws jY RX12 jo_204 ji_204 = ([] : List Nat).filterMap (fun i => jNW[i]?) := rfl
set_option maxRecDepth 100000 in
theorem jc_205 : jp_chkL jcl jZ1 jSR 12 false cX12_readCompared jo_205 ji_205 = true := by decide +kernel
set_option maxRecDepth 100000 in
theorem jgO_205 : GoodIn lw_tbl jwO_205 := goodIn_r _ [1771, 161, 1770, 82, 1740, 1712, 1712, 1712, 1688, 1418, 1418, 1656, 1740, 1756] rfl (by decide +kernel)
set_option maxRecDepth 100000 in
theorem jn_205 : jp_nws jY RX12 jo_205 ji_205 = ([] : List Nat).filterMap (fun i => jNW[i]?) := rfl
set_option maxRecDepth 100000 in
theorem jc_206 : jp_chkL jcl jZ1 jSR 12 false cX12_waits jo_206 ji_206 = true := by decide +kernel
set_option maxRecDepth 100000 in
theorem jgO_206 : GoodIn lw_tbl jwO_206 := goodIn_r _ [1767, 161, 1766, 81, 1430, 1431, 1431, 1431] rfl (by decide +kernel)
set_option maxRecDepth 100000 in
theorem jn_206 : jp_nws jY RX12 jo_206 ji_206 = ([] : List Nat).filterMap (fun i => jNW[i]?) := rfl
set_option maxRecDepth 100000 in
theorem jc_207 : jp_chkL jcl jZ1 jSR 12 false cX12_settles jo_207 ji_207 = true := by decide +kernel
set_option maxRecDepth 100000 in
theorem jgO_207 : GoodIn lw_tbl jwO_207 := goodIn_r _ [1775, 161, 1774, 83, 1431, 1430, 1431, 1431, 1431, 1756, 1429, 1429] rfl (by decide +kernel)
set_option maxRecDepth 100000 in
theorem jn_207 : jp_nws jY RX12 jo_207 ji_207 = ([] : List Nat).filterMap (fun i => jNW[i]?) := rfl
set_option maxRecDepth 100000 in
theorem jcd_208_0 : ((jo_208.drop 0).take 30).all (fun o => jp_dec cX12_readAny o.1 o.2.1) = true := by decide +kernel
set_option maxRecDepth 100000 in
theorem jcd_208_1 : ((jo_208.drop 30).take 30).all (fun o => jp_dec cX12_readAny o.1 o.2.1) = true := by decide +kernel
set_option maxRecDepth 100000 in
theorem jcd_208_2 : ((jo_208.drop 60).take 30).all (fun o => jp_dec cX12_readAny o.1 o.2.1) = true := by decide +kernel
set_option maxRecDepth 100000 in
theorem jcd_208_3 : ((jo_208.drop 90).take 30).all (fun o => jp_dec cX12_readAny o.1 o.2.1) = true := by decide +kernel
set_option maxRecDepth 100000 in
theorem jcd_208_4 : ((jo_208.drop 120).take 30).all (fun o => jp_dec cX12_readAny o.1 o.2.1) = true := by decide +kernel
set_option maxRecDepth 100000 in
theorem jcn_208 : jp_chkN jcl jZ1 jSR 12 false jo_208 ji_208 = true := by decide +kernel
set_option maxRecDepth 100000 in
theorem jc_208 : jp_chkL jcl jZ1 jSR 12 false cX12_readAny jo_208 ji_208 = true := jp_chkN_ok jcn_208 (jp_chunks 30 5 rfl (fun i hi => match i, hi with
  | 0, _ => jcd_208_0
  | 1, _ => jcd_208_1
  | 2, _ => jcd_208_2
  | 3, _ => jcd_208_3
  | 4, _ => jcd_208_4
  | n + 5, h => absurd h (by omega)))
set_option maxRecDepth 100000 in
theorem jgO_208 : GoodIn lw_tbl jwO_208 := goodIn_r _ [1763, 161, 1762, 80, 1431, 1684, 1712, 1429, 1688, 1429, 1429, 1764, 1656, 1768, 1772, 1684, 1772, 1764, 1656, 1684, 1772, 1772, 1764, 1656, 1772, 1772, 1712, 1688, 1431, 1431, 1429, 1429, 1772, 1656] rfl (by decide +kernel)
set_option maxRecDepth 100000 in
theorem jn_208 : jp_nws jY RX12 jo_208 ji_208 = ([] : List Nat).filterMap (fun i => jNW[i]?) := rfl
set_option maxRecDepth 100000 in
theorem jc_209 : jp_chkL jcl jZ1 jSR 12 false cX12_isLineWord jo_209 ji_209 = true := by decide +kernel
set_option maxRecDepth 100000 in
theorem jgO_209 : GoodIn lw_tbl jwO_209 := goodIn_r _ [1739, 161, 1738, 74, 1417, 1418, 1612] rfl (by decide +kernel)
set_option maxRecDepth 100000 in
theorem jn_209 : jp_nws jY RX12 jo_209 ji_209 = ([] : List Nat).filterMap (fun i => jNW[i]?) := rfl
set_option maxRecDepth 100000 in
theorem jc_210 : jp_chkL jcl jZ1 jSR 12 false cX12_readLaw jo_210 ji_210 = true := by decide +kernel
set_option maxRecDepth 100000 in
theorem jgO_210 : GoodIn lw_tbl jwO_210 := goodIn_r _ [1735, 161, 1734, 73, 1736, 1688, 1421, 1418, 1656, 1422, 1428, 1740, 1423, 1428, 1684, 1656, 1760, 1424, 1428, 1712, 1688, 1656, 1417, 1688] rfl (by decide +kernel)
set_option maxRecDepth 100000 in
theorem jn_210 : jp_nws jY RX12 jo_210 ji_210 = ([] : List Nat).filterMap (fun i => jNW[i]?) := rfl
set_option maxRecDepth 100000 in
theorem jcd_211_0 : ((jo_211.drop 0).take 30).all (fun o => jp_dec cX12_takesLaw o.1 o.2.1) = true := by decide +kernel
set_option maxRecDepth 100000 in
theorem jcd_211_1 : ((jo_211.drop 30).take 30).all (fun o => jp_dec cX12_takesLaw o.1 o.2.1) = true := by decide +kernel
set_option maxRecDepth 100000 in
theorem jcd_211_2 : ((jo_211.drop 60).take 30).all (fun o => jp_dec cX12_takesLaw o.1 o.2.1) = true := by decide +kernel
set_option maxRecDepth 100000 in
theorem jcd_211_3 : ((jo_211.drop 90).take 30).all (fun o => jp_dec cX12_takesLaw o.1 o.2.1) = true := by decide +kernel
set_option maxRecDepth 100000 in
theorem jcn_211 : jp_chkN jcl jZ1 jSR 12 false jo_211 ji_211 = true := by decide +kernel
set_option maxRecDepth 100000 in
theorem jc_211 : jp_chkL jcl jZ1 jSR 12 false cX12_takesLaw jo_211 ji_211 = true := jp_chkN_ok jcn_211 (jp_chunks 30 4 rfl (fun i hi => match i, hi with
  | 0, _ => jcd_211_0
  | 1, _ => jcd_211_1
  | 2, _ => jcd_211_2
  | 3, _ => jcd_211_3
  | n + 4, h => absurd h (by omega)))
set_option maxRecDepth 100000 in
theorem jgO_211 : GoodIn lw_tbl jwO_211 := goodIn_r _ [1779, 161, 1778, 84, 1421, 1427, 1421, 1422, 1427, 1422, 1423, 1427, 1423, 1424, 1427, 1424, 1428, 1425, 1427, 1425, 1426, 1427, 1426, 1420, 1427] rfl (by decide +kernel)
set_option maxRecDepth 100000 in
theorem jn_211 : jp_nws jY RX12 jo_211 ji_211 = ([] : List Nat).filterMap (fun i => jNW[i]?) := rfl
set_option maxRecDepth 100000 in
theorem jc_212 : jp_chkL jcl jZ1 jSR 12 false cX12_readNumber jo_212 ji_212 = true := by decide +kernel
set_option maxRecDepth 100000 in
theorem jgO_212 : GoodIn lw_tbl jwO_212 := goodIn_r _ [1703, 161, 1702, 65, 1417, 1688, 1418, 1612, 1688, 1418, 1656] rfl (by decide +kernel)
set_option maxRecDepth 100000 in
theorem jn_212 : jp_nws jY RX12 jo_212 ji_212 = ([] : List Nat).filterMap (fun i => jNW[i]?) := rfl
set_option maxRecDepth 100000 in
theorem jc_213 : jp_chkL jcl jZ1 jSR 12 false cX12_readMark jo_213 ji_213 = true := by decide +kernel
set_option maxRecDepth 100000 in
theorem jgO_213 : GoodIn lw_tbl jwO_213 := goodIn_r _ [1711, 161, 1710, 67, 1712, 1688, 1656] rfl (by decide +kernel)
set_option maxRecDepth 100000 in
theorem jn_213 : jp_nws jY RX12 jo_213 ji_213 = ([] : List Nat).filterMap (fun i => jNW[i]?) := rfl
set_option maxRecDepth 100000 in
theorem jc_214 : jp_chkL jcl jZ1 jSR 12 false cX12_readTold jo_214 ji_214 = true := by decide +kernel
set_option maxRecDepth 100000 in
theorem jgO_214 : GoodIn lw_tbl jwO_214 := goodIn_r _ [1699, 161, 1698, 64, 1684, 1688, 1656, 1700] rfl (by decide +kernel)
set_option maxRecDepth 100000 in
theorem jn_214 : jp_nws jY RX12 jo_214 ji_214 = ([] : List Nat).filterMap (fun i => jNW[i]?) := rfl
set_option maxRecDepth 100000 in
theorem jc_215 : jp_chkL jcl jZ1 jSR 12 false cX12_readAir jo_215 ji_215 = true := by decide +kernel
set_option maxRecDepth 100000 in
theorem jgO_215 : GoodIn lw_tbl jwO_215 := goodIn_r _ [1707, 161, 1706, 66, 1437, 1696, 1437, 1437, 1700, 1437, 1437, 1437, 1700, 1437] rfl (by decide +kernel)
set_option maxRecDepth 100000 in
theorem jn_215 : jp_nws jY RX12 jo_215 ji_215 = ([] : List Nat).filterMap (fun i => jNW[i]?) := rfl
set_option maxRecDepth 100000 in
theorem jcd_216_0 : ((jo_216.drop 0).take 30).all (fun o => jp_dec cX12_readPetition o.1 o.2.1) = true := by decide +kernel
set_option maxRecDepth 100000 in
theorem jcd_216_1 : ((jo_216.drop 30).take 30).all (fun o => jp_dec cX12_readPetition o.1 o.2.1) = true := by decide +kernel
set_option maxRecDepth 100000 in
theorem jcd_216_2 : ((jo_216.drop 60).take 30).all (fun o => jp_dec cX12_readPetition o.1 o.2.1) = true := by decide +kernel
set_option maxRecDepth 100000 in
theorem jcd_216_3 : ((jo_216.drop 90).take 30).all (fun o => jp_dec cX12_readPetition o.1 o.2.1) = true := by decide +kernel
set_option maxRecDepth 100000 in
theorem jcn_216 : jp_chkN jcl jZ1 jSR 12 false jo_216 ji_216 = true := by decide +kernel
set_option maxRecDepth 100000 in
theorem jc_216 : jp_chkL jcl jZ1 jSR 12 false cX12_readPetition jo_216 ji_216 = true := jp_chkN_ok jcn_216 (jp_chunks 30 4 rfl (fun i hi => match i, hi with
  | 0, _ => jcd_216_0
  | 1, _ => jcd_216_1
  | 2, _ => jcd_216_2
  | 3, _ => jcd_216_3
  | n + 4, h => absurd h (by omega)))
set_option maxRecDepth 100000 in
theorem jgO_216 : GoodIn lw_tbl jwO_216 := goodIn_r _ [1695, 161, 1694, 63, 1437, 1696, 1437, 1437, 1407, 1696, 1437, 1417, 1418, 1612, 1688, 1437, 1418, 1656, 1704, 1437, 1696, 1437, 1708] rfl (by decide +kernel)
set_option maxRecDepth 100000 in
theorem jn_216 : jp_nws jY RX12 jo_216 ji_216 = ([] : List Nat).filterMap (fun i => jNW[i]?) := rfl
set_option maxRecDepth 100000 in
theorem jc_217 : jp_chkL jcl jZ1 jSR 12 false cX12_readPetitions jo_217 ji_217 = true := by decide +kernel
set_option maxRecDepth 100000 in
theorem jgO_217 : GoodIn lw_tbl jwO_217 := goodIn_r _ [1683, 161, 1682, 60, 1684, 1688, 1692, 1417, 1688] rfl (by decide +kernel)
set_option maxRecDepth 100000 in
theorem jn_217 : jp_nws jY RX12 jo_217 ji_217 = ([] : List Nat).filterMap (fun i => jNW[i]?) := rfl
set_option maxRecDepth 100000 in
theorem jc_218 : jp_chkL jcl jZ1 jSR 12 false cX12_readTurn jo_218 ji_218 = true := by decide +kernel
set_option maxRecDepth 100000 in
theorem jgO_218 : GoodIn lw_tbl jwO_218 := goodIn_r _ [1723, 161, 1722, 70, 1696, 1408, 1696, 1439, 1708] rfl (by decide +kernel)
set_option maxRecDepth 100000 in
theorem jn_218 : jp_nws jY RX12 jo_218 ji_218 = ([] : List Nat).filterMap (fun i => jNW[i]?) := rfl
set_option maxRecDepth 100000 in
theorem jc_219 : jp_chkL jcl jZ1 jSR 12 false cX12_readLease jo_219 ji_219 = true := by decide +kernel
set_option maxRecDepth 100000 in
theorem jgO_219 : GoodIn lw_tbl jwO_219 := goodIn_r _ [1719, 161, 1718, 69, 1439, 1684, 1688, 1720, 1417, 1688] rfl (by decide +kernel)
set_option maxRecDepth 100000 in
theorem jn_219 : jp_nws jY RX12 jo_219 ji_219 = ([] : List Nat).filterMap (fun i => jNW[i]?) := rfl
set_option maxRecDepth 100000 in
theorem jc_220 : jp_chkL jcl jZ1 jSR 12 false cX12_readCite jo_220 ji_220 = true := by decide +kernel
set_option maxRecDepth 100000 in
theorem jgO_220 : GoodIn lw_tbl jwO_220 := goodIn_r _ [1731, 161, 1730, 72, 1696, 1684, 1688, 1656, 1417, 1418, 1688, 1700, 1441, 1441, 1708] rfl (by decide +kernel)
set_option maxRecDepth 100000 in
theorem jn_220 : jp_nws jY RX12 jo_220 ji_220 = ([] : List Nat).filterMap (fun i => jNW[i]?) := rfl
set_option maxRecDepth 100000 in
theorem jc_221 : jp_chkL jcl jZ1 jSR 12 false cX12_readCites jo_221 ji_221 = true := by decide +kernel
set_option maxRecDepth 100000 in
theorem jgO_221 : GoodIn lw_tbl jwO_221 := goodIn_r _ [1727, 161, 1726, 71, 1441, 1684, 1688, 1728, 1417, 1688] rfl (by decide +kernel)
set_option maxRecDepth 100000 in
theorem jn_221 : jp_nws jY RX12 jo_221 ji_221 = ([] : List Nat).filterMap (fun i => jNW[i]?) := rfl
set_option maxRecDepth 100000 in
theorem jc_222 : jp_chkL jcl jZ1 jSR 12 false cX12_readsText jo_222 ji_222 = true := by decide +kernel
set_option maxRecDepth 100000 in
theorem jgO_222 : GoodIn lw_tbl jwO_222 := goodIn_r _ [1655, 161, 1654, 53, 1427, 1656, 1680, 1716, 1724, 1732] rfl (by decide +kernel)
set_option maxRecDepth 100000 in
theorem jn_222 : jp_nws jY RX12 jo_222 ji_222 = ([] : List Nat).filterMap (fun i => jNW[i]?) := rfl
set_option maxRecDepth 100000 in
theorem jc_223 : jp_chkL jcl jZ1 jSR 12 false cX12_takesOther jo_223 ji_223 = true := by decide +kernel
set_option maxRecDepth 100000 in
theorem jgO_223 : GoodIn lw_tbl jwO_223 := goodIn_r _ [1783, 161, 1782, 85, 1441, 1441, 1440, 1437, 1437, 1436, 1439, 1439, 1438, 1404] rfl (by decide +kernel)
set_option maxRecDepth 100000 in
theorem jn_223 : jp_nws jY RX12 jo_223 ji_223 = ([] : List Nat).filterMap (fun i => jNW[i]?) := rfl
set_option maxRecDepth 100000 in
theorem jc_224 : jp_chkL jcl jZ1 jSR 12 false cX12_text jo_224 ji_224 = true := by decide +kernel
set_option maxRecDepth 100000 in
theorem jgO_224 : GoodIn lw_tbl jwO_224 := goodIn_r _ [1651, 161, 1649, 1650, 1401, 1434, 1435, 1415, 1428, 1429, 1612, 1652, 1432, 1434, 1433, 1435, 1414, 1776, 1780] rfl (by decide +kernel)
set_option maxRecDepth 100000 in
theorem jn_224 : jp_nws jY RX12 jo_224 ji_224 = ([] : List Nat).filterMap (fun i => jNW[i]?) := rfl
set_option maxRecDepth 100000 in
theorem jc_225 : jp_chkL jcl jZ1 jSR 12 false cX12_fault jo_225 ji_225 = true := by decide +kernel
set_option maxRecDepth 100000 in
theorem jgO_225 : GoodIn lw_tbl jwO_225 := goodIn_r _ [1787, 161, 1785, 1786, 1401, 1434, 1435] rfl (by decide +kernel)
set_option maxRecDepth 100000 in
theorem jn_225 : jp_nws jY RX12 jo_225 ji_225 = ([] : List Nat).filterMap (fun i => jNW[i]?) := rfl
set_option maxRecDepth 100000 in
theorem jc_226 : jp_chkL jcl jZ1 jSR 12 false cX12_twoOf jo_226 ji_226 = true := by decide +kernel
set_option maxRecDepth 100000 in
theorem jgO_226 : GoodIn lw_tbl jwO_226 := goodIn_r _ [1855, 161, 1854, 101] rfl (by decide +kernel)
set_option maxRecDepth 100000 in
theorem jn_226 : jp_nws jY RX12 jo_226 ji_226 = ([] : List Nat).filterMap (fun i => jNW[i]?) := rfl
set_option maxRecDepth 100000 in
theorem jcd_227_0 : ((jo_227.drop 0).take 30).all (fun o => jp_dec cX12_runs o.1 o.2.1) = true := by decide +kernel
set_option maxRecDepth 100000 in
theorem jcd_227_1 : ((jo_227.drop 30).take 30).all (fun o => jp_dec cX12_runs o.1 o.2.1) = true := by decide +kernel
set_option maxRecDepth 100000 in
theorem jcd_227_2 : ((jo_227.drop 60).take 30).all (fun o => jp_dec cX12_runs o.1 o.2.1) = true := by decide +kernel
set_option maxRecDepth 100000 in
theorem jcd_227_3 : ((jo_227.drop 90).take 30).all (fun o => jp_dec cX12_runs o.1 o.2.1) = true := by decide +kernel
set_option maxRecDepth 100000 in
theorem jcn_227 : jp_chkN jcl jZ1 jSR 12 false jo_227 ji_227 = true := by decide +kernel
set_option maxRecDepth 100000 in
theorem jc_227 : jp_chkL jcl jZ1 jSR 12 false cX12_runs jo_227 ji_227 = true := jp_chkN_ok jcn_227 (jp_chunks 30 4 rfl (fun i hi => match i, hi with
  | 0, _ => jcd_227_0
  | 1, _ => jcd_227_1
  | 2, _ => jcd_227_2
  | 3, _ => jcd_227_3
  | n + 4, h => absurd h (by omega)))
set_option maxRecDepth 100000 in
theorem jgO_227 : GoodIn lw_tbl jwO_227 := goodIn_r _ [1851, 161, 1850, 100, 1425, 1425, 1443, 1425, 1426, 1442, 1426, 1425, 1443, 1443, 1443, 1425, 1443, 1443, 1852, 1443] rfl (by decide +kernel)
set_option maxRecDepth 100000 in
theorem jn_227 : jp_nws jY RX12 jo_227 ji_227 = ([] : List Nat).filterMap (fun i => jNW[i]?) := rfl
set_option maxRecDepth 100000 in
theorem jc_228 : jp_chkL jcl jZ1 jSR 12 false cX12_lineOf jo_228 ji_228 = true := by decide +kernel
set_option maxRecDepth 100000 in
theorem jgO_228 : GoodIn lw_tbl jwO_228 := goodIn_r _ [1847, 161, 1846, 99, 1420, 1421, 1423, 1424, 1423, 1424, 1848] rfl (by decide +kernel)
set_option maxRecDepth 100000 in
theorem jn_228 : jp_nws jY RX12 jo_228 ji_228 = ([] : List Nat).filterMap (fun i => jNW[i]?) := rfl
set_option maxRecDepth 100000 in
theorem jc_229 : jp_chkL jcl jZ1 jSR 12 false cX12_nestsAt jo_229 ji_229 = true := by decide +kernel
set_option maxRecDepth 100000 in
theorem jgO_229 : GoodIn lw_tbl jwO_229 := goodIn_r _ [1831, 161, 1830, 95, 1408, 1402] rfl (by decide +kernel)
set_option maxRecDepth 100000 in
theorem jn_229 : jp_nws jY RX12 jo_229 ji_229 = ([] : List Nat).filterMap (fun i => jNW[i]?) := rfl
set_option maxRecDepth 100000 in
theorem jc_230 : jp_chkL jcl jZ1 jSR 12 false cX12_asks jo_230 ji_230 = true := by decide +kernel
set_option maxRecDepth 100000 in
theorem jgO_230 : GoodIn lw_tbl jwO_230 := goodIn_r _ [1827, 161, 1826, 94, 1442, 1442, 1442, 1442, 1442, 1409, 1442, 1402, 1442, 1828, 1442, 1820, 1442, 1832, 1442, 1402] rfl (by decide +kernel)
set_option maxRecDepth 100000 in
theorem jn_230 : jp_nws jY RX12 jo_230 ji_230 = ([] : List Nat).filterMap (fun i => jNW[i]?) := rfl
set_option maxRecDepth 100000 in
theorem jc_231 : jp_chkL jcl jZ1 jSR 12 false cX12_asksOf jo_231 ji_231 = true := by decide +kernel
set_option maxRecDepth 100000 in
theorem jgO_231 : GoodIn lw_tbl jwO_231 := goodIn_r _ [1933, 161, 1932, 116, 1808, 1402, 1402, 1402, 1402, 1402, 1824] rfl (by decide +kernel)
set_option maxRecDepth 100000 in
theorem jn_231 : jp_nws jY RX12 jo_231 ji_231 = ([] : List Nat).filterMap (fun i => jNW[i]?) := rfl
set_option maxRecDepth 100000 in
theorem jc_232 : jp_chkL jcl jZ1 jSR 12 false cX12_lawTells jo_232 ji_232 = true := by decide +kernel
set_option maxRecDepth 100000 in
theorem jgO_232 : GoodIn lw_tbl jwO_232 := goodIn_r _ [1843, 161, 1842, 98, 1844, 1422, 1423, 1848, 1856] rfl (by decide +kernel)
set_option maxRecDepth 100000 in
theorem jn_232 : jp_nws jY RX12 jo_232 ji_232 = ([] : List Nat).filterMap (fun i => jNW[i]?) := rfl
set_option maxRecDepth 100000 in
theorem jc_233 : jp_chkL jcl jZ1 jSR 12 false cX12_leaveNow jo_233 ji_233 = true := by decide +kernel
set_option maxRecDepth 100000 in
theorem jgO_233 : GoodIn lw_tbl jwO_233 := goodIn_r _ [1839, 161, 1838, 97, 1442, 1442, 1840] rfl (by decide +kernel)
set_option maxRecDepth 100000 in
theorem jn_233 : jp_nws jY RX12 jo_233 ji_233 = ([] : List Nat).filterMap (fun i => jNW[i]?) := rfl
set_option maxRecDepth 100000 in
theorem jc_234 : jp_chkL jcl jZ1 jSR 12 false cX12_rentNow jo_234 ji_234 = true := by decide +kernel
set_option maxRecDepth 100000 in
theorem jgO_234 : GoodIn lw_tbl jwO_234 := goodIn_r _ [1873, 161, 1872, 105, 1442, 1442, 1840] rfl (by decide +kernel)
set_option maxRecDepth 100000 in
theorem jn_234 : jp_nws jY RX12 jo_234 ji_234 = ([] : List Nat).filterMap (fun i => jNW[i]?) := rfl
set_option maxRecDepth 100000 in
theorem jc_235 : jp_chkL jcl jZ1 jSR 12 false cX12_fineNow jo_235 ji_235 = true := by decide +kernel
set_option maxRecDepth 100000 in
theorem jgO_235 : GoodIn lw_tbl jwO_235 := goodIn_r _ [1937, 161, 1936, 117, 1442, 1840] rfl (by decide +kernel)
set_option maxRecDepth 100000 in
theorem jn_235 : jp_nws jY RX12 jo_235 ji_235 = ([] : List Nat).filterMap (fun i => jNW[i]?) := rfl
set_option maxRecDepth 100000 in
theorem jc_236 : jp_chkL jcl jZ1 jSR 12 false cX12_notes jo_236 ji_236 = true := by decide +kernel
set_option maxRecDepth 100000 in
theorem jgO_236 : GoodIn lw_tbl jwO_236 := goodIn_r _ [1869, 161, 1868, 104, 1406, 1402, 1402, 1412, 1402, 1412, 1412, 1412, 1402, 1402] rfl (by decide +kernel)
set_option maxRecDepth 100000 in
theorem jn_236 : jp_nws jY RX12 jo_236 ji_236 = ([] : List Nat).filterMap (fun i => jNW[i]?) := rfl
set_option maxRecDepth 100000 in
theorem jc_237 : jp_chkL jcl jZ1 jSR 12 false cX12_isTold jo_237 ji_237 = true := by decide +kernel
set_option maxRecDepth 100000 in
theorem jgO_237 : GoodIn lw_tbl jwO_237 := goodIn_r _ [1795, 161, 1794, 86, 1632, 1612, 1612, 1612, 1612, 1612] rfl (by decide +kernel)
set_option maxRecDepth 100000 in
theorem jn_237 : jp_nws jY RX12 jo_237 ji_237 = ([] : List Nat).filterMap (fun i => jNW[i]?) := rfl
set_option maxRecDepth 100000 in
theorem jc_238 : jp_chkL jcl jZ1 jSR 12 false cX12_canBe jo_238 ji_238 = true := by decide +kernel
set_option maxRecDepth 100000 in
theorem jgO_238 : GoodIn lw_tbl jwO_238 := goodIn_r _ [1799, 161, 1798, 87, 1800, 1402] rfl (by decide +kernel)
set_option maxRecDepth 100000 in
theorem jn_238 : jp_nws jY RX12 jo_238 ji_238 = ([] : List Nat).filterMap (fun i => jNW[i]?) := rfl
set_option maxRecDepth 100000 in
theorem jc_239 : jp_chkL jcl jZ1 jSR 12 false cX12_pays jo_239 ji_239 = true := by decide +kernel
set_option maxRecDepth 100000 in
theorem jgO_239 : GoodIn lw_tbl jwO_239 := goodIn_r _ [1877, 161, 1876, 106, 1402, 1878, 1402, 1402, 1402, 1402] rfl (by decide +kernel)
set_option maxRecDepth 100000 in
theorem jn_239 : jp_nws jY RX12 jo_239 ji_239 = ([] : List Nat).filterMap (fun i => jNW[i]?) := rfl
