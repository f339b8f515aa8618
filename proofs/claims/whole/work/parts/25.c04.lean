/-! a long method, piece by piece -/
def jp_chkN (cl : List vw_C) (Z1 : Nat → Option jp_I) (SR : List (String × Nat × String)) (oci : Nat) (ini : Bool) : List jp_O → List Nat → Bool
  | [], _ => true
  | _ :: _, [] => false
  | o :: r, i :: is => jp_chkO cl SR oci ini o.2.1 o.2.2.1 o.2.2.2 i && jp_kdc Z1 o.2.1 o.2.2.1 && (match r with
    | [] => true
    | o' :: _ => jp_sl o.2.1 || decide (o'.1 = o.1 + jp_len o.2.1)) && jp_chkN cl Z1 SR oci ini r is
theorem jp_chkN_ok {cl : List vw_C} {Z1 : Nat → Option jp_I} {SR : List (String × Nat × String)} {oci : Nat} {ini : Bool} {bytes : ByteArray} : ∀ {ops : List jp_O} {is : List Nat}, jp_chkN cl Z1 SR oci ini ops is = true → ops.all (fun o => jp_dec bytes o.1 o.2.1) = true → jp_chkL cl Z1 SR oci ini bytes ops is = true
  | [], _, _, _ => rfl
  | o :: r, [], h, _ => by cases h
  | o :: r, i :: is, h, hd => by
    simp only [jp_chkN, Bool.and_eq_true] at h
    obtain ⟨⟨⟨h2, h3⟩, h4⟩, h5⟩ := h
    simp only [List.all_cons, Bool.and_eq_true] at hd
    simp only [jp_chkL, Bool.and_eq_true]
    exact ⟨⟨⟨⟨hd.1, h2⟩, h3⟩, h4⟩, jp_chkN_ok h5 hd.2⟩
theorem jp_chunks {l : List jp_O} {f : jp_O → Bool} (c n : Nat) (hl : decide (l.length ≤ c * n ∧ 0 < c) = true) (h : ∀ i, i < n → ((l.drop (c * i)).take c).all f = true) : l.all f = true := by
  obtain ⟨hl, hc⟩ := of_decide_eq_true hl
  refine List.all_eq_true.mpr fun o ho => ?_
  obtain ⟨j, hj⟩ := List.getElem?_of_mem ho
  have hjl := (List.getElem?_eq_some_iff.mp hj).1
  have hi : j / c < n := Nat.div_lt_of_lt_mul (by omega)
  have hm := List.all_eq_true.mp (h (j / c) hi) o
  refine hm (List.mem_of_getElem? (i := j % c) ?_)
  rw [List.getElem?_take, if_pos (Nat.mod_lt _ hc), List.getElem?_drop, Nat.div_add_mod]
  exact hj
set_option maxRecDepth 100000 in
theorem jc_160 : jp_chkL jcl jZ1 jSR 11 false cX11_forgetKept jo_160 ji_160 = true := by decide +kernel
set_option maxRecDepth 100000 in
theorem jgO_160 : GoodIn lw_tbl jwO_160 := goodIn_r _ [638, 148, 637, 0, 589] rfl (by decide +kernel)
set_option maxRecDepth 100000 in
theorem jn_160 : jp_nws jY RX11 jo_160 ji_160 = ([] : List Nat).filterMap (fun i => jNW[i]?) := rfl
set_option maxRecDepth 100000 in
theorem jc_161 : jp_chkL jcl jZ1 jSR 11 false cX11_tally jo_161 ji_161 = true := by decide +kernel
set_option maxRecDepth 100000 in
theorem jgO_161 : GoodIn lw_tbl jwO_161 := goodIn_r _ [1152, 148, 1151, 32, 585, 360, 197, 585, 360, 208, 585, 360, 1153, 585, 360, 1157] rfl (by decide +kernel)
set_option maxRecDepth 100000 in
theorem jn_161 : jp_nws jY RX11 jo_161 ji_161 = ([] : List Nat).filterMap (fun i => jNW[i]?) := rfl
set_option maxRecDepth 100000 in
theorem jcd_162_0 : ((jo_162.drop 0).take 30).all (fun o => jp_dec cX12_init o.1 o.2.1) = true := by decide +kernel
set_option maxRecDepth 100000 in
theorem jcd_162_1 : ((jo_162.drop 30).take 30).all (fun o => jp_dec cX12_init o.1 o.2.1) = true := by decide +kernel
set_option maxRecDepth 100000 in
theorem jcd_162_2 : ((jo_162.drop 60).take 30).all (fun o => jp_dec cX12_init o.1 o.2.1) = true := by decide +kernel
set_option maxRecDepth 100000 in
theorem jcd_162_3 : ((jo_162.drop 90).take 30).all (fun o => jp_dec cX12_init o.1 o.2.1) = true := by decide +kernel
set_option maxRecDepth 100000 in
theorem jcd_162_4 : ((jo_162.drop 120).take 30).all (fun o => jp_dec cX12_init o.1 o.2.1) = true := by decide +kernel
set_option maxRecDepth 100000 in
theorem jcd_162_5 : ((jo_162.drop 150).take 30).all (fun o => jp_dec cX12_init o.1 o.2.1) = true := by decide +kernel
set_option maxRecDepth 100000 in
theorem jcd_162_6 : ((jo_162.drop 180).take 30).all (fun o => jp_dec cX12_init o.1 o.2.1) = true := by decide +kernel
set_option maxRecDepth 100000 in
theorem jcd_162_7 : ((jo_162.drop 210).take 30).all (fun o => jp_dec cX12_init o.1 o.2.1) = true := by decide +kernel
set_option maxRecDepth 100000 in
theorem jcd_162_8 : ((jo_162.drop 240).take 30).all (fun o => jp_dec cX12_init o.1 o.2.1) = true := by decide +kernel
set_option maxRecDepth 100000 in
theorem jcd_162_9 : ((jo_162.drop 270).take 30).all (fun o => jp_dec cX12_init o.1 o.2.1) = true := by decide +kernel
set_option maxRecDepth 100000 in
theorem jcd_162_10 : ((jo_162.drop 300).take 30).all (fun o => jp_dec cX12_init o.1 o.2.1) = true := by decide +kernel
set_option maxRecDepth 100000 in
theorem jcd_162_11 : ((jo_162.drop 330).take 30).all (fun o => jp_dec cX12_init o.1 o.2.1) = true := by decide +kernel
set_option maxRecDepth 100000 in
theorem jcd_162_12 : ((jo_162.drop 360).take 30).all (fun o => jp_dec cX12_init o.1 o.2.1) = true := by decide +kernel
set_option maxRecDepth 100000 in
theorem jcd_162_13 : ((jo_162.drop 390).take 30).all (fun o => jp_dec cX12_init o.1 o.2.1) = true := by decide +kernel
set_option maxRecDepth 100000 in
theorem jcd_162_14 : ((jo_162.drop 420).take 30).all (fun o => jp_dec cX12_init o.1 o.2.1) = true := by decide +kernel
set_option maxRecDepth 100000 in
theorem jcd_162_15 : ((jo_162.drop 450).take 30).all (fun o => jp_dec cX12_init o.1 o.2.1) = true := by decide +kernel
set_option maxRecDepth 100000 in
theorem jcd_162_16 : ((jo_162.drop 480).take 30).all (fun o => jp_dec cX12_init o.1 o.2.1) = true := by decide +kernel
set_option maxRecDepth 100000 in
theorem jcd_162_17 : ((jo_162.drop 510).take 30).all (fun o => jp_dec cX12_init o.1 o.2.1) = true := by decide +kernel
set_option maxRecDepth 100000 in
theorem jcd_162_18 : ((jo_162.drop 540).take 30).all (fun o => jp_dec cX12_init o.1 o.2.1) = true := by decide +kernel
set_option maxRecDepth 100000 in
theorem jcd_162_19 : ((jo_162.drop 570).take 30).all (fun o => jp_dec cX12_init o.1 o.2.1) = true := by decide +kernel
set_option maxRecDepth 100000 in
theorem jcd_162_20 : ((jo_162.drop 600).take 30).all (fun o => jp_dec cX12_init o.1 o.2.1) = true := by decide +kernel
set_option maxRecDepth 100000 in
theorem jcd_162_21 : ((jo_162.drop 630).take 30).all (fun o => jp_dec cX12_init o.1 o.2.1) = true := by decide +kernel
set_option maxRecDepth 100000 in
theorem jcd_162_22 : ((jo_162.drop 660).take 30).all (fun o => jp_dec cX12_init o.1 o.2.1) = true := by decide +kernel
set_option maxRecDepth 100000 in
theorem jcd_162_23 : ((jo_162.drop 690).take 30).all (fun o => jp_dec cX12_init o.1 o.2.1) = true := by decide +kernel
set_option maxRecDepth 100000 in
theorem jcd_162_24 : ((jo_162.drop 720).take 30).all (fun o => jp_dec cX12_init o.1 o.2.1) = true := by decide +kernel
set_option maxRecDepth 100000 in
theorem jcd_162_25 : ((jo_162.drop 750).take 30).all (fun o => jp_dec cX12_init o.1 o.2.1) = true := by decide +kernel
set_option maxRecDepth 100000 in
theorem jcd_162_26 : ((jo_162.drop 780).take 30).all (fun o => jp_dec cX12_init o.1 o.2.1) = true := by decide +kernel
set_option maxRecDepth 100000 in
theorem jcd_162_27 : ((jo_162.drop 810).take 30).all (fun o => jp_dec cX12_init o.1 o.2.1) = true := by decide +kernel
set_option maxRecDepth 100000 in
theorem jcn_162 : jp_chkN jcl jZ1 jSR 12 true jo_162 ji_162 = true := by decide +kernel
set_option maxRecDepth 100000 in
theorem jc_162 : jp_chkL jcl jZ1 jSR 12 true cX12_init jo_162 ji_162 = true := jp_chkN_ok jcn_162 (jp_chunks 30 28 rfl (fun i hi => match i, hi with
  | 0, _ => jcd_162_0
  | 1, _ => jcd_162_1
  | 2, _ => jcd_162_2
  | 3, _ => jcd_162_3
  | 4, _ => jcd_162_4
  | 5, _ => jcd_162_5
  | 6, _ => jcd_162_6
  | 7, _ => jcd_162_7
  | 8, _ => jcd_162_8
  | 9, _ => jcd_162_9
  | 10, _ => jcd_162_10
  | 11, _ => jcd_162_11
  | 12, _ => jcd_162_12
  | 13, _ => jcd_162_13
  | 14, _ => jcd_162_14
  | 15, _ => jcd_162_15
  | 16, _ => jcd_162_16
  | 17, _ => jcd_162_17
  | 18, _ => jcd_162_18
  | 19, _ => jcd_162_19
  | 20, _ => jcd_162_20
  | 21, _ => jcd_162_21
  | 22, _ => jcd_162_22
  | 23, _ => jcd_162_23
  | 24, _ => jcd_162_24
  | 25, _ => jcd_162_25
  | 26, _ => jcd_162_26
  | 27, _ => jcd_162_27
  | n + 28, h => absurd h (by omega)))
set_option maxRecDepth 100000 in
theorem jgO_162 : GoodIn lw_tbl jwO_162 := goodIn_r _ [1399, 161, 1398, 1400, 247, 1402, 247, 1403, 247, 1405, 247, 1409, 247, 1410, 247, 1411, 247, 1412, 247, 1413, 247, 1419, 247, 1420, 247, 1421, 247, 1422, 247, 1423, 247, 1424, 247, 1425, 247, 1426, 247, 1430, 1435, 247, 1437, 247, 1439, 247, 1441, 247, 1442, 247, 1443, 247, 1444, 247, 1445, 247, 1447, 247, 1448, 247, 1449, 247, 1451, 247, 1452, 247, 1453, 247, 1454, 247, 1455, 247, 1456, 247, 1458, 247, 1459, 247, 1460, 247, 1461, 247, 1462, 247, 1466] rfl (by decide +kernel)
set_option maxRecDepth 100000 in
theorem jn_162 : jp_nws jY RX12 jo_162 ji_162 = ([] : List Nat).filterMap (fun i => jNW[i]?) := rfl
set_option maxRecDepth 100000 in
theorem jc_163 : jp_chkL jcl jZ1 jSR 12 false cX12_isIn jo_163 ji_163 = true := by decide +kernel
set_option maxRecDepth 100000 in
theorem jgO_163 : GoodIn lw_tbl jwO_163 := goodIn_r _ [1615, 161, 1614, 48] rfl (by decide +kernel)
set_option maxRecDepth 100000 in
theorem jn_163 : jp_nws jY RX12 jo_163 ji_163 = ([] : List Nat).filterMap (fun i => jNW[i]?) := rfl
set_option maxRecDepth 100000 in
theorem jc_164 : jp_chkL jcl jZ1 jSR 12 false cX12_held jo_164 ji_164 = true := by decide +kernel
set_option maxRecDepth 100000 in
theorem jgO_164 : GoodIn lw_tbl jwO_164 := goodIn_r _ [1859, 161, 1858, 102] rfl (by decide +kernel)
set_option maxRecDepth 100000 in
theorem jn_164 : jp_nws jY RX12 jo_164 ji_164 = ([] : List Nat).filterMap (fun i => jNW[i]?) := rfl
set_option maxRecDepth 100000 in
theorem jc_165 : jp_chkL jcl jZ1 jSR 12 false cX12_greater jo_165 ji_165 = true := by decide +kernel
set_option maxRecDepth 100000 in
theorem jgO_165 : GoodIn lw_tbl jwO_165 := goodIn_r _ [2019, 161, 2018, 128] rfl (by decide +kernel)
set_option maxRecDepth 100000 in
theorem jn_165 : jp_nws jY RX12 jo_165 ji_165 = ([] : List Nat).filterMap (fun i => jNW[i]?) := rfl
set_option maxRecDepth 100000 in
theorem jc_166 : jp_chkL jcl jZ1 jSR 12 false cX12_lesser jo_166 ji_166 = true := by decide +kernel
set_option maxRecDepth 100000 in
theorem jgO_166 : GoodIn lw_tbl jwO_166 := goodIn_r _ [1881, 161, 1880, 107] rfl (by decide +kernel)
set_option maxRecDepth 100000 in
theorem jn_166 : jp_nws jY RX12 jo_166 ji_166 = ([] : List Nat).filterMap (fun i => jNW[i]?) := rfl
set_option maxRecDepth 100000 in
theorem jc_167 : jp_chkL jcl jZ1 jSR 12 false cX12_apart jo_167 ji_167 = true := by decide +kernel
set_option maxRecDepth 100000 in
theorem jgO_167 : GoodIn lw_tbl jwO_167 := goodIn_r _ [1929, 161, 1928, 115] rfl (by decide +kernel)
set_option maxRecDepth 100000 in
theorem jn_167 : jp_nws jY RX12 jo_167 ji_167 = ([] : List Nat).filterMap (fun i => jNW[i]?) := rfl
set_option maxRecDepth 100000 in
theorem jc_168 : jp_chkL jcl jZ1 jSR 12 false cX12_added jo_168 ji_168 = true := by decide +kernel
set_option maxRecDepth 100000 in
theorem jgO_168 : GoodIn lw_tbl jwO_168 := goodIn_r _ [2006, 161, 2005, 126, 2007, 2007] rfl (by decide +kernel)
set_option maxRecDepth 100000 in
theorem jn_168 : jp_nws jY RX12 jo_168 ji_168 = ([] : List Nat).filterMap (fun i => jNW[i]?) := rfl
set_option maxRecDepth 100000 in
theorem jc_169 : jp_chkL jcl jZ1 jSR 12 false cX12_onesOf jo_169 ji_169 = true := by decide +kernel
set_option maxRecDepth 100000 in
theorem jgO_169 : GoodIn lw_tbl jwO_169 := goodIn_r _ [2079, 161, 2078, 135] rfl (by decide +kernel)
set_option maxRecDepth 100000 in
theorem jn_169 : jp_nws jY RX12 jo_169 ji_169 = ([] : List Nat).filterMap (fun i => jNW[i]?) := rfl
set_option maxRecDepth 100000 in
theorem jc_170 : jp_chkL jcl jZ1 jSR 12 false cX12_has jo_170 ji_170 = true := by decide +kernel
set_option maxRecDepth 100000 in
theorem jgO_170 : GoodIn lw_tbl jwO_170 := goodIn_r _ [2043, 161, 2042, 130] rfl (by decide +kernel)
set_option maxRecDepth 100000 in
theorem jn_170 : jp_nws jY RX12 jo_170 ji_170 = ([] : List Nat).filterMap (fun i => jNW[i]?) := rfl
set_option maxRecDepth 100000 in
theorem jc_171 : jp_chkL jcl jZ1 jSR 12 false cX12_keepsAhead jo_171 ji_171 = true := by decide +kernel
set_option maxRecDepth 100000 in
theorem jgO_171 : GoodIn lw_tbl jwO_171 := goodIn_r _ [1815, 161, 1814, 91, 1404, 1404, 1404, 1404, 1403, 1403, 1403, 1404, 1402, 1404, 1404] rfl (by decide +kernel)
set_option maxRecDepth 100000 in
theorem jn_171 : jp_nws jY RX12 jo_171 ji_171 = ([] : List Nat).filterMap (fun i => jNW[i]?) := rfl
set_option maxRecDepth 100000 in
theorem jc_172 : jp_chkL jcl jZ1 jSR 12 false cX12_undo jo_172 ji_172 = true := by decide +kernel
set_option maxRecDepth 100000 in
theorem jgO_172 : GoodIn lw_tbl jwO_172 := goodIn_r _ [1603, 161, 1601, 1602, 1401, 1404, 1404, 1404, 1402, 1403, 1404] rfl (by decide +kernel)
set_option maxRecDepth 100000 in
theorem jn_172 : jp_nws jY RX12 jo_172 ji_172 = ([] : List Nat).filterMap (fun i => jNW[i]?) := rfl
set_option maxRecDepth 100000 in
theorem jc_173 : jp_chkL jcl jZ1 jSR 12 false cX12_thinks jo_173 ji_173 = true := by decide +kernel
set_option maxRecDepth 100000 in
theorem jgO_173 : GoodIn lw_tbl jwO_173 := goodIn_r _ [1973, 161, 1972, 119, 1405, 1402, 1406] rfl (by decide +kernel)
set_option maxRecDepth 100000 in
theorem jn_173 : jp_nws jY RX12 jo_173 ji_173 = ([] : List Nat).filterMap (fun i => jNW[i]?) := rfl
set_option maxRecDepth 100000 in
theorem jc_174 : jp_chkL jcl jZ1 jSR 12 false cX12_endsThought jo_174 ji_174 = true := by decide +kernel
set_option maxRecDepth 100000 in
theorem jgO_174 : GoodIn lw_tbl jwO_174 := goodIn_r _ [1977, 161, 1976, 120, 1402, 1405, 1406] rfl (by decide +kernel)
set_option maxRecDepth 100000 in
theorem jn_174 : jp_nws jY RX12 jo_174 ji_174 = ([] : List Nat).filterMap (fun i => jNW[i]?) := rfl
set_option maxRecDepth 100000 in
theorem jc_175 : jp_chkL jcl jZ1 jSR 12 false cX12_state jo_175 ji_175 = true := by decide +kernel
set_option maxRecDepth 100000 in
theorem jgO_175 : GoodIn lw_tbl jwO_175 := goodIn_r _ [1607, 161, 1605, 1606, 1401, 1402, 1402, 1404] rfl (by decide +kernel)
set_option maxRecDepth 100000 in
theorem jn_175 : jp_nws jY RX12 jo_175 ji_175 = ([] : List Nat).filterMap (fun i => jNW[i]?) := rfl
set_option maxRecDepth 100000 in
theorem jc_176 : jp_chkL jcl jZ1 jSR 12 false cX12_draw jo_176 ji_176 = true := by decide +kernel
set_option maxRecDepth 100000 in
theorem jgO_176 : GoodIn lw_tbl jwO_176 := goodIn_r _ [1863, 161, 1862, 103, 1402, 1864, 1402, 1865, 1402] rfl (by decide +kernel)
set_option maxRecDepth 100000 in
theorem jn_176 : jp_nws jY RX12 jo_176 ji_176 = ([] : List Nat).filterMap (fun i => jNW[i]?) := rfl
set_option maxRecDepth 100000 in
theorem jc_177 : jp_chkL jcl jZ1 jSR 12 false cX12_isPerson jo_177 ji_177 = true := by decide +kernel
set_option maxRecDepth 100000 in
theorem jgO_177 : GoodIn lw_tbl jwO_177 := goodIn_r _ [1635, 161, 1634, 51, 1407] rfl (by decide +kernel)
set_option maxRecDepth 100000 in
theorem jn_177 : jp_nws jY RX12 jo_177 ji_177 = ([] : List Nat).filterMap (fun i => jNW[i]?) := rfl
set_option maxRecDepth 100000 in
theorem jc_178 : jp_chkL jcl jZ1 jSR 12 false cX12_isBird jo_178 ji_178 = true := by decide +kernel
set_option maxRecDepth 100000 in
theorem jgO_178 : GoodIn lw_tbl jwO_178 := goodIn_r _ [1631, 161, 1630, 50, 1408] rfl (by decide +kernel)
set_option maxRecDepth 100000 in
theorem jn_178 : jp_nws jY RX12 jo_178 ji_178 = ([] : List Nat).filterMap (fun i => jNW[i]?) := rfl
set_option maxRecDepth 100000 in
theorem jc_179 : jp_chkL jcl jZ1 jSR 12 false cX12_isSummer jo_179 ji_179 = true := by decide +kernel
set_option maxRecDepth 100000 in
theorem jgO_179 : GoodIn lw_tbl jwO_179 := goodIn_r _ [1823, 161, 1822, 93, 1402, 1612] rfl (by decide +kernel)
set_option maxRecDepth 100000 in
theorem jn_179 : jp_nws jY RX12 jo_179 ji_179 = ([] : List Nat).filterMap (fun i => jNW[i]?) := rfl
set_option maxRecDepth 100000 in
theorem jc_180 : jp_chkL jcl jZ1 jSR 12 false cX12_useAt jo_180 ji_180 = true := by decide +kernel
set_option maxRecDepth 100000 in
theorem jgO_180 : GoodIn lw_tbl jwO_180 := goodIn_r _ [1811, 161, 1810, 90] rfl (by decide +kernel)
set_option maxRecDepth 100000 in
theorem jn_180 : jp_nws jY RX12 jo_180 ji_180 = ([] : List Nat).filterMap (fun i => jNW[i]?) := rfl
set_option maxRecDepth 100000 in
theorem jc_181 : jp_chkL jcl jZ1 jSR 12 false cX12_useOf jo_181 ji_181 = true := by decide +kernel
set_option maxRecDepth 100000 in
theorem jgO_181 : GoodIn lw_tbl jwO_181 := goodIn_r _ [1807, 161, 1806, 89, 1402, 1808, 1402, 1402, 1402, 1612] rfl (by decide +kernel)
set_option maxRecDepth 100000 in
theorem jn_181 : jp_nws jY RX12 jo_181 ji_181 = ([] : List Nat).filterMap (fun i => jNW[i]?) := rfl
set_option maxRecDepth 100000 in
theorem jc_182 : jp_chkL jcl jZ1 jSR 12 false cX12_isFree jo_182 ji_182 = true := by decide +kernel
set_option maxRecDepth 100000 in
theorem jgO_182 : GoodIn lw_tbl jwO_182 := goodIn_r _ [1803, 161, 1802, 88, 1804] rfl (by decide +kernel)
set_option maxRecDepth 100000 in
theorem jn_182 : jp_nws jY RX12 jo_182 ji_182 = ([] : List Nat).filterMap (fun i => jNW[i]?) := rfl
set_option maxRecDepth 100000 in
theorem jc_183 : jp_chkL jcl jZ1 jSR 12 false cX12_usedCells jo_183 ji_183 = true := by decide +kernel
set_option maxRecDepth 100000 in
theorem jgO_183 : GoodIn lw_tbl jwO_183 := goodIn_r _ [1835, 161, 1834, 96, 1402, 1402, 1808, 1402, 1808] rfl (by decide +kernel)
set_option maxRecDepth 100000 in
theorem jn_183 : jp_nws jY RX12 jo_183 ji_183 = ([] : List Nat).filterMap (fun i => jNW[i]?) := rfl
set_option maxRecDepth 100000 in
theorem jc_184 : jp_chkL jcl jZ1 jSR 12 false cX12_person jo_184 ji_184 = true := by decide +kernel
set_option maxRecDepth 100000 in
theorem jgO_184 : GoodIn lw_tbl jwO_184 := goodIn_r _ [1611, 161, 1609, 1610, 1401, 1612, 1612, 1612, 1407, 1409, 1407, 1410, 1407, 1402, 1407, 1402, 1407, 1402, 1407, 1407, 1407, 1404, 1407] rfl (by decide +kernel)
set_option maxRecDepth 100000 in
theorem jn_184 : jp_nws jY RX12 jo_184 ji_184 = ([] : List Nat).filterMap (fun i => jNW[i]?) := rfl
set_option maxRecDepth 100000 in
theorem jc_185 : jp_chkL jcl jZ1 jSR 12 false cX12_swallow jo_185 ji_185 = true := by decide +kernel
set_option maxRecDepth 100000 in
theorem jgO_185 : GoodIn lw_tbl jwO_185 := goodIn_r _ [1619, 161, 1617, 1618, 1401, 1612, 1612, 1408, 1402, 1408, 1402, 1408, 1411, 1408, 1408, 1408, 1404, 1408] rfl (by decide +kernel)
set_option maxRecDepth 100000 in
theorem jn_185 : jp_nws jY RX12 jo_185 ji_185 = ([] : List Nat).filterMap (fun i => jNW[i]?) := rfl
set_option maxRecDepth 100000 in
theorem jc_186 : jp_chkL jcl jZ1 jSR 12 false cX12_canSet jo_186 ji_186 = true := by decide +kernel
set_option maxRecDepth 100000 in
theorem jgO_186 : GoodIn lw_tbl jwO_186 := goodIn_r _ [1627, 161, 1626, 49, 1612, 1628, 1612, 1612, 1632, 1612] rfl (by decide +kernel)
set_option maxRecDepth 100000 in
theorem jn_186 : jp_nws jY RX12 jo_186 ji_186 = ([] : List Nat).filterMap (fun i => jNW[i]?) := rfl
set_option maxRecDepth 100000 in
theorem jc_187 : jp_chkL jcl jZ1 jSR 12 false cX12_set jo_187 ji_187 = true := by decide +kernel
set_option maxRecDepth 100000 in
theorem jgO_187 : GoodIn lw_tbl jwO_187 := goodIn_r _ [1623, 161, 1621, 1622, 1401, 1624, 1409, 1402, 1410, 1402, 1411, 1402, 1404] rfl (by decide +kernel)
set_option maxRecDepth 100000 in
theorem jn_187 : jp_nws jY RX12 jo_187 ji_187 = ([] : List Nat).filterMap (fun i => jNW[i]?) := rfl
set_option maxRecDepth 100000 in
theorem jc_188 : jp_chkL jcl jZ1 jSR 12 false cX12_types jo_188 ji_188 = true := by decide +kernel
set_option maxRecDepth 100000 in
theorem jgO_188 : GoodIn lw_tbl jwO_188 := goodIn_r _ [1643, 161, 1642, 52, 1413, 1414, 1414, 1414] rfl (by decide +kernel)
set_option maxRecDepth 100000 in
theorem jn_188 : jp_nws jY RX12 jo_188 ji_188 = ([] : List Nat).filterMap (fun i => jNW[i]?) := rfl
set_option maxRecDepth 100000 in
theorem jc_189 : jp_chkL jcl jZ1 jSR 12 false cX12_feed jo_189 ji_189 = true := by decide +kernel
set_option maxRecDepth 100000 in
theorem jgO_189 : GoodIn lw_tbl jwO_189 := goodIn_r _ [1639, 161, 1637, 1638, 1401, 1414, 1640, 1640, 1640, 1640, 1640, 1414] rfl (by decide +kernel)
set_option maxRecDepth 100000 in
theorem jn_189 : jp_nws jY RX12 jo_189 ji_189 = ([] : List Nat).filterMap (fun i => jNW[i]?) := rfl
set_option maxRecDepth 100000 in
theorem jc_190 : jp_chkL jcl jZ1 jSR 12 false cX12_end jo_190 ji_190 = true := by decide +kernel
set_option maxRecDepth 100000 in
theorem jgO_190 : GoodIn lw_tbl jwO_190 := goodIn_r _ [1647, 161, 1645, 1646, 1401, 1414, 1612, 1414] rfl (by decide +kernel)
set_option maxRecDepth 100000 in
theorem jn_190 : jp_nws jY RX12 jo_190 ji_190 = ([] : List Nat).filterMap (fun i => jNW[i]?) := rfl
set_option maxRecDepth 100000 in
theorem jc_191 : jp_chkL jcl jZ1 jSR 12 false cX12_raw jo_191 ji_191 = true := by decide +kernel
set_option maxRecDepth 100000 in
theorem jgO_191 : GoodIn lw_tbl jwO_191 := goodIn_r _ [1663, 161, 1662, 55, 1414, 1413] rfl (by decide +kernel)
set_option maxRecDepth 100000 in
theorem jn_191 : jp_nws jY RX12 jo_191 ji_191 = ([] : List Nat).filterMap (fun i => jNW[i]?) := rfl
set_option maxRecDepth 100000 in
theorem jc_192 : jp_chkL jcl jZ1 jSR 12 false cX12_isLetter jo_192 ji_192 = true := by decide +kernel
set_option maxRecDepth 100000 in
theorem jgO_192 : GoodIn lw_tbl jwO_192 := goodIn_r _ [1667, 161, 1666, 56, 1612, 1612] rfl (by decide +kernel)
set_option maxRecDepth 100000 in
theorem jn_192 : jp_nws jY RX12 jo_192 ji_192 = ([] : List Nat).filterMap (fun i => jNW[i]?) := rfl
set_option maxRecDepth 100000 in
theorem jc_193 : jp_chkL jcl jZ1 jSR 12 false cX12_isDigit jo_193 ji_193 = true := by decide +kernel
set_option maxRecDepth 100000 in
theorem jgO_193 : GoodIn lw_tbl jwO_193 := goodIn_r _ [1675, 161, 1674, 58, 1612] rfl (by decide +kernel)
set_option maxRecDepth 100000 in
theorem jn_193 : jp_nws jY RX12 jo_193 ji_193 = ([] : List Nat).filterMap (fun i => jNW[i]?) := rfl
set_option maxRecDepth 100000 in
theorem jc_194 : jp_chkL jcl jZ1 jSR 12 false cX12_isMarkSign jo_194 ji_194 = true := by decide +kernel
set_option maxRecDepth 100000 in
theorem jgO_194 : GoodIn lw_tbl jwO_194 := goodIn_r _ [1679, 161, 1678, 59] rfl (by decide +kernel)
set_option maxRecDepth 100000 in
theorem jn_194 : jp_nws jY RX12 jo_194 ji_194 = ([] : List Nat).filterMap (fun i => jNW[i]?) := rfl
set_option maxRecDepth 100000 in
theorem jc_195 : jp_chkL jcl jZ1 jSR 12 false cX12_wordAt jo_195 ji_195 = true := by decide +kernel
set_option maxRecDepth 100000 in
theorem jgO_195 : GoodIn lw_tbl jwO_195 := goodIn_r _ [1671, 161, 1670, 57, 1419, 1413, 1419, 1419] rfl (by decide +kernel)
set_option maxRecDepth 100000 in
theorem jn_195 : jp_nws jY RX12 jo_195 ji_195 = ([] : List Nat).filterMap (fun i => jNW[i]?) := rfl
set_option maxRecDepth 100000 in
theorem jcd_196_0 : ((jo_196.drop 0).take 30).all (fun o => jp_dec cX12_reads o.1 o.2.1) = true := by decide +kernel
set_option maxRecDepth 100000 in
theorem jcd_196_1 : ((jo_196.drop 30).take 30).all (fun o => jp_dec cX12_reads o.1 o.2.1) = true := by decide +kernel
set_option maxRecDepth 100000 in
theorem jcd_196_2 : ((jo_196.drop 60).take 30).all (fun o => jp_dec cX12_reads o.1 o.2.1) = true := by decide +kernel
set_option maxRecDepth 100000 in
theorem jcd_196_3 : ((jo_196.drop 90).take 30).all (fun o => jp_dec cX12_reads o.1 o.2.1) = true := by decide +kernel
set_option maxRecDepth 100000 in
theorem jcd_196_4 : ((jo_196.drop 120).take 30).all (fun o => jp_dec cX12_reads o.1 o.2.1) = true := by decide +kernel
set_option maxRecDepth 100000 in
theorem jcn_196 : jp_chkN jcl jZ1 jSR 12 false jo_196 ji_196 = true := by decide +kernel
set_option maxRecDepth 100000 in
theorem jc_196 : jp_chkL jcl jZ1 jSR 12 false cX12_reads jo_196 ji_196 = true := jp_chkN_ok jcn_196 (jp_chunks 30 5 rfl (fun i hi => match i, hi with
  | 0, _ => jcd_196_0
  | 1, _ => jcd_196_1
  | 2, _ => jcd_196_2
  | 3, _ => jcd_196_3
  | 4, _ => jcd_196_4
  | n + 5, h => absurd h (by omega)))
set_option maxRecDepth 100000 in
theorem jgO_196 : GoodIn lw_tbl jwO_196 := goodIn_r _ [1659, 161, 1658, 54, 1415, 1660, 1415, 1660, 1415, 1415, 1415, 1416, 1417, 1415, 1660, 1417, 1415, 1415, 1418, 1664, 1415, 1660, 1664, 1415, 1415, 1416, 1415, 1668, 1418, 1418, 1417, 1672, 1418, 1415, 1660, 1672, 1418, 1418, 1415, 1660, 1418, 1418, 1415, 1415, 1415, 1416, 1417, 1676, 1417] rfl (by decide +kernel)
set_option maxRecDepth 100000 in
theorem jn_196 : jp_nws jY RX12 jo_196 ji_196 = ([] : List Nat).filterMap (fun i => jNW[i]?) := rfl
set_option maxRecDepth 100000 in
theorem jc_197 : jp_chkL jcl jZ1 jSR 12 false cX12_errs jo_197 ji_197 = true := by decide +kernel
set_option maxRecDepth 100000 in
theorem jgO_197 : GoodIn lw_tbl jwO_197 := goodIn_r _ [1691, 161, 1690, 62, 1432, 1416, 1433] rfl (by decide +kernel)
set_option maxRecDepth 100000 in
theorem jn_197 : jp_nws jY RX12 jo_197 ji_197 = ([] : List Nat).filterMap (fun i => jNW[i]?) := rfl
set_option maxRecDepth 100000 in
theorem jc_198 : jp_chkL jcl jZ1 jSR 12 false cX12_isWord jo_198 ji_198 = true := by decide +kernel
set_option maxRecDepth 100000 in
theorem jgO_198 : GoodIn lw_tbl jwO_198 := goodIn_r _ [1687, 161, 1686, 61, 1417, 1418] rfl (by decide +kernel)
set_option maxRecDepth 100000 in
theorem jn_198 : jp_nws jY RX12 jo_198 ji_198 = ([] : List Nat).filterMap (fun i => jNW[i]?) := rfl
set_option maxRecDepth 100000 in
theorem jc_199 : jp_chkL jcl jZ1 jSR 12 false cX12_isSign jo_199 ji_199 = true := by decide +kernel
set_option maxRecDepth 100000 in
theorem jgO_199 : GoodIn lw_tbl jwO_199 := goodIn_r _ [1715, 161, 1714, 68, 1417, 1418] rfl (by decide +kernel)
set_option maxRecDepth 100000 in
theorem jn_199 : jp_nws jY RX12 jo_199 ji_199 = ([] : List Nat).filterMap (fun i => jNW[i]?) := rfl
