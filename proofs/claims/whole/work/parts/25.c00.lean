set_option maxRecDepth 100000 in
theorem jc_0 : jp_chkL jcl RX10 jY jZ1 jw_X0 jNW jSR jCF jSF RX0 true cX0_init jo_0 ji_0 = true := by decide +kernel
set_option maxRecDepth 100000 in
theorem jc_1 : jp_chkL jcl RX10 jY jZ1 jw_X0 jNW jSR jCF jSF RX0 false cX0_becomes jo_1 ji_1 = true := by decide +kernel
set_option maxRecDepth 100000 in
theorem jc_2 : jp_chkL jcl RX10 jY jZ1 jw_X0 jNW jSR jCF jSF RX0 false cX0_isTold jo_2 ji_2 = true := by decide +kernel
set_option maxRecDepth 100000 in
theorem jc_3 : jp_chkL jcl RX10 jY jZ1 jw_X0 jNW jSR jCF jSF RX0 false cX0_leases jo_3 ji_3 = true := by decide +kernel
set_option maxRecDepth 100000 in
theorem jc_4 : jp_chkL jcl RX10 jY jZ1 jw_X0 jNW jSR jCF jSF RX0 false cX0_writes jo_4 ji_4 = true := by decide +kernel
set_option maxRecDepth 100000 in
theorem jc_5 : jp_chkL jcl RX10 jY jZ1 jw_X0 jNW jSR jCF jSF RX0 false cX0_sees jo_5 ji_5 = true := by decide +kernel
set_option maxRecDepth 100000 in
theorem jc_6 : jp_chkL jcl RX10 jY jZ1 jw_X0 jNW jSR jCF jSF RX0 false cX0_seerOf jo_6 ji_6 = true := by decide +kernel
set_option maxRecDepth 100000 in
theorem jc_7 : jp_chkL jcl RX10 jY jZ1 jw_X1 jNW jSR jCF jSF RX1 true cX1_init jo_7 ji_7 = true := by decide +kernel
set_option maxRecDepth 100000 in
theorem jc_8 : jp_chkL jcl RX10 jY jZ1 jw_X1 jNW jSR jCF jSF RX1 false cX1_learnsFree jo_8 ji_8 = true := by decide +kernel
set_option maxRecDepth 100000 in
theorem jc_9 : jp_chkL jcl RX10 jY jZ1 jw_X1 jNW jSR jCF jSF RX1 false cX1_isFree jo_9 ji_9 = true := by decide +kernel
set_option maxRecDepth 100000 in
theorem jc_10 : jp_chkL jcl RX10 jY jZ1 jw_X1 jNW jSR jCF jSF RX1 false cX1_walks jo_10 ji_10 = true := by decide +kernel
set_option maxRecDepth 100000 in
theorem jc_11 : jp_chkL jcl RX10 jY jZ1 jw_X1 jNW jSR jCF jSF RX1 false cX1_reaches jo_11 ji_11 = true := by decide +kernel
set_option maxRecDepth 100000 in
theorem jc_12 : jp_chkL jcl RX10 jY jZ1 jw_X1 jNW jSR jCF jSF RX1 false cX1_widens jo_12 ji_12 = true := by decide +kernel
set_option maxRecDepth 100000 in
theorem jc_13 : jp_chkL jcl RX10 jY jZ1 jw_X1 jNW jSR jCF jSF RX1 false cX1_widensFrom jo_13 ji_13 = true := by decide +kernel
set_option maxRecDepth 100000 in
theorem jc_14 : jp_chkL jcl RX10 jY jZ1 jw_X1 jNW jSR jCF jSF RX1 false cX1_runUp jo_14 ji_14 = true := by decide +kernel
set_option maxRecDepth 100000 in
theorem jc_15 : jp_chkL jcl RX10 jY jZ1 jw_X1 jNW jSR jCF jSF RX1 false cX1_freeFromGround jo_15 ji_15 = true := by decide +kernel
set_option maxRecDepth 100000 in
theorem jc_16 : jp_chkL jcl RX10 jY jZ1 jw_X1 jNW jSR jCF jSF RX1 false cX1_gameMove jo_16 ji_16 = true := by decide +kernel
set_option maxRecDepth 100000 in
theorem jc_17 : jp_chkL jcl RX10 jY jZ1 jw_X1 jNW jSR jCF jSF RX1 false cX1_stoopsOf jo_17 ji_17 = true := by decide +kernel
set_option maxRecDepth 100000 in
theorem jc_18 : jp_chkL jcl RX10 jY jZ1 jw_X1 jNW jSR jCF jSF RX1 false cX1_worth jo_18 ji_18 = true := by decide +kernel
set_option maxRecDepth 100000 in
theorem jc_19 : jp_chkL jcl RX10 jY jZ1 jw_X1 jNW jSR jCF jSF RX1 false cX1_leapWays jo_19 ji_19 = true := by decide +kernel
set_option maxRecDepth 100000 in
theorem jc_20 : jp_chkL jcl RX10 jY jZ1 jw_X2 jNW jSR jCF jSF RX2 true cX2_init jo_20 ji_20 = true := by decide +kernel
set_option maxRecDepth 100000 in
theorem jc_21 : jp_chkL jcl RX10 jY jZ1 jw_X2 jNW jSR jCF jSF RX2 false cX2_wants jo_21 ji_21 = true := by decide +kernel
set_option maxRecDepth 100000 in
theorem jc_22 : jp_chkL jcl RX10 jY jZ1 jw_X2 jNW jSR jCF jSF RX2 false cX2_fits jo_22 ji_22 = true := by decide +kernel
set_option maxRecDepth 100000 in
theorem jc_23 : jp_chkL jcl RX10 jY jZ1 jw_X2 jNW jSR jCF jSF RX2 false cX2_asks jo_23 ji_23 = true := by decide +kernel
set_option maxRecDepth 100000 in
theorem jc_24 : jp_chkL jcl RX10 jY jZ1 jw_X2 jNW jSR jCF jSF RX2 false cX2_takes jo_24 ji_24 = true := by decide +kernel
set_option maxRecDepth 100000 in
theorem jc_25 : jp_chkL jcl RX10 jY jZ1 jw_X2 jNW jSR jCF jSF RX2 false cX2_begins jo_25 ji_25 = true := by decide +kernel
set_option maxRecDepth 100000 in
theorem jc_26 : jp_chkL jcl RX10 jY jZ1 jw_X2 jNW jSR jCF jSF RX2 false cX2_closes jo_26 ji_26 = true := by decide +kernel
set_option maxRecDepth 100000 in
theorem jc_27 : jp_chkL jcl RX10 jY jZ1 jw_X2 jNW jSR jCF jSF RX2 false cX2_passesDay jo_27 ji_27 = true := by decide +kernel
set_option maxRecDepth 100000 in
theorem jc_28 : jp_chkL jcl RX10 jY jZ1 jw_X2 jNW jSR jCF jSF RX2 false cX2_hears jo_28 ji_28 = true := by decide +kernel
set_option maxRecDepth 100000 in
theorem jc_29 : jp_chkL jcl RX10 jY jZ1 jw_X2 jNW jSR jCF jSF RX2 false cX2_fines jo_29 ji_29 = true := by decide +kernel
set_option maxRecDepth 100000 in
theorem jc_30 : jp_chkL jcl RX10 jY jZ1 jw_X2 jNW jSR jCF jSF RX2 false cX2_finesUse jo_30 ji_30 = true := by decide +kernel
set_option maxRecDepth 100000 in
theorem jc_31 : jp_chkL jcl RX10 jY jZ1 jw_X2 jNW jSR jCF jSF RX2 false cX2_wears jo_31 ji_31 = true := by decide +kernel
set_option maxRecDepth 100000 in
theorem jc_32 : jp_chkL jcl RX10 jY jZ1 jw_X3 jNW jSR jCF jSF RX3 true cX3_init jo_32 ji_32 = true := by decide +kernel
set_option maxRecDepth 100000 in
theorem jc_33 : jp_chkL jcl RX10 jY jZ1 jw_X3 jNW jSR jCF jSF RX3 false cX3_becomes jo_33 ji_33 = true := by decide +kernel
set_option maxRecDepth 100000 in
theorem jc_34 : jp_chkL jcl RX10 jY jZ1 jw_X3 jNW jSR jCF jSF RX3 false cX3_clears jo_34 ji_34 = true := by decide +kernel
set_option maxRecDepth 100000 in
theorem jc_35 : jp_chkL jcl RX10 jY jZ1 jw_X3 jNW jSR jCF jSF RX3 false cX3_adds jo_35 ji_35 = true := by decide +kernel
set_option maxRecDepth 100000 in
theorem jc_36 : jp_chkL jcl RX10 jY jZ1 jw_X3 jNW jSR jCF jSF RX3 false cX3_tells jo_36 ji_36 = true := by decide +kernel
set_option maxRecDepth 100000 in
theorem jc_37 : jp_chkL jcl RX10 jY jZ1 jw_X3 jNW jSR jCF jSF RX3 false cX3_learns jo_37 ji_37 = true := by decide +kernel
set_option maxRecDepth 100000 in
theorem jc_38 : jp_chkL jcl RX10 jY jZ1 jw_X3 jNW jSR jCF jSF RX3 false cX3_usual jo_38 ji_38 = true := by decide +kernel
set_option maxRecDepth 100000 in
theorem jc_39 : jp_chkL jcl RX10 jY jZ1 jw_X3 jNW jSR jCF jSF RX3 false cX3_value jo_39 ji_39 = true := by decide +kernel
