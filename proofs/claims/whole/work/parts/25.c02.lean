set_option maxRecDepth 100000 in
theorem jc_80 : jp_chkL jcl RX10 jY jZ1 jw_X9 jNW jSR jCF jSF RX9 false cX9_worthOf jo_80 ji_80 = true := by decide +kernel
set_option maxRecDepth 100000 in
theorem jc_81 : jp_chkL jcl RX10 jY jZ1 jw_X9 jNW jSR jCF jSF RX9 false cX9_crossings jo_81 ji_81 = true := by decide +kernel
set_option maxRecDepth 100000 in
theorem jc_82 : jp_chkL jcl RX10 jY jZ1 jw_X9 jNW jSR jCF jSF RX9 false cX9_crosses jo_82 ji_82 = true := by decide +kernel
set_option maxRecDepth 100000 in
theorem jc_83 : jp_chkL jcl RX10 jY jZ1 jw_X9 jNW jSR jCF jSF RX9 false cX9_layers jo_83 ji_83 = true := by decide +kernel
set_option maxRecDepth 100000 in
theorem jc_84 : jp_chkL jcl RX10 jY jZ1 jw_X9 jNW jSR jCF jSF RX9 false cX9_lengthensChain jo_84 ji_84 = true := by decide +kernel
set_option maxRecDepth 100000 in
theorem jc_85 : jp_chkL jcl RX10 jY jZ1 jw_X9 jNW jSR jCF jSF RX9 false cX9_leastWays jo_85 ji_85 = true := by decide +kernel
set_option maxRecDepth 100000 in
theorem jc_86 : jp_chkL jcl RX10 jY jZ1 jw_X9 jNW jSR jCF jSF RX9 false cX9_costOf jo_86 ji_86 = true := by decide +kernel
set_option maxRecDepth 100000 in
theorem jc_87 : jp_chkL jcl RX10 jY jZ1 jw_X9 jNW jSR jCF jSF RX9 false cX9_eaveOf jo_87 ji_87 = true := by decide +kernel
set_option maxRecDepth 100000 in
theorem jc_88 : jp_chkL jcl RX10 jY jZ1 jw_X9 jNW jSR jCF jSF RX9 false cX9_choosesCallers jo_88 ji_88 = true := by decide +kernel
set_option maxRecDepth 100000 in
theorem jc_89 : jp_chkL jcl RX10 jY jZ1 jw_X9 jNW jSR jCF jSF RX9 false cX9_reachedFrom jo_89 ji_89 = true := by decide +kernel
set_option maxRecDepth 100000 in
theorem jc_90 : jp_chkL jcl RX10 jY jZ1 jw_X9 jNW jSR jCF jSF RX9 false cX9_arbitrates jo_90 ji_90 = true := by decide +kernel
set_option maxRecDepth 100000 in
theorem jc_91 : jp_chkL jcl RX10 jY jZ1 jw_X9 jNW jSR jCF jSF RX9 false cX9_learnsCites jo_91 ji_91 = true := by decide +kernel
set_option maxRecDepth 100000 in
theorem jc_92 : jp_chkL jcl RX10 jY jZ1 jw_X9 jNW jSR jCF jSF RX9 false cX9_founds jo_92 ji_92 = true := by decide +kernel
set_option maxRecDepth 100000 in
theorem jc_93 : jp_chkL jcl RX10 jY jZ1 jw_X9 jNW jSR jCF jSF RX9 false cX9_placeOf jo_93 ji_93 = true := by decide +kernel
set_option maxRecDepth 100000 in
theorem jc_94 : jp_chkL jcl RX10 jY jZ1 jw_X9 jNW jSR jCF jSF RX9 false cX9_leastReady jo_94 ji_94 = true := by decide +kernel
set_option maxRecDepth 100000 in
theorem jc_95 : jp_chkL jcl RX10 jY jZ1 jw_X10 jNW jSR jCF jSF RX10 true cX10_init jo_95 ji_95 = true := by decide +kernel
set_option maxRecDepth 100000 in
theorem jc_96 : jp_chkL jcl RX10 jY jZ1 jw_X10 jNW jSR jCF jSF RX10 false cX10_becomes jo_96 ji_96 = true := by decide +kernel
set_option maxRecDepth 100000 in
theorem jc_97 : jp_chkL jcl RX10 jY jZ1 jw_X10 jNW jSR jCF jSF RX10 false cX10_hasPerson jo_97 ji_97 = true := by decide +kernel
set_option maxRecDepth 100000 in
theorem jc_98 : jp_chkL jcl RX10 jY jZ1 jw_X10 jNW jSR jCF jSF RX10 false cX10_hasSwallow jo_98 ji_98 = true := by decide +kernel
set_option maxRecDepth 100000 in
theorem jc_99 : jp_chkL jcl RX10 jY jZ1 jw_X10 jNW jSR jCF jSF RX10 false cX10_isSummer jo_99 ji_99 = true := by decide +kernel
set_option maxRecDepth 100000 in
theorem jc_100 : jp_chkL jcl RX10 jY jZ1 jw_X10 jNW jSR jCF jSF RX10 false cX10_drawsOfThousand jo_100 ji_100 = true := by decide +kernel
set_option maxRecDepth 100000 in
theorem jc_101 : jp_chkL jcl RX10 jY jZ1 jw_X10 jNW jSR jCF jSF RX10 false cX10_placeOf jo_101 ji_101 = true := by decide +kernel
set_option maxRecDepth 100000 in
theorem jc_102 : jp_chkL jcl RX10 jY jZ1 jw_X10 jNW jSR jCF jSF RX10 false cX10_usedAbove jo_102 ji_102 = true := by decide +kernel
set_option maxRecDepth 100000 in
theorem jc_103 : jp_chkL jcl RX10 jY jZ1 jw_X10 jNW jSR jCF jSF RX10 false cX10_span jo_103 ji_103 = true := by decide +kernel
set_option maxRecDepth 100000 in
theorem jc_104 : jp_chkL jcl RX10 jY jZ1 jw_X10 jNW jSR jCF jSF RX10 false cX10_usedCells jo_104 ji_104 = true := by decide +kernel
set_option maxRecDepth 100000 in
theorem jc_105 : jp_chkL jcl RX10 jY jZ1 jw_X10 jNW jSR jCF jSF RX10 false cX10_nestsAt jo_105 ji_105 = true := by decide +kernel
set_option maxRecDepth 100000 in
theorem jc_106 : jp_chkL jcl RX10 jY jZ1 jw_X10 jNW jSR jCF jSF RX10 false cX10_pays jo_106 ji_106 = true := by decide +kernel
set_option maxRecDepth 100000 in
theorem jc_107 : jp_chkL jcl RX10 jY jZ1 jw_X10 jNW jSR jCF jSF RX10 false cX10_finedOfAll jo_107 ji_107 = true := by decide +kernel
set_option maxRecDepth 100000 in
theorem jc_108 : jp_chkL jcl RX10 jY jZ1 jw_X10 jNW jSR jCF jSF RX10 false cX10_marksOfAll jo_108 ji_108 = true := by decide +kernel
set_option maxRecDepth 100000 in
theorem jc_109 : jp_chkL jcl RX10 jY jZ1 jw_X10 jNW jSR jCF jSF RX10 false cX10_clearsMarksAndStoops jo_109 ji_109 = true := by decide +kernel
set_option maxRecDepth 100000 in
theorem jc_110 : jp_chkL jcl RX10 jY jZ1 jw_X10 jNW jSR jCF jSF RX10 false cX10_removes jo_110 ji_110 = true := by decide +kernel
set_option maxRecDepth 100000 in
theorem jc_111 : jp_chkL jcl RX10 jY jZ1 jw_X11 jNW jSR jCF jSF RX11 true cX11_init jo_111 ji_111 = true := by decide +kernel
set_option maxRecDepth 100000 in
theorem jc_112 : jp_chkL jcl RX10 jY jZ1 jw_X11 jNW jSR jCF jSF RX11 false cX11_state jo_112 ji_112 = true := by decide +kernel
set_option maxRecDepth 100000 in
theorem jc_113 : jp_chkL jcl RX10 jY jZ1 jw_X11 jNW jSR jCF jSF RX11 false cX11_person jo_113 ji_113 = true := by decide +kernel
set_option maxRecDepth 100000 in
theorem jc_114 : jp_chkL jcl RX10 jY jZ1 jw_X11 jNW jSR jCF jSF RX11 false cX11_swallow jo_114 ji_114 = true := by decide +kernel
set_option maxRecDepth 100000 in
theorem jc_115 : jp_chkL jcl RX10 jY jZ1 jw_X11 jNW jSR jCF jSF RX11 false cX11_set jo_115 ji_115 = true := by decide +kernel
set_option maxRecDepth 100000 in
theorem jc_116 : jp_chkL jcl RX10 jY jZ1 jw_X11 jNW jSR jCF jSF RX11 false cX11_ask jo_116 ji_116 = true := by decide +kernel
set_option maxRecDepth 100000 in
theorem jc_117 : jp_chkL jcl RX10 jY jZ1 jw_X11 jNW jSR jCF jSF RX11 false cX11_take jo_117 ji_117 = true := by decide +kernel
set_option maxRecDepth 100000 in
theorem jc_118 : jp_chkL jcl RX10 jY jZ1 jw_X11 jNW jSR jCF jSF RX11 false cX11_ends jo_118 ji_118 = true := by decide +kernel
set_option maxRecDepth 100000 in
theorem jc_119 : jp_chkL jcl RX10 jY jZ1 jw_X11 jNW jSR jCF jSF RX11 false cX11_nest jo_119 ji_119 = true := by decide +kernel
