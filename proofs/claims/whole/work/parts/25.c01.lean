set_option maxRecDepth 100000 in
theorem jc_40 : jp_chkL jcl RX10 jY jZ1 jw_X3 jNW jSR jCF jSF RX3 false cX3_fact jo_40 ji_40 = true := by decide +kernel
set_option maxRecDepth 100000 in
theorem jc_41 : jp_chkL jcl RX10 jY jZ1 jw_X3 jNW jSR jCF jSF RX3 false cX3_joined jo_41 ji_41 = true := by decide +kernel
set_option maxRecDepth 100000 in
theorem jc_42 : jp_chkL jcl RX10 jY jZ1 jw_X4 jNW jSR jCF jSF RX4 true cX4_init jo_42 ji_42 = true := by decide +kernel
set_option maxRecDepth 100000 in
theorem jc_43 : jp_chkL jcl RX10 jY jZ1 jw_X4 jNW jSR jCF jSF RX4 false cX4_reads jo_43 ji_43 = true := by decide +kernel
set_option maxRecDepth 100000 in
theorem jc_44 : jp_chkL jcl RX10 jY jZ1 jw_X4 jNW jSR jCF jSF RX4 false cX4_line jo_44 ji_44 = true := by decide +kernel
set_option maxRecDepth 100000 in
theorem jc_45 : jp_chkL jcl RX10 jY jZ1 jw_X4 jNW jSR jCF jSF RX4 false cX4_condition jo_45 ji_45 = true := by decide +kernel
set_option maxRecDepth 100000 in
theorem jc_46 : jp_chkL jcl RX10 jY jZ1 jw_X4 jNW jSR jCF jSF RX4 false cX4_clause jo_46 ji_46 = true := by decide +kernel
set_option maxRecDepth 100000 in
theorem jc_47 : jp_chkL jcl RX10 jY jZ1 jw_X4 jNW jSR jCF jSF RX4 false cX4_opened jo_47 ji_47 = true := by decide +kernel
set_option maxRecDepth 100000 in
theorem jc_48 : jp_chkL jcl RX10 jY jZ1 jw_X4 jNW jSR jCF jSF RX4 false cX4_sum jo_48 ji_48 = true := by decide +kernel
set_option maxRecDepth 100000 in
theorem jc_49 : jp_chkL jcl RX10 jY jZ1 jw_X4 jNW jSR jCF jSF RX4 false cX4_unit jo_49 ji_49 = true := by decide +kernel
set_option maxRecDepth 100000 in
theorem jc_50 : jp_chkL jcl RX10 jY jZ1 jw_X5 jNW jSR jCF jSF RX5 true cX5_init jo_50 ji_50 = true := by decide +kernel
set_option maxRecDepth 100000 in
theorem jc_51 : jp_chkL jcl RX10 jY jZ1 jw_X5 jNW jSR jCF jSF RX5 false cX5_reads jo_51 ji_51 = true := by decide +kernel
set_option maxRecDepth 100000 in
theorem jc_52 : jp_chkL jcl RX10 jY jZ1 jw_X5 jNW jSR jCF jSF RX5 false cX5_line jo_52 ji_52 = true := by decide +kernel
set_option maxRecDepth 100000 in
theorem jc_53 : jp_chkL jcl RX10 jY jZ1 jw_X5 jNW jSR jCF jSF RX5 false cX5_petition jo_53 ji_53 = true := by decide +kernel
set_option maxRecDepth 100000 in
theorem jc_54 : jp_chkL jcl RX10 jY jZ1 jw_X5 jNW jSR jCF jSF RX5 false cX5_turn jo_54 ji_54 = true := by decide +kernel
set_option maxRecDepth 100000 in
theorem jc_55 : jp_chkL jcl RX10 jY jZ1 jw_X5 jNW jSR jCF jSF RX5 false cX5_precedent jo_55 ji_55 = true := by decide +kernel
set_option maxRecDepth 100000 in
theorem jc_56 : jp_chkL jcl RX10 jY jZ1 jw_X5 jNW jSR jCF jSF RX5 false cX5_unlike jo_56 ji_56 = true := by decide +kernel
set_option maxRecDepth 100000 in
theorem jc_57 : jp_chkL jcl RX10 jY jZ1 jw_X5 jNW jSR jCF jSF RX5 false cX5_number jo_57 ji_57 = true := by decide +kernel
set_option maxRecDepth 100000 in
theorem jc_58 : jp_chkL jcl RX10 jY jZ1 jw_X5 jNW jSR jCF jSF RX5 false cX5_kind jo_58 ji_58 = true := by decide +kernel
set_option maxRecDepth 100000 in
theorem jc_59 : jp_chkL jcl RX10 jY jZ1 jw_X5 jNW jSR jCF jSF RX5 false cX5_fills jo_59 ji_59 = true := by decide +kernel
set_option maxRecDepth 100000 in
theorem jc_60 : jp_chkL jcl RX10 jY jZ1 jw_X6 jNW jSR jCF jSF RX6 true cX6_init jo_60 ji_60 = true := by decide +kernel
set_option maxRecDepth 100000 in
theorem jc_61 : jp_chkL jcl RX10 jY jZ1 jw_X6 jNW jSR jCF jSF RX6 false cX6_opens jo_61 ji_61 = true := by decide +kernel
set_option maxRecDepth 100000 in
theorem jc_62 : jp_chkL jcl RX10 jY jZ1 jw_X6 jNW jSR jCF jSF RX6 false cX6_fails jo_62 ji_62 = true := by decide +kernel
set_option maxRecDepth 100000 in
theorem jc_63 : jp_chkL jcl RX10 jY jZ1 jw_X6 jNW jSR jCF jSF RX6 false cX6_isWord jo_63 ji_63 = true := by decide +kernel
set_option maxRecDepth 100000 in
theorem jc_64 : jp_chkL jcl RX10 jY jZ1 jw_X6 jNW jSR jCF jSF RX6 false cX6_isSign jo_64 ji_64 = true := by decide +kernel
set_option maxRecDepth 100000 in
theorem jc_65 : jp_chkL jcl RX10 jY jZ1 jw_X6 jNW jSR jCF jSF RX6 false cX6_passesWord jo_65 ji_65 = true := by decide +kernel
set_option maxRecDepth 100000 in
theorem jc_66 : jp_chkL jcl RX10 jY jZ1 jw_X6 jNW jSR jCF jSF RX6 false cX6_passesSign jo_66 ji_66 = true := by decide +kernel
set_option maxRecDepth 100000 in
theorem jc_67 : jp_chkL jcl RX10 jY jZ1 jw_X6 jNW jSR jCF jSF RX6 false cX6_advances jo_67 ji_67 = true := by decide +kernel
set_option maxRecDepth 100000 in
theorem jc_68 : jp_chkL jcl RX10 jY jZ1 jw_X6 jNW jSR jCF jSF RX6 false cX6_readsDigits jo_68 ji_68 = true := by decide +kernel
set_option maxRecDepth 100000 in
theorem jc_69 : jp_chkL jcl RX10 jY jZ1 jw_X6 jNW jSR jCF jSF RX6 false cX6_isLetter jo_69 ji_69 = true := by decide +kernel
set_option maxRecDepth 100000 in
theorem jc_70 : jp_chkL jcl RX10 jY jZ1 jw_X6 jNW jSR jCF jSF RX6 false cX6_isDigit jo_70 ji_70 = true := by decide +kernel
set_option maxRecDepth 100000 in
theorem jc_71 : jp_chkL jcl RX10 jY jZ1 jw_X6 jNW jSR jCF jSF RX6 false cX6_wordNumber jo_71 ji_71 = true := by decide +kernel
set_option maxRecDepth 100000 in
theorem jc_72 : jp_chkL jcl RX10 jY jZ1 jw_X7 jNW jSR jCF jSF RX7 true cX7_init jo_72 ji_72 = true := by decide +kernel
set_option maxRecDepth 100000 in
theorem jc_73 : jp_chkL jcl RX10 jY jZ1 jw_X7 jNW jSR jCF jSF RX7 false cX7_becomes jo_73 ji_73 = true := by decide +kernel
set_option maxRecDepth 100000 in
theorem jc_74 : jp_chkL jcl RX10 jY jZ1 jw_X8 jNW jSR jCF jSF RX8 true cX8_init jo_74 ji_74 = true := by decide +kernel
set_option maxRecDepth 100000 in
theorem jc_75 : jp_chkL jcl RX10 jY jZ1 jw_X8 jNW jSR jCF jSF RX8 false cX8_becomes jo_75 ji_75 = true := by decide +kernel
set_option maxRecDepth 100000 in
theorem jc_76 : jp_chkL jcl RX10 jY jZ1 jw_X9 jNW jSR jCF jSF RX9 true cX9_init jo_76 ji_76 = true := by decide +kernel
set_option maxRecDepth 100000 in
theorem jc_77 : jp_chkL jcl RX10 jY jZ1 jw_X9 jNW jSR jCF jSF RX9 false cX9_choosesWishes jo_77 ji_77 = true := by decide +kernel
set_option maxRecDepth 100000 in
theorem jc_78 : jp_chkL jcl RX10 jY jZ1 jw_X9 jNW jSR jCF jSF RX9 false cX9_learnsClashes jo_78 ji_78 = true := by decide +kernel
set_option maxRecDepth 100000 in
theorem jc_79 : jp_chkL jcl RX10 jY jZ1 jw_X9 jNW jSR jCF jSF RX9 false cX9_shareDay jo_79 ji_79 = true := by decide +kernel
