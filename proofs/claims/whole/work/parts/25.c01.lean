set_option maxRecDepth 100000 in
theorem jc_40 : jp_chkL jcl jZ1 jSR 3 false cX3_fact jo_40 ji_40 = true := by decide +kernel
set_option maxRecDepth 100000 in
theorem jgO_40 : GoodIn lw_tbl jwO_40 := goodIn_r _ [758, 151, 757, 9, 266] rfl (by decide +kernel)
set_option maxRecDepth 100000 in
theorem jn_40 : jp_nws jY RX3 jo_40 ji_40 = ([5] : List Nat).filterMap (fun i => jNW[i]?) := rfl
set_option maxRecDepth 100000 in
theorem jc_41 : jp_chkL jcl jZ1 jSR 3 false cX3_joined jo_41 ji_41 = true := by decide +kernel
set_option maxRecDepth 100000 in
theorem jgO_41 : GoodIn lw_tbl jwO_41 := goodIn_r _ [754, 151, 753] rfl (by decide +kernel)
set_option maxRecDepth 100000 in
theorem jn_41 : jp_nws jY RX3 jo_41 ji_41 = ([] : List Nat).filterMap (fun i => jNW[i]?) := rfl
set_option maxRecDepth 100000 in
theorem jc_42 : jp_chkL jcl jZ1 jSR 4 true cX4_init jo_42 ji_42 = true := by decide +kernel
set_option maxRecDepth 100000 in
theorem jgO_42 : GoodIn lw_tbl jwO_42 := goodIn_r _ [545, 159, 544, 546, 547, 550, 549] rfl (by decide +kernel)
set_option maxRecDepth 100000 in
theorem jn_42 : jp_nws jY RX4 jo_42 ji_42 = ([3] : List Nat).filterMap (fun i => jNW[i]?) := rfl
set_option maxRecDepth 100000 in
theorem jc_43 : jp_chkL jcl jZ1 jSR 4 false cX4_reads jo_43 ji_43 = true := by decide +kernel
set_option maxRecDepth 100000 in
theorem jgO_43 : GoodIn lw_tbl jwO_43 := goodIn_r _ [998, 159, 996, 997, 550, 999, 549, 511, 1003] rfl (by decide +kernel)
set_option maxRecDepth 100000 in
theorem jn_43 : jp_nws jY RX4 jo_43 ji_43 = ([] : List Nat).filterMap (fun i => jNW[i]?) := rfl
set_option maxRecDepth 100000 in
theorem jc_44 : jp_chkL jcl jZ1 jSR 4 false cX4_line jo_44 ji_44 = true := by decide +kernel
set_option maxRecDepth 100000 in
theorem jgO_44 : GoodIn lw_tbl jwO_44 := goodIn_r _ [1006, 159, 1005, 17, 549, 511, 549, 514, 549, 1007, 550, 255, 549, 1007, 550, 260, 549, 514, 549, 1011, 1012, 550, 262, 550, 258, 549, 1028, 549, 1011, 1032, 550, 264, 550, 258, 550, 255, 255, 549, 1044] rfl (by decide +kernel)
set_option maxRecDepth 100000 in
theorem jn_44 : jp_nws jY RX4 jo_44 ji_44 = ([] : List Nat).filterMap (fun i => jNW[i]?) := rfl
set_option maxRecDepth 100000 in
theorem jc_45 : jp_chkL jcl jZ1 jSR 4 false cX4_condition jo_45 ji_45 = true := by decide +kernel
set_option maxRecDepth 100000 in
theorem jgO_45 : GoodIn lw_tbl jwO_45 := goodIn_r _ [1035, 159, 1034, 20, 1036, 550, 1020, 549, 1028, 550, 1020, 549, 1028, 549, 1011, 549, 1007] rfl (by decide +kernel)
set_option maxRecDepth 100000 in
theorem jn_45 : jp_nws jY RX4 jo_45 ji_45 = ([] : List Nat).filterMap (fun i => jNW[i]?) := rfl
set_option maxRecDepth 100000 in
theorem jc_46 : jp_chkL jcl jZ1 jSR 4 false cX4_clause jo_46 ji_46 = true := by decide +kernel
set_option maxRecDepth 100000 in
theorem jgO_46 : GoodIn lw_tbl jwO_46 := goodIn_r _ [1039, 159, 1038, 21, 549, 1028, 549, 1024, 1040, 549, 1007, 1012, 549, 514, 549, 1024, 549, 1024, 549, 1024, 549, 1007, 549, 1011, 1012, 550, 1020] rfl (by decide +kernel)
set_option maxRecDepth 100000 in
theorem jn_46 : jp_nws jY RX4 jo_46 ji_46 = ([] : List Nat).filterMap (fun i => jNW[i]?) := rfl
set_option maxRecDepth 100000 in
theorem jc_47 : jp_chkL jcl jZ1 jSR 4 false cX4_opened jo_47 ji_47 = true := by decide +kernel
set_option maxRecDepth 100000 in
theorem jgO_47 : GoodIn lw_tbl jwO_47 := goodIn_r _ [1043, 159, 1042, 22, 549, 1028, 549, 1011, 1032, 549, 1044, 1036, 550, 1020, 550, 1020] rfl (by decide +kernel)
set_option maxRecDepth 100000 in
theorem jn_47 : jp_nws jY RX4 jo_47 ji_47 = ([] : List Nat).filterMap (fun i => jNW[i]?) := rfl
set_option maxRecDepth 100000 in
theorem jc_48 : jp_chkL jcl jZ1 jSR 4 false cX4_sum jo_48 ji_48 = true := by decide +kernel
set_option maxRecDepth 100000 in
theorem jgO_48 : GoodIn lw_tbl jwO_48 := goodIn_r _ [1015, 159, 1014, 18, 1016, 550, 1020, 549, 1011, 550, 1020, 549, 1024, 549, 1024, 549, 514, 550, 1020, 549, 1024, 549, 1024, 549, 514, 549, 1011, 549, 1007] rfl (by decide +kernel)
set_option maxRecDepth 100000 in
theorem jn_48 : jp_nws jY RX4 jo_48 ji_48 = ([] : List Nat).filterMap (fun i => jNW[i]?) := rfl
set_option maxRecDepth 100000 in
theorem jc_49 : jp_chkL jcl jZ1 jSR 4 false cX4_unit jo_49 ji_49 = true := by decide +kernel
set_option maxRecDepth 100000 in
theorem jgO_49 : GoodIn lw_tbl jwO_49 := goodIn_r _ [1019, 159, 1018, 19, 549, 511, 549, 514, 549, 1007, 549, 514, 549, 511, 549, 514, 549, 514, 549, 1007] rfl (by decide +kernel)
set_option maxRecDepth 100000 in
theorem jn_49 : jp_nws jY RX4 jo_49 ji_49 = ([] : List Nat).filterMap (fun i => jNW[i]?) := rfl
set_option maxRecDepth 100000 in
theorem jc_50 : jp_chkL jcl jZ1 jSR 5 true cX5_init jo_50 ji_50 = true := by decide +kernel
set_option maxRecDepth 100000 in
theorem jgO_50 : GoodIn lw_tbl jwO_50 := goodIn_r _ [561, 160, 560, 562, 563, 564, 566, 565] rfl (by decide +kernel)
set_option maxRecDepth 100000 in
theorem jn_50 : jp_nws jY RX5 jo_50 ji_50 = ([] : List Nat).filterMap (fun i => jNW[i]?) := rfl
set_option maxRecDepth 100000 in
theorem jc_51 : jp_chkL jcl jZ1 jSR 5 false cX5_reads jo_51 ji_51 = true := by decide +kernel
set_option maxRecDepth 100000 in
theorem jgO_51 : GoodIn lw_tbl jwO_51 := goodIn_r _ [1058, 160, 1056, 1057, 570, 571, 566, 296, 568, 565, 512, 565, 1059, 565, 1060, 1061, 566, 296, 296] rfl (by decide +kernel)
set_option maxRecDepth 100000 in
theorem jn_51 : jp_nws jY RX5 jo_51 ji_51 = ([] : List Nat).filterMap (fun i => jNW[i]?) := rfl
set_option maxRecDepth 100000 in
theorem jc_52 : jp_chkL jcl jZ1 jSR 5 false cX5_line jo_52 ji_52 = true := by decide +kernel
set_option maxRecDepth 100000 in
theorem jgO_52 : GoodIn lw_tbl jwO_52 := goodIn_r _ [1064, 160, 1063, 23, 565, 1065, 1070, 1087, 1091, 565, 1099] rfl (by decide +kernel)
set_option maxRecDepth 100000 in
theorem jn_52 : jp_nws jY RX5 jo_52 ji_52 = ([] : List Nat).filterMap (fun i => jNW[i]?) := rfl
set_option maxRecDepth 100000 in
theorem jc_53 : jp_chkL jcl jZ1 jSR 5 false cX5_petition jo_53 ji_53 = true := by decide +kernel
set_option maxRecDepth 100000 in
theorem jgO_53 : GoodIn lw_tbl jwO_53 := goodIn_r _ [1073, 160, 1072, 24, 1074, 565, 1065, 570, 1074, 1083, 565, 1065, 1074, 1074, 569, 1074, 565, 1065, 1074] rfl (by decide +kernel)
set_option maxRecDepth 100000 in
theorem jn_53 : jp_nws jY RX5 jo_53 ji_53 = ([] : List Nat).filterMap (fun i => jNW[i]?) := rfl
set_option maxRecDepth 100000 in
theorem jc_54 : jp_chkL jcl jZ1 jSR 5 false cX5_turn jo_54 ji_54 = true := by decide +kernel
set_option maxRecDepth 100000 in
theorem jgO_54 : GoodIn lw_tbl jwO_54 := goodIn_r _ [1090, 160, 1089, 28, 1074, 565, 1065, 571, 1074] rfl (by decide +kernel)
set_option maxRecDepth 100000 in
theorem jn_54 : jp_nws jY RX5 jo_54 ji_54 = ([] : List Nat).filterMap (fun i => jNW[i]?) := rfl
set_option maxRecDepth 100000 in
theorem jc_55 : jp_chkL jcl jZ1 jSR 5 false cX5_precedent jo_55 ji_55 = true := by decide +kernel
set_option maxRecDepth 100000 in
theorem jgO_55 : GoodIn lw_tbl jwO_55 := goodIn_r _ [1094, 160, 1093, 29, 1074, 565, 1065, 569, 1095, 1074] rfl (by decide +kernel)
set_option maxRecDepth 100000 in
theorem jn_55 : jp_nws jY RX5 jo_55 ji_55 = ([] : List Nat).filterMap (fun i => jNW[i]?) := rfl
set_option maxRecDepth 100000 in
theorem jc_56 : jp_chkL jcl jZ1 jSR 5 false cX5_unlike jo_56 ji_56 = true := by decide +kernel
set_option maxRecDepth 100000 in
theorem jgO_56 : GoodIn lw_tbl jwO_56 := goodIn_r _ [1098, 160, 1097, 30, 565, 512, 565, 516, 565, 1060] rfl (by decide +kernel)
set_option maxRecDepth 100000 in
theorem jn_56 : jp_nws jY RX5 jo_56 ji_56 = ([] : List Nat).filterMap (fun i => jNW[i]?) := rfl
set_option maxRecDepth 100000 in
theorem jc_57 : jp_chkL jcl jZ1 jSR 5 false cX5_number jo_57 ji_57 = true := by decide +kernel
set_option maxRecDepth 100000 in
theorem jgO_57 : GoodIn lw_tbl jwO_57 := goodIn_r _ [1077, 160, 1076, 25, 565, 512, 565, 1060, 565, 516, 565, 516, 565, 1060, 565, 516, 569, 569, 1078, 565, 1082] rfl (by decide +kernel)
set_option maxRecDepth 100000 in
theorem jn_57 : jp_nws jY RX5 jo_57 ji_57 = ([] : List Nat).filterMap (fun i => jNW[i]?) := rfl
set_option maxRecDepth 100000 in
theorem jc_58 : jp_chkL jcl jZ1 jSR 5 false cX5_kind jo_58 ji_58 = true := by decide +kernel
set_option maxRecDepth 100000 in
theorem jgO_58 : GoodIn lw_tbl jwO_58 := goodIn_r _ [1086, 160, 1085, 27, 565, 512, 565, 516, 565, 516, 565, 1060, 565, 516, 1078, 565, 1082] rfl (by decide +kernel)
set_option maxRecDepth 100000 in
theorem jn_58 : jp_nws jY RX5 jo_58 ji_58 = ([] : List Nat).filterMap (fun i => jNW[i]?) := rfl
set_option maxRecDepth 100000 in
theorem jc_59 : jp_chkL jcl jZ1 jSR 5 false cX5_fills jo_59 ji_59 = true := by decide +kernel
set_option maxRecDepth 100000 in
theorem jgO_59 : GoodIn lw_tbl jwO_59 := goodIn_r _ [1081, 160, 1080, 26, 568, 566, 304, 566, 304, 568, 568, 568] rfl (by decide +kernel)
set_option maxRecDepth 100000 in
theorem jn_59 : jp_nws jY RX5 jo_59 ji_59 = ([] : List Nat).filterMap (fun i => jNW[i]?) := rfl
set_option maxRecDepth 100000 in
theorem jc_60 : jp_chkL jcl jZ1 jSR 6 true cX6_init jo_60 ji_60 = true := by decide +kernel
set_option maxRecDepth 100000 in
theorem jgO_60 : GoodIn lw_tbl jwO_60 := goodIn_r _ [503, 158, 502, 504, 508, 519, 506] rfl (by decide +kernel)
set_option maxRecDepth 100000 in
theorem jn_60 : jp_nws jY RX6 jo_60 ji_60 = ([] : List Nat).filterMap (fun i => jNW[i]?) := rfl
set_option maxRecDepth 100000 in
theorem jc_61 : jp_chkL jcl jZ1 jSR 6 false cX6_opens jo_61 ji_61 = true := by decide +kernel
set_option maxRecDepth 100000 in
theorem jgO_61 : GoodIn lw_tbl jwO_61 := goodIn_r _ [868, 158, 866, 867, 506, 869, 507, 510, 517, 519, 508, 508, 508, 508, 873] rfl (by decide +kernel)
set_option maxRecDepth 100000 in
theorem jn_61 : jp_nws jY RX6 jo_61 ji_61 = ([] : List Nat).filterMap (fun i => jNW[i]?) := rfl
set_option maxRecDepth 100000 in
theorem jc_62 : jp_chkL jcl jZ1 jSR 6 false cX6_fails jo_62 ji_62 = true := by decide +kernel
set_option maxRecDepth 100000 in
theorem jgO_62 : GoodIn lw_tbl jwO_62 := goodIn_r _ [1010, 158, 1008, 1009, 517, 509, 519] rfl (by decide +kernel)
set_option maxRecDepth 100000 in
theorem jn_62 : jp_nws jY RX6 jo_62 ji_62 = ([] : List Nat).filterMap (fun i => jNW[i]?) := rfl
set_option maxRecDepth 100000 in
theorem jc_63 : jp_chkL jcl jZ1 jSR 6 false cX6_isWord jo_63 ji_63 = true := by decide +kernel
set_option maxRecDepth 100000 in
theorem jgO_63 : GoodIn lw_tbl jwO_63 := goodIn_r _ [1031, 158, 1029, 1030, 513, 515] rfl (by decide +kernel)
set_option maxRecDepth 100000 in
theorem jn_63 : jp_nws jY RX6 jo_63 ji_63 = ([] : List Nat).filterMap (fun i => jNW[i]?) := rfl
set_option maxRecDepth 100000 in
theorem jc_64 : jp_chkL jcl jZ1 jSR 6 false cX6_isSign jo_64 ji_64 = true := by decide +kernel
set_option maxRecDepth 100000 in
theorem jgO_64 : GoodIn lw_tbl jwO_64 := goodIn_r _ [1027, 158, 1025, 1026, 513, 515] rfl (by decide +kernel)
set_option maxRecDepth 100000 in
theorem jn_64 : jp_nws jY RX6 jo_64 ji_64 = ([] : List Nat).filterMap (fun i => jNW[i]?) := rfl
set_option maxRecDepth 100000 in
theorem jc_65 : jp_chkL jcl jZ1 jSR 6 false cX6_passesWord jo_65 ji_65 = true := by decide +kernel
set_option maxRecDepth 100000 in
theorem jgO_65 : GoodIn lw_tbl jwO_65 := goodIn_r _ [1068, 158, 1066, 1067, 1069, 1049, 873] rfl (by decide +kernel)
set_option maxRecDepth 100000 in
theorem jn_65 : jp_nws jY RX6 jo_65 ji_65 = ([] : List Nat).filterMap (fun i => jNW[i]?) := rfl
set_option maxRecDepth 100000 in
theorem jc_66 : jp_chkL jcl jZ1 jSR 6 false cX6_passesSign jo_66 ji_66 = true := by decide +kernel
set_option maxRecDepth 100000 in
theorem jgO_66 : GoodIn lw_tbl jwO_66 := goodIn_r _ [1047, 158, 1045, 1046, 1048, 1049, 873] rfl (by decide +kernel)
set_option maxRecDepth 100000 in
theorem jn_66 : jp_nws jY RX6 jo_66 ji_66 = ([] : List Nat).filterMap (fun i => jNW[i]?) := rfl
set_option maxRecDepth 100000 in
theorem jc_67 : jp_chkL jcl jZ1 jSR 6 false cX6_advances jo_67 ji_67 = true := by decide +kernel
set_option maxRecDepth 100000 in
theorem jgO_67 : GoodIn lw_tbl jwO_67 := goodIn_r _ [876, 158, 874, 875, 510, 509, 509, 507, 506, 509, 506, 509, 509, 509, 509, 510, 509, 507, 513, 506, 509, 877, 510, 507, 506, 510, 877, 510, 510, 880, 515, 515, 513, 506, 509, 932, 935, 509, 510, 506, 509, 515, 515, 515, 940, 513] rfl (by decide +kernel)
set_option maxRecDepth 100000 in
theorem jn_67 : jp_nws jY RX6 jo_67 ji_67 = ([] : List Nat).filterMap (fun i => jNW[i]?) := rfl
set_option maxRecDepth 100000 in
theorem jc_68 : jp_chkL jcl jZ1 jSR 6 false cX6_readsDigits jo_68 ji_68 = true := by decide +kernel
set_option maxRecDepth 100000 in
theorem jgO_68 : GoodIn lw_tbl jwO_68 := goodIn_r _ [938, 158, 937, 16, 515, 510, 507, 506, 510, 932, 510, 509, 515, 506, 510, 515, 515, 510, 510, 510, 509, 513] rfl (by decide +kernel)
set_option maxRecDepth 100000 in
theorem jn_68 : jp_nws jY RX6 jo_68 ji_68 = ([] : List Nat).filterMap (fun i => jNW[i]?) := rfl
set_option maxRecDepth 100000 in
theorem jc_69 : jp_chkL jcl jZ1 jSR 6 false cX6_isLetter jo_69 ji_69 = true := by decide +kernel
set_option maxRecDepth 100000 in
theorem jgO_69 : GoodIn lw_tbl jwO_69 := goodIn_r _ [879, 158, 878] rfl (by decide +kernel)
set_option maxRecDepth 100000 in
theorem jn_69 : jp_nws jY RX6 jo_69 ji_69 = ([] : List Nat).filterMap (fun i => jNW[i]?) := rfl
set_option maxRecDepth 100000 in
theorem jc_70 : jp_chkL jcl jZ1 jSR 6 false cX6_isDigit jo_70 ji_70 = true := by decide +kernel
set_option maxRecDepth 100000 in
theorem jgO_70 : GoodIn lw_tbl jwO_70 := goodIn_r _ [934, 158, 933] rfl (by decide +kernel)
set_option maxRecDepth 100000 in
theorem jn_70 : jp_nws jY RX6 jo_70 ji_70 = ([] : List Nat).filterMap (fun i => jNW[i]?) := rfl
set_option maxRecDepth 100000 in
theorem jc_71 : jp_chkL jcl jZ1 jSR 6 false cX6_wordNumber jo_71 ji_71 = true := by decide +kernel
set_option maxRecDepth 100000 in
theorem jgO_71 : GoodIn lw_tbl jwO_71 := goodIn_r _ [883, 158, 882, 15, 509, 508, 884, 508, 894, 510, 506, 510, 509] rfl (by decide +kernel)
set_option maxRecDepth 100000 in
theorem jn_71 : jp_nws jY RX6 jo_71 ji_71 = ([] : List Nat).filterMap (fun i => jNW[i]?) := rfl
set_option maxRecDepth 100000 in
theorem jc_72 : jp_chkL jcl jZ1 jSR 7 true cX7_init jo_72 ji_72 = true := by decide +kernel
set_option maxRecDepth 100000 in
theorem jgO_72 : GoodIn lw_tbl jwO_72 := goodIn_r _ [290, 152, 289, 291, 292, 247, 301] rfl (by decide +kernel)
set_option maxRecDepth 100000 in
theorem jn_72 : jp_nws jY RX7 jo_72 ji_72 = ([] : List Nat).filterMap (fun i => jNW[i]?) := rfl
set_option maxRecDepth 100000 in
theorem jc_73 : jp_chkL jcl jZ1 jSR 7 false cX7_becomes jo_73 ji_73 = true := by decide +kernel
set_option maxRecDepth 100000 in
theorem jgO_73 : GoodIn lw_tbl jwO_73 := goodIn_r _ [1107, 152, 1105, 1106, 295, 295, 301, 301, 301, 301, 1108, 1109] rfl (by decide +kernel)
set_option maxRecDepth 100000 in
theorem jn_73 : jp_nws jY RX7 jo_73 ji_73 = ([] : List Nat).filterMap (fun i => jNW[i]?) := rfl
set_option maxRecDepth 100000 in
theorem jc_74 : jp_chkL jcl jZ1 jSR 8 true cX8_init jo_74 ji_74 = true := by decide +kernel
set_option maxRecDepth 100000 in
theorem jgO_74 : GoodIn lw_tbl jwO_74 := goodIn_r _ [315, 154, 314, 316, 247, 326, 247, 329, 247, 332, 247, 335, 247, 338, 338] rfl (by decide +kernel)
set_option maxRecDepth 100000 in
theorem jn_74 : jp_nws jY RX8 jo_74 ji_74 = ([] : List Nat).filterMap (fun i => jNW[i]?) := rfl
set_option maxRecDepth 100000 in
theorem jc_75 : jp_chkL jcl jZ1 jSR 8 false cX8_becomes jo_75 ji_75 = true := by decide +kernel
set_option maxRecDepth 100000 in
theorem jgO_75 : GoodIn lw_tbl jwO_75 := goodIn_r _ [1387, 154, 1385, 1386, 317, 317, 320, 320, 323, 323, 326, 326, 326, 1388, 329, 329, 329, 1388, 332, 332, 332, 1388, 335, 335, 335, 1388, 338, 338, 338, 1388] rfl (by decide +kernel)
set_option maxRecDepth 100000 in
theorem jn_75 : jp_nws jY RX8 jo_75 ji_75 = ([] : List Nat).filterMap (fun i => jNW[i]?) := rfl
set_option maxRecDepth 100000 in
theorem jc_76 : jp_chkL jcl jZ1 jSR 9 true cX9_init jo_76 ji_76 = true := by decide +kernel
set_option maxRecDepth 100000 in
theorem jgO_76 : GoodIn lw_tbl jwO_76 := goodIn_r _ [463, 157, 462, 464, 247, 467, 247, 468, 247, 469, 247, 470, 247, 471, 465, 466] rfl (by decide +kernel)
set_option maxRecDepth 100000 in
theorem jn_76 : jp_nws jY RX9 jo_76 ji_76 = ([] : List Nat).filterMap (fun i => jNW[i]?) := rfl
set_option maxRecDepth 100000 in
theorem jc_77 : jp_chkL jcl jZ1 jSR 9 false cX9_choosesWishes jo_77 ji_77 = true := by decide +kernel
set_option maxRecDepth 100000 in
theorem jgO_77 : GoodIn lw_tbl jwO_77 := goodIn_r _ [1215, 157, 1213, 1214, 1216, 472, 474, 465, 318, 1224, 472, 472, 474] rfl (by decide +kernel)
set_option maxRecDepth 100000 in
theorem jn_77 : jp_nws jY RX9 jo_77 ji_77 = ([] : List Nat).filterMap (fun i => jNW[i]?) := rfl
set_option maxRecDepth 100000 in
theorem jc_78 : jp_chkL jcl jZ1 jSR 9 false cX9_learnsClashes jo_78 ji_78 = true := by decide +kernel
set_option maxRecDepth 100000 in
theorem jgO_78 : GoodIn lw_tbl jwO_78 := goodIn_r _ [1219, 157, 1218, 38, 465, 318, 467, 465, 318, 1220, 467] rfl (by decide +kernel)
set_option maxRecDepth 100000 in
theorem jn_78 : jp_nws jY RX9 jo_78 ji_78 = ([] : List Nat).filterMap (fun i => jNW[i]?) := rfl
set_option maxRecDepth 100000 in
theorem jc_79 : jp_chkL jcl jZ1 jSR 9 false cX9_shareDay jo_79 ji_79 = true := by decide +kernel
set_option maxRecDepth 100000 in
theorem jgO_79 : GoodIn lw_tbl jwO_79 := goodIn_r _ [1223, 157, 1222, 39, 465, 327] rfl (by decide +kernel)
set_option maxRecDepth 100000 in
theorem jn_79 : jp_nws jY RX9 jo_79 ji_79 = ([] : List Nat).filterMap (fun i => jNW[i]?) := rfl
