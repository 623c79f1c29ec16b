set_option maxRecDepth 20000 in
theorem ggL_law_X10_drill : GoodIn wsL_law wsX10_drill := goodIn_r _ [1010, 108, 109, 111, 157, 158, 5, 159, 160, 161, 162, 512, 513, 514, 515, 516, 517, 518, 519, 520, 94, 170, 171, 172, 173, 174, 948, 949, 950, 951, 93, 103, 104, 496, 497, 498, 499, 393, 394, 395, 396, 397, 398, 399, 400, 92, 401, 402, 403, 404, 201, 202, 203, 204, 90, 915, 916, 917, 918, 95, 919, 920, 921, 922, 533, 534, 535, 536, 97, 1047, 1048, 1049, 1050, 1051, 1052, 1053, 1054, 1055, 1056, 1057, 1058, 1059, 1060, 1061, 1062, 1063, 1064, 1065, 1066, 1067, 1068, 1069, 1070, 1071, 1072, 1073, 1074, 1075, 1076] (by decide +kernel) (by decide +kernel)
set_option maxRecDepth 20000 in
theorem gL_law_X10_drill : GoodIn wsL_law (wsV RL 253 RX10 yX10_drill wsX10_drill) := goodIn_app (goodIn_of _ (by decide +kernel)) ggL_law_X10_drill
set_option maxRecDepth 20000 in
theorem ggL_law_L_paid : GoodIn wsL_law wsL_paid := goodIn_ca (goodIn_r _ [1013, 123, 1014, 1015, 1016, 2, 1017, 630, 136, 137, 138, 139, 140, 141, 15, 1087, 1088, 1089, 1090, 1091, 1092, 1093, 1094, 1095, 1096, 1097, 1098, 1099, 1041, 1042, 1043, 1044, 1045, 1046] (by decide +kernel) (by decide +kernel)) (goodIn_sub (fun _ h => List.mem_append_right _ h) (by decide +kernel))
set_option maxRecDepth 20000 in
theorem gL_law_L_paid : GoodIn wsL_law (va_wsS RL 254 yL_paid wsL_paid) := goodIn_app (goodIn_of _ (by decide +kernel)) ggL_law_L_paid
set_option maxRecDepth 20000 in
theorem ggL_law_X10_paid : GoodIn wsL_law wsX10_paid := goodIn_r _ [1021, 110, 157, 158, 5, 159, 160, 161, 162, 170, 171, 172, 173, 174, 1047, 1048, 1049, 1050, 1051, 1052, 1053, 1054, 1055, 1056, 1057, 1058, 1059, 1060, 1061, 1062, 1063, 1064, 1065, 1066, 1067, 1068, 1069, 1070, 1071, 1072, 1073, 1074, 1075, 1076] (by decide +kernel) (by decide +kernel)
set_option maxRecDepth 20000 in
theorem gL_law_X10_paid : GoodIn wsL_law (wsV RL 256 RX10 yX10_paid wsX10_paid) := goodIn_app (goodIn_of _ (by decide +kernel)) ggL_law_X10_paid
set_option maxRecDepth 20000 in
theorem ggL_law_L_owed : GoodIn wsL_law wsL_owed := goodIn_ca (goodIn_r _ [1024, 123, 1025, 1026, 1027, 2, 1028, 1001, 136, 137, 138, 139, 140, 141, 15, 1087, 1088, 1089, 1090, 1091, 1092, 1093, 1094, 1095, 1096, 1097, 1098, 1099, 1041, 1042, 1043, 1044, 1045, 1046] (by decide +kernel) (by decide +kernel)) (goodIn_sub (fun _ h => List.mem_append_right _ h) (by decide +kernel))
set_option maxRecDepth 20000 in
theorem gL_law_L_owed : GoodIn wsL_law (va_wsS RL 257 yL_owed wsL_owed) := goodIn_app (goodIn_of _ (by decide +kernel)) ggL_law_L_owed
set_option maxRecDepth 20000 in
theorem ggL_law_X10_owed : GoodIn wsL_law wsX10_owed := goodIn_r _ [1032, 111, 157, 158, 5, 159, 160, 161, 162, 170, 171, 172, 173, 174, 1047, 1048, 1049, 1050, 1051, 1052, 1053, 1054, 1055, 1056, 1057, 1058, 1059, 1060, 1061, 1062, 1063, 1064, 1065, 1066, 1067, 1068, 1069, 1070, 1071, 1072, 1073, 1074, 1075, 1076] (by decide +kernel) (by decide +kernel)
set_option maxRecDepth 20000 in
theorem gL_law_X10_owed : GoodIn wsL_law (wsV RL 259 RX10 yX10_owed wsX10_owed) := goodIn_app (goodIn_of _ (by decide +kernel)) ggL_law_X10_owed
set_option maxRecDepth 20000 in
theorem ggL_law_X9_purse : GoodIn wsL_law wsX9_purse := goodIn_r _ [1036, 15, 630, 1001, 1041, 1042, 1043, 1044, 1045, 1046, 1087, 1088, 1089, 1090, 1091, 1092, 1093, 1094, 1095, 1096, 1097, 1098, 1099] (by decide +kernel) (by decide +kernel)
set_option maxRecDepth 20000 in
theorem gL_law_X9_purse : GoodIn wsL_law (wsV RL 260 RX9 yX9_purse wsX9_purse) := goodIn_app (goodIn_of _ (by decide +kernel)) ggL_law_X9_purse
set_option maxRecDepth 20000 in
theorem ggL_law_X10_purse : GoodIn wsL_law wsX10_purse := goodIn_r _ [1040, 174, 110, 111, 1047, 1048, 1049, 1050, 1051, 1052, 1053, 1054, 1055, 1056, 1057, 1058, 1059, 1060, 1061, 1062, 1063, 1064, 1065, 1066, 1067, 1068, 1069, 1070, 1071, 1072, 1073, 1074, 1075, 1076] (by decide +kernel) (by decide +kernel)
set_option maxRecDepth 20000 in
theorem gL_law_X10_purse : GoodIn wsL_law (wsV RL 263 RX10 yX10_purse wsX10_purse) := goodIn_app (goodIn_of _ (by decide +kernel)) ggL_law_X10_purse
