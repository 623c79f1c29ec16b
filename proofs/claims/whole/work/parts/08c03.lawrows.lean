set_option maxRecDepth 20000 in
theorem ggL_law_X10_end : GoodIn wsL_law wsX10_end := goodIn_r _ [383, 93, 92, 157, 158, 5, 159, 160, 161, 162, 365, 366, 367, 368, 91, 99, 98, 100, 327, 328, 329, 330, 331, 332, 333, 201, 202, 203, 204, 90, 170, 171, 172, 173, 174, 1047, 1048, 1049, 1050, 1051, 1052, 1053, 1054, 1055, 1056, 1057, 1058, 1059, 1060, 1061, 1062, 1063, 1064, 1065, 1066, 1067, 1068, 1069, 1070, 1071, 1072, 1073, 1074, 1075, 1076] (by decide +kernel) (by decide +kernel)
set_option maxRecDepth 20000 in
theorem gL_law_X10_end : GoodIn wsL_law (wsV RL 176 RX10 yX10_end wsX10_end) := goodIn_app (goodIn_of _ (by decide +kernel)) ggL_law_X10_end
set_option maxRecDepth 20000 in
theorem ggL_law_X9_store : GoodIn wsL_law wsX9_store := goodIn_r _ [387, 23, 388, 1041, 1042, 1043, 1044, 1045, 1046, 1080, 1081] (by decide +kernel) (by decide +kernel)
set_option maxRecDepth 20000 in
theorem gL_law_X9_store : GoodIn wsL_law (wsV RL 177 RX9 yX9_store wsX9_store) := goodIn_app (goodIn_of _ (by decide +kernel)) ggL_law_X9_store
set_option maxRecDepth 20000 in
theorem ggL_law_X10_store : GoodIn wsL_law wsX10_store := goodIn_r _ [392, 174, 93, 97, 117, 118, 393, 394, 395, 5, 396, 397, 398, 399, 400, 92, 401, 402, 403, 404, 201, 202, 203, 204, 90, 1047, 1048, 1049, 1050, 1051, 1052, 1053, 1054, 1055, 1056, 1057, 1058, 1059, 1060, 1061, 1062, 1063, 1064, 1065, 1066, 1067, 1068, 1069, 1070, 1071, 1072, 1073, 1074, 1075, 1076] (by decide +kernel) (by decide +kernel)
set_option maxRecDepth 20000 in
theorem gL_law_X10_store : GoodIn wsL_law (wsV RL 180 RX10 yX10_store wsX10_store) := goodIn_app (goodIn_of _ (by decide +kernel)) ggL_law_X10_store
set_option maxRecDepth 20000 in
theorem ggL_law_L_setNight : GoodIn wsL_law wsL_setNight := goodIn_ca (goodIn_r _ [407, 123, 408, 409, 410, 2, 411, 27, 412, 413, 142, 143, 144, 140, 141, 1041, 1042, 1043, 1044, 1045, 1046, 1082, 1083, 1084] (by decide +kernel) (by decide +kernel)) (goodIn_sub (fun _ h => List.mem_append_right _ h) (by decide +kernel))
set_option maxRecDepth 20000 in
theorem gL_law_L_setNight : GoodIn wsL_law (va_wsS RL 181 yL_setNight wsL_setNight) := goodIn_app (goodIn_of _ (by decide +kernel)) ggL_law_L_setNight
set_option maxRecDepth 20000 in
theorem ggL_law_X10_setNight : GoodIn wsL_law wsX10_setNight := goodIn_r _ [417, 101, 102, 160, 161, 5, 162, 170, 171, 172, 173, 174, 1047, 1048, 1049, 1050, 1051, 1052, 1053, 1054, 1055, 1056, 1057, 1058, 1059, 1060, 1061, 1062, 1063, 1064, 1065, 1066, 1067, 1068, 1069, 1070, 1071, 1072, 1073, 1074, 1075, 1076] (by decide +kernel) (by decide +kernel)
set_option maxRecDepth 20000 in
theorem gL_law_X10_setNight : GoodIn wsL_law (wsV RL 184 RX10 yX10_setNight wsX10_setNight) := goodIn_app (goodIn_of _ (by decide +kernel)) ggL_law_X10_setNight
set_option maxRecDepth 20000 in
theorem ggL_law_L_bid : GoodIn wsL_law wsL_bid := goodIn_ca (goodIn_r _ [420, 123, 421, 422, 423, 2, 424, 425, 136, 137, 138, 139, 140, 141, 15, 142, 143, 144, 1087, 1088, 1089, 1090, 1091, 1092, 1093, 1094, 1095, 1096, 1097, 1098, 1099, 1041, 1042, 1043, 1044, 1045, 1046] (by decide +kernel) (by decide +kernel)) (goodIn_sub (fun _ h => List.mem_append_right _ h) (by decide +kernel))
set_option maxRecDepth 20000 in
theorem gL_law_L_bid : GoodIn wsL_law (va_wsS RL 185 yL_bid wsL_bid) := goodIn_app (goodIn_of _ (by decide +kernel)) ggL_law_L_bid
set_option maxRecDepth 20000 in
theorem ggL_law_X10_bid : GoodIn wsL_law wsX10_bid := goodIn_r _ [429, 105, 157, 158, 5, 159, 160, 161, 162, 170, 171, 172, 173, 174, 1047, 1048, 1049, 1050, 1051, 1052, 1053, 1054, 1055, 1056, 1057, 1058, 1059, 1060, 1061, 1062, 1063, 1064, 1065, 1066, 1067, 1068, 1069, 1070, 1071, 1072, 1073, 1074, 1075, 1076] (by decide +kernel) (by decide +kernel)
set_option maxRecDepth 20000 in
theorem gL_law_X10_bid : GoodIn wsL_law (wsV RL 187 RX10 yX10_bid wsX10_bid) := goodIn_app (goodIn_of _ (by decide +kernel)) ggL_law_X10_bid
set_option maxRecDepth 20000 in
theorem ggL_law_L_setChain : GoodIn wsL_law wsL_setChain := goodIn_ca (goodIn_r _ [432, 123, 433, 434, 435, 2, 436, 437, 438, 136, 137, 138, 139, 140, 141, 15, 142, 143, 144, 1087, 1088, 1089, 1090, 1091, 1092, 1093, 1094, 1095, 1096, 1097, 1098, 1099, 1041, 1042, 1043, 1044, 1045, 1046] (by decide +kernel) (by decide +kernel)) (goodIn_sub (fun _ h => List.mem_append_right _ h) (by decide +kernel))
set_option maxRecDepth 20000 in
theorem gL_law_L_setChain : GoodIn wsL_law (va_wsS RL 188 yL_setChain wsL_setChain) := goodIn_app (goodIn_of _ (by decide +kernel)) ggL_law_L_setChain
