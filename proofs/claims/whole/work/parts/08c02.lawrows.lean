set_option maxRecDepth 20000 in
theorem ggL_law_X10_digest : GoodIn wsL_law wsX10_digest := goodIn_r _ [290, 157, 158, 5, 159, 160, 161, 162, 170, 171, 172, 173, 174, 291, 292, 293, 294, 91, 201, 202, 203, 204, 90, 1047, 1048, 1049, 1050, 1051, 1052, 1053, 1054, 1055, 1056, 1057, 1058, 1059, 1060, 1061, 1062, 1063, 1064, 1065, 1066, 1067, 1068, 1069, 1070, 1071, 1072, 1073, 1074, 1075, 1076] (by decide +kernel) (by decide +kernel)
set_option maxRecDepth 20000 in
theorem gL_law_X10_digest : GoodIn wsL_law (wsV RL 163 RX10 yX10_digest wsX10_digest) := goodIn_app (goodIn_of _ (by decide +kernel)) ggL_law_X10_digest
set_option maxRecDepth 20000 in
theorem ggL_law_L_setMarks : GoodIn wsL_law wsL_setMarks := goodIn_ca (goodIn_r _ [297, 123, 298, 299, 300, 2, 301, 19, 302, 303, 304, 142, 143, 144, 140, 141, 1041, 1042, 1043, 1044, 1045, 1046, 1077, 1078, 1079] (by decide +kernel) (by decide +kernel)) (goodIn_sub (fun _ h => List.mem_append_right _ h) (by decide +kernel))
set_option maxRecDepth 20000 in
theorem gL_law_L_setMarks : GoodIn wsL_law (va_wsS RL 164 yL_setMarks wsL_setMarks) := goodIn_app (goodIn_of _ (by decide +kernel)) ggL_law_L_setMarks
set_option maxRecDepth 20000 in
theorem ggL_law_X10_setMarks : GoodIn wsL_law wsX10_setMarks := goodIn_r _ [308, 98, 99, 100, 160, 161, 5, 162, 170, 171, 172, 173, 174, 1047, 1048, 1049, 1050, 1051, 1052, 1053, 1054, 1055, 1056, 1057, 1058, 1059, 1060, 1061, 1062, 1063, 1064, 1065, 1066, 1067, 1068, 1069, 1070, 1071, 1072, 1073, 1074, 1075, 1076] (by decide +kernel) (by decide +kernel)
set_option maxRecDepth 20000 in
theorem gL_law_X10_setMarks : GoodIn wsL_law (wsV RL 167 RX10 yX10_setMarks wsX10_setMarks) := goodIn_app (goodIn_of _ (by decide +kernel)) ggL_law_X10_setMarks
set_option maxRecDepth 20000 in
theorem ggL_law_L_mark : GoodIn wsL_law wsL_mark := goodIn_ca (goodIn_ca (goodIn_r _ [311, 123, 124, 312, 313, 314, 2, 315, 134, 19, 136, 137, 138, 139, 140, 141, 15, 186, 187, 188, 130, 131, 135, 316, 317, 318, 18, 319, 320, 321, 322, 194, 195, 63, 196, 82, 1087, 1088, 1089, 1090, 1091, 1092, 1093, 1094, 1095, 1096, 1097, 1098, 1099, 1041, 1042, 1043, 1044, 1045, 1046, 1100, 1101, 1102, 1103] (by decide +kernel) (by decide +kernel)) (goodIn_sub (fun _ h => List.mem_append_right _ h) (by decide +kernel))) (goodIn_sub (fun _ h => List.mem_append_left _ (List.mem_append_left _ (List.mem_append_right _ h))) (by decide +kernel))
set_option maxRecDepth 20000 in
theorem gL_law_L_mark : GoodIn wsL_law (va_wsS RL 168 yL_mark wsL_mark) := goodIn_app (goodIn_of _ (by decide +kernel)) ggL_law_L_mark
set_option maxRecDepth 20000 in
theorem ggL_law_X10_mark : GoodIn wsL_law wsX10_mark := goodIn_r _ [326, 157, 158, 5, 159, 160, 161, 162, 270, 271, 272, 273, 166, 167, 168, 169, 91, 170, 171, 172, 173, 174, 327, 328, 329, 330, 331, 332, 333, 201, 202, 203, 204, 90, 1047, 1048, 1049, 1050, 1051, 1052, 1053, 1054, 1055, 1056, 1057, 1058, 1059, 1060, 1061, 1062, 1063, 1064, 1065, 1066, 1067, 1068, 1069, 1070, 1071, 1072, 1073, 1074, 1075, 1076] (by decide +kernel) (by decide +kernel)
set_option maxRecDepth 20000 in
theorem gL_law_X10_mark : GoodIn wsL_law (wsV RL 170 RX10 yX10_mark wsX10_mark) := goodIn_app (goodIn_of _ (by decide +kernel)) ggL_law_X10_mark
set_option maxRecDepth 20000 in
theorem ggL_law_L_chunks : GoodIn wsL_law wsL_chunks := goodIn_ca (goodIn_r _ [336, 123, 337, 338, 339, 2, 340, 341, 342, 343, 344, 345, 134, 19, 136, 137, 138, 139, 140, 141, 15, 346, 347, 348, 18, 349, 350, 351, 352, 353, 354, 355, 40, 38, 39, 356, 317, 318, 319, 320, 321, 322, 194, 195, 63, 196, 82, 357, 358, 359, 360, 85, 83, 1100, 1101, 1102, 1103, 1087, 1088, 1089, 1090, 1091, 1092, 1093, 1094, 1095, 1096, 1097, 1098, 1099, 1041, 1042, 1043, 1044, 1045, 1046, 1077, 1078, 1079] (by decide +kernel) (by decide +kernel)) (goodIn_sub (fun _ h => List.mem_append_right _ h) (by decide +kernel))
set_option maxRecDepth 20000 in
theorem gL_law_L_chunks : GoodIn wsL_law (va_wsS RL 171 yL_chunks wsL_chunks) := goodIn_app (goodIn_of _ (by decide +kernel)) ggL_law_L_chunks
set_option maxRecDepth 20000 in
theorem ggL_law_X10_chunks : GoodIn wsL_law wsX10_chunks := goodIn_r _ [364, 93, 157, 158, 5, 159, 160, 161, 162, 170, 171, 172, 173, 174, 365, 366, 367, 368, 91, 99, 98, 100, 92, 327, 328, 329, 330, 331, 332, 333, 201, 202, 203, 204, 90, 1047, 1048, 1049, 1050, 1051, 1052, 1053, 1054, 1055, 1056, 1057, 1058, 1059, 1060, 1061, 1062, 1063, 1064, 1065, 1066, 1067, 1068, 1069, 1070, 1071, 1072, 1073, 1074, 1075, 1076] (by decide +kernel) (by decide +kernel)
set_option maxRecDepth 20000 in
theorem gL_law_X10_chunks : GoodIn wsL_law (wsV RL 173 RX10 yX10_chunks wsX10_chunks) := goodIn_app (goodIn_of _ (by decide +kernel)) ggL_law_X10_chunks
set_option maxRecDepth 20000 in
theorem ggL_law_L_end : GoodIn wsL_law wsL_end := goodIn_ca (goodIn_ca (goodIn_r _ [371, 123, 124, 372, 373, 374, 2, 375, 130, 131, 341, 342, 343, 344, 345, 134, 19, 136, 137, 138, 139, 140, 141, 15, 346, 347, 348, 18, 349, 350, 351, 352, 353, 354, 355, 40, 38, 39, 356, 317, 318, 319, 320, 321, 322, 194, 195, 63, 196, 82, 357, 358, 359, 360, 85, 83, 376, 377, 378, 379, 1100, 1101, 1102, 1103, 1087, 1088, 1089, 1090, 1091, 1092, 1093, 1094, 1095, 1096, 1097, 1098, 1099, 1041, 1042, 1043, 1044, 1045, 1046, 1077, 1078, 1079] (by decide +kernel) (by decide +kernel)) (goodIn_sub (fun _ h => List.mem_append_left _ (List.mem_append_left _ (List.mem_append_right _ h))) (by decide +kernel))) (goodIn_sub (fun _ h => List.mem_append_right _ h) (by decide +kernel))
set_option maxRecDepth 20000 in
theorem gL_law_L_end : GoodIn wsL_law (va_wsS RL 174 yL_end wsL_end) := goodIn_app (goodIn_of _ (by decide +kernel)) ggL_law_L_end
