set_option maxRecDepth 20000 in
theorem ggL_law_X10_night : GoodIn wsL_law wsX10_night := goodIn_r _ [706, 516, 112, 116, 110, 115, 170, 171, 172, 5, 173, 174, 599, 600, 601, 602, 101, 113, 105, 102, 114, 603, 604, 605, 606, 607, 608, 609, 610, 106, 107, 611, 612, 613, 614, 94, 512, 513, 514, 515, 517, 518, 519, 520, 615, 616, 617, 618, 93, 365, 366, 367, 368, 91, 99, 98, 100, 92, 327, 328, 329, 330, 331, 332, 333, 201, 202, 203, 204, 90, 393, 394, 395, 396, 397, 398, 399, 400, 401, 402, 403, 404, 492, 493, 494, 495, 496, 497, 498, 499, 521, 522, 523, 524, 525, 526, 527, 528, 529, 530, 531, 532, 95, 533, 534, 535, 536, 97, 707, 708, 709, 710, 711, 712, 713, 714, 1047, 1048, 1049, 1050, 1051, 1052, 1053, 1054, 1055, 1056, 1057, 1058, 1059, 1060, 1061, 1062, 1063, 1064, 1065, 1066, 1067, 1068, 1069, 1070, 1071, 1072, 1073, 1074, 1075, 1076] (by decide +kernel) (by decide +kernel)
set_option maxRecDepth 20000 in
theorem gL_law_X10_night : GoodIn wsL_law (wsV RL 203 RX10 yX10_night wsX10_night) := goodIn_app (goodIn_of _ (by decide +kernel)) ggL_law_X10_night
set_option maxRecDepth 20000 in
theorem ggL_law_X9_nights : GoodIn wsL_law wsX9_nights := goodIn_r _ [718, 32, 1041, 1042, 1043, 1044, 1045, 1046] (by decide +kernel) (by decide +kernel)
set_option maxRecDepth 20000 in
theorem gL_law_X9_nights : GoodIn wsL_law (wsV RL 204 RX9 yX9_nights wsX9_nights) := goodIn_app (goodIn_of _ (by decide +kernel)) ggL_law_X9_nights
set_option maxRecDepth 20000 in
theorem ggL_law_X10_nights : GoodIn wsL_law wsX10_nights := goodIn_r _ [722, 174, 516, 1047, 1048, 1049, 1050, 1051, 1052, 1053, 1054, 1055, 1056, 1057, 1058, 1059, 1060, 1061, 1062, 1063, 1064, 1065, 1066, 1067, 1068, 1069, 1070, 1071, 1072, 1073, 1074, 1075, 1076] (by decide +kernel) (by decide +kernel)
set_option maxRecDepth 20000 in
theorem gL_law_X10_nights : GoodIn wsL_law (wsV RL 207 RX10 yX10_nights wsX10_nights) := goodIn_app (goodIn_of _ (by decide +kernel)) ggL_law_X10_nights
set_option maxRecDepth 20000 in
theorem ggL_law_L_got : GoodIn wsL_law wsL_got := goodIn_ca (goodIn_ca (goodIn_r _ [725, 123, 124, 726, 727, 728, 2, 729, 730, 136, 137, 138, 139, 140, 141, 15, 731, 732, 733, 734, 130, 131, 32, 735, 736, 737, 34, 738, 66, 1104, 1105, 1106, 1041, 1042, 1043, 1044, 1045, 1046, 1087, 1088, 1089, 1090, 1091, 1092, 1093, 1094, 1095, 1096, 1097, 1098, 1099] (by decide +kernel) (by decide +kernel)) (goodIn_sub (fun _ h => List.mem_append_right _ h) (by decide +kernel))) (goodIn_sub (fun _ h => List.mem_append_left _ (List.mem_append_left _ (List.mem_append_right _ h))) (by decide +kernel))
set_option maxRecDepth 20000 in
theorem gL_law_L_got : GoodIn wsL_law (va_wsS RL 208 yL_got wsL_got) := goodIn_app (goodIn_of _ (by decide +kernel)) ggL_law_L_got
set_option maxRecDepth 20000 in
theorem ggL_law_X10_got : GoodIn wsL_law wsX10_got := goodIn_r _ [742, 94, 157, 158, 5, 159, 160, 161, 162, 743, 744, 745, 746, 516, 170, 171, 172, 173, 174, 1047, 1048, 1049, 1050, 1051, 1052, 1053, 1054, 1055, 1056, 1057, 1058, 1059, 1060, 1061, 1062, 1063, 1064, 1065, 1066, 1067, 1068, 1069, 1070, 1071, 1072, 1073, 1074, 1075, 1076] (by decide +kernel) (by decide +kernel)
set_option maxRecDepth 20000 in
theorem gL_law_X10_got : GoodIn wsL_law (wsV RL 210 RX10 yX10_got wsX10_got) := goodIn_app (goodIn_of _ (by decide +kernel)) ggL_law_X10_got
set_option maxRecDepth 20000 in
theorem ggL_law_L_dayOf : GoodIn wsL_law wsL_dayOf := goodIn_ca (goodIn_ca (goodIn_r _ [749, 123, 124, 750, 751, 752, 2, 753, 136, 137, 138, 139, 140, 141, 15, 731, 732, 733, 734, 130, 131, 32, 754, 755, 756, 34, 757, 66, 758, 759, 592, 760, 1041, 1042, 1043, 1044, 1045, 1046, 1087, 1088, 1089, 1090, 1091, 1092, 1093, 1094, 1095, 1096, 1097, 1098, 1099] (by decide +kernel) (by decide +kernel)) (goodIn_sub (fun _ h => List.mem_append_right _ h) (by decide +kernel))) (goodIn_sub (fun _ h => List.mem_append_left _ (List.mem_append_left _ (List.mem_append_right _ h))) (by decide +kernel))
set_option maxRecDepth 20000 in
theorem gL_law_L_dayOf : GoodIn wsL_law (va_wsS RL 211 yL_dayOf wsL_dayOf) := goodIn_app (goodIn_of _ (by decide +kernel)) ggL_law_L_dayOf
set_option maxRecDepth 20000 in
theorem ggL_law_X10_dayOf : GoodIn wsL_law wsX10_dayOf := goodIn_r _ [764, 157, 158, 5, 159, 160, 161, 162, 743, 744, 745, 746, 516, 170, 171, 172, 173, 174, 517, 518, 519, 520, 94, 1047, 1048, 1049, 1050, 1051, 1052, 1053, 1054, 1055, 1056, 1057, 1058, 1059, 1060, 1061, 1062, 1063, 1064, 1065, 1066, 1067, 1068, 1069, 1070, 1071, 1072, 1073, 1074, 1075, 1076] (by decide +kernel) (by decide +kernel)
set_option maxRecDepth 20000 in
theorem gL_law_X10_dayOf : GoodIn wsL_law (wsV RL 213 RX10 yX10_dayOf wsX10_dayOf) := goodIn_app (goodIn_of _ (by decide +kernel)) ggL_law_X10_dayOf
set_option maxRecDepth 20000 in
theorem ggL_law_L_chain : GoodIn wsL_law wsL_chain := goodIn_ca (goodIn_r _ [767, 123, 768, 769, 770, 2, 771, 507, 136, 137, 138, 139, 140, 141, 15, 772, 562, 563, 458, 564, 461, 1087, 1088, 1089, 1090, 1091, 1092, 1093, 1094, 1095, 1096, 1097, 1098, 1099, 1041, 1042, 1043, 1044, 1045, 1046, 1104, 1105, 1106] (by decide +kernel) (by decide +kernel)) (goodIn_sub (fun _ h => List.mem_append_right _ h) (by decide +kernel))
set_option maxRecDepth 20000 in
theorem gL_law_L_chain : GoodIn wsL_law (va_wsS RL 214 yL_chain wsL_chain) := goodIn_app (goodIn_of _ (by decide +kernel)) ggL_law_L_chain
