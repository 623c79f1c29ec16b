set_option maxRecDepth 20000 in
theorem ggL_law_X9_copy : GoodIn wsL_law wsX9_copy := goodIn_ca (goodIn_ca (goodIn_ca (goodIn_r _ [170, 118, 119, 104, 105, 106, 107, 108, 2, 109, 110, 111, 15, 155, 156, 157, 116, 117, 158, 159, 160, 63, 161, 83, 123, 124, 125, 126, 81, 171, 172, 173, 174, 150, 139, 140, 141, 605, 606, 607, 608, 609, 610, 611, 612, 613, 614, 615, 616, 617, 618, 619, 620, 621, 589, 590, 591, 592, 593, 594] (by decide +kernel) (by decide +kernel)) (goodIn_sub (fun _ h => List.mem_append_right _ h) (by decide +kernel))) (goodIn_sub (fun _ h => List.mem_append_left _ (List.mem_append_left _ (List.mem_append_right _ h))) (by decide +kernel))) (goodIn_sub (fun _ h => List.mem_append_left _ (List.mem_append_right _ h)) (by decide +kernel))
set_option maxRecDepth 20000 in
theorem gL_law_X9_copy : GoodIn wsL_law (wsV RL 112 RX9 yX9_copy wsX9_copy) := goodIn_app (goodIn_of _ (by decide +kernel)) ggL_law_X9_copy
set_option maxRecDepth 20000 in
theorem ggL_law_X9_setMarks : GoodIn wsL_law wsX9_setMarks := goodIn_ca (goodIn_r _ [178, 19, 179, 180, 181, 120, 121, 2, 122, 110, 111, 589, 590, 591, 592, 593, 594, 595, 596, 597] (by decide +kernel) (by decide +kernel)) (goodIn_sub (fun _ h => List.mem_append_left _ (List.mem_append_left _ (List.mem_append_right _ h))) (by decide +kernel))
set_option maxRecDepth 20000 in
theorem gL_law_X9_setMarks : GoodIn wsL_law (wsV RL 116 RX9 yX9_setMarks wsX9_setMarks) := goodIn_app (goodIn_of _ (by decide +kernel)) ggL_law_X9_setMarks
set_option maxRecDepth 20000 in
theorem ggL_law_X9_setNight : GoodIn wsL_law wsX9_setNight := goodIn_ca (goodIn_r _ [185, 27, 186, 187, 120, 121, 2, 122, 110, 111, 589, 590, 591, 592, 593, 594, 600, 601, 602] (by decide +kernel) (by decide +kernel)) (goodIn_sub (fun _ h => List.mem_append_left _ (List.mem_append_left _ (List.mem_append_right _ h))) (by decide +kernel))
set_option maxRecDepth 20000 in
theorem gL_law_X9_setNight : GoodIn wsL_law (wsV RL 120 RX9 yX9_setNight wsX9_setNight) := goodIn_app (goodIn_of _ (by decide +kernel)) ggL_law_X9_setNight
set_option maxRecDepth 20000 in
theorem ggL_law_X9_bid : GoodIn wsL_law wsX9_bid := goodIn_ca (goodIn_r _ [191, 192, 106, 107, 108, 2, 109, 110, 111, 15, 120, 121, 122, 605, 606, 607, 608, 609, 610, 611, 612, 613, 614, 615, 616, 617, 589, 590, 591, 592, 593, 594] (by decide +kernel) (by decide +kernel)) (goodIn_sub (fun _ h => List.mem_append_left _ (List.mem_append_left _ (List.mem_append_right _ h))) (by decide +kernel))
set_option maxRecDepth 20000 in
theorem gL_law_X9_bid : GoodIn wsL_law (wsV RL 124 RX9 yX9_bid wsX9_bid) := goodIn_app (goodIn_of _ (by decide +kernel)) ggL_law_X9_bid
