set_option maxRecDepth 20000 in
theorem ggL_law_X5_init : GoodIn wsL_law wsX5_init := goodIn_r _ [5, 6, 7, 8, 9, 10, 11, 12, 13, 14, 15, 16, 17, 18, 19, 20, 21, 22, 23, 24, 25, 26, 27, 28, 29, 30, 31, 32, 33, 34, 35, 36, 37, 38, 39, 40, 41, 42, 43, 44, 45, 46, 47, 48, 49, 50, 51, 52, 53, 54, 55, 56, 57, 58, 59, 60, 61, 62, 63, 64, 65, 66, 67, 68, 69, 70, 71, 72, 73, 74, 75, 76, 77, 78, 79, 80, 81, 82, 83, 84, 85, 86, 87, 88, 89, 90, 594, 595, 596, 597, 598, 599, 600, 601, 602, 603, 604, 605, 606, 607, 608, 609, 610, 611, 612, 613, 614, 615, 616, 617, 618, 619, 620, 621, 622, 623, 624, 625, 626, 627, 628, 629, 630, 631, 632, 633, 634, 635, 636, 637] (by decide +kernel) (by decide +kernel)
set_option maxRecDepth 20000 in
theorem gL_law_X5_init : GoodIn wsL_law (wsX5_init) := ggL_law_X5_init
set_option maxRecDepth 20000 in
theorem ggL_law_L_cell : GoodIn wsL_law wsL_cell := goodIn_r _ [94, 95] (by decide +kernel) (by decide +kernel)
set_option maxRecDepth 20000 in
theorem gL_law_L_cell : GoodIn wsL_law (va_wsS RL 70 yL_cell wsL_cell) := goodIn_app (goodIn_of _ (by decide +kernel)) ggL_law_L_cell
set_option maxRecDepth 20000 in
theorem ggL_law_L_below : GoodIn wsL_law wsL_below := goodIn_r _ [98, 99] (by decide +kernel) (by decide +kernel)
set_option maxRecDepth 20000 in
theorem gL_law_L_below : GoodIn wsL_law (va_wsS RL 9 yL_below wsL_below) := goodIn_app (goodIn_of _ (by decide +kernel)) ggL_law_L_below
set_option maxRecDepth 20000 in
theorem ggL_law_L_paint : GoodIn wsL_law wsL_paint := goodIn_ca (goodIn_r _ [102, 103, 96, 97, 93, 98, 99, 104, 105, 106, 2, 107, 108, 109, 110, 111, 112, 113, 114, 115, 116, 10, 117, 118, 119, 120, 121, 122, 123, 124, 125, 126, 127, 128, 129, 130, 131, 132, 133, 134, 135, 136, 25, 137, 138, 139, 140, 141, 142, 143, 144, 145, 146, 147, 594, 595, 596, 597, 598, 599, 600, 601, 602, 603, 604, 605, 606, 607] (by decide +kernel) (by decide +kernel)) (goodIn_sub (fun _ h => List.mem_append_left _ (List.mem_append_left _ (List.mem_append_right _ h))) (by decide +kernel))
set_option maxRecDepth 20000 in
theorem gL_law_L_paint : GoodIn wsL_law (va_wsS RL 74 yL_paint wsL_paint) := goodIn_app (goodIn_of _ (by decide +kernel)) ggL_law_L_paint
set_option maxRecDepth 20000 in
theorem ggL_law_X5_setStep : GoodIn wsL_law wsX5_setStep := goodIn_ca (goodIn_r _ [151, 108, 109, 31, 117, 118, 2, 119, 594, 595, 596, 597, 598, 599, 600, 601, 602, 603, 604, 605, 606, 607] (by decide +kernel) (by decide +kernel)) (goodIn_sub (fun _ h => List.mem_append_left _ (List.mem_append_left _ (List.mem_append_right _ h))) (by decide +kernel))
set_option maxRecDepth 20000 in
theorem gL_law_X5_setStep : GoodIn wsL_law (wsV RL 78 RX5 yX5_setStep wsX5_setStep) := goodIn_app (goodIn_of _ (by decide +kernel)) ggL_law_X5_setStep
set_option maxRecDepth 20000 in
theorem ggL_law_X5_setSmoothing : GoodIn wsL_law wsX5_setSmoothing := goodIn_r _ [155, 34, 594, 595, 596, 597, 598, 599, 600, 601, 602, 603, 604, 605, 606, 607] (by decide +kernel) (by decide +kernel)
set_option maxRecDepth 20000 in
theorem gL_law_X5_setSmoothing : GoodIn wsL_law (wsV RL 81 RX5 yX5_setSmoothing wsX5_setSmoothing) := goodIn_app (goodIn_of _ (by decide +kernel)) ggL_law_X5_setSmoothing
set_option maxRecDepth 20000 in
theorem ggL_law_X5_askKey : GoodIn wsL_law wsX5_askKey := goodIn_r _ [159, 35, 160, 161, 162, 2, 163, 29, 30, 33, 594, 595, 596, 597, 598, 599, 600, 601, 602, 603, 604, 605, 606, 607] (by decide +kernel) (by decide +kernel)
set_option maxRecDepth 20000 in
theorem gL_law_X5_askKey : GoodIn wsL_law (wsV RL 85 RX5 yX5_askKey wsX5_askKey) := goodIn_app (goodIn_of _ (by decide +kernel)) ggL_law_X5_askKey
set_option maxRecDepth 20000 in
theorem ggL_law_X5_setTarget : GoodIn wsL_law wsX5_setTarget := goodIn_ca (goodIn_r _ [167, 108, 109, 32, 117, 118, 2, 119, 594, 595, 596, 597, 598, 599, 600, 601, 602, 603, 604, 605, 606, 607] (by decide +kernel) (by decide +kernel)) (goodIn_sub (fun _ h => List.mem_append_left _ (List.mem_append_left _ (List.mem_append_right _ h))) (by decide +kernel))
set_option maxRecDepth 20000 in
theorem gL_law_X5_setTarget : GoodIn wsL_law (wsV RL 89 RX5 yX5_setTarget wsX5_setTarget) := goodIn_app (goodIn_of _ (by decide +kernel)) ggL_law_X5_setTarget
set_option maxRecDepth 20000 in
theorem ggL_law_X5_step : GoodIn wsL_law wsX5_step := goodIn_r _ [171, 31, 594, 595, 596, 597, 598, 599, 600, 601, 602, 603, 604, 605, 606, 607] (by decide +kernel) (by decide +kernel)
set_option maxRecDepth 20000 in
theorem gL_law_X5_step : GoodIn wsL_law (wsV RL 92 RX5 yX5_step wsX5_step) := goodIn_app (goodIn_of _ (by decide +kernel)) ggL_law_X5_step
