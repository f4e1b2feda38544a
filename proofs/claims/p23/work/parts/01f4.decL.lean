set_option maxRecDepth 20000 in
theorem ggL_law_X3_undo : GoodIn wsL_law wsX3_undo := goodIn_r _ [60, 19, 12, 61, 62, 63, 18, 64, 45, 44, 65, 66, 67, 11, 68, 28, 69, 70, 71, 72, 29, 30, 31, 32, 33, 34, 35, 36, 37, 38, 354, 355, 356, 357, 358, 359, 371, 372, 360, 361, 362, 363, 364, 365, 366, 367, 368, 369, 370] (by decide +kernel) (by decide +kernel)
set_option maxRecDepth 20000 in
theorem gL_law_X3_undo : GoodIn wsL_law (wsV RL 69 RX3 yX3_undo wsX3_undo) := goodIn_app (goodIn_of _ (by decide +kernel)) ggL_law_X3_undo
set_option maxRecDepth 20000 in
theorem ggL_law_X3_restore : GoodIn wsL_law wsX3_restore := goodIn_r _ [76, 15, 13, 12, 14, 77, 66, 67, 11, 68, 28, 69, 70, 71, 72, 29, 30, 31, 32, 33, 34, 35, 36, 37, 38, 78, 79, 80, 81, 82, 83, 84, 2, 85, 19, 86, 87, 88, 18, 89, 45, 44, 90, 91, 92, 93, 65, 354, 355, 356, 357, 358, 359, 360, 361, 362, 363, 364, 365, 366, 367, 368, 369, 370, 371, 372] (by decide +kernel) (by decide +kernel)
set_option maxRecDepth 20000 in
theorem gL_law_X3_restore : GoodIn wsL_law (wsV RL 34 RX3 yX3_restore wsX3_restore) := goodIn_app (goodIn_of _ (by decide +kernel)) ggL_law_X3_restore
set_option maxRecDepth 20000 in
theorem ggL_law_X3_openAll : GoodIn wsL_law wsX3_openAll := goodIn_r _ [97, 13, 12, 77, 66, 67, 11, 68, 28, 69, 70, 71, 72, 29, 30, 31, 32, 33, 34, 35, 36, 37, 38, 98, 99, 100, 101, 102, 103, 104, 105, 106, 107, 108, 109, 110, 111, 112, 113, 114, 115, 116, 117, 118, 119, 120, 121, 122, 123, 124, 125, 126, 127, 128, 129, 130, 131, 132, 133, 134, 135, 136, 137, 138, 139, 140, 141, 142, 143, 144, 145, 146, 147, 148, 149, 150, 151, 152, 153, 154, 155, 156, 157, 158, 159, 160, 161, 162, 163, 164, 165, 166, 82, 83, 84, 2, 85, 19, 86, 87, 88, 18, 89, 45, 44, 90, 91, 92, 93, 65, 354, 355, 356, 357, 358, 359, 360, 361, 362, 363, 364, 365, 366, 367, 368, 369, 370, 371, 372] (by decide +kernel) (by decide +kernel)
set_option maxRecDepth 20000 in
theorem gL_law_X3_openAll : GoodIn wsL_law (wsV RL 47 RX3 yX3_openAll wsX3_openAll) := goodIn_app (goodIn_of _ (by decide +kernel)) ggL_law_X3_openAll
set_option maxRecDepth 20000 in
theorem ggL_law_X3_keep : GoodIn wsL_law wsX3_keep := goodIn_r _ [170, 14, 12, 15, 77, 66, 67, 11, 68, 28, 69, 70, 71, 72, 29, 30, 31, 32, 33, 34, 35, 36, 37, 38, 78, 79, 80, 81, 354, 355, 356, 357, 358, 359, 360, 361, 362, 363, 364, 365, 366, 367, 368, 369, 370] (by decide +kernel) (by decide +kernel)
set_option maxRecDepth 20000 in
theorem gL_law_X3_keep : GoodIn wsL_law (wsV RL 73 RX3 yX3_keep wsX3_keep) := goodIn_app (goodIn_of _ (by decide +kernel)) ggL_law_X3_keep
set_option maxRecDepth 20000 in
theorem ggL_law_X3_bestOpening : GoodIn wsL_law wsX3_bestOpening := goodIn_r _ [174, 12, 175, 176, 177, 11, 178, 34, 35, 152, 153, 154, 155, 36, 37, 156, 157, 158, 159, 31, 120, 121, 122, 123, 110, 111, 112, 132, 133, 134, 135, 32, 29, 136, 137, 138, 139, 28, 160, 161, 162, 163, 164, 165, 166, 113, 114, 115, 354, 355, 356, 357, 358, 359, 360, 361, 362, 363, 364, 365, 366, 367, 368, 369, 370] (by decide +kernel) (by decide +kernel)
set_option maxRecDepth 20000 in
theorem gL_law_X3_bestOpening : GoodIn wsL_law (wsV RL 76 RX3 yX3_bestOpening wsX3_bestOpening) := goodIn_app (goodIn_of _ (by decide +kernel)) ggL_law_X3_bestOpening
