theorem goodIn_c1 {big a : List Cond} {c : Cond} (h : GoodIn big [c]) (ha : GoodIn big a) : GoodIn big (c :: a) := fun w hw => (List.mem_cons.mp hw).elim (fun e => h w (List.mem_singleton.mpr e)) (ha w)
theorem glX0 : GoodIn wsL_law wsX00 := goodIn_sub inlX0 (by decide +kernel)
theorem glX1 : GoodIn wsL_law wsX10 := goodIn_sub inlX1 (by decide +kernel)
theorem glX2 : GoodIn wsL_law wsX20 := goodIn_sub inlX2 (by decide +kernel)
theorem glX3 : GoodIn wsL_law wsX30 := goodIn_sub inlX3 (by decide +kernel)
theorem gh_L_holds_0 : GoodIn wsL_law [.code yL_holds cL_holds 14 (some .boolean)] := goodIn_r _ [314] (by decide +kernel) (by decide +kernel)
set_option maxRecDepth 20000 in
theorem gh_L_holds_1 : GoodIn wsL_law wsL_holds_r1 := goodIn_r _ [188, 189, 190, 2, 191, 19, 23, 12, 192, 193, 194, 18, 195, 45, 196, 197, 198, 22, 199, 51, 200, 201, 202, 11] (by decide +kernel) (by decide +kernel)
set_option maxRecDepth 20000 in
theorem gh_L_holds_2 : GoodIn wsL_law wsL_holds_r2 := goodIn_r _ [203, 28, 34, 35, 37, 36, 38, 160, 161, 162, 163, 164, 165, 166, 204, 205, 206, 207, 132, 133, 134, 135, 32, 29] (by decide +kernel) (by decide +kernel)
set_option maxRecDepth 20000 in
theorem gh_L_holds_3 : GoodIn wsL_law wsL_holds_r3 := goodIn_r _ [136, 137, 138, 139, 31, 208, 209, 210, 211, 33, 212, 213, 214, 215, 216, 217, 130, 218, 219, 220, 221, 222, 120, 121] (by decide +kernel) (by decide +kernel)
set_option maxRecDepth 20000 in
theorem gh_L_holds_4 : GoodIn wsL_law wsL_holds_r4 := goodIn_r _ [122, 123, 110, 111, 112, 223, 224, 225, 226, 227, 228, 229, 230, 231, 232, 233, 234, 30, 113, 114, 115, 235, 236, 237] (by decide +kernel) (by decide +kernel)
set_option maxRecDepth 20000 in
theorem gh_L_holds_5 : GoodIn wsL_law wsL_holds_r5 := goodIn_r _ [238, 239, 240, 241, 242, 243, 244, 245, 246, 247, 248, 249, 250, 251, 252, 253, 254, 315, 316, 317, 318, 319, 320, 321] (by decide +kernel) (by decide +kernel)
set_option maxRecDepth 20000 in
theorem gh_L_holds_6 : GoodIn wsL_law wsL_holds_r6 := goodIn_r _ [322, 323, 324, 325, 326, 327, 328, 329, 330, 331, 332, 333, 334, 335, 336, 337, 338, 152, 153, 154, 155, 156, 157, 158] (by decide +kernel) (by decide +kernel)
set_option maxRecDepth 20000 in
theorem gh_L_holds_7 : GoodIn wsL_law wsL_holds_r7 := goodIn_r _ [159, 124, 125, 126, 127, 128, 129, 131, 140, 141, 142, 143, 148, 149, 150, 151, 339, 340, 341, 342, 343, 344, 345, 346] (by decide +kernel) (by decide +kernel)
set_option maxRecDepth 20000 in
theorem gh_L_holds_8 : GoodIn wsL_law wsL_holds_r8 := goodIn_r _ [102, 103, 104, 105, 106, 107, 108, 109, 347, 348, 349, 350] (by decide +kernel) (by decide +kernel)
theorem ggL_law_L_holds : GoodIn wsL_law wsL_holds := goodIn_c1 gh_L_holds_0 (goodIn_app (goodIn_app (goodIn_app (goodIn_app (goodIn_app gh_L_holds_1 (goodIn_app gh_L_holds_2 (goodIn_app gh_L_holds_3 (goodIn_app gh_L_holds_4 (goodIn_app gh_L_holds_5 (goodIn_app gh_L_holds_6 (goodIn_app gh_L_holds_7 gh_L_holds_8))))))) glX3) glX0) glX2) glX1)
theorem gh_L_isSame_0 : GoodIn wsL_law [.code yL_isSame cL_isSame 8 (some .boolean)] := goodIn_r _ [353] (by decide +kernel) (by decide +kernel)
set_option maxRecDepth 20000 in
theorem gh_L_isSame_1 : GoodIn wsL_law wsL_isSame_r1 := goodIn_r _ [304, 305, 306, 2, 307, 12, 308, 309, 310, 11, 311, 29, 120, 121, 122, 123, 34, 243, 244, 245, 246, 136, 137, 138] (by decide +kernel) (by decide +kernel)
set_option maxRecDepth 20000 in
theorem gh_L_isSame_2 : GoodIn wsL_law wsL_isSame_r2 := goodIn_r _ [139, 28, 31, 32, 235, 236, 237, 238, 239, 240, 241, 242, 35, 30, 37, 33, 113, 114, 115, 110, 111, 112, 132, 133] (by decide +kernel) (by decide +kernel)
set_option maxRecDepth 20000 in
theorem gh_L_isSame_3 : GoodIn wsL_law wsL_isSame_r3 := goodIn_r _ [134, 135, 219, 220, 221, 222, 160, 161, 162, 163, 164, 165, 166, 227, 228, 229, 230, 247, 248, 249, 250, 251, 252, 253] (by decide +kernel) (by decide +kernel)
set_option maxRecDepth 20000 in
theorem gh_L_isSame_4 : GoodIn wsL_law wsL_isSame_r4 := goodIn_r _ [254, 36, 183, 184, 181, 185, 186, 187, 188, 189, 190, 191, 19, 23, 192, 193, 194, 18, 195, 45, 196, 197, 198, 22] (by decide +kernel) (by decide +kernel)
set_option maxRecDepth 20000 in
theorem gh_L_isSame_5 : GoodIn wsL_law wsL_isSame_r5 := goodIn_r _ [199, 51, 200, 201, 202, 203, 38, 204, 205, 206, 207, 208, 209, 210, 211, 212, 213, 214, 215, 216, 217, 130, 218, 223] (by decide +kernel) (by decide +kernel)
set_option maxRecDepth 20000 in
theorem gh_L_isSame_6 : GoodIn wsL_law wsL_isSame_r6 := goodIn_r _ [224, 225, 226, 231, 232, 233, 234, 273, 274, 275, 276, 13, 77, 66, 67, 68, 69, 70, 71, 72, 277, 278, 279, 280] (by decide +kernel) (by decide +kernel)
set_option maxRecDepth 20000 in
theorem gh_L_isSame_7 : GoodIn wsL_law wsL_isSame_r7 := goodIn_r _ [270, 271, 272, 82, 83, 84, 85, 86, 87, 88, 89, 44, 90, 91, 92, 93, 65, 57, 58, 59, 60, 61, 62, 63] (by decide +kernel) (by decide +kernel)
set_option maxRecDepth 20000 in
theorem gh_L_isSame_8 : GoodIn wsL_law wsL_isSame_r8 := goodIn_r _ [64] (by decide +kernel) (by decide +kernel)
theorem ggL_law_L_isSame : GoodIn wsL_law wsL_isSame := goodIn_c1 gh_L_isSame_0 (goodIn_app (goodIn_app (goodIn_app (goodIn_app (goodIn_app gh_L_isSame_1 (goodIn_app gh_L_isSame_2 (goodIn_app gh_L_isSame_3 (goodIn_app gh_L_isSame_4 (goodIn_app gh_L_isSame_5 (goodIn_app gh_L_isSame_6 (goodIn_app gh_L_isSame_7 gh_L_isSame_8))))))) glX3) glX1) glX0) glX2)
set_option maxRecDepth 20000 in
theorem gL_law_L_holds : GoodIn wsL_law (va_wsS RL 87 yL_holds wsL_holds) := goodIn_app (goodIn_of _ (by decide +kernel)) ggL_law_L_holds
set_option maxRecDepth 20000 in
theorem ggL_law_L_low : GoodIn wsL_law wsL_low := goodIn_r _ [260, 261] (by decide +kernel) (by decide +kernel)
set_option maxRecDepth 20000 in
theorem gL_law_L_low : GoodIn wsL_law (va_wsS RL 22 yL_low wsL_low) := goodIn_app (goodIn_of _ (by decide +kernel)) ggL_law_L_low
set_option maxRecDepth 20000 in
theorem gL_law_L_isSame : GoodIn wsL_law (va_wsS RL 91 yL_isSame wsL_isSame) := goodIn_app (goodIn_of _ (by decide +kernel)) ggL_law_L_isSame
