theorem goodIn_c1 {big a : List Cond} {c : Cond} (hc : GoodIn big [c]) (ha : GoodIn big a) : GoodIn big (c :: a) := fun w h => (List.mem_cons.mp h).elim (fun e => hc w (List.mem_cons.mpr (Or.inl e))) (ha w)
set_option maxRecDepth 20000 in
theorem gqb_wsX5_bytesWith_r1 : GoodIn wsL_law wsX5_bytesWith_r1 := goodIn_r _ [108, 109, 20, 28, 117, 118, 2, 119, 176, 177, 178, 179, 180, 181, 29, 182, 183, 184, 185, 16, 186, 187, 188, 189] (by decide +kernel) (by decide +kernel)
set_option maxRecDepth 20000 in
theorem gqb_wsX5_bytesWith_r2 : GoodIn wsL_law wsX5_bytesWith_r2 := goodIn_r _ [34, 190, 191, 10, 192, 193, 194, 195, 12, 196, 197, 198, 41, 199, 50, 142, 143, 114, 115, 112, 116, 110, 111, 113] (by decide +kernel) (by decide +kernel)
set_option maxRecDepth 20000 in
theorem gqb_wsX5_bytesWith_r3 : GoodIn wsL_law wsX5_bytesWith_r3 := goodIn_r _ [160, 161, 162, 163, 35, 30, 33, 200, 201, 202, 15, 203, 204, 42, 205, 206, 207, 208, 209, 210, 211, 212, 213, 46] (by decide +kernel) (by decide +kernel)
set_option maxRecDepth 20000 in
theorem gqb_wsX5_bytesWith_r4 : GoodIn wsL_law wsX5_bytesWith_r4 := goodIn_r _ [214, 43, 44, 45, 215, 216, 217, 218, 219, 220, 221, 222, 223, 224, 225, 226, 227, 228, 229, 230, 231, 232, 233, 27] (by decide +kernel) (by decide +kernel)
set_option maxRecDepth 20000 in
theorem gqb_wsX5_bytesWith_r5 : GoodIn wsL_law wsX5_bytesWith_r5 := goodIn_r _ [234, 77, 235, 236, 237, 238, 239, 240, 78, 241, 242, 243, 244, 245, 246, 247, 248, 249, 250, 251, 252, 253, 254, 255] (by decide +kernel) (by decide +kernel)
set_option maxRecDepth 20000 in
theorem gqb_wsX5_bytesWith_r6 : GoodIn wsL_law wsX5_bytesWith_r6 := goodIn_r _ [256, 257, 258, 259, 260, 261, 262, 263, 264, 265, 266, 267, 268, 269, 270, 271, 53, 272, 273, 274, 275, 52, 276, 70] (by decide +kernel) (by decide +kernel)
set_option maxRecDepth 20000 in
theorem gqb_wsX5_bytesWith_r7 : GoodIn wsL_law wsX5_bytesWith_r7 := goodIn_r _ [71, 72, 277, 278, 279, 280, 281, 282, 283, 284, 125, 126, 285, 286, 287, 288, 289, 290, 291, 292, 51, 293, 294, 295] (by decide +kernel) (by decide +kernel)
set_option maxRecDepth 20000 in
theorem gqb_wsX5_bytesWith_r8 : GoodIn wsL_law wsX5_bytesWith_r8 := goodIn_r _ [296, 297, 298, 299, 300, 301, 302, 303, 304, 305, 306, 307, 308, 309, 310, 311, 312, 313, 314, 315, 316, 317, 318, 319] (by decide +kernel) (by decide +kernel)
set_option maxRecDepth 20000 in
theorem gqb_wsX5_bytesWith_r9 : GoodIn wsL_law wsX5_bytesWith_r9 := goodIn_r _ [320, 321, 322, 323, 324, 325, 326, 327, 328, 329, 330, 76, 331, 332, 333, 19, 334, 57, 60, 335, 336, 337, 338, 339] (by decide +kernel) (by decide +kernel)
set_option maxRecDepth 20000 in
theorem gqb_wsX5_bytesWith_r10 : GoodIn wsL_law wsX5_bytesWith_r10 := goodIn_r _ [340, 58, 59, 341, 342, 343, 344, 345, 346, 347, 348, 349, 350, 351, 352, 353, 354, 355, 356, 357, 358, 359, 360, 361] (by decide +kernel) (by decide +kernel)
set_option maxRecDepth 20000 in
theorem gqb_wsX5_bytesWith_r11 : GoodIn wsL_law wsX5_bytesWith_r11 := goodIn_r _ [362, 363, 364, 365, 366, 367, 368, 369, 370, 371, 372, 373, 374, 375, 376, 377, 378, 379, 380, 381, 382, 383, 384, 82] (by decide +kernel) (by decide +kernel)
set_option maxRecDepth 20000 in
theorem gqb_wsX5_bytesWith_r12 : GoodIn wsL_law wsX5_bytesWith_r12 := goodIn_r _ [385, 386, 387, 388, 389, 390, 391, 392, 393] (by decide +kernel) (by decide +kernel)
set_option maxRecDepth 20000 in
theorem gqb_wsX50 : GoodIn wsL_law wsX50 := goodIn_r _ [594, 595, 596, 597, 598, 599, 600, 601, 602, 603, 604, 605, 606, 607] (by decide +kernel) (by decide +kernel)
set_option maxRecDepth 20000 in
theorem gqb_wsX00 : GoodIn wsL_law wsX00 := goodIn_r _ [608, 609, 610, 611, 612] (by decide +kernel) (by decide +kernel)
set_option maxRecDepth 20000 in
theorem gqb_wsX20 : GoodIn wsL_law wsX20 := goodIn_r _ [620, 621, 622, 623, 624, 625, 626, 627, 628, 629, 630, 631, 632, 633] (by decide +kernel) (by decide +kernel)
set_option maxRecDepth 20000 in
theorem gqb_wsX30 : GoodIn wsL_law wsX30 := goodIn_r _ [634, 635, 636, 637] (by decide +kernel) (by decide +kernel)
set_option maxRecDepth 20000 in
theorem gqb_wsX10 : GoodIn wsL_law wsX10 := goodIn_r _ [613, 614, 615, 616] (by decide +kernel) (by decide +kernel)
set_option maxRecDepth 20000 in
theorem ggL_law_X5_bytesWith : GoodIn wsL_law wsX5_bytesWith := goodIn_ca (goodIn_ca (goodIn_c1 (goodIn_r _ [175] (by decide +kernel) (by decide +kernel)) (goodIn_app (goodIn_app (goodIn_app (goodIn_app (goodIn_app (goodIn_app gqb_wsX5_bytesWith_r1 (goodIn_app gqb_wsX5_bytesWith_r2 (goodIn_app gqb_wsX5_bytesWith_r3 (goodIn_app gqb_wsX5_bytesWith_r4 (goodIn_app gqb_wsX5_bytesWith_r5 (goodIn_app gqb_wsX5_bytesWith_r6 (goodIn_app gqb_wsX5_bytesWith_r7 (goodIn_app gqb_wsX5_bytesWith_r8 (goodIn_app gqb_wsX5_bytesWith_r9 (goodIn_app gqb_wsX5_bytesWith_r10 (goodIn_app gqb_wsX5_bytesWith_r11 gqb_wsX5_bytesWith_r12))))))))))) gqb_wsX50) gqb_wsX00) gqb_wsX20) gqb_wsX30) gqb_wsX10)) (goodIn_sub (fun _ h => List.mem_append_left _ (List.mem_append_left _ (List.mem_append_right _ h))) (by decide +kernel))) (goodIn_sub (fun _ h => List.mem_append_left _ (List.mem_append_right _ h)) (by decide +kernel))
set_option maxRecDepth 20000 in
theorem gL_law_X5_bytesWith : GoodIn wsL_law (wsV RL 96 RX5 yX5_bytesWith wsX5_bytesWith) := goodIn_app (goodIn_of _ (by decide +kernel)) ggL_law_X5_bytesWith

