set_option maxRecDepth 20000 in
theorem gqc_wsX5_code_r1 : GoodIn wsL_law wsX5_code_r1 := goodIn_r _ [31, 20, 28, 448, 12, 29, 11, 26, 27, 191, 30, 35, 176, 177, 178, 2, 179, 180, 181, 182, 183, 184, 185, 16] (by decide +kernel) (by decide +kernel)
set_option maxRecDepth 20000 in
theorem gqc_wsX5_code_r2 : GoodIn wsL_law wsX5_code_r2 := goodIn_r _ [186, 187, 188, 189, 34, 190, 10, 192, 193, 194, 195, 196, 197, 198, 41, 199, 50, 142, 143, 114, 115, 112, 116, 110] (by decide +kernel) (by decide +kernel)
set_option maxRecDepth 20000 in
theorem gqc_wsX5_code_r3 : GoodIn wsL_law wsX5_code_r3 := goodIn_r _ [111, 113, 160, 161, 162, 163, 33, 200, 201, 202, 15, 203, 204, 42, 205, 206, 207, 208, 209, 210, 211, 212, 213, 46] (by decide +kernel) (by decide +kernel)
set_option maxRecDepth 20000 in
theorem gqc_wsX5_code_r4 : GoodIn wsL_law wsX5_code_r4 := goodIn_r _ [214, 43, 44, 45, 215, 216, 217, 218, 219, 220, 221, 222, 223, 224, 225, 226, 227, 228, 229, 230, 231, 232, 233, 234] (by decide +kernel) (by decide +kernel)
set_option maxRecDepth 20000 in
theorem gqc_wsX5_code_r5 : GoodIn wsL_law wsX5_code_r5 := goodIn_r _ [77, 235, 236, 237, 238, 239, 240, 78, 241, 242, 243, 244, 245, 246, 247, 248, 249, 250, 251, 252, 253, 254, 255, 256] (by decide +kernel) (by decide +kernel)
set_option maxRecDepth 20000 in
theorem gqc_wsX5_code_r6 : GoodIn wsL_law wsX5_code_r6 := goodIn_r _ [257, 258, 259, 118, 119, 260, 261, 262, 263, 264, 265, 266, 267, 268, 269, 270, 271, 53, 272, 273, 274, 275, 52, 276] (by decide +kernel) (by decide +kernel)
set_option maxRecDepth 20000 in
theorem gqc_wsX5_code_r7 : GoodIn wsL_law wsX5_code_r7 := goodIn_r _ [70, 71, 72, 277, 278, 279, 280, 281, 282, 283, 284, 125, 126, 285, 286, 287, 288, 289, 290, 291, 292, 51, 293, 294] (by decide +kernel) (by decide +kernel)
set_option maxRecDepth 20000 in
theorem gqc_wsX5_code_r8 : GoodIn wsL_law wsX5_code_r8 := goodIn_r _ [295, 296, 297, 298, 299, 300, 301, 302, 303, 304, 305, 306, 307, 308, 309, 310, 311, 312, 313, 314, 315, 316, 317, 318] (by decide +kernel) (by decide +kernel)
set_option maxRecDepth 20000 in
theorem gqc_wsX5_code_r9 : GoodIn wsL_law wsX5_code_r9 := goodIn_r _ [319, 320, 321, 322, 323, 324, 325, 326, 327, 328, 329, 330, 76, 331, 332, 333, 19, 334, 57, 60, 335, 336, 337, 338] (by decide +kernel) (by decide +kernel)
set_option maxRecDepth 20000 in
theorem gqc_wsX5_code_r10 : GoodIn wsL_law wsX5_code_r10 := goodIn_r _ [339, 340, 58, 59, 341, 342, 343, 344, 345, 346, 347, 348, 349, 350, 351, 352, 353, 354, 355, 356, 357, 358, 359, 360] (by decide +kernel) (by decide +kernel)
set_option maxRecDepth 20000 in
theorem gqc_wsX5_code_r11 : GoodIn wsL_law wsX5_code_r11 := goodIn_r _ [361, 362, 363, 364, 365, 366, 367, 368, 369, 370, 371, 372, 373, 374, 375, 376, 377, 378, 379, 380, 381, 382, 383, 384] (by decide +kernel) (by decide +kernel)
set_option maxRecDepth 20000 in
theorem gqc_wsX5_code_r12 : GoodIn wsL_law wsX5_code_r12 := goodIn_r _ [82, 385, 386, 387, 388, 389, 390, 391, 392, 393, 449, 450, 451, 452, 453, 454, 455, 456, 457, 458, 459, 460, 461, 9] (by decide +kernel) (by decide +kernel)
set_option maxRecDepth 20000 in
theorem gqc_wsX5_code_r13 : GoodIn wsL_law wsX5_code_r13 := goodIn_r _ [462, 463, 138, 139, 140, 73, 74, 75, 7, 8, 79, 80, 81, 83, 84, 85, 86, 87, 88, 89, 90, 464, 465, 466] (by decide +kernel) (by decide +kernel)
set_option maxRecDepth 20000 in
theorem gqc_wsX5_code_r14 : GoodIn wsL_law wsX5_code_r14 := goodIn_r _ [467, 32] (by decide +kernel) (by decide +kernel)
set_option maxRecDepth 20000 in
theorem gqc_wsX50 : GoodIn wsL_law wsX50 := goodIn_r _ [594, 595, 596, 597, 598, 599, 600, 601, 602, 603, 604, 605, 606, 607] (by decide +kernel) (by decide +kernel)
set_option maxRecDepth 20000 in
theorem gqc_wsX20 : GoodIn wsL_law wsX20 := goodIn_r _ [620, 621, 622, 623, 624, 625, 626, 627, 628, 629, 630, 631, 632, 633] (by decide +kernel) (by decide +kernel)
set_option maxRecDepth 20000 in
theorem gqc_wsX00 : GoodIn wsL_law wsX00 := goodIn_r _ [608, 609, 610, 611, 612] (by decide +kernel) (by decide +kernel)
set_option maxRecDepth 20000 in
theorem gqc_wsX30 : GoodIn wsL_law wsX30 := goodIn_r _ [634, 635, 636, 637] (by decide +kernel) (by decide +kernel)
set_option maxRecDepth 20000 in
theorem gqc_wsX10 : GoodIn wsL_law wsX10 := goodIn_r _ [613, 614, 615, 616] (by decide +kernel) (by decide +kernel)
set_option maxRecDepth 20000 in
theorem ggL_law_X5_code : GoodIn wsL_law wsX5_code := goodIn_ca (goodIn_c1 (goodIn_r _ [447] (by decide +kernel) (by decide +kernel)) (goodIn_app (goodIn_app (goodIn_app (goodIn_app (goodIn_app (goodIn_app gqc_wsX5_code_r1 (goodIn_app gqc_wsX5_code_r2 (goodIn_app gqc_wsX5_code_r3 (goodIn_app gqc_wsX5_code_r4 (goodIn_app gqc_wsX5_code_r5 (goodIn_app gqc_wsX5_code_r6 (goodIn_app gqc_wsX5_code_r7 (goodIn_app gqc_wsX5_code_r8 (goodIn_app gqc_wsX5_code_r9 (goodIn_app gqc_wsX5_code_r10 (goodIn_app gqc_wsX5_code_r11 (goodIn_app gqc_wsX5_code_r12 (goodIn_app gqc_wsX5_code_r13 gqc_wsX5_code_r14))))))))))))) gqc_wsX50) gqc_wsX20) gqc_wsX00) gqc_wsX30) gqc_wsX10)) (goodIn_sub (fun _ h => List.mem_append_left _ (List.mem_append_right _ h)) (by decide +kernel))
