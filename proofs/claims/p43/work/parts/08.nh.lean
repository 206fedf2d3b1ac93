set_option maxRecDepth 20000 in
theorem ggL_law_X5_digest : GoodIn wsL_law wsX5_digest := goodIn_ca (goodIn_r _ [397, 398, 399, 29, 31, 24, 400, 10, 187, 401, 402, 403, 404, 2, 405, 192, 193, 194, 195, 12, 406, 407, 408, 409, 229, 112, 230, 410, 411, 412, 413, 414, 415, 416, 417, 418, 419, 385, 386, 387, 27, 388, 389, 390, 391, 392, 393, 382, 383, 384, 82, 420, 421, 422, 423, 424, 89, 87, 88, 76, 77, 78, 425, 426, 427, 428, 80, 429, 430, 431, 432, 84, 85, 433, 434, 435, 594, 595, 596, 597, 598, 599, 600, 601, 602, 603, 604, 605, 606, 607, 617, 618, 619, 620, 621, 622, 623, 624, 625, 626, 627, 628, 629, 630, 631, 632, 633] (by decide +kernel) (by decide +kernel)) (goodIn_sub (fun _ h => List.mem_append_right _ h) (by decide +kernel))
set_option maxRecDepth 20000 in
theorem gL_law_X5_digest : GoodIn wsL_law (wsV RL 99 RX5 yX5_digest wsX5_digest) := goodIn_app (goodIn_of _ (by decide +kernel)) ggL_law_X5_digest
set_option maxRecDepth 20000 in
theorem gqp_wsX5_priceOf_r1 : GoodIn wsL_law wsX5_priceOf_r1 := goodIn_r _ [31, 28, 440, 441, 442, 2, 443, 418, 419, 176, 177, 178, 179, 180, 181, 29, 182, 183, 184, 185, 16, 186, 187, 188] (by decide +kernel) (by decide +kernel)
set_option maxRecDepth 20000 in
theorem gqp_wsX5_priceOf_r2 : GoodIn wsL_law wsX5_priceOf_r2 := goodIn_r _ [189, 34, 190, 191, 10, 192, 193, 194, 195, 12, 196, 197, 198, 41, 199, 50, 142, 143, 114, 115, 112, 116, 110, 111] (by decide +kernel) (by decide +kernel)
set_option maxRecDepth 20000 in
theorem gqp_wsX5_priceOf_r3 : GoodIn wsL_law wsX5_priceOf_r3 := goodIn_r _ [113, 160, 161, 162, 163, 35, 30, 33, 200, 201, 202, 15, 203, 204, 42, 205, 206, 207, 208, 209, 210, 211, 212, 213] (by decide +kernel) (by decide +kernel)
set_option maxRecDepth 20000 in
theorem gqp_wsX5_priceOf_r4 : GoodIn wsL_law wsX5_priceOf_r4 := goodIn_r _ [46, 214, 43, 44, 45, 215, 216, 217, 218, 219, 220, 221, 222, 223, 224, 225, 226, 227, 228, 229, 230, 231, 232, 233] (by decide +kernel) (by decide +kernel)
set_option maxRecDepth 20000 in
theorem gqp_wsX5_priceOf_r5 : GoodIn wsL_law wsX5_priceOf_r5 := goodIn_r _ [27, 234, 77, 235, 236, 237, 238, 239, 240, 78, 241, 242, 243, 244, 245, 246, 247, 248, 249, 250, 251, 252, 253, 254] (by decide +kernel) (by decide +kernel)
set_option maxRecDepth 20000 in
theorem gqp_wsX5_priceOf_r6 : GoodIn wsL_law wsX5_priceOf_r6 := goodIn_r _ [255, 256, 257, 258, 259, 118, 119, 260, 261, 262, 263, 264, 265, 266, 267, 268, 269, 270, 271, 53, 272, 273, 274, 275] (by decide +kernel) (by decide +kernel)
set_option maxRecDepth 20000 in
theorem gqp_wsX5_priceOf_r7 : GoodIn wsL_law wsX5_priceOf_r7 := goodIn_r _ [52, 276, 70, 71, 72, 277, 278, 279, 280, 281, 282, 283, 284, 125, 126, 285, 286, 287, 288, 289, 290, 291, 292, 51] (by decide +kernel) (by decide +kernel)
set_option maxRecDepth 20000 in
theorem gqp_wsX5_priceOf_r8 : GoodIn wsL_law wsX5_priceOf_r8 := goodIn_r _ [293, 294, 295, 296, 297, 298, 299, 300, 301, 302, 303, 304, 305, 306, 307, 308, 309, 310, 311, 312, 313, 314, 315, 316] (by decide +kernel) (by decide +kernel)
set_option maxRecDepth 20000 in
theorem gqp_wsX5_priceOf_r9 : GoodIn wsL_law wsX5_priceOf_r9 := goodIn_r _ [317, 318, 319, 320, 321, 322, 323, 324, 325, 326, 327, 328, 329, 330, 76] (by decide +kernel) (by decide +kernel)
set_option maxRecDepth 20000 in
theorem gqp_wsX50 : GoodIn wsL_law wsX50 := goodIn_r _ [594, 595, 596, 597, 598, 599, 600, 601, 602, 603, 604, 605, 606, 607] (by decide +kernel) (by decide +kernel)
set_option maxRecDepth 20000 in
theorem gqp_wsX20 : GoodIn wsL_law wsX20 := goodIn_r _ [620, 621, 622, 623, 624, 625, 626, 627, 628, 629, 630, 631, 632, 633] (by decide +kernel) (by decide +kernel)
set_option maxRecDepth 20000 in
theorem gqp_wsX00 : GoodIn wsL_law wsX00 := goodIn_r _ [608, 609, 610, 611, 612] (by decide +kernel) (by decide +kernel)
set_option maxRecDepth 20000 in
theorem gqp_wsX30 : GoodIn wsL_law wsX30 := goodIn_r _ [634, 635, 636, 637] (by decide +kernel) (by decide +kernel)
set_option maxRecDepth 20000 in
theorem ggL_law_X5_priceOf : GoodIn wsL_law wsX5_priceOf := goodIn_ca (goodIn_ca (goodIn_c1 (goodIn_r _ [439] (by decide +kernel) (by decide +kernel)) (goodIn_app (goodIn_app (goodIn_app (goodIn_app (goodIn_app gqp_wsX5_priceOf_r1 (goodIn_app gqp_wsX5_priceOf_r2 (goodIn_app gqp_wsX5_priceOf_r3 (goodIn_app gqp_wsX5_priceOf_r4 (goodIn_app gqp_wsX5_priceOf_r5 (goodIn_app gqp_wsX5_priceOf_r6 (goodIn_app gqp_wsX5_priceOf_r7 (goodIn_app gqp_wsX5_priceOf_r8 gqp_wsX5_priceOf_r9)))))))) gqp_wsX50) gqp_wsX20) gqp_wsX00) gqp_wsX30)) (goodIn_sub (fun _ h => List.mem_append_right _ h) (by decide +kernel))) (goodIn_sub (fun _ h => List.mem_append_left _ (List.mem_append_right _ h)) (by decide +kernel))
set_option maxRecDepth 20000 in
theorem gL_law_X5_priceOf : GoodIn wsL_law (wsV RL 103 RX5 yX5_priceOf wsX5_priceOf) := goodIn_app (goodIn_of _ (by decide +kernel)) ggL_law_X5_priceOf


