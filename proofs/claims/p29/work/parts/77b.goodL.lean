/-! ===== printed: the law's words, those of its calls among them ===== -/
set_option maxRecDepth 20000 in
theorem ggL_law_X6_init : GoodIn wsL_law wsX6_init := goodIn_r _ [5, 6, 7, 8, 9, 10, 11, 12, 13, 14, 15, 16, 17, 18, 19, 20, 21, 22, 23, 24, 25, 26, 27, 28, 29, 30, 31, 32, 33, 34, 35, 36, 37, 38, 39, 40, 41, 42, 43, 44, 45, 46, 47, 48, 49, 50, 51, 52, 53, 54, 55, 56, 57, 58, 59, 60, 61, 62, 63, 64, 65, 66, 67, 68, 69, 70, 71, 72, 73, 74, 75, 76, 77, 78, 79, 80, 81, 82, 83, 84, 85, 86, 87, 88, 89, 90, 91, 92, 93, 94, 95, 96, 97, 98, 99, 100, 101, 474, 475, 476, 477, 478, 479, 480, 481, 470, 471, 472, 473, 482, 483, 484, 485, 486, 487, 488, 489, 490, 491, 492, 493, 494, 495, 496, 497, 498, 499, 500, 501, 502, 503, 504, 505, 506, 507, 508] (by decide +kernel) (by decide +kernel)
set_option maxRecDepth 20000 in
theorem gL_law_X6_init : GoodIn wsL_law (wsX6_init) := ggL_law_X6_init
set_option maxRecDepth 20000 in
theorem ggL_law_L_cell : GoodIn wsL_law wsL_cell := goodIn_r _ [105] (by decide +kernel) (by decide +kernel)
set_option maxRecDepth 20000 in
theorem gL_law_L_cell : GoodIn wsL_law (va_wsS RL 90 yL_cell wsL_cell) := goodIn_app (goodIn_of _ (by decide +kernel)) ggL_law_L_cell
set_option maxRecDepth 20000 in
theorem ggL_law_L_tale : GoodIn wsL_law wsL_tale := goodIn_r _ [108, 109, 110, 111, 112, 113, 114, 115, 116, 117, 118, 119, 120, 121, 122, 2, 123, 12, 124, 125, 126, 127, 128, 129, 130, 21, 131, 17, 132, 133, 134, 135, 33, 136, 47, 137, 138, 139, 140, 52, 141, 142, 143, 144, 145, 146, 147, 148, 149, 150, 151, 152, 153, 154, 155, 156, 157, 11, 158, 34, 159, 29, 160, 161, 162, 163, 164, 165, 166, 38, 26, 167, 168, 169, 37, 170, 59, 61, 171, 172, 173, 174, 62, 63, 175, 176, 177, 178, 65, 179, 180, 181, 182, 183, 184, 185, 186, 187, 188, 189, 190, 191, 192, 193, 194, 195, 196, 197, 198, 199, 200, 201, 202, 203, 204, 205, 206, 207, 208, 209, 210, 211, 42, 43, 212, 213, 214, 215, 216, 217, 218, 219, 220, 221, 222, 223, 224, 225, 226, 227, 228, 229, 230, 231, 232, 233, 234, 235, 236, 237, 238, 239, 240, 241, 242, 243, 244, 41, 245, 69, 70, 246, 72, 71, 247, 248, 249, 250, 251, 252, 253, 254, 255, 256, 257, 258, 259, 260, 261, 262, 30, 470, 471, 472, 473, 474, 475, 476, 477, 478, 479, 480, 481, 489, 490, 491, 492, 493, 494, 495, 496, 497, 498, 499, 500, 501, 502, 503, 504, 484, 485, 486, 487, 488, 482, 483, 505, 506, 507, 508] (by decide +kernel) (by decide +kernel)
set_option maxRecDepth 20000 in
theorem gL_law_L_tale : GoodIn wsL_law (va_wsS RL 94 yL_tale wsL_tale) := goodIn_app (goodIn_of _ (by decide +kernel)) ggL_law_L_tale
set_option maxRecDepth 20000 in
theorem ggL_law_X6_undo : GoodIn wsL_law wsX6_undo := goodIn_r _ [444, 17, 132, 12, 445, 446, 447, 16, 448, 89, 91, 290, 291, 292, 11, 293, 26, 27, 29, 30, 34, 38, 42, 43, 294, 2, 295, 296, 239, 240, 241, 297, 298, 299, 300, 301, 302, 303, 33, 304, 47, 48, 49, 50, 51, 52, 53, 54, 55, 305, 306, 307, 37, 308, 59, 60, 61, 62, 63, 64, 65, 309, 310, 311, 41, 312, 69, 70, 71, 72, 470, 471, 472, 473, 482, 483, 474, 475, 476, 477, 478, 479, 480, 481, 489, 490, 491, 492, 493, 494, 495, 496, 497, 498, 499, 500, 501, 502, 503, 504, 505, 506, 507, 508] (by decide +kernel) (by decide +kernel)
set_option maxRecDepth 20000 in
theorem gL_law_X6_undo : GoodIn wsL_law (wsV RL 102 RX6 yX6_undo wsX6_undo) := goodIn_app (goodIn_of _ (by decide +kernel)) ggL_law_X6_undo
set_option maxRecDepth 20000 in
theorem ggL_law_X6_count : GoodIn wsL_law wsX6_count := goodIn_r _ [123, 12, 124, 125, 126, 127, 128, 129, 130, 21, 131, 17, 132, 133, 134, 135, 33, 136, 47, 137, 138, 139, 140, 52, 141, 142, 143, 144, 470, 471, 472, 473, 474, 475, 476, 477, 478, 479, 480, 481, 489, 490, 491, 492, 493, 494, 495, 496, 497, 498, 499, 500, 501, 502, 503, 504, 484, 485, 486, 487, 488, 482, 483] (by decide +kernel) (by decide +kernel)
set_option maxRecDepth 20000 in
theorem gL_law_X6_count : GoodIn wsL_law (wsV RL 12 RX6 yX6_count wsX6_count) := goodIn_app (goodIn_of _ (by decide +kernel)) ggL_law_X6_count
set_option maxRecDepth 20000 in
theorem ggL_law_X6_bay : GoodIn wsL_law wsX6_bay := goodIn_r _ [148, 12, 124, 149, 150, 151, 152, 153, 154, 142, 143, 33, 144, 47, 155, 156, 157, 11, 158, 34, 159, 29, 160, 161, 162, 138, 139, 140, 52, 141, 163, 164, 165, 166, 38, 26, 167, 168, 169, 37, 170, 59, 61, 171, 172, 173, 174, 62, 63, 175, 176, 177, 178, 65, 179, 180, 181, 182, 470, 471, 472, 473, 474, 475, 476, 477, 478, 479, 480, 481, 489, 490, 491, 492, 493, 494, 495, 496, 497, 498, 499, 500, 501, 502, 503, 504] (by decide +kernel) (by decide +kernel)
set_option maxRecDepth 20000 in
theorem gL_law_X6_bay : GoodIn wsL_law (wsV RL 20 RX6 yX6_bay wsX6_bay) := goodIn_app (goodIn_of _ (by decide +kernel)) ggL_law_X6_bay
set_option maxRecDepth 20000 in
theorem ggL_law_X6_car : GoodIn wsL_law wsX6_car := goodIn_r _ [215, 12, 124, 216, 217, 218, 129, 219, 220, 2, 221, 205, 206, 207, 222, 223, 224, 33, 225, 47, 52, 154, 142, 143, 144, 226, 227, 228, 11, 229, 34, 230, 38, 231, 43, 232, 161, 233, 180, 181, 37, 182, 59, 234, 235, 236, 237, 29, 42, 238, 239, 240, 241, 242, 243, 244, 41, 245, 69, 70, 246, 72, 71, 247, 248, 249, 250, 251, 252, 253, 26, 470, 471, 472, 473, 474, 475, 476, 477, 478, 479, 480, 481, 489, 490, 491, 492, 493, 494, 495, 496, 497, 498, 499, 500, 501, 502, 503, 504, 505, 506, 507, 508] (by decide +kernel) (by decide +kernel)
set_option maxRecDepth 20000 in
theorem gL_law_X6_car : GoodIn wsL_law (wsV RL 39 RX6 yX6_car wsX6_car) := goodIn_app (goodIn_of _ (by decide +kernel)) ggL_law_X6_car
set_option maxRecDepth 20000 in
theorem ggL_law_X6_freeFor : GoodIn wsL_law wsX6_freeFor := goodIn_r _ [452, 12, 124, 126, 129, 130, 154, 142, 143, 33, 144, 47, 453, 406, 407, 11, 408, 38, 26, 29, 167, 168, 169, 37, 170, 59, 61, 171, 172, 173, 174, 62, 63, 175, 176, 177, 178, 65, 179, 180, 181, 182, 233, 454, 455, 456, 457, 470, 471, 472, 473, 474, 475, 476, 477, 478, 479, 480, 481, 489, 490, 491, 492, 493, 494, 495, 496, 497, 498, 499, 500, 501, 502, 503, 504] (by decide +kernel) (by decide +kernel)
set_option maxRecDepth 20000 in
theorem gL_law_X6_freeFor : GoodIn wsL_law (wsV RL 106 RX6 yX6_freeFor wsX6_freeFor) := goodIn_app (goodIn_of _ (by decide +kernel)) ggL_law_X6_freeFor
set_option maxRecDepth 20000 in
theorem ggL_law_X6_free : GoodIn wsL_law wsX6_free := goodIn_r _ [461, 12, 205, 206, 2, 207, 462, 463, 464, 11, 465, 34, 358, 159, 372, 359, 360, 361, 33, 362, 51, 50, 141, 142, 143, 144, 47, 367, 138, 139, 140, 52, 405, 406, 407, 408, 38, 26, 29, 167, 168, 169, 37, 170, 59, 61, 171, 172, 173, 174, 62, 63, 175, 176, 177, 178, 65, 179, 180, 181, 182, 233, 470, 471, 472, 473, 474, 475, 476, 477, 478, 479, 480, 481, 489, 490, 491, 492, 493, 494, 495, 496, 497, 498, 499, 500, 501, 502, 503, 504] (by decide +kernel) (by decide +kernel)
set_option maxRecDepth 20000 in
theorem gL_law_X6_free : GoodIn wsL_law (wsV RL 109 RX6 yX6_free wsX6_free) := goodIn_app (goodIn_of _ (by decide +kernel)) ggL_law_X6_free
set_option maxRecDepth 20000 in
theorem ggL_law_X6_reservation : GoodIn wsL_law wsX6_reservation := goodIn_r _ [186, 12, 126, 187, 188, 189, 190, 191, 192, 193, 180, 181, 37, 182, 59, 470, 471, 472, 473, 474, 475, 476, 477, 478, 479, 480, 481, 498, 499, 500, 501, 502, 503, 504] (by decide +kernel) (by decide +kernel)
set_option maxRecDepth 20000 in
theorem gL_law_X6_reservation : GoodIn wsL_law (wsV RL 26 RX6 yX6_reservation wsX6_reservation) := goodIn_app (goodIn_of _ (by decide +kernel)) ggL_law_X6_reservation
set_option maxRecDepth 20000 in
theorem ggL_law_X6_nearest : GoodIn wsL_law wsX6_nearest := goodIn_r _ [469, 12, 205, 206, 2, 207, 401, 402, 403, 11, 404, 34, 358, 359, 360, 361, 33, 362, 51, 50, 141, 142, 143, 144, 47, 367, 138, 139, 140, 52, 405, 406, 407, 408, 38, 26, 29, 167, 168, 169, 37, 170, 59, 61, 171, 172, 173, 174, 62, 63, 175, 176, 177, 178, 65, 179, 180, 181, 182, 233, 368, 369, 370, 371, 372, 161, 373, 156, 157, 158, 159, 160, 470, 471, 472, 473, 474, 475, 476, 477, 478, 479, 480, 481, 489, 490, 491, 492, 493, 494, 495, 496, 497, 498, 499, 500, 501, 502, 503, 504] (by decide +kernel) (by decide +kernel)
set_option maxRecDepth 20000 in
theorem gL_law_X6_nearest : GoodIn wsL_law (wsV RL 112 RX6 yX6_nearest wsX6_nearest) := goodIn_app (goodIn_of _ (by decide +kernel)) ggL_law_X6_nearest
set_option maxRecDepth 20000 in
theorem ggL_law_X6_account : GoodIn wsL_law wsX6_account := goodIn_r _ [257, 12, 258, 205, 206, 2, 207, 259, 260, 261, 11, 262, 30, 470, 471, 472, 473, 474, 475, 476, 477, 478, 479, 480, 481] (by decide +kernel) (by decide +kernel)
set_option maxRecDepth 20000 in
theorem gL_law_X6_account : GoodIn wsL_law (wsV RL 44 RX6 yX6_account wsX6_account) := goodIn_app (goodIn_of _ (by decide +kernel)) ggL_law_X6_account
