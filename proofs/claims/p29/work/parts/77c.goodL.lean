/-! ===== printed: the words of does among the law's, piece by piece ===== -/
set_option maxRecDepth 20000 in
theorem gq_head : GoodIn wsL_law [Cond.code yL_does cL_does 4 (some .int)] := goodIn_r _ [265] (by decide +kernel) (by decide +kernel)
set_option maxRecDepth 20000 in
theorem gq_wsL_does_r1 : GoodIn wsL_law wsL_does_r1 := goodIn_r _ [120, 121, 122, 2, 123, 12, 124, 125, 126, 127, 128, 129, 130, 21, 131, 17, 132, 133, 134, 135, 33, 136, 47, 137] (by decide +kernel) (by decide +kernel)
set_option maxRecDepth 20000 in
theorem gq_wsL_does_r2 : GoodIn wsL_law wsL_does_r2 := goodIn_r _ [138, 139, 140, 52, 141, 142, 143, 144, 266, 267, 104, 268, 269, 270, 271, 272, 273, 205, 206, 207, 274, 275, 276, 277] (by decide +kernel) (by decide +kernel)
set_option maxRecDepth 20000 in
theorem gq_wsL_does_r3 : GoodIn wsL_law wsL_does_r3 := goodIn_r _ [48, 49, 278, 279, 280, 281, 282, 283, 284, 16, 285, 89, 91, 286, 287, 288, 289, 290, 291, 292, 11, 293, 26, 27] (by decide +kernel) (by decide +kernel)
set_option maxRecDepth 20000 in
theorem gq_wsL_does_r4 : GoodIn wsL_law wsL_does_r4 := goodIn_r _ [29, 30, 34, 38, 42, 43, 294, 295, 296, 239, 240, 241, 297, 298, 299, 300, 301, 302, 303, 304, 50, 51, 53, 54] (by decide +kernel) (by decide +kernel)
set_option maxRecDepth 20000 in
theorem gq_wsL_does_r5 : GoodIn wsL_law wsL_does_r5 := goodIn_r _ [55, 305, 306, 307, 37, 308, 59, 60, 61, 62, 63, 64, 65, 309, 310, 311, 41, 312, 69, 70, 71, 72, 313, 314] (by decide +kernel) (by decide +kernel)
set_option maxRecDepth 20000 in
theorem gq_wsL_does_r6 : GoodIn wsL_law wsL_does_r6 := goodIn_r _ [315, 316, 317, 318, 319, 320, 321, 322, 323, 324, 325, 152, 154, 326, 327, 328, 329, 198, 202, 203, 204, 208, 209, 210] (by decide +kernel) (by decide +kernel)
set_option maxRecDepth 20000 in
theorem gq_wsL_does_r7 : GoodIn wsL_law wsL_does_r7 := goodIn_r _ [211, 330, 331, 332, 333, 77, 78, 79, 80, 334, 335, 336, 337, 338, 81, 82, 83, 84, 339, 340, 341, 342, 343, 74] (by decide +kernel) (by decide +kernel)
set_option maxRecDepth 20000 in
theorem gq_wsL_does_r8 : GoodIn wsL_law wsL_does_r8 := goodIn_r _ [75, 76, 344, 345, 346, 347, 348, 349, 350, 351, 352, 353, 258, 219, 220, 221, 354, 355, 356, 357, 358, 359, 360, 361] (by decide +kernel) (by decide +kernel)
set_option maxRecDepth 20000 in
theorem gq_wsL_does_r9 : GoodIn wsL_law wsL_does_r9 := goodIn_r _ [362, 363, 364, 365, 366, 367, 167, 168, 169, 170, 171, 172, 173, 174, 175, 176, 177, 178, 179, 180, 181, 182, 233, 368] (by decide +kernel) (by decide +kernel)
set_option maxRecDepth 20000 in
theorem gq_wsL_does_r10 : GoodIn wsL_law wsL_does_r10 := goodIn_r _ [369, 370, 371, 372, 161, 373, 156, 157, 158, 159, 160, 374, 375, 376, 377, 378, 235, 236, 237, 238, 242, 243, 244, 245] (by decide +kernel) (by decide +kernel)
set_option maxRecDepth 20000 in
theorem gq_wsL_does_r11 : GoodIn wsL_law wsL_does_r11 := goodIn_r _ [246, 247, 248, 249, 379, 380, 381, 382, 383, 384, 385, 386, 387, 192, 189, 191, 193, 388, 389, 390, 391, 188, 222, 223] (by decide +kernel) (by decide +kernel)
set_option maxRecDepth 20000 in
theorem gq_wsL_does_r12 : GoodIn wsL_law wsL_does_r12 := goodIn_r _ [224, 225, 392, 393, 394, 395, 396, 397, 398, 399, 400, 401, 402, 403, 404, 405, 406, 407, 408, 409, 410, 411, 412, 413] (by decide +kernel) (by decide +kernel)
set_option maxRecDepth 20000 in
theorem gq_wsL_does_r13 : GoodIn wsL_law wsL_does_r13 := goodIn_r _ [414, 231, 230, 415, 416, 417, 418, 419, 218, 420, 421, 422, 423, 226, 227, 228, 229, 232, 234, 424, 425, 426, 427, 428] (by decide +kernel) (by decide +kernel)
set_option maxRecDepth 20000 in
theorem gq_wsL_does_r14 : GoodIn wsL_law wsL_does_r14 := goodIn_r _ [429, 430, 431, 432, 250, 251, 252, 253, 433, 434, 435, 436, 437, 438, 439, 440] (by decide +kernel) (by decide +kernel)
set_option maxRecDepth 20000 in
theorem gq_wsX60 : GoodIn wsL_law wsX60 := goodIn_r _ [470, 471, 472, 473] (by decide +kernel) (by decide +kernel)
set_option maxRecDepth 20000 in
theorem gq_wsX30 : GoodIn wsL_law wsX30 := goodIn_r _ [474, 475, 476, 477, 478, 479, 480, 481] (by decide +kernel) (by decide +kernel)
set_option maxRecDepth 20000 in
theorem gq_wsX00 : GoodIn wsL_law wsX00 := goodIn_r _ [489, 490, 491, 492, 493, 494, 495, 496, 497] (by decide +kernel) (by decide +kernel)
set_option maxRecDepth 20000 in
theorem gq_wsX20 : GoodIn wsL_law wsX20 := goodIn_r _ [498, 499, 500, 501, 502, 503, 504] (by decide +kernel) (by decide +kernel)
set_option maxRecDepth 20000 in
theorem gq_wsX50 : GoodIn wsL_law wsX50 := goodIn_r _ [484, 485, 486, 487, 488] (by decide +kernel) (by decide +kernel)
set_option maxRecDepth 20000 in
theorem gq_wsX10 : GoodIn wsL_law wsX10 := goodIn_r _ [482, 483] (by decide +kernel) (by decide +kernel)
set_option maxRecDepth 20000 in
theorem gq_wsX40 : GoodIn wsL_law wsX40 := goodIn_r _ [505, 506, 507, 508] (by decide +kernel) (by decide +kernel)
theorem ggL_law_L_does : GoodIn wsL_law wsL_does := goodIn_app gq_head (goodIn_app (goodIn_app (goodIn_app (goodIn_app (goodIn_app (goodIn_app (goodIn_app (goodIn_app gq_wsL_does_r1 (goodIn_app gq_wsL_does_r2 (goodIn_app gq_wsL_does_r3 (goodIn_app gq_wsL_does_r4 (goodIn_app gq_wsL_does_r5 (goodIn_app gq_wsL_does_r6 (goodIn_app gq_wsL_does_r7 (goodIn_app gq_wsL_does_r8 (goodIn_app gq_wsL_does_r9 (goodIn_app gq_wsL_does_r10 (goodIn_app gq_wsL_does_r11 (goodIn_app gq_wsL_does_r12 (goodIn_app gq_wsL_does_r13 (gq_wsL_does_r14)))))))))))))) gq_wsX60) gq_wsX30) gq_wsX00) gq_wsX20) gq_wsX50) gq_wsX10) gq_wsX40)
set_option maxRecDepth 20000 in
theorem gL_law_L_does : GoodIn wsL_law (va_wsS RL 98 yL_does wsL_does) := goodIn_app (goodIn_of _ (by decide +kernel)) ggL_law_L_does
