/-! ===== the law holds the words of its callees (printed names) ===== -/
set_option maxRecDepth 20000 in
theorem ggL_law_X6_init : GoodIn wsL_law wsX6_init := goodIn_r _ [8, 9, 10, 11, 12, 13, 14, 15, 16, 17, 18, 19, 20, 21, 22, 23, 24, 25, 26, 27, 28, 29, 30, 31, 32, 33, 34, 35, 36, 37, 38, 39, 40, 41, 42, 43, 44, 45, 46, 47, 48, 49, 50, 51, 52, 53, 54, 55, 56, 57, 58, 59, 60, 61, 62, 63, 64, 65, 66, 67, 68, 69, 70, 71, 72, 73, 74, 75, 76, 77, 78, 79, 80, 81, 82, 83, 84, 85, 86, 87, 88, 89, 90, 91, 92, 93, 94, 95, 96, 97, 98, 99, 100, 101, 102, 103, 104, 930, 931, 932, 933, 934, 935, 936, 937, 915, 916, 917, 918, 938, 939, 940, 941, 942, 943, 944, 945, 946, 947, 948, 949, 950, 951, 952, 953, 954, 955, 956, 957, 958, 959, 960, 961, 962, 963, 964] (by decide +kernel) (by decide +kernel)
set_option maxRecDepth 20000 in
theorem gL_law_X6_init : GoodIn wsL_law (wsX6_init) := ggL_law_X6_init
set_option maxRecDepth 20000 in
theorem ggL_law_X7_init : GoodIn wsL_law wsX7_init := goodIn_r _ [107, 108, 10, 11, 31, 109, 110, 111, 112, 113, 114, 115, 116, 5, 117, 118, 119, 120, 121, 122, 123, 124, 125, 919, 920, 921, 922, 923, 924, 925, 926, 927, 928, 929] (by decide +kernel) (by decide +kernel)
set_option maxRecDepth 20000 in
theorem gL_law_X7_init : GoodIn wsL_law (wsX7_init) := ggL_law_X7_init
set_option maxRecDepth 20000 in
theorem ggL_law_X6_addBay : GoodIn wsL_law wsX6_addBay := goodIn_r _ [129, 15, 130, 20, 131, 132, 2, 133, 134, 135, 136, 36, 137, 50, 51, 52, 138, 139, 140, 141, 142, 143, 144, 19, 145, 92, 94, 146, 147, 148, 149, 150, 151, 152, 14, 153, 29, 30, 32, 33, 37, 41, 45, 46, 154, 155, 156, 157, 158, 159, 160, 161, 162, 163, 164, 165, 166, 167, 53, 54, 55, 56, 57, 58, 168, 169, 170, 40, 171, 62, 63, 64, 65, 66, 67, 68, 172, 173, 174, 44, 175, 72, 73, 74, 75, 176, 177, 178, 179, 180, 181, 182, 183, 184, 185, 186, 187, 188, 915, 916, 917, 918, 930, 931, 932, 933, 934, 935, 936, 937, 945, 946, 947, 948, 949, 950, 951, 952, 953, 938, 939, 954, 955, 956, 957, 958, 959, 960, 961, 962, 963, 964] (by decide +kernel) (by decide +kernel)
set_option maxRecDepth 20000 in
theorem gL_law_X6_addBay : GoodIn wsL_law (wsV RL 13 RX6 yX6_addBay wsX6_addBay) := goodIn_app (goodIn_of _ (by decide +kernel)) ggL_law_X6_addBay
set_option maxRecDepth 20000 in
theorem ggL_law_X7_addBay : GoodIn wsL_law wsX7_addBay := goodIn_r _ [192, 109, 193, 194, 5, 195, 196, 197, 198, 199, 200, 201, 202, 203, 204, 205, 206, 207, 208, 110, 209, 210, 211, 212, 213, 214, 215, 216, 919, 920, 921, 922, 923, 924, 925, 926, 927, 928, 929] (by decide +kernel) (by decide +kernel)
set_option maxRecDepth 20000 in
theorem gL_law_X7_addBay : GoodIn wsL_law (wsV RL 17 RX7 yX7_addBay wsX7_addBay) := goodIn_app (goodIn_of _ (by decide +kernel)) ggL_law_X7_addBay
set_option maxRecDepth 20000 in
theorem ggL_law_X6_setBay : GoodIn wsL_law wsX6_setBay := goodIn_r _ [220, 15, 130, 20, 221, 222, 186, 187, 36, 188, 50, 131, 132, 2, 133, 142, 143, 144, 19, 145, 92, 94, 146, 147, 148, 149, 150, 151, 152, 14, 153, 29, 30, 32, 33, 37, 41, 45, 46, 154, 155, 156, 157, 158, 159, 160, 161, 162, 163, 164, 165, 166, 167, 51, 52, 53, 54, 55, 56, 57, 58, 168, 169, 170, 40, 171, 62, 63, 64, 65, 66, 67, 68, 172, 173, 174, 44, 175, 72, 73, 74, 75, 915, 916, 917, 918, 930, 931, 932, 933, 934, 935, 936, 937, 945, 946, 947, 948, 949, 950, 951, 952, 953, 938, 939, 954, 955, 956, 957, 958, 959, 960, 961, 962, 963, 964] (by decide +kernel) (by decide +kernel)
set_option maxRecDepth 20000 in
theorem gL_law_X6_setBay : GoodIn wsL_law (wsV RL 18 RX6 yX6_setBay wsX6_setBay) := goodIn_app (goodIn_of _ (by decide +kernel)) ggL_law_X6_setBay
set_option maxRecDepth 20000 in
theorem ggL_law_X7_setBay : GoodIn wsL_law wsX7_setBay := goodIn_r _ [226, 227, 228, 229, 5, 230, 109, 193, 194, 195, 204, 205, 206, 207, 208, 110, 200, 201, 202, 203, 213, 214, 215, 216, 919, 920, 921, 922, 923, 924, 925, 926, 927, 928, 929] (by decide +kernel) (by decide +kernel)
set_option maxRecDepth 20000 in
theorem gL_law_X7_setBay : GoodIn wsL_law (wsV RL 22 RX7 yX7_setBay wsX7_setBay) := goodIn_app (goodIn_of _ (by decide +kernel)) ggL_law_X7_setBay
set_option maxRecDepth 20000 in
theorem ggL_law_X6_setStep : GoodIn wsL_law wsX6_setStep := goodIn_r _ [234, 15, 20, 235, 236, 237, 2, 238, 131, 132, 133, 239, 240, 241, 14, 242, 45, 46, 243, 244, 245, 44, 246, 72, 73, 80, 81, 82, 83, 142, 143, 144, 19, 145, 92, 94, 146, 147, 148, 149, 150, 151, 152, 153, 29, 30, 32, 33, 37, 41, 154, 155, 156, 157, 158, 159, 160, 161, 162, 163, 164, 165, 166, 36, 167, 50, 51, 52, 53, 54, 55, 56, 57, 58, 168, 169, 170, 40, 171, 62, 63, 64, 65, 66, 67, 68, 172, 173, 174, 175, 74, 75, 247, 248, 249, 250, 251, 84, 85, 86, 87, 252, 253, 254, 255, 256, 77, 78, 79, 915, 916, 917, 918, 961, 962, 963, 964, 930, 931, 932, 933, 934, 935, 936, 937, 938, 939, 945, 946, 947, 948, 949, 950, 951, 952, 953, 954, 955, 956, 957, 958, 959, 960] (by decide +kernel) (by decide +kernel)
set_option maxRecDepth 20000 in
theorem gL_law_X6_setStep : GoodIn wsL_law (wsV RL 23 RX6 yX6_setStep wsX6_setStep) := goodIn_app (goodIn_of _ (by decide +kernel)) ggL_law_X6_setStep
set_option maxRecDepth 20000 in
theorem ggL_law_X7_setStep : GoodIn wsL_law wsX7_setStep := goodIn_r _ [260, 109, 193, 194, 5, 195, 122, 123, 124, 125, 118, 119, 120, 121, 204, 205, 206, 207, 208, 110, 261, 262, 263, 264, 114, 115, 116, 117, 919, 920, 921, 922, 923, 924, 925, 926, 927, 928, 929] (by decide +kernel) (by decide +kernel)
set_option maxRecDepth 20000 in
theorem gL_law_X7_setStep : GoodIn wsL_law (wsV RL 27 RX7 yX7_setStep wsX7_setStep) := goodIn_app (goodIn_of _ (by decide +kernel)) ggL_law_X7_setStep
set_option maxRecDepth 20000 in
theorem ggL_law_X6_setNumber : GoodIn wsL_law wsX6_setNumber := goodIn_r _ [268, 269, 270, 20, 15, 271, 131, 132, 2, 133, 142, 143, 144, 19, 145, 92, 94, 146, 147, 148, 149, 150, 151, 152, 14, 153, 29, 30, 32, 33, 37, 41, 45, 46, 154, 155, 156, 157, 158, 159, 160, 161, 162, 163, 164, 165, 166, 36, 167, 50, 51, 52, 53, 54, 55, 56, 57, 58, 168, 169, 170, 40, 171, 62, 63, 64, 65, 66, 67, 68, 172, 173, 174, 44, 175, 72, 73, 74, 75, 915, 916, 917, 918, 930, 931, 932, 933, 934, 935, 936, 937, 938, 939, 945, 946, 947, 948, 949, 950, 951, 952, 953, 954, 955, 956, 957, 958, 959, 960, 961, 962, 963, 964] (by decide +kernel) (by decide +kernel)
set_option maxRecDepth 20000 in
theorem gL_law_X6_setNumber : GoodIn wsL_law (wsV RL 28 RX6 yX6_setNumber wsX6_setNumber) := goodIn_app (goodIn_of _ (by decide +kernel)) ggL_law_X6_setNumber
set_option maxRecDepth 20000 in
theorem ggL_law_X7_setNumber : GoodIn wsL_law wsX7_setNumber := goodIn_r _ [275, 109, 193, 194, 5, 195, 276, 277, 278, 279, 204, 205, 206, 207, 208, 110, 919, 920, 921, 922, 923, 924, 925, 926, 927, 928, 929] (by decide +kernel) (by decide +kernel)
set_option maxRecDepth 20000 in
theorem gL_law_X7_setNumber : GoodIn wsL_law (wsV RL 31 RX7 yX7_setNumber wsX7_setNumber) := goodIn_app (goodIn_of _ (by decide +kernel)) ggL_law_X7_setNumber
set_option maxRecDepth 20000 in
theorem ggL_law_X6_appendCharacter : GoodIn wsL_law wsX6_appendCharacter := goodIn_r _ [283, 24, 284, 131, 132, 2, 133, 285, 286, 287, 23, 288, 99, 289, 290, 291, 292, 101, 293, 915, 916, 917, 918, 940, 941, 942, 943, 944] (by decide +kernel) (by decide +kernel)
set_option maxRecDepth 20000 in
theorem gL_law_X6_appendCharacter : GoodIn wsL_law (wsV RL 32 RX6 yX6_appendCharacter wsX6_appendCharacter) := goodIn_app (goodIn_of _ (by decide +kernel)) ggL_law_X6_appendCharacter
set_option maxRecDepth 20000 in
theorem ggL_law_X7_appendCharacter : GoodIn wsL_law wsX7_appendCharacter := goodIn_r _ [297, 298, 113, 193, 194, 5, 195, 919, 920, 921, 922, 923, 924, 925, 926, 927, 928, 929] (by decide +kernel) (by decide +kernel)
set_option maxRecDepth 20000 in
theorem gL_law_X7_appendCharacter : GoodIn wsL_law (wsV RL 36 RX7 yX7_appendCharacter wsX7_appendCharacter) := goodIn_app (goodIn_of _ (by decide +kernel)) ggL_law_X7_appendCharacter
set_option maxRecDepth 20000 in
theorem ggL_law_X6_clearText : GoodIn wsL_law wsX6_clearText := goodIn_r _ [302, 24, 284, 303, 304, 305, 23, 306, 99, 915, 916, 917, 918, 940, 941, 942, 943, 944] (by decide +kernel) (by decide +kernel)
set_option maxRecDepth 20000 in
theorem gL_law_X6_clearText : GoodIn wsL_law (wsV RL 37 RX6 yX6_clearText wsX6_clearText) := goodIn_app (goodIn_of _ (by decide +kernel)) ggL_law_X6_clearText
set_option maxRecDepth 20000 in
theorem ggL_law_X7_clearText : GoodIn wsL_law wsX7_clearText := goodIn_r _ [310, 298, 919, 920, 921, 922, 923, 924, 925, 926, 927, 928, 929] (by decide +kernel) (by decide +kernel)
set_option maxRecDepth 20000 in
theorem gL_law_X7_clearText : GoodIn wsL_law (wsV RL 41 RX7 yX7_clearText wsX7_clearText) := goodIn_app (goodIn_of _ (by decide +kernel)) ggL_law_X7_clearText
set_option maxRecDepth 20000 in
theorem ggL_law_X6_load : GoodIn wsL_law wsX6_load := goodIn_r _ [314, 16, 15, 24, 20, 315, 151, 152, 14, 153, 29, 30, 32, 33, 37, 41, 45, 46, 154, 2, 155, 156, 157, 158, 159, 160, 161, 162, 163, 164, 165, 166, 36, 167, 50, 51, 52, 53, 54, 55, 56, 57, 58, 168, 169, 170, 40, 171, 62, 63, 64, 65, 66, 67, 68, 172, 173, 174, 44, 175, 72, 73, 74, 75, 316, 317, 318, 23, 319, 104, 102, 103, 320, 321, 322, 323, 99, 324, 325, 326, 327, 328, 329, 330, 101, 331, 332, 333, 334, 335, 336, 337, 338, 339, 340, 341, 342, 343, 344, 345, 346, 347, 348, 349, 350, 351, 352, 353, 354, 355, 356, 357, 358, 359, 360, 361, 362, 363, 364, 365, 366, 367, 368, 369, 370, 371, 372, 373, 374, 375, 376, 377, 378, 379, 380, 381, 382, 383, 384, 385, 386, 387, 388, 389, 390, 391, 392, 393, 394, 395, 396, 397, 139, 140, 141, 398, 399, 400, 401, 402, 403, 404, 405, 406, 407, 408, 409, 410, 132, 133, 411, 135, 136, 137, 412, 413, 414, 415, 416, 177, 178, 179, 180, 181, 182, 183, 184, 185, 186, 187, 188, 417, 418, 419, 420, 421, 422, 423, 424, 425, 240, 241, 242, 426, 253, 254, 255, 251, 244, 245, 246, 80, 81, 82, 83, 427, 77, 78, 79, 84, 85, 86, 87, 428, 429, 430, 431, 432, 142, 143, 144, 19, 145, 92, 94, 146, 147, 148, 149, 150, 303, 304, 305, 306, 915, 916, 917, 918, 930, 931, 932, 933, 934, 935, 936, 937, 945, 946, 947, 948, 949, 950, 951, 952, 953, 954, 955, 956, 957, 958, 959, 960, 961, 962, 963, 964, 940, 941, 942, 943, 944, 938, 939] (by decide +kernel) (by decide +kernel)
set_option maxRecDepth 20000 in
theorem gL_law_X6_load : GoodIn wsL_law (wsV RL 42 RX6 yX6_load wsX6_load) := goodIn_app (goodIn_of _ (by decide +kernel)) ggL_law_X6_load
set_option maxRecDepth 20000 in
theorem ggL_law_X7_load : GoodIn wsL_law wsX7_load := goodIn_r _ [436, 111, 109, 437, 438, 298, 439, 440, 441, 5, 442, 443, 444, 445, 446, 447, 448, 113, 449, 450, 451, 452, 453, 454, 455, 279, 193, 194, 195, 456, 457, 458, 459, 460, 461, 462, 463, 464, 465, 466, 467, 468, 469, 470, 471, 472, 473, 196, 197, 198, 199, 200, 201, 202, 203, 209, 210, 211, 212, 213, 214, 215, 216, 474, 475, 476, 477, 478, 479, 122, 123, 124, 125, 118, 119, 120, 121, 114, 115, 116, 117, 480, 481, 482, 483, 276, 277, 278, 484, 485, 486, 487, 204, 205, 206, 207, 208, 110, 919, 920, 921, 922, 923, 924, 925, 926, 927, 928, 929] (by decide +kernel) (by decide +kernel)
set_option maxRecDepth 20000 in
theorem gL_law_X7_load : GoodIn wsL_law (wsV RL 45 RX7 yX7_load wsX7_load) := goodIn_app (goodIn_of _ (by decide +kernel)) ggL_law_X7_load
set_option maxRecDepth 20000 in
theorem ggL_law_X6_reserve : GoodIn wsL_law wsX6_reserve := goodIn_r _ [491, 15, 492, 493, 130, 20, 494, 495, 496, 2, 497, 131, 132, 133, 498, 499, 500, 14, 501, 37, 502, 503, 504, 505, 36, 506, 54, 53, 185, 186, 187, 188, 50, 507, 508, 509, 510, 32, 29, 41, 511, 512, 513, 514, 55, 515, 516, 517, 40, 518, 62, 64, 519, 520, 521, 522, 65, 66, 523, 524, 525, 526, 68, 527, 528, 529, 530, 531, 532, 533, 534, 535, 536, 537, 538, 539, 540, 541, 542, 543, 544, 545, 546, 547, 222, 142, 143, 144, 19, 145, 92, 94, 146, 147, 148, 149, 150, 151, 152, 153, 30, 33, 45, 46, 154, 155, 156, 157, 158, 159, 160, 161, 162, 163, 164, 165, 166, 167, 51, 52, 56, 57, 58, 168, 169, 170, 171, 63, 67, 172, 173, 174, 44, 175, 72, 73, 74, 75, 548, 549, 550, 551, 552, 553, 554, 555, 556, 557, 558, 559, 560, 561, 562, 563, 564, 565, 915, 916, 917, 918, 930, 931, 932, 933, 934, 935, 936, 937, 945, 946, 947, 948, 949, 950, 951, 952, 953, 954, 955, 956, 957, 958, 959, 960, 938, 939, 961, 962, 963, 964] (by decide +kernel) (by decide +kernel)
set_option maxRecDepth 20000 in
theorem gL_law_X6_reserve : GoodIn wsL_law (wsV RL 46 RX6 yX6_reserve wsX6_reserve) := goodIn_app (goodIn_of _ (by decide +kernel)) ggL_law_X6_reserve
set_option maxRecDepth 20000 in
theorem ggL_law_X7_reserve : GoodIn wsL_law wsX7_reserve := goodIn_r _ [569, 109, 193, 194, 5, 195, 570, 571, 572, 573, 574, 575, 576, 577, 200, 201, 202, 203, 578, 579, 580, 581, 582, 583, 584, 585, 586, 587, 588, 589, 590, 591, 592, 593, 594, 595, 596, 597, 598, 599, 600, 601, 204, 205, 206, 207, 208, 110, 602, 603, 604, 605, 606, 607, 608, 609, 456, 457, 458, 919, 920, 921, 922, 923, 924, 925, 926, 927, 928, 929] (by decide +kernel) (by decide +kernel)
set_option maxRecDepth 20000 in
theorem gL_law_X7_reserve : GoodIn wsL_law (wsV RL 49 RX7 yX7_reserve wsX7_reserve) := goodIn_app (goodIn_of _ (by decide +kernel)) ggL_law_X7_reserve
set_option maxRecDepth 20000 in
theorem ggL_law_X6_cancel : GoodIn wsL_law wsX6_cancel := goodIn_r _ [613, 15, 493, 614, 20, 615, 492, 616, 494, 617, 528, 529, 40, 530, 62, 142, 143, 144, 19, 145, 92, 94, 146, 147, 148, 149, 150, 151, 152, 14, 153, 29, 30, 32, 33, 37, 41, 45, 46, 154, 2, 155, 156, 157, 158, 159, 160, 161, 162, 163, 164, 165, 166, 36, 167, 50, 51, 52, 53, 54, 55, 56, 57, 58, 168, 169, 170, 171, 63, 64, 65, 66, 67, 68, 172, 173, 174, 44, 175, 72, 73, 74, 75, 915, 916, 917, 918, 930, 931, 932, 933, 934, 935, 936, 937, 954, 955, 956, 957, 958, 959, 960, 938, 939, 945, 946, 947, 948, 949, 950, 951, 952, 953, 961, 962, 963, 964] (by decide +kernel) (by decide +kernel)
set_option maxRecDepth 20000 in
theorem gL_law_X6_cancel : GoodIn wsL_law (wsV RL 50 RX6 yX6_cancel wsX6_cancel) := goodIn_app (goodIn_of _ (by decide +kernel)) ggL_law_X6_cancel
set_option maxRecDepth 20000 in
theorem ggL_law_X7_cancel : GoodIn wsL_law wsX7_cancel := goodIn_r _ [621, 109, 622, 623, 624, 5, 625, 193, 194, 195, 586, 587, 588, 589, 204, 205, 206, 207, 208, 110, 626, 627, 628, 629, 919, 920, 921, 922, 923, 924, 925, 926, 927, 928, 929] (by decide +kernel) (by decide +kernel)
set_option maxRecDepth 20000 in
theorem gL_law_X7_cancel : GoodIn wsL_law (wsV RL 53 RX7 yX7_cancel wsX7_cancel) := goodIn_app (goodIn_of _ (by decide +kernel)) ggL_law_X7_cancel
set_option maxRecDepth 20000 in
theorem ggL_law_X6_enter : GoodIn wsL_law wsX6_enter := goodIn_r _ [633, 15, 130, 493, 634, 20, 635, 495, 496, 2, 497, 131, 132, 133, 636, 637, 638, 36, 639, 50, 55, 222, 186, 187, 188, 640, 641, 642, 14, 643, 41, 29, 32, 644, 37, 645, 646, 647, 40, 648, 62, 63, 68, 519, 520, 521, 522, 65, 66, 523, 524, 525, 526, 527, 528, 529, 530, 531, 503, 504, 505, 506, 54, 53, 185, 511, 512, 513, 514, 617, 649, 650, 651, 652, 502, 653, 654, 655, 656, 515, 516, 517, 518, 64, 532, 533, 534, 535, 536, 537, 538, 539, 540, 541, 542, 543, 142, 143, 144, 19, 145, 92, 94, 146, 147, 148, 149, 150, 151, 152, 153, 30, 33, 45, 46, 154, 155, 156, 157, 158, 159, 160, 161, 162, 163, 164, 165, 166, 167, 51, 52, 56, 57, 58, 168, 169, 170, 171, 67, 172, 173, 174, 44, 175, 72, 73, 74, 75, 657, 658, 659, 660, 661, 662, 663, 664, 665, 915, 916, 917, 918, 930, 931, 932, 933, 934, 935, 936, 937, 954, 955, 956, 957, 958, 959, 960, 945, 946, 947, 948, 949, 950, 951, 952, 953, 938, 939, 961, 962, 963, 964] (by decide +kernel) (by decide +kernel)
set_option maxRecDepth 20000 in
theorem gL_law_X6_enter : GoodIn wsL_law (wsV RL 54 RX6 yX6_enter wsX6_enter) := goodIn_app (goodIn_of _ (by decide +kernel)) ggL_law_X6_enter
set_option maxRecDepth 20000 in
theorem ggL_law_X7_enter : GoodIn wsL_law wsX7_enter := goodIn_r _ [669, 109, 193, 194, 5, 195, 670, 671, 672, 673, 200, 201, 202, 203, 674, 675, 676, 677, 586, 587, 588, 589, 678, 679, 680, 681, 590, 591, 592, 593, 578, 579, 580, 581, 574, 575, 576, 577, 682, 683, 684, 685, 686, 687, 688, 689, 690, 691, 692, 693, 594, 595, 596, 597, 598, 599, 600, 601, 204, 205, 206, 207, 208, 110, 213, 214, 215, 216, 626, 627, 628, 629, 919, 920, 921, 922, 923, 924, 925, 926, 927, 928, 929] (by decide +kernel) (by decide +kernel)
set_option maxRecDepth 20000 in
theorem gL_law_X7_enter : GoodIn wsL_law (wsV RL 57 RX7 yX7_enter wsX7_enter) := goodIn_app (goodIn_of _ (by decide +kernel)) ggL_law_X7_enter
set_option maxRecDepth 20000 in
theorem ggL_law_X6_leave : GoodIn wsL_law wsX6_leave := goodIn_r _ [697, 15, 635, 130, 20, 492, 493, 698, 494, 131, 132, 2, 133, 699, 700, 701, 36, 702, 50, 56, 222, 186, 187, 188, 142, 143, 144, 19, 145, 92, 94, 146, 147, 148, 149, 150, 151, 152, 14, 153, 29, 30, 32, 33, 37, 41, 45, 46, 154, 155, 156, 157, 158, 159, 160, 161, 162, 163, 164, 165, 166, 167, 51, 52, 53, 54, 55, 57, 58, 168, 169, 170, 40, 171, 62, 63, 64, 65, 66, 67, 68, 172, 173, 174, 44, 175, 72, 73, 74, 75, 703, 704, 705, 706, 664, 663, 707, 537, 531, 528, 529, 530, 708, 549, 550, 551, 552, 553, 554, 555, 556, 557, 558, 559, 560, 617, 709, 710, 711, 712, 665, 713, 182, 183, 184, 185, 915, 916, 917, 918, 930, 931, 932, 933, 934, 935, 936, 937, 945, 946, 947, 948, 949, 950, 951, 952, 953, 938, 939, 954, 955, 956, 957, 958, 959, 960, 961, 962, 963, 964] (by decide +kernel) (by decide +kernel)
set_option maxRecDepth 20000 in
theorem gL_law_X6_leave : GoodIn wsL_law (wsV RL 58 RX6 yX6_leave wsX6_leave) := goodIn_app (goodIn_of _ (by decide +kernel)) ggL_law_X6_leave
set_option maxRecDepth 20000 in
theorem ggL_law_X7_leave : GoodIn wsL_law wsX7_leave := goodIn_r _ [717, 109, 193, 194, 5, 195, 200, 201, 202, 203, 718, 719, 720, 721, 602, 603, 604, 605, 606, 607, 608, 609, 456, 457, 458, 586, 587, 588, 589, 722, 723, 724, 725, 204, 205, 206, 207, 208, 110, 626, 627, 628, 629, 213, 214, 215, 216, 919, 920, 921, 922, 923, 924, 925, 926, 927, 928, 929] (by decide +kernel) (by decide +kernel)
set_option maxRecDepth 20000 in
theorem gL_law_X7_leave : GoodIn wsL_law (wsV RL 61 RX7 yX7_leave wsX7_leave) := goodIn_app (goodIn_of _ (by decide +kernel)) ggL_law_X7_leave
set_option maxRecDepth 20000 in
theorem ggL_law_X6_leaveLost : GoodIn wsL_law wsX6_leaveLost := goodIn_r _ [729, 15, 130, 20, 494, 495, 496, 2, 497, 131, 132, 133, 636, 637, 638, 36, 639, 50, 55, 222, 186, 187, 188, 142, 143, 144, 19, 145, 92, 94, 146, 147, 148, 149, 150, 151, 152, 14, 153, 29, 30, 32, 33, 37, 41, 45, 46, 154, 155, 156, 157, 158, 159, 160, 161, 162, 163, 164, 165, 166, 167, 51, 52, 53, 54, 56, 57, 58, 168, 169, 170, 40, 171, 62, 63, 64, 65, 66, 67, 68, 172, 173, 174, 44, 175, 72, 73, 74, 75, 730, 731, 732, 733, 663, 552, 537, 708, 549, 550, 551, 553, 554, 555, 556, 557, 558, 559, 560, 709, 710, 711, 712, 664, 665, 531, 528, 529, 530, 713, 182, 183, 184, 185, 915, 916, 917, 918, 930, 931, 932, 933, 934, 935, 936, 937, 945, 946, 947, 948, 949, 950, 951, 952, 953, 938, 939, 954, 955, 956, 957, 958, 959, 960, 961, 962, 963, 964] (by decide +kernel) (by decide +kernel)
set_option maxRecDepth 20000 in
theorem gL_law_X6_leaveLost : GoodIn wsL_law (wsV RL 62 RX6 yX6_leaveLost wsX6_leaveLost) := goodIn_app (goodIn_of _ (by decide +kernel)) ggL_law_X6_leaveLost
set_option maxRecDepth 20000 in
theorem ggL_law_X7_leaveLost : GoodIn wsL_law wsX7_leaveLost := goodIn_r _ [737, 193, 194, 5, 195, 670, 671, 672, 673, 109, 200, 201, 202, 203, 738, 739, 740, 741, 456, 457, 458, 602, 603, 604, 605, 606, 607, 608, 609, 722, 723, 724, 725, 204, 205, 206, 207, 208, 110, 626, 627, 628, 629, 213, 214, 215, 216, 919, 920, 921, 922, 923, 924, 925, 926, 927, 928, 929] (by decide +kernel) (by decide +kernel)
set_option maxRecDepth 20000 in
theorem gL_law_X7_leaveLost : GoodIn wsL_law (wsV RL 65 RX7 yX7_leaveLost wsX7_leaveLost) := goodIn_app (goodIn_of _ (by decide +kernel)) ggL_law_X7_leaveLost
set_option maxRecDepth 20000 in
theorem ggL_law_X6_pass : GoodIn wsL_law wsX6_pass := goodIn_r _ [745, 15, 492, 20, 493, 131, 132, 2, 133, 142, 143, 144, 19, 145, 92, 94, 146, 147, 148, 149, 150, 151, 152, 14, 153, 29, 30, 32, 33, 37, 41, 45, 46, 154, 155, 156, 157, 158, 159, 160, 161, 162, 163, 164, 165, 166, 36, 167, 50, 51, 52, 53, 54, 55, 56, 57, 58, 168, 169, 170, 40, 171, 62, 63, 64, 65, 66, 67, 68, 172, 173, 174, 44, 175, 72, 73, 74, 75, 746, 747, 748, 749, 915, 916, 917, 918, 930, 931, 932, 933, 934, 935, 936, 937, 938, 939, 945, 946, 947, 948, 949, 950, 951, 952, 953, 954, 955, 956, 957, 958, 959, 960, 961, 962, 963, 964] (by decide +kernel) (by decide +kernel)
set_option maxRecDepth 20000 in
theorem gL_law_X6_pass : GoodIn wsL_law (wsV RL 66 RX6 yX6_pass wsX6_pass) := goodIn_app (goodIn_of _ (by decide +kernel)) ggL_law_X6_pass
set_option maxRecDepth 20000 in
theorem ggL_law_X7_pass : GoodIn wsL_law wsX7_pass := goodIn_r _ [753, 109, 193, 194, 5, 195, 204, 205, 206, 207, 208, 110, 586, 587, 588, 589, 626, 627, 628, 629, 919, 920, 921, 922, 923, 924, 925, 926, 927, 928, 929] (by decide +kernel) (by decide +kernel)
set_option maxRecDepth 20000 in
theorem gL_law_X7_pass : GoodIn wsL_law (wsV RL 69 RX7 yX7_pass wsX7_pass) := goodIn_app (goodIn_of _ (by decide +kernel)) ggL_law_X7_pass
set_option maxRecDepth 20000 in
theorem ggL_law_X6_count : GoodIn wsL_law wsX6_count := goodIn_r _ [757, 15, 130, 758, 493, 759, 635, 492, 271, 24, 284, 20, 760, 761, 762, 763, 36, 764, 50, 765, 512, 513, 514, 55, 185, 186, 187, 188, 915, 916, 917, 918, 930, 931, 932, 933, 934, 935, 936, 937, 945, 946, 947, 948, 949, 950, 951, 952, 953, 954, 955, 956, 957, 958, 959, 960, 940, 941, 942, 943, 944, 938, 939] (by decide +kernel) (by decide +kernel)
set_option maxRecDepth 20000 in
theorem gL_law_X6_count : GoodIn wsL_law (wsV RL 70 RX6 yX6_count wsX6_count) := goodIn_app (goodIn_of _ (by decide +kernel)) ggL_law_X6_count
set_option maxRecDepth 20000 in
theorem ggL_law_X7_count : GoodIn wsL_law wsX7_count := goodIn_r _ [769, 109, 298, 208, 193, 194, 5, 195, 919, 920, 921, 922, 923, 924, 925, 926, 927, 928, 929] (by decide +kernel) (by decide +kernel)
set_option maxRecDepth 20000 in
theorem gL_law_X7_count : GoodIn wsL_law (wsV RL 73 RX7 yX7_count wsX7_count) := goodIn_app (goodIn_of _ (by decide +kernel)) ggL_law_X7_count
set_option maxRecDepth 20000 in
theorem ggL_law_X6_bay : GoodIn wsL_law wsX6_bay := goodIn_r _ [773, 15, 130, 774, 775, 776, 221, 777, 222, 186, 187, 36, 188, 50, 778, 539, 540, 14, 541, 37, 542, 32, 543, 537, 779, 512, 513, 514, 55, 185, 780, 781, 782, 783, 41, 29, 515, 516, 517, 40, 518, 62, 64, 519, 520, 521, 522, 65, 66, 523, 524, 525, 526, 68, 527, 528, 529, 530, 915, 916, 917, 918, 930, 931, 932, 933, 934, 935, 936, 937, 945, 946, 947, 948, 949, 950, 951, 952, 953, 954, 955, 956, 957, 958, 959, 960] (by decide +kernel) (by decide +kernel)
set_option maxRecDepth 20000 in
theorem gL_law_X6_bay : GoodIn wsL_law (wsV RL 74 RX6 yX6_bay wsX6_bay) := goodIn_app (goodIn_of _ (by decide +kernel)) ggL_law_X6_bay
set_option maxRecDepth 20000 in
theorem ggL_law_X7_bay : GoodIn wsL_law wsX7_bay := goodIn_r _ [787, 227, 228, 229, 5, 230, 109, 193, 194, 195, 598, 599, 600, 601, 200, 201, 202, 203, 690, 691, 692, 693, 586, 587, 588, 589, 678, 679, 680, 681, 590, 591, 592, 593, 578, 579, 580, 581, 919, 920, 921, 922, 923, 924, 925, 926, 927, 928, 929] (by decide +kernel) (by decide +kernel)
set_option maxRecDepth 20000 in
theorem gL_law_X7_bay : GoodIn wsL_law (wsV RL 77 RX7 yX7_bay wsX7_bay) := goodIn_app (goodIn_of _ (by decide +kernel)) ggL_law_X7_bay
set_option maxRecDepth 20000 in
theorem ggL_law_X6_reservation : GoodIn wsL_law wsX6_reservation := goodIn_r _ [791, 15, 493, 792, 634, 615, 793, 616, 614, 617, 528, 529, 40, 530, 62, 915, 916, 917, 918, 930, 931, 932, 933, 934, 935, 936, 937, 954, 955, 956, 957, 958, 959, 960] (by decide +kernel) (by decide +kernel)
set_option maxRecDepth 20000 in
theorem gL_law_X6_reservation : GoodIn wsL_law (wsV RL 78 RX6 yX6_reservation wsX6_reservation) := goodIn_app (goodIn_of _ (by decide +kernel)) ggL_law_X6_reservation
set_option maxRecDepth 20000 in
theorem ggL_law_X7_reservation : GoodIn wsL_law wsX7_reservation := goodIn_r _ [797, 622, 623, 624, 5, 625, 109, 193, 194, 195, 586, 587, 588, 589, 919, 920, 921, 922, 923, 924, 925, 926, 927, 928, 929] (by decide +kernel) (by decide +kernel)
set_option maxRecDepth 20000 in
theorem gL_law_X7_reservation : GoodIn wsL_law (wsV RL 81 RX7 yX7_reservation wsX7_reservation) := goodIn_app (goodIn_of _ (by decide +kernel)) ggL_law_X7_reservation
set_option maxRecDepth 20000 in
theorem ggL_law_X6_car : GoodIn wsL_law wsX6_car := goodIn_r _ [801, 15, 130, 802, 803, 698, 492, 495, 496, 2, 497, 131, 132, 133, 636, 637, 638, 36, 639, 50, 55, 222, 186, 187, 188, 703, 704, 705, 14, 706, 37, 664, 41, 663, 46, 707, 537, 531, 528, 529, 40, 530, 62, 708, 549, 550, 551, 32, 45, 552, 157, 158, 159, 553, 554, 555, 44, 556, 72, 73, 557, 75, 74, 558, 559, 560, 730, 731, 732, 733, 29, 915, 916, 917, 918, 930, 931, 932, 933, 934, 935, 936, 937, 945, 946, 947, 948, 949, 950, 951, 952, 953, 954, 955, 956, 957, 958, 959, 960, 961, 962, 963, 964] (by decide +kernel) (by decide +kernel)
set_option maxRecDepth 20000 in
theorem gL_law_X6_car : GoodIn wsL_law (wsV RL 82 RX6 yX6_car wsX6_car) := goodIn_app (goodIn_of _ (by decide +kernel)) ggL_law_X6_car
set_option maxRecDepth 20000 in
theorem ggL_law_X7_car : GoodIn wsL_law wsX7_car := goodIn_r _ [807, 109, 193, 194, 5, 195, 670, 671, 672, 673, 200, 201, 202, 203, 718, 719, 720, 721, 602, 603, 604, 605, 606, 607, 608, 609, 456, 457, 458, 586, 587, 588, 589, 738, 739, 740, 741, 919, 920, 921, 922, 923, 924, 925, 926, 927, 928, 929] (by decide +kernel) (by decide +kernel)
set_option maxRecDepth 20000 in
theorem gL_law_X7_car : GoodIn wsL_law (wsV RL 85 RX7 yX7_car wsX7_car) := goodIn_app (goodIn_of _ (by decide +kernel)) ggL_law_X7_car
set_option maxRecDepth 20000 in
theorem ggL_law_X6_step : GoodIn wsL_law wsX6_step := goodIn_r _ [811, 15, 235, 812, 813, 814, 236, 237, 2, 238, 131, 132, 133, 239, 240, 241, 14, 242, 45, 46, 915, 916, 917, 918, 961, 962, 963, 964, 930, 931, 932, 933, 934, 935, 936, 937] (by decide +kernel) (by decide +kernel)
set_option maxRecDepth 20000 in
theorem gL_law_X6_step : GoodIn wsL_law (wsV RL 86 RX6 yX6_step wsX6_step) := goodIn_app (goodIn_of _ (by decide +kernel)) ggL_law_X6_step
set_option maxRecDepth 20000 in
theorem ggL_law_X7_step : GoodIn wsL_law wsX7_step := goodIn_r _ [818, 109, 193, 194, 5, 195, 919, 920, 921, 922, 923, 924, 925, 926, 927, 928, 929] (by decide +kernel) (by decide +kernel)
set_option maxRecDepth 20000 in
theorem gL_law_X7_step : GoodIn wsL_law (wsV RL 89 RX7 yX7_step wsX7_step) := goodIn_app (goodIn_of _ (by decide +kernel)) ggL_law_X7_step
set_option maxRecDepth 20000 in
theorem ggL_law_X6_account : GoodIn wsL_law wsX6_account := goodIn_r _ [822, 15, 494, 131, 132, 2, 133, 823, 824, 825, 14, 826, 33, 915, 916, 917, 918, 930, 931, 932, 933, 934, 935, 936, 937] (by decide +kernel) (by decide +kernel)
set_option maxRecDepth 20000 in
theorem gL_law_X6_account : GoodIn wsL_law (wsV RL 90 RX6 yX6_account wsX6_account) := goodIn_app (goodIn_of _ (by decide +kernel)) ggL_law_X6_account
set_option maxRecDepth 20000 in
theorem ggL_law_X7_account : GoodIn wsL_law wsX7_account := goodIn_r _ [830, 109, 193, 194, 5, 195, 919, 920, 921, 922, 923, 924, 925, 926, 927, 928, 929] (by decide +kernel) (by decide +kernel)
set_option maxRecDepth 20000 in
theorem gL_law_X7_account : GoodIn wsL_law (wsV RL 93 RX7 yX7_account wsX7_account) := goodIn_app (goodIn_of _ (by decide +kernel)) ggL_law_X7_account
set_option maxRecDepth 20000 in
theorem ggL_law_X6_nearest : GoodIn wsL_law wsX6_nearest := goodIn_r _ [834, 15, 131, 132, 2, 133, 649, 650, 651, 14, 652, 37, 502, 503, 504, 505, 36, 506, 54, 53, 185, 186, 187, 188, 50, 511, 512, 513, 514, 55, 653, 654, 655, 656, 41, 29, 32, 515, 516, 517, 40, 518, 62, 64, 519, 520, 521, 522, 65, 66, 523, 524, 525, 526, 68, 527, 528, 529, 530, 531, 532, 533, 534, 535, 536, 537, 538, 539, 540, 541, 542, 543, 915, 916, 917, 918, 930, 931, 932, 933, 934, 935, 936, 937, 945, 946, 947, 948, 949, 950, 951, 952, 953, 954, 955, 956, 957, 958, 959, 960] (by decide +kernel) (by decide +kernel)
set_option maxRecDepth 20000 in
theorem gL_law_X6_nearest : GoodIn wsL_law (wsV RL 94 RX6 yX6_nearest wsX6_nearest) := goodIn_app (goodIn_of _ (by decide +kernel)) ggL_law_X6_nearest
set_option maxRecDepth 20000 in
theorem ggL_law_X7_nearest : GoodIn wsL_law wsX7_nearest := goodIn_r _ [838, 193, 194, 5, 195, 682, 683, 684, 685, 109, 686, 687, 688, 689, 200, 201, 202, 203, 690, 691, 692, 693, 586, 587, 588, 589, 678, 679, 680, 681, 590, 591, 592, 593, 578, 579, 580, 581, 574, 575, 576, 577, 594, 595, 596, 597, 598, 599, 600, 601, 919, 920, 921, 922, 923, 924, 925, 926, 927, 928, 929] (by decide +kernel) (by decide +kernel)
set_option maxRecDepth 20000 in
theorem gL_law_X7_nearest : GoodIn wsL_law (wsV RL 97 RX7 yX7_nearest wsX7_nearest) := goodIn_app (goodIn_of _ (by decide +kernel)) ggL_law_X7_nearest
set_option maxRecDepth 20000 in
theorem ggL_law_X6_free : GoodIn wsL_law wsX6_free := goodIn_r _ [842, 15, 131, 132, 2, 133, 843, 844, 845, 14, 846, 37, 502, 542, 536, 503, 504, 505, 36, 506, 54, 53, 185, 186, 187, 188, 50, 511, 512, 513, 514, 55, 653, 654, 655, 656, 41, 29, 32, 515, 516, 517, 40, 518, 62, 64, 519, 520, 521, 522, 65, 66, 523, 524, 525, 526, 68, 527, 528, 529, 530, 531, 915, 916, 917, 918, 930, 931, 932, 933, 934, 935, 936, 937, 945, 946, 947, 948, 949, 950, 951, 952, 953, 954, 955, 956, 957, 958, 959, 960] (by decide +kernel) (by decide +kernel)
set_option maxRecDepth 20000 in
theorem gL_law_X6_free : GoodIn wsL_law (wsV RL 98 RX6 yX6_free wsX6_free) := goodIn_app (goodIn_of _ (by decide +kernel)) ggL_law_X6_free
set_option maxRecDepth 20000 in
theorem ggL_law_X7_free : GoodIn wsL_law wsX7_free := goodIn_r _ [850, 109, 193, 194, 5, 195, 200, 201, 202, 203, 686, 687, 688, 689, 690, 691, 692, 693, 586, 587, 588, 589, 678, 679, 680, 681, 590, 591, 592, 593, 578, 579, 580, 581, 919, 920, 921, 922, 923, 924, 925, 926, 927, 928, 929] (by decide +kernel) (by decide +kernel)
set_option maxRecDepth 20000 in
theorem gL_law_X7_free : GoodIn wsL_law (wsV RL 101 RX7 yX7_free wsX7_free) := goodIn_app (goodIn_of _ (by decide +kernel)) ggL_law_X7_free
set_option maxRecDepth 20000 in
theorem ggL_law_X6_fee : GoodIn wsL_law wsX6_fee := goodIn_r _ [854, 15, 855, 236, 237, 2, 238, 131, 132, 133, 548, 549, 550, 14, 551, 32, 45, 552, 157, 158, 159, 553, 554, 555, 44, 556, 72, 73, 557, 75, 74, 558, 559, 560, 856, 915, 916, 917, 918, 930, 931, 932, 933, 934, 935, 936, 937, 961, 962, 963, 964] (by decide +kernel) (by decide +kernel)
set_option maxRecDepth 20000 in
theorem gL_law_X6_fee : GoodIn wsL_law (wsV RL 102 RX6 yX6_fee wsX6_fee) := goodIn_app (goodIn_of _ (by decide +kernel)) ggL_law_X6_fee
set_option maxRecDepth 20000 in
theorem ggL_law_X7_fee : GoodIn wsL_law wsX7_fee := goodIn_r _ [860, 193, 194, 5, 195, 602, 603, 604, 605, 109, 606, 607, 608, 609, 456, 457, 458, 919, 920, 921, 922, 923, 924, 925, 926, 927, 928, 929] (by decide +kernel) (by decide +kernel)
set_option maxRecDepth 20000 in
theorem gL_law_X7_fee : GoodIn wsL_law (wsV RL 105 RX7 yX7_fee wsX7_fee) := goodIn_app (goodIn_of _ (by decide +kernel)) ggL_law_X7_fee
set_option maxRecDepth 20000 in
theorem ggL_law_X6_minutesLeft : GoodIn wsL_law wsX6_minutesLeft := goodIn_r _ [864, 15, 130, 495, 496, 2, 497, 131, 132, 133, 636, 637, 638, 36, 639, 50, 55, 222, 186, 187, 188, 865, 866, 867, 14, 868, 29, 869, 704, 705, 706, 37, 664, 41, 663, 46, 707, 537, 531, 528, 529, 40, 530, 62, 708, 549, 550, 551, 32, 45, 552, 157, 158, 159, 553, 554, 555, 44, 556, 72, 73, 557, 75, 74, 558, 559, 560, 915, 916, 917, 918, 930, 931, 932, 933, 934, 935, 936, 937, 945, 946, 947, 948, 949, 950, 951, 952, 953, 954, 955, 956, 957, 958, 959, 960, 961, 962, 963, 964] (by decide +kernel) (by decide +kernel)
set_option maxRecDepth 20000 in
theorem gL_law_X6_minutesLeft : GoodIn wsL_law (wsV RL 106 RX6 yX6_minutesLeft wsX6_minutesLeft) := goodIn_app (goodIn_of _ (by decide +kernel)) ggL_law_X6_minutesLeft
set_option maxRecDepth 20000 in
theorem ggL_law_X7_minutesLeft : GoodIn wsL_law wsX7_minutesLeft := goodIn_r _ [873, 109, 193, 194, 5, 195, 670, 671, 672, 673, 200, 201, 202, 203, 718, 719, 720, 721, 602, 603, 604, 605, 606, 607, 608, 609, 456, 457, 458, 586, 587, 588, 589, 919, 920, 921, 922, 923, 924, 925, 926, 927, 928, 929] (by decide +kernel) (by decide +kernel)
set_option maxRecDepth 20000 in
theorem gL_law_X7_minutesLeft : GoodIn wsL_law (wsV RL 109 RX7 yX7_minutesLeft wsX7_minutesLeft) := goodIn_app (goodIn_of _ (by decide +kernel)) ggL_law_X7_minutesLeft
set_option maxRecDepth 20000 in
theorem ggL_law_X6_freeFor : GoodIn wsL_law wsX6_freeFor := goodIn_r _ [877, 15, 130, 493, 492, 271, 222, 186, 187, 36, 188, 50, 878, 654, 655, 14, 656, 41, 29, 32, 515, 516, 517, 40, 518, 62, 64, 519, 520, 521, 522, 65, 66, 523, 524, 525, 526, 68, 527, 528, 529, 530, 531, 879, 880, 881, 882, 915, 916, 917, 918, 930, 931, 932, 933, 934, 935, 936, 937, 945, 946, 947, 948, 949, 950, 951, 952, 953, 954, 955, 956, 957, 958, 959, 960] (by decide +kernel) (by decide +kernel)
set_option maxRecDepth 20000 in
theorem gL_law_X6_freeFor : GoodIn wsL_law (wsV RL 110 RX6 yX6_freeFor wsX6_freeFor) := goodIn_app (goodIn_of _ (by decide +kernel)) ggL_law_X6_freeFor
set_option maxRecDepth 20000 in
theorem ggL_law_X7_freeFor : GoodIn wsL_law wsX7_freeFor := goodIn_r _ [886, 109, 227, 228, 229, 5, 230, 193, 194, 195, 690, 691, 692, 693, 586, 587, 588, 589, 678, 679, 680, 681, 590, 591, 592, 593, 578, 579, 580, 581, 919, 920, 921, 922, 923, 924, 925, 926, 927, 928, 929] (by decide +kernel) (by decide +kernel)
set_option maxRecDepth 20000 in
theorem gL_law_X7_freeFor : GoodIn wsL_law (wsV RL 113 RX7 yX7_freeFor wsX7_freeFor) := goodIn_app (goodIn_of _ (by decide +kernel)) ggL_law_X7_freeFor
set_option maxRecDepth 20000 in
theorem ggL_law_X6_earliest : GoodIn wsL_law wsX6_earliest := goodIn_r _ [890, 15, 493, 131, 132, 2, 133, 544, 545, 546, 40, 547, 62, 891, 892, 893, 14, 894, 37, 502, 29, 503, 504, 505, 36, 506, 54, 53, 185, 186, 187, 188, 50, 895, 896, 897, 898, 32, 41, 707, 511, 512, 513, 514, 55, 515, 516, 517, 518, 64, 519, 520, 521, 522, 65, 66, 523, 524, 525, 526, 68, 527, 528, 529, 530, 531, 915, 916, 917, 918, 930, 931, 932, 933, 934, 935, 936, 937, 954, 955, 956, 957, 958, 959, 960, 945, 946, 947, 948, 949, 950, 951, 952, 953] (by decide +kernel) (by decide +kernel)
set_option maxRecDepth 20000 in
theorem gL_law_X6_earliest : GoodIn wsL_law (wsV RL 114 RX6 yX6_earliest wsX6_earliest) := goodIn_app (goodIn_of _ (by decide +kernel)) ggL_law_X6_earliest
set_option maxRecDepth 20000 in
theorem ggL_law_X7_earliest : GoodIn wsL_law wsX7_earliest := goodIn_r _ [902, 109, 193, 194, 5, 195, 456, 457, 458, 570, 571, 572, 573, 574, 575, 576, 577, 200, 201, 202, 203, 578, 579, 580, 581, 582, 583, 584, 585, 586, 587, 588, 589, 590, 591, 592, 593, 594, 595, 596, 597, 598, 599, 600, 601, 919, 920, 921, 922, 923, 924, 925, 926, 927, 928, 929] (by decide +kernel) (by decide +kernel)
set_option maxRecDepth 20000 in
theorem gL_law_X7_earliest : GoodIn wsL_law (wsV RL 117 RX7 yX7_earliest wsX7_earliest) := goodIn_app (goodIn_of _ (by decide +kernel)) ggL_law_X7_earliest
set_option maxRecDepth 20000 in
theorem ggL_law_X6_undo : GoodIn wsL_law wsX6_undo := goodIn_r _ [906, 20, 760, 15, 907, 908, 909, 19, 910, 92, 94, 150, 151, 152, 14, 153, 29, 30, 32, 33, 37, 41, 45, 46, 154, 2, 155, 156, 157, 158, 159, 160, 161, 162, 163, 164, 165, 166, 36, 167, 50, 51, 52, 53, 54, 55, 56, 57, 58, 168, 169, 170, 40, 171, 62, 63, 64, 65, 66, 67, 68, 172, 173, 174, 44, 175, 72, 73, 74, 75, 915, 916, 917, 918, 938, 939, 930, 931, 932, 933, 934, 935, 936, 937, 945, 946, 947, 948, 949, 950, 951, 952, 953, 954, 955, 956, 957, 958, 959, 960, 961, 962, 963, 964] (by decide +kernel) (by decide +kernel)
set_option maxRecDepth 20000 in
theorem gL_law_X6_undo : GoodIn wsL_law (wsV RL 118 RX6 yX6_undo wsX6_undo) := goodIn_app (goodIn_of _ (by decide +kernel)) ggL_law_X6_undo
set_option maxRecDepth 20000 in
theorem ggL_law_X7_undo : GoodIn wsL_law wsX7_undo := goodIn_r _ [914, 208, 109, 110, 919, 920, 921, 922, 923, 924, 925, 926, 927, 928, 929] (by decide +kernel) (by decide +kernel)
set_option maxRecDepth 20000 in
theorem gL_law_X7_undo : GoodIn wsL_law (wsV RL 121 RX7 yX7_undo wsX7_undo) := goodIn_app (goodIn_of _ (by decide +kernel)) ggL_law_X7_undo
