/-! ===== printed: the words of tale and does, those of their calls among them ===== -/
set_option maxRecDepth 20000 in
theorem ggL_tale_X6_count : GoodIn wsL_tale wsX6_count := goodIn_r _ [16, 17, 18, 19, 20, 21, 22, 23, 24, 25, 26, 27, 28, 29, 30, 31, 32, 33, 34, 35, 36, 37, 38, 39, 40, 41, 42, 43, 181, 182, 183, 184, 185, 186, 187, 188, 189, 190, 191, 192, 193, 194, 195, 196, 197, 198, 199, 200, 201, 202, 203, 204, 205, 206, 207, 208, 209, 210, 211, 212, 213, 214, 215] (by decide +kernel) (by decide +kernel)
set_option maxRecDepth 20000 in
theorem gL_tale_X6_count : GoodIn wsL_tale (wsV RL 12 RX6 yX6_count wsX6_count) := goodIn_app (goodIn_of _ (by decide +kernel)) ggL_tale_X6_count
set_option maxRecDepth 20000 in
theorem ggL_tale_X6_bay : GoodIn wsL_tale wsX6_bay := goodIn_r _ [47, 17, 18, 48, 49, 50, 51, 52, 53, 41, 42, 32, 43, 34, 54, 55, 56, 57, 58, 59, 60, 61, 62, 63, 64, 36, 37, 38, 39, 40, 65, 66, 67, 68, 69, 70, 71, 72, 73, 74, 75, 76, 77, 78, 79, 80, 81, 82, 83, 84, 85, 86, 87, 88, 89, 90, 91, 92, 181, 182, 183, 184, 185, 186, 187, 188, 189, 190, 191, 192, 193, 194, 195, 196, 197, 198, 199, 200, 201, 202, 203, 204, 205, 206, 207, 208] (by decide +kernel) (by decide +kernel)
set_option maxRecDepth 20000 in
theorem gL_tale_X6_bay : GoodIn wsL_tale (wsV RL 20 RX6 yX6_bay wsX6_bay) := goodIn_app (goodIn_of _ (by decide +kernel)) ggL_tale_X6_bay
set_option maxRecDepth 20000 in
theorem ggL_tale_X6_reservation : GoodIn wsL_tale wsX6_reservation := goodIn_r _ [96, 17, 20, 97, 98, 99, 100, 101, 102, 103, 90, 91, 74, 92, 76, 181, 182, 183, 184, 185, 186, 187, 188, 189, 190, 191, 192, 202, 203, 204, 205, 206, 207, 208] (by decide +kernel) (by decide +kernel)
set_option maxRecDepth 20000 in
theorem gL_tale_X6_reservation : GoodIn wsL_tale (wsV RL 26 RX6 yX6_reservation wsX6_reservation) := goodIn_app (goodIn_of _ (by decide +kernel)) ggL_tale_X6_reservation
set_option maxRecDepth 20000 in
theorem ggL_tale_X6_step : GoodIn wsL_tale wsX6_step := goodIn_r _ [107, 17, 108, 109, 110, 111, 112, 113, 15, 114, 115, 116, 117, 118, 119, 120, 57, 121, 122, 123, 181, 182, 183, 184, 216, 217, 218, 219, 185, 186, 187, 188, 189, 190, 191, 192] (by decide +kernel) (by decide +kernel)
set_option maxRecDepth 20000 in
theorem gL_tale_X6_step : GoodIn wsL_tale (wsV RL 31 RX6 yX6_step wsX6_step) := goodIn_app (goodIn_of _ (by decide +kernel)) ggL_tale_X6_step
set_option maxRecDepth 20000 in
theorem ggL_tale_X6_car : GoodIn wsL_tale wsX6_car := goodIn_r _ [127, 17, 18, 128, 129, 130, 23, 131, 132, 15, 133, 115, 116, 117, 134, 135, 136, 32, 137, 34, 39, 53, 41, 42, 43, 138, 139, 140, 57, 141, 59, 142, 69, 143, 123, 144, 63, 145, 90, 91, 74, 92, 76, 146, 147, 148, 149, 61, 122, 150, 151, 152, 153, 154, 155, 156, 157, 158, 159, 160, 161, 162, 163, 164, 165, 166, 167, 168, 169, 170, 70, 181, 182, 183, 184, 185, 186, 187, 188, 189, 190, 191, 192, 193, 194, 195, 196, 197, 198, 199, 200, 201, 202, 203, 204, 205, 206, 207, 208, 216, 217, 218, 219] (by decide +kernel) (by decide +kernel)
set_option maxRecDepth 20000 in
theorem gL_tale_X6_car : GoodIn wsL_tale (wsV RL 39 RX6 yX6_car wsX6_car) := goodIn_app (goodIn_of _ (by decide +kernel)) ggL_tale_X6_car
set_option maxRecDepth 20000 in
theorem ggL_tale_X6_account : GoodIn wsL_tale wsX6_account := goodIn_r _ [174, 17, 175, 115, 116, 15, 117, 176, 177, 178, 57, 179, 180, 181, 182, 183, 184, 185, 186, 187, 188, 189, 190, 191, 192] (by decide +kernel) (by decide +kernel)
set_option maxRecDepth 20000 in
theorem gL_tale_X6_account : GoodIn wsL_tale (wsV RL 44 RX6 yX6_account wsX6_account) := goodIn_app (goodIn_of _ (by decide +kernel)) ggL_tale_X6_account
set_option maxRecDepth 20000 in
theorem ggL_does_X6_count : GoodIn wsL_does wsX6_count := goodIn_r _ [5, 6, 7, 8, 9, 10, 11, 12, 13, 14, 15, 16, 17, 18, 19, 20, 21, 22, 23, 24, 25, 26, 27, 28, 29, 30, 31, 32, 329, 330, 331, 332, 333, 334, 335, 336, 337, 338, 339, 340, 341, 342, 343, 344, 345, 346, 347, 348, 349, 350, 351, 352, 353, 354, 355, 356, 357, 358, 359, 360, 361, 362, 363] (by decide +kernel) (by decide +kernel)
set_option maxRecDepth 20000 in
theorem gL_does_X6_count : GoodIn wsL_does (wsV RL 12 RX6 yX6_count wsX6_count) := goodIn_app (goodIn_of _ (by decide +kernel)) ggL_does_X6_count
set_option maxRecDepth 20000 in
theorem ggL_does_L_low : GoodIn wsL_does wsL_low := goodIn_r _ [36, 37] (by decide +kernel) (by decide +kernel)
set_option maxRecDepth 20000 in
theorem gL_does_L_low : GoodIn wsL_does (va_wsS RL 53 yL_low wsL_low) := goodIn_app (goodIn_of _ (by decide +kernel)) ggL_does_L_low
set_option maxRecDepth 20000 in
theorem ggL_does_X6_addBay : GoodIn wsL_does wsX6_addBay := goodIn_r _ [41, 6, 7, 16, 42, 43, 4, 44, 45, 46, 47, 21, 48, 23, 49, 50, 51, 52, 53, 54, 55, 56, 57, 58, 59, 60, 61, 62, 63, 64, 65, 66, 67, 68, 69, 70, 71, 72, 73, 74, 75, 76, 77, 78, 79, 80, 81, 82, 83, 84, 85, 86, 87, 88, 89, 90, 91, 92, 93, 94, 28, 95, 96, 97, 98, 99, 100, 101, 102, 103, 104, 105, 106, 107, 108, 109, 110, 111, 112, 113, 114, 115, 116, 117, 118, 119, 120, 121, 122, 123, 124, 125, 126, 127, 29, 30, 31, 32, 329, 330, 331, 332, 333, 334, 335, 336, 337, 338, 339, 340, 341, 342, 343, 344, 345, 346, 347, 348, 349, 362, 363, 350, 351, 352, 353, 354, 355, 356, 364, 365, 366, 367] (by decide +kernel) (by decide +kernel)
set_option maxRecDepth 20000 in
theorem gL_does_X6_addBay : GoodIn wsL_does (wsV RL 58 RX6 yX6_addBay wsX6_addBay) := goodIn_app (goodIn_of _ (by decide +kernel)) ggL_does_X6_addBay
set_option maxRecDepth 20000 in
theorem ggL_does_X6_setBay : GoodIn wsL_does wsX6_setBay := goodIn_r _ [131, 6, 7, 16, 132, 133, 30, 31, 21, 32, 23, 42, 43, 4, 44, 55, 56, 57, 58, 59, 60, 61, 62, 63, 64, 65, 66, 67, 68, 69, 70, 71, 72, 73, 74, 75, 76, 77, 78, 79, 80, 81, 82, 83, 84, 85, 86, 87, 88, 89, 90, 91, 92, 49, 50, 93, 94, 28, 95, 96, 97, 98, 99, 100, 101, 102, 103, 104, 105, 106, 107, 108, 109, 110, 111, 112, 113, 114, 115, 116, 117, 118, 329, 330, 331, 332, 333, 334, 335, 336, 337, 338, 339, 340, 341, 342, 343, 344, 345, 346, 347, 348, 349, 362, 363, 350, 351, 352, 353, 354, 355, 356, 364, 365, 366, 367] (by decide +kernel) (by decide +kernel)
set_option maxRecDepth 20000 in
theorem gL_does_X6_setBay : GoodIn wsL_does (wsV RL 61 RX6 yX6_setBay wsX6_setBay) := goodIn_app (goodIn_of _ (by decide +kernel)) ggL_does_X6_setBay
set_option maxRecDepth 20000 in
theorem ggL_does_X6_setStep : GoodIn wsL_does wsX6_setStep := goodIn_r _ [137, 6, 16, 138, 139, 140, 4, 141, 42, 43, 44, 142, 143, 144, 69, 145, 77, 78, 146, 147, 148, 113, 149, 115, 116, 150, 151, 152, 153, 55, 56, 57, 58, 59, 60, 61, 62, 63, 64, 65, 66, 67, 68, 70, 71, 72, 73, 74, 75, 76, 79, 80, 81, 82, 83, 84, 85, 86, 87, 88, 89, 90, 91, 21, 92, 23, 49, 50, 93, 94, 28, 95, 96, 97, 98, 99, 100, 101, 102, 103, 104, 105, 106, 107, 108, 109, 110, 111, 112, 114, 117, 118, 154, 155, 156, 157, 158, 159, 160, 161, 162, 163, 164, 165, 166, 167, 168, 169, 170, 329, 330, 331, 332, 364, 365, 366, 367, 333, 334, 335, 336, 337, 338, 339, 340, 362, 363, 341, 342, 343, 344, 345, 346, 347, 348, 349, 350, 351, 352, 353, 354, 355, 356] (by decide +kernel) (by decide +kernel)
set_option maxRecDepth 20000 in
theorem gL_does_X6_setStep : GoodIn wsL_does (wsV RL 64 RX6 yX6_setStep wsX6_setStep) := goodIn_app (goodIn_of _ (by decide +kernel)) ggL_does_X6_setStep
set_option maxRecDepth 20000 in
theorem ggL_does_X6_setNumber : GoodIn wsL_does wsX6_setNumber := goodIn_r _ [174, 175, 176, 16, 6, 13, 42, 43, 4, 44, 55, 56, 57, 58, 59, 60, 61, 62, 63, 64, 65, 66, 67, 68, 69, 70, 71, 72, 73, 74, 75, 76, 77, 78, 79, 80, 81, 82, 83, 84, 85, 86, 87, 88, 89, 90, 91, 21, 92, 23, 49, 50, 93, 94, 28, 95, 96, 97, 98, 99, 100, 101, 102, 103, 104, 105, 106, 107, 108, 109, 110, 111, 112, 113, 114, 115, 116, 117, 118, 329, 330, 331, 332, 333, 334, 335, 336, 337, 338, 339, 340, 362, 363, 341, 342, 343, 344, 345, 346, 347, 348, 349, 350, 351, 352, 353, 354, 355, 356, 364, 365, 366, 367] (by decide +kernel) (by decide +kernel)
set_option maxRecDepth 20000 in
theorem gL_does_X6_setNumber : GoodIn wsL_does (wsV RL 68 RX6 yX6_setNumber wsX6_setNumber) := goodIn_app (goodIn_of _ (by decide +kernel)) ggL_does_X6_setNumber
set_option maxRecDepth 20000 in
theorem ggL_does_X6_reserve : GoodIn wsL_does wsX6_reserve := goodIn_r _ [180, 6, 12, 9, 7, 16, 181, 182, 183, 4, 184, 42, 43, 44, 185, 186, 187, 69, 188, 75, 189, 190, 191, 192, 21, 193, 94, 93, 29, 30, 31, 32, 23, 194, 195, 196, 197, 73, 71, 76, 198, 25, 26, 27, 28, 199, 200, 201, 101, 202, 103, 105, 203, 204, 205, 206, 106, 107, 207, 208, 209, 210, 109, 211, 212, 213, 214, 215, 216, 217, 218, 219, 220, 221, 222, 223, 224, 225, 226, 227, 228, 229, 230, 231, 133, 55, 56, 57, 58, 59, 60, 61, 62, 63, 64, 65, 66, 67, 68, 70, 72, 74, 77, 78, 79, 80, 81, 82, 83, 84, 85, 86, 87, 88, 89, 90, 91, 92, 49, 50, 95, 96, 97, 98, 99, 100, 102, 104, 108, 110, 111, 112, 113, 114, 115, 116, 117, 118, 232, 233, 234, 235, 236, 237, 238, 239, 240, 241, 242, 243, 244, 245, 246, 247, 248, 249, 329, 330, 331, 332, 333, 334, 335, 336, 337, 338, 339, 340, 341, 342, 343, 344, 345, 346, 347, 348, 349, 350, 351, 352, 353, 354, 355, 356, 362, 363, 364, 365, 366, 367] (by decide +kernel) (by decide +kernel)
set_option maxRecDepth 20000 in
theorem gL_does_X6_reserve : GoodIn wsL_does (wsV RL 71 RX6 yX6_reserve wsX6_reserve) := goodIn_app (goodIn_of _ (by decide +kernel)) ggL_does_X6_reserve
set_option maxRecDepth 20000 in
theorem ggL_does_X6_cancel : GoodIn wsL_does wsX6_cancel := goodIn_r _ [253, 6, 9, 254, 16, 255, 12, 256, 181, 257, 212, 213, 101, 214, 103, 55, 56, 57, 58, 59, 60, 61, 62, 63, 64, 65, 66, 67, 68, 69, 70, 71, 72, 73, 74, 75, 76, 77, 78, 79, 4, 80, 81, 82, 83, 84, 85, 86, 87, 88, 89, 90, 91, 21, 92, 23, 49, 50, 93, 94, 28, 95, 96, 97, 98, 99, 100, 102, 104, 105, 106, 107, 108, 109, 110, 111, 112, 113, 114, 115, 116, 117, 118, 329, 330, 331, 332, 333, 334, 335, 336, 337, 338, 339, 340, 350, 351, 352, 353, 354, 355, 356, 362, 363, 341, 342, 343, 344, 345, 346, 347, 348, 349, 364, 365, 366, 367] (by decide +kernel) (by decide +kernel)
set_option maxRecDepth 20000 in
theorem gL_does_X6_cancel : GoodIn wsL_does (wsV RL 74 RX6 yX6_cancel wsX6_cancel) := goodIn_app (goodIn_of _ (by decide +kernel)) ggL_does_X6_cancel
set_option maxRecDepth 20000 in
theorem ggL_does_X6_enter : GoodIn wsL_does wsX6_enter := goodIn_r _ [261, 6, 7, 9, 262, 16, 11, 182, 183, 4, 184, 42, 43, 44, 263, 264, 265, 21, 266, 23, 28, 133, 30, 31, 32, 267, 268, 269, 69, 270, 76, 71, 73, 271, 75, 272, 273, 274, 101, 275, 103, 104, 109, 203, 204, 205, 206, 106, 107, 207, 208, 209, 210, 211, 212, 213, 214, 215, 190, 191, 192, 193, 94, 93, 29, 198, 25, 26, 27, 257, 276, 277, 278, 279, 189, 280, 281, 282, 283, 199, 200, 201, 202, 105, 216, 217, 218, 219, 220, 221, 222, 223, 224, 225, 226, 227, 55, 56, 57, 58, 59, 60, 61, 62, 63, 64, 65, 66, 67, 68, 70, 72, 74, 77, 78, 79, 80, 81, 82, 83, 84, 85, 86, 87, 88, 89, 90, 91, 92, 49, 50, 95, 96, 97, 98, 99, 100, 102, 108, 110, 111, 112, 113, 114, 115, 116, 117, 118, 284, 285, 286, 287, 288, 289, 290, 291, 292, 329, 330, 331, 332, 333, 334, 335, 336, 337, 338, 339, 340, 350, 351, 352, 353, 354, 355, 356, 341, 342, 343, 344, 345, 346, 347, 348, 349, 362, 363, 364, 365, 366, 367] (by decide +kernel) (by decide +kernel)
set_option maxRecDepth 20000 in
theorem gL_does_X6_enter : GoodIn wsL_does (wsV RL 77 RX6 yX6_enter wsX6_enter) := goodIn_app (goodIn_of _ (by decide +kernel)) ggL_does_X6_enter
set_option maxRecDepth 20000 in
theorem ggL_does_X6_leave : GoodIn wsL_does wsX6_leave := goodIn_r _ [296, 6, 11, 7, 16, 12, 9, 297, 181, 42, 43, 4, 44, 298, 299, 300, 21, 301, 23, 95, 133, 30, 31, 32, 55, 56, 57, 58, 59, 60, 61, 62, 63, 64, 65, 66, 67, 68, 69, 70, 71, 72, 73, 74, 75, 76, 77, 78, 79, 80, 81, 82, 83, 84, 85, 86, 87, 88, 89, 90, 91, 92, 49, 50, 93, 94, 28, 96, 97, 98, 99, 100, 101, 102, 103, 104, 105, 106, 107, 108, 109, 110, 111, 112, 113, 114, 115, 116, 117, 118, 302, 303, 304, 305, 291, 290, 306, 221, 215, 212, 213, 214, 307, 233, 234, 235, 236, 237, 238, 239, 240, 241, 242, 243, 244, 257, 308, 309, 310, 311, 292, 312, 125, 126, 127, 29, 329, 330, 331, 332, 333, 334, 335, 336, 337, 338, 339, 340, 341, 342, 343, 344, 345, 346, 347, 348, 349, 362, 363, 350, 351, 352, 353, 354, 355, 356, 364, 365, 366, 367] (by decide +kernel) (by decide +kernel)
set_option maxRecDepth 20000 in
theorem gL_does_X6_leave : GoodIn wsL_does (wsV RL 80 RX6 yX6_leave wsX6_leave) := goodIn_app (goodIn_of _ (by decide +kernel)) ggL_does_X6_leave
set_option maxRecDepth 20000 in
theorem ggL_does_X6_leaveLost : GoodIn wsL_does wsX6_leaveLost := goodIn_r _ [316, 6, 7, 16, 181, 182, 183, 4, 184, 42, 43, 44, 263, 264, 265, 21, 266, 23, 28, 133, 30, 31, 32, 55, 56, 57, 58, 59, 60, 61, 62, 63, 64, 65, 66, 67, 68, 69, 70, 71, 72, 73, 74, 75, 76, 77, 78, 79, 80, 81, 82, 83, 84, 85, 86, 87, 88, 89, 90, 91, 92, 49, 50, 93, 94, 95, 96, 97, 98, 99, 100, 101, 102, 103, 104, 105, 106, 107, 108, 109, 110, 111, 112, 113, 114, 115, 116, 117, 118, 317, 318, 319, 320, 290, 236, 221, 307, 233, 234, 235, 237, 238, 239, 240, 241, 242, 243, 244, 308, 309, 310, 311, 291, 292, 215, 212, 213, 214, 312, 125, 126, 127, 29, 329, 330, 331, 332, 333, 334, 335, 336, 337, 338, 339, 340, 341, 342, 343, 344, 345, 346, 347, 348, 349, 362, 363, 350, 351, 352, 353, 354, 355, 356, 364, 365, 366, 367] (by decide +kernel) (by decide +kernel)
set_option maxRecDepth 20000 in
theorem gL_does_X6_leaveLost : GoodIn wsL_does (wsV RL 83 RX6 yX6_leaveLost wsX6_leaveLost) := goodIn_app (goodIn_of _ (by decide +kernel)) ggL_does_X6_leaveLost
set_option maxRecDepth 20000 in
theorem ggL_does_X6_pass : GoodIn wsL_does wsX6_pass := goodIn_r _ [324, 6, 12, 16, 9, 42, 43, 4, 44, 55, 56, 57, 58, 59, 60, 61, 62, 63, 64, 65, 66, 67, 68, 69, 70, 71, 72, 73, 74, 75, 76, 77, 78, 79, 80, 81, 82, 83, 84, 85, 86, 87, 88, 89, 90, 91, 21, 92, 23, 49, 50, 93, 94, 28, 95, 96, 97, 98, 99, 100, 101, 102, 103, 104, 105, 106, 107, 108, 109, 110, 111, 112, 113, 114, 115, 116, 117, 118, 325, 326, 327, 328, 329, 330, 331, 332, 333, 334, 335, 336, 337, 338, 339, 340, 362, 363, 341, 342, 343, 344, 345, 346, 347, 348, 349, 350, 351, 352, 353, 354, 355, 356, 364, 365, 366, 367] (by decide +kernel) (by decide +kernel)
set_option maxRecDepth 20000 in
theorem gL_does_X6_pass : GoodIn wsL_does (wsV RL 86 RX6 yX6_pass wsX6_pass) := goodIn_app (goodIn_of _ (by decide +kernel)) ggL_does_X6_pass
