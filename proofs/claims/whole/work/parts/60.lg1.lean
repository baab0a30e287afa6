/-! the law: words of its callees -/
set_option maxRecDepth 20000 in
theorem ggL_law_X4_init : GoodIn wsL_law wsX4_init := goodIn_r _ [10, 11, 12, 13, 14, 15, 16, 17, 18, 19, 20, 21, 22, 23, 24, 25, 26, 27, 28, 29, 30, 31, 32, 33, 34, 35, 36, 37, 38, 39, 40, 41, 42, 43, 44, 45, 46, 47, 48, 49, 50, 51, 52, 53, 6, 54, 55, 56, 57, 58, 59, 60, 61, 62, 63, 64, 65, 2, 66, 67, 68, 69, 70, 71, 72, 73, 74, 75, 76, 77, 78, 79, 80, 81, 82, 83, 84, 85, 86, 87, 88, 89, 90, 91, 92, 93, 94, 95, 96, 97, 98, 99, 100, 101, 102, 103, 104, 105, 106, 107, 108, 109, 110, 111, 112, 113, 114, 115, 116, 117, 118, 119, 120, 121, 122, 123, 124, 125, 126, 127, 128, 129, 130, 131, 132, 133, 134, 135, 136, 137, 138, 139, 140, 141, 142, 143, 144, 145, 146, 147, 148, 149, 150, 151, 152, 153, 154, 155, 156, 157, 158, 159, 160, 577, 550, 551, 552, 553, 554, 555, 556, 578, 579, 580, 581, 582, 583, 584, 585, 586, 587, 588, 589, 590, 591, 592, 593, 594, 595] (by decide +kernel) (by decide +kernel)
set_option maxRecDepth 20000 in
theorem gL_law_X4_init : GoodIn wsL_law (wsX4_init) := ggL_law_X4_init
set_option maxRecDepth 20000 in
theorem ggL_law_X5_init : GoodIn wsL_law wsX5_init := goodIn_r _ [163, 164, 12, 13, 23, 165, 166, 47, 167, 168, 169, 170, 171, 172, 173, 174, 6, 175, 176, 177, 178, 179, 180, 181, 5, 182, 183, 184, 185, 186, 187, 188, 189, 190, 191, 192, 193, 194, 195, 196, 197, 198, 199, 200, 201, 202, 203, 204, 205, 206, 207, 208, 209, 210, 211, 212, 213, 214, 215, 216, 217, 218, 219, 220, 221, 222, 223, 224, 225, 226, 227, 228, 229, 230, 557, 558, 559, 560, 561, 562, 563, 564, 565, 566, 567, 568, 569, 570, 571, 572, 573, 574, 575, 576] (by decide +kernel) (by decide +kernel)
set_option maxRecDepth 20000 in
theorem gL_law_X5_init : GoodIn wsL_law (wsX5_init) := ggL_law_X5_init
set_option maxRecDepth 20000 in
theorem ggL_law_X4_start : GoodIn wsL_law wsX4_start := goodIn_r _ [234, 63, 64, 65, 2, 66, 17, 21, 22, 28, 32, 67, 68, 69, 70, 16, 71, 72, 73, 74, 75, 20, 76, 77, 45, 46, 50, 44, 48, 78, 79, 80, 81, 82, 83, 84, 27, 85, 55, 57, 86, 87, 88, 89, 31, 90, 91, 92, 93, 94, 95, 24, 96, 97, 98, 99, 100, 101, 102, 103, 49, 104, 105, 106, 107, 108, 109, 110, 111, 112, 113, 114, 115, 116, 117, 118, 119, 120, 121, 122, 43, 123, 124, 125, 126, 42, 127, 128, 129, 130, 41, 131, 132, 133, 134, 135, 136, 137, 138, 139, 140, 141, 142, 143, 144, 145, 146, 147, 148, 149, 150, 40, 151, 152, 153, 154, 155, 156, 157, 158, 159, 160, 550, 551, 552, 553, 554, 555, 556, 577, 578, 579, 580, 581, 582, 583, 584, 585, 586, 587, 588, 589, 590, 591, 592, 593, 594, 595] (by decide +kernel) (by decide +kernel)
set_option maxRecDepth 20000 in
theorem gL_law_X4_start : GoodIn wsL_law (wsV RL 32 RX4 yX4_start wsX4_start) := goodIn_app (goodIn_of _ (by decide +kernel)) ggL_law_X4_start
set_option maxRecDepth 20000 in
theorem ggL_law_X5_start : GoodIn wsL_law wsX5_start := goodIn_r _ [238, 239, 179, 180, 181, 5, 182, 183, 184, 185, 186, 174, 178, 166, 169, 168, 170, 167, 165, 171, 187, 188, 189, 190, 191, 192, 193, 194, 195, 196, 197, 198, 199, 200, 201, 202, 203, 204, 205, 206, 207, 208, 209, 210, 211, 212, 213, 214, 215, 216, 217, 218, 219, 220, 221, 222, 223, 224, 225, 226, 227, 228, 229, 230, 557, 558, 559, 560, 561, 562, 563, 564, 565, 566, 567, 568, 569, 570, 571, 572, 573, 574, 575, 576] (by decide +kernel) (by decide +kernel)
set_option maxRecDepth 20000 in
theorem gL_law_X5_start : GoodIn wsL_law (wsV RL 36 RX5 yX5_start wsX5_start) := goodIn_app (goodIn_of _ (by decide +kernel)) ggL_law_X5_start
set_option maxRecDepth 20000 in
theorem ggL_law_X4_create : GoodIn wsL_law wsX4_create := goodIn_r _ [243, 28, 244, 245, 246, 27, 247, 54, 55, 248, 249, 250, 251, 252, 253, 254, 255, 550, 551, 552, 553, 554, 555, 556, 589, 590, 591, 592] (by decide +kernel) (by decide +kernel)
set_option maxRecDepth 20000 in
theorem gL_law_X4_create : GoodIn wsL_law (wsV RL 39 RX4 yX4_create wsX4_create) := goodIn_app (goodIn_of _ (by decide +kernel)) ggL_law_X4_create
set_option maxRecDepth 20000 in
theorem ggL_law_X5_create : GoodIn wsL_law wsX5_create := goodIn_r _ [259, 239, 174, 175, 176, 260, 261, 262, 5, 263, 557, 558, 559, 560, 561, 562, 563, 564, 565, 566, 567, 568, 569, 570, 571, 572, 573, 574, 575, 576] (by decide +kernel) (by decide +kernel)
set_option maxRecDepth 20000 in
theorem gL_law_X5_create : GoodIn wsL_law (wsV RL 43 RX5 yX5_create wsX5_create) := goodIn_app (goodIn_of _ (by decide +kernel)) ggL_law_X5_create
set_option maxRecDepth 20000 in
theorem ggL_law_X4_find : GoodIn wsL_law wsX4_find := goodIn_r _ [267, 28, 268, 253, 254, 27, 255, 55, 54, 550, 551, 552, 553, 554, 555, 556, 589, 590, 591, 592] (by decide +kernel) (by decide +kernel)
set_option maxRecDepth 20000 in
theorem gL_law_X4_find : GoodIn wsL_law (wsV RL 44 RX4 yX4_find wsX4_find) := goodIn_app (goodIn_of _ (by decide +kernel)) ggL_law_X4_find
set_option maxRecDepth 20000 in
theorem ggL_law_X5_find : GoodIn wsL_law wsX5_find := goodIn_r _ [272, 239, 260, 261, 262, 5, 263, 174, 175, 557, 558, 559, 560, 561, 562, 563, 564, 565, 566, 567, 568, 569, 570, 571, 572, 573, 574, 575, 576] (by decide +kernel) (by decide +kernel)
set_option maxRecDepth 20000 in
theorem gL_law_X5_find : GoodIn wsL_law (wsV RL 47 RX5 yX5_find wsX5_find) := goodIn_app (goodIn_of _ (by decide +kernel)) ggL_law_X5_find
set_option maxRecDepth 20000 in
theorem ggL_law_X4_remove : GoodIn wsL_law wsX4_remove := goodIn_r _ [276, 28, 277, 278, 279, 27, 280, 55, 57, 56, 281, 282, 283, 284, 285, 286, 287, 550, 551, 552, 553, 554, 555, 556, 589, 590, 591, 592] (by decide +kernel) (by decide +kernel)
set_option maxRecDepth 20000 in
theorem gL_law_X4_remove : GoodIn wsL_law (wsV RL 48 RX4 yX4_remove wsX4_remove) := goodIn_app (goodIn_of _ (by decide +kernel)) ggL_law_X4_remove
set_option maxRecDepth 20000 in
theorem ggL_law_X5_remove : GoodIn wsL_law wsX5_remove := goodIn_r _ [291, 239, 176, 178, 177, 174, 292, 293, 294, 5, 295, 557, 558, 559, 560, 561, 562, 563, 564, 565, 566, 567, 568, 569, 570, 571, 572, 573, 574, 575, 576] (by decide +kernel) (by decide +kernel)
set_option maxRecDepth 20000 in
theorem gL_law_X5_remove : GoodIn wsL_law (wsV RL 52 RX5 yX5_remove wsX5_remove) := goodIn_app (goodIn_of _ (by decide +kernel)) ggL_law_X5_remove
set_option maxRecDepth 20000 in
theorem ggL_law_X4_size : GoodIn wsL_law wsX4_size := goodIn_r _ [299, 28, 300, 282, 283, 27, 284, 55, 550, 551, 552, 553, 554, 555, 556, 589, 590, 591, 592] (by decide +kernel) (by decide +kernel)
set_option maxRecDepth 20000 in
theorem gL_law_X4_size : GoodIn wsL_law (wsV RL 53 RX4 yX4_size wsX4_size) := goodIn_app (goodIn_of _ (by decide +kernel)) ggL_law_X4_size
set_option maxRecDepth 20000 in
theorem ggL_law_X5_size : GoodIn wsL_law wsX5_size := goodIn_r _ [304, 239, 176, 292, 293, 294, 5, 295, 174, 557, 558, 559, 560, 561, 562, 563, 564, 565, 566, 567, 568, 569, 570, 571, 572, 573, 574, 575, 576] (by decide +kernel) (by decide +kernel)
set_option maxRecDepth 20000 in
theorem gL_law_X5_size : GoodIn wsL_law (wsV RL 57 RX5 yX5_size wsX5_size) := goodIn_app (goodIn_of _ (by decide +kernel)) ggL_law_X5_size
set_option maxRecDepth 20000 in
theorem ggL_law_L_write : GoodIn wsL_law wsL_write := goodIn_ca (goodIn_ca (goodIn_r _ [308, 309, 310, 311, 312, 313, 2, 314, 315, 316, 317, 318, 28, 22, 319, 320, 321, 27, 322, 56, 281, 282, 283, 284, 55, 323, 324, 325, 326, 327, 328, 329, 330, 57, 285, 286, 287, 331, 332, 333, 334, 67, 24, 17, 32, 21, 96, 97, 98, 16, 99, 72, 335, 336, 337, 31, 338, 61, 91, 62, 339, 340, 341, 20, 342, 42, 127, 128, 129, 130, 41, 343, 344, 345, 346, 45, 156, 157, 158, 159, 160, 147, 148, 149, 150, 77, 40, 151, 46, 152, 153, 154, 155, 347, 348, 349, 350, 143, 144, 145, 146, 131, 132, 133, 351, 352, 353, 354, 44, 48, 49, 355, 116, 117, 118, 50, 100, 101, 102, 103, 356, 357, 358, 359, 111, 112, 113, 114, 108, 109, 110, 104, 105, 106, 107, 115, 360, 361, 362, 363, 364, 365, 366, 367, 134, 135, 136, 137, 138, 139, 140, 141, 142, 368, 369, 370, 371, 372, 373, 374, 375, 376, 377, 378, 379, 380, 550, 551, 552, 553, 554, 555, 556, 589, 590, 591, 592, 577, 593, 594, 595, 578, 579, 580, 581, 582, 583, 584, 585, 586, 587, 588] (by decide +kernel) (by decide +kernel)) (goodIn_sub (fun _ h => List.mem_append_left _ (List.mem_append_right _ h)) (by decide +kernel))) (goodIn_sub (fun _ h => List.mem_append_right _ h) (by decide +kernel))
set_option maxRecDepth 20000 in
theorem gL_law_L_write : GoodIn wsL_law (va_wsS RL 58 yL_write wsL_write) := goodIn_app (goodIn_of _ (by decide +kernel)) ggL_law_L_write
set_option maxRecDepth 20000 in
theorem ggL_law_X5_write : GoodIn wsL_law wsX5_write := goodIn_r _ [384, 176, 185, 239, 178, 177, 292, 293, 294, 5, 295, 174, 385, 386, 387, 388, 170, 172, 186, 173, 168, 169, 389, 187, 188, 189, 190, 183, 390, 391, 392, 393, 165, 201, 202, 203, 204, 205, 206, 207, 208, 209, 210, 211, 212, 226, 227, 228, 229, 230, 217, 218, 219, 220, 184, 221, 166, 222, 223, 224, 225, 394, 395, 396, 397, 167, 398, 399, 400, 401, 191, 192, 193, 198, 199, 200, 402, 403, 404, 405, 406, 407, 408, 409, 171, 410, 411, 412, 413, 414, 415, 416, 213, 214, 215, 216, 557, 558, 559, 560, 561, 562, 563, 564, 565, 566, 567, 568, 569, 570, 571, 572, 573, 574, 575, 576] (by decide +kernel) (by decide +kernel)
set_option maxRecDepth 20000 in
theorem gL_law_X5_write : GoodIn wsL_law (wsV RL 63 RX5 yX5_write wsX5_write) := goodIn_app (goodIn_of _ (by decide +kernel)) ggL_law_X5_write
set_option maxRecDepth 20000 in
theorem ggL_law_X5_thrown : GoodIn wsL_law wsX5_thrown := goodIn_r _ [420, 239, 557, 558, 559, 560, 561, 562, 563, 564, 565, 566, 567, 568, 569, 570, 571, 572, 573, 574, 575, 576] (by decide +kernel) (by decide +kernel)
set_option maxRecDepth 20000 in
theorem gL_law_X5_thrown : GoodIn wsL_law (wsV RL 64 RX5 yX5_thrown wsX5_thrown) := goodIn_app (goodIn_of _ (by decide +kernel)) ggL_law_X5_thrown
set_option maxRecDepth 20000 in
theorem ggL_law_L_read : GoodIn wsL_law wsL_read := goodIn_ca (goodIn_ca (goodIn_r _ [423, 309, 310, 424, 425, 426, 2, 427, 315, 316, 317, 318, 28, 22, 428, 429, 430, 27, 431, 56, 281, 282, 283, 284, 55, 285, 286, 287, 331, 332, 333, 334, 67, 24, 17, 32, 21, 96, 97, 98, 16, 99, 72, 335, 336, 337, 31, 338, 61, 91, 62, 339, 340, 341, 20, 342, 42, 127, 128, 129, 130, 41, 343, 344, 345, 346, 45, 156, 157, 158, 159, 160, 147, 148, 149, 150, 77, 40, 151, 46, 152, 153, 154, 155, 347, 348, 349, 350, 143, 144, 145, 146, 131, 132, 133, 351, 352, 353, 354, 44, 48, 49, 355, 116, 117, 118, 50, 100, 101, 102, 103, 356, 357, 358, 359, 111, 112, 113, 114, 108, 109, 110, 104, 105, 106, 107, 115, 360, 361, 362, 363, 364, 365, 366, 367, 134, 135, 136, 137, 138, 139, 140, 141, 142, 368, 369, 370, 371, 550, 551, 552, 553, 554, 555, 556, 589, 590, 591, 592, 577, 593, 594, 595, 578, 579, 580, 581, 582, 583, 584, 585, 586, 587, 588] (by decide +kernel) (by decide +kernel)) (goodIn_sub (fun _ h => List.mem_append_left _ (List.mem_append_right _ h)) (by decide +kernel))) (goodIn_sub (fun _ h => List.mem_append_right _ h) (by decide +kernel))
set_option maxRecDepth 20000 in
theorem gL_law_L_read : GoodIn wsL_law (va_wsS RL 68 yL_read wsL_read) := goodIn_app (goodIn_of _ (by decide +kernel)) ggL_law_L_read
