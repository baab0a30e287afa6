/-! the law: words of its callees -/
set_option maxRecDepth 20000 in
theorem ggL_law_X5_read : GoodIn wsL_law wsX5_read := goodIn_r _ [435, 176, 185, 177, 239, 389, 292, 293, 294, 5, 295, 174, 436, 437, 438, 439, 385, 386, 387, 388, 170, 172, 186, 173, 168, 169, 187, 188, 189, 190, 183, 390, 391, 392, 393, 165, 201, 202, 203, 204, 205, 206, 207, 208, 209, 210, 211, 212, 226, 227, 228, 229, 230, 217, 218, 219, 220, 184, 221, 166, 222, 223, 224, 225, 394, 395, 396, 397, 167, 398, 399, 400, 401, 191, 192, 193, 198, 199, 200, 402, 403, 404, 405, 406, 407, 408, 409, 171, 410, 411, 412, 413, 414, 415, 416, 213, 214, 215, 216, 557, 558, 559, 560, 561, 562, 563, 564, 565, 566, 567, 568, 569, 570, 571, 572, 573, 574, 575, 576] (by decide +kernel) (by decide +kernel)
set_option maxRecDepth 20000 in
theorem gL_law_X5_read : GoodIn wsL_law (wsV RL 71 RX5 yX5_read wsX5_read) := goodIn_app (goodIn_of _ (by decide +kernel)) ggL_law_X5_read
set_option maxRecDepth 20000 in
theorem ggL_law_L_idle : GoodIn wsL_law wsL_idle := goodIn_ca (goodIn_r _ [442, 310, 443, 444, 445, 2, 446, 317, 318, 17, 22, 96, 97, 98, 16, 99, 72, 331, 332, 333, 334, 67, 24, 32, 21, 335, 336, 337, 31, 338, 61, 91, 62, 339, 340, 341, 20, 342, 42, 127, 128, 129, 130, 41, 343, 344, 345, 346, 45, 156, 157, 158, 159, 160, 147, 148, 149, 150, 77, 40, 151, 46, 152, 153, 154, 155, 347, 348, 349, 350, 143, 144, 145, 146, 131, 132, 133, 351, 352, 353, 354, 44, 48, 49, 355, 116, 117, 118, 50, 100, 101, 102, 103, 356, 357, 358, 359, 111, 112, 113, 114, 108, 109, 110, 104, 105, 106, 107, 115, 360, 361, 362, 363, 364, 365, 366, 367, 134, 135, 136, 137, 138, 139, 140, 141, 142, 368, 369, 370, 371, 550, 551, 552, 553, 554, 555, 556, 577, 593, 594, 595, 578, 579, 580, 581, 582, 583, 584, 585, 586, 587, 588] (by decide +kernel) (by decide +kernel)) (goodIn_sub (fun _ h => List.mem_append_right _ h) (by decide +kernel))
set_option maxRecDepth 20000 in
theorem gL_law_L_idle : GoodIn wsL_law (va_wsS RL 72 yL_idle wsL_idle) := goodIn_app (goodIn_of _ (by decide +kernel)) ggL_law_L_idle
set_option maxRecDepth 20000 in
theorem ggL_law_X5_idle : GoodIn wsL_law wsX5_idle := goodIn_r _ [450, 185, 239, 187, 188, 189, 5, 190, 183, 385, 386, 387, 388, 170, 172, 186, 173, 168, 169, 389, 390, 391, 392, 393, 165, 201, 202, 203, 204, 205, 206, 207, 208, 209, 210, 211, 212, 226, 227, 228, 229, 230, 217, 218, 219, 220, 184, 221, 166, 222, 223, 224, 225, 394, 395, 396, 397, 167, 398, 399, 400, 401, 191, 192, 193, 198, 199, 200, 402, 403, 404, 405, 406, 407, 408, 409, 171, 410, 411, 412, 413, 414, 415, 416, 213, 214, 215, 216, 557, 558, 559, 560, 561, 562, 563, 564, 565, 566, 567, 568, 569, 570, 571, 572, 573, 574, 575, 576] (by decide +kernel) (by decide +kernel)
set_option maxRecDepth 20000 in
theorem gL_law_X5_idle : GoodIn wsL_law (wsV RL 75 RX5 yX5_idle wsX5_idle) := goodIn_app (goodIn_of _ (by decide +kernel)) ggL_law_X5_idle
set_option maxRecDepth 20000 in
theorem ggL_law_L_sealed : GoodIn wsL_law wsL_sealed := goodIn_ca (goodIn_r _ [453, 309, 454, 455, 456, 2, 457, 315, 316, 458, 459, 460, 461, 21, 22, 462, 463, 464, 20, 465, 466, 467, 468, 469, 43, 470, 471, 472, 473, 45, 550, 551, 552, 553, 554, 555, 556, 578, 579, 580, 581, 582, 583, 584, 585, 586, 587, 588] (by decide +kernel) (by decide +kernel)) (goodIn_sub (fun _ h => List.mem_append_left _ (List.mem_append_right _ h)) (by decide +kernel))
set_option maxRecDepth 20000 in
theorem gL_law_L_sealed : GoodIn wsL_law (va_wsS RL 76 yL_sealed wsL_sealed) := goodIn_app (goodIn_of _ (by decide +kernel)) ggL_law_L_sealed
set_option maxRecDepth 20000 in
theorem ggL_law_X5_sealed : GoodIn wsL_law wsX5_sealed := goodIn_r _ [477, 239, 165, 478, 479, 5, 480, 207, 208, 209, 436, 437, 438, 439, 210, 211, 212, 557, 558, 559, 560, 561, 562, 563, 564, 565, 566, 567, 568, 569, 570, 571, 572, 573, 574, 575, 576] (by decide +kernel) (by decide +kernel)
set_option maxRecDepth 20000 in
theorem gL_law_X5_sealed : GoodIn wsL_law (wsV RL 79 RX5 yX5_sealed wsX5_sealed) := goodIn_app (goodIn_of _ (by decide +kernel)) ggL_law_X5_sealed
set_option maxRecDepth 20000 in
theorem ggL_law_X4_alter : GoodIn wsL_law wsX4_alter := goodIn_r _ [484, 458, 459, 460, 2, 461, 21, 22, 462, 463, 464, 20, 465, 466, 467, 468, 469, 43, 485, 486, 487, 488, 45, 343, 344, 345, 346, 156, 157, 158, 159, 160, 147, 148, 149, 150, 77, 40, 151, 46, 152, 153, 154, 155, 550, 551, 552, 553, 554, 555, 556, 578, 579, 580, 581, 582, 583, 584, 585, 586, 587, 588] (by decide +kernel) (by decide +kernel)
set_option maxRecDepth 20000 in
theorem gL_law_X4_alter : GoodIn wsL_law (wsV RL 80 RX4 yX4_alter wsX4_alter) := goodIn_app (goodIn_of _ (by decide +kernel)) ggL_law_X4_alter
set_option maxRecDepth 20000 in
theorem ggL_law_X5_alter : GoodIn wsL_law wsX5_alter := goodIn_r _ [492, 239, 165, 478, 479, 5, 480, 207, 208, 209, 210, 211, 212, 226, 227, 228, 229, 230, 217, 218, 219, 220, 184, 221, 166, 222, 223, 224, 225, 557, 558, 559, 560, 561, 562, 563, 564, 565, 566, 567, 568, 569, 570, 571, 572, 573, 574, 575, 576] (by decide +kernel) (by decide +kernel)
set_option maxRecDepth 20000 in
theorem gL_law_X5_alter : GoodIn wsL_law (wsV RL 84 RX5 yX5_alter wsX5_alter) := goodIn_app (goodIn_of _ (by decide +kernel)) ggL_law_X5_alter
set_option maxRecDepth 20000 in
theorem ggL_law_X4_counter : GoodIn wsL_law wsX4_counter := goodIn_r _ [496, 458, 459, 460, 2, 461, 21, 22, 497, 467, 468, 20, 469, 43, 498, 499, 500, 501, 46, 550, 551, 552, 553, 554, 555, 556, 578, 579, 580, 581, 582, 583, 584, 585, 586, 587, 588] (by decide +kernel) (by decide +kernel)
set_option maxRecDepth 20000 in
theorem gL_law_X4_counter : GoodIn wsL_law (wsV RL 85 RX4 yX4_counter wsX4_counter) := goodIn_app (goodIn_of _ (by decide +kernel)) ggL_law_X4_counter
set_option maxRecDepth 20000 in
theorem ggL_law_X5_counter : GoodIn wsL_law wsX5_counter := goodIn_r _ [505, 239, 166, 478, 479, 5, 480, 207, 208, 209, 210, 211, 212, 557, 558, 559, 560, 561, 562, 563, 564, 565, 566, 567, 568, 569, 570, 571, 572, 573, 574, 575, 576] (by decide +kernel) (by decide +kernel)
set_option maxRecDepth 20000 in
theorem gL_law_X5_counter : GoodIn wsL_law (wsV RL 88 RX5 yX5_counter wsX5_counter) := goodIn_app (goodIn_of _ (by decide +kernel)) ggL_law_X5_counter
set_option maxRecDepth 20000 in
theorem ggL_law_X4_trace : GoodIn wsL_law wsX4_trace := goodIn_r _ [509, 32, 510, 511, 512, 31, 513, 91, 61, 62, 550, 551, 552, 553, 554, 555, 556, 593, 594, 595] (by decide +kernel) (by decide +kernel)
set_option maxRecDepth 20000 in
theorem gL_law_X4_trace : GoodIn wsL_law (wsV RL 89 RX4 yX4_trace wsX4_trace) := goodIn_app (goodIn_of _ (by decide +kernel)) ggL_law_X4_trace
set_option maxRecDepth 20000 in
theorem ggL_law_X5_trace : GoodIn wsL_law wsX5_trace := goodIn_r _ [517, 239, 186, 172, 173, 557, 558, 559, 560, 561, 562, 563, 564, 565, 566, 567, 568, 569, 570, 571, 572, 573, 574, 575, 576] (by decide +kernel) (by decide +kernel)
set_option maxRecDepth 20000 in
theorem gL_law_X5_trace : GoodIn wsL_law (wsV RL 92 RX5 yX5_trace wsX5_trace) := goodIn_app (goodIn_of _ (by decide +kernel)) ggL_law_X5_trace
set_option maxRecDepth 20000 in
theorem ggL_law_X4_stash : GoodIn wsL_law wsX4_stash := goodIn_r _ [521, 458, 459, 460, 2, 461, 21, 22, 522, 523, 524, 20, 525, 44, 48, 550, 551, 552, 553, 554, 555, 556, 578, 579, 580, 581, 582, 583, 584, 585, 586, 587, 588] (by decide +kernel) (by decide +kernel)
set_option maxRecDepth 20000 in
theorem gL_law_X4_stash : GoodIn wsL_law (wsV RL 93 RX4 yX4_stash wsX4_stash) := goodIn_app (goodIn_of _ (by decide +kernel)) ggL_law_X4_stash
set_option maxRecDepth 20000 in
theorem ggL_law_X5_stash : GoodIn wsL_law wsX5_stash := goodIn_r _ [529, 239, 167, 191, 192, 5, 193, 198, 199, 200, 557, 558, 559, 560, 561, 562, 563, 564, 565, 566, 567, 568, 569, 570, 571, 572, 573, 574, 575, 576] (by decide +kernel) (by decide +kernel)
set_option maxRecDepth 20000 in
theorem gL_law_X5_stash : GoodIn wsL_law (wsV RL 96 RX5 yX5_stash wsX5_stash) := goodIn_app (goodIn_of _ (by decide +kernel)) ggL_law_X5_stash
set_option maxRecDepth 20000 in
theorem ggL_law_X4_state : GoodIn wsL_law wsX4_state := goodIn_r _ [533, 32, 28, 67, 534, 535, 536, 31, 537, 91, 538, 539, 540, 27, 541, 55, 542, 543, 544, 545, 57, 550, 551, 552, 553, 554, 555, 556, 593, 594, 595, 589, 590, 591, 592] (by decide +kernel) (by decide +kernel)
set_option maxRecDepth 20000 in
theorem gL_law_X4_state : GoodIn wsL_law (wsV RL 97 RX4 yX4_state wsX4_state) := goodIn_app (goodIn_of _ (by decide +kernel)) ggL_law_X4_state
set_option maxRecDepth 20000 in
theorem ggL_law_X5_state : GoodIn wsL_law wsX5_state := goodIn_r _ [549, 239, 174, 178, 186, 185, 557, 558, 559, 560, 561, 562, 563, 564, 565, 566, 567, 568, 569, 570, 571, 572, 573, 574, 575, 576] (by decide +kernel) (by decide +kernel)
set_option maxRecDepth 20000 in
theorem gL_law_X5_state : GoodIn wsL_law (wsV RL 100 RX5 yX5_state wsX5_state) := goodIn_app (goodIn_of _ (by decide +kernel)) ggL_law_X5_state
