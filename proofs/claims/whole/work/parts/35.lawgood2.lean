set_option maxRecDepth 20000 in
theorem ggL_law_X2_init : GoodIn wsL_law wsX2_init := goodIn_r _ [9, 10, 11, 12, 13, 14, 15, 16, 17, 18, 19, 20, 21, 22, 23, 24, 25, 26, 27, 28, 29, 30, 31, 32, 562, 563, 564, 565, 566, 567, 568, 569, 570, 571, 572, 573, 574, 551, 552, 575, 576, 577, 578, 579, 580, 581, 582, 583, 584] (by decide +kernel) (by decide +kernel)
set_option maxRecDepth 20000 in
theorem gL_law_X2_init : GoodIn wsL_law (wsX2_init) := ggL_law_X2_init
set_option maxRecDepth 20000 in
theorem ggL_law_X4_init : GoodIn wsL_law wsX4_init := goodIn_r _ [35, 36, 11, 12, 22, 37, 38, 39, 40, 41, 42, 43, 44, 45, 46, 47, 48, 49, 50, 51, 52, 53, 54, 55, 56, 57, 58, 553, 554, 555, 556, 557, 558, 559, 560, 561, 585, 586, 587, 588, 589, 590, 591, 592, 593, 594, 595, 596, 597, 598, 599, 600, 601] (by decide +kernel) (by decide +kernel)
set_option maxRecDepth 20000 in
theorem gL_law_X4_init : GoodIn wsL_law (wsX4_init) := ggL_law_X4_init
set_option maxRecDepth 20000 in
theorem ggL_law_L_build : GoodIn wsL_law wsL_build := goodIn_ca (goodIn_ca (goodIn_r _ [62, 63, 64, 65, 66, 67, 2, 68, 69, 70, 16, 71, 72, 73, 74, 15, 75, 76, 26, 77, 78, 79, 80, 81, 82, 83, 84, 85, 86, 87, 551, 552, 562, 563, 564, 565, 566, 567, 568, 569, 570, 571, 572, 573, 574, 575, 576, 577, 578, 579, 580, 581, 582, 583, 584] (by decide +kernel) (by decide +kernel)) (goodIn_sub (fun _ h => List.mem_append_left _ (List.mem_append_left _ (List.mem_append_right _ h))) (by decide +kernel))) (goodIn_sub (fun _ h => List.mem_append_left _ (List.mem_append_right _ h)) (by decide +kernel))
set_option maxRecDepth 20000 in
theorem gL_law_L_build : GoodIn wsL_law (va_wsS RL 63 yL_build wsL_build) := goodIn_app (goodIn_of _ (by decide +kernel)) ggL_law_L_build
set_option maxRecDepth 20000 in
theorem ggL_law_X4_build : GoodIn wsL_law wsX4_build := goodIn_r _ [91, 92, 93, 39, 40, 94, 95, 5, 96, 97, 98, 99, 100, 553, 554, 555, 556, 557, 558, 559, 560, 561] (by decide +kernel) (by decide +kernel)
set_option maxRecDepth 20000 in
theorem gL_law_X4_build : GoodIn wsL_law (wsV RL 68 RX4 yX4_build wsX4_build) := goodIn_app (goodIn_of _ (by decide +kernel)) ggL_law_X4_build
set_option maxRecDepth 20000 in
theorem ggL_law_X4_thrown : GoodIn wsL_law wsX4_thrown := goodIn_r _ [104, 92, 553, 554, 555, 556, 557, 558, 559, 560, 561] (by decide +kernel) (by decide +kernel)
set_option maxRecDepth 20000 in
theorem gL_law_X4_thrown : GoodIn wsL_law (wsV RL 69 RX4 yX4_thrown wsX4_thrown) := goodIn_app (goodIn_of _ (by decide +kernel)) ggL_law_X4_thrown
set_option maxRecDepth 20000 in
theorem ggL_law_L_setSpring : GoodIn wsL_law wsL_setSpring := goodIn_ca (goodIn_ca (goodIn_r _ [107, 108, 63, 109, 110, 111, 2, 112, 16, 113, 114, 115, 116, 117, 118, 119, 120, 121, 78, 79, 80, 81, 82, 551, 552, 562, 563, 564, 565, 566, 567, 568, 569, 570, 571, 572, 573, 574] (by decide +kernel) (by decide +kernel)) (goodIn_sub (fun _ h => List.mem_append_right _ h) (by decide +kernel))) (goodIn_sub (fun _ h => List.mem_append_left _ (List.mem_append_right _ h)) (by decide +kernel))
set_option maxRecDepth 20000 in
theorem gL_law_L_setSpring : GoodIn wsL_law (va_wsS RL 73 yL_setSpring wsL_setSpring) := goodIn_app (goodIn_of _ (by decide +kernel)) ggL_law_L_setSpring
set_option maxRecDepth 20000 in
theorem ggL_law_X4_setSpring : GoodIn wsL_law wsX4_setSpring := goodIn_r _ [125, 37, 126, 127, 128, 5, 129, 92, 94, 95, 96, 97, 98, 99, 100, 553, 554, 555, 556, 557, 558, 559, 560, 561] (by decide +kernel) (by decide +kernel)
set_option maxRecDepth 20000 in
theorem gL_law_X4_setSpring : GoodIn wsL_law (wsV RL 75 RX4 yX4_setSpring wsX4_setSpring) := goodIn_app (goodIn_of _ (by decide +kernel)) ggL_law_X4_setSpring
set_option maxRecDepth 20000 in
theorem ggL_law_L_setCity : GoodIn wsL_law wsL_setCity := goodIn_ca (goodIn_ca (goodIn_r _ [132, 108, 63, 133, 134, 135, 2, 136, 16, 137, 114, 115, 116, 117, 118, 119, 120, 121, 78, 79, 80, 81, 82, 551, 552, 562, 563, 564, 565, 566, 567, 568, 569, 570, 571, 572, 573, 574] (by decide +kernel) (by decide +kernel)) (goodIn_sub (fun _ h => List.mem_append_right _ h) (by decide +kernel))) (goodIn_sub (fun _ h => List.mem_append_left _ (List.mem_append_right _ h)) (by decide +kernel))
set_option maxRecDepth 20000 in
theorem gL_law_L_setCity : GoodIn wsL_law (va_wsS RL 76 yL_setCity wsL_setCity) := goodIn_app (goodIn_of _ (by decide +kernel)) ggL_law_L_setCity
set_option maxRecDepth 20000 in
theorem ggL_law_X4_setCity : GoodIn wsL_law wsX4_setCity := goodIn_r _ [141, 38, 126, 127, 128, 5, 129, 92, 94, 95, 96, 97, 98, 99, 100, 553, 554, 555, 556, 557, 558, 559, 560, 561] (by decide +kernel) (by decide +kernel)
set_option maxRecDepth 20000 in
theorem gL_law_X4_setCity : GoodIn wsL_law (wsV RL 78 RX4 yX4_setCity wsX4_setCity) := goodIn_app (goodIn_of _ (by decide +kernel)) ggL_law_X4_setCity
set_option maxRecDepth 20000 in
theorem ggL_law_L_setCistern : GoodIn wsL_law wsL_setCistern := goodIn_ca (goodIn_r _ [144, 63, 145, 146, 147, 2, 148, 16, 78, 79, 80, 81, 82, 149, 150, 151, 15, 152, 153, 154, 155, 156, 157, 27, 158, 551, 552, 562, 563, 564, 565, 566, 567, 568, 569, 570, 571, 572, 573, 574] (by decide +kernel) (by decide +kernel)) (goodIn_sub (fun _ h => List.mem_append_left _ (List.mem_append_right _ h)) (by decide +kernel))
set_option maxRecDepth 20000 in
theorem gL_law_L_setCistern : GoodIn wsL_law (va_wsS RL 79 yL_setCistern wsL_setCistern) := goodIn_app (goodIn_of _ (by decide +kernel)) ggL_law_L_setCistern
set_option maxRecDepth 20000 in
theorem ggL_law_X4_setCistern : GoodIn wsL_law wsX4_setCistern := goodIn_r _ [162, 92, 45, 163, 155, 156, 157, 94, 95, 5, 96, 97, 98, 99, 100, 553, 554, 555, 556, 557, 558, 559, 560, 561, 585, 586, 587, 588, 589, 590, 591, 592, 593, 594, 595, 596, 597, 598, 599, 600, 601] (by decide +kernel) (by decide +kernel)
set_option maxRecDepth 20000 in
theorem gL_law_X4_setCistern : GoodIn wsL_law (wsV RL 82 RX4 yX4_setCistern wsX4_setCistern) := goodIn_app (goodIn_of _ (by decide +kernel)) ggL_law_X4_setCistern
set_option maxRecDepth 20000 in
theorem ggL_law_L_arch : GoodIn wsL_law wsL_arch := goodIn_ca (goodIn_r _ [166, 108, 167, 168, 169, 2, 170, 16, 171, 172, 173, 174, 71, 117, 118, 119, 120, 121, 175, 176, 177, 15, 178, 26, 77, 87, 179, 180, 181, 182, 183, 184, 185, 186, 76, 187, 188, 189, 190, 191, 192, 156, 193, 194, 195, 196, 29, 197, 198, 551, 552, 562, 563, 564, 565, 566, 567, 568, 569, 570, 571, 572, 573, 574, 575, 576, 577, 578, 579, 580, 581, 582, 583, 584] (by decide +kernel) (by decide +kernel)) (goodIn_sub (fun _ h => List.mem_append_right _ h) (by decide +kernel))
set_option maxRecDepth 20000 in
theorem gL_law_L_arch : GoodIn wsL_law (va_wsS RL 83 yL_arch wsL_arch) := goodIn_app (goodIn_of _ (by decide +kernel)) ggL_law_L_arch
set_option maxRecDepth 20000 in
theorem ggL_law_X4_arch : GoodIn wsL_law wsX4_arch := goodIn_r _ [202, 92, 203, 204, 205, 5, 206, 93, 94, 95, 96, 207, 208, 209, 210, 22, 39, 40, 45, 41, 211, 212, 213, 214, 215, 216, 217, 218, 219, 192, 156, 193, 97, 98, 99, 100, 553, 554, 555, 556, 557, 558, 559, 560, 561, 585, 586, 587, 588, 589, 590, 591, 592, 593, 594, 595, 596, 597, 598, 599, 600, 601] (by decide +kernel) (by decide +kernel)
set_option maxRecDepth 20000 in
theorem gL_law_X4_arch : GoodIn wsL_law (wsV RL 85 RX4 yX4_arch wsX4_arch) := goodIn_app (goodIn_of _ (by decide +kernel)) ggL_law_X4_arch
set_option maxRecDepth 20000 in
theorem ggL_law_L_addMill : GoodIn wsL_law wsL_addMill := goodIn_ca (goodIn_ca (goodIn_ca (goodIn_r _ [222, 108, 63, 64, 223, 224, 225, 2, 226, 69, 70, 16, 227, 171, 172, 173, 174, 71, 117, 118, 119, 120, 121, 78, 79, 80, 81, 82, 228, 229, 230, 15, 231, 26, 232, 195, 196, 29, 197, 198, 233, 234, 235, 236, 76, 194, 551, 552, 575, 576, 577, 578, 579, 580, 581, 582, 583, 584, 562, 563, 564, 565, 566, 567, 568, 569, 570, 571, 572, 573, 574] (by decide +kernel) (by decide +kernel)) (goodIn_sub (fun _ h => List.mem_append_left _ (List.mem_append_left _ (List.mem_append_right _ h))) (by decide +kernel))) (goodIn_sub (fun _ h => List.mem_append_right _ h) (by decide +kernel))) (goodIn_sub (fun _ h => List.mem_append_left _ (List.mem_append_right _ h)) (by decide +kernel))
set_option maxRecDepth 20000 in
theorem gL_law_L_addMill : GoodIn wsL_law (va_wsS RL 86 yL_addMill wsL_addMill) := goodIn_app (goodIn_of _ (by decide +kernel)) ggL_law_L_addMill
set_option maxRecDepth 20000 in
theorem ggL_law_X4_addMill : GoodIn wsL_law wsX4_addMill := goodIn_r _ [240, 92, 41, 203, 204, 205, 5, 206, 93, 94, 95, 96, 97, 98, 99, 100, 241, 242, 243, 244, 553, 554, 555, 556, 557, 558, 559, 560, 561] (by decide +kernel) (by decide +kernel)
set_option maxRecDepth 20000 in
theorem gL_law_X4_addMill : GoodIn wsL_law (wsV RL 88 RX4 yX4_addMill wsX4_addMill) := goodIn_app (goodIn_of _ (by decide +kernel)) ggL_law_X4_addMill
set_option maxRecDepth 20000 in
theorem ggL_law_L_setSluice : GoodIn wsL_law wsL_setSluice := goodIn_ca (goodIn_ca (goodIn_ca (goodIn_r _ [247, 108, 63, 64, 248, 249, 250, 2, 251, 69, 70, 16, 252, 171, 172, 173, 174, 71, 117, 118, 119, 120, 121, 78, 79, 80, 81, 82, 228, 229, 230, 15, 231, 26, 232, 195, 196, 29, 197, 198, 551, 552, 575, 576, 577, 578, 579, 580, 581, 582, 583, 584, 562, 563, 564, 565, 566, 567, 568, 569, 570, 571, 572, 573, 574] (by decide +kernel) (by decide +kernel)) (goodIn_sub (fun _ h => List.mem_append_left _ (List.mem_append_left _ (List.mem_append_right _ h))) (by decide +kernel))) (goodIn_sub (fun _ h => List.mem_append_right _ h) (by decide +kernel))) (goodIn_sub (fun _ h => List.mem_append_left _ (List.mem_append_right _ h)) (by decide +kernel))
set_option maxRecDepth 20000 in
theorem gL_law_L_setSluice : GoodIn wsL_law (va_wsS RL 89 yL_setSluice wsL_setSluice) := goodIn_app (goodIn_of _ (by decide +kernel)) ggL_law_L_setSluice
set_option maxRecDepth 20000 in
theorem ggL_law_X4_setSluice : GoodIn wsL_law wsX4_setSluice := goodIn_r _ [256, 92, 41, 45, 203, 204, 205, 5, 206, 93, 94, 95, 96, 97, 98, 99, 100, 553, 554, 555, 556, 557, 558, 559, 560, 561, 585, 586, 587, 588, 589, 590, 591, 592, 593, 594, 595, 596, 597, 598, 599, 600, 601] (by decide +kernel) (by decide +kernel)
set_option maxRecDepth 20000 in
theorem gL_law_X4_setSluice : GoodIn wsL_law (wsV RL 91 RX4 yX4_setSluice wsX4_setSluice) := goodIn_app (goodIn_of _ (by decide +kernel)) ggL_law_X4_setSluice
set_option maxRecDepth 20000 in
theorem ggL_law_L_mill : GoodIn wsL_law wsL_mill := goodIn_ca (goodIn_r _ [259, 108, 260, 261, 262, 2, 263, 16, 171, 172, 173, 174, 71, 117, 118, 119, 120, 121, 228, 229, 230, 15, 231, 26, 264, 265, 266, 29, 267, 198, 268, 269, 270, 271, 195, 196, 197, 551, 552, 562, 563, 564, 565, 566, 567, 568, 569, 570, 571, 572, 573, 574, 575, 576, 577, 578, 579, 580, 581, 582, 583, 584] (by decide +kernel) (by decide +kernel)) (goodIn_sub (fun _ h => List.mem_append_right _ h) (by decide +kernel))
set_option maxRecDepth 20000 in
theorem gL_law_L_mill : GoodIn wsL_law (va_wsS RL 92 yL_mill wsL_mill) := goodIn_app (goodIn_of _ (by decide +kernel)) ggL_law_L_mill
set_option maxRecDepth 20000 in
theorem ggL_law_X4_mill : GoodIn wsL_law wsX4_mill := goodIn_r _ [275, 92, 203, 204, 205, 5, 206, 93, 94, 95, 96, 276, 277, 278, 279, 41, 45, 97, 98, 99, 100, 553, 554, 555, 556, 557, 558, 559, 560, 561, 585, 586, 587, 588, 589, 590, 591, 592, 593, 594, 595, 596, 597, 598, 599, 600, 601] (by decide +kernel) (by decide +kernel)
set_option maxRecDepth 20000 in
theorem gL_law_X4_mill : GoodIn wsL_law (wsV RL 94 RX4 yX4_mill wsX4_mill) := goodIn_app (goodIn_of _ (by decide +kernel)) ggL_law_X4_mill
set_option maxRecDepth 20000 in
theorem ggL_law_L_mend : GoodIn wsL_law wsL_mend := goodIn_ca (goodIn_ca (goodIn_r _ [282, 108, 64, 283, 284, 285, 2, 286, 69, 70, 16, 287, 288, 289, 155, 156, 157, 290, 171, 172, 173, 174, 71, 117, 118, 119, 120, 121, 228, 229, 230, 15, 231, 26, 551, 552, 562, 563, 564, 565, 566, 567, 568, 569, 570, 571, 572, 573, 574, 575, 576, 577, 578, 579, 580, 581, 582, 583, 584] (by decide +kernel) (by decide +kernel)) (goodIn_sub (fun _ h => List.mem_append_left _ (List.mem_append_left _ (List.mem_append_right _ h))) (by decide +kernel))) (goodIn_sub (fun _ h => List.mem_append_right _ h) (by decide +kernel))
set_option maxRecDepth 20000 in
theorem gL_law_L_mend : GoodIn wsL_law (va_wsS RL 95 yL_mend wsL_mend) := goodIn_app (goodIn_of _ (by decide +kernel)) ggL_law_L_mend
set_option maxRecDepth 20000 in
theorem ggL_law_X4_mend : GoodIn wsL_law wsX4_mend := goodIn_r _ [294, 92, 45, 163, 155, 156, 157, 203, 204, 205, 5, 206, 93, 94, 95, 96, 97, 98, 99, 100, 553, 554, 555, 556, 557, 558, 559, 560, 561, 585, 586, 587, 588, 589, 590, 591, 592, 593, 594, 595, 596, 597, 598, 599, 600, 601] (by decide +kernel) (by decide +kernel)
set_option maxRecDepth 20000 in
theorem gL_law_X4_mend : GoodIn wsL_law (wsV RL 97 RX4 yX4_mend wsX4_mend) := goodIn_app (goodIn_of _ (by decide +kernel)) ggL_law_X4_mend
set_option maxRecDepth 20000 in
theorem ggL_law_L_quake : GoodIn wsL_law wsL_quake := goodIn_ca (goodIn_ca (goodIn_r _ [297, 108, 63, 298, 299, 300, 2, 301, 16, 288, 171, 172, 173, 174, 71, 117, 118, 119, 120, 121, 78, 79, 80, 81, 82, 228, 229, 230, 15, 231, 26, 302, 303, 304, 29, 305, 306, 307, 192, 156, 193, 551, 552, 575, 576, 577, 578, 579, 580, 581, 582, 583, 584, 562, 563, 564, 565, 566, 567, 568, 569, 570, 571, 572, 573, 574] (by decide +kernel) (by decide +kernel)) (goodIn_sub (fun _ h => List.mem_append_right _ h) (by decide +kernel))) (goodIn_sub (fun _ h => List.mem_append_left _ (List.mem_append_right _ h)) (by decide +kernel))
set_option maxRecDepth 20000 in
theorem gL_law_L_quake : GoodIn wsL_law (va_wsS RL 98 yL_quake wsL_quake) := goodIn_app (goodIn_of _ (by decide +kernel)) ggL_law_L_quake
set_option maxRecDepth 20000 in
theorem ggL_law_X4_quake : GoodIn wsL_law wsX4_quake := goodIn_r _ [311, 92, 45, 219, 192, 156, 193, 203, 204, 205, 5, 206, 93, 94, 95, 96, 97, 98, 99, 100, 553, 554, 555, 556, 557, 558, 559, 560, 561, 585, 586, 587, 588, 589, 590, 591, 592, 593, 594, 595, 596, 597, 598, 599, 600, 601] (by decide +kernel) (by decide +kernel)
set_option maxRecDepth 20000 in
theorem gL_law_X4_quake : GoodIn wsL_law (wsV RL 100 RX4 yX4_quake wsX4_quake) := goodIn_app (goodIn_of _ (by decide +kernel)) ggL_law_X4_quake
set_option maxRecDepth 20000 in
theorem ggL_law_L_pass : GoodIn wsL_law wsL_pass := goodIn_ca (goodIn_r _ [314, 63, 315, 316, 317, 2, 318, 16, 319, 78, 79, 80, 81, 82, 320, 321, 322, 15, 323, 324, 325, 326, 327, 328, 24, 76, 23, 26, 329, 330, 331, 332, 333, 334, 335, 336, 153, 191, 192, 156, 193, 337, 338, 339, 340, 341, 342, 179, 187, 188, 189, 190, 183, 184, 185, 186, 77, 343, 344, 345, 29, 346, 268, 198, 307, 270, 347, 348, 349, 350, 351, 27, 352, 353, 354, 355, 356, 357, 358, 359, 360, 361, 362, 158, 363, 364, 365, 366, 367, 269, 368, 369, 370, 371, 372, 373, 374, 375, 376, 377, 306, 378, 379, 380, 381, 382, 383, 384, 385, 386, 387, 388, 389, 390, 271, 195, 196, 197, 391, 303, 304, 305, 551, 552, 562, 563, 564, 565, 566, 567, 568, 569, 570, 571, 572, 573, 574, 575, 576, 577, 578, 579, 580, 581, 582, 583, 584] (by decide +kernel) (by decide +kernel)) (goodIn_sub (fun _ h => List.mem_append_left _ (List.mem_append_right _ h)) (by decide +kernel))
set_option maxRecDepth 20000 in
theorem gL_law_L_pass : GoodIn wsL_law (va_wsS RL 101 yL_pass wsL_pass) := goodIn_app (goodIn_of _ (by decide +kernel)) ggL_law_L_pass
set_option maxRecDepth 20000 in
theorem ggL_law_X4_pass_ : GoodIn wsL_law wsX4_pass_ := goodIn_r _ [395, 92, 45, 94, 95, 5, 96, 396, 397, 398, 399, 400, 401, 44, 402, 403, 404, 49, 405, 406, 192, 156, 193, 407, 52, 58, 56, 408, 409, 54, 53, 55, 216, 217, 218, 219, 211, 212, 213, 214, 39, 93, 410, 411, 412, 413, 51, 414, 415, 416, 417, 418, 57, 419, 97, 98, 99, 100, 553, 554, 555, 556, 557, 558, 559, 560, 561, 585, 586, 587, 588, 589, 590, 591, 592, 593, 594, 595, 596, 597, 598, 599, 600, 601] (by decide +kernel) (by decide +kernel)
set_option maxRecDepth 20000 in
theorem gL_law_X4_pass_ : GoodIn wsL_law (wsV RL 103 RX4 yX4_pass_ wsX4_pass_) := goodIn_app (goodIn_of _ (by decide +kernel)) ggL_law_X4_pass_
set_option maxRecDepth 20000 in
theorem ggL_law_L_count : GoodIn wsL_law wsL_count := goodIn_ca (goodIn_r _ [422, 108, 423, 424, 425, 2, 426, 16, 117, 118, 119, 120, 121, 427, 428, 429, 15, 430, 328, 76, 362, 153, 372, 158, 363, 337, 338, 431, 234, 235, 236, 26, 194, 195, 196, 29, 197, 198, 432, 433, 434, 435, 179, 436, 437, 438, 439, 182, 551, 552, 562, 563, 564, 565, 566, 567, 568, 569, 570, 571, 572, 573, 574, 575, 576, 577, 578, 579, 580, 581, 582, 583, 584] (by decide +kernel) (by decide +kernel)) (goodIn_sub (fun _ h => List.mem_append_right _ h) (by decide +kernel))
set_option maxRecDepth 20000 in
theorem gL_law_L_count : GoodIn wsL_law (va_wsS RL 104 yL_count wsL_count) := goodIn_app (goodIn_of _ (by decide +kernel)) ggL_law_L_count
set_option maxRecDepth 20000 in
theorem ggL_law_X4_count : GoodIn wsL_law wsX4_count := goodIn_r _ [443, 92, 94, 95, 5, 96, 444, 445, 446, 447, 22, 45, 93, 241, 242, 243, 244, 41, 448, 449, 450, 44, 451, 49, 97, 98, 99, 100, 553, 554, 555, 556, 557, 558, 559, 560, 561, 585, 586, 587, 588, 589, 590, 591, 592, 593, 594, 595, 596, 597, 598, 599, 600, 601] (by decide +kernel) (by decide +kernel)
set_option maxRecDepth 20000 in
theorem gL_law_X4_count : GoodIn wsL_law (wsV RL 106 RX4 yX4_count wsX4_count) := goodIn_app (goodIn_of _ (by decide +kernel)) ggL_law_X4_count
set_option maxRecDepth 20000 in
theorem ggL_law_L_foresee : GoodIn wsL_law wsL_foresee := goodIn_ca (goodIn_ca (goodIn_r _ [454, 63, 108, 455, 456, 457, 2, 458, 17, 16, 319, 459, 78, 79, 80, 81, 82, 117, 118, 119, 120, 121, 460, 461, 462, 15, 463, 23, 464, 465, 466, 467, 24, 76, 26, 328, 362, 27, 153, 372, 158, 363, 337, 338, 468, 469, 470, 29, 471, 472, 356, 347, 306, 377, 378, 198, 268, 269, 270, 320, 321, 322, 323, 324, 325, 326, 327, 329, 330, 331, 332, 333, 334, 335, 336, 191, 192, 156, 193, 339, 340, 341, 342, 179, 187, 188, 189, 190, 183, 184, 185, 186, 77, 343, 344, 345, 346, 307, 348, 349, 350, 351, 352, 353, 354, 355, 357, 358, 359, 360, 361, 364, 365, 366, 367, 368, 369, 370, 371, 373, 374, 375, 376, 379, 380, 381, 382, 383, 384, 385, 386, 387, 388, 389, 390, 271, 195, 196, 197, 391, 303, 304, 305, 473, 437, 438, 439, 182, 474, 475, 476, 477, 478, 551, 552, 562, 563, 564, 565, 566, 567, 568, 569, 570, 571, 572, 573, 574, 575, 576, 577, 578, 579, 580, 581, 582, 583, 584] (by decide +kernel) (by decide +kernel)) (goodIn_sub (fun _ h => List.mem_append_left _ (List.mem_append_right _ h)) (by decide +kernel))) (goodIn_sub (fun _ h => List.mem_append_right _ h) (by decide +kernel))
set_option maxRecDepth 20000 in
theorem gL_law_L_foresee : GoodIn wsL_law (va_wsS RL 107 yL_foresee wsL_foresee) := goodIn_app (goodIn_of _ (by decide +kernel)) ggL_law_L_foresee
set_option maxRecDepth 20000 in
theorem ggL_law_X4_foresee : GoodIn wsL_law wsX4_foresee := goodIn_r _ [482, 92, 46, 45, 94, 95, 5, 96, 97, 98, 99, 100, 483, 484, 485, 44, 486, 403, 405, 51, 418, 52, 53, 54, 55, 56, 57, 58, 408, 409, 419, 407, 404, 487, 488, 489, 490, 491, 465, 466, 467, 396, 397, 398, 399, 400, 401, 402, 49, 406, 192, 156, 193, 216, 217, 218, 219, 211, 212, 213, 214, 39, 93, 410, 411, 412, 413, 414, 415, 416, 417, 448, 449, 450, 451, 553, 554, 555, 556, 557, 558, 559, 560, 561, 585, 586, 587, 588, 589, 590, 591, 592, 593, 594, 595, 596, 597, 598, 599, 600, 601] (by decide +kernel) (by decide +kernel)
set_option maxRecDepth 20000 in
theorem gL_law_X4_foresee : GoodIn wsL_law (wsV RL 109 RX4 yX4_foresee wsX4_foresee) := goodIn_app (goodIn_of _ (by decide +kernel)) ggL_law_X4_foresee
set_option maxRecDepth 20000 in
theorem ggL_law_L_advise : GoodIn wsL_law wsL_advise := goodIn_ca (goodIn_r _ [494, 63, 495, 496, 497, 2, 498, 16, 71, 78, 79, 80, 81, 82, 499, 500, 501, 502, 17, 252, 319, 460, 461, 462, 15, 463, 23, 464, 465, 466, 467, 24, 76, 26, 328, 362, 27, 153, 372, 158, 363, 337, 338, 468, 469, 470, 29, 471, 472, 356, 347, 306, 377, 378, 198, 268, 269, 270, 228, 229, 230, 231, 320, 321, 322, 323, 324, 325, 326, 327, 329, 330, 331, 332, 333, 334, 335, 336, 191, 192, 156, 193, 339, 340, 341, 342, 179, 187, 188, 189, 190, 183, 184, 185, 186, 77, 343, 344, 345, 346, 307, 348, 349, 350, 351, 352, 353, 354, 355, 357, 358, 359, 360, 361, 364, 365, 366, 367, 368, 369, 370, 371, 373, 374, 375, 376, 379, 380, 381, 382, 383, 384, 385, 386, 387, 388, 389, 390, 271, 195, 196, 197, 391, 303, 304, 305, 503, 551, 552, 562, 563, 564, 565, 566, 567, 568, 569, 570, 571, 572, 573, 574, 575, 576, 577, 578, 579, 580, 581, 582, 583, 584] (by decide +kernel) (by decide +kernel)) (goodIn_sub (fun _ h => List.mem_append_left _ (List.mem_append_right _ h)) (by decide +kernel))
set_option maxRecDepth 20000 in
theorem gL_law_L_advise : GoodIn wsL_law (va_wsS RL 110 yL_advise wsL_advise) := goodIn_app (goodIn_of _ (by decide +kernel)) ggL_law_L_advise
set_option maxRecDepth 20000 in
theorem ggL_law_X4_advise : GoodIn wsL_law wsX4_advise := goodIn_r _ [507, 92, 46, 45, 93, 94, 95, 5, 96, 97, 98, 99, 100, 483, 484, 485, 44, 486, 403, 405, 51, 418, 52, 53, 54, 55, 56, 57, 58, 408, 409, 419, 407, 404, 487, 488, 489, 490, 491, 465, 466, 467, 396, 397, 398, 399, 400, 401, 402, 49, 406, 192, 156, 193, 216, 217, 218, 219, 211, 212, 213, 214, 39, 410, 411, 412, 413, 414, 415, 416, 417, 553, 554, 555, 556, 557, 558, 559, 560, 561, 585, 586, 587, 588, 589, 590, 591, 592, 593, 594, 595, 596, 597, 598, 599, 600, 601] (by decide +kernel) (by decide +kernel)
set_option maxRecDepth 20000 in
theorem gL_law_X4_advise : GoodIn wsL_law (wsV RL 112 RX4 yX4_advise wsX4_advise) := goodIn_app (goodIn_of _ (by decide +kernel)) ggL_law_X4_advise
set_option maxRecDepth 20000 in
theorem ggL_law_X2_thirsty : GoodIn wsL_law wsX2_thirsty := goodIn_r _ [511, 17, 16, 319, 460, 461, 462, 15, 463, 23, 464, 465, 466, 467, 24, 76, 26, 328, 362, 27, 153, 372, 158, 363, 337, 338, 468, 469, 470, 29, 471, 472, 356, 347, 306, 377, 378, 198, 268, 269, 270, 320, 321, 322, 323, 324, 325, 326, 327, 329, 330, 331, 332, 333, 334, 335, 336, 191, 192, 156, 193, 339, 340, 341, 342, 179, 187, 188, 189, 190, 183, 184, 185, 186, 77, 343, 344, 345, 346, 307, 348, 349, 350, 351, 352, 353, 354, 355, 357, 358, 359, 360, 361, 364, 365, 366, 367, 368, 369, 370, 371, 373, 374, 375, 376, 379, 380, 381, 382, 383, 384, 385, 386, 387, 388, 389, 390, 271, 195, 196, 197, 391, 303, 304, 305, 551, 552, 562, 563, 564, 565, 566, 567, 568, 569, 570, 571, 572, 573, 574, 575, 576, 577, 578, 579, 580, 581, 582, 583, 584] (by decide +kernel) (by decide +kernel)
set_option maxRecDepth 20000 in
theorem gL_law_X2_thirsty : GoodIn wsL_law (wsV RL 113 RX2 yX2_thirsty wsX2_thirsty) := goodIn_app (goodIn_of _ (by decide +kernel)) ggL_law_X2_thirsty
set_option maxRecDepth 20000 in
theorem ggL_law_X4_thirsty : GoodIn wsL_law wsX4_thirsty := goodIn_r _ [515, 92, 46, 45, 483, 484, 485, 44, 486, 403, 405, 51, 418, 52, 53, 54, 55, 56, 57, 58, 408, 409, 419, 407, 404, 487, 488, 489, 490, 491, 465, 466, 467, 399, 400, 401, 402, 49, 406, 192, 156, 193, 216, 5, 217, 218, 219, 211, 212, 213, 214, 39, 93, 410, 411, 412, 413, 414, 415, 416, 417, 553, 554, 555, 556, 557, 558, 559, 560, 561, 585, 586, 587, 588, 589, 590, 591, 592, 593, 594, 595, 596, 597, 598, 599, 600, 601] (by decide +kernel) (by decide +kernel)
set_option maxRecDepth 20000 in
theorem gL_law_X4_thirsty : GoodIn wsL_law (wsV RL 116 RX4 yX4_thirsty wsX4_thirsty) := goodIn_app (goodIn_of _ (by decide +kernel)) ggL_law_X4_thirsty
set_option maxRecDepth 20000 in
theorem ggL_law_X2_worst : GoodIn wsL_law wsX2_worst := goodIn_r _ [519, 16, 71, 520, 228, 229, 230, 15, 231, 26, 551, 552, 562, 563, 564, 565, 566, 567, 568, 569, 570, 571, 572, 573, 574, 575, 576, 577, 578, 579, 580, 581, 582, 583, 584] (by decide +kernel) (by decide +kernel)
set_option maxRecDepth 20000 in
theorem gL_law_X2_worst : GoodIn wsL_law (wsV RL 117 RX2 yX2_worst wsX2_worst) := goodIn_app (goodIn_of _ (by decide +kernel)) ggL_law_X2_worst
set_option maxRecDepth 20000 in
theorem ggL_law_X4_worst : GoodIn wsL_law wsX4_worst := goodIn_r _ [524, 92, 93, 45, 553, 554, 555, 556, 557, 558, 559, 560, 561, 585, 586, 587, 588, 589, 590, 591, 592, 593, 594, 595, 596, 597, 598, 599, 600, 601] (by decide +kernel) (by decide +kernel)
set_option maxRecDepth 20000 in
theorem gL_law_X4_worst : GoodIn wsL_law (wsV RL 120 RX4 yX4_worst wsX4_worst) := goodIn_app (goodIn_of _ (by decide +kernel)) ggL_law_X4_worst
set_option maxRecDepth 20000 in
theorem ggL_law_X2_reaches : GoodIn wsL_law wsX2_reaches := goodIn_r _ [528, 16, 529, 530, 551, 552, 562, 563, 564, 565, 566, 567, 568, 569, 570, 571, 572, 573, 574] (by decide +kernel) (by decide +kernel)
set_option maxRecDepth 20000 in
theorem gL_law_X2_reaches : GoodIn wsL_law (wsV RL 121 RX2 yX2_reaches wsX2_reaches) := goodIn_app (goodIn_of _ (by decide +kernel)) ggL_law_X2_reaches
set_option maxRecDepth 20000 in
theorem ggL_law_X4_reaches : GoodIn wsL_law wsX4_reaches := goodIn_r _ [534, 92, 45, 553, 554, 555, 556, 557, 558, 559, 560, 561, 585, 586, 587, 588, 589, 590, 591, 592, 593, 594, 595, 596, 597, 598, 599, 600, 601] (by decide +kernel) (by decide +kernel)
set_option maxRecDepth 20000 in
theorem gL_law_X4_reaches : GoodIn wsL_law (wsV RL 125 RX4 yX4_reaches wsX4_reaches) := goodIn_app (goodIn_of _ (by decide +kernel)) ggL_law_X4_reaches
set_option maxRecDepth 20000 in
theorem ggL_law_X2_digest : GoodIn wsL_law wsX2_digest := goodIn_r _ [538, 539, 540, 16, 113, 137, 71, 427, 428, 429, 15, 430, 328, 76, 362, 153, 372, 158, 363, 337, 338, 431, 234, 235, 236, 26, 194, 195, 196, 29, 197, 198, 432, 433, 434, 435, 179, 436, 437, 438, 439, 182, 541, 542, 543, 2, 544, 175, 176, 177, 178, 77, 87, 180, 181, 183, 184, 185, 186, 187, 188, 189, 190, 191, 192, 156, 193, 228, 229, 230, 231, 264, 265, 266, 267, 268, 269, 270, 271, 551, 552, 562, 563, 564, 565, 566, 567, 568, 569, 570, 571, 572, 573, 574, 575, 576, 577, 578, 579, 580, 581, 582, 583, 584] (by decide +kernel) (by decide +kernel)
set_option maxRecDepth 20000 in
theorem gL_law_X2_digest : GoodIn wsL_law (wsV RL 126 RX2 yX2_digest wsX2_digest) := goodIn_app (goodIn_of _ (by decide +kernel)) ggL_law_X2_digest
set_option maxRecDepth 20000 in
theorem ggL_law_X4_digest : GoodIn wsL_law wsX4_digest := goodIn_r _ [548, 92, 549, 550, 37, 38, 93, 444, 445, 446, 5, 447, 22, 45, 241, 242, 243, 244, 41, 448, 449, 450, 44, 451, 49, 207, 208, 209, 210, 39, 40, 211, 212, 213, 214, 215, 216, 217, 218, 219, 192, 156, 193, 276, 277, 278, 279, 553, 554, 555, 556, 557, 558, 559, 560, 561, 585, 586, 587, 588, 589, 590, 591, 592, 593, 594, 595, 596, 597, 598, 599, 600, 601] (by decide +kernel) (by decide +kernel)
set_option maxRecDepth 20000 in
theorem gL_law_X4_digest : GoodIn wsL_law (wsV RL 130 RX4 yX4_digest wsX4_digest) := goodIn_app (goodIn_of _ (by decide +kernel)) ggL_law_X4_digest

