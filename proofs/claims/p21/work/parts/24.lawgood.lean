set_option maxRecDepth 20000 in
theorem ggL_aqueduct_X2_init : GoodIn wsL_aqueduct wsX2_init := goodIn_r _ [10, 11, 12, 13, 14, 15, 16, 17, 18, 19, 20, 21, 22, 23, 24, 25, 26, 27, 28, 29, 30, 31, 32, 33, 138, 139, 140, 141, 142, 143, 144, 145, 146, 147, 148, 149, 150, 136, 137, 151, 152, 153, 154, 155, 156, 157, 158, 159, 160] (by decide +kernel) (by decide +kernel)
set_option maxRecDepth 20000 in
theorem gL_aqueduct_X2_init : GoodIn wsL_aqueduct (wsX2_init) := ggL_aqueduct_X2_init
set_option maxRecDepth 20000 in
theorem ggL_aqueduct_L_cell : GoodIn wsL_aqueduct wsL_cell := goodIn_r _ [37, 38] (by decide +kernel) (by decide +kernel)
set_option maxRecDepth 20000 in
theorem gL_aqueduct_L_cell : GoodIn wsL_aqueduct (va_wsS RL 12 yL_cell wsL_cell) := goodIn_app (goodIn_of _ (by decide +kernel)) ggL_aqueduct_L_cell
set_option maxRecDepth 20000 in
theorem ggL_aqueduct_L_below : GoodIn wsL_aqueduct wsL_below := goodIn_r _ [41, 42] (by decide +kernel) (by decide +kernel)
set_option maxRecDepth 20000 in
theorem gL_aqueduct_L_below : GoodIn wsL_aqueduct (va_wsS RL 18 yL_below wsL_below) := goodIn_app (goodIn_of _ (by decide +kernel)) ggL_aqueduct_L_below
set_option maxRecDepth 20000 in
theorem ggL_aqueduct_X2_build : GoodIn wsL_aqueduct wsX2_build := goodIn_ca (goodIn_ca (goodIn_r _ [46, 47, 48, 17, 49, 50, 51, 52, 16, 53, 54, 27, 55, 56, 57, 3, 58, 59, 60, 61, 62, 63, 64, 65, 136, 137, 138, 139, 140, 141, 142, 143, 144, 145, 146, 147, 148, 149, 150, 151, 152, 153, 154, 155, 156, 157, 158, 159, 160] (by decide +kernel) (by decide +kernel)) (goodIn_sub (fun _ h => List.mem_cons_of_mem _ (List.mem_append_left _ (List.mem_append_left _ (List.mem_append_right _ h)))) (by decide +kernel))) (goodIn_sub (fun _ h => List.mem_cons_of_mem _ (List.mem_append_left _ (List.mem_append_right _ h))) (by decide +kernel))
set_option maxRecDepth 20000 in
theorem gL_aqueduct_X2_build : GoodIn wsL_aqueduct (wsV RL 27 RX2 yX2_build wsX2_build) := goodIn_app (goodIn_of _ (by decide +kernel)) ggL_aqueduct_X2_build
set_option maxRecDepth 20000 in
theorem ggL_aqueduct_X2_addMill : GoodIn wsL_aqueduct wsX2_addMill := goodIn_ca (goodIn_ca (goodIn_ca (goodIn_r _ [69, 47, 48, 17, 70, 71, 72, 73, 3, 74, 49, 75, 76, 77, 78, 79, 56, 57, 58, 59, 60, 80, 81, 82, 16, 83, 27, 84, 85, 86, 30, 87, 88, 89, 90, 91, 92, 54, 93, 136, 137, 151, 152, 153, 154, 155, 156, 157, 158, 159, 160, 138, 139, 140, 141, 142, 143, 144, 145, 146, 147, 148, 149, 150] (by decide +kernel) (by decide +kernel)) (goodIn_sub (fun _ h => List.mem_cons_of_mem _ (List.mem_append_left _ (List.mem_append_left _ (List.mem_append_right _ h)))) (by decide +kernel))) (goodIn_sub (fun _ h => List.mem_cons_of_mem _ (List.mem_append_right _ h)) (by decide +kernel))) (goodIn_sub (fun _ h => List.mem_cons_of_mem _ (List.mem_append_left _ (List.mem_append_right _ h))) (by decide +kernel))
set_option maxRecDepth 20000 in
theorem gL_aqueduct_X2_addMill : GoodIn wsL_aqueduct (wsV RL 30 RX2 yX2_addMill wsX2_addMill) := goodIn_app (goodIn_of _ (by decide +kernel)) ggL_aqueduct_X2_addMill
set_option maxRecDepth 20000 in
theorem ggL_aqueduct_X2_setSluice : GoodIn wsL_aqueduct wsX2_setSluice := goodIn_ca (goodIn_ca (goodIn_ca (goodIn_r _ [97, 47, 48, 17, 98, 71, 72, 73, 3, 74, 49, 75, 76, 77, 78, 79, 56, 57, 58, 59, 60, 80, 81, 82, 16, 83, 27, 84, 85, 86, 30, 87, 88, 136, 137, 151, 152, 153, 154, 155, 156, 157, 158, 159, 160, 138, 139, 140, 141, 142, 143, 144, 145, 146, 147, 148, 149, 150] (by decide +kernel) (by decide +kernel)) (goodIn_sub (fun _ h => List.mem_cons_of_mem _ (List.mem_append_left _ (List.mem_append_left _ (List.mem_append_right _ h)))) (by decide +kernel))) (goodIn_sub (fun _ h => List.mem_cons_of_mem _ (List.mem_append_right _ h)) (by decide +kernel))) (goodIn_sub (fun _ h => List.mem_cons_of_mem _ (List.mem_append_left _ (List.mem_append_right _ h))) (by decide +kernel))
set_option maxRecDepth 20000 in
theorem gL_aqueduct_X2_setSluice : GoodIn wsL_aqueduct (wsV RL 33 RX2 yX2_setSluice wsX2_setSluice) := goodIn_app (goodIn_of _ (by decide +kernel)) ggL_aqueduct_X2_setSluice
set_option maxRecDepth 20000 in
theorem ggL_aqueduct_X2_quake : GoodIn wsL_aqueduct wsX2_quake := goodIn_ca (goodIn_ca (goodIn_r _ [102, 17, 103, 71, 72, 73, 3, 74, 49, 75, 76, 77, 78, 79, 56, 57, 58, 59, 60, 80, 81, 82, 16, 83, 27, 104, 105, 106, 30, 107, 108, 109, 110, 6, 111, 136, 137, 151, 152, 153, 154, 155, 156, 157, 158, 159, 160, 138, 139, 140, 141, 142, 143, 144, 145, 146, 147, 148, 149, 150] (by decide +kernel) (by decide +kernel)) (goodIn_sub (fun _ h => List.mem_cons_of_mem _ (List.mem_append_right _ h)) (by decide +kernel))) (goodIn_sub (fun _ h => List.mem_cons_of_mem _ (List.mem_append_left _ (List.mem_append_right _ h))) (by decide +kernel))
set_option maxRecDepth 20000 in
theorem gL_aqueduct_X2_quake : GoodIn wsL_aqueduct (wsV RL 36 RX2 yX2_quake wsX2_quake) := goodIn_app (goodIn_of _ (by decide +kernel)) ggL_aqueduct_X2_quake
set_option maxRecDepth 20000 in
theorem ggL_aqueduct_X2_setSpring : GoodIn wsL_aqueduct wsX2_setSpring := goodIn_ca (goodIn_ca (goodIn_r _ [115, 17, 116, 117, 118, 3, 119, 75, 76, 77, 78, 79, 56, 57, 58, 59, 60, 136, 137, 138, 139, 140, 141, 142, 143, 144, 145, 146, 147, 148, 149, 150] (by decide +kernel) (by decide +kernel)) (goodIn_sub (fun _ h => List.mem_cons_of_mem _ (List.mem_append_right _ h)) (by decide +kernel))) (goodIn_sub (fun _ h => List.mem_cons_of_mem _ (List.mem_append_left _ (List.mem_append_right _ h))) (by decide +kernel))
set_option maxRecDepth 20000 in
theorem gL_aqueduct_X2_setSpring : GoodIn wsL_aqueduct (wsV RL 39 RX2 yX2_setSpring wsX2_setSpring) := goodIn_app (goodIn_of _ (by decide +kernel)) ggL_aqueduct_X2_setSpring
set_option maxRecDepth 20000 in
theorem ggL_aqueduct_X2_setCity : GoodIn wsL_aqueduct wsX2_setCity := goodIn_ca (goodIn_ca (goodIn_r _ [123, 17, 124, 117, 118, 3, 119, 75, 76, 77, 78, 79, 56, 57, 58, 59, 60, 136, 137, 138, 139, 140, 141, 142, 143, 144, 145, 146, 147, 148, 149, 150] (by decide +kernel) (by decide +kernel)) (goodIn_sub (fun _ h => List.mem_cons_of_mem _ (List.mem_append_right _ h)) (by decide +kernel))) (goodIn_sub (fun _ h => List.mem_cons_of_mem _ (List.mem_append_left _ (List.mem_append_right _ h))) (by decide +kernel))
set_option maxRecDepth 20000 in
theorem gL_aqueduct_X2_setCity : GoodIn wsL_aqueduct (wsV RL 42 RX2 yX2_setCity wsX2_setCity) := goodIn_app (goodIn_of _ (by decide +kernel)) ggL_aqueduct_X2_setCity
set_option maxRecDepth 20000 in
theorem ggL_aqueduct_X2_setCistern : GoodIn wsL_aqueduct wsX2_setCistern := goodIn_ca (goodIn_r _ [128, 17, 56, 57, 3, 58, 59, 60, 129, 130, 131, 16, 132, 133, 134, 5, 6, 7, 28, 135, 136, 137, 138, 139, 140, 141, 142, 143, 144, 145, 146, 147, 148, 149, 150] (by decide +kernel) (by decide +kernel)) (goodIn_sub (fun _ h => List.mem_cons_of_mem _ (List.mem_append_left _ (List.mem_append_right _ h))) (by decide +kernel))
set_option maxRecDepth 20000 in
theorem gL_aqueduct_X2_setCistern : GoodIn wsL_aqueduct (wsV RL 45 RX2 yX2_setCistern wsX2_setCistern) := goodIn_app (goodIn_of _ (by decide +kernel)) ggL_aqueduct_X2_setCistern
set_option maxRecDepth 20000 in
theorem ggL_law_L_aqueduct : GoodIn wsL_law wsL_aqueduct := goodIn_ca (goodIn_ca (goodIn_ca (goodIn_r _ [7, 8, 9, 10, 0, 1, 2, 3, 11, 12, 13, 14, 15, 16, 17, 18, 19, 20, 21, 22, 23, 24, 25, 26, 27, 28, 29, 30, 31, 32, 33, 34, 35, 36, 37, 38, 6, 39, 40, 41, 42, 43, 44, 45, 46, 47, 48, 49, 50, 51, 52, 53, 54, 55, 56, 57, 58, 59, 60, 61, 62, 63, 64, 65, 66, 67, 68, 69, 70, 71, 72, 73, 74, 75, 76, 77, 78, 79, 80, 81, 82, 83, 84, 85, 86, 87, 88, 89, 90, 91, 92, 93, 94, 95, 96, 97, 98, 99, 100, 101, 102, 103, 104, 105, 106, 107, 108, 109, 110, 111, 112, 113, 114, 115, 116, 117, 118, 119, 120, 121, 122, 123, 124, 125, 126, 127, 128, 129, 130, 131, 132, 133, 134, 135, 136, 137, 330, 331, 332, 333, 334, 335, 336, 337, 338, 339, 340, 341, 342, 343, 344, 345, 346, 347, 348, 349, 350, 351, 352, 353, 354] (by decide +kernel) (by decide +kernel)) (goodIn_sub (fun _ h => List.mem_append_left _ (List.mem_append_left _ (List.mem_append_right _ h))) (by decide +kernel))) (goodIn_sub (fun _ h => List.mem_append_left _ (List.mem_append_right _ h)) (by decide +kernel))) (goodIn_sub (fun _ h => List.mem_append_right _ h) (by decide +kernel))
set_option maxRecDepth 20000 in
theorem gL_law_L_aqueduct : GoodIn wsL_law (va_wsS RL 49 yL_aqueduct wsL_aqueduct) := goodIn_app (goodIn_of _ (by decide +kernel)) ggL_law_L_aqueduct
set_option maxRecDepth 20000 in
theorem ggL_law_X2_count : GoodIn wsL_law wsX2_count := goodIn_ca (goodIn_r _ [141, 20, 77, 78, 10, 79, 80, 81, 142, 143, 144, 19, 145, 146, 56, 147, 135, 148, 137, 149, 150, 151, 152, 92, 93, 94, 30, 95, 87, 88, 33, 89, 90, 153, 154, 155, 156, 157, 158, 159, 160, 161, 162, 330, 331, 332, 333, 334, 335, 336, 337, 338, 339, 340, 341, 342, 343, 344, 345, 346, 347, 348, 349, 350, 351, 352, 353, 354] (by decide +kernel) (by decide +kernel)) (goodIn_sub (fun _ h => List.mem_append_right _ h) (by decide +kernel))
set_option maxRecDepth 20000 in
theorem gL_law_X2_count : GoodIn wsL_law (wsV RL 53 RX2 yX2_count wsX2_count) := goodIn_app (goodIn_of _ (by decide +kernel)) ggL_law_X2_count
set_option maxRecDepth 20000 in
theorem ggL_law_L_cell : GoodIn wsL_law wsL_cell := goodIn_r _ [39, 40] (by decide +kernel) (by decide +kernel)
set_option maxRecDepth 20000 in
theorem gL_law_L_cell : GoodIn wsL_law (va_wsS RL 12 yL_cell wsL_cell) := goodIn_app (goodIn_of _ (by decide +kernel)) ggL_law_L_cell
set_option maxRecDepth 20000 in
theorem ggL_law_L_below : GoodIn wsL_law wsL_below := goodIn_r _ [43, 44] (by decide +kernel) (by decide +kernel)
set_option maxRecDepth 20000 in
theorem gL_law_L_below : GoodIn wsL_law (va_wsS RL 18 yL_below wsL_below) := goodIn_app (goodIn_of _ (by decide +kernel)) ggL_law_L_below
set_option maxRecDepth 20000 in
theorem ggL_law_X2_arch : GoodIn wsL_law wsX2_arch := goodIn_ca (goodIn_r _ [166, 20, 73, 74, 75, 10, 76, 51, 77, 78, 79, 80, 81, 167, 168, 169, 19, 170, 30, 57, 67, 157, 171, 172, 162, 173, 174, 175, 176, 56, 177, 178, 179, 180, 181, 112, 2, 113, 95, 87, 88, 33, 89, 90, 330, 331, 332, 333, 334, 335, 336, 337, 338, 339, 340, 341, 342, 343, 344, 345, 346, 347, 348, 349, 350, 351, 352, 353, 354] (by decide +kernel) (by decide +kernel)) (goodIn_sub (fun _ h => List.mem_append_right _ h) (by decide +kernel))
set_option maxRecDepth 20000 in
theorem gL_law_X2_arch : GoodIn wsL_law (wsV RL 56 RX2 yX2_arch wsX2_arch) := goodIn_app (goodIn_of _ (by decide +kernel)) ggL_law_X2_arch
set_option maxRecDepth 20000 in
theorem ggL_law_X2_setSluice : GoodIn wsL_law wsX2_setSluice := goodIn_ca (goodIn_ca (goodIn_ca (goodIn_r _ [99, 49, 50, 20, 100, 73, 74, 75, 10, 76, 51, 77, 78, 79, 80, 81, 58, 59, 60, 61, 62, 82, 83, 84, 19, 85, 30, 86, 87, 88, 33, 89, 90, 330, 331, 345, 346, 347, 348, 349, 350, 351, 352, 353, 354, 332, 333, 334, 335, 336, 337, 338, 339, 340, 341, 342, 343, 344] (by decide +kernel) (by decide +kernel)) (goodIn_sub (fun _ h => List.mem_append_left _ (List.mem_append_left _ (List.mem_append_right _ h))) (by decide +kernel))) (goodIn_sub (fun _ h => List.mem_append_right _ h) (by decide +kernel))) (goodIn_sub (fun _ h => List.mem_append_left _ (List.mem_append_right _ h)) (by decide +kernel))
set_option maxRecDepth 20000 in
theorem gL_law_X2_setSluice : GoodIn wsL_law (wsV RL 33 RX2 yX2_setSluice wsX2_setSluice) := goodIn_app (goodIn_of _ (by decide +kernel)) ggL_law_X2_setSluice
set_option maxRecDepth 20000 in
theorem ggL_law_X2_quake : GoodIn wsL_law wsX2_quake := goodIn_ca (goodIn_ca (goodIn_r _ [104, 20, 105, 73, 74, 75, 10, 76, 51, 77, 78, 79, 80, 81, 58, 59, 60, 61, 62, 82, 83, 84, 19, 85, 30, 106, 107, 108, 33, 109, 110, 111, 112, 2, 113, 330, 331, 345, 346, 347, 348, 349, 350, 351, 352, 353, 354, 332, 333, 334, 335, 336, 337, 338, 339, 340, 341, 342, 343, 344] (by decide +kernel) (by decide +kernel)) (goodIn_sub (fun _ h => List.mem_append_right _ h) (by decide +kernel))) (goodIn_sub (fun _ h => List.mem_append_left _ (List.mem_append_right _ h)) (by decide +kernel))
set_option maxRecDepth 20000 in
theorem gL_law_X2_quake : GoodIn wsL_law (wsV RL 36 RX2 yX2_quake wsX2_quake) := goodIn_app (goodIn_of _ (by decide +kernel)) ggL_law_X2_quake
set_option maxRecDepth 20000 in
theorem ggL_law_X2_mend : GoodIn wsL_law wsX2_mend := goodIn_ca (goodIn_ca (goodIn_r _ [185, 49, 50, 20, 186, 105, 187, 1, 2, 3, 188, 73, 74, 75, 10, 76, 51, 77, 78, 79, 80, 81, 82, 83, 84, 19, 85, 30, 330, 331, 332, 333, 334, 335, 336, 337, 338, 339, 340, 341, 342, 343, 344, 345, 346, 347, 348, 349, 350, 351, 352, 353, 354] (by decide +kernel) (by decide +kernel)) (goodIn_sub (fun _ h => List.mem_append_left _ (List.mem_append_left _ (List.mem_append_right _ h))) (by decide +kernel))) (goodIn_sub (fun _ h => List.mem_append_right _ h) (by decide +kernel))
set_option maxRecDepth 20000 in
theorem gL_law_X2_mend : GoodIn wsL_law (wsV RL 59 RX2 yX2_mend wsX2_mend) := goodIn_app (goodIn_of _ (by decide +kernel)) ggL_law_X2_mend
set_option maxRecDepth 20000 in
theorem ggL_law_X2_setCistern : GoodIn wsL_law wsX2_setCistern := goodIn_ca (goodIn_r _ [130, 20, 58, 59, 10, 60, 61, 62, 131, 132, 133, 19, 134, 135, 136, 1, 2, 3, 31, 137, 330, 331, 332, 333, 334, 335, 336, 337, 338, 339, 340, 341, 342, 343, 344] (by decide +kernel) (by decide +kernel)) (goodIn_sub (fun _ h => List.mem_append_left _ (List.mem_append_right _ h)) (by decide +kernel))
set_option maxRecDepth 20000 in
theorem gL_law_X2_setCistern : GoodIn wsL_law (wsV RL 45 RX2 yX2_setCistern wsX2_setCistern) := goodIn_app (goodIn_of _ (by decide +kernel)) ggL_law_X2_setCistern
set_option maxRecDepth 20000 in
theorem ggL_law_X2_setSpring : GoodIn wsL_law wsX2_setSpring := goodIn_ca (goodIn_ca (goodIn_r _ [117, 20, 118, 119, 120, 10, 121, 77, 78, 79, 80, 81, 58, 59, 60, 61, 62, 330, 331, 332, 333, 334, 335, 336, 337, 338, 339, 340, 341, 342, 343, 344] (by decide +kernel) (by decide +kernel)) (goodIn_sub (fun _ h => List.mem_append_right _ h) (by decide +kernel))) (goodIn_sub (fun _ h => List.mem_append_left _ (List.mem_append_right _ h)) (by decide +kernel))
set_option maxRecDepth 20000 in
theorem gL_law_X2_setSpring : GoodIn wsL_law (wsV RL 39 RX2 yX2_setSpring wsX2_setSpring) := goodIn_app (goodIn_of _ (by decide +kernel)) ggL_law_X2_setSpring
set_option maxRecDepth 20000 in
theorem ggL_law_X2_digest : GoodIn wsL_law wsX2_digest := goodIn_r _ [192, 193, 194, 20, 118, 126, 51, 142, 143, 144, 19, 145, 146, 56, 147, 135, 148, 137, 149, 150, 151, 152, 92, 93, 94, 30, 95, 87, 88, 33, 89, 90, 153, 154, 155, 156, 157, 158, 159, 160, 161, 162, 195, 196, 197, 10, 198, 167, 168, 169, 170, 57, 67, 171, 172, 173, 174, 175, 176, 177, 178, 179, 180, 181, 112, 2, 113, 82, 83, 84, 85, 199, 200, 201, 202, 203, 204, 205, 206, 330, 331, 332, 333, 334, 335, 336, 337, 338, 339, 340, 341, 342, 343, 344, 345, 346, 347, 348, 349, 350, 351, 352, 353, 354] (by decide +kernel) (by decide +kernel)
set_option maxRecDepth 20000 in
theorem gL_law_X2_digest : GoodIn wsL_law (wsV RL 62 RX2 yX2_digest wsX2_digest) := goodIn_app (goodIn_of _ (by decide +kernel)) ggL_law_X2_digest
set_option maxRecDepth 20000 in
theorem ggL_law_X2_foresee : GoodIn wsL_law wsX2_foresee := goodIn_ca (goodIn_ca (goodIn_r _ [210, 21, 20, 211, 212, 58, 59, 10, 60, 61, 62, 77, 78, 79, 80, 81, 213, 214, 215, 19, 216, 27, 217, 218, 219, 220, 28, 56, 30, 146, 147, 31, 135, 148, 137, 149, 150, 151, 221, 222, 223, 33, 224, 225, 226, 227, 110, 228, 229, 90, 203, 204, 205, 230, 231, 232, 233, 234, 235, 236, 237, 238, 239, 240, 241, 242, 243, 244, 245, 181, 112, 2, 113, 246, 247, 248, 249, 157, 177, 178, 179, 180, 173, 174, 175, 176, 57, 250, 251, 252, 253, 111, 254, 255, 256, 257, 258, 259, 260, 261, 262, 263, 264, 265, 266, 267, 268, 269, 270, 271, 272, 273, 274, 275, 276, 277, 278, 279, 280, 281, 282, 283, 284, 285, 286, 287, 288, 289, 290, 206, 87, 88, 89, 291, 107, 108, 109, 292, 159, 160, 161, 162, 293, 294, 295, 296, 297, 330, 331, 332, 333, 334, 335, 336, 337, 338, 339, 340, 341, 342, 343, 344, 345, 346, 347, 348, 349, 350, 351, 352, 353, 354] (by decide +kernel) (by decide +kernel)) (goodIn_sub (fun _ h => List.mem_append_left _ (List.mem_append_right _ h)) (by decide +kernel))) (goodIn_sub (fun _ h => List.mem_append_right _ h) (by decide +kernel))
set_option maxRecDepth 20000 in
theorem gL_law_X2_foresee : GoodIn wsL_law (wsV RL 66 RX2 yX2_foresee wsX2_foresee) := goodIn_app (goodIn_of _ (by decide +kernel)) ggL_law_X2_foresee
set_option maxRecDepth 20000 in
theorem ggL_law_X2_advise : GoodIn wsL_law wsX2_advise := goodIn_ca (goodIn_r _ [301, 20, 51, 58, 59, 10, 60, 61, 62, 302, 303, 304, 305, 21, 100, 211, 213, 214, 215, 19, 216, 27, 217, 218, 219, 220, 28, 56, 30, 146, 147, 31, 135, 148, 137, 149, 150, 151, 221, 222, 223, 33, 224, 225, 226, 227, 110, 228, 229, 90, 203, 204, 205, 82, 83, 84, 85, 230, 231, 232, 233, 234, 235, 236, 237, 238, 239, 240, 241, 242, 243, 244, 245, 181, 112, 2, 113, 246, 247, 248, 249, 157, 177, 178, 179, 180, 173, 174, 175, 176, 57, 250, 251, 252, 253, 111, 254, 255, 256, 257, 258, 259, 260, 261, 262, 263, 264, 265, 266, 267, 268, 269, 270, 271, 272, 273, 274, 275, 276, 277, 278, 279, 280, 281, 282, 283, 284, 285, 286, 287, 288, 289, 290, 206, 87, 88, 89, 291, 107, 108, 109, 306, 330, 331, 332, 333, 334, 335, 336, 337, 338, 339, 340, 341, 342, 343, 344, 345, 346, 347, 348, 349, 350, 351, 352, 353, 354] (by decide +kernel) (by decide +kernel)) (goodIn_sub (fun _ h => List.mem_append_left _ (List.mem_append_right _ h)) (by decide +kernel))
set_option maxRecDepth 20000 in
theorem gL_law_X2_advise : GoodIn wsL_law (wsV RL 69 RX2 yX2_advise wsX2_advise) := goodIn_app (goodIn_of _ (by decide +kernel)) ggL_law_X2_advise
set_option maxRecDepth 20000 in
theorem ggL_law_X2_thirsty : GoodIn wsL_law wsX2_thirsty := goodIn_r _ [310, 21, 20, 211, 213, 214, 215, 19, 216, 27, 217, 218, 219, 220, 28, 56, 30, 146, 147, 31, 135, 148, 137, 149, 150, 151, 221, 222, 223, 33, 224, 225, 226, 227, 110, 228, 229, 90, 203, 204, 205, 230, 231, 232, 233, 234, 235, 236, 237, 238, 239, 240, 241, 242, 243, 244, 245, 181, 112, 2, 113, 246, 247, 248, 249, 157, 177, 178, 179, 180, 173, 174, 175, 176, 57, 250, 251, 252, 253, 111, 254, 255, 256, 257, 258, 259, 260, 261, 262, 263, 264, 265, 266, 267, 268, 269, 270, 271, 272, 273, 274, 275, 276, 277, 278, 279, 280, 281, 282, 283, 284, 285, 286, 287, 288, 289, 290, 206, 87, 88, 89, 291, 107, 108, 109, 330, 331, 332, 333, 334, 335, 336, 337, 338, 339, 340, 341, 342, 343, 344, 345, 346, 347, 348, 349, 350, 351, 352, 353, 354] (by decide +kernel) (by decide +kernel)
set_option maxRecDepth 20000 in
theorem gL_law_X2_thirsty : GoodIn wsL_law (wsV RL 72 RX2 yX2_thirsty wsX2_thirsty) := goodIn_app (goodIn_of _ (by decide +kernel)) ggL_law_X2_thirsty
set_option maxRecDepth 20000 in
theorem ggL_law_X2_worst : GoodIn wsL_law wsX2_worst := goodIn_r _ [314, 20, 51, 315, 82, 83, 84, 19, 85, 30, 330, 331, 332, 333, 334, 335, 336, 337, 338, 339, 340, 341, 342, 343, 344, 345, 346, 347, 348, 349, 350, 351, 352, 353, 354] (by decide +kernel) (by decide +kernel)
set_option maxRecDepth 20000 in
theorem gL_law_X2_worst : GoodIn wsL_law (wsV RL 76 RX2 yX2_worst wsX2_worst) := goodIn_app (goodIn_of _ (by decide +kernel)) ggL_law_X2_worst
set_option maxRecDepth 20000 in
theorem ggL_law_X2_pass : GoodIn wsL_law wsX2_pass := goodIn_ca (goodIn_r _ [319, 20, 211, 58, 59, 10, 60, 61, 62, 230, 231, 232, 19, 233, 234, 235, 236, 237, 146, 28, 56, 27, 30, 238, 239, 240, 241, 242, 243, 244, 245, 135, 181, 112, 2, 113, 150, 151, 246, 247, 248, 249, 157, 177, 178, 179, 180, 173, 174, 175, 176, 57, 250, 251, 252, 33, 253, 203, 90, 111, 205, 227, 254, 255, 256, 257, 31, 258, 259, 260, 261, 226, 262, 263, 264, 265, 266, 147, 137, 149, 267, 268, 269, 270, 204, 271, 272, 273, 274, 148, 275, 276, 277, 278, 228, 110, 229, 279, 280, 281, 282, 283, 284, 285, 286, 287, 288, 289, 290, 206, 87, 88, 89, 291, 107, 108, 109, 330, 331, 332, 333, 334, 335, 336, 337, 338, 339, 340, 341, 342, 343, 344, 345, 346, 347, 348, 349, 350, 351, 352, 353, 354] (by decide +kernel) (by decide +kernel)) (goodIn_sub (fun _ h => List.mem_append_left _ (List.mem_append_right _ h)) (by decide +kernel))
set_option maxRecDepth 20000 in
theorem gL_law_X2_pass : GoodIn wsL_law (wsV RL 79 RX2 yX2_pass wsX2_pass) := goodIn_app (goodIn_of _ (by decide +kernel)) ggL_law_X2_pass
set_option maxRecDepth 20000 in
theorem ggL_law_X2_mill : GoodIn wsL_law wsX2_mill := goodIn_ca (goodIn_r _ [323, 20, 73, 74, 75, 10, 76, 51, 77, 78, 79, 80, 81, 82, 83, 84, 19, 85, 30, 199, 200, 201, 33, 202, 90, 203, 204, 205, 206, 87, 88, 89, 330, 331, 332, 333, 334, 335, 336, 337, 338, 339, 340, 341, 342, 343, 344, 345, 346, 347, 348, 349, 350, 351, 352, 353, 354] (by decide +kernel) (by decide +kernel)) (goodIn_sub (fun _ h => List.mem_append_right _ h) (by decide +kernel))
set_option maxRecDepth 20000 in
theorem gL_law_X2_mill : GoodIn wsL_law (wsV RL 82 RX2 yX2_mill wsX2_mill) := goodIn_app (goodIn_of _ (by decide +kernel)) ggL_law_X2_mill
set_option maxRecDepth 20000 in
theorem ggL_law_X2_reaches : GoodIn wsL_law wsX2_reaches := goodIn_r _ [327, 20, 328, 329, 330, 331, 332, 333, 334, 335, 336, 337, 338, 339, 340, 341, 342, 343, 344] (by decide +kernel) (by decide +kernel)
set_option maxRecDepth 20000 in
theorem gL_law_X2_reaches : GoodIn wsL_law (wsV RL 85 RX2 yX2_reaches wsX2_reaches) := goodIn_app (goodIn_of _ (by decide +kernel)) ggL_law_X2_reaches
