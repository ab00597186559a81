set_option maxRecDepth 20000 in
theorem ggL_law_X6_init : GoodIn wsL_law wsX6_init := goodIn_r _ [10, 11, 12, 13, 14, 15, 16, 17, 18, 19, 20, 21, 22, 23, 24, 25, 26, 27, 28, 29, 30, 31, 32, 33, 34, 35, 36, 37, 38, 39, 40, 41, 42, 43, 44, 45, 46, 47, 48, 49, 50, 51, 52, 53, 54, 55, 56, 57, 58, 59, 60, 61, 62, 63, 64, 65, 66, 646, 658, 659, 660, 661, 662, 663, 664, 665, 666, 667, 668, 669, 670, 671, 672] (by decide +kernel) (by decide +kernel)
set_option maxRecDepth 20000 in
theorem gL_law_X6_init : GoodIn wsL_law (wsX6_init) := ggL_law_X6_init
set_option maxRecDepth 20000 in
theorem ggL_law_X7_init : GoodIn wsL_law wsX7_init := goodIn_r _ [69, 70, 12, 13, 46, 71, 72, 73, 74, 75, 76, 77, 78, 79, 80, 647, 648, 649, 650, 651, 652, 653, 654, 655, 656, 657] (by decide +kernel) (by decide +kernel)
set_option maxRecDepth 20000 in
theorem gL_law_X7_init : GoodIn wsL_law (wsX7_init) := ggL_law_X7_init
set_option maxRecDepth 20000 in
theorem ggL_law_L_begin : GoodIn wsL_law wsL_begin := goodIn_ca (goodIn_ca (goodIn_r _ [84, 85, 86, 87, 88, 89, 2, 90, 91, 92, 93, 94, 95, 96, 15, 97, 98, 99, 100, 101, 102, 103, 104, 27, 105, 106, 107, 108, 109, 17, 110, 33, 24, 28, 32, 111, 112, 113, 23, 114, 115, 116, 117, 118, 40, 41, 42, 119, 120, 121, 39, 122, 123, 124, 125, 126, 127, 52, 53, 128, 129, 130, 131, 31, 132, 60, 61, 133, 134, 135, 59, 136, 66, 137, 658, 659, 660, 661, 646, 665, 666, 667, 662, 663, 664, 670, 671, 668, 669, 672] (by decide +kernel) (by decide +kernel)) (goodIn_sub (fun _ h => List.mem_append_left _ (List.mem_append_left _ (List.mem_append_right _ h))) (by decide +kernel))) (goodIn_sub (fun _ h => List.mem_append_left _ (List.mem_append_right _ h)) (by decide +kernel))
set_option maxRecDepth 20000 in
theorem gL_law_L_begin : GoodIn wsL_law (va_wsS RL 89 yL_begin wsL_begin) := goodIn_app (goodIn_of _ (by decide +kernel)) ggL_law_L_begin
set_option maxRecDepth 20000 in
theorem ggL_law_X7_begin : GoodIn wsL_law wsX7_begin := goodIn_r _ [141, 72, 71, 73, 142, 143, 5, 144, 145, 146, 147, 148, 149, 150, 151, 152, 647, 648, 649, 650, 651, 652, 653, 654, 655, 656, 657] (by decide +kernel) (by decide +kernel)
set_option maxRecDepth 20000 in
theorem gL_law_X7_begin : GoodIn wsL_law (wsV RL 94 RX7 yX7_begin wsX7_begin) := goodIn_app (goodIn_of _ (by decide +kernel)) ggL_law_X7_begin
set_option maxRecDepth 20000 in
theorem ggL_law_X7_thrown : GoodIn wsL_law wsX7_thrown := goodIn_r _ [156, 152, 647, 648, 649, 650, 651, 652, 653, 654, 655, 656, 657] (by decide +kernel) (by decide +kernel)
set_option maxRecDepth 20000 in
theorem gL_law_X7_thrown : GoodIn wsL_law (wsV RL 95 RX7 yX7_thrown wsX7_thrown) := goodIn_app (goodIn_of _ (by decide +kernel)) ggL_law_X7_thrown
set_option maxRecDepth 20000 in
theorem ggL_law_L_show : GoodIn wsL_law wsL_show := goodIn_ca (goodIn_ca (goodIn_ca (goodIn_r _ [159, 85, 86, 160, 161, 162, 163, 2, 164, 91, 92, 93, 94, 95, 96, 15, 165, 166, 167, 97, 98, 99, 100, 101, 168, 169, 170, 17, 171, 172, 173, 28, 174, 103, 104, 27, 105, 106, 175, 176, 177, 178, 24, 32, 179, 180, 181, 23, 182, 40, 41, 42, 183, 184, 185, 186, 187, 188, 189, 39, 190, 123, 191, 192, 193, 194, 47, 195, 196, 197, 198, 199, 200, 201, 202, 203, 204, 205, 206, 207, 208, 209, 210, 211, 212, 213, 214, 215, 216, 217, 218, 219, 220, 221, 222, 223, 52, 53, 224, 225, 226, 227, 228, 229, 230, 231, 232, 233, 31, 234, 60, 61, 235, 236, 237, 59, 238, 66, 239, 240, 241, 242, 243, 244, 245, 246, 247, 248, 249, 250, 251, 252, 253, 254, 255, 256, 257, 258, 259, 137, 120, 121, 122, 260, 658, 659, 660, 661, 646, 665, 666, 667, 662, 663, 664, 670, 671, 668, 669, 672] (by decide +kernel) (by decide +kernel)) (goodIn_sub (fun _ h => List.mem_append_left _ (List.mem_append_left _ (List.mem_append_right _ h))) (by decide +kernel))) (goodIn_sub (fun _ h => List.mem_append_left _ (List.mem_append_right _ h)) (by decide +kernel))) (goodIn_sub (fun _ h => List.mem_append_right _ h) (by decide +kernel))
set_option maxRecDepth 20000 in
theorem gL_law_L_show : GoodIn wsL_law (va_wsS RL 99 yL_show wsL_show) := goodIn_app (goodIn_of _ (by decide +kernel)) ggL_law_L_show
set_option maxRecDepth 20000 in
theorem ggL_law_X7_show : GoodIn wsL_law wsX7_show := goodIn_r _ [264, 72, 73, 142, 143, 5, 144, 145, 146, 147, 148, 149, 150, 151, 152, 265, 266, 267, 268, 75, 76, 77, 269, 270, 271, 272, 74, 647, 648, 649, 650, 651, 652, 653, 654, 655, 656, 657] (by decide +kernel) (by decide +kernel)
set_option maxRecDepth 20000 in
theorem gL_law_X7_show : GoodIn wsL_law (wsV RL 101 RX7 yX7_show wsX7_show) := goodIn_app (goodIn_of _ (by decide +kernel)) ggL_law_X7_show
set_option maxRecDepth 20000 in
theorem ggL_law_L_showRow : GoodIn wsL_law wsL_showRow := goodIn_ca (goodIn_ca (goodIn_ca (goodIn_r _ [275, 85, 86, 160, 276, 277, 278, 2, 279, 91, 92, 93, 94, 95, 96, 15, 165, 166, 167, 97, 98, 99, 100, 101, 168, 169, 170, 17, 171, 172, 173, 28, 174, 103, 104, 27, 105, 106, 175, 176, 177, 178, 24, 32, 179, 180, 181, 23, 182, 40, 41, 42, 183, 184, 185, 186, 187, 188, 189, 39, 190, 123, 191, 192, 193, 194, 47, 195, 196, 197, 198, 199, 200, 201, 202, 203, 204, 205, 206, 207, 208, 209, 210, 211, 212, 213, 214, 215, 216, 217, 218, 219, 220, 221, 222, 223, 52, 53, 224, 225, 226, 227, 228, 229, 230, 231, 232, 233, 31, 234, 60, 61, 235, 236, 237, 59, 238, 66, 239, 240, 241, 242, 243, 244, 245, 246, 247, 248, 249, 250, 251, 252, 253, 254, 255, 256, 257, 258, 259, 137, 120, 121, 122, 260, 658, 659, 660, 661, 646, 665, 666, 667, 662, 663, 664, 670, 671, 668, 669, 672] (by decide +kernel) (by decide +kernel)) (goodIn_sub (fun _ h => List.mem_append_left _ (List.mem_append_left _ (List.mem_append_right _ h))) (by decide +kernel))) (goodIn_sub (fun _ h => List.mem_append_left _ (List.mem_append_right _ h)) (by decide +kernel))) (goodIn_sub (fun _ h => List.mem_append_right _ h) (by decide +kernel))
set_option maxRecDepth 20000 in
theorem gL_law_L_showRow : GoodIn wsL_law (va_wsS RL 102 yL_showRow wsL_showRow) := goodIn_app (goodIn_of _ (by decide +kernel)) ggL_law_L_showRow
set_option maxRecDepth 20000 in
theorem ggL_law_X7_showRow : GoodIn wsL_law wsX7_showRow := goodIn_r _ [283, 72, 73, 145, 146, 5, 147, 142, 143, 144, 148, 149, 150, 151, 152, 265, 266, 267, 268, 75, 76, 77, 269, 270, 271, 272, 74, 647, 648, 649, 650, 651, 652, 653, 654, 655, 656, 657] (by decide +kernel) (by decide +kernel)
set_option maxRecDepth 20000 in
theorem gL_law_X7_showRow : GoodIn wsL_law (wsV RL 105 RX7 yX7_showRow wsX7_showRow) := goodIn_app (goodIn_of _ (by decide +kernel)) ggL_law_X7_showRow
set_option maxRecDepth 20000 in
theorem ggL_law_L_thinOut : GoodIn wsL_law wsL_thinOut := goodIn_ca (goodIn_r _ [286, 85, 287, 288, 289, 2, 290, 91, 92, 93, 94, 95, 96, 15, 260, 200, 201, 23, 202, 40, 203, 204, 205, 39, 206, 123, 291, 292, 293, 17, 294, 33, 28, 174, 103, 104, 27, 105, 106, 295, 296, 297, 298, 41, 199, 211, 192, 193, 194, 47, 195, 196, 197, 198, 207, 208, 209, 210, 42, 299, 227, 228, 229, 300, 301, 302, 303, 304, 305, 306, 307, 115, 116, 117, 118, 119, 120, 121, 122, 658, 659, 660, 661, 646, 662, 663, 664, 670, 671, 665, 666, 667] (by decide +kernel) (by decide +kernel)) (goodIn_sub (fun _ h => List.mem_append_left _ (List.mem_append_left _ (List.mem_append_right _ h))) (by decide +kernel))
set_option maxRecDepth 20000 in
theorem gL_law_L_thinOut : GoodIn wsL_law (va_wsS RL 106 yL_thinOut wsL_thinOut) := goodIn_app (goodIn_of _ (by decide +kernel)) ggL_law_L_thinOut
set_option maxRecDepth 20000 in
theorem ggL_law_X7_thinOut : GoodIn wsL_law wsX7_thinOut := goodIn_r _ [311, 73, 77, 76, 75, 312, 313, 314, 5, 315, 142, 143, 144, 145, 146, 147, 148, 149, 150, 151, 152, 316, 317, 318, 319, 71, 72, 647, 648, 649, 650, 651, 652, 653, 654, 655, 656, 657] (by decide +kernel) (by decide +kernel)
set_option maxRecDepth 20000 in
theorem gL_law_X7_thinOut : GoodIn wsL_law (wsV RL 109 RX7 yX7_thinOut wsX7_thinOut) := goodIn_app (goodIn_of _ (by decide +kernel)) ggL_law_X7_thinOut
set_option maxRecDepth 20000 in
theorem ggL_law_L_pour : GoodIn wsL_law wsL_pour := goodIn_ca (goodIn_ca (goodIn_ca (goodIn_r _ [322, 85, 86, 160, 323, 324, 325, 2, 326, 100, 101, 91, 92, 93, 94, 95, 96, 15, 102, 103, 104, 27, 105, 106, 168, 169, 170, 17, 171, 172, 173, 28, 174, 327, 328, 329, 330, 33, 331, 332, 333, 334, 24, 32, 335, 336, 337, 23, 338, 42, 40, 41, 199, 200, 201, 202, 203, 204, 205, 39, 206, 123, 211, 192, 193, 194, 47, 195, 196, 197, 198, 339, 340, 341, 342, 343, 344, 345, 346, 304, 305, 306, 307, 299, 227, 228, 229, 207, 208, 209, 210, 347, 348, 349, 350, 52, 351, 352, 353, 354, 355, 225, 356, 357, 358, 359, 53, 220, 221, 222, 223, 224, 188, 189, 190, 191, 226, 230, 213, 214, 215, 216, 217, 218, 219, 231, 232, 233, 31, 234, 60, 61, 235, 236, 237, 59, 238, 66, 239, 240, 241, 242, 243, 244, 245, 246, 247, 248, 249, 250, 251, 252, 253, 254, 255, 256, 257, 258, 259, 137, 120, 121, 122, 658, 659, 660, 661, 646, 665, 666, 667, 662, 663, 664, 670, 671, 668, 669, 672] (by decide +kernel) (by decide +kernel)) (goodIn_sub (fun _ h => List.mem_append_left _ (List.mem_append_right _ h)) (by decide +kernel))) (goodIn_sub (fun _ h => List.mem_append_left _ (List.mem_append_left _ (List.mem_append_right _ h))) (by decide +kernel))) (goodIn_sub (fun _ h => List.mem_append_right _ h) (by decide +kernel))
set_option maxRecDepth 20000 in
theorem gL_law_L_pour : GoodIn wsL_law (va_wsS RL 110 yL_pour wsL_pour) := goodIn_app (goodIn_of _ (by decide +kernel)) ggL_law_L_pour
set_option maxRecDepth 20000 in
theorem ggL_law_X7_pour : GoodIn wsL_law wsX7_pour := goodIn_r _ [363, 72, 73, 75, 78, 76, 79, 77, 80, 74, 71, 142, 143, 5, 144, 145, 146, 147, 148, 149, 150, 151, 152, 364, 365, 366, 367, 269, 270, 271, 272, 647, 648, 649, 650, 651, 652, 653, 654, 655, 656, 657] (by decide +kernel) (by decide +kernel)
set_option maxRecDepth 20000 in
theorem gL_law_X7_pour : GoodIn wsL_law (wsV RL 112 RX7 yX7_pour wsX7_pour) := goodIn_app (goodIn_of _ (by decide +kernel)) ggL_law_X7_pour
set_option maxRecDepth 20000 in
theorem ggL_law_L_count : GoodIn wsL_law wsL_count := goodIn_ca (goodIn_r _ [370, 85, 371, 372, 373, 2, 374, 91, 92, 93, 94, 95, 96, 15, 102, 103, 104, 27, 105, 106, 658, 659, 660, 661, 646, 665, 666, 667] (by decide +kernel) (by decide +kernel)) (goodIn_sub (fun _ h => List.mem_append_left _ (List.mem_append_left _ (List.mem_append_right _ h))) (by decide +kernel))
set_option maxRecDepth 20000 in
theorem gL_law_L_count : GoodIn wsL_law (va_wsS RL 113 yL_count wsL_count) := goodIn_app (goodIn_of _ (by decide +kernel)) ggL_law_L_count
set_option maxRecDepth 20000 in
theorem ggL_law_X7_count : GoodIn wsL_law wsX7_count := goodIn_r _ [378, 72, 312, 313, 314, 5, 315, 142, 143, 144, 145, 146, 147, 148, 149, 150, 151, 152, 647, 648, 649, 650, 651, 652, 653, 654, 655, 656, 657] (by decide +kernel) (by decide +kernel)
set_option maxRecDepth 20000 in
theorem gL_law_X7_count : GoodIn wsL_law (wsV RL 115 RX7 yX7_count wsX7_count) := goodIn_app (goodIn_of _ (by decide +kernel)) ggL_law_X7_count
set_option maxRecDepth 20000 in
theorem ggL_law_L_bound : GoodIn wsL_law wsL_bound := goodIn_ca (goodIn_r _ [381, 85, 382, 383, 384, 2, 385, 91, 92, 93, 94, 95, 96, 15, 658, 659, 660, 661, 646] (by decide +kernel) (by decide +kernel)) (goodIn_sub (fun _ h => List.mem_append_left _ (List.mem_append_left _ (List.mem_append_right _ h))) (by decide +kernel))
set_option maxRecDepth 20000 in
theorem gL_law_L_bound : GoodIn wsL_law (va_wsS RL 116 yL_bound wsL_bound) := goodIn_app (goodIn_of _ (by decide +kernel)) ggL_law_L_bound
set_option maxRecDepth 20000 in
theorem ggL_law_X7_bound : GoodIn wsL_law wsX7_bound := goodIn_r _ [389, 71, 312, 313, 314, 5, 315, 142, 143, 144, 145, 146, 147, 148, 149, 150, 151, 152, 647, 648, 649, 650, 651, 652, 653, 654, 655, 656, 657] (by decide +kernel) (by decide +kernel)
set_option maxRecDepth 20000 in
theorem gL_law_X7_bound : GoodIn wsL_law (wsV RL 118 RX7 yX7_bound wsX7_bound) := goodIn_app (goodIn_of _ (by decide +kernel)) ggL_law_X7_bound
set_option maxRecDepth 20000 in
theorem ggL_law_L_allowance : GoodIn wsL_law wsL_allowance := goodIn_ca (goodIn_r _ [392, 85, 393, 394, 395, 2, 396, 91, 92, 93, 94, 95, 96, 15, 291, 292, 293, 17, 294, 33, 28, 174, 103, 104, 27, 105, 106, 646, 658, 659, 660, 661, 665, 666, 667] (by decide +kernel) (by decide +kernel)) (goodIn_sub (fun _ h => List.mem_append_left _ (List.mem_append_left _ (List.mem_append_right _ h))) (by decide +kernel))
set_option maxRecDepth 20000 in
theorem gL_law_L_allowance : GoodIn wsL_law (va_wsS RL 119 yL_allowance wsL_allowance) := goodIn_app (goodIn_of _ (by decide +kernel)) ggL_law_L_allowance
set_option maxRecDepth 20000 in
theorem ggL_law_X7_allowance : GoodIn wsL_law wsX7_allowance := goodIn_r _ [400, 312, 313, 314, 5, 315, 142, 143, 144, 145, 146, 147, 148, 149, 150, 151, 152, 316, 317, 318, 319, 71, 72, 647, 648, 649, 650, 651, 652, 653, 654, 655, 656, 657] (by decide +kernel) (by decide +kernel)
set_option maxRecDepth 20000 in
theorem gL_law_X7_allowance : GoodIn wsL_law (wsV RL 121 RX7 yX7_allowance wsX7_allowance) := goodIn_app (goodIn_of _ (by decide +kernel)) ggL_law_X7_allowance
set_option maxRecDepth 20000 in
theorem ggL_law_L_marks : GoodIn wsL_law wsL_marks := goodIn_ca (goodIn_r _ [403, 85, 404, 405, 406, 2, 407, 91, 92, 93, 94, 95, 96, 15, 260, 200, 201, 23, 202, 40, 203, 204, 205, 39, 206, 123, 658, 659, 660, 661, 646, 662, 663, 664, 670, 671] (by decide +kernel) (by decide +kernel)) (goodIn_sub (fun _ h => List.mem_append_left _ (List.mem_append_left _ (List.mem_append_right _ h))) (by decide +kernel))
set_option maxRecDepth 20000 in
theorem gL_law_L_marks : GoodIn wsL_law (va_wsS RL 122 yL_marks wsL_marks) := goodIn_app (goodIn_of _ (by decide +kernel)) ggL_law_L_marks
set_option maxRecDepth 20000 in
theorem ggL_law_X7_marks : GoodIn wsL_law wsX7_marks := goodIn_r _ [411, 73, 312, 313, 314, 5, 315, 142, 143, 144, 145, 146, 147, 148, 149, 150, 151, 152, 647, 648, 649, 650, 651, 652, 653, 654, 655, 656, 657] (by decide +kernel) (by decide +kernel)
set_option maxRecDepth 20000 in
theorem gL_law_X7_marks : GoodIn wsL_law (wsV RL 124 RX7 yX7_marks wsX7_marks) := goodIn_app (goodIn_of _ (by decide +kernel)) ggL_law_X7_marks
set_option maxRecDepth 20000 in
theorem ggL_law_L_value : GoodIn wsL_law wsL_value := goodIn_ca (goodIn_r _ [414, 85, 415, 416, 417, 2, 418, 419, 420, 421, 422, 95, 96, 91, 92, 93, 94, 15, 260, 200, 201, 23, 202, 40, 203, 204, 205, 39, 206, 123, 423, 424, 425, 426, 211, 192, 193, 194, 47, 195, 196, 197, 198, 658, 659, 660, 661, 646, 662, 663, 664, 670, 671] (by decide +kernel) (by decide +kernel)) (goodIn_sub (fun _ h => List.mem_append_left _ (List.mem_append_left _ (List.mem_append_right _ h))) (by decide +kernel))
set_option maxRecDepth 20000 in
theorem gL_law_L_value : GoodIn wsL_law (va_wsS RL 125 yL_value wsL_value) := goodIn_app (goodIn_of _ (by decide +kernel)) ggL_law_L_value
set_option maxRecDepth 20000 in
theorem ggL_law_X7_value : GoodIn wsL_law wsX7_value := goodIn_r _ [430, 75, 431, 432, 433, 5, 434, 73, 142, 143, 144, 145, 146, 147, 148, 149, 150, 151, 152, 647, 648, 649, 650, 651, 652, 653, 654, 655, 656, 657] (by decide +kernel) (by decide +kernel)
set_option maxRecDepth 20000 in
theorem gL_law_X7_value : GoodIn wsL_law (wsV RL 127 RX7 yX7_value wsX7_value) := goodIn_app (goodIn_of _ (by decide +kernel)) ggL_law_X7_value
set_option maxRecDepth 20000 in
theorem ggL_law_L_lowestRank : GoodIn wsL_law wsL_lowestRank := goodIn_ca (goodIn_r _ [437, 85, 438, 439, 440, 2, 441, 419, 420, 421, 422, 95, 96, 91, 92, 93, 94, 15, 260, 200, 201, 23, 202, 40, 203, 204, 205, 39, 206, 123, 442, 443, 444, 445, 41, 446, 447, 448, 449, 191, 192, 193, 194, 47, 195, 196, 197, 198, 658, 659, 660, 661, 646, 662, 663, 664, 670, 671] (by decide +kernel) (by decide +kernel)) (goodIn_sub (fun _ h => List.mem_append_left _ (List.mem_append_left _ (List.mem_append_right _ h))) (by decide +kernel))
set_option maxRecDepth 20000 in
theorem gL_law_L_lowestRank : GoodIn wsL_law (va_wsS RL 128 yL_lowestRank wsL_lowestRank) := goodIn_app (goodIn_of _ (by decide +kernel)) ggL_law_L_lowestRank
set_option maxRecDepth 20000 in
theorem ggL_law_X7_lowestRank : GoodIn wsL_law wsX7_lowestRank := goodIn_r _ [453, 76, 431, 432, 433, 5, 434, 73, 142, 143, 144, 145, 146, 147, 148, 149, 150, 151, 152, 647, 648, 649, 650, 651, 652, 653, 654, 655, 656, 657] (by decide +kernel) (by decide +kernel)
set_option maxRecDepth 20000 in
theorem gL_law_X7_lowestRank : GoodIn wsL_law (wsV RL 130 RX7 yX7_lowestRank wsX7_lowestRank) := goodIn_app (goodIn_of _ (by decide +kernel)) ggL_law_X7_lowestRank
set_option maxRecDepth 20000 in
theorem ggL_law_L_highestRank : GoodIn wsL_law wsL_highestRank := goodIn_ca (goodIn_r _ [456, 85, 457, 458, 459, 2, 460, 419, 420, 421, 422, 95, 96, 91, 92, 93, 94, 15, 260, 200, 201, 23, 202, 40, 203, 204, 205, 39, 206, 123, 461, 462, 463, 464, 42, 465, 443, 444, 445, 41, 446, 447, 448, 449, 191, 192, 193, 194, 47, 195, 196, 197, 198, 211, 658, 659, 660, 661, 646, 662, 663, 664, 670, 671] (by decide +kernel) (by decide +kernel)) (goodIn_sub (fun _ h => List.mem_append_left _ (List.mem_append_left _ (List.mem_append_right _ h))) (by decide +kernel))
set_option maxRecDepth 20000 in
theorem gL_law_L_highestRank : GoodIn wsL_law (va_wsS RL 131 yL_highestRank wsL_highestRank) := goodIn_app (goodIn_of _ (by decide +kernel)) ggL_law_L_highestRank
set_option maxRecDepth 20000 in
theorem ggL_law_X7_highestRank : GoodIn wsL_law wsX7_highestRank := goodIn_r _ [469, 77, 431, 432, 433, 5, 434, 73, 142, 143, 144, 145, 146, 147, 148, 149, 150, 151, 152, 647, 648, 649, 650, 651, 652, 653, 654, 655, 656, 657] (by decide +kernel) (by decide +kernel)
set_option maxRecDepth 20000 in
theorem gL_law_X7_highestRank : GoodIn wsL_law (wsV RL 133 RX7 yX7_highestRank wsX7_highestRank) := goodIn_app (goodIn_of _ (by decide +kernel)) ggL_law_X7_highestRank
set_option maxRecDepth 20000 in
theorem ggL_law_L_widest : GoodIn wsL_law wsL_widest := goodIn_ca (goodIn_r _ [472, 85, 473, 474, 475, 2, 476, 91, 92, 93, 94, 95, 96, 15, 477, 478, 479, 23, 480, 481, 332, 333, 334, 199, 200, 201, 202, 40, 203, 204, 205, 39, 206, 123, 207, 208, 209, 210, 41, 42, 211, 192, 193, 194, 47, 195, 196, 197, 198, 658, 659, 660, 661, 646, 662, 663, 664, 670, 671] (by decide +kernel) (by decide +kernel)) (goodIn_sub (fun _ h => List.mem_append_left _ (List.mem_append_left _ (List.mem_append_right _ h))) (by decide +kernel))
set_option maxRecDepth 20000 in
theorem gL_law_L_widest : GoodIn wsL_law (va_wsS RL 134 yL_widest wsL_widest) := goodIn_app (goodIn_of _ (by decide +kernel)) ggL_law_L_widest
set_option maxRecDepth 20000 in
theorem ggL_law_X7_widest : GoodIn wsL_law wsX7_widest := goodIn_r _ [485, 73, 77, 76, 312, 313, 314, 5, 315, 142, 143, 144, 145, 146, 147, 148, 149, 150, 151, 152, 647, 648, 649, 650, 651, 652, 653, 654, 655, 656, 657] (by decide +kernel) (by decide +kernel)
set_option maxRecDepth 20000 in
theorem gL_law_X7_widest : GoodIn wsL_law (wsV RL 136 RX7 yX7_widest wsX7_widest) := goodIn_app (goodIn_of _ (by decide +kernel)) ggL_law_X7_widest
set_option maxRecDepth 20000 in
theorem ggL_law_L_ask : GoodIn wsL_law wsL_ask := goodIn_ca (goodIn_ca (goodIn_ca (goodIn_r _ [488, 85, 86, 160, 489, 490, 491, 2, 492, 493, 494, 495, 496, 91, 92, 93, 94, 95, 96, 15, 97, 98, 99, 100, 101, 497, 498, 499, 17, 500, 172, 173, 28, 174, 103, 104, 27, 105, 106, 501, 502, 503, 504, 331, 332, 333, 334, 505, 506, 507, 23, 508, 41, 42, 481, 509, 510, 511, 512, 465, 443, 444, 445, 446, 447, 448, 39, 449, 123, 191, 192, 193, 194, 47, 195, 196, 197, 198, 513, 462, 463, 464, 211, 199, 200, 201, 202, 40, 203, 204, 205, 206, 423, 424, 425, 426, 658, 659, 660, 661, 646, 665, 666, 667, 662, 663, 664, 670, 671] (by decide +kernel) (by decide +kernel)) (goodIn_sub (fun _ h => List.mem_append_left _ (List.mem_append_left _ (List.mem_append_right _ h))) (by decide +kernel))) (goodIn_sub (fun _ h => List.mem_append_left _ (List.mem_append_right _ h)) (by decide +kernel))) (goodIn_sub (fun _ h => List.mem_append_right _ h) (by decide +kernel))
set_option maxRecDepth 20000 in
theorem gL_law_L_ask : GoodIn wsL_law (va_wsS RL 137 yL_ask wsL_ask) := goodIn_app (goodIn_of _ (by decide +kernel)) ggL_law_L_ask
set_option maxRecDepth 20000 in
theorem ggL_law_X7_ask : GoodIn wsL_law wsX7_ask := goodIn_r _ [517, 75, 518, 519, 520, 5, 521, 72, 142, 143, 144, 145, 146, 147, 148, 149, 150, 151, 152, 522, 523, 524, 525, 526, 527, 528, 529, 73, 530, 531, 532, 533, 76, 77, 647, 648, 649, 650, 651, 652, 653, 654, 655, 656, 657] (by decide +kernel) (by decide +kernel)
set_option maxRecDepth 20000 in
theorem gL_law_X7_ask : GoodIn wsL_law (wsV RL 139 RX7 yX7_ask wsX7_ask) := goodIn_app (goodIn_of _ (by decide +kernel)) ggL_law_X7_ask
set_option maxRecDepth 20000 in
theorem ggL_law_L_off : GoodIn wsL_law wsL_off := goodIn_ca (goodIn_ca (goodIn_ca (goodIn_r _ [536, 85, 86, 160, 537, 538, 539, 2, 540, 493, 494, 495, 496, 91, 92, 93, 94, 95, 96, 15, 97, 98, 99, 100, 101, 497, 498, 499, 17, 500, 172, 173, 28, 174, 103, 104, 27, 105, 106, 501, 502, 503, 504, 331, 332, 333, 334, 505, 506, 507, 23, 508, 41, 42, 481, 509, 510, 511, 512, 465, 443, 444, 445, 446, 447, 448, 39, 449, 123, 191, 192, 193, 194, 47, 195, 196, 197, 198, 513, 462, 463, 464, 211, 199, 200, 201, 202, 40, 203, 204, 205, 206, 541, 658, 659, 660, 661, 646, 665, 666, 667, 662, 663, 664, 670, 671] (by decide +kernel) (by decide +kernel)) (goodIn_sub (fun _ h => List.mem_append_left _ (List.mem_append_left _ (List.mem_append_right _ h))) (by decide +kernel))) (goodIn_sub (fun _ h => List.mem_append_left _ (List.mem_append_right _ h)) (by decide +kernel))) (goodIn_sub (fun _ h => List.mem_append_right _ h) (by decide +kernel))
set_option maxRecDepth 20000 in
theorem gL_law_L_off : GoodIn wsL_law (va_wsS RL 140 yL_off wsL_off) := goodIn_app (goodIn_of _ (by decide +kernel)) ggL_law_L_off
set_option maxRecDepth 20000 in
theorem ggL_law_X7_off : GoodIn wsL_law wsX7_off := goodIn_r _ [545, 518, 519, 520, 5, 521, 72, 142, 143, 144, 145, 146, 147, 148, 149, 150, 151, 152, 522, 523, 524, 525, 526, 527, 528, 529, 73, 530, 531, 532, 533, 76, 77, 647, 648, 649, 650, 651, 652, 653, 654, 655, 656, 657] (by decide +kernel) (by decide +kernel)
set_option maxRecDepth 20000 in
theorem gL_law_X7_off : GoodIn wsL_law (wsV RL 142 RX7 yX7_off wsX7_off) := goodIn_app (goodIn_of _ (by decide +kernel)) ggL_law_X7_off
set_option maxRecDepth 20000 in
theorem ggL_law_L_reallyOff : GoodIn wsL_law wsL_reallyOff := goodIn_ca (goodIn_ca (goodIn_ca (goodIn_r _ [548, 85, 86, 160, 549, 550, 551, 2, 552, 493, 494, 495, 496, 91, 92, 93, 94, 95, 96, 15, 97, 98, 99, 100, 101, 497, 498, 499, 17, 500, 172, 173, 28, 174, 103, 104, 27, 105, 106, 501, 502, 503, 504, 331, 332, 333, 334, 505, 506, 507, 23, 508, 41, 42, 481, 509, 510, 511, 512, 465, 443, 444, 445, 446, 447, 448, 39, 449, 123, 191, 192, 193, 194, 47, 195, 196, 197, 198, 513, 462, 463, 464, 211, 199, 200, 201, 202, 40, 203, 204, 205, 206, 423, 424, 425, 426, 553, 554, 555, 556, 53, 52, 224, 188, 189, 190, 557, 658, 659, 660, 661, 646, 665, 666, 667, 662, 663, 664, 670, 671] (by decide +kernel) (by decide +kernel)) (goodIn_sub (fun _ h => List.mem_append_left _ (List.mem_append_left _ (List.mem_append_right _ h))) (by decide +kernel))) (goodIn_sub (fun _ h => List.mem_append_left _ (List.mem_append_right _ h)) (by decide +kernel))) (goodIn_sub (fun _ h => List.mem_append_right _ h) (by decide +kernel))
set_option maxRecDepth 20000 in
theorem gL_law_L_reallyOff : GoodIn wsL_law (va_wsS RL 143 yL_reallyOff wsL_reallyOff) := goodIn_app (goodIn_of _ (by decide +kernel)) ggL_law_L_reallyOff
set_option maxRecDepth 20000 in
theorem ggL_law_X7_reallyOff : GoodIn wsL_law wsX7_reallyOff := goodIn_r _ [561, 75, 518, 519, 520, 5, 521, 72, 142, 143, 144, 145, 146, 147, 148, 149, 150, 151, 152, 522, 523, 524, 525, 526, 527, 528, 529, 73, 530, 531, 532, 533, 76, 77, 562, 563, 564, 565, 74, 647, 648, 649, 650, 651, 652, 653, 654, 655, 656, 657] (by decide +kernel) (by decide +kernel)
set_option maxRecDepth 20000 in
theorem gL_law_X7_reallyOff : GoodIn wsL_law (wsV RL 145 RX7 yX7_reallyOff wsX7_reallyOff) := goodIn_app (goodIn_of _ (by decide +kernel)) ggL_law_X7_reallyOff
set_option maxRecDepth 20000 in
theorem ggL_law_L_atLeastUpTo : GoodIn wsL_law wsL_atLeastUpTo := goodIn_ca (goodIn_r _ [568, 85, 569, 570, 571, 2, 572, 91, 92, 93, 94, 95, 96, 15, 573, 574, 575, 23, 576, 41, 40, 187, 188, 189, 39, 190, 123, 191, 192, 193, 194, 47, 195, 196, 197, 198, 446, 447, 448, 449, 658, 659, 660, 661, 646, 662, 663, 664, 670, 671] (by decide +kernel) (by decide +kernel)) (goodIn_sub (fun _ h => List.mem_append_left _ (List.mem_append_left _ (List.mem_append_right _ h))) (by decide +kernel))
set_option maxRecDepth 20000 in
theorem gL_law_L_atLeastUpTo : GoodIn wsL_law (va_wsS RL 146 yL_atLeastUpTo wsL_atLeastUpTo) := goodIn_app (goodIn_of _ (by decide +kernel)) ggL_law_L_atLeastUpTo
set_option maxRecDepth 20000 in
theorem ggL_law_X7_atLeastUpTo : GoodIn wsL_law wsX7_atLeastUpTo := goodIn_r _ [580, 73, 75, 76, 312, 313, 314, 5, 315, 142, 143, 144, 145, 146, 147, 148, 149, 150, 151, 152, 647, 648, 649, 650, 651, 652, 653, 654, 655, 656, 657] (by decide +kernel) (by decide +kernel)
set_option maxRecDepth 20000 in
theorem gL_law_X7_atLeastUpTo : GoodIn wsL_law (wsV RL 148 RX7 yX7_atLeastUpTo wsX7_atLeastUpTo) := goodIn_app (goodIn_of _ (by decide +kernel)) ggL_law_X7_atLeastUpTo
set_option maxRecDepth 20000 in
theorem ggL_law_L_atMostUpTo : GoodIn wsL_law wsL_atMostUpTo := goodIn_ca (goodIn_r _ [583, 85, 584, 585, 586, 2, 587, 91, 92, 93, 94, 95, 96, 15, 588, 184, 185, 23, 186, 40, 187, 188, 189, 39, 190, 123, 191, 192, 193, 194, 47, 195, 196, 197, 198, 260, 200, 201, 202, 203, 204, 205, 206, 461, 462, 463, 464, 42, 465, 443, 444, 445, 41, 446, 447, 448, 449, 211, 102, 103, 104, 27, 105, 106, 658, 659, 660, 661, 646, 662, 663, 664, 670, 671, 665, 666, 667] (by decide +kernel) (by decide +kernel)) (goodIn_sub (fun _ h => List.mem_append_left _ (List.mem_append_left _ (List.mem_append_right _ h))) (by decide +kernel))
set_option maxRecDepth 20000 in
theorem gL_law_L_atMostUpTo : GoodIn wsL_law (va_wsS RL 149 yL_atMostUpTo wsL_atMostUpTo) := goodIn_app (goodIn_of _ (by decide +kernel)) ggL_law_L_atMostUpTo
set_option maxRecDepth 20000 in
theorem ggL_law_X7_atMostUpTo : GoodIn wsL_law wsX7_atMostUpTo := goodIn_r _ [592, 72, 73, 75, 77, 312, 313, 314, 5, 315, 142, 143, 144, 145, 146, 147, 148, 149, 150, 151, 152, 647, 648, 649, 650, 651, 652, 653, 654, 655, 656, 657] (by decide +kernel) (by decide +kernel)
set_option maxRecDepth 20000 in
theorem gL_law_X7_atMostUpTo : GoodIn wsL_law (wsV RL 151 RX7 yX7_atMostUpTo wsX7_atMostUpTo) := goodIn_app (goodIn_of _ (by decide +kernel)) ggL_law_X7_atMostUpTo
set_option maxRecDepth 20000 in
theorem ggL_law_L_reallyUpTo : GoodIn wsL_law wsL_reallyUpTo := goodIn_ca (goodIn_r _ [595, 85, 596, 597, 598, 2, 599, 91, 92, 93, 94, 95, 96, 15, 553, 554, 555, 27, 556, 53, 52, 224, 188, 189, 39, 190, 123, 191, 192, 193, 194, 47, 195, 196, 197, 198, 557, 447, 448, 449, 658, 659, 660, 661, 646, 665, 666, 667, 670, 671] (by decide +kernel) (by decide +kernel)) (goodIn_sub (fun _ h => List.mem_append_left _ (List.mem_append_left _ (List.mem_append_right _ h))) (by decide +kernel))
set_option maxRecDepth 20000 in
theorem gL_law_L_reallyUpTo : GoodIn wsL_law (va_wsS RL 152 yL_reallyUpTo wsL_reallyUpTo) := goodIn_app (goodIn_of _ (by decide +kernel)) ggL_law_L_reallyUpTo
set_option maxRecDepth 20000 in
theorem ggL_law_X7_reallyUpTo : GoodIn wsL_law wsX7_reallyUpTo := goodIn_r _ [603, 312, 313, 314, 5, 315, 142, 143, 144, 145, 146, 147, 148, 149, 150, 151, 152, 562, 563, 564, 565, 72, 74, 647, 648, 649, 650, 651, 652, 653, 654, 655, 656, 657] (by decide +kernel) (by decide +kernel)
set_option maxRecDepth 20000 in
theorem gL_law_X7_reallyUpTo : GoodIn wsL_law (wsV RL 154 RX7 yX7_reallyUpTo wsX7_reallyUpTo) := goodIn_app (goodIn_of _ (by decide +kernel)) ggL_law_X7_reallyUpTo
set_option maxRecDepth 20000 in
theorem ggL_law_L_middle : GoodIn wsL_law wsL_middle := goodIn_ca (goodIn_ca (goodIn_r _ [606, 85, 160, 607, 608, 609, 2, 610, 91, 92, 93, 94, 95, 96, 15, 497, 498, 499, 17, 500, 172, 173, 28, 174, 103, 104, 27, 105, 106, 102, 611, 612, 613, 614, 52, 53, 351, 204, 205, 39, 206, 123, 225, 192, 193, 194, 47, 195, 196, 197, 198, 658, 659, 660, 661, 646, 665, 666, 667, 670, 671] (by decide +kernel) (by decide +kernel)) (goodIn_sub (fun _ h => List.mem_append_left _ (List.mem_append_left _ (List.mem_append_right _ h))) (by decide +kernel))) (goodIn_sub (fun _ h => List.mem_append_right _ h) (by decide +kernel))
set_option maxRecDepth 20000 in
theorem gL_law_L_middle : GoodIn wsL_law (va_wsS RL 155 yL_middle wsL_middle) := goodIn_app (goodIn_of _ (by decide +kernel)) ggL_law_L_middle
set_option maxRecDepth 20000 in
theorem ggL_law_X7_middle : GoodIn wsL_law wsX7_middle := goodIn_r _ [618, 619, 620, 621, 5, 622, 72, 74, 142, 143, 144, 145, 146, 147, 148, 149, 150, 151, 152, 647, 648, 649, 650, 651, 652, 653, 654, 655, 656, 657] (by decide +kernel) (by decide +kernel)
set_option maxRecDepth 20000 in
theorem gL_law_X7_middle : GoodIn wsL_law (wsV RL 157 RX7 yX7_middle wsX7_middle) := goodIn_app (goodIn_of _ (by decide +kernel)) ggL_law_X7_middle
set_option maxRecDepth 20000 in
theorem ggL_law_L_middleByHeaps : GoodIn wsL_law wsL_middleByHeaps := goodIn_ca (goodIn_ca (goodIn_r _ [625, 85, 160, 626, 627, 628, 2, 629, 91, 92, 93, 94, 95, 96, 15, 497, 498, 499, 17, 500, 172, 173, 28, 174, 103, 104, 27, 105, 106, 630, 241, 242, 31, 243, 60, 244, 245, 246, 59, 247, 66, 248, 192, 193, 39, 194, 47, 195, 196, 197, 198, 123, 658, 659, 660, 661, 646, 665, 666, 667, 668, 669, 672, 670, 671] (by decide +kernel) (by decide +kernel)) (goodIn_sub (fun _ h => List.mem_append_left _ (List.mem_append_left _ (List.mem_append_right _ h))) (by decide +kernel))) (goodIn_sub (fun _ h => List.mem_append_right _ h) (by decide +kernel))
set_option maxRecDepth 20000 in
theorem gL_law_L_middleByHeaps : GoodIn wsL_law (va_wsS RL 158 yL_middleByHeaps wsL_middleByHeaps) := goodIn_app (goodIn_of _ (by decide +kernel)) ggL_law_L_middleByHeaps
set_option maxRecDepth 20000 in
theorem ggL_law_X7_middleByHeaps : GoodIn wsL_law wsX7_middleByHeaps := goodIn_r _ [634, 619, 620, 621, 5, 622, 72, 74, 142, 143, 144, 145, 146, 147, 148, 149, 150, 151, 152, 647, 648, 649, 650, 651, 652, 653, 654, 655, 656, 657] (by decide +kernel) (by decide +kernel)
set_option maxRecDepth 20000 in
theorem gL_law_X7_middleByHeaps : GoodIn wsL_law (wsV RL 160 RX7 yX7_middleByHeaps wsX7_middleByHeaps) := goodIn_app (goodIn_of _ (by decide +kernel)) ggL_law_X7_middleByHeaps
set_option maxRecDepth 20000 in
theorem ggL_law_L_part : GoodIn wsL_law wsL_part := goodIn_ca (goodIn_r _ [637, 85, 638, 639, 640, 2, 641, 91, 92, 93, 94, 95, 96, 15, 102, 103, 104, 27, 105, 106, 260, 200, 201, 23, 202, 40, 203, 204, 205, 39, 206, 123, 658, 659, 660, 661, 646, 665, 666, 667, 662, 663, 664, 670, 671] (by decide +kernel) (by decide +kernel)) (goodIn_sub (fun _ h => List.mem_append_left _ (List.mem_append_left _ (List.mem_append_right _ h))) (by decide +kernel))
set_option maxRecDepth 20000 in
theorem gL_law_L_part : GoodIn wsL_law (va_wsS RL 161 yL_part wsL_part) := goodIn_app (goodIn_of _ (by decide +kernel)) ggL_law_L_part
set_option maxRecDepth 20000 in
theorem ggL_law_X7_part : GoodIn wsL_law wsX7_part := goodIn_r _ [645, 72, 73, 312, 313, 314, 5, 315, 142, 143, 144, 145, 146, 147, 148, 149, 150, 151, 152, 647, 648, 649, 650, 651, 652, 653, 654, 655, 656, 657] (by decide +kernel) (by decide +kernel)
set_option maxRecDepth 20000 in
theorem gL_law_X7_part : GoodIn wsL_law (wsV RL 164 RX7 yX7_part wsX7_part) := goodIn_app (goodIn_of _ (by decide +kernel)) ggL_law_X7_part
