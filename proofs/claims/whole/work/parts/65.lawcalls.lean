set_option maxRecDepth 20000 in
theorem ggL_law_X4_init : GoodIn wsL_law wsX4_init := goodIn_r _ [9, 10, 11, 12, 13, 14, 15, 16, 17, 18, 19, 20, 21, 22, 23, 24, 25, 26, 27, 28, 29, 30, 31, 32, 33, 34, 35, 36, 37, 38, 39, 40, 41, 42, 43, 44, 45, 46, 47, 48, 49, 50, 51, 52, 53, 54, 55, 56, 57, 58, 59, 60, 61, 62, 563, 564, 565, 566, 567, 568, 569, 595, 596, 597, 598, 599, 600, 601, 602, 603, 604, 605, 606, 607, 608, 609, 610, 611, 612] (by decide +kernel) (by decide +kernel)
set_option maxRecDepth 20000 in
theorem gL_law_X4_init : GoodIn wsL_law (wsX4_init) := ggL_law_X4_init
set_option maxRecDepth 20000 in
theorem ggL_law_X5_init : GoodIn wsL_law wsX5_init := goodIn_r _ [65, 66, 11, 12, 25, 67, 68, 69, 70, 71, 72, 73, 74, 75, 76, 77, 78, 79, 80, 81, 82, 83, 84, 85, 86, 87, 570, 571, 572, 573, 574, 575, 576, 577, 578, 579, 580, 581, 582, 583, 584, 585, 586, 587, 588, 589, 590, 591, 592, 593, 594] (by decide +kernel) (by decide +kernel)
set_option maxRecDepth 20000 in
theorem gL_law_X5_init : GoodIn wsL_law (wsX5_init) := ggL_law_X5_init
set_option maxRecDepth 20000 in
theorem ggL_law_L_up : GoodIn wsL_law wsL_up := goodIn_ca (goodIn_ca (goodIn_r _ [91, 92, 93, 94, 95, 96, 2, 97, 98, 99, 100, 101, 102, 103, 104, 105, 14, 106, 107, 108, 109, 110, 111, 112, 113, 114, 115, 116, 16, 117, 35, 118, 119, 120, 121, 122, 123, 124, 125, 126, 127, 128, 129, 130, 131, 132, 133, 37, 38, 134, 135, 136, 137, 36, 39, 138, 139, 140, 141, 142, 20, 143, 144, 145, 146, 147, 148, 149, 19, 150, 151, 152, 153, 154, 47, 155, 156, 157, 158, 159, 160, 161, 162, 163, 164, 165, 166, 167, 168, 169, 170, 171, 172, 173, 174, 175, 176, 177, 178, 179, 180, 181, 182, 183, 184, 185, 186, 187, 188, 595, 596, 597, 598, 599, 600, 601, 602, 603, 604, 605, 563, 564, 565, 566, 567, 568, 569, 606] (by decide +kernel) (by decide +kernel)) (goodIn_sub (fun _ h => List.mem_append_left _ (List.mem_append_left _ (List.mem_append_right _ h))) (by decide +kernel))) (goodIn_sub (fun _ h => List.mem_append_left _ (List.mem_append_right _ h)) (by decide +kernel))
set_option maxRecDepth 20000 in
theorem gL_law_L_up : GoodIn wsL_law (va_wsS RL 63 yL_up wsL_up) := goodIn_app (goodIn_of _ (by decide +kernel)) ggL_law_L_up
set_option maxRecDepth 20000 in
theorem ggL_law_X5_up : GoodIn wsL_law wsX5_up := goodIn_r _ [192, 67, 71, 72, 193, 194, 5, 195, 196, 197, 198, 199, 200, 201, 202, 203, 204, 205, 206, 207, 68, 208, 74, 69, 209, 210, 211, 212, 213, 214, 215, 216, 82, 217, 218, 219, 220, 78, 79, 221, 222, 223, 224, 80, 225, 226, 227, 228, 76, 229, 230, 231, 232, 233, 234, 235, 236, 237, 238, 239, 240, 241, 242, 243, 244, 245, 73, 246, 570, 571, 572, 573, 574, 575, 576, 577, 578, 579, 580, 581, 582, 583, 584, 585, 586, 587, 588, 589, 590, 591, 592, 593, 594] (by decide +kernel) (by decide +kernel)
set_option maxRecDepth 20000 in
theorem gL_law_X5_up : GoodIn wsL_law (wsV RL 68 RX5 yX5_up wsX5_up) := goodIn_app (goodIn_of _ (by decide +kernel)) ggL_law_X5_up
set_option maxRecDepth 20000 in
theorem ggL_law_X5_thrown : GoodIn wsL_law wsX5_thrown := goodIn_r _ [250, 203, 570, 571, 572, 573, 574, 575, 576, 577, 578, 579, 580, 581, 582, 583, 584, 585, 586, 587, 588, 589, 590, 591, 592, 593, 594] (by decide +kernel) (by decide +kernel)
set_option maxRecDepth 20000 in
theorem gL_law_X5_thrown : GoodIn wsL_law (wsV RL 69 RX5 yX5_thrown wsX5_thrown) := goodIn_app (goodIn_of _ (by decide +kernel)) ggL_law_X5_thrown
set_option maxRecDepth 20000 in
theorem ggL_law_L_down : GoodIn wsL_law wsL_down := goodIn_ca (goodIn_ca (goodIn_r _ [253, 92, 93, 254, 255, 256, 2, 257, 98, 99, 101, 102, 103, 104, 105, 14, 106, 107, 108, 109, 110, 111, 112, 113, 114, 115, 116, 16, 117, 35, 258, 259, 260, 261, 100, 26, 122, 161, 262, 263, 264, 265, 129, 266, 30, 128, 267, 20, 123, 268, 269, 270, 271, 272, 273, 274, 29, 275, 276, 62, 147, 148, 149, 19, 150, 151, 152, 153, 154, 47, 155, 156, 135, 136, 137, 36, 37, 38, 39, 138, 139, 140, 141, 142, 143, 144, 145, 146, 157, 158, 159, 160, 162, 163, 164, 165, 166, 167, 168, 169, 170, 171, 172, 173, 174, 175, 176, 177, 178, 179, 180, 181, 182, 183, 184, 185, 186, 187, 188, 563, 564, 565, 566, 567, 568, 569, 595, 596, 597, 598, 599, 600, 601, 602, 603, 604, 605, 611, 612, 606] (by decide +kernel) (by decide +kernel)) (goodIn_sub (fun _ h => List.mem_append_left _ (List.mem_append_left _ (List.mem_append_right _ h))) (by decide +kernel))) (goodIn_sub (fun _ h => List.mem_append_left _ (List.mem_append_right _ h)) (by decide +kernel))
set_option maxRecDepth 20000 in
theorem gL_law_L_down : GoodIn wsL_law (va_wsS RL 73 yL_down wsL_down) := goodIn_app (goodIn_of _ (by decide +kernel)) ggL_law_L_down
set_option maxRecDepth 20000 in
theorem ggL_law_X5_down : GoodIn wsL_law wsX5_down := goodIn_r _ [280, 67, 193, 194, 5, 195, 196, 197, 198, 199, 200, 201, 202, 203, 281, 282, 283, 284, 71, 81, 80, 285, 286, 287, 288, 78, 289, 87, 79, 77, 72, 290, 291, 292, 293, 208, 213, 214, 215, 216, 82, 230, 231, 232, 233, 204, 205, 206, 207, 68, 74, 69, 209, 210, 211, 212, 221, 222, 223, 224, 225, 226, 227, 228, 76, 229, 234, 235, 236, 237, 238, 239, 240, 241, 242, 243, 244, 245, 73, 246, 570, 571, 572, 573, 574, 575, 576, 577, 578, 579, 580, 581, 582, 583, 584, 585, 586, 587, 588, 589, 590, 591, 592, 593, 594] (by decide +kernel) (by decide +kernel)
set_option maxRecDepth 20000 in
theorem gL_law_X5_down : GoodIn wsL_law (wsV RL 76 RX5 yX5_down wsX5_down) := goodIn_app (goodIn_of _ (by decide +kernel)) ggL_law_X5_down
set_option maxRecDepth 20000 in
theorem ggL_law_L_digit : GoodIn wsL_law wsL_digit := goodIn_ca (goodIn_r _ [296, 92, 297, 298, 299, 2, 300, 100, 101, 301, 102, 103, 104, 105, 14, 106, 107, 108, 109, 110, 111, 112, 113, 156, 135, 136, 16, 137, 35, 36, 37, 38, 39, 138, 302, 303, 304, 305, 22, 166, 162, 163, 164, 165, 128, 167, 168, 169, 170, 171, 20, 122, 123, 172, 173, 174, 19, 175, 155, 176, 177, 178, 179, 180, 181, 182, 183, 47, 151, 152, 153, 154, 184, 185, 186, 187, 188, 306, 307, 308, 309, 310, 311, 312, 313, 314, 315, 316, 317, 318, 319, 320, 321, 322, 323, 324, 325, 326, 327, 328, 329, 267, 330, 331, 332, 333, 334, 335, 336, 337, 338, 339, 340, 341, 342, 343, 344, 345, 346, 347, 348, 349, 350, 139, 140, 141, 142, 143, 144, 145, 146, 147, 148, 149, 150, 351, 352, 353, 354, 124, 125, 126, 127, 129, 130, 131, 132, 133, 134, 355, 356, 357, 358, 26, 157, 158, 159, 160, 161, 595, 596, 597, 598, 599, 600, 601, 602, 603, 604, 605, 563, 564, 565, 566, 567, 568, 569, 606, 607, 608, 609, 610] (by decide +kernel) (by decide +kernel)) (goodIn_sub (fun _ h => List.mem_append_left _ (List.mem_append_right _ h)) (by decide +kernel))
set_option maxRecDepth 20000 in
theorem gL_law_L_digit : GoodIn wsL_law (va_wsS RL 77 yL_digit wsL_digit) := goodIn_app (goodIn_of _ (by decide +kernel)) ggL_law_L_digit
set_option maxRecDepth 20000 in
theorem ggL_law_X5_digit : GoodIn wsL_law wsX5_digit := goodIn_r _ [362, 67, 70, 193, 194, 5, 195, 196, 197, 198, 199, 200, 201, 202, 203, 204, 205, 206, 207, 68, 208, 74, 69, 71, 72, 363, 364, 365, 366, 76, 225, 226, 227, 228, 229, 230, 231, 232, 233, 234, 235, 236, 237, 238, 239, 240, 241, 82, 213, 214, 215, 216, 242, 243, 244, 245, 73, 246, 367, 368, 369, 370, 84, 85, 86, 83, 371, 372, 373, 374, 375, 376, 377, 378, 209, 210, 211, 212, 217, 218, 219, 220, 78, 79, 379, 380, 381, 382, 81, 221, 222, 223, 224, 80, 570, 571, 572, 573, 574, 575, 576, 577, 578, 579, 580, 581, 582, 583, 584, 585, 586, 587, 588, 589, 590, 591, 592, 593, 594] (by decide +kernel) (by decide +kernel)
set_option maxRecDepth 20000 in
theorem gL_law_X5_digit : GoodIn wsL_law (wsV RL 80 RX5 yX5_digit wsX5_digit) := goodIn_app (goodIn_of _ (by decide +kernel)) ggL_law_X5_digit
set_option maxRecDepth 20000 in
theorem ggL_law_L_camp : GoodIn wsL_law wsL_camp := goodIn_ca (goodIn_ca (goodIn_r _ [385, 92, 93, 386, 387, 388, 2, 389, 98, 99, 167, 14, 100, 161, 101, 122, 102, 103, 104, 105, 106, 107, 108, 109, 110, 111, 112, 113, 156, 135, 136, 16, 137, 35, 36, 37, 38, 39, 138, 595, 596, 597, 598, 599, 600, 601, 602, 603, 604, 605, 563, 564, 565, 566, 567, 568, 569] (by decide +kernel) (by decide +kernel)) (goodIn_sub (fun _ h => List.mem_append_left _ (List.mem_append_left _ (List.mem_append_right _ h))) (by decide +kernel))) (goodIn_sub (fun _ h => List.mem_append_left _ (List.mem_append_right _ h)) (by decide +kernel))
set_option maxRecDepth 20000 in
theorem gL_law_L_camp : GoodIn wsL_law (va_wsS RL 81 yL_camp wsL_camp) := goodIn_app (goodIn_of _ (by decide +kernel)) ggL_law_L_camp
set_option maxRecDepth 20000 in
theorem ggL_law_X5_camp : GoodIn wsL_law wsX5_camp := goodIn_r _ [393, 74, 67, 80, 71, 193, 194, 5, 195, 196, 197, 198, 199, 200, 201, 202, 203, 204, 205, 206, 207, 68, 208, 69, 72, 570, 571, 572, 573, 574, 575, 576, 577, 578, 579, 580, 581, 582, 583, 584, 585, 586, 587, 588, 589, 590, 591, 592, 593, 594] (by decide +kernel) (by decide +kernel)
set_option maxRecDepth 20000 in
theorem gL_law_X5_camp : GoodIn wsL_law (wsV RL 83 RX5 yX5_camp wsX5_camp) := goodIn_app (goodIn_of _ (by decide +kernel)) ggL_law_X5_camp
set_option maxRecDepth 20000 in
theorem ggL_law_L_park : GoodIn wsL_law wsL_park := goodIn_ca (goodIn_ca (goodIn_r _ [396, 92, 93, 397, 398, 399, 2, 400, 98, 99, 100, 26, 101, 122, 128, 102, 103, 104, 105, 14, 106, 107, 108, 109, 110, 111, 112, 113, 262, 263, 264, 265, 129, 266, 30, 267, 20, 123, 268, 269, 270, 271, 272, 273, 274, 29, 275, 276, 62, 147, 148, 149, 19, 150, 151, 152, 153, 154, 47, 155, 156, 135, 136, 16, 137, 35, 36, 37, 38, 39, 138, 595, 596, 597, 598, 599, 600, 601, 602, 603, 604, 605, 563, 564, 565, 566, 567, 568, 569, 611, 612, 606] (by decide +kernel) (by decide +kernel)) (goodIn_sub (fun _ h => List.mem_append_left _ (List.mem_append_left _ (List.mem_append_right _ h))) (by decide +kernel))) (goodIn_sub (fun _ h => List.mem_append_left _ (List.mem_append_right _ h)) (by decide +kernel))
set_option maxRecDepth 20000 in
theorem gL_law_L_park : GoodIn wsL_law (va_wsS RL 84 yL_park wsL_park) := goodIn_app (goodIn_of _ (by decide +kernel)) ggL_law_L_park
set_option maxRecDepth 20000 in
theorem ggL_law_X5_park : GoodIn wsL_law wsX5_park := goodIn_r _ [404, 67, 81, 71, 193, 194, 5, 195, 196, 197, 198, 199, 200, 201, 202, 203, 285, 286, 287, 288, 78, 289, 87, 79, 77, 72, 290, 291, 292, 293, 208, 213, 214, 215, 216, 82, 204, 205, 206, 207, 68, 74, 69, 230, 231, 232, 233, 570, 571, 572, 573, 574, 575, 576, 577, 578, 579, 580, 581, 582, 583, 584, 585, 586, 587, 588, 589, 590, 591, 592, 593, 594] (by decide +kernel) (by decide +kernel)
set_option maxRecDepth 20000 in
theorem gL_law_X5_park : GoodIn wsL_law (wsV RL 86 RX5 yX5_park wsX5_park) := goodIn_app (goodIn_of _ (by decide +kernel)) ggL_law_X5_park
set_option maxRecDepth 20000 in
theorem ggL_law_L_transfer : GoodIn wsL_law wsL_transfer := goodIn_ca (goodIn_ca (goodIn_r _ [407, 92, 93, 408, 409, 410, 2, 411, 98, 99, 100, 102, 103, 104, 105, 14, 106, 107, 108, 109, 110, 111, 112, 113, 262, 263, 264, 265, 122, 129, 266, 30, 128, 267, 20, 123, 101, 268, 269, 270, 271, 272, 273, 274, 29, 275, 276, 62, 147, 148, 149, 19, 150, 151, 152, 153, 154, 47, 155, 156, 135, 136, 16, 137, 35, 36, 37, 38, 39, 138, 302, 303, 304, 305, 22, 166, 162, 163, 164, 165, 167, 168, 169, 170, 171, 172, 173, 174, 175, 176, 177, 178, 179, 180, 181, 182, 183, 184, 185, 186, 187, 188, 306, 307, 308, 309, 310, 311, 312, 313, 314, 315, 316, 317, 318, 319, 320, 321, 322, 323, 324, 325, 326, 327, 328, 329, 330, 331, 332, 333, 334, 335, 336, 337, 338, 339, 340, 341, 342, 343, 344, 345, 346, 347, 348, 349, 350, 139, 140, 141, 142, 143, 144, 145, 146, 351, 352, 353, 354, 124, 125, 126, 127, 130, 131, 132, 133, 134, 355, 356, 357, 358, 26, 157, 158, 159, 160, 161, 595, 596, 597, 598, 599, 600, 601, 602, 603, 604, 605, 563, 564, 565, 566, 567, 568, 569, 611, 612, 606, 607, 608, 609, 610] (by decide +kernel) (by decide +kernel)) (goodIn_sub (fun _ h => List.mem_append_left _ (List.mem_append_left _ (List.mem_append_right _ h))) (by decide +kernel))) (goodIn_sub (fun _ h => List.mem_append_left _ (List.mem_append_right _ h)) (by decide +kernel))
set_option maxRecDepth 20000 in
theorem gL_law_L_transfer : GoodIn wsL_law (va_wsS RL 87 yL_transfer wsL_transfer) := goodIn_app (goodIn_of _ (by decide +kernel)) ggL_law_L_transfer
set_option maxRecDepth 20000 in
theorem ggL_law_X5_transfer : GoodIn wsL_law wsX5_transfer := goodIn_r _ [415, 67, 71, 193, 194, 5, 195, 196, 197, 198, 199, 200, 201, 202, 203, 285, 286, 287, 288, 78, 289, 87, 79, 77, 72, 290, 291, 292, 293, 208, 213, 214, 215, 216, 82, 230, 231, 232, 233, 204, 205, 206, 207, 68, 74, 69, 363, 364, 365, 366, 76, 225, 226, 227, 228, 229, 234, 235, 236, 237, 238, 239, 240, 241, 242, 243, 244, 245, 73, 246, 367, 368, 369, 370, 84, 85, 86, 83, 371, 372, 373, 374, 375, 376, 377, 378, 209, 210, 211, 212, 217, 218, 219, 220, 379, 380, 381, 382, 81, 221, 222, 223, 224, 80, 570, 571, 572, 573, 574, 575, 576, 577, 578, 579, 580, 581, 582, 583, 584, 585, 586, 587, 588, 589, 590, 591, 592, 593, 594] (by decide +kernel) (by decide +kernel)
set_option maxRecDepth 20000 in
theorem gL_law_X5_transfer : GoodIn wsL_law (wsV RL 89 RX5 yX5_transfer wsX5_transfer) := goodIn_app (goodIn_of _ (by decide +kernel)) ggL_law_X5_transfer
set_option maxRecDepth 20000 in
theorem ggL_law_L_tick : GoodIn wsL_law wsL_tick := goodIn_ca (goodIn_r _ [418, 92, 419, 420, 421, 2, 422, 101, 423, 424, 178, 425, 426, 177, 179, 109, 110, 111, 112, 113, 427, 428, 429, 430, 329, 14, 431, 432, 433, 16, 434, 35, 36, 435, 436, 437, 438, 439, 440, 441, 442, 443, 100, 156, 135, 136, 137, 37, 38, 39, 138, 258, 259, 260, 261, 26, 122, 161, 262, 263, 264, 265, 129, 266, 30, 128, 267, 20, 123, 268, 269, 270, 271, 272, 273, 274, 29, 275, 276, 62, 147, 148, 149, 19, 150, 151, 152, 153, 154, 47, 155, 139, 140, 141, 142, 143, 144, 145, 146, 157, 158, 159, 160, 162, 163, 164, 165, 166, 167, 168, 169, 170, 171, 172, 173, 174, 175, 176, 180, 181, 182, 183, 184, 185, 186, 187, 188, 563, 564, 565, 566, 567, 568, 569, 595, 596, 597, 598, 599, 600, 601, 602, 603, 604, 605, 611, 612, 606] (by decide +kernel) (by decide +kernel)) (goodIn_sub (fun _ h => List.mem_append_left _ (List.mem_append_right _ h)) (by decide +kernel))
set_option maxRecDepth 20000 in
theorem gL_law_L_tick : GoodIn wsL_law (va_wsS RL 90 yL_tick wsL_tick) := goodIn_app (goodIn_of _ (by decide +kernel)) ggL_law_L_tick
set_option maxRecDepth 20000 in
theorem ggL_law_X5_tick : GoodIn wsL_law wsX5_tick := goodIn_r _ [447, 208, 196, 197, 5, 198, 199, 200, 201, 202, 203, 448, 449, 450, 451, 67, 68, 204, 205, 206, 207, 74, 69, 71, 72, 281, 282, 283, 284, 81, 80, 285, 286, 287, 288, 78, 289, 87, 79, 77, 290, 291, 292, 293, 213, 214, 215, 216, 82, 230, 231, 232, 233, 209, 210, 211, 212, 221, 222, 223, 224, 225, 226, 227, 228, 76, 229, 234, 235, 236, 237, 238, 239, 240, 241, 242, 243, 244, 245, 73, 246, 570, 571, 572, 573, 574, 575, 576, 577, 578, 579, 580, 581, 582, 583, 584, 585, 586, 587, 588, 589, 590, 591, 592, 593, 594] (by decide +kernel) (by decide +kernel)
set_option maxRecDepth 20000 in
theorem gL_law_X5_tick : GoodIn wsL_law (wsV RL 92 RX5 yX5_tick wsX5_tick) := goodIn_app (goodIn_of _ (by decide +kernel)) ggL_law_X5_tick
set_option maxRecDepth 20000 in
theorem ggL_law_L_group : GoodIn wsL_law wsL_group := goodIn_ca (goodIn_ca (goodIn_r _ [454, 92, 93, 455, 456, 457, 2, 458, 98, 99, 22, 315, 109, 110, 111, 112, 113, 459, 460, 461, 24, 462, 463, 56, 57, 106, 107, 108, 464, 465, 466, 467, 55, 468, 469, 470, 471, 563, 564, 565, 566, 567, 568, 569, 607, 608, 609, 610] (by decide +kernel) (by decide +kernel)) (goodIn_sub (fun _ h => List.mem_append_left _ (List.mem_append_left _ (List.mem_append_right _ h))) (by decide +kernel))) (goodIn_sub (fun _ h => List.mem_append_left _ (List.mem_append_right _ h)) (by decide +kernel))
set_option maxRecDepth 20000 in
theorem gL_law_L_group : GoodIn wsL_law (va_wsS RL 93 yL_group wsL_group) := goodIn_app (goodIn_of _ (by decide +kernel)) ggL_law_L_group
set_option maxRecDepth 20000 in
theorem ggL_law_X5_group : GoodIn wsL_law wsX5_group := goodIn_r _ [475, 84, 83, 85, 86, 196, 197, 5, 198, 199, 200, 201, 202, 203, 570, 571, 572, 573, 574, 575, 576, 577, 578, 579, 580, 581, 582, 583, 584, 585, 586, 587, 588, 589, 590, 591, 592, 593, 594] (by decide +kernel) (by decide +kernel)
set_option maxRecDepth 20000 in
theorem gL_law_X5_group : GoodIn wsL_law (wsV RL 96 RX5 yX5_group wsX5_group) := goodIn_app (goodIn_of _ (by decide +kernel)) ggL_law_X5_group
set_option maxRecDepth 20000 in
theorem ggL_law_L_slot : GoodIn wsL_law wsL_slot := goodIn_ca (goodIn_ca (goodIn_r _ [478, 92, 93, 479, 480, 481, 2, 482, 98, 99, 20, 483, 484, 485, 486, 109, 110, 111, 112, 113, 563, 564, 565, 566, 567, 568, 569, 606] (by decide +kernel) (by decide +kernel)) (goodIn_sub (fun _ h => List.mem_append_left _ (List.mem_append_left _ (List.mem_append_right _ h))) (by decide +kernel))) (goodIn_sub (fun _ h => List.mem_append_left _ (List.mem_append_right _ h)) (by decide +kernel))
set_option maxRecDepth 20000 in
theorem gL_law_L_slot : GoodIn wsL_law (va_wsS RL 97 yL_slot wsL_slot) := goodIn_app (goodIn_of _ (by decide +kernel)) ggL_law_L_slot
set_option maxRecDepth 20000 in
theorem ggL_law_X5_slot : GoodIn wsL_law wsX5_slot := goodIn_r _ [490, 82, 196, 197, 5, 198, 199, 200, 201, 202, 203, 570, 571, 572, 573, 574, 575, 576, 577, 578, 579, 580, 581, 582, 583, 584, 585, 586, 587, 588, 589, 590, 591, 592, 593, 594] (by decide +kernel) (by decide +kernel)
set_option maxRecDepth 20000 in
theorem gL_law_X5_slot : GoodIn wsL_law (wsV RL 100 RX5 yX5_slot wsX5_slot) := goodIn_app (goodIn_of _ (by decide +kernel)) ggL_law_X5_slot
set_option maxRecDepth 20000 in
theorem ggL_law_L_carries : GoodIn wsL_law wsL_carries := goodIn_ca (goodIn_r _ [493, 92, 494, 495, 496, 2, 497, 20, 483, 484, 485, 486, 109, 110, 111, 112, 113, 563, 564, 565, 566, 567, 568, 569, 606] (by decide +kernel) (by decide +kernel)) (goodIn_sub (fun _ h => List.mem_append_left _ (List.mem_append_right _ h)) (by decide +kernel))
set_option maxRecDepth 20000 in
theorem gL_law_L_carries : GoodIn wsL_law (va_wsS RL 101 yL_carries wsL_carries) := goodIn_app (goodIn_of _ (by decide +kernel)) ggL_law_L_carries
set_option maxRecDepth 20000 in
theorem ggL_law_X5_carries : GoodIn wsL_law wsX5_carries := goodIn_r _ [501, 82, 196, 197, 5, 198, 199, 200, 201, 202, 203, 570, 571, 572, 573, 574, 575, 576, 577, 578, 579, 580, 581, 582, 583, 584, 585, 586, 587, 588, 589, 590, 591, 592, 593, 594] (by decide +kernel) (by decide +kernel)
set_option maxRecDepth 20000 in
theorem gL_law_X5_carries : GoodIn wsL_law (wsV RL 103 RX5 yX5_carries wsX5_carries) := goodIn_app (goodIn_of _ (by decide +kernel)) ggL_law_X5_carries
set_option maxRecDepth 20000 in
theorem ggL_law_L_line : GoodIn wsL_law wsL_line := goodIn_ca (goodIn_r _ [504, 92, 505, 506, 507, 2, 508, 100, 122, 129, 266, 166, 161, 102, 103, 104, 105, 14, 106, 107, 108, 109, 110, 111, 112, 113, 509, 510, 511, 512, 143, 144, 145, 16, 146, 35, 37, 513, 514, 515, 516, 123, 128, 268, 269, 270, 271, 101, 267, 595, 596, 597, 598, 599, 600, 601, 602, 603, 604, 605, 563, 564, 565, 566, 567, 568, 569] (by decide +kernel) (by decide +kernel)) (goodIn_sub (fun _ h => List.mem_append_left _ (List.mem_append_right _ h)) (by decide +kernel))
set_option maxRecDepth 20000 in
theorem gL_law_L_line : GoodIn wsL_law (va_wsS RL 104 yL_line wsL_line) := goodIn_app (goodIn_of _ (by decide +kernel)) ggL_law_L_line
set_option maxRecDepth 20000 in
theorem ggL_law_X5_line : GoodIn wsL_law wsX5_line := goodIn_r _ [520, 67, 71, 72, 77, 78, 76, 80, 193, 194, 5, 195, 196, 197, 198, 199, 200, 201, 202, 203, 521, 522, 523, 524, 290, 291, 292, 293, 208, 79, 570, 571, 572, 573, 574, 575, 576, 577, 578, 579, 580, 581, 582, 583, 584, 585, 586, 587, 588, 589, 590, 591, 592, 593, 594] (by decide +kernel) (by decide +kernel)
set_option maxRecDepth 20000 in
theorem gL_law_X5_line : GoodIn wsL_law (wsV RL 106 RX5 yX5_line wsX5_line) := goodIn_app (goodIn_of _ (by decide +kernel)) ggL_law_X5_line
set_option maxRecDepth 20000 in
theorem ggL_law_L_count : GoodIn wsL_law wsL_count := goodIn_ca (goodIn_r _ [527, 92, 528, 529, 530, 2, 531, 188, 30, 532, 20, 109, 110, 111, 112, 113, 533, 534, 535, 19, 536, 47, 563, 564, 565, 566, 567, 568, 569, 611, 612, 606] (by decide +kernel) (by decide +kernel)) (goodIn_sub (fun _ h => List.mem_append_left _ (List.mem_append_right _ h)) (by decide +kernel))
set_option maxRecDepth 20000 in
theorem gL_law_L_count : GoodIn wsL_law (va_wsS RL 107 yL_count wsL_count) := goodIn_app (goodIn_of _ (by decide +kernel)) ggL_law_L_count
set_option maxRecDepth 20000 in
theorem ggL_law_X5_count : GoodIn wsL_law wsX5_count := goodIn_r _ [540, 82, 229, 289, 196, 197, 5, 198, 199, 200, 201, 202, 203, 570, 571, 572, 573, 574, 575, 576, 577, 578, 579, 580, 581, 582, 583, 584, 585, 586, 587, 588, 589, 590, 591, 592, 593, 594] (by decide +kernel) (by decide +kernel)
set_option maxRecDepth 20000 in
theorem gL_law_X5_count : GoodIn wsL_law (wsV RL 109 RX5 yX5_count wsX5_count) := goodIn_app (goodIn_of _ (by decide +kernel)) ggL_law_X5_count
set_option maxRecDepth 20000 in
theorem ggL_law_L_book : GoodIn wsL_law wsL_book := goodIn_ca (goodIn_ca (goodIn_r _ [543, 92, 544, 545, 546, 547, 2, 548, 549, 550, 30, 109, 110, 111, 112, 113, 551, 552, 553, 29, 554, 276, 555, 556, 557, 558, 62, 563, 564, 565, 566, 567, 568, 569, 611, 612] (by decide +kernel) (by decide +kernel)) (goodIn_sub (fun _ h => List.mem_append_right _ h) (by decide +kernel))) (goodIn_sub (fun _ h => List.mem_append_left _ (List.mem_append_right _ h)) (by decide +kernel))
set_option maxRecDepth 20000 in
theorem gL_law_L_book : GoodIn wsL_law (va_wsS RL 110 yL_book wsL_book) := goodIn_app (goodIn_of _ (by decide +kernel)) ggL_law_L_book
set_option maxRecDepth 20000 in
theorem ggL_law_X5_book : GoodIn wsL_law wsX5_book := goodIn_r _ [562, 289, 87, 196, 197, 5, 198, 199, 200, 201, 202, 203, 570, 571, 572, 573, 574, 575, 576, 577, 578, 579, 580, 581, 582, 583, 584, 585, 586, 587, 588, 589, 590, 591, 592, 593, 594] (by decide +kernel) (by decide +kernel)
set_option maxRecDepth 20000 in
theorem gL_law_X5_book : GoodIn wsL_law (wsV RL 112 RX5 yX5_book wsX5_book) := goodIn_app (goodIn_of _ (by decide +kernel)) ggL_law_X5_book
