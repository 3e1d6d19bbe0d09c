set_option maxRecDepth 20000 in
theorem ggL_law_X3_init : GoodIn wsL_law wsX3_init := goodIn_r _ [9, 10, 11, 12, 13, 14, 15, 16, 17, 18, 19, 20, 21, 22, 23, 24, 6, 25, 26, 27, 28, 29, 30, 31, 32, 427, 428, 429, 430, 431, 432, 433, 434, 435, 436, 452, 453] (by decide +kernel) (by decide +kernel)
set_option maxRecDepth 20000 in
theorem gL_law_X3_init : GoodIn wsL_law (wsX3_init) := ggL_law_X3_init
set_option maxRecDepth 20000 in
theorem ggL_law_X4_init : GoodIn wsL_law wsX4_init := goodIn_r _ [35, 36, 11, 12, 18, 37, 38, 6, 39, 40, 41, 42, 43, 44, 45, 437, 438, 439, 440, 441, 442, 443, 444, 445, 446, 447, 448, 449, 450, 451] (by decide +kernel) (by decide +kernel)
set_option maxRecDepth 20000 in
theorem gL_law_X4_init : GoodIn wsL_law (wsX4_init) := ggL_law_X4_init
set_option maxRecDepth 20000 in
theorem ggL_law_X3_point : GoodIn wsL_law wsX3_point := goodIn_r _ [49, 17, 50, 51, 52, 2, 53, 54, 55, 56, 57, 15, 14, 13, 58, 59, 16, 60, 61, 62, 63, 11, 12, 64, 65, 66, 67, 68, 69, 70, 71, 18, 72, 73, 74, 75, 76, 77, 78, 79, 80, 81, 82, 83, 84, 85, 86, 87, 88, 89, 90, 91, 92, 93, 94, 95, 96, 97, 98, 99, 100, 101, 102, 103, 104, 105, 106, 107, 108, 109, 110, 111, 112, 113, 114, 115, 116, 117, 118, 119, 120, 121, 122, 123, 427, 428, 429, 430, 431, 432, 433, 434, 435, 436, 454, 455, 456, 457, 458, 459, 460, 461, 462] (by decide +kernel) (by decide +kernel)
set_option maxRecDepth 20000 in
theorem gL_law_X3_point : GoodIn wsL_law (wsV RL 19 RX3 yX3_point wsX3_point) := goodIn_app (goodIn_of _ (by decide +kernel)) ggL_law_X3_point
set_option maxRecDepth 20000 in
theorem ggL_law_X4_point : GoodIn wsL_law wsX4_point := goodIn_r _ [127, 128, 129, 130, 131, 132, 5, 133, 134, 135, 136, 137, 37, 38, 138, 139, 140, 141, 39, 40, 437, 438, 439, 440, 441, 442, 443, 444, 445, 446, 447, 448, 449, 450, 451] (by decide +kernel) (by decide +kernel)
set_option maxRecDepth 20000 in
theorem gL_law_X4_point : GoodIn wsL_law (wsV RL 23 RX4 yX4_point wsX4_point) := goodIn_app (goodIn_of _ (by decide +kernel)) ggL_law_X4_point
set_option maxRecDepth 20000 in
theorem ggL_law_X3_line : GoodIn wsL_law wsX3_line := goodIn_r _ [145, 146, 54, 55, 56, 2, 57, 15, 14, 13, 58, 59, 16, 60, 61, 62, 63, 11, 12, 64, 65, 66, 67, 68, 69, 70, 71, 18, 72, 73, 427, 428, 429, 430, 431, 432, 433, 434, 435, 436, 454, 455, 456, 457, 458, 459, 460, 461, 462] (by decide +kernel) (by decide +kernel)
set_option maxRecDepth 20000 in
theorem gL_law_X3_line : GoodIn wsL_law (wsV RL 24 RX3 yX3_line wsX3_line) := goodIn_app (goodIn_of _ (by decide +kernel)) ggL_law_X3_line
set_option maxRecDepth 20000 in
theorem ggL_law_X4_line : GoodIn wsL_law wsX4_line := goodIn_r _ [150, 128, 134, 135, 136, 5, 137, 129, 37, 38, 437, 438, 439, 440, 441, 442, 443, 444, 445, 446, 447, 448, 449, 450, 451] (by decide +kernel) (by decide +kernel)
set_option maxRecDepth 20000 in
theorem gL_law_X4_line : GoodIn wsL_law (wsV RL 28 RX4 yX4_line wsX4_line) := goodIn_app (goodIn_of _ (by decide +kernel)) ggL_law_X4_line
set_option maxRecDepth 20000 in
theorem ggL_law_X3_polygon : GoodIn wsL_law wsX3_polygon := goodIn_r _ [154, 155, 54, 55, 56, 2, 57, 15, 14, 13, 58, 59, 16, 60, 61, 62, 63, 11, 12, 64, 65, 66, 67, 68, 69, 70, 71, 18, 72, 73, 427, 428, 429, 430, 431, 432, 433, 434, 435, 436, 454, 455, 456, 457, 458, 459, 460, 461, 462] (by decide +kernel) (by decide +kernel)
set_option maxRecDepth 20000 in
theorem gL_law_X3_polygon : GoodIn wsL_law (wsV RL 29 RX3 yX3_polygon wsX3_polygon) := goodIn_app (goodIn_of _ (by decide +kernel)) ggL_law_X3_polygon
set_option maxRecDepth 20000 in
theorem ggL_law_X4_polygon : GoodIn wsL_law wsX4_polygon := goodIn_r _ [159, 128, 134, 135, 136, 5, 137, 129, 37, 38, 437, 438, 439, 440, 441, 442, 443, 444, 445, 446, 447, 448, 449, 450, 451] (by decide +kernel) (by decide +kernel)
set_option maxRecDepth 20000 in
theorem gL_law_X4_polygon : GoodIn wsL_law (wsV RL 32 RX4 yX4_polygon wsX4_polygon) := goodIn_app (goodIn_of _ (by decide +kernel)) ggL_law_X4_polygon
set_option maxRecDepth 20000 in
theorem ggL_law_X3_corner : GoodIn wsL_law wsX3_corner := goodIn_r _ [163, 164, 50, 17, 165, 166, 74, 75, 76, 2, 77, 15, 14, 51, 52, 53, 78, 79, 80, 59, 81, 64, 70, 71, 72, 73, 66, 82, 83, 84, 85, 67, 68, 86, 87, 88, 69, 65, 89, 90, 91, 92, 93, 94, 95, 96, 97, 98, 99, 100, 101, 102, 103, 104, 105, 106, 107, 108, 109, 110, 111, 112, 113, 114, 115, 116, 117, 118, 119, 120, 121, 122, 123, 454, 455, 456, 457, 458, 459, 460, 461, 462, 427, 428, 429, 430, 431, 432, 433, 434, 435, 436] (by decide +kernel) (by decide +kernel)
set_option maxRecDepth 20000 in
theorem gL_law_X3_corner : GoodIn wsL_law (wsV RL 33 RX3 yX3_corner wsX3_corner) := goodIn_app (goodIn_of _ (by decide +kernel)) ggL_law_X3_corner
set_option maxRecDepth 20000 in
theorem ggL_law_X4_corner : GoodIn wsL_law wsX4_corner := goodIn_r _ [170, 128, 37, 38, 130, 171, 172, 173, 5, 174, 129, 131, 132, 133, 138, 139, 140, 141, 39, 40, 437, 438, 439, 440, 441, 442, 443, 444, 445, 446, 447, 448, 449, 450, 451] (by decide +kernel) (by decide +kernel)
set_option maxRecDepth 20000 in
theorem gL_law_X4_corner : GoodIn wsL_law (wsV RL 37 RX4 yX4_corner wsX4_corner) := goodIn_app (goodIn_of _ (by decide +kernel)) ggL_law_X4_corner
set_option maxRecDepth 20000 in
theorem ggL_law_X3_remove : GoodIn wsL_law wsX3_remove := goodIn_r _ [178, 14, 16, 74, 75, 76, 2, 77, 15, 427, 428, 429, 430, 431, 432, 433, 434, 435, 436] (by decide +kernel) (by decide +kernel)
set_option maxRecDepth 20000 in
theorem gL_law_X3_remove : GoodIn wsL_law (wsV RL 38 RX3 yX3_remove wsX3_remove) := goodIn_app (goodIn_of _ (by decide +kernel)) ggL_law_X3_remove
set_option maxRecDepth 20000 in
theorem ggL_law_X4_remove : GoodIn wsL_law wsX4_remove := goodIn_r _ [182, 128, 37, 183, 171, 172, 173, 5, 174, 129, 437, 438, 439, 440, 441, 442, 443, 444, 445, 446, 447, 448, 449, 450, 451] (by decide +kernel) (by decide +kernel)
set_option maxRecDepth 20000 in
theorem gL_law_X4_remove : GoodIn wsL_law (wsV RL 41 RX4 yX4_remove wsX4_remove) := goodIn_app (goodIn_of _ (by decide +kernel)) ggL_law_X4_remove
set_option maxRecDepth 20000 in
theorem ggL_law_X3_check : GoodIn wsL_law wsX3_check := goodIn_r _ [187, 188, 74, 75, 76, 2, 77, 15, 14, 454, 455, 456, 457, 458, 459, 460, 461, 462, 427, 428, 429, 430, 431, 432, 433, 434, 435, 436] (by decide +kernel) (by decide +kernel)
set_option maxRecDepth 20000 in
theorem gL_law_X3_check : GoodIn wsL_law (wsV RL 42 RX3 yX3_check wsX3_check) := goodIn_app (goodIn_of _ (by decide +kernel)) ggL_law_X3_check
set_option maxRecDepth 20000 in
theorem ggL_law_X4_check : GoodIn wsL_law wsX4_check := goodIn_r _ [192, 128, 37, 38, 171, 172, 173, 5, 174, 129, 193, 194, 195, 196, 197, 198, 199, 200, 39, 40, 201, 202, 203, 204, 205, 206, 207, 208, 209, 210, 211, 212, 213, 214, 215, 216, 217, 218, 219, 220, 221, 222, 223, 224, 225, 226, 227, 228, 437, 438, 439, 440, 441, 442, 443, 444, 445, 446, 447, 448, 449, 450, 451] (by decide +kernel) (by decide +kernel)
set_option maxRecDepth 20000 in
theorem gL_law_X4_check : GoodIn wsL_law (wsV RL 45 RX4 yX4_check wsX4_check) := goodIn_app (goodIn_of _ (by decide +kernel)) ggL_law_X4_check
set_option maxRecDepth 20000 in
theorem ggL_law_X3_inside : GoodIn wsL_law wsX3_inside := goodIn_r _ [232, 164, 155, 233, 234, 235, 2, 236, 188, 74, 75, 76, 77, 15, 14, 51, 52, 53, 237, 238, 239, 59, 240, 64, 72, 73, 120, 121, 122, 123, 117, 118, 119, 86, 87, 84, 88, 82, 83, 85, 454, 455, 456, 457, 458, 459, 460, 461, 462, 427, 428, 429, 430, 431, 432, 433, 434, 435, 436] (by decide +kernel) (by decide +kernel)
set_option maxRecDepth 20000 in
theorem gL_law_X3_inside : GoodIn wsL_law (wsV RL 46 RX3 yX3_inside wsX3_inside) := goodIn_app (goodIn_of _ (by decide +kernel)) ggL_law_X3_inside
