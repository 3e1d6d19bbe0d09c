set_option maxRecDepth 20000 in
theorem ggL_law_X4_near : GoodIn wsL_law wsX4_near := goodIn_r _ [366, 128, 129, 45, 42, 322, 43, 323, 131, 132, 5, 133, 245, 246, 247, 248, 171, 172, 173, 174, 37, 249, 190, 191, 192, 38, 193, 194, 195, 196, 197, 198, 199, 200, 39, 40, 201, 202, 203, 204, 205, 206, 207, 208, 209, 210, 211, 212, 213, 214, 215, 216, 217, 218, 219, 220, 221, 222, 223, 224, 225, 226, 227, 228, 367, 368, 369, 370, 250, 251, 252, 253, 332, 333, 334, 335, 336, 337, 338, 339, 340, 341, 342, 343, 344, 345, 437, 438, 439, 440, 441, 442, 443, 444, 445, 446, 447, 448, 449, 450, 451] (by decide +kernel) (by decide +kernel)
set_option maxRecDepth 20000 in
theorem gL_law_X4_near : GoodIn wsL_law (wsV RL 62 RX4 yX4_near wsX4_near) := goodIn_app (goodIn_of _ (by decide +kernel)) ggL_law_X4_near
set_option maxRecDepth 20000 in
theorem ggL_law_X3_area : GoodIn wsL_law wsX3_area := goodIn_r _ [374, 164, 155, 233, 234, 235, 2, 236, 188, 74, 75, 76, 77, 15, 14, 375, 376, 377, 59, 378, 64, 72, 73, 454, 455, 456, 457, 458, 459, 460, 461, 462, 427, 428, 429, 430, 431, 432, 433, 434, 435, 436] (by decide +kernel) (by decide +kernel)
set_option maxRecDepth 20000 in
theorem gL_law_X3_area : GoodIn wsL_law (wsV RL 63 RX3 yX3_area wsX3_area) := goodIn_app (goodIn_of _ (by decide +kernel)) ggL_law_X3_area
set_option maxRecDepth 20000 in
theorem ggL_law_X4_area : GoodIn wsL_law wsX4_area := goodIn_r _ [382, 128, 37, 38, 39, 40, 245, 246, 247, 5, 248, 171, 172, 173, 174, 129, 249, 190, 191, 192, 193, 194, 195, 196, 197, 198, 199, 200, 201, 202, 203, 204, 205, 206, 207, 208, 209, 210, 211, 212, 213, 214, 215, 216, 217, 218, 219, 220, 221, 222, 223, 224, 225, 226, 227, 228, 437, 438, 439, 440, 441, 442, 443, 444, 445, 446, 447, 448, 449, 450, 451] (by decide +kernel) (by decide +kernel)
set_option maxRecDepth 20000 in
theorem gL_law_X4_area : GoodIn wsL_law (wsV RL 67 RX4 yX4_area wsX4_area) := goodIn_app (goodIn_of _ (by decide +kernel)) ggL_law_X4_area
set_option maxRecDepth 20000 in
theorem ggL_law_X3_boxed : GoodIn wsL_law wsX3_boxed := goodIn_r _ [386, 20, 15, 19, 233, 234, 235, 2, 236, 188, 74, 75, 76, 77, 14, 387, 388, 389, 59, 390, 66, 68, 67, 69, 427, 428, 429, 430, 431, 432, 433, 434, 435, 436, 454, 455, 456, 457, 458, 459, 460, 461, 462] (by decide +kernel) (by decide +kernel)
set_option maxRecDepth 20000 in
theorem gL_law_X3_boxed : GoodIn wsL_law (wsV RL 68 RX3 yX3_boxed wsX3_boxed) := goodIn_app (goodIn_of _ (by decide +kernel)) ggL_law_X3_boxed
set_option maxRecDepth 20000 in
theorem ggL_law_X4_boxed : GoodIn wsL_law wsX4_boxed := goodIn_r _ [394, 128, 395, 129, 41, 245, 246, 247, 5, 248, 171, 172, 173, 174, 37, 249, 190, 191, 192, 38, 193, 194, 195, 196, 197, 198, 199, 200, 39, 40, 201, 202, 203, 204, 205, 206, 207, 208, 209, 210, 211, 212, 213, 214, 215, 216, 217, 218, 219, 220, 221, 222, 223, 224, 225, 226, 227, 228, 396, 397, 398, 399, 437, 438, 439, 440, 441, 442, 443, 444, 445, 446, 447, 448, 449, 450, 451] (by decide +kernel) (by decide +kernel)
set_option maxRecDepth 20000 in
theorem gL_law_X4_boxed : GoodIn wsL_law (wsV RL 72 RX4 yX4_boxed wsX4_boxed) := goodIn_app (goodIn_of _ (by decide +kernel)) ggL_law_X4_boxed
set_option maxRecDepth 20000 in
theorem ggL_law_L_found : GoodIn wsL_law wsL_found := goodIn_r _ [403, 404, 405, 406, 2, 407, 20, 408, 409, 410, 19, 427, 428, 429, 430, 431, 432, 433, 434, 435, 436, 463, 464, 465, 466, 467, 468] (by decide +kernel) (by decide +kernel)
set_option maxRecDepth 20000 in
theorem gL_law_L_found : GoodIn wsL_law (va_wsS RL 73 yL_found wsL_found) := goodIn_app (goodIn_of _ (by decide +kernel)) ggL_law_L_found
set_option maxRecDepth 20000 in
theorem ggL_law_X4_found : GoodIn wsL_law wsX4_found := goodIn_r _ [414, 395, 128, 41, 437, 438, 439, 440, 441, 442, 443, 444, 445, 446, 447, 448, 449, 450, 451] (by decide +kernel) (by decide +kernel)
set_option maxRecDepth 20000 in
theorem gL_law_X4_found : GoodIn wsL_law (wsV RL 78 RX4 yX4_found wsX4_found) := goodIn_app (goodIn_of _ (by decide +kernel)) ggL_law_X4_found
set_option maxRecDepth 20000 in
theorem ggL_law_X4_thrown : GoodIn wsL_law wsX4_thrown := goodIn_r _ [418, 128, 437, 438, 439, 440, 441, 442, 443, 444, 445, 446, 447, 448, 449, 450, 451] (by decide +kernel) (by decide +kernel)
set_option maxRecDepth 20000 in
theorem gL_law_X4_thrown : GoodIn wsL_law (wsV RL 79 RX4 yX4_thrown wsX4_thrown) := goodIn_app (goodIn_of _ (by decide +kernel)) ggL_law_X4_thrown
set_option maxRecDepth 20000 in
theorem ggL_law_X3_shapes : GoodIn wsL_law wsX3_shapes := goodIn_r _ [422, 16, 427, 428, 429, 430, 431, 432, 433, 434, 435, 436] (by decide +kernel) (by decide +kernel)
set_option maxRecDepth 20000 in
theorem gL_law_X3_shapes : GoodIn wsL_law (wsV RL 82 RX3 yX3_shapes wsX3_shapes) := goodIn_app (goodIn_of _ (by decide +kernel)) ggL_law_X3_shapes
set_option maxRecDepth 20000 in
theorem ggL_law_X4_shapes : GoodIn wsL_law wsX4_shapes := goodIn_r _ [426, 128, 129, 183, 437, 438, 439, 440, 441, 442, 443, 444, 445, 446, 447, 448, 449, 450, 451] (by decide +kernel) (by decide +kernel)
set_option maxRecDepth 20000 in
theorem gL_law_X4_shapes : GoodIn wsL_law (wsV RL 85 RX4 yX4_shapes wsX4_shapes) := goodIn_app (goodIn_of _ (by decide +kernel)) ggL_law_X4_shapes
