set_option maxRecDepth 20000 in
theorem ggL_law_X5_init : GoodIn wsL_law wsX5_init := goodIn_r _ [5, 6, 7, 8, 9, 10, 11, 12, 13, 14, 15, 16, 17, 18, 19, 20, 21, 22, 23, 24, 25, 26, 27, 28, 29, 30, 31, 32, 33, 34, 35, 36, 37, 38, 39, 40, 41, 42, 43, 44, 45, 46, 47, 48, 49, 50, 51, 52, 53, 54, 55, 56, 57, 58, 59, 60, 61, 62, 394, 395, 396, 397, 398, 399, 400, 401, 402, 403, 404, 405, 406, 407, 408, 409, 410, 411, 412, 413, 414, 415, 416, 417, 418, 419, 420, 421, 422, 423, 424, 425, 426, 427, 428, 429, 430, 431, 432, 433, 434, 435, 436, 437, 438, 439, 440, 441, 442, 443] (by decide +kernel) (by decide +kernel)
set_option maxRecDepth 20000 in
theorem gL_law_X5_init : GoodIn wsL_law (wsX5_init) := ggL_law_X5_init
set_option maxRecDepth 20000 in
theorem ggL_law_L_drawn : GoodIn wsL_law wsL_drawn := goodIn_r _ [66, 67, 68] (by decide +kernel) (by decide +kernel)
set_option maxRecDepth 20000 in
theorem gL_law_L_drawn : GoodIn wsL_law (va_wsS RL 95 yL_drawn wsL_drawn) := goodIn_app (goodIn_of _ (by decide +kernel)) ggL_law_L_drawn
set_option maxRecDepth 20000 in
theorem ggL_law_L_segment : GoodIn wsL_law wsL_segment := goodIn_ca (goodIn_ca (goodIn_r _ [71, 72, 73, 74, 75, 76, 2, 77, 78, 79, 80, 81, 10, 82, 83, 84, 85, 86, 87, 88, 28, 89, 90, 45, 91, 92, 394, 395, 396, 397, 398, 399, 400, 401, 402, 403, 404, 405, 406, 407, 408, 409, 410, 415, 416, 417, 418, 419, 420, 421] (by decide +kernel) (by decide +kernel)) (goodIn_sub (fun _ h => List.mem_append_left _ (List.mem_append_left _ (List.mem_append_right _ h))) (by decide +kernel))) (goodIn_sub (fun _ h => List.mem_append_left _ (List.mem_append_right _ h)) (by decide +kernel))
set_option maxRecDepth 20000 in
theorem gL_law_L_segment : GoodIn wsL_law (va_wsS RL 99 yL_segment wsL_segment) := goodIn_app (goodIn_of _ (by decide +kernel)) ggL_law_L_segment
set_option maxRecDepth 20000 in
theorem ggL_law_L_open : GoodIn wsL_law wsL_open := goodIn_ca (goodIn_ca (goodIn_r _ [95, 96, 73, 97, 98, 99, 2, 100, 78, 79, 80, 81, 14, 12, 24, 101, 102, 103, 104, 105, 106, 107, 108, 109, 110, 10, 111, 28, 112, 113, 45, 43, 44, 114, 32, 115, 116, 56, 58, 117, 118, 21, 119, 120, 39, 121, 122, 394, 395, 396, 397, 398, 399, 400, 401, 402, 403, 404, 405, 406, 407, 408, 409, 410, 427, 428, 429, 430, 431, 432, 433, 434, 435, 436, 437, 438, 439, 411, 412, 413, 414, 415, 416, 417, 418, 419, 420, 421] (by decide +kernel) (by decide +kernel)) (goodIn_sub (fun _ h => List.mem_append_left _ (List.mem_append_left _ (List.mem_append_right _ h))) (by decide +kernel))) (goodIn_sub (fun _ h => List.mem_append_right _ h) (by decide +kernel))
set_option maxRecDepth 20000 in
theorem gL_law_L_open : GoodIn wsL_law (va_wsS RL 102 yL_open wsL_open) := goodIn_app (goodIn_of _ (by decide +kernel)) ggL_law_L_open
set_option maxRecDepth 20000 in
theorem ggL_law_L_order : GoodIn wsL_law wsL_order := goodIn_ca (goodIn_ca (goodIn_ca (goodIn_r _ [125, 96, 72, 73, 126, 127, 128, 2, 129, 78, 79, 25, 14, 12, 101, 102, 103, 104, 105, 106, 82, 83, 84, 85, 86, 87, 114, 32, 115, 116, 56, 58, 117, 394, 395, 396, 397, 398, 399, 400, 401, 402, 403, 404, 405, 406, 407, 408, 409, 410, 427, 428, 429, 430, 431, 432, 433, 434, 435, 436, 437, 438, 439] (by decide +kernel) (by decide +kernel)) (goodIn_sub (fun _ h => List.mem_append_left _ (List.mem_append_left _ (List.mem_append_right _ h))) (by decide +kernel))) (goodIn_sub (fun _ h => List.mem_append_right _ h) (by decide +kernel))) (goodIn_sub (fun _ h => List.mem_append_left _ (List.mem_append_right _ h)) (by decide +kernel))
set_option maxRecDepth 20000 in
theorem gL_law_L_order : GoodIn wsL_law (va_wsS RL 104 yL_order wsL_order) := goodIn_app (goodIn_of _ (by decide +kernel)) ggL_law_L_order
set_option maxRecDepth 20000 in
theorem ggL_law_L_product : GoodIn wsL_law wsL_product := goodIn_ca (goodIn_ca (goodIn_r _ [132, 96, 72, 133, 134, 135, 2, 136, 86, 87, 12, 101, 102, 103, 104, 105, 106, 82, 83, 84, 85, 137, 30, 138, 139, 49, 50, 52, 140, 394, 395, 396, 397, 398, 399, 400, 401, 402, 403, 404, 405, 406, 407, 408, 409, 410, 422, 423, 424, 425, 426] (by decide +kernel) (by decide +kernel)) (goodIn_sub (fun _ h => List.mem_append_left _ (List.mem_append_right _ h)) (by decide +kernel))) (goodIn_sub (fun _ h => List.mem_append_right _ h) (by decide +kernel))
set_option maxRecDepth 20000 in
theorem gL_law_L_product : GoodIn wsL_law (va_wsS RL 106 yL_product wsL_product) := goodIn_app (goodIn_of _ (by decide +kernel)) ggL_law_L_product
set_option maxRecDepth 20000 in
theorem ggL_law_L_drop : GoodIn wsL_law wsL_drop := goodIn_ca (goodIn_ca (goodIn_r _ [143, 96, 72, 144, 145, 146, 2, 147, 23, 148, 149, 150, 151, 81, 101, 102, 103, 104, 105, 106, 82, 83, 84, 85, 86, 87, 118, 21, 119, 120, 39, 121, 122, 394, 395, 396, 397, 398, 399, 400, 401, 402, 403, 404, 405, 406, 407, 408, 409, 410, 411, 412, 413, 414] (by decide +kernel) (by decide +kernel)) (goodIn_sub (fun _ h => List.mem_append_right _ h) (by decide +kernel))) (goodIn_sub (fun _ h => List.mem_append_left _ (List.mem_append_right _ h)) (by decide +kernel))
set_option maxRecDepth 20000 in
theorem gL_law_L_drop : GoodIn wsL_law (va_wsS RL 109 yL_drop wsL_drop) := goodIn_app (goodIn_of _ (by decide +kernel)) ggL_law_L_drop
set_option maxRecDepth 20000 in
theorem ggL_law_L_leak : GoodIn wsL_law wsL_leak := goodIn_ca (goodIn_ca (goodIn_r _ [154, 96, 72, 155, 156, 157, 2, 158, 22, 148, 149, 150, 151, 81, 101, 102, 103, 104, 105, 106, 82, 83, 84, 85, 86, 87, 118, 21, 119, 120, 39, 121, 122, 394, 395, 396, 397, 398, 399, 400, 401, 402, 403, 404, 405, 406, 407, 408, 409, 410, 411, 412, 413, 414] (by decide +kernel) (by decide +kernel)) (goodIn_sub (fun _ h => List.mem_append_right _ h) (by decide +kernel))) (goodIn_sub (fun _ h => List.mem_append_left _ (List.mem_append_right _ h)) (by decide +kernel))
set_option maxRecDepth 20000 in
theorem gL_law_L_leak : GoodIn wsL_law (va_wsS RL 111 yL_leak wsL_leak) := goodIn_app (goodIn_of _ (by decide +kernel)) ggL_law_L_leak
set_option maxRecDepth 20000 in
theorem ggL_law_L_receive : GoodIn wsL_law wsL_receive := goodIn_ca (goodIn_r _ [161, 96, 162, 163, 164, 2, 165, 24, 101, 102, 103, 104, 105, 106, 394, 395, 396, 397, 398, 399, 400, 401, 402, 403, 404, 405, 406, 407, 408, 409, 410, 411, 412, 413, 414] (by decide +kernel) (by decide +kernel)) (goodIn_sub (fun _ h => List.mem_append_right _ h) (by decide +kernel))
set_option maxRecDepth 20000 in
theorem gL_law_L_receive : GoodIn wsL_law (va_wsS RL 113 yL_receive wsL_receive) := goodIn_app (goodIn_of _ (by decide +kernel)) ggL_law_L_receive
set_option maxRecDepth 20000 in
theorem ggL_law_L_empty : GoodIn wsL_law wsL_empty := goodIn_ca (goodIn_r _ [168, 96, 169, 170, 171, 2, 172, 16, 101, 102, 103, 104, 105, 106, 173, 34, 174, 175, 176, 62, 177, 394, 395, 396, 397, 398, 399, 400, 401, 402, 403, 404, 405, 406, 407, 408, 409, 410, 440, 441, 442, 443] (by decide +kernel) (by decide +kernel)) (goodIn_sub (fun _ h => List.mem_append_right _ h) (by decide +kernel))
set_option maxRecDepth 20000 in
theorem gL_law_L_empty : GoodIn wsL_law (va_wsS RL 115 yL_empty wsL_empty) := goodIn_app (goodIn_of _ (by decide +kernel)) ggL_law_L_empty
set_option maxRecDepth 20000 in
theorem ggL_law_L_tank : GoodIn wsL_law wsL_tank := goodIn_ca (goodIn_ca (goodIn_r _ [180, 96, 72, 181, 182, 183, 2, 184, 16, 101, 102, 103, 104, 105, 106, 82, 83, 84, 85, 86, 87, 394, 395, 396, 397, 398, 399, 400, 401, 402, 403, 404, 405, 406, 407, 408, 409, 410, 440, 441, 442, 443] (by decide +kernel) (by decide +kernel)) (goodIn_sub (fun _ h => List.mem_append_right _ h) (by decide +kernel))) (goodIn_sub (fun _ h => List.mem_append_left _ (List.mem_append_right _ h)) (by decide +kernel))
set_option maxRecDepth 20000 in
theorem gL_law_L_tank : GoodIn wsL_law (va_wsS RL 92 yL_tank wsL_tank) := goodIn_app (goodIn_of _ (by decide +kernel)) ggL_law_L_tank
set_option maxRecDepth 20000 in
theorem ggL_law_L_pipe : GoodIn wsL_law wsL_pipe := goodIn_ca (goodIn_r _ [187, 72, 188, 189, 190, 2, 191, 192, 26, 193, 82, 83, 84, 85, 86, 87, 194, 195, 196, 197, 18, 198, 199, 200, 201, 16, 394, 395, 396, 397, 398, 399, 400, 401, 402, 403, 404, 405, 406, 407, 408, 409, 410, 440, 441, 442, 443] (by decide +kernel) (by decide +kernel)) (goodIn_sub (fun _ h => List.mem_append_left _ (List.mem_append_right _ h)) (by decide +kernel))
set_option maxRecDepth 20000 in
theorem gL_law_L_pipe : GoodIn wsL_law (va_wsS RL 80 yL_pipe wsL_pipe) := goodIn_app (goodIn_of _ (by decide +kernel)) ggL_law_L_pipe
set_option maxRecDepth 20000 in
theorem ggL_law_L_launch : GoodIn wsL_law wsL_launch := goodIn_ca (goodIn_r _ [204, 73, 205, 206, 207, 2, 208, 78, 79, 80, 26, 35, 209, 210, 211, 212, 394, 395, 396, 397, 398, 399, 400, 401, 402, 403, 404, 405, 406, 407, 408, 409, 410, 427, 428, 429, 430, 431, 432, 433, 434, 435, 436, 437, 438, 439] (by decide +kernel) (by decide +kernel)) (goodIn_sub (fun _ h => List.mem_append_left _ (List.mem_append_left _ (List.mem_append_right _ h))) (by decide +kernel))
set_option maxRecDepth 20000 in
theorem gL_law_L_launch : GoodIn wsL_law (va_wsS RL 117 yL_launch wsL_launch) := goodIn_app (goodIn_of _ (by decide +kernel)) ggL_law_L_launch
set_option maxRecDepth 20000 in
theorem ggL_law_L_rate : GoodIn wsL_law wsL_rate := goodIn_ca (goodIn_r _ [215, 72, 216, 217, 218, 2, 219, 220, 82, 83, 84, 85, 86, 87, 394, 395, 396, 397, 398, 399, 400, 401, 402, 403, 404, 405, 406, 407, 408, 409, 410] (by decide +kernel) (by decide +kernel)) (goodIn_sub (fun _ h => List.mem_append_left _ (List.mem_append_right _ h)) (by decide +kernel))
set_option maxRecDepth 20000 in
theorem gL_law_L_rate : GoodIn wsL_law (va_wsS RL 120 yL_rate wsL_rate) := goodIn_app (goodIn_of _ (by decide +kernel)) ggL_law_L_rate
set_option maxRecDepth 20000 in
theorem ggL_law_L_pass : GoodIn wsL_law wsL_pass := goodIn_ca (goodIn_ca (goodIn_r _ [223, 72, 73, 224, 225, 226, 2, 227, 78, 79, 80, 193, 82, 83, 84, 85, 86, 87, 228, 229, 230, 231, 22, 23, 24, 192, 18, 232, 233, 234, 235, 220, 236, 237, 238, 239, 81, 10, 240, 241, 242, 243, 244, 28, 245, 246, 247, 45, 43, 248, 249, 250, 251, 25, 14, 252, 253, 254, 255, 12, 256, 257, 258, 259, 260, 261, 262, 263, 264, 265, 266, 267, 268, 269, 270, 271, 35, 272, 32, 273, 274, 117, 275, 276, 30, 277, 278, 140, 51, 279, 280, 281, 282, 283, 21, 284, 285, 39, 286, 121, 287, 288, 289, 290, 16, 26, 291, 292, 293, 294, 295, 296, 297, 298, 299, 300, 301, 302, 303, 304, 305, 306, 307, 308, 34, 309, 310, 176, 311, 62, 312, 177, 313, 314, 315, 316, 317, 318, 319, 320, 209, 210, 211, 212, 321, 322, 323, 324, 325, 326, 327, 328, 329, 330, 394, 395, 396, 397, 398, 399, 400, 401, 402, 403, 404, 405, 406, 407, 408, 409, 410, 411, 412, 413, 414, 415, 416, 417, 418, 419, 420, 421, 427, 428, 429, 430, 431, 432, 433, 434, 435, 436, 437, 438, 439, 422, 423, 424, 425, 426, 440, 441, 442, 443] (by decide +kernel) (by decide +kernel)) (goodIn_sub (fun _ h => List.mem_append_left _ (List.mem_append_left _ (List.mem_append_right _ h))) (by decide +kernel))) (goodIn_sub (fun _ h => List.mem_append_left _ (List.mem_append_right _ h)) (by decide +kernel))
set_option maxRecDepth 20000 in
theorem gL_law_L_pass : GoodIn wsL_law (va_wsS RL 122 yL_pass wsL_pass) := goodIn_app (goodIn_of _ (by decide +kernel)) ggL_law_L_pass
set_option maxRecDepth 20000 in
theorem ggL_law_L_share : GoodIn wsL_law wsL_share := goodIn_ca (goodIn_ca (goodIn_r _ [333, 96, 72, 334, 335, 336, 2, 337, 328, 329, 262, 330, 101, 102, 103, 104, 105, 106, 82, 83, 84, 85, 86, 87, 338, 339, 340, 341, 25, 14, 272, 32, 273, 274, 117, 275, 342, 343, 344, 345, 394, 395, 396, 397, 398, 399, 400, 401, 402, 403, 404, 405, 406, 407, 408, 409, 410, 427, 428, 429, 430, 431, 432, 433, 434, 435, 436, 437, 438, 439] (by decide +kernel) (by decide +kernel)) (goodIn_sub (fun _ h => List.mem_append_right _ h) (by decide +kernel))) (goodIn_sub (fun _ h => List.mem_append_left _ (List.mem_append_right _ h)) (by decide +kernel))
set_option maxRecDepth 20000 in
theorem gL_law_L_share : GoodIn wsL_law (va_wsS RL 124 yL_share wsL_share) := goodIn_app (goodIn_of _ (by decide +kernel)) ggL_law_L_share
set_option maxRecDepth 20000 in
theorem ggL_law_L_fits : GoodIn wsL_law wsL_fits := goodIn_ca (goodIn_ca (goodIn_r _ [348, 185, 186, 65, 187, 72, 188, 189, 190, 2, 191, 192, 26, 193, 82, 83, 84, 85, 86, 87, 194, 195, 196, 197, 18, 198, 199, 200, 201, 16, 349, 350, 351, 96, 352, 353, 354, 355, 105, 106, 25, 80, 14, 101, 102, 103, 104, 356, 32, 357, 358, 275, 359, 360, 361, 272, 273, 274, 117, 299, 300, 301, 302, 303, 304, 305, 306, 307, 362, 363, 364, 365, 366, 367, 368, 81, 10, 369, 370, 371, 372, 244, 28, 245, 246, 247, 45, 43, 248, 249, 250, 251, 373, 374, 375, 376, 377, 378, 379, 178, 179, 180, 181, 182, 183, 184, 394, 395, 396, 397, 398, 399, 400, 401, 402, 403, 404, 405, 406, 407, 408, 409, 410, 440, 441, 442, 443, 427, 428, 429, 430, 431, 432, 433, 434, 435, 436, 437, 438, 439, 422, 423, 424, 425, 426, 415, 416, 417, 418, 419, 420, 421] (by decide +kernel) (by decide +kernel)) (goodIn_sub (fun _ h => List.mem_append_left _ (List.mem_append_right _ h)) (by decide +kernel))) (goodIn_sub (fun _ h => List.mem_append_right _ h) (by decide +kernel))
set_option maxRecDepth 20000 in
theorem gL_law_L_fits : GoodIn wsL_law (va_wsS RL 126 yL_fits wsL_fits) := goodIn_app (goodIn_of _ (by decide +kernel)) ggL_law_L_fits
set_option maxRecDepth 20000 in
theorem ggL_law_L_dirt : GoodIn wsL_law wsL_dirt := goodIn_ca (goodIn_r _ [382, 96, 383, 384, 385, 2, 386, 81, 10, 101, 102, 103, 104, 105, 106, 394, 395, 396, 397, 398, 399, 400, 401, 402, 403, 404, 405, 406, 407, 408, 409, 410, 415, 416, 417, 418, 419, 420, 421] (by decide +kernel) (by decide +kernel)) (goodIn_sub (fun _ h => List.mem_append_right _ h) (by decide +kernel))
set_option maxRecDepth 20000 in
theorem gL_law_L_dirt : GoodIn wsL_law (va_wsS RL 130 yL_dirt wsL_dirt) := goodIn_app (goodIn_of _ (by decide +kernel)) ggL_law_L_dirt
set_option maxRecDepth 20000 in
theorem ggL_law_L_pressure : GoodIn wsL_law wsL_pressure := goodIn_ca (goodIn_ca (goodIn_ca (goodIn_r _ [389, 96, 72, 73, 390, 391, 392, 2, 393, 78, 79, 81, 80, 10, 101, 102, 103, 104, 105, 106, 82, 83, 84, 85, 86, 87, 240, 241, 242, 243, 244, 28, 245, 246, 247, 45, 43, 248, 249, 250, 251, 25, 14, 252, 253, 254, 255, 12, 256, 257, 258, 259, 260, 261, 262, 263, 394, 395, 396, 397, 398, 399, 400, 401, 402, 403, 404, 405, 406, 407, 408, 409, 410, 427, 428, 429, 430, 431, 432, 433, 434, 435, 436, 437, 438, 439, 422, 423, 424, 425, 426, 415, 416, 417, 418, 419, 420, 421] (by decide +kernel) (by decide +kernel)) (goodIn_sub (fun _ h => List.mem_append_left _ (List.mem_append_left _ (List.mem_append_right _ h))) (by decide +kernel))) (goodIn_sub (fun _ h => List.mem_append_right _ h) (by decide +kernel))) (goodIn_sub (fun _ h => List.mem_append_left _ (List.mem_append_right _ h)) (by decide +kernel))
set_option maxRecDepth 20000 in
theorem gL_law_L_pressure : GoodIn wsL_law (va_wsS RL 132 yL_pressure wsL_pressure) := goodIn_app (goodIn_of _ (by decide +kernel)) ggL_law_L_pressure
