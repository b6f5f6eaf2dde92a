set_option maxRecDepth 20000 in
theorem ggL_law_X5_init : GoodIn wsL_law wsX5_init := goodIn_r _ [9, 10, 11, 12, 13, 14, 15, 16, 17, 18, 19, 20, 21, 22, 23, 24, 25, 26, 27, 28, 29, 30, 31, 32, 33, 34, 35, 36, 37, 38, 39, 40, 41, 42, 43, 44, 45, 46, 47, 48, 49, 50, 51, 52, 53, 54, 55, 56, 57, 58, 59, 60, 61, 62, 63, 64, 65, 66, 614, 615, 616, 617, 618, 619, 620, 621, 622, 623, 624, 625, 626, 627, 628, 629, 630, 676, 677, 678, 679, 680, 681, 682, 683, 684, 685, 686, 687, 688, 689, 690, 691, 692, 693, 694, 695, 696, 697, 698, 699, 700, 701, 702, 703, 704, 705, 706, 707, 708] (by decide +kernel) (by decide +kernel)
set_option maxRecDepth 20000 in
theorem gL_law_X5_init : GoodIn wsL_law (wsX5_init) := ggL_law_X5_init
set_option maxRecDepth 20000 in
theorem ggL_law_X6_init : GoodIn wsL_law wsX6_init := goodIn_r _ [69, 70, 11, 12, 21, 71, 72, 73, 74, 75, 76, 77, 78, 79, 80, 81, 82, 83, 84, 85, 86, 87, 88, 89, 90, 91, 92, 93, 94, 95, 96, 97, 98, 631, 632, 633, 634, 635, 636, 637, 638, 639, 640, 641, 642, 643, 644, 645, 646, 647, 648, 649, 650, 651, 652, 653, 654, 655, 656, 657, 658, 659, 660, 661, 662, 663, 664, 665, 666, 667, 668, 669, 670, 671, 672, 673, 674, 675] (by decide +kernel) (by decide +kernel)
set_option maxRecDepth 20000 in
theorem gL_law_X6_init : GoodIn wsL_law (wsX6_init) := ggL_law_X6_init
set_option maxRecDepth 20000 in
theorem ggL_law_L_segment : GoodIn wsL_law wsL_segment := goodIn_ca (goodIn_ca (goodIn_r _ [102, 103, 104, 105, 106, 107, 2, 108, 109, 110, 111, 112, 14, 113, 114, 115, 116, 117, 118, 119, 32, 120, 121, 49, 122, 123, 614, 615, 616, 617, 618, 619, 620, 621, 622, 623, 624, 625, 626, 627, 628, 629, 630, 680, 681, 682, 683, 684, 685, 686] (by decide +kernel) (by decide +kernel)) (goodIn_sub (fun _ h => List.mem_append_left _ (List.mem_append_left _ (List.mem_append_right _ h))) (by decide +kernel))) (goodIn_sub (fun _ h => List.mem_append_left _ (List.mem_append_right _ h)) (by decide +kernel))
set_option maxRecDepth 20000 in
theorem gL_law_L_segment : GoodIn wsL_law (va_wsS RL 82 yL_segment wsL_segment) := goodIn_app (goodIn_of _ (by decide +kernel)) ggL_law_L_segment
set_option maxRecDepth 20000 in
theorem ggL_law_X6_segment : GoodIn wsL_law wsX6_segment := goodIn_r _ [127, 128, 129, 71, 72, 73, 130, 131, 5, 132, 133, 134, 135, 136, 137, 631, 632, 633, 634, 635, 636, 637, 638, 639, 640, 641, 642, 643, 644, 645, 646, 647, 648, 649, 650, 651, 652, 653, 654, 655, 656, 657, 658, 659, 660, 661, 662, 663, 664, 665, 666, 667, 668, 669, 670, 671, 672, 673, 674, 675] (by decide +kernel) (by decide +kernel)
set_option maxRecDepth 20000 in
theorem gL_law_X6_segment : GoodIn wsL_law (wsV RL 87 RX6 yX6_segment wsX6_segment) := goodIn_app (goodIn_of _ (by decide +kernel)) ggL_law_X6_segment
set_option maxRecDepth 20000 in
theorem ggL_law_X6_thrown : GoodIn wsL_law wsX6_thrown := goodIn_r _ [141, 137, 631, 632, 633, 634, 635, 636, 637, 638, 639, 640, 641, 642, 643, 644, 645, 646, 647, 648, 649, 650, 651, 652, 653, 654, 655, 656, 657, 658, 659, 660, 661, 662, 663, 664, 665, 666, 667, 668, 669, 670, 671, 672, 673, 674, 675] (by decide +kernel) (by decide +kernel)
set_option maxRecDepth 20000 in
theorem gL_law_X6_thrown : GoodIn wsL_law (wsV RL 88 RX6 yX6_thrown wsX6_thrown) := goodIn_app (goodIn_of _ (by decide +kernel)) ggL_law_X6_thrown
set_option maxRecDepth 20000 in
theorem ggL_law_L_product : GoodIn wsL_law wsL_product := goodIn_ca (goodIn_ca (goodIn_r _ [144, 145, 103, 146, 147, 148, 2, 149, 117, 118, 16, 150, 151, 152, 153, 154, 155, 113, 114, 115, 116, 156, 34, 157, 158, 53, 54, 56, 159, 614, 615, 616, 617, 618, 619, 620, 621, 622, 623, 624, 625, 626, 627, 628, 629, 630, 687, 688, 689, 690, 691] (by decide +kernel) (by decide +kernel)) (goodIn_sub (fun _ h => List.mem_append_left _ (List.mem_append_right _ h)) (by decide +kernel))) (goodIn_sub (fun _ h => List.mem_append_right _ h) (by decide +kernel))
set_option maxRecDepth 20000 in
theorem gL_law_L_product : GoodIn wsL_law (va_wsS RL 92 yL_product wsL_product) := goodIn_app (goodIn_of _ (by decide +kernel)) ggL_law_L_product
set_option maxRecDepth 20000 in
theorem ggL_law_X6_product : GoodIn wsL_law wsX6_product := goodIn_r _ [163, 75, 76, 77, 78, 164, 165, 5, 166, 130, 131, 132, 133, 134, 135, 136, 137, 631, 632, 633, 634, 635, 636, 637, 638, 639, 640, 641, 642, 643, 644, 645, 646, 647, 648, 649, 650, 651, 652, 653, 654, 655, 656, 657, 658, 659, 660, 661, 662, 663, 664, 665, 666, 667, 668, 669, 670, 671, 672, 673, 674, 675] (by decide +kernel) (by decide +kernel)
set_option maxRecDepth 20000 in
theorem gL_law_X6_product : GoodIn wsL_law (wsV RL 95 RX6 yX6_product wsX6_product) := goodIn_app (goodIn_of _ (by decide +kernel)) ggL_law_X6_product
set_option maxRecDepth 20000 in
theorem ggL_law_L_open : GoodIn wsL_law wsL_open := goodIn_ca (goodIn_ca (goodIn_r _ [169, 145, 104, 170, 171, 172, 2, 173, 109, 110, 111, 112, 18, 16, 28, 150, 151, 152, 153, 154, 155, 174, 175, 176, 177, 14, 178, 32, 179, 180, 49, 47, 48, 181, 36, 182, 183, 60, 62, 184, 185, 25, 186, 187, 43, 188, 189, 614, 615, 616, 617, 618, 619, 620, 621, 622, 623, 624, 625, 626, 627, 628, 629, 630, 692, 693, 694, 695, 696, 697, 698, 699, 700, 701, 702, 703, 704, 676, 677, 678, 679, 680, 681, 682, 683, 684, 685, 686] (by decide +kernel) (by decide +kernel)) (goodIn_sub (fun _ h => List.mem_append_left _ (List.mem_append_left _ (List.mem_append_right _ h))) (by decide +kernel))) (goodIn_sub (fun _ h => List.mem_append_right _ h) (by decide +kernel))
set_option maxRecDepth 20000 in
theorem gL_law_L_open : GoodIn wsL_law (va_wsS RL 96 yL_open wsL_open) := goodIn_app (goodIn_of _ (by decide +kernel)) ggL_law_L_open
set_option maxRecDepth 20000 in
theorem ggL_law_X6_open : GoodIn wsL_law wsX6_open := goodIn_r _ [193, 129, 128, 194, 71, 81, 82, 83, 195, 91, 92, 164, 165, 5, 166, 130, 131, 132, 133, 134, 135, 136, 137, 631, 632, 633, 634, 635, 636, 637, 638, 639, 640, 641, 642, 643, 644, 645, 646, 647, 648, 649, 650, 651, 652, 653, 654, 655, 656, 657, 658, 659, 660, 661, 662, 663, 664, 665, 666, 667, 668, 669, 670, 671, 672, 673, 674, 675] (by decide +kernel) (by decide +kernel)
set_option maxRecDepth 20000 in
theorem gL_law_X6_open : GoodIn wsL_law (wsV RL 99 RX6 yX6_open wsX6_open) := goodIn_app (goodIn_of _ (by decide +kernel)) ggL_law_X6_open
set_option maxRecDepth 20000 in
theorem ggL_law_L_order : GoodIn wsL_law wsL_order := goodIn_ca (goodIn_ca (goodIn_ca (goodIn_r _ [198, 145, 103, 104, 199, 200, 201, 2, 202, 109, 110, 29, 18, 16, 150, 151, 152, 153, 154, 155, 113, 114, 115, 116, 117, 118, 181, 36, 182, 183, 60, 62, 184, 614, 615, 616, 617, 618, 619, 620, 621, 622, 623, 624, 625, 626, 627, 628, 629, 630, 692, 693, 694, 695, 696, 697, 698, 699, 700, 701, 702, 703, 704] (by decide +kernel) (by decide +kernel)) (goodIn_sub (fun _ h => List.mem_append_left _ (List.mem_append_left _ (List.mem_append_right _ h))) (by decide +kernel))) (goodIn_sub (fun _ h => List.mem_append_right _ h) (by decide +kernel))) (goodIn_sub (fun _ h => List.mem_append_left _ (List.mem_append_right _ h)) (by decide +kernel))
set_option maxRecDepth 20000 in
theorem gL_law_L_order : GoodIn wsL_law (va_wsS RL 100 yL_order wsL_order) := goodIn_app (goodIn_of _ (by decide +kernel)) ggL_law_L_order
set_option maxRecDepth 20000 in
theorem ggL_law_X6_order : GoodIn wsL_law wsX6_order := goodIn_r _ [206, 79, 80, 81, 82, 207, 208, 5, 209, 130, 131, 132, 164, 165, 166, 133, 134, 135, 136, 137, 631, 632, 633, 634, 635, 636, 637, 638, 639, 640, 641, 642, 643, 644, 645, 646, 647, 648, 649, 650, 651, 652, 653, 654, 655, 656, 657, 658, 659, 660, 661, 662, 663, 664, 665, 666, 667, 668, 669, 670, 671, 672, 673, 674, 675] (by decide +kernel) (by decide +kernel)
set_option maxRecDepth 20000 in
theorem gL_law_X6_order : GoodIn wsL_law (wsV RL 102 RX6 yX6_order wsX6_order) := goodIn_app (goodIn_of _ (by decide +kernel)) ggL_law_X6_order
set_option maxRecDepth 20000 in
theorem ggL_law_L_rate : GoodIn wsL_law wsL_rate := goodIn_ca (goodIn_r _ [212, 103, 213, 214, 215, 2, 216, 217, 113, 114, 115, 116, 117, 118, 614, 615, 616, 617, 618, 619, 620, 621, 622, 623, 624, 625, 626, 627, 628, 629, 630] (by decide +kernel) (by decide +kernel)) (goodIn_sub (fun _ h => List.mem_append_left _ (List.mem_append_right _ h)) (by decide +kernel))
set_option maxRecDepth 20000 in
theorem gL_law_L_rate : GoodIn wsL_law (va_wsS RL 103 yL_rate wsL_rate) := goodIn_app (goodIn_of _ (by decide +kernel)) ggL_law_L_rate
set_option maxRecDepth 20000 in
theorem ggL_law_X6_rate : GoodIn wsL_law wsX6_rate := goodIn_r _ [221, 222, 130, 131, 5, 132, 133, 134, 135, 136, 137, 631, 632, 633, 634, 635, 636, 637, 638, 639, 640, 641, 642, 643, 644, 645, 646, 647, 648, 649, 650, 651, 652, 653, 654, 655, 656, 657, 658, 659, 660, 661, 662, 663, 664, 665, 666, 667, 668, 669, 670, 671, 672, 673, 674, 675] (by decide +kernel) (by decide +kernel)
set_option maxRecDepth 20000 in
theorem gL_law_X6_rate : GoodIn wsL_law (wsV RL 105 RX6 yX6_rate wsX6_rate) := goodIn_app (goodIn_of _ (by decide +kernel)) ggL_law_X6_rate
set_option maxRecDepth 20000 in
theorem ggL_law_L_drop : GoodIn wsL_law wsL_drop := goodIn_ca (goodIn_ca (goodIn_r _ [225, 145, 103, 226, 227, 228, 2, 229, 27, 230, 231, 232, 233, 112, 150, 151, 152, 153, 154, 155, 113, 114, 115, 116, 117, 118, 185, 25, 186, 187, 43, 188, 189, 614, 615, 616, 617, 618, 619, 620, 621, 622, 623, 624, 625, 626, 627, 628, 629, 630, 676, 677, 678, 679] (by decide +kernel) (by decide +kernel)) (goodIn_sub (fun _ h => List.mem_append_right _ h) (by decide +kernel))) (goodIn_sub (fun _ h => List.mem_append_left _ (List.mem_append_right _ h)) (by decide +kernel))
set_option maxRecDepth 20000 in
theorem gL_law_L_drop : GoodIn wsL_law (va_wsS RL 106 yL_drop wsL_drop) := goodIn_app (goodIn_of _ (by decide +kernel)) ggL_law_L_drop
set_option maxRecDepth 20000 in
theorem ggL_law_X6_drop : GoodIn wsL_law wsX6_drop := goodIn_r _ [237, 93, 238, 239, 240, 241, 242, 5, 243, 128, 130, 131, 132, 244, 245, 246, 133, 134, 135, 136, 137, 631, 632, 633, 634, 635, 636, 637, 638, 639, 640, 641, 642, 643, 644, 645, 646, 647, 648, 649, 650, 651, 652, 653, 654, 655, 656, 657, 658, 659, 660, 661, 662, 663, 664, 665, 666, 667, 668, 669, 670, 671, 672, 673, 674, 675] (by decide +kernel) (by decide +kernel)
set_option maxRecDepth 20000 in
theorem gL_law_X6_drop : GoodIn wsL_law (wsV RL 109 RX6 yX6_drop wsX6_drop) := goodIn_app (goodIn_of _ (by decide +kernel)) ggL_law_X6_drop
set_option maxRecDepth 20000 in
theorem ggL_law_L_leak : GoodIn wsL_law wsL_leak := goodIn_ca (goodIn_ca (goodIn_r _ [249, 145, 103, 250, 251, 252, 2, 253, 26, 230, 231, 232, 233, 112, 150, 151, 152, 153, 154, 155, 113, 114, 115, 116, 117, 118, 185, 25, 186, 187, 43, 188, 189, 614, 615, 616, 617, 618, 619, 620, 621, 622, 623, 624, 625, 626, 627, 628, 629, 630, 676, 677, 678, 679] (by decide +kernel) (by decide +kernel)) (goodIn_sub (fun _ h => List.mem_append_right _ h) (by decide +kernel))) (goodIn_sub (fun _ h => List.mem_append_left _ (List.mem_append_right _ h)) (by decide +kernel))
set_option maxRecDepth 20000 in
theorem gL_law_L_leak : GoodIn wsL_law (va_wsS RL 110 yL_leak wsL_leak) := goodIn_app (goodIn_of _ (by decide +kernel)) ggL_law_L_leak
set_option maxRecDepth 20000 in
theorem ggL_law_X6_leak : GoodIn wsL_law wsX6_leak := goodIn_r _ [257, 94, 258, 240, 241, 242, 5, 243, 128, 130, 131, 132, 133, 134, 135, 136, 137, 631, 632, 633, 634, 635, 636, 637, 638, 639, 640, 641, 642, 643, 644, 645, 646, 647, 648, 649, 650, 651, 652, 653, 654, 655, 656, 657, 658, 659, 660, 661, 662, 663, 664, 665, 666, 667, 668, 669, 670, 671, 672, 673, 674, 675] (by decide +kernel) (by decide +kernel)
set_option maxRecDepth 20000 in
theorem gL_law_X6_leak : GoodIn wsL_law (wsV RL 113 RX6 yX6_leak wsX6_leak) := goodIn_app (goodIn_of _ (by decide +kernel)) ggL_law_X6_leak
set_option maxRecDepth 20000 in
theorem ggL_law_L_receive : GoodIn wsL_law wsL_receive := goodIn_ca (goodIn_r _ [261, 145, 262, 263, 264, 2, 265, 28, 150, 151, 152, 153, 154, 155, 614, 615, 616, 617, 618, 619, 620, 621, 622, 623, 624, 625, 626, 627, 628, 629, 630, 676, 677, 678, 679] (by decide +kernel) (by decide +kernel)) (goodIn_sub (fun _ h => List.mem_append_right _ h) (by decide +kernel))
set_option maxRecDepth 20000 in
theorem gL_law_L_receive : GoodIn wsL_law (va_wsS RL 114 yL_receive wsL_receive) := goodIn_app (goodIn_of _ (by decide +kernel)) ggL_law_L_receive
set_option maxRecDepth 20000 in
theorem ggL_law_X6_receive : GoodIn wsL_law wsX6_receive := goodIn_r _ [269, 270, 244, 245, 5, 246, 130, 131, 132, 133, 134, 135, 136, 137, 631, 632, 633, 634, 635, 636, 637, 638, 639, 640, 641, 642, 643, 644, 645, 646, 647, 648, 649, 650, 651, 652, 653, 654, 655, 656, 657, 658, 659, 660, 661, 662, 663, 664, 665, 666, 667, 668, 669, 670, 671, 672, 673, 674, 675] (by decide +kernel) (by decide +kernel)
set_option maxRecDepth 20000 in
theorem gL_law_X6_receive : GoodIn wsL_law (wsV RL 116 RX6 yX6_receive wsX6_receive) := goodIn_app (goodIn_of _ (by decide +kernel)) ggL_law_X6_receive
set_option maxRecDepth 20000 in
theorem ggL_law_L_empty : GoodIn wsL_law wsL_empty := goodIn_ca (goodIn_r _ [273, 145, 274, 275, 276, 2, 277, 20, 150, 151, 152, 153, 154, 155, 278, 38, 279, 280, 281, 66, 282, 614, 615, 616, 617, 618, 619, 620, 621, 622, 623, 624, 625, 626, 627, 628, 629, 630, 705, 706, 707, 708] (by decide +kernel) (by decide +kernel)) (goodIn_sub (fun _ h => List.mem_append_right _ h) (by decide +kernel))
set_option maxRecDepth 20000 in
theorem gL_law_L_empty : GoodIn wsL_law (va_wsS RL 117 yL_empty wsL_empty) := goodIn_app (goodIn_of _ (by decide +kernel)) ggL_law_L_empty
set_option maxRecDepth 20000 in
theorem ggL_law_X6_empty : GoodIn wsL_law wsX6_empty := goodIn_r _ [286, 95, 97, 96, 244, 245, 5, 246, 130, 131, 132, 133, 134, 135, 136, 137, 631, 632, 633, 634, 635, 636, 637, 638, 639, 640, 641, 642, 643, 644, 645, 646, 647, 648, 649, 650, 651, 652, 653, 654, 655, 656, 657, 658, 659, 660, 661, 662, 663, 664, 665, 666, 667, 668, 669, 670, 671, 672, 673, 674, 675] (by decide +kernel) (by decide +kernel)
set_option maxRecDepth 20000 in
theorem gL_law_X6_empty : GoodIn wsL_law (wsV RL 119 RX6 yX6_empty wsX6_empty) := goodIn_app (goodIn_of _ (by decide +kernel)) ggL_law_X6_empty
set_option maxRecDepth 20000 in
theorem ggL_law_L_launch : GoodIn wsL_law wsL_launch := goodIn_ca (goodIn_r _ [289, 104, 290, 291, 292, 2, 293, 109, 110, 111, 30, 39, 294, 295, 296, 297, 614, 615, 616, 617, 618, 619, 620, 621, 622, 623, 624, 625, 626, 627, 628, 629, 630, 692, 693, 694, 695, 696, 697, 698, 699, 700, 701, 702, 703, 704] (by decide +kernel) (by decide +kernel)) (goodIn_sub (fun _ h => List.mem_append_left _ (List.mem_append_left _ (List.mem_append_right _ h))) (by decide +kernel))
set_option maxRecDepth 20000 in
theorem gL_law_L_launch : GoodIn wsL_law (va_wsS RL 120 yL_launch wsL_launch) := goodIn_app (goodIn_of _ (by decide +kernel)) ggL_law_L_launch
set_option maxRecDepth 20000 in
theorem ggL_law_X6_launch : GoodIn wsL_law wsX6_launch := goodIn_r _ [301, 129, 302, 91, 194, 303, 92, 304, 133, 134, 135, 5, 136, 137, 631, 632, 633, 634, 635, 636, 637, 638, 639, 640, 641, 642, 643, 644, 645, 646, 647, 648, 649, 650, 651, 652, 653, 654, 655, 656, 657, 658, 659, 660, 661, 662, 663, 664, 665, 666, 667, 668, 669, 670, 671, 672, 673, 674, 675] (by decide +kernel) (by decide +kernel)
set_option maxRecDepth 20000 in
theorem gL_law_X6_launch : GoodIn wsL_law (wsV RL 123 RX6 yX6_launch wsX6_launch) := goodIn_app (goodIn_of _ (by decide +kernel)) ggL_law_X6_launch
set_option maxRecDepth 20000 in
theorem ggL_law_L_pass : GoodIn wsL_law wsL_pass := goodIn_ca (goodIn_ca (goodIn_r _ [307, 103, 104, 308, 309, 310, 2, 311, 109, 110, 111, 312, 113, 114, 115, 116, 117, 118, 313, 314, 315, 316, 26, 27, 28, 317, 22, 318, 319, 320, 321, 217, 322, 323, 324, 325, 112, 14, 326, 327, 328, 329, 330, 32, 331, 332, 333, 49, 47, 334, 335, 336, 337, 29, 18, 338, 339, 340, 341, 16, 342, 343, 344, 345, 346, 347, 348, 349, 350, 351, 352, 353, 354, 355, 356, 357, 39, 358, 36, 359, 360, 184, 361, 362, 34, 363, 364, 159, 55, 365, 366, 367, 368, 369, 25, 370, 371, 43, 372, 188, 373, 374, 375, 376, 20, 30, 377, 378, 379, 380, 381, 382, 383, 384, 385, 386, 387, 388, 389, 390, 391, 392, 393, 394, 38, 395, 396, 281, 397, 66, 398, 282, 399, 400, 401, 402, 403, 404, 405, 406, 294, 295, 296, 297, 407, 408, 409, 410, 411, 412, 413, 414, 415, 416, 614, 615, 616, 617, 618, 619, 620, 621, 622, 623, 624, 625, 626, 627, 628, 629, 630, 676, 677, 678, 679, 680, 681, 682, 683, 684, 685, 686, 692, 693, 694, 695, 696, 697, 698, 699, 700, 701, 702, 703, 704, 687, 688, 689, 690, 691, 705, 706, 707, 708] (by decide +kernel) (by decide +kernel)) (goodIn_sub (fun _ h => List.mem_append_left _ (List.mem_append_left _ (List.mem_append_right _ h))) (by decide +kernel))) (goodIn_sub (fun _ h => List.mem_append_left _ (List.mem_append_right _ h)) (by decide +kernel))
set_option maxRecDepth 20000 in
theorem gL_law_L_pass : GoodIn wsL_law (va_wsS RL 124 yL_pass wsL_pass) := goodIn_app (goodIn_of _ (by decide +kernel)) ggL_law_L_pass
set_option maxRecDepth 20000 in
theorem ggL_law_X6_pass : GoodIn wsL_law wsX6_pass := goodIn_r _ [420, 129, 421, 130, 131, 5, 132, 133, 134, 135, 136, 137, 422, 423, 424, 425, 426, 94, 258, 427, 93, 238, 128, 74, 98, 428, 429, 430, 431, 222, 73, 432, 433, 434, 435, 71, 76, 81, 91, 75, 72, 436, 437, 438, 439, 440, 441, 442, 443, 79, 83, 82, 194, 78, 444, 445, 446, 447, 448, 449, 450, 92, 87, 88, 89, 195, 451, 452, 453, 454, 302, 303, 304, 84, 270, 86, 85, 239, 90, 455, 456, 457, 458, 459, 460, 461, 462, 95, 463, 77, 96, 97, 464, 465, 466, 467, 468, 469, 470, 471, 472, 473, 474, 475, 476, 477, 478, 631, 632, 633, 634, 635, 636, 637, 638, 639, 640, 641, 642, 643, 644, 645, 646, 647, 648, 649, 650, 651, 652, 653, 654, 655, 656, 657, 658, 659, 660, 661, 662, 663, 664, 665, 666, 667, 668, 669, 670, 671, 672, 673, 674, 675] (by decide +kernel) (by decide +kernel)
set_option maxRecDepth 20000 in
theorem gL_law_X6_pass : GoodIn wsL_law (wsV RL 126 RX6 yX6_pass wsX6_pass) := goodIn_app (goodIn_of _ (by decide +kernel)) ggL_law_X6_pass
set_option maxRecDepth 20000 in
theorem ggL_law_L_batch : GoodIn wsL_law wsL_batch := goodIn_ca (goodIn_ca (goodIn_r _ [481, 145, 103, 482, 483, 484, 2, 485, 154, 155, 29, 111, 18, 150, 151, 152, 153, 113, 114, 115, 116, 117, 118, 486, 36, 487, 488, 361, 489, 490, 491, 358, 359, 360, 184, 385, 386, 387, 388, 389, 390, 391, 392, 393, 614, 615, 616, 617, 618, 619, 620, 621, 622, 623, 624, 625, 626, 627, 628, 629, 630, 692, 693, 694, 695, 696, 697, 698, 699, 700, 701, 702, 703, 704, 687, 688, 689, 690, 691] (by decide +kernel) (by decide +kernel)) (goodIn_sub (fun _ h => List.mem_append_right _ h) (by decide +kernel))) (goodIn_sub (fun _ h => List.mem_append_left _ (List.mem_append_right _ h)) (by decide +kernel))
set_option maxRecDepth 20000 in
theorem gL_law_L_batch : GoodIn wsL_law (va_wsS RL 127 yL_batch wsL_batch) := goodIn_app (goodIn_of _ (by decide +kernel)) ggL_law_L_batch
set_option maxRecDepth 20000 in
theorem ggL_law_X6_batch : GoodIn wsL_law wsX6_batch := goodIn_r _ [495, 83, 84, 85, 86, 82, 81, 496, 497, 498, 5, 499, 129, 79, 130, 131, 132, 133, 134, 135, 136, 137, 468, 469, 470, 471, 87, 90, 195, 89, 472, 473, 474, 631, 632, 633, 634, 635, 636, 637, 638, 639, 640, 641, 642, 643, 644, 645, 646, 647, 648, 649, 650, 651, 652, 653, 654, 655, 656, 657, 658, 659, 660, 661, 662, 663, 664, 665, 666, 667, 668, 669, 670, 671, 672, 673, 674, 675] (by decide +kernel) (by decide +kernel)
set_option maxRecDepth 20000 in
theorem gL_law_X6_batch : GoodIn wsL_law (wsV RL 130 RX6 yX6_batch wsX6_batch) := goodIn_app (goodIn_of _ (by decide +kernel)) ggL_law_X6_batch
set_option maxRecDepth 20000 in
theorem ggL_law_L_unit : GoodIn wsL_law wsL_unit := goodIn_ca (goodIn_r _ [502, 145, 503, 504, 505, 2, 506, 111, 112, 14, 507, 508, 509, 510, 154, 155, 330, 32, 331, 332, 333, 49, 47, 334, 335, 336, 337, 29, 18, 614, 615, 616, 617, 618, 619, 620, 621, 622, 623, 624, 625, 626, 627, 628, 629, 630, 680, 681, 682, 683, 684, 685, 686, 692, 693, 694, 695, 696, 697, 698, 699, 700, 701, 702, 703, 704] (by decide +kernel) (by decide +kernel)) (goodIn_sub (fun _ h => List.mem_append_right _ h) (by decide +kernel))
set_option maxRecDepth 20000 in
theorem gL_law_L_unit : GoodIn wsL_law (va_wsS RL 131 yL_unit wsL_unit) := goodIn_app (goodIn_of _ (by decide +kernel)) ggL_law_L_unit
set_option maxRecDepth 20000 in
theorem ggL_law_X6_unit : GoodIn wsL_law wsX6_unit := goodIn_r _ [514, 129, 194, 91, 133, 134, 135, 5, 136, 137, 631, 632, 633, 634, 635, 636, 637, 638, 639, 640, 641, 642, 643, 644, 645, 646, 647, 648, 649, 650, 651, 652, 653, 654, 655, 656, 657, 658, 659, 660, 661, 662, 663, 664, 665, 666, 667, 668, 669, 670, 671, 672, 673, 674, 675] (by decide +kernel) (by decide +kernel)
set_option maxRecDepth 20000 in
theorem gL_law_X6_unit : GoodIn wsL_law (wsV RL 133 RX6 yX6_unit wsX6_unit) := goodIn_app (goodIn_of _ (by decide +kernel)) ggL_law_X6_unit
set_option maxRecDepth 20000 in
theorem ggL_law_L_unitAnew : GoodIn wsL_law wsL_unitAnew := goodIn_ca (goodIn_r _ [517, 145, 518, 519, 520, 2, 521, 111, 18, 507, 508, 509, 510, 154, 155, 486, 36, 487, 488, 361, 489, 490, 491, 614, 615, 616, 617, 618, 619, 620, 621, 622, 623, 624, 625, 626, 627, 628, 629, 630, 692, 693, 694, 695, 696, 697, 698, 699, 700, 701, 702, 703, 704] (by decide +kernel) (by decide +kernel)) (goodIn_sub (fun _ h => List.mem_append_right _ h) (by decide +kernel))
set_option maxRecDepth 20000 in
theorem gL_law_L_unitAnew : GoodIn wsL_law (va_wsS RL 134 yL_unitAnew wsL_unitAnew) := goodIn_app (goodIn_of _ (by decide +kernel)) ggL_law_L_unitAnew
set_option maxRecDepth 20000 in
theorem ggL_law_X6_unitAnew : GoodIn wsL_law wsX6_unitAnew := goodIn_r _ [525, 526, 512, 513, 5, 514, 129, 194, 91, 133, 134, 135, 136, 137, 631, 632, 633, 634, 635, 636, 637, 638, 639, 640, 641, 642, 643, 644, 645, 646, 647, 648, 649, 650, 651, 652, 653, 654, 655, 656, 657, 658, 659, 660, 661, 662, 663, 664, 665, 666, 667, 668, 669, 670, 671, 672, 673, 674, 675] (by decide +kernel) (by decide +kernel)
set_option maxRecDepth 20000 in
theorem gL_law_X6_unitAnew : GoodIn wsL_law (wsV RL 136 RX6 yX6_unitAnew wsX6_unitAnew) := goodIn_app (goodIn_of _ (by decide +kernel)) ggL_law_X6_unitAnew
set_option maxRecDepth 20000 in
theorem ggL_law_L_pressure : GoodIn wsL_law wsL_pressure := goodIn_ca (goodIn_ca (goodIn_ca (goodIn_r _ [529, 145, 103, 104, 530, 531, 532, 2, 533, 109, 110, 112, 111, 14, 150, 151, 152, 153, 154, 155, 113, 114, 115, 116, 117, 118, 326, 327, 328, 329, 330, 32, 331, 332, 333, 49, 47, 334, 335, 336, 337, 29, 18, 338, 339, 340, 341, 16, 342, 343, 344, 345, 346, 347, 348, 349, 614, 615, 616, 617, 618, 619, 620, 621, 622, 623, 624, 625, 626, 627, 628, 629, 630, 692, 693, 694, 695, 696, 697, 698, 699, 700, 701, 702, 703, 704, 687, 688, 689, 690, 691, 680, 681, 682, 683, 684, 685, 686] (by decide +kernel) (by decide +kernel)) (goodIn_sub (fun _ h => List.mem_append_left _ (List.mem_append_left _ (List.mem_append_right _ h))) (by decide +kernel))) (goodIn_sub (fun _ h => List.mem_append_right _ h) (by decide +kernel))) (goodIn_sub (fun _ h => List.mem_append_left _ (List.mem_append_right _ h)) (by decide +kernel))
set_option maxRecDepth 20000 in
theorem gL_law_L_pressure : GoodIn wsL_law (va_wsS RL 137 yL_pressure wsL_pressure) := goodIn_app (goodIn_of _ (by decide +kernel)) ggL_law_L_pressure
set_option maxRecDepth 20000 in
theorem ggL_law_X6_pressure : GoodIn wsL_law wsX6_pressure := goodIn_r _ [537, 129, 538, 539, 540, 5, 541, 128, 130, 131, 132, 133, 134, 135, 136, 137, 432, 433, 434, 435, 71, 76, 81, 91, 74, 75, 72, 436, 437, 438, 439, 631, 632, 633, 634, 635, 636, 637, 638, 639, 640, 641, 642, 643, 644, 645, 646, 647, 648, 649, 650, 651, 652, 653, 654, 655, 656, 657, 658, 659, 660, 661, 662, 663, 664, 665, 666, 667, 668, 669, 670, 671, 672, 673, 674, 675] (by decide +kernel) (by decide +kernel)
set_option maxRecDepth 20000 in
theorem gL_law_X6_pressure : GoodIn wsL_law (wsV RL 139 RX6 yX6_pressure wsX6_pressure) := goodIn_app (goodIn_of _ (by decide +kernel)) ggL_law_X6_pressure
set_option maxRecDepth 20000 in
theorem ggL_law_L_tank : GoodIn wsL_law wsL_tank := goodIn_ca (goodIn_ca (goodIn_r _ [544, 145, 103, 545, 546, 547, 2, 548, 20, 150, 151, 152, 153, 154, 155, 113, 114, 115, 116, 117, 118, 614, 615, 616, 617, 618, 619, 620, 621, 622, 623, 624, 625, 626, 627, 628, 629, 630, 705, 706, 707, 708] (by decide +kernel) (by decide +kernel)) (goodIn_sub (fun _ h => List.mem_append_right _ h) (by decide +kernel))) (goodIn_sub (fun _ h => List.mem_append_left _ (List.mem_append_right _ h)) (by decide +kernel))
set_option maxRecDepth 20000 in
theorem gL_law_L_tank : GoodIn wsL_law (va_wsS RL 140 yL_tank wsL_tank) := goodIn_app (goodIn_of _ (by decide +kernel)) ggL_law_L_tank
set_option maxRecDepth 20000 in
theorem ggL_law_X6_tank : GoodIn wsL_law wsX6_tank := goodIn_r _ [552, 95, 97, 96, 244, 245, 5, 246, 130, 131, 132, 133, 134, 135, 136, 137, 631, 632, 633, 634, 635, 636, 637, 638, 639, 640, 641, 642, 643, 644, 645, 646, 647, 648, 649, 650, 651, 652, 653, 654, 655, 656, 657, 658, 659, 660, 661, 662, 663, 664, 665, 666, 667, 668, 669, 670, 671, 672, 673, 674, 675] (by decide +kernel) (by decide +kernel)
set_option maxRecDepth 20000 in
theorem gL_law_X6_tank : GoodIn wsL_law (wsV RL 142 RX6 yX6_tank wsX6_tank) := goodIn_app (goodIn_of _ (by decide +kernel)) ggL_law_X6_tank
set_option maxRecDepth 20000 in
theorem ggL_law_L_pipe : GoodIn wsL_law wsL_pipe := goodIn_ca (goodIn_r _ [555, 103, 556, 557, 558, 2, 559, 317, 30, 312, 113, 114, 115, 116, 117, 118, 560, 561, 562, 563, 22, 564, 565, 566, 567, 20, 614, 615, 616, 617, 618, 619, 620, 621, 622, 623, 624, 625, 626, 627, 628, 629, 630, 705, 706, 707, 708] (by decide +kernel) (by decide +kernel)) (goodIn_sub (fun _ h => List.mem_append_left _ (List.mem_append_right _ h)) (by decide +kernel))
set_option maxRecDepth 20000 in
theorem gL_law_L_pipe : GoodIn wsL_law (va_wsS RL 143 yL_pipe wsL_pipe) := goodIn_app (goodIn_of _ (by decide +kernel)) ggL_law_L_pipe
set_option maxRecDepth 20000 in
theorem ggL_law_X6_pipe : GoodIn wsL_law wsX6_pipe := goodIn_r _ [571, 426, 463, 302, 421, 130, 131, 5, 132, 133, 134, 135, 136, 137, 572, 573, 574, 575, 98, 631, 632, 633, 634, 635, 636, 637, 638, 639, 640, 641, 642, 643, 644, 645, 646, 647, 648, 649, 650, 651, 652, 653, 654, 655, 656, 657, 658, 659, 660, 661, 662, 663, 664, 665, 666, 667, 668, 669, 670, 671, 672, 673, 674, 675] (by decide +kernel) (by decide +kernel)
set_option maxRecDepth 20000 in
theorem gL_law_X6_pipe : GoodIn wsL_law (wsV RL 145 RX6 yX6_pipe wsX6_pipe) := goodIn_app (goodIn_of _ (by decide +kernel)) ggL_law_X6_pipe
set_option maxRecDepth 20000 in
theorem ggL_law_L_dirt : GoodIn wsL_law wsL_dirt := goodIn_ca (goodIn_r _ [578, 145, 579, 580, 581, 2, 582, 112, 14, 150, 151, 152, 153, 154, 155, 614, 615, 616, 617, 618, 619, 620, 621, 622, 623, 624, 625, 626, 627, 628, 629, 630, 680, 681, 682, 683, 684, 685, 686] (by decide +kernel) (by decide +kernel)) (goodIn_sub (fun _ h => List.mem_append_right _ h) (by decide +kernel))
set_option maxRecDepth 20000 in
theorem gL_law_L_dirt : GoodIn wsL_law (va_wsS RL 146 yL_dirt wsL_dirt) := goodIn_app (goodIn_of _ (by decide +kernel)) ggL_law_L_dirt
set_option maxRecDepth 20000 in
theorem ggL_law_X6_dirt : GoodIn wsL_law wsX6_dirt := goodIn_r _ [586, 74, 538, 539, 540, 5, 541, 128, 130, 131, 132, 133, 134, 135, 136, 137, 631, 632, 633, 634, 635, 636, 637, 638, 639, 640, 641, 642, 643, 644, 645, 646, 647, 648, 649, 650, 651, 652, 653, 654, 655, 656, 657, 658, 659, 660, 661, 662, 663, 664, 665, 666, 667, 668, 669, 670, 671, 672, 673, 674, 675] (by decide +kernel) (by decide +kernel)
set_option maxRecDepth 20000 in
theorem gL_law_X6_dirt : GoodIn wsL_law (wsV RL 148 RX6 yX6_dirt wsX6_dirt) := goodIn_app (goodIn_of _ (by decide +kernel)) ggL_law_X6_dirt
set_option maxRecDepth 20000 in
theorem ggL_law_L_share : GoodIn wsL_law wsL_share := goodIn_ca (goodIn_ca (goodIn_r _ [589, 145, 103, 590, 591, 592, 2, 593, 414, 415, 348, 416, 150, 151, 152, 153, 154, 155, 113, 114, 115, 116, 117, 118, 594, 595, 596, 597, 29, 18, 358, 36, 359, 360, 184, 361, 598, 599, 600, 601, 614, 615, 616, 617, 618, 619, 620, 621, 622, 623, 624, 625, 626, 627, 628, 629, 630, 692, 693, 694, 695, 696, 697, 698, 699, 700, 701, 702, 703, 704] (by decide +kernel) (by decide +kernel)) (goodIn_sub (fun _ h => List.mem_append_right _ h) (by decide +kernel))) (goodIn_sub (fun _ h => List.mem_append_left _ (List.mem_append_right _ h)) (by decide +kernel))
set_option maxRecDepth 20000 in
theorem gL_law_L_share : GoodIn wsL_law (va_wsS RL 149 yL_share wsL_share) := goodIn_app (goodIn_of _ (by decide +kernel)) ggL_law_L_share
set_option maxRecDepth 20000 in
theorem ggL_law_X6_share : GoodIn wsL_law wsX6_share := goodIn_r _ [605, 207, 208, 5, 209, 130, 131, 132, 133, 134, 135, 136, 137, 606, 607, 608, 609, 79, 80, 82, 83, 610, 611, 612, 613, 631, 632, 633, 634, 635, 636, 637, 638, 639, 640, 641, 642, 643, 644, 645, 646, 647, 648, 649, 650, 651, 652, 653, 654, 655, 656, 657, 658, 659, 660, 661, 662, 663, 664, 665, 666, 667, 668, 669, 670, 671, 672, 673, 674, 675] (by decide +kernel) (by decide +kernel)
set_option maxRecDepth 20000 in
theorem gL_law_X6_share : GoodIn wsL_law (wsV RL 151 RX6 yX6_share wsX6_share) := goodIn_app (goodIn_of _ (by decide +kernel)) ggL_law_X6_share
