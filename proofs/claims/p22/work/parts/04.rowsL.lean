theorem dL_drawn_0 : decode cL_drawn 0 = .ok (.iload_n 1, 1) := by decide +kernel
theorem dL_drawn_1 : decode cL_drawn 1 = .ok (.aload_n 0, 1) := by decide +kernel
theorem dL_drawn_2 : decode cL_drawn 2 = .ok (.arraylength, 1) := by decide +kernel
theorem dL_drawn_3 : decode cL_drawn 3 = .ok (.if_icmp .ge 9, 3) := by decide +kernel
theorem dL_drawn_6 : decode cL_drawn 6 = .ok (.aload_n 0, 1) := by decide +kernel
theorem dL_drawn_7 : decode cL_drawn 7 = .ok (.iload_n 1, 1) := by decide +kernel
theorem dL_drawn_8 : decode cL_drawn 8 = .ok (.iaload, 1) := by decide +kernel
theorem dL_drawn_9 : decode cL_drawn 9 = .ok (.goto 15, 3) := by decide +kernel
theorem dL_drawn_12 : decode cL_drawn 12 = .ok (.ldc 7, 2) := by decide +kernel
theorem dL_drawn_14 : decode cL_drawn 14 = .ok (.iload_n 1, 1) := by decide +kernel
theorem dL_drawn_15 : decode cL_drawn 15 = .ok (.sipush 7919, 3) := by decide +kernel
theorem dL_drawn_18 : decode cL_drawn 18 = .ok (.irem, 1) := by decide +kernel
theorem dL_drawn_19 : decode cL_drawn 19 = .ok (.imul, 1) := by decide +kernel
theorem dL_drawn_20 : decode cL_drawn 20 = .ok (.sipush 5077, 3) := by decide +kernel
theorem dL_drawn_23 : decode cL_drawn 23 = .ok (.iadd, 1) := by decide +kernel
theorem dL_drawn_24 : decode cL_drawn 24 = .ok (.ldc 8, 2) := by decide +kernel
theorem dL_drawn_26 : decode cL_drawn 26 = .ok (.iand, 1) := by decide +kernel
theorem dL_drawn_27 : decode cL_drawn 27 = .ok (.ireturn, 1) := by decide +kernel
set_option maxRecDepth 20000 in
theorem ggL_segment_X5_segment : GoodIn wsL_segment wsX5_segment := goodIn_ca (goodIn_ca (goodIn_r _ [7, 8, 9, 10, 11, 12, 13, 14, 15, 6, 16, 17, 18, 19, 20, 21, 22, 23, 24, 25, 26, 27, 28, 29, 30, 31, 32, 33, 34, 35, 36, 37, 38, 39, 40, 41, 42, 43, 44, 45, 46, 47, 48, 49] (by decide +kernel) (by decide +kernel)) (goodIn_sub (fun _ h => List.mem_cons_of_mem _ (List.mem_append_left _ (List.mem_append_right _ h))) (by decide +kernel))) (goodIn_sub (fun _ h => List.mem_cons_of_mem _ (List.mem_append_right _ h)) (by decide +kernel))
set_option maxRecDepth 20000 in
theorem gL_segment_X5_segment : GoodIn wsL_segment (wsV RL 9 RX5 yX5_segment wsX5_segment) := goodIn_app (goodIn_of _ (by decide +kernel)) ggL_segment_X5_segment
theorem dL_segment_0 : decode cL_segment 0 = .ok (.aload_n 0, 1) := by decide +kernel
theorem dL_segment_1 : decode cL_segment 1 = .ok (.iload_n 1, 1) := by decide +kernel
theorem dL_segment_2 : decode cL_segment 2 = .ok (.iload_n 2, 1) := by decide +kernel
theorem dL_segment_3 : decode cL_segment 3 = .ok (.iload_n 3, 1) := by decide +kernel
theorem dL_segment_4 : decode cL_segment 4 = .ok (.invokevirtual 9, 3) := by decide +kernel
theorem dL_segment_7 : decode cL_segment 7 = .ok (.ireturn, 1) := by decide +kernel
theorem dL_segment_8 : decode cL_segment 8 = .ok (.astore 4, 2) := by decide +kernel
theorem dL_segment_10 : decode cL_segment 10 = .ok (.bipush (-102), 2) := by decide +kernel
theorem dL_segment_12 : decode cL_segment 12 = .ok (.ireturn, 1) := by decide +kernel
theorem dL_segment_13 : decode cL_segment 13 = .ok (.astore 4, 2) := by decide +kernel
theorem dL_segment_15 : decode cL_segment 15 = .ok (.bipush (-103), 2) := by decide +kernel
theorem dL_segment_17 : decode cL_segment 17 = .ok (.ireturn, 1) := by decide +kernel
set_option maxRecDepth 20000 in
theorem ggL_product_X5_product : GoodIn wsL_product wsX5_product := goodIn_ca (goodIn_ca (goodIn_r _ [7, 8, 9, 10, 11, 12, 13, 6, 14, 15, 16, 17, 18, 19, 20, 21, 22, 23, 24, 25, 26, 27, 28, 29, 30, 31, 32, 33, 34, 35, 36, 37, 38, 39, 40, 41, 42, 43, 44, 45, 46, 47, 48, 49, 50] (by decide +kernel) (by decide +kernel)) (goodIn_sub (fun _ h => List.mem_cons_of_mem _ (List.mem_append_left _ (List.mem_append_right _ h))) (by decide +kernel))) (goodIn_sub (fun _ h => List.mem_cons_of_mem _ (List.mem_append_right _ h)) (by decide +kernel))
set_option maxRecDepth 20000 in
theorem gL_product_X5_product : GoodIn wsL_product (wsV RL 19 RX5 yX5_product wsX5_product) := goodIn_app (goodIn_of _ (by decide +kernel)) ggL_product_X5_product
theorem dL_product_0 : decode cL_product 0 = .ok (.aload_n 0, 1) := by decide +kernel
theorem dL_product_1 : decode cL_product 1 = .ok (.iload_n 1, 1) := by decide +kernel
theorem dL_product_2 : decode cL_product 2 = .ok (.iload_n 2, 1) := by decide +kernel
theorem dL_product_3 : decode cL_product 3 = .ok (.iload_n 3, 1) := by decide +kernel
theorem dL_product_4 : decode cL_product 4 = .ok (.iload 4, 2) := by decide +kernel
theorem dL_product_6 : decode cL_product 6 = .ok (.iload 5, 2) := by decide +kernel
theorem dL_product_8 : decode cL_product 8 = .ok (.invokevirtual 19, 3) := by decide +kernel
theorem dL_product_11 : decode cL_product 11 = .ok (.iconst 0, 1) := by decide +kernel
theorem dL_product_12 : decode cL_product 12 = .ok (.ireturn, 1) := by decide +kernel
theorem dL_product_13 : decode cL_product 13 = .ok (.astore 6, 2) := by decide +kernel
theorem dL_product_15 : decode cL_product 15 = .ok (.bipush (-101), 2) := by decide +kernel
theorem dL_product_17 : decode cL_product 17 = .ok (.ireturn, 1) := by decide +kernel
theorem dL_product_18 : decode cL_product 18 = .ok (.astore 6, 2) := by decide +kernel
theorem dL_product_20 : decode cL_product 20 = .ok (.bipush (-102), 2) := by decide +kernel
theorem dL_product_22 : decode cL_product 22 = .ok (.ireturn, 1) := by decide +kernel
set_option maxRecDepth 20000 in
theorem ggL_open_X5_open : GoodIn wsL_open wsX5_open := goodIn_ca (goodIn_ca (goodIn_r _ [7, 8, 9, 10, 11, 12, 13, 14, 15, 16, 17, 6, 18, 19, 20, 21, 22, 23, 24, 25, 26, 27, 28, 29, 30, 31, 32, 33, 34, 35, 36, 37, 38, 39, 40, 41, 42, 43, 44, 45, 46, 47, 48, 49, 50, 51, 52, 53, 54, 55, 56, 57, 58, 59, 60, 61, 62, 63, 64, 65, 66, 67, 68, 69, 70, 71, 72, 73, 74, 75, 76, 77, 78, 79, 80, 81, 82, 83, 84, 85, 86, 87] (by decide +kernel) (by decide +kernel)) (goodIn_sub (fun _ h => List.mem_cons_of_mem _ (List.mem_append_left _ (List.mem_append_right _ h))) (by decide +kernel))) (goodIn_sub (fun _ h => List.mem_cons_of_mem _ (List.mem_append_right _ h)) (by decide +kernel))
set_option maxRecDepth 20000 in
theorem gL_open_X5_open : GoodIn wsL_open (wsV RL 25 RX5 yX5_open wsX5_open) := goodIn_app (goodIn_of _ (by decide +kernel)) ggL_open_X5_open
theorem dL_open_0 : decode cL_open 0 = .ok (.aload_n 0, 1) := by decide +kernel
theorem dL_open_1 : decode cL_open 1 = .ok (.iload_n 1, 1) := by decide +kernel
theorem dL_open_2 : decode cL_open 2 = .ok (.invokevirtual 25, 3) := by decide +kernel
theorem dL_open_5 : decode cL_open 5 = .ok (.ireturn, 1) := by decide +kernel
theorem dL_open_6 : decode cL_open 6 = .ok (.astore_n 2, 1) := by decide +kernel
theorem dL_open_7 : decode cL_open 7 = .ok (.bipush (-101), 2) := by decide +kernel
theorem dL_open_9 : decode cL_open 9 = .ok (.ireturn, 1) := by decide +kernel
theorem dL_open_10 : decode cL_open 10 = .ok (.astore_n 2, 1) := by decide +kernel
theorem dL_open_11 : decode cL_open 11 = .ok (.bipush (-103), 2) := by decide +kernel
theorem dL_open_13 : decode cL_open 13 = .ok (.ireturn, 1) := by decide +kernel
set_option maxRecDepth 20000 in
theorem ggL_order_X5_order : GoodIn wsL_order wsX5_order := goodIn_ca (goodIn_ca (goodIn_ca (goodIn_r _ [8, 9, 10, 11, 12, 13, 14, 15, 16, 7, 17, 18, 19, 20, 21, 22, 23, 24, 25, 26, 27, 28, 29, 30, 31, 32, 33, 34, 35, 36, 37, 38, 39, 40, 41, 42, 43, 44, 45, 46, 47, 48, 49, 50, 51, 52, 53, 54, 55, 56, 57, 58, 59, 60, 61, 62] (by decide +kernel) (by decide +kernel)) (goodIn_sub (fun _ h => List.mem_cons_of_mem _ (List.mem_append_left _ (List.mem_append_left _ (List.mem_append_right _ h)))) (by decide +kernel))) (goodIn_sub (fun _ h => List.mem_cons_of_mem _ (List.mem_append_left _ (List.mem_append_right _ h))) (by decide +kernel))) (goodIn_sub (fun _ h => List.mem_cons_of_mem _ (List.mem_append_right _ h)) (by decide +kernel))
set_option maxRecDepth 20000 in
theorem gL_order_X5_order : GoodIn wsL_order (wsV RL 29 RX5 yX5_order wsX5_order) := goodIn_app (goodIn_of _ (by decide +kernel)) ggL_order_X5_order
theorem dL_order_0 : decode cL_order 0 = .ok (.aload_n 0, 1) := by decide +kernel
theorem dL_order_1 : decode cL_order 1 = .ok (.iload_n 1, 1) := by decide +kernel
theorem dL_order_2 : decode cL_order 2 = .ok (.iload_n 2, 1) := by decide +kernel
theorem dL_order_3 : decode cL_order 3 = .ok (.iload_n 3, 1) := by decide +kernel
theorem dL_order_4 : decode cL_order 4 = .ok (.invokevirtual 29, 3) := by decide +kernel
theorem dL_order_7 : decode cL_order 7 = .ok (.ireturn, 1) := by decide +kernel
theorem dL_order_8 : decode cL_order 8 = .ok (.astore 4, 2) := by decide +kernel
theorem dL_order_10 : decode cL_order 10 = .ok (.bipush (-101), 2) := by decide +kernel
theorem dL_order_12 : decode cL_order 12 = .ok (.ireturn, 1) := by decide +kernel
theorem dL_order_13 : decode cL_order 13 = .ok (.astore 4, 2) := by decide +kernel
theorem dL_order_15 : decode cL_order 15 = .ok (.bipush (-102), 2) := by decide +kernel
theorem dL_order_17 : decode cL_order 17 = .ok (.ireturn, 1) := by decide +kernel
theorem dL_order_18 : decode cL_order 18 = .ok (.astore 4, 2) := by decide +kernel
theorem dL_order_20 : decode cL_order 20 = .ok (.bipush (-103), 2) := by decide +kernel
theorem dL_order_22 : decode cL_order 22 = .ok (.ireturn, 1) := by decide +kernel
set_option maxRecDepth 20000 in
theorem ggL_rate_X5_rate : GoodIn wsL_rate wsX5_rate := goodIn_ca (goodIn_r _ [6, 7, 8, 9, 10, 5, 11, 12, 13, 14, 15, 16, 17, 18, 19, 20, 21, 22, 23, 24, 25, 26, 27, 28, 29, 30] (by decide +kernel) (by decide +kernel)) (goodIn_sub (fun _ h => List.mem_cons_of_mem _ (List.mem_append_right _ h)) (by decide +kernel))
set_option maxRecDepth 20000 in
theorem gL_rate_X5_rate : GoodIn wsL_rate (wsV RL 32 RX5 yX5_rate wsX5_rate) := goodIn_app (goodIn_of _ (by decide +kernel)) ggL_rate_X5_rate
theorem dL_rate_0 : decode cL_rate 0 = .ok (.aload_n 0, 1) := by decide +kernel
theorem dL_rate_1 : decode cL_rate 1 = .ok (.iload_n 1, 1) := by decide +kernel
theorem dL_rate_2 : decode cL_rate 2 = .ok (.invokevirtual 32, 3) := by decide +kernel
theorem dL_rate_5 : decode cL_rate 5 = .ok (.ireturn, 1) := by decide +kernel
theorem dL_rate_6 : decode cL_rate 6 = .ok (.astore_n 2, 1) := by decide +kernel
theorem dL_rate_7 : decode cL_rate 7 = .ok (.bipush (-102), 2) := by decide +kernel
theorem dL_rate_9 : decode cL_rate 9 = .ok (.ireturn, 1) := by decide +kernel
set_option maxRecDepth 20000 in
theorem ggL_drop_X5_drop : GoodIn wsL_drop wsX5_drop := goodIn_ca (goodIn_ca (goodIn_r _ [7, 8, 9, 10, 11, 6, 12, 13, 14, 15, 16, 17, 18, 19, 20, 21, 22, 23, 24, 25, 26, 27, 28, 29, 30, 31, 32, 33, 34, 35, 36, 37, 38, 39, 40, 41, 42, 43, 44, 45, 46, 47, 48, 49, 50, 51, 52, 53] (by decide +kernel) (by decide +kernel)) (goodIn_sub (fun _ h => List.mem_cons_of_mem _ (List.mem_append_left _ (List.mem_append_right _ h))) (by decide +kernel))) (goodIn_sub (fun _ h => List.mem_cons_of_mem _ (List.mem_append_right _ h)) (by decide +kernel))
set_option maxRecDepth 20000 in
theorem gL_drop_X5_drop : GoodIn wsL_drop (wsV RL 35 RX5 yX5_drop wsX5_drop) := goodIn_app (goodIn_of _ (by decide +kernel)) ggL_drop_X5_drop
theorem dL_drop_0 : decode cL_drop 0 = .ok (.aload_n 0, 1) := by decide +kernel
theorem dL_drop_1 : decode cL_drop 1 = .ok (.iload_n 1, 1) := by decide +kernel
theorem dL_drop_2 : decode cL_drop 2 = .ok (.iload_n 2, 1) := by decide +kernel
theorem dL_drop_3 : decode cL_drop 3 = .ok (.iload_n 3, 1) := by decide +kernel
theorem dL_drop_4 : decode cL_drop 4 = .ok (.invokevirtual 35, 3) := by decide +kernel
theorem dL_drop_7 : decode cL_drop 7 = .ok (.iconst 0, 1) := by decide +kernel
theorem dL_drop_8 : decode cL_drop 8 = .ok (.ireturn, 1) := by decide +kernel
theorem dL_drop_9 : decode cL_drop 9 = .ok (.astore 4, 2) := by decide +kernel
theorem dL_drop_11 : decode cL_drop 11 = .ok (.bipush (-101), 2) := by decide +kernel
theorem dL_drop_13 : decode cL_drop 13 = .ok (.ireturn, 1) := by decide +kernel
theorem dL_drop_14 : decode cL_drop 14 = .ok (.astore 4, 2) := by decide +kernel
theorem dL_drop_16 : decode cL_drop 16 = .ok (.bipush (-102), 2) := by decide +kernel
theorem dL_drop_18 : decode cL_drop 18 = .ok (.ireturn, 1) := by decide +kernel
set_option maxRecDepth 20000 in
theorem ggL_leak_X5_leak : GoodIn wsL_leak wsX5_leak := goodIn_ca (goodIn_ca (goodIn_r _ [7, 8, 9, 10, 11, 6, 12, 13, 14, 15, 16, 17, 18, 19, 20, 21, 22, 23, 24, 25, 26, 27, 28, 29, 30, 31, 32, 33, 34, 35, 36, 37, 38, 39, 40, 41, 42, 43, 44, 45, 46, 47, 48, 49, 50, 51, 52, 53] (by decide +kernel) (by decide +kernel)) (goodIn_sub (fun _ h => List.mem_cons_of_mem _ (List.mem_append_left _ (List.mem_append_right _ h))) (by decide +kernel))) (goodIn_sub (fun _ h => List.mem_cons_of_mem _ (List.mem_append_right _ h)) (by decide +kernel))
set_option maxRecDepth 20000 in
theorem gL_leak_X5_leak : GoodIn wsL_leak (wsV RL 39 RX5 yX5_leak wsX5_leak) := goodIn_app (goodIn_of _ (by decide +kernel)) ggL_leak_X5_leak
theorem dL_leak_0 : decode cL_leak 0 = .ok (.aload_n 0, 1) := by decide +kernel
theorem dL_leak_1 : decode cL_leak 1 = .ok (.iload_n 1, 1) := by decide +kernel
theorem dL_leak_2 : decode cL_leak 2 = .ok (.iload_n 2, 1) := by decide +kernel
theorem dL_leak_3 : decode cL_leak 3 = .ok (.invokevirtual 39, 3) := by decide +kernel
theorem dL_leak_6 : decode cL_leak 6 = .ok (.iconst 0, 1) := by decide +kernel
theorem dL_leak_7 : decode cL_leak 7 = .ok (.ireturn, 1) := by decide +kernel
theorem dL_leak_8 : decode cL_leak 8 = .ok (.astore_n 3, 1) := by decide +kernel
theorem dL_leak_9 : decode cL_leak 9 = .ok (.bipush (-101), 2) := by decide +kernel
theorem dL_leak_11 : decode cL_leak 11 = .ok (.ireturn, 1) := by decide +kernel
theorem dL_leak_12 : decode cL_leak 12 = .ok (.astore_n 3, 1) := by decide +kernel
theorem dL_leak_13 : decode cL_leak 13 = .ok (.bipush (-102), 2) := by decide +kernel
theorem dL_leak_15 : decode cL_leak 15 = .ok (.ireturn, 1) := by decide +kernel
set_option maxRecDepth 20000 in
theorem ggL_receive_X5_receive : GoodIn wsL_receive wsX5_receive := goodIn_ca (goodIn_r _ [6, 7, 8, 9, 10, 5, 11, 12, 13, 14, 15, 16, 17, 18, 19, 20, 21, 22, 23, 24, 25, 26, 27, 28, 29, 30, 31, 32, 33, 34] (by decide +kernel) (by decide +kernel)) (goodIn_sub (fun _ h => List.mem_cons_of_mem _ (List.mem_append_right _ h)) (by decide +kernel))
set_option maxRecDepth 20000 in
theorem gL_receive_X5_receive : GoodIn wsL_receive (wsV RL 43 RX5 yX5_receive wsX5_receive) := goodIn_app (goodIn_of _ (by decide +kernel)) ggL_receive_X5_receive
theorem dL_receive_0 : decode cL_receive 0 = .ok (.aload_n 0, 1) := by decide +kernel
theorem dL_receive_1 : decode cL_receive 1 = .ok (.iload_n 1, 1) := by decide +kernel
theorem dL_receive_2 : decode cL_receive 2 = .ok (.invokevirtual 43, 3) := by decide +kernel
theorem dL_receive_5 : decode cL_receive 5 = .ok (.ireturn, 1) := by decide +kernel
theorem dL_receive_6 : decode cL_receive 6 = .ok (.astore_n 2, 1) := by decide +kernel
theorem dL_receive_7 : decode cL_receive 7 = .ok (.bipush (-101), 2) := by decide +kernel
theorem dL_receive_9 : decode cL_receive 9 = .ok (.ireturn, 1) := by decide +kernel
set_option maxRecDepth 20000 in
theorem ggL_empty_X5_empty : GoodIn wsL_empty wsX5_empty := goodIn_ca (goodIn_r _ [6, 7, 8, 9, 10, 5, 11, 12, 13, 14, 15, 16, 17, 18, 19, 20, 21, 22, 23, 24, 25, 26, 27, 28, 29, 30, 31, 32, 33, 34, 35, 36, 37, 38, 39, 40, 41] (by decide +kernel) (by decide +kernel)) (goodIn_sub (fun _ h => List.mem_cons_of_mem _ (List.mem_append_right _ h)) (by decide +kernel))
set_option maxRecDepth 20000 in
theorem gL_empty_X5_empty : GoodIn wsL_empty (wsV RL 46 RX5 yX5_empty wsX5_empty) := goodIn_app (goodIn_of _ (by decide +kernel)) ggL_empty_X5_empty
theorem dL_empty_0 : decode cL_empty 0 = .ok (.aload_n 0, 1) := by decide +kernel
theorem dL_empty_1 : decode cL_empty 1 = .ok (.iload_n 1, 1) := by decide +kernel
theorem dL_empty_2 : decode cL_empty 2 = .ok (.invokevirtual 46, 3) := by decide +kernel
theorem dL_empty_5 : decode cL_empty 5 = .ok (.ireturn, 1) := by decide +kernel
theorem dL_empty_6 : decode cL_empty 6 = .ok (.astore_n 2, 1) := by decide +kernel
theorem dL_empty_7 : decode cL_empty 7 = .ok (.bipush (-101), 2) := by decide +kernel
theorem dL_empty_9 : decode cL_empty 9 = .ok (.ireturn, 1) := by decide +kernel
set_option maxRecDepth 20000 in
theorem ggL_launch_X5_launch : GoodIn wsL_launch wsX5_launch := goodIn_ca (goodIn_r _ [6, 7, 8, 9, 10, 11, 12, 13, 14, 5, 15, 16, 17, 18, 19, 20, 21, 22, 23, 24, 25, 26, 27, 28, 29, 30, 31, 32, 33, 34, 35, 36, 37, 38, 39, 40, 41, 42, 43, 44, 45] (by decide +kernel) (by decide +kernel)) (goodIn_sub (fun _ h => List.mem_cons_of_mem _ (List.mem_append_right _ h)) (by decide +kernel))
set_option maxRecDepth 20000 in
theorem gL_launch_X5_launch : GoodIn wsL_launch (wsV RL 49 RX5 yX5_launch wsX5_launch) := goodIn_app (goodIn_of _ (by decide +kernel)) ggL_launch_X5_launch
theorem dL_launch_0 : decode cL_launch 0 = .ok (.aload_n 0, 1) := by decide +kernel
theorem dL_launch_1 : decode cL_launch 1 = .ok (.invokevirtual 49, 3) := by decide +kernel
theorem dL_launch_4 : decode cL_launch 4 = .ok (.iconst 0, 1) := by decide +kernel
theorem dL_launch_5 : decode cL_launch 5 = .ok (.ireturn, 1) := by decide +kernel
theorem dL_launch_6 : decode cL_launch 6 = .ok (.astore_n 1, 1) := by decide +kernel
theorem dL_launch_7 : decode cL_launch 7 = .ok (.bipush (-103), 2) := by decide +kernel
theorem dL_launch_9 : decode cL_launch 9 = .ok (.ireturn, 1) := by decide +kernel
set_option maxRecDepth 20000 in
theorem ggL_pass_X5_pass : GoodIn wsL_pass wsX5_pass := goodIn_ca (goodIn_ca (goodIn_r _ [7, 8, 9, 10, 11, 12, 13, 14, 6, 15, 16, 17, 18, 19, 20, 21, 22, 23, 24, 25, 26, 27, 28, 29, 30, 31, 32, 33, 34, 35, 36, 37, 38, 39, 40, 41, 42, 43, 44, 45, 46, 47, 48, 49, 50, 51, 52, 53, 54, 55, 56, 57, 58, 59, 60, 61, 62, 63, 64, 65, 66, 67, 68, 69, 70, 71, 72, 73, 74, 75, 76, 77, 78, 79, 80, 81, 82, 83, 84, 85, 86, 87, 88, 89, 90, 91, 92, 93, 94, 95, 96, 97, 98, 99, 100, 101, 102, 103, 104, 105, 106, 107, 108, 109, 110, 111, 112, 113, 114, 115, 116, 117, 118, 119, 120, 121, 122, 123, 124, 125, 126, 127, 128, 129, 130, 131, 132, 133, 134, 135, 136, 137, 138, 139, 140, 141, 142, 143, 144, 145, 146, 147, 148, 149, 150, 151, 152, 153, 154, 155, 156, 157, 158, 159, 160, 161, 162, 163, 164, 165, 166, 167, 168, 169, 170, 171, 172, 173, 174, 175, 176, 177, 178, 179, 180, 181, 182, 183, 184, 185, 186, 187, 188, 189, 190, 191, 192, 193, 194, 195, 196, 197, 198, 199, 200, 201, 202, 203] (by decide +kernel) (by decide +kernel)) (goodIn_sub (fun _ h => List.mem_cons_of_mem _ (List.mem_append_left _ (List.mem_append_right _ h))) (by decide +kernel))) (goodIn_sub (fun _ h => List.mem_cons_of_mem _ (List.mem_append_right _ h)) (by decide +kernel))
set_option maxRecDepth 20000 in
theorem gL_pass_X5_pass : GoodIn wsL_pass (wsV RL 52 RX5 yX5_pass wsX5_pass) := goodIn_app (goodIn_of _ (by decide +kernel)) ggL_pass_X5_pass
theorem dL_pass_0 : decode cL_pass 0 = .ok (.aload_n 0, 1) := by decide +kernel
theorem dL_pass_1 : decode cL_pass 1 = .ok (.iload_n 1, 1) := by decide +kernel
theorem dL_pass_2 : decode cL_pass 2 = .ok (.invokevirtual 52, 3) := by decide +kernel
theorem dL_pass_5 : decode cL_pass 5 = .ok (.ireturn, 1) := by decide +kernel
theorem dL_pass_6 : decode cL_pass 6 = .ok (.astore_n 2, 1) := by decide +kernel
theorem dL_pass_7 : decode cL_pass 7 = .ok (.bipush (-102), 2) := by decide +kernel
theorem dL_pass_9 : decode cL_pass 9 = .ok (.ireturn, 1) := by decide +kernel
theorem dL_pass_10 : decode cL_pass 10 = .ok (.astore_n 2, 1) := by decide +kernel
theorem dL_pass_11 : decode cL_pass 11 = .ok (.bipush (-103), 2) := by decide +kernel
theorem dL_pass_13 : decode cL_pass 13 = .ok (.ireturn, 1) := by decide +kernel
set_option maxRecDepth 20000 in
theorem ggL_batch_X5_batch : GoodIn wsL_batch wsX5_batch := goodIn_ca (goodIn_ca (goodIn_r _ [7, 8, 9, 10, 11, 12, 13, 14, 15, 6, 16, 17, 18, 19, 20, 21, 22, 23, 24, 25, 26, 27, 28, 29, 30, 31, 32, 33, 34, 35, 36, 37, 38, 39, 40, 41, 42, 43, 44, 45, 46, 47, 48, 49, 50, 51, 52, 53, 54, 55, 56, 57, 58, 59, 60, 61, 62, 63, 64, 65, 66, 67, 68, 69, 70, 71, 72, 73, 74, 75, 76, 77, 78] (by decide +kernel) (by decide +kernel)) (goodIn_sub (fun _ h => List.mem_cons_of_mem _ (List.mem_append_left _ (List.mem_append_right _ h))) (by decide +kernel))) (goodIn_sub (fun _ h => List.mem_cons_of_mem _ (List.mem_append_right _ h)) (by decide +kernel))
set_option maxRecDepth 20000 in
theorem gL_batch_X5_batch : GoodIn wsL_batch (wsV RL 55 RX5 yX5_batch wsX5_batch) := goodIn_app (goodIn_of _ (by decide +kernel)) ggL_batch_X5_batch
theorem dL_batch_0 : decode cL_batch 0 = .ok (.aload_n 0, 1) := by decide +kernel
theorem dL_batch_1 : decode cL_batch 1 = .ok (.iload_n 1, 1) := by decide +kernel
theorem dL_batch_2 : decode cL_batch 2 = .ok (.iload_n 2, 1) := by decide +kernel
theorem dL_batch_3 : decode cL_batch 3 = .ok (.invokevirtual 55, 3) := by decide +kernel
theorem dL_batch_6 : decode cL_batch 6 = .ok (.ireturn, 1) := by decide +kernel
theorem dL_batch_7 : decode cL_batch 7 = .ok (.astore_n 3, 1) := by decide +kernel
theorem dL_batch_8 : decode cL_batch 8 = .ok (.bipush (-101), 2) := by decide +kernel
theorem dL_batch_10 : decode cL_batch 10 = .ok (.ireturn, 1) := by decide +kernel
theorem dL_batch_11 : decode cL_batch 11 = .ok (.astore_n 3, 1) := by decide +kernel
theorem dL_batch_12 : decode cL_batch 12 = .ok (.bipush (-102), 2) := by decide +kernel
theorem dL_batch_14 : decode cL_batch 14 = .ok (.ireturn, 1) := by decide +kernel
set_option maxRecDepth 20000 in
theorem ggL_unit_X5_unit : GoodIn wsL_unit wsX5_unit := goodIn_ca (goodIn_r _ [6, 7, 8, 9, 10, 11, 12, 5, 13, 14, 15, 16, 17, 18, 19, 20, 21, 22, 23, 24, 25, 26, 27, 28, 29, 30, 31, 32, 33, 34, 35, 36, 37, 38, 39, 40, 41, 42, 43, 44, 45, 46, 47, 48, 49, 50, 51, 52, 53, 54, 55, 56, 57, 58, 59, 60, 61, 62, 63, 64, 65] (by decide +kernel) (by decide +kernel)) (goodIn_sub (fun _ h => List.mem_cons_of_mem _ (List.mem_append_right _ h)) (by decide +kernel))
set_option maxRecDepth 20000 in
theorem gL_unit_X5_unit : GoodIn wsL_unit (wsV RL 59 RX5 yX5_unit wsX5_unit) := goodIn_app (goodIn_of _ (by decide +kernel)) ggL_unit_X5_unit
theorem dL_unit_0 : decode cL_unit 0 = .ok (.aload_n 0, 1) := by decide +kernel
theorem dL_unit_1 : decode cL_unit 1 = .ok (.iload_n 1, 1) := by decide +kernel
theorem dL_unit_2 : decode cL_unit 2 = .ok (.invokevirtual 59, 3) := by decide +kernel
theorem dL_unit_5 : decode cL_unit 5 = .ok (.ireturn, 1) := by decide +kernel
theorem dL_unit_6 : decode cL_unit 6 = .ok (.astore_n 2, 1) := by decide +kernel
theorem dL_unit_7 : decode cL_unit 7 = .ok (.bipush (-101), 2) := by decide +kernel
theorem dL_unit_9 : decode cL_unit 9 = .ok (.ireturn, 1) := by decide +kernel
set_option maxRecDepth 20000 in
theorem ggL_unitAnew_X5_unitAnew : GoodIn wsL_unitAnew wsX5_unitAnew := goodIn_ca (goodIn_r _ [6, 7, 8, 9, 10, 11, 5, 12, 13, 14, 15, 16, 17, 18, 19, 20, 21, 22, 23, 24, 25, 26, 27, 28, 29, 30, 31, 32, 33, 34, 35, 36, 37, 38, 39, 40, 41, 42, 43, 44, 45, 46, 47, 48, 49, 50, 51, 52] (by decide +kernel) (by decide +kernel)) (goodIn_sub (fun _ h => List.mem_cons_of_mem _ (List.mem_append_right _ h)) (by decide +kernel))
set_option maxRecDepth 20000 in
theorem gL_unitAnew_X5_unitAnew : GoodIn wsL_unitAnew (wsV RL 62 RX5 yX5_unitAnew wsX5_unitAnew) := goodIn_app (goodIn_of _ (by decide +kernel)) ggL_unitAnew_X5_unitAnew
theorem dL_unitAnew_0 : decode cL_unitAnew 0 = .ok (.aload_n 0, 1) := by decide +kernel
theorem dL_unitAnew_1 : decode cL_unitAnew 1 = .ok (.iload_n 1, 1) := by decide +kernel
theorem dL_unitAnew_2 : decode cL_unitAnew 2 = .ok (.invokevirtual 62, 3) := by decide +kernel
theorem dL_unitAnew_5 : decode cL_unitAnew 5 = .ok (.ireturn, 1) := by decide +kernel
theorem dL_unitAnew_6 : decode cL_unitAnew 6 = .ok (.astore_n 2, 1) := by decide +kernel
theorem dL_unitAnew_7 : decode cL_unitAnew 7 = .ok (.bipush (-101), 2) := by decide +kernel
theorem dL_unitAnew_9 : decode cL_unitAnew 9 = .ok (.ireturn, 1) := by decide +kernel
set_option maxRecDepth 20000 in
theorem ggL_pressure_X5_pressure : GoodIn wsL_pressure wsX5_pressure := goodIn_ca (goodIn_ca (goodIn_ca (goodIn_r _ [8, 9, 10, 11, 12, 13, 14, 15, 16, 7, 17, 18, 19, 20, 21, 22, 23, 24, 25, 26, 27, 28, 29, 30, 31, 32, 33, 34, 35, 36, 37, 38, 39, 40, 41, 42, 43, 44, 45, 46, 47, 48, 49, 50, 51, 52, 53, 54, 55, 56, 57, 58, 59, 60, 61, 62, 63, 64, 65, 66, 67, 68, 69, 70, 71, 72, 73, 74, 75, 76, 77, 78, 79, 80, 81, 82, 83, 84, 85, 86, 87, 88, 89, 90, 91, 92, 93, 94, 95, 96, 97] (by decide +kernel) (by decide +kernel)) (goodIn_sub (fun _ h => List.mem_cons_of_mem _ (List.mem_append_left _ (List.mem_append_left _ (List.mem_append_right _ h)))) (by decide +kernel))) (goodIn_sub (fun _ h => List.mem_cons_of_mem _ (List.mem_append_left _ (List.mem_append_right _ h))) (by decide +kernel))) (goodIn_sub (fun _ h => List.mem_cons_of_mem _ (List.mem_append_right _ h)) (by decide +kernel))
set_option maxRecDepth 20000 in
theorem gL_pressure_X5_pressure : GoodIn wsL_pressure (wsV RL 65 RX5 yX5_pressure wsX5_pressure) := goodIn_app (goodIn_of _ (by decide +kernel)) ggL_pressure_X5_pressure
theorem dL_pressure_0 : decode cL_pressure 0 = .ok (.aload_n 0, 1) := by decide +kernel
theorem dL_pressure_1 : decode cL_pressure 1 = .ok (.iload_n 1, 1) := by decide +kernel
theorem dL_pressure_2 : decode cL_pressure 2 = .ok (.iload_n 2, 1) := by decide +kernel
theorem dL_pressure_3 : decode cL_pressure 3 = .ok (.invokevirtual 65, 3) := by decide +kernel
theorem dL_pressure_6 : decode cL_pressure 6 = .ok (.ireturn, 1) := by decide +kernel
theorem dL_pressure_7 : decode cL_pressure 7 = .ok (.astore_n 3, 1) := by decide +kernel
theorem dL_pressure_8 : decode cL_pressure 8 = .ok (.bipush (-101), 2) := by decide +kernel
theorem dL_pressure_10 : decode cL_pressure 10 = .ok (.ireturn, 1) := by decide +kernel
theorem dL_pressure_11 : decode cL_pressure 11 = .ok (.astore_n 3, 1) := by decide +kernel
theorem dL_pressure_12 : decode cL_pressure 12 = .ok (.bipush (-102), 2) := by decide +kernel
theorem dL_pressure_14 : decode cL_pressure 14 = .ok (.ireturn, 1) := by decide +kernel
theorem dL_pressure_15 : decode cL_pressure 15 = .ok (.astore_n 3, 1) := by decide +kernel
theorem dL_pressure_16 : decode cL_pressure 16 = .ok (.bipush (-103), 2) := by decide +kernel
theorem dL_pressure_18 : decode cL_pressure 18 = .ok (.ireturn, 1) := by decide +kernel
set_option maxRecDepth 20000 in
theorem ggL_tank_X5_tank : GoodIn wsL_tank wsX5_tank := goodIn_ca (goodIn_ca (goodIn_r _ [7, 8, 9, 10, 11, 6, 12, 13, 14, 15, 16, 17, 18, 19, 20, 21, 22, 23, 24, 25, 26, 27, 28, 29, 30, 31, 32, 33, 34, 35, 36, 37, 38, 39, 40, 41] (by decide +kernel) (by decide +kernel)) (goodIn_sub (fun _ h => List.mem_cons_of_mem _ (List.mem_append_left _ (List.mem_append_right _ h))) (by decide +kernel))) (goodIn_sub (fun _ h => List.mem_cons_of_mem _ (List.mem_append_right _ h)) (by decide +kernel))
set_option maxRecDepth 20000 in
theorem gL_tank_X5_tank : GoodIn wsL_tank (wsV RL 68 RX5 yX5_tank wsX5_tank) := goodIn_app (goodIn_of _ (by decide +kernel)) ggL_tank_X5_tank
theorem dL_tank_0 : decode cL_tank 0 = .ok (.aload_n 0, 1) := by decide +kernel
theorem dL_tank_1 : decode cL_tank 1 = .ok (.iload_n 1, 1) := by decide +kernel
theorem dL_tank_2 : decode cL_tank 2 = .ok (.iload_n 2, 1) := by decide +kernel
theorem dL_tank_3 : decode cL_tank 3 = .ok (.invokevirtual 68, 3) := by decide +kernel
theorem dL_tank_6 : decode cL_tank 6 = .ok (.ireturn, 1) := by decide +kernel
theorem dL_tank_7 : decode cL_tank 7 = .ok (.astore_n 3, 1) := by decide +kernel
theorem dL_tank_8 : decode cL_tank 8 = .ok (.bipush (-101), 2) := by decide +kernel
theorem dL_tank_10 : decode cL_tank 10 = .ok (.ireturn, 1) := by decide +kernel
theorem dL_tank_11 : decode cL_tank 11 = .ok (.astore_n 3, 1) := by decide +kernel
theorem dL_tank_12 : decode cL_tank 12 = .ok (.bipush (-102), 2) := by decide +kernel
theorem dL_tank_14 : decode cL_tank 14 = .ok (.ireturn, 1) := by decide +kernel
set_option maxRecDepth 20000 in
theorem ggL_pipe_X5_pipe : GoodIn wsL_pipe wsX5_pipe := goodIn_ca (goodIn_r _ [6, 7, 8, 9, 10, 11, 12, 5, 13, 14, 15, 16, 17, 18, 19, 20, 21, 22, 23, 24, 25, 26, 27, 28, 29, 30, 31, 32, 33, 34, 35, 36, 37, 38, 39, 40, 41, 42, 43, 44, 45, 46] (by decide +kernel) (by decide +kernel)) (goodIn_sub (fun _ h => List.mem_cons_of_mem _ (List.mem_append_right _ h)) (by decide +kernel))
set_option maxRecDepth 20000 in
theorem gL_pipe_X5_pipe : GoodIn wsL_pipe (wsV RL 71 RX5 yX5_pipe wsX5_pipe) := goodIn_app (goodIn_of _ (by decide +kernel)) ggL_pipe_X5_pipe
theorem dL_pipe_0 : decode cL_pipe 0 = .ok (.aload_n 0, 1) := by decide +kernel
theorem dL_pipe_1 : decode cL_pipe 1 = .ok (.iload_n 1, 1) := by decide +kernel
theorem dL_pipe_2 : decode cL_pipe 2 = .ok (.invokevirtual 71, 3) := by decide +kernel
theorem dL_pipe_5 : decode cL_pipe 5 = .ok (.ireturn, 1) := by decide +kernel
theorem dL_pipe_6 : decode cL_pipe 6 = .ok (.astore_n 2, 1) := by decide +kernel
theorem dL_pipe_7 : decode cL_pipe 7 = .ok (.bipush (-102), 2) := by decide +kernel
theorem dL_pipe_9 : decode cL_pipe 9 = .ok (.ireturn, 1) := by decide +kernel
set_option maxRecDepth 20000 in
theorem ggL_dirt_X5_dirt : GoodIn wsL_dirt wsX5_dirt := goodIn_ca (goodIn_r _ [6, 7, 8, 9, 10, 11, 5, 12, 13, 14, 15, 16, 17, 18, 19, 20, 21, 22, 23, 24, 25, 26, 27, 28, 29, 30, 31, 32, 33, 34, 35, 36, 37, 38] (by decide +kernel) (by decide +kernel)) (goodIn_sub (fun _ h => List.mem_cons_of_mem _ (List.mem_append_right _ h)) (by decide +kernel))
set_option maxRecDepth 20000 in
theorem gL_dirt_X5_dirt : GoodIn wsL_dirt (wsV RL 74 RX5 yX5_dirt wsX5_dirt) := goodIn_app (goodIn_of _ (by decide +kernel)) ggL_dirt_X5_dirt
theorem dL_dirt_0 : decode cL_dirt 0 = .ok (.aload_n 0, 1) := by decide +kernel
theorem dL_dirt_1 : decode cL_dirt 1 = .ok (.iload_n 1, 1) := by decide +kernel
theorem dL_dirt_2 : decode cL_dirt 2 = .ok (.invokevirtual 74, 3) := by decide +kernel
theorem dL_dirt_5 : decode cL_dirt 5 = .ok (.ireturn, 1) := by decide +kernel
theorem dL_dirt_6 : decode cL_dirt 6 = .ok (.astore_n 2, 1) := by decide +kernel
theorem dL_dirt_7 : decode cL_dirt 7 = .ok (.bipush (-101), 2) := by decide +kernel
theorem dL_dirt_9 : decode cL_dirt 9 = .ok (.ireturn, 1) := by decide +kernel
set_option maxRecDepth 20000 in
theorem ggL_share_X5_share : GoodIn wsL_share wsX5_share := goodIn_ca (goodIn_ca (goodIn_r _ [7, 8, 9, 10, 11, 12, 13, 14, 6, 15, 16, 17, 18, 19, 20, 21, 22, 23, 24, 25, 26, 27, 28, 29, 30, 31, 32, 33, 34, 35, 36, 37, 38, 39, 40, 41, 42, 43, 44, 45, 46, 47, 48, 49, 50, 51, 52, 53, 54, 55, 56, 57, 58, 59, 60, 61, 62, 63, 64, 65, 66, 67, 68, 69] (by decide +kernel) (by decide +kernel)) (goodIn_sub (fun _ h => List.mem_cons_of_mem _ (List.mem_append_left _ (List.mem_append_right _ h))) (by decide +kernel))) (goodIn_sub (fun _ h => List.mem_cons_of_mem _ (List.mem_append_right _ h)) (by decide +kernel))
set_option maxRecDepth 20000 in
theorem gL_share_X5_share : GoodIn wsL_share (wsV RL 77 RX5 yX5_share wsX5_share) := goodIn_app (goodIn_of _ (by decide +kernel)) ggL_share_X5_share
theorem dL_share_0 : decode cL_share 0 = .ok (.aload_n 0, 1) := by decide +kernel
theorem dL_share_1 : decode cL_share 1 = .ok (.iload_n 1, 1) := by decide +kernel
theorem dL_share_2 : decode cL_share 2 = .ok (.iload_n 2, 1) := by decide +kernel
theorem dL_share_3 : decode cL_share 3 = .ok (.invokevirtual 77, 3) := by decide +kernel
theorem dL_share_6 : decode cL_share 6 = .ok (.ireturn, 1) := by decide +kernel
theorem dL_share_7 : decode cL_share 7 = .ok (.astore_n 3, 1) := by decide +kernel
theorem dL_share_8 : decode cL_share 8 = .ok (.bipush (-101), 2) := by decide +kernel
theorem dL_share_10 : decode cL_share 10 = .ok (.ireturn, 1) := by decide +kernel
theorem dL_share_11 : decode cL_share 11 = .ok (.astore_n 3, 1) := by decide +kernel
theorem dL_share_12 : decode cL_share 12 = .ok (.bipush (-102), 2) := by decide +kernel
theorem dL_share_14 : decode cL_share 14 = .ok (.ireturn, 1) := by decide +kernel
set_option maxRecDepth 20000 in
theorem ggL_fits_L_pipe : GoodIn wsL_fits wsL_pipe := goodIn_ca (goodIn_r _ [4, 5, 6, 7, 8, 9, 10, 11, 12, 13, 14, 15, 16, 17, 18, 19, 20, 21, 22, 23, 24, 25, 26, 27, 28, 29, 106, 107, 108, 109, 110, 111, 112, 113, 114, 115, 116, 117, 118, 119, 120, 121, 122, 123, 124, 125, 126] (by decide +kernel) (by decide +kernel)) (goodIn_sub (fun _ h => List.mem_cons_of_mem _ (List.mem_append_left _ (List.mem_append_right _ h))) (by decide +kernel))
set_option maxRecDepth 20000 in
theorem gL_fits_L_pipe : GoodIn wsL_fits (va_wsS RL 80 yL_pipe wsL_pipe) := goodIn_app (goodIn_of _ (by decide +kernel)) ggL_fits_L_pipe
set_option maxRecDepth 20000 in
theorem ggL_fits_L_batch : GoodIn wsL_fits wsL_batch := goodIn_ca (goodIn_ca (goodIn_r _ [32, 33, 5, 34, 35, 36, 9, 37, 38, 39, 40, 41, 42, 43, 44, 45, 46, 14, 15, 16, 17, 18, 19, 47, 48, 49, 50, 51, 52, 53, 54, 55, 56, 57, 58, 59, 60, 61, 62, 63, 64, 65, 66, 67, 106, 107, 108, 109, 110, 111, 112, 113, 114, 115, 116, 117, 118, 119, 120, 121, 122, 127, 128, 129, 130, 131, 132, 133, 134, 135, 136, 137, 138, 139, 140, 141, 142, 143, 144] (by decide +kernel) (by decide +kernel)) (goodIn_sub (fun _ h => List.mem_cons_of_mem _ (List.mem_append_right _ h)) (by decide +kernel))) (goodIn_sub (fun _ h => List.mem_cons_of_mem _ (List.mem_append_left _ (List.mem_append_right _ h))) (by decide +kernel))
set_option maxRecDepth 20000 in
theorem gL_fits_L_batch : GoodIn wsL_fits (va_wsS RL 85 yL_batch wsL_batch) := goodIn_app (goodIn_of _ (by decide +kernel)) ggL_fits_L_batch
set_option maxRecDepth 20000 in
theorem ggL_fits_L_unit : GoodIn wsL_fits wsL_unit := goodIn_ca (goodIn_r _ [70, 33, 71, 72, 73, 9, 74, 41, 75, 76, 77, 78, 79, 80, 38, 39, 81, 82, 83, 84, 85, 86, 87, 88, 89, 90, 91, 40, 42, 106, 107, 108, 109, 110, 111, 112, 113, 114, 115, 116, 117, 118, 119, 120, 121, 122, 145, 146, 147, 148, 149, 150, 151, 127, 128, 129, 130, 131, 132, 133, 134, 135, 136, 137, 138, 139] (by decide +kernel) (by decide +kernel)) (goodIn_sub (fun _ h => List.mem_cons_of_mem _ (List.mem_append_right _ h)) (by decide +kernel))
set_option maxRecDepth 20000 in
theorem gL_fits_L_unit : GoodIn wsL_fits (va_wsS RL 88 yL_unit wsL_unit) := goodIn_app (goodIn_of _ (by decide +kernel)) ggL_fits_L_unit
set_option maxRecDepth 20000 in
theorem ggL_fits_L_unitAnew : GoodIn wsL_fits wsL_unitAnew := goodIn_ca (goodIn_r _ [94, 33, 95, 96, 97, 9, 98, 41, 42, 77, 78, 79, 80, 38, 39, 47, 48, 49, 50, 51, 52, 53, 54, 106, 107, 108, 109, 110, 111, 112, 113, 114, 115, 116, 117, 118, 119, 120, 121, 122, 127, 128, 129, 130, 131, 132, 133, 134, 135, 136, 137, 138, 139] (by decide +kernel) (by decide +kernel)) (goodIn_sub (fun _ h => List.mem_cons_of_mem _ (List.mem_append_right _ h)) (by decide +kernel))
set_option maxRecDepth 20000 in
theorem gL_fits_L_unitAnew : GoodIn wsL_fits (va_wsS RL 90 yL_unitAnew wsL_unitAnew) := goodIn_app (goodIn_of _ (by decide +kernel)) ggL_fits_L_unitAnew
set_option maxRecDepth 20000 in
theorem ggL_fits_L_tank : GoodIn wsL_fits wsL_tank := goodIn_ca (goodIn_ca (goodIn_r _ [101, 33, 5, 102, 103, 104, 9, 105, 29, 43, 44, 45, 46, 38, 39, 14, 15, 16, 17, 18, 19, 106, 107, 108, 109, 110, 111, 112, 113, 114, 115, 116, 117, 118, 119, 120, 121, 122, 123, 124, 125, 126] (by decide +kernel) (by decide +kernel)) (goodIn_sub (fun _ h => List.mem_cons_of_mem _ (List.mem_append_right _ h)) (by decide +kernel))) (goodIn_sub (fun _ h => List.mem_cons_of_mem _ (List.mem_append_left _ (List.mem_append_right _ h))) (by decide +kernel))
set_option maxRecDepth 20000 in
theorem gL_fits_L_tank : GoodIn wsL_fits (va_wsS RL 92 yL_tank wsL_tank) := goodIn_app (goodIn_of _ (by decide +kernel)) ggL_fits_L_tank
theorem dL_fits_0 : decode cL_fits 0 = .ok (.iconst 0, 1) := by decide +kernel
theorem dL_fits_1 : decode cL_fits 1 = .ok (.istore_n 3, 1) := by decide +kernel
theorem dL_fits_2 : decode cL_fits 2 = .ok (.iconst 0, 1) := by decide +kernel
theorem dL_fits_3 : decode cL_fits 3 = .ok (.istore 4, 2) := by decide +kernel
theorem dL_fits_5 : decode cL_fits 5 = .ok (.iconst 0, 1) := by decide +kernel
theorem dL_fits_6 : decode cL_fits 6 = .ok (.istore 5, 2) := by decide +kernel
theorem dL_fits_8 : decode cL_fits 8 = .ok (.aload_n 0, 1) := by decide +kernel
theorem dL_fits_9 : decode cL_fits 9 = .ok (.iconst 3, 1) := by decide +kernel
theorem dL_fits_10 : decode cL_fits 10 = .ok (.invokestatic 80, 3) := by decide +kernel
theorem dL_fits_13 : decode cL_fits 13 = .ok (.istore 6, 2) := by decide +kernel
theorem dL_fits_15 : decode cL_fits 15 = .ok (.iconst 1, 1) := by decide +kernel
theorem dL_fits_16 : decode cL_fits 16 = .ok (.istore 7, 2) := by decide +kernel
theorem dL_fits_18 : decode cL_fits 18 = .ok (.iconst 0, 1) := by decide +kernel
theorem dL_fits_19 : decode cL_fits 19 = .ok (.istore 8, 2) := by decide +kernel
theorem dL_fits_21 : decode cL_fits 21 = .ok (.iload 8, 2) := by decide +kernel
theorem dL_fits_23 : decode cL_fits 23 = .ok (.iload_n 1, 1) := by decide +kernel
theorem dL_fits_24 : decode cL_fits 24 = .ok (.if_icmp .ge 139, 3) := by decide +kernel
theorem dL_fits_27 : decode cL_fits 27 = .ok (.iload 7, 2) := by decide +kernel
theorem dL_fits_29 : decode cL_fits 29 = .ok (.ifCond .eq 134, 3) := by decide +kernel
theorem dL_fits_32 : decode cL_fits 32 = .ok (.aload_n 0, 1) := by decide +kernel
theorem dL_fits_33 : decode cL_fits 33 = .ok (.iload 8, 2) := by decide +kernel
theorem dL_fits_35 : decode cL_fits 35 = .ok (.iconst 2, 1) := by decide +kernel
theorem dL_fits_36 : decode cL_fits 36 = .ok (.invokestatic 85, 3) := by decide +kernel
theorem dL_fits_39 : decode cL_fits 39 = .ok (.aload_n 0, 1) := by decide +kernel
theorem dL_fits_40 : decode cL_fits 40 = .ok (.iload 8, 2) := by decide +kernel
theorem dL_fits_42 : decode cL_fits 42 = .ok (.iconst 3, 1) := by decide +kernel
theorem dL_fits_43 : decode cL_fits 43 = .ok (.invokestatic 85, 3) := by decide +kernel
theorem dL_fits_46 : decode cL_fits 46 = .ok (.iadd, 1) := by decide +kernel
theorem dL_fits_47 : decode cL_fits 47 = .ok (.aload_n 0, 1) := by decide +kernel
theorem dL_fits_48 : decode cL_fits 48 = .ok (.iload 8, 2) := by decide +kernel
theorem dL_fits_50 : decode cL_fits 50 = .ok (.iconst 4, 1) := by decide +kernel
theorem dL_fits_51 : decode cL_fits 51 = .ok (.invokestatic 85, 3) := by decide +kernel
theorem dL_fits_54 : decode cL_fits 54 = .ok (.iadd, 1) := by decide +kernel
theorem dL_fits_55 : decode cL_fits 55 = .ok (.istore 9, 2) := by decide +kernel
theorem dL_fits_57 : decode cL_fits 57 = .ok (.iload 4, 2) := by decide +kernel
theorem dL_fits_59 : decode cL_fits 59 = .ok (.aload_n 0, 1) := by decide +kernel
theorem dL_fits_60 : decode cL_fits 60 = .ok (.iload 8, 2) := by decide +kernel
theorem dL_fits_62 : decode cL_fits 62 = .ok (.iconst 1, 1) := by decide +kernel
theorem dL_fits_63 : decode cL_fits 63 = .ok (.invokestatic 85, 3) := by decide +kernel
theorem dL_fits_66 : decode cL_fits 66 = .ok (.iadd, 1) := by decide +kernel
theorem dL_fits_67 : decode cL_fits 67 = .ok (.istore 4, 2) := by decide +kernel
theorem dL_fits_69 : decode cL_fits 69 = .ok (.iload 5, 2) := by decide +kernel
theorem dL_fits_71 : decode cL_fits 71 = .ok (.aload_n 0, 1) := by decide +kernel
theorem dL_fits_72 : decode cL_fits 72 = .ok (.iload 8, 2) := by decide +kernel
theorem dL_fits_74 : decode cL_fits 74 = .ok (.iconst 2, 1) := by decide +kernel
theorem dL_fits_75 : decode cL_fits 75 = .ok (.invokestatic 85, 3) := by decide +kernel
theorem dL_fits_78 : decode cL_fits 78 = .ok (.aload_n 0, 1) := by decide +kernel
theorem dL_fits_79 : decode cL_fits 79 = .ok (.iload 8, 2) := by decide +kernel
theorem dL_fits_81 : decode cL_fits 81 = .ok (.iconst 3, 1) := by decide +kernel
theorem dL_fits_82 : decode cL_fits 82 = .ok (.invokestatic 85, 3) := by decide +kernel
theorem dL_fits_85 : decode cL_fits 85 = .ok (.iadd, 1) := by decide +kernel
theorem dL_fits_86 : decode cL_fits 86 = .ok (.iadd, 1) := by decide +kernel
theorem dL_fits_87 : decode cL_fits 87 = .ok (.istore 5, 2) := by decide +kernel
theorem dL_fits_89 : decode cL_fits 89 = .ok (.iload_n 3, 1) := by decide +kernel
theorem dL_fits_90 : decode cL_fits 90 = .ok (.aload_n 0, 1) := by decide +kernel
theorem dL_fits_91 : decode cL_fits 91 = .ok (.iload 8, 2) := by decide +kernel
theorem dL_fits_93 : decode cL_fits 93 = .ok (.iconst 0, 1) := by decide +kernel
theorem dL_fits_94 : decode cL_fits 94 = .ok (.invokestatic 85, 3) := by decide +kernel
theorem dL_fits_97 : decode cL_fits 97 = .ok (.iadd, 1) := by decide +kernel
theorem dL_fits_98 : decode cL_fits 98 = .ok (.istore_n 3, 1) := by decide +kernel
theorem dL_fits_99 : decode cL_fits 99 = .ok (.aload_n 0, 1) := by decide +kernel
theorem dL_fits_100 : decode cL_fits 100 = .ok (.iload 8, 2) := by decide +kernel
theorem dL_fits_102 : decode cL_fits 102 = .ok (.iconst 0, 1) := by decide +kernel
theorem dL_fits_103 : decode cL_fits 103 = .ok (.invokestatic 85, 3) := by decide +kernel
theorem dL_fits_106 : decode cL_fits 106 = .ok (.aload_n 0, 1) := by decide +kernel
theorem dL_fits_107 : decode cL_fits 107 = .ok (.iload 8, 2) := by decide +kernel
theorem dL_fits_109 : decode cL_fits 109 = .ok (.iconst 1, 1) := by decide +kernel
theorem dL_fits_110 : decode cL_fits 110 = .ok (.invokestatic 85, 3) := by decide +kernel
theorem dL_fits_113 : decode cL_fits 113 = .ok (.iload 9, 2) := by decide +kernel
theorem dL_fits_115 : decode cL_fits 115 = .ok (.isub, 1) := by decide +kernel
theorem dL_fits_116 : decode cL_fits 116 = .ok (.if_icmp .ne 38, 3) := by decide +kernel
theorem dL_fits_119 : decode cL_fits 119 = .ok (.aload_n 0, 1) := by decide +kernel
theorem dL_fits_120 : decode cL_fits 120 = .ok (.iload 8, 2) := by decide +kernel
theorem dL_fits_122 : decode cL_fits 122 = .ok (.iconst 0, 1) := by decide +kernel
theorem dL_fits_123 : decode cL_fits 123 = .ok (.invokestatic 85, 3) := by decide +kernel
theorem dL_fits_126 : decode cL_fits 126 = .ok (.ifCond .lt 28, 3) := by decide +kernel
theorem dL_fits_129 : decode cL_fits 129 = .ok (.aload_n 0, 1) := by decide +kernel
theorem dL_fits_130 : decode cL_fits 130 = .ok (.iload 8, 2) := by decide +kernel
theorem dL_fits_132 : decode cL_fits 132 = .ok (.iconst 5, 1) := by decide +kernel
theorem dL_fits_133 : decode cL_fits 133 = .ok (.invokestatic 85, 3) := by decide +kernel
theorem dL_fits_136 : decode cL_fits 136 = .ok (.ifCond .lt 18, 3) := by decide +kernel
theorem dL_fits_139 : decode cL_fits 139 = .ok (.aload_n 0, 1) := by decide +kernel
theorem dL_fits_140 : decode cL_fits 140 = .ok (.iload 8, 2) := by decide +kernel
theorem dL_fits_142 : decode cL_fits 142 = .ok (.bipush 6, 2) := by decide +kernel
theorem dL_fits_144 : decode cL_fits 144 = .ok (.invokestatic 85, 3) := by decide +kernel
theorem dL_fits_147 : decode cL_fits 147 = .ok (.ifCond .lt 7, 3) := by decide +kernel
theorem dL_fits_150 : decode cL_fits 150 = .ok (.iconst 1, 1) := by decide +kernel
theorem dL_fits_151 : decode cL_fits 151 = .ok (.goto 4, 3) := by decide +kernel
theorem dL_fits_154 : decode cL_fits 154 = .ok (.iconst 0, 1) := by decide +kernel
theorem dL_fits_155 : decode cL_fits 155 = .ok (.istore 7, 2) := by decide +kernel
theorem dL_fits_157 : decode cL_fits 157 = .ok (.iinc 8 1, 3) := by decide +kernel
theorem dL_fits_160 : decode cL_fits 160 = .ok (.goto (-139), 3) := by decide +kernel
theorem dL_fits_163 : decode cL_fits 163 = .ok (.iconst 0, 1) := by decide +kernel
theorem dL_fits_164 : decode cL_fits 164 = .ok (.istore 8, 2) := by decide +kernel
theorem dL_fits_166 : decode cL_fits 166 = .ok (.iload 8, 2) := by decide +kernel
theorem dL_fits_168 : decode cL_fits 168 = .ok (.iload_n 2, 1) := by decide +kernel
theorem dL_fits_169 : decode cL_fits 169 = .ok (.if_icmp .ge 55, 3) := by decide +kernel
theorem dL_fits_172 : decode cL_fits 172 = .ok (.iload 7, 2) := by decide +kernel
theorem dL_fits_174 : decode cL_fits 174 = .ok (.ifCond .eq 50, 3) := by decide +kernel
theorem dL_fits_177 : decode cL_fits 177 = .ok (.aload_n 0, 1) := by decide +kernel
theorem dL_fits_178 : decode cL_fits 178 = .ok (.iload 8, 2) := by decide +kernel
theorem dL_fits_180 : decode cL_fits 180 = .ok (.invokestatic 88, 3) := by decide +kernel
theorem dL_fits_183 : decode cL_fits 183 = .ok (.aload_n 0, 1) := by decide +kernel
theorem dL_fits_184 : decode cL_fits 184 = .ok (.iload 8, 2) := by decide +kernel
theorem dL_fits_186 : decode cL_fits 186 = .ok (.invokestatic 90, 3) := by decide +kernel
theorem dL_fits_189 : decode cL_fits 189 = .ok (.if_icmp .ne 26, 3) := by decide +kernel
theorem dL_fits_192 : decode cL_fits 192 = .ok (.aload_n 0, 1) := by decide +kernel
theorem dL_fits_193 : decode cL_fits 193 = .ok (.iload 8, 2) := by decide +kernel
theorem dL_fits_195 : decode cL_fits 195 = .ok (.invokestatic 88, 3) := by decide +kernel
theorem dL_fits_198 : decode cL_fits 198 = .ok (.ifCond .lt 17, 3) := by decide +kernel
theorem dL_fits_201 : decode cL_fits 201 = .ok (.aload_n 0, 1) := by decide +kernel
theorem dL_fits_202 : decode cL_fits 202 = .ok (.iload 8, 2) := by decide +kernel
theorem dL_fits_204 : decode cL_fits 204 = .ok (.invokestatic 88, 3) := by decide +kernel
theorem dL_fits_207 : decode cL_fits 207 = .ok (.iload_n 1, 1) := by decide +kernel
theorem dL_fits_208 : decode cL_fits 208 = .ok (.if_icmp .ge 7, 3) := by decide +kernel
theorem dL_fits_211 : decode cL_fits 211 = .ok (.iconst 1, 1) := by decide +kernel
theorem dL_fits_212 : decode cL_fits 212 = .ok (.goto 4, 3) := by decide +kernel
theorem dL_fits_215 : decode cL_fits 215 = .ok (.iconst 0, 1) := by decide +kernel
theorem dL_fits_216 : decode cL_fits 216 = .ok (.istore 7, 2) := by decide +kernel
theorem dL_fits_218 : decode cL_fits 218 = .ok (.iinc 8 1, 3) := by decide +kernel
theorem dL_fits_221 : decode cL_fits 221 = .ok (.goto (-55), 3) := by decide +kernel
theorem dL_fits_224 : decode cL_fits 224 = .ok (.iconst 0, 1) := by decide +kernel
theorem dL_fits_225 : decode cL_fits 225 = .ok (.istore 8, 2) := by decide +kernel
theorem dL_fits_227 : decode cL_fits 227 = .ok (.iload 8, 2) := by decide +kernel
theorem dL_fits_229 : decode cL_fits 229 = .ok (.iconst 4, 1) := by decide +kernel
theorem dL_fits_230 : decode cL_fits 230 = .ok (.if_icmp .ge 90, 3) := by decide +kernel
theorem dL_fits_233 : decode cL_fits 233 = .ok (.iload 7, 2) := by decide +kernel
theorem dL_fits_235 : decode cL_fits 235 = .ok (.ifCond .eq 85, 3) := by decide +kernel
theorem dL_fits_238 : decode cL_fits 238 = .ok (.aload_n 0, 1) := by decide +kernel
theorem dL_fits_239 : decode cL_fits 239 = .ok (.iload 8, 2) := by decide +kernel
theorem dL_fits_241 : decode cL_fits 241 = .ok (.iconst 0, 1) := by decide +kernel
theorem dL_fits_242 : decode cL_fits 242 = .ok (.invokestatic 92, 3) := by decide +kernel
theorem dL_fits_245 : decode cL_fits 245 = .ok (.istore 9, 2) := by decide +kernel
theorem dL_fits_247 : decode cL_fits 247 = .ok (.iload 6, 2) := by decide +kernel
theorem dL_fits_249 : decode cL_fits 249 = .ok (.iload 9, 2) := by decide +kernel
theorem dL_fits_251 : decode cL_fits 251 = .ok (.iadd, 1) := by decide +kernel
theorem dL_fits_252 : decode cL_fits 252 = .ok (.istore 6, 2) := by decide +kernel
theorem dL_fits_254 : decode cL_fits 254 = .ok (.iload 9, 2) := by decide +kernel
theorem dL_fits_256 : decode cL_fits 256 = .ok (.ifCond .lt 55, 3) := by decide +kernel
theorem dL_fits_259 : decode cL_fits 259 = .ok (.iload 9, 2) := by decide +kernel
theorem dL_fits_261 : decode cL_fits 261 = .ok (.bipush 100, 2) := by decide +kernel
theorem dL_fits_263 : decode cL_fits 263 = .ok (.if_icmp .gt 48, 3) := by decide +kernel
theorem dL_fits_266 : decode cL_fits 266 = .ok (.aload_n 0, 1) := by decide +kernel
theorem dL_fits_267 : decode cL_fits 267 = .ok (.iload 8, 2) := by decide +kernel
theorem dL_fits_269 : decode cL_fits 269 = .ok (.iconst 1, 1) := by decide +kernel
theorem dL_fits_270 : decode cL_fits 270 = .ok (.invokestatic 92, 3) := by decide +kernel
theorem dL_fits_273 : decode cL_fits 273 = .ok (.iconst (-1), 1) := by decide +kernel
theorem dL_fits_274 : decode cL_fits 274 = .ok (.if_icmp .ne 7, 3) := by decide +kernel
theorem dL_fits_277 : decode cL_fits 277 = .ok (.iconst 1, 1) := by decide +kernel
theorem dL_fits_278 : decode cL_fits 278 = .ok (.goto 4, 3) := by decide +kernel
theorem dL_fits_281 : decode cL_fits 281 = .ok (.iconst 0, 1) := by decide +kernel
theorem dL_fits_282 : decode cL_fits 282 = .ok (.iload 9, 2) := by decide +kernel
theorem dL_fits_284 : decode cL_fits 284 = .ok (.ifCond .ne 7, 3) := by decide +kernel
theorem dL_fits_287 : decode cL_fits 287 = .ok (.iconst 1, 1) := by decide +kernel
theorem dL_fits_288 : decode cL_fits 288 = .ok (.goto 4, 3) := by decide +kernel
theorem dL_fits_291 : decode cL_fits 291 = .ok (.iconst 0, 1) := by decide +kernel
theorem dL_fits_292 : decode cL_fits 292 = .ok (.if_icmp .ne 19, 3) := by decide +kernel
theorem dL_fits_295 : decode cL_fits 295 = .ok (.aload_n 0, 1) := by decide +kernel
theorem dL_fits_296 : decode cL_fits 296 = .ok (.iload 8, 2) := by decide +kernel
theorem dL_fits_298 : decode cL_fits 298 = .ok (.iconst 2, 1) := by decide +kernel
theorem dL_fits_299 : decode cL_fits 299 = .ok (.invokestatic 92, 3) := by decide +kernel
theorem dL_fits_302 : decode cL_fits 302 = .ok (.iload 9, 2) := by decide +kernel
theorem dL_fits_304 : decode cL_fits 304 = .ok (.if_icmp .gt 7, 3) := by decide +kernel
theorem dL_fits_307 : decode cL_fits 307 = .ok (.iconst 1, 1) := by decide +kernel
theorem dL_fits_308 : decode cL_fits 308 = .ok (.goto 4, 3) := by decide +kernel
theorem dL_fits_311 : decode cL_fits 311 = .ok (.iconst 0, 1) := by decide +kernel
theorem dL_fits_312 : decode cL_fits 312 = .ok (.istore 7, 2) := by decide +kernel
theorem dL_fits_314 : decode cL_fits 314 = .ok (.iinc 8 1, 3) := by decide +kernel
theorem dL_fits_317 : decode cL_fits 317 = .ok (.goto (-90), 3) := by decide +kernel
theorem dL_fits_320 : decode cL_fits 320 = .ok (.iload 7, 2) := by decide +kernel
theorem dL_fits_322 : decode cL_fits 322 = .ok (.ifCond .eq 56, 3) := by decide +kernel
theorem dL_fits_325 : decode cL_fits 325 = .ok (.iload_n 3, 1) := by decide +kernel
theorem dL_fits_326 : decode cL_fits 326 = .ok (.iload_n 2, 1) := by decide +kernel
theorem dL_fits_327 : decode cL_fits 327 = .ok (.if_icmp .ne 51, 3) := by decide +kernel
theorem dL_fits_330 : decode cL_fits 330 = .ok (.iload 6, 2) := by decide +kernel
theorem dL_fits_332 : decode cL_fits 332 = .ok (.iload 5, 2) := by decide +kernel
theorem dL_fits_334 : decode cL_fits 334 = .ok (.if_icmp .gt 44, 3) := by decide +kernel
theorem dL_fits_337 : decode cL_fits 337 = .ok (.iload 4, 2) := by decide +kernel
theorem dL_fits_339 : decode cL_fits 339 = .ok (.iload_n 2, 1) := by decide +kernel
theorem dL_fits_340 : decode cL_fits 340 = .ok (.if_icmp .lt 38, 3) := by decide +kernel
theorem dL_fits_343 : decode cL_fits 343 = .ok (.aload_n 0, 1) := by decide +kernel
theorem dL_fits_344 : decode cL_fits 344 = .ok (.iload_n 2, 1) := by decide +kernel
theorem dL_fits_345 : decode cL_fits 345 = .ok (.invokestatic 88, 3) := by decide +kernel
theorem dL_fits_348 : decode cL_fits 348 = .ok (.iconst (-1), 1) := by decide +kernel
theorem dL_fits_349 : decode cL_fits 349 = .ok (.if_icmp .ne 29, 3) := by decide +kernel
theorem dL_fits_352 : decode cL_fits 352 = .ok (.aload_n 0, 1) := by decide +kernel
theorem dL_fits_353 : decode cL_fits 353 = .ok (.iconst 2, 1) := by decide +kernel
theorem dL_fits_354 : decode cL_fits 354 = .ok (.invokestatic 80, 3) := by decide +kernel
theorem dL_fits_357 : decode cL_fits 357 = .ok (.aload_n 0, 1) := by decide +kernel
theorem dL_fits_358 : decode cL_fits 358 = .ok (.iconst 1, 1) := by decide +kernel
theorem dL_fits_359 : decode cL_fits 359 = .ok (.invokestatic 80, 3) := by decide +kernel
theorem dL_fits_362 : decode cL_fits 362 = .ok (.iconst 3, 1) := by decide +kernel
theorem dL_fits_363 : decode cL_fits 363 = .ok (.if_icmp .lt 7, 3) := by decide +kernel
theorem dL_fits_366 : decode cL_fits 366 = .ok (.iconst 1, 1) := by decide +kernel
theorem dL_fits_367 : decode cL_fits 367 = .ok (.goto 4, 3) := by decide +kernel
theorem dL_fits_370 : decode cL_fits 370 = .ok (.iconst 0, 1) := by decide +kernel
theorem dL_fits_371 : decode cL_fits 371 = .ok (.if_icmp .ne 7, 3) := by decide +kernel
theorem dL_fits_374 : decode cL_fits 374 = .ok (.iconst 1, 1) := by decide +kernel
theorem dL_fits_375 : decode cL_fits 375 = .ok (.goto 4, 3) := by decide +kernel
theorem dL_fits_378 : decode cL_fits 378 = .ok (.iconst 0, 1) := by decide +kernel
theorem dL_fits_379 : decode cL_fits 379 = .ok (.ireturn, 1) := by decide +kernel
