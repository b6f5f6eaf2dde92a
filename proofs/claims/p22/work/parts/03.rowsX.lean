theorem dX0_init_0 : decode cX0_init 0 = .ok (.aload_n 0, 1) := by decide +kernel
theorem dX0_init_1 : decode cX0_init 1 = .ok (.invokespecial 3, 3) := by decide +kernel
theorem dX0_init_4 : decode cX0_init 4 = .ok (.aload_n 0, 1) := by decide +kernel
theorem dX0_init_5 : decode cX0_init 5 = .ok (.iconst (-1), 1) := by decide +kernel
theorem dX0_init_6 : decode cX0_init 6 = .ok (.putfield 9, 3) := by decide +kernel
theorem dX0_init_9 : decode cX0_init 9 = .ok (.aload_n 0, 1) := by decide +kernel
theorem dX0_init_10 : decode cX0_init 10 = .ok (.iload_n 1, 1) := by decide +kernel
theorem dX0_init_11 : decode cX0_init 11 = .ok (.putfield 15, 3) := by decide +kernel
theorem dX0_init_14 : decode cX0_init 14 = .ok (.aload_n 0, 1) := by decide +kernel
theorem dX0_init_15 : decode cX0_init 15 = .ok (.aload_n 2, 1) := by decide +kernel
theorem dX0_init_16 : decode cX0_init 16 = .ok (.putfield 18, 3) := by decide +kernel
theorem dX0_init_19 : decode cX0_init 19 = .ok (.return_, 1) := by decide +kernel
theorem dX0_tell_0 : decode cX0_tell 0 = .ok (.aload_n 0, 1) := by decide +kernel
theorem dX0_tell_1 : decode cX0_tell 1 = .ok (.iload_n 1, 1) := by decide +kernel
theorem dX0_tell_2 : decode cX0_tell 2 = .ok (.putfield 9, 3) := by decide +kernel
theorem dX0_tell_5 : decode cX0_tell 5 = .ok (.aload_n 0, 1) := by decide +kernel
theorem dX0_tell_6 : decode cX0_tell 6 = .ok (.aload_n 2, 1) := by decide +kernel
theorem dX0_tell_7 : decode cX0_tell 7 = .ok (.putfield 18, 3) := by decide +kernel
theorem dX0_tell_10 : decode cX0_tell 10 = .ok (.aload_n 0, 1) := by decide +kernel
theorem dX0_tell_11 : decode cX0_tell 11 = .ok (.iload_n 3, 1) := by decide +kernel
theorem dX0_tell_12 : decode cX0_tell 12 = .ok (.putfield 22, 3) := by decide +kernel
theorem dX0_tell_15 : decode cX0_tell 15 = .ok (.return_, 1) := by decide +kernel
theorem dX0_inPipe_0 : decode cX0_inPipe 0 = .ok (.aload_n 0, 1) := by decide +kernel
theorem dX0_inPipe_1 : decode cX0_inPipe 1 = .ok (.getfield 25, 3) := by decide +kernel
theorem dX0_inPipe_4 : decode cX0_inPipe 4 = .ok (.aload_n 0, 1) := by decide +kernel
theorem dX0_inPipe_5 : decode cX0_inPipe 5 = .ok (.getfield 28, 3) := by decide +kernel
theorem dX0_inPipe_8 : decode cX0_inPipe 8 = .ok (.isub, 1) := by decide +kernel
theorem dX0_inPipe_9 : decode cX0_inPipe 9 = .ok (.aload_n 0, 1) := by decide +kernel
theorem dX0_inPipe_10 : decode cX0_inPipe 10 = .ok (.getfield 31, 3) := by decide +kernel
theorem dX0_inPipe_13 : decode cX0_inPipe 13 = .ok (.isub, 1) := by decide +kernel
theorem dX0_inPipe_14 : decode cX0_inPipe 14 = .ok (.aload_n 0, 1) := by decide +kernel
theorem dX0_inPipe_15 : decode cX0_inPipe 15 = .ok (.getfield 34, 3) := by decide +kernel
theorem dX0_inPipe_18 : decode cX0_inPipe 18 = .ok (.isub, 1) := by decide +kernel
theorem dX0_inPipe_19 : decode cX0_inPipe 19 = .ok (.ireturn, 1) := by decide +kernel
theorem dX0_waiting_0 : decode cX0_waiting 0 = .ok (.aload_n 0, 1) := by decide +kernel
theorem dX0_waiting_1 : decode cX0_waiting 1 = .ok (.getfield 22, 3) := by decide +kernel
theorem dX0_waiting_4 : decode cX0_waiting 4 = .ok (.aload_n 0, 1) := by decide +kernel
theorem dX0_waiting_5 : decode cX0_waiting 5 = .ok (.getfield 25, 3) := by decide +kernel
theorem dX0_waiting_8 : decode cX0_waiting 8 = .ok (.isub, 1) := by decide +kernel
theorem dX0_waiting_9 : decode cX0_waiting 9 = .ok (.ireturn, 1) := by decide +kernel
theorem dX1_init_0 : decode cX1_init 0 = .ok (.aload_n 0, 1) := by decide +kernel
theorem dX1_init_1 : decode cX1_init 1 = .ok (.invokespecial 1, 3) := by decide +kernel
theorem dX1_init_4 : decode cX1_init 4 = .ok (.aload_n 0, 1) := by decide +kernel
theorem dX1_init_5 : decode cX1_init 5 = .ok (.bipush 8, 2) := by decide +kernel
theorem dX1_init_7 : decode cX1_init 7 = .ok (.putfield 7, 3) := by decide +kernel
theorem dX1_init_10 : decode cX1_init 10 = .ok (.aload_n 0, 1) := by decide +kernel
theorem dX1_init_11 : decode cX1_init 11 = .ok (.iconst 3, 1) := by decide +kernel
theorem dX1_init_12 : decode cX1_init 12 = .ok (.putfield 13, 3) := by decide +kernel
theorem dX1_init_15 : decode cX1_init 15 = .ok (.aload_n 0, 1) := by decide +kernel
theorem dX1_init_16 : decode cX1_init 16 = .ok (.iload_n 1, 1) := by decide +kernel
theorem dX1_init_17 : decode cX1_init 17 = .ok (.putfield 16, 3) := by decide +kernel
theorem dX1_init_20 : decode cX1_init 20 = .ok (.aload_n 0, 1) := by decide +kernel
theorem dX1_init_21 : decode cX1_init 21 = .ok (.iload_n 1, 1) := by decide +kernel
theorem dX1_init_22 : decode cX1_init 22 = .ok (.putfield 19, 3) := by decide +kernel
theorem dX1_init_25 : decode cX1_init 25 = .ok (.return_, 1) := by decide +kernel
theorem dX1_tell_0 : decode cX1_tell 0 = .ok (.aload_n 0, 1) := by decide +kernel
theorem dX1_tell_1 : decode cX1_tell 1 = .ok (.iload_n 1, 1) := by decide +kernel
theorem dX1_tell_2 : decode cX1_tell 2 = .ok (.putfield 7, 3) := by decide +kernel
theorem dX1_tell_5 : decode cX1_tell 5 = .ok (.aload_n 0, 1) := by decide +kernel
theorem dX1_tell_6 : decode cX1_tell 6 = .ok (.iload_n 2, 1) := by decide +kernel
theorem dX1_tell_7 : decode cX1_tell 7 = .ok (.putfield 13, 3) := by decide +kernel
theorem dX1_tell_10 : decode cX1_tell 10 = .ok (.aload_n 0, 1) := by decide +kernel
theorem dX1_tell_11 : decode cX1_tell 11 = .ok (.iload_n 3, 1) := by decide +kernel
theorem dX1_tell_12 : decode cX1_tell 12 = .ok (.putfield 19, 3) := by decide +kernel
theorem dX1_tell_15 : decode cX1_tell 15 = .ok (.aload_n 0, 1) := by decide +kernel
theorem dX1_tell_16 : decode cX1_tell 16 = .ok (.iload 4, 2) := by decide +kernel
theorem dX1_tell_18 : decode cX1_tell 18 = .ok (.putfield 22, 3) := by decide +kernel
theorem dX1_tell_21 : decode cX1_tell 21 = .ok (.return_, 1) := by decide +kernel
theorem dX1_bears_0 : decode cX1_bears 0 = .ok (.aload_n 0, 1) := by decide +kernel
theorem dX1_bears_1 : decode cX1_bears 1 = .ok (.getfield 22, 3) := by decide +kernel
theorem dX1_bears_4 : decode cX1_bears 4 = .ok (.iconst 1, 1) := by decide +kernel
theorem dX1_bears_5 : decode cX1_bears 5 = .ok (.aload_n 1, 1) := by decide +kernel
theorem dX1_bears_6 : decode cX1_bears 6 = .ok (.getfield 16, 3) := by decide +kernel
theorem dX1_bears_9 : decode cX1_bears 9 = .ok (.ishl, 1) := by decide +kernel
theorem dX1_bears_10 : decode cX1_bears 10 = .ok (.iand, 1) := by decide +kernel
theorem dX1_bears_11 : decode cX1_bears 11 = .ok (.ifCond .ne 21, 3) := by decide +kernel
theorem dX1_bears_14 : decode cX1_bears 14 = .ok (.aload_n 1, 1) := by decide +kernel
theorem dX1_bears_15 : decode cX1_bears 15 = .ok (.getfield 22, 3) := by decide +kernel
theorem dX1_bears_18 : decode cX1_bears 18 = .ok (.iconst 1, 1) := by decide +kernel
theorem dX1_bears_19 : decode cX1_bears 19 = .ok (.aload_n 0, 1) := by decide +kernel
theorem dX1_bears_20 : decode cX1_bears 20 = .ok (.getfield 16, 3) := by decide +kernel
theorem dX1_bears_23 : decode cX1_bears 23 = .ok (.ishl, 1) := by decide +kernel
theorem dX1_bears_24 : decode cX1_bears 24 = .ok (.iand, 1) := by decide +kernel
theorem dX1_bears_25 : decode cX1_bears 25 = .ok (.ifCond .ne 7, 3) := by decide +kernel
theorem dX1_bears_28 : decode cX1_bears 28 = .ok (.iconst 1, 1) := by decide +kernel
theorem dX1_bears_29 : decode cX1_bears 29 = .ok (.goto 4, 3) := by decide +kernel
theorem dX1_bears_32 : decode cX1_bears 32 = .ok (.iconst 0, 1) := by decide +kernel
theorem dX1_bears_33 : decode cX1_bears 33 = .ok (.ireturn, 1) := by decide +kernel
theorem dX2_init_0 : decode cX2_init 0 = .ok (.aload_n 0, 1) := by decide +kernel
theorem dX2_init_1 : decode cX2_init 1 = .ok (.invokespecial 3, 3) := by decide +kernel
theorem dX2_init_4 : decode cX2_init 4 = .ok (.aload_n 0, 1) := by decide +kernel
theorem dX2_init_5 : decode cX2_init 5 = .ok (.bipush 60, 2) := by decide +kernel
theorem dX2_init_7 : decode cX2_init 7 = .ok (.newarray .int, 2) := by decide +kernel
theorem dX2_init_9 : decode cX2_init 9 = .ok (.putfield 9, 3) := by decide +kernel
theorem dX2_init_12 : decode cX2_init 12 = .ok (.aload_n 0, 1) := by decide +kernel
theorem dX2_init_13 : decode cX2_init 13 = .ok (.bipush 6, 2) := by decide +kernel
theorem dX2_init_15 : decode cX2_init 15 = .ok (.newarray .int, 2) := by decide +kernel
theorem dX2_init_17 : decode cX2_init 17 = .ok (.putfield 15, 3) := by decide +kernel
theorem dX2_init_20 : decode cX2_init 20 = .ok (.aload_n 0, 1) := by decide +kernel
theorem dX2_init_21 : decode cX2_init 21 = .ok (.iconst 5, 1) := by decide +kernel
theorem dX2_init_22 : decode cX2_init 22 = .ok (.putfield 18, 3) := by decide +kernel
theorem dX2_init_25 : decode cX2_init 25 = .ok (.return_, 1) := by decide +kernel
theorem dX2_tell_0 : decode cX2_tell 0 = .ok (.aload_n 0, 1) := by decide +kernel
theorem dX2_tell_1 : decode cX2_tell 1 = .ok (.iload_n 1, 1) := by decide +kernel
theorem dX2_tell_2 : decode cX2_tell 2 = .ok (.putfield 18, 3) := by decide +kernel
theorem dX2_tell_5 : decode cX2_tell 5 = .ok (.aload_n 0, 1) := by decide +kernel
theorem dX2_tell_6 : decode cX2_tell 6 = .ok (.iload_n 2, 1) := by decide +kernel
theorem dX2_tell_7 : decode cX2_tell 7 = .ok (.putfield 22, 3) := by decide +kernel
theorem dX2_tell_10 : decode cX2_tell 10 = .ok (.aload_n 0, 1) := by decide +kernel
theorem dX2_tell_11 : decode cX2_tell 11 = .ok (.iload_n 3, 1) := by decide +kernel
theorem dX2_tell_12 : decode cX2_tell 12 = .ok (.putfield 25, 3) := by decide +kernel
theorem dX2_tell_15 : decode cX2_tell 15 = .ok (.return_, 1) := by decide +kernel
theorem dX2_fill_0 : decode cX2_fill 0 = .ok (.iconst 0, 1) := by decide +kernel
theorem dX2_fill_1 : decode cX2_fill 1 = .ok (.istore_n 3, 1) := by decide +kernel
theorem dX2_fill_2 : decode cX2_fill 2 = .ok (.iload_n 3, 1) := by decide +kernel
theorem dX2_fill_3 : decode cX2_fill 3 = .ok (.aload_n 0, 1) := by decide +kernel
theorem dX2_fill_4 : decode cX2_fill 4 = .ok (.getfield 18, 3) := by decide +kernel
theorem dX2_fill_7 : decode cX2_fill 7 = .ok (.if_icmp .ge 18, 3) := by decide +kernel
theorem dX2_fill_10 : decode cX2_fill 10 = .ok (.aload_n 0, 1) := by decide +kernel
theorem dX2_fill_11 : decode cX2_fill 11 = .ok (.getfield 9, 3) := by decide +kernel
theorem dX2_fill_14 : decode cX2_fill 14 = .ok (.iload_n 3, 1) := by decide +kernel
theorem dX2_fill_15 : decode cX2_fill 15 = .ok (.iload_n 1, 1) := by decide +kernel
theorem dX2_fill_16 : decode cX2_fill 16 = .ok (.iload_n 3, 1) := by decide +kernel
theorem dX2_fill_17 : decode cX2_fill 17 = .ok (.iadd, 1) := by decide +kernel
theorem dX2_fill_18 : decode cX2_fill 18 = .ok (.iastore, 1) := by decide +kernel
theorem dX2_fill_19 : decode cX2_fill 19 = .ok (.iinc 3 1, 3) := by decide +kernel
theorem dX2_fill_22 : decode cX2_fill 22 = .ok (.goto (-20), 3) := by decide +kernel
theorem dX2_fill_25 : decode cX2_fill 25 = .ok (.aload_n 0, 1) := by decide +kernel
theorem dX2_fill_26 : decode cX2_fill 26 = .ok (.getfield 15, 3) := by decide +kernel
theorem dX2_fill_29 : decode cX2_fill 29 = .ok (.iload_n 2, 1) := by decide +kernel
theorem dX2_fill_30 : decode cX2_fill 30 = .ok (.aload_n 0, 1) := by decide +kernel
theorem dX2_fill_31 : decode cX2_fill 31 = .ok (.getfield 18, 3) := by decide +kernel
theorem dX2_fill_34 : decode cX2_fill 34 = .ok (.iastore, 1) := by decide +kernel
theorem dX2_fill_35 : decode cX2_fill 35 = .ok (.return_, 1) := by decide +kernel
theorem dX2_fromEnd_0 : decode cX2_fromEnd 0 = .ok (.aload_n 0, 1) := by decide +kernel
theorem dX2_fromEnd_1 : decode cX2_fromEnd 1 = .ok (.getfield 28, 3) := by decide +kernel
theorem dX2_fromEnd_4 : decode cX2_fromEnd 4 = .ok (.iload_n 1, 1) := by decide +kernel
theorem dX2_fromEnd_5 : decode cX2_fromEnd 5 = .ok (.iadd, 1) := by decide +kernel
theorem dX2_fromEnd_6 : decode cX2_fromEnd 6 = .ok (.istore_n 2, 1) := by decide +kernel
theorem dX2_fromEnd_7 : decode cX2_fromEnd 7 = .ok (.iload_n 2, 1) := by decide +kernel
theorem dX2_fromEnd_8 : decode cX2_fromEnd 8 = .ok (.aload_n 0, 1) := by decide +kernel
theorem dX2_fromEnd_9 : decode cX2_fromEnd 9 = .ok (.getfield 18, 3) := by decide +kernel
theorem dX2_fromEnd_12 : decode cX2_fromEnd 12 = .ok (.if_icmp .lt 10, 3) := by decide +kernel
theorem dX2_fromEnd_15 : decode cX2_fromEnd 15 = .ok (.iload_n 2, 1) := by decide +kernel
theorem dX2_fromEnd_16 : decode cX2_fromEnd 16 = .ok (.aload_n 0, 1) := by decide +kernel
theorem dX2_fromEnd_17 : decode cX2_fromEnd 17 = .ok (.getfield 18, 3) := by decide +kernel
theorem dX2_fromEnd_20 : decode cX2_fromEnd 20 = .ok (.isub, 1) := by decide +kernel
theorem dX2_fromEnd_21 : decode cX2_fromEnd 21 = .ok (.istore_n 2, 1) := by decide +kernel
theorem dX2_fromEnd_22 : decode cX2_fromEnd 22 = .ok (.iload_n 2, 1) := by decide +kernel
theorem dX2_fromEnd_23 : decode cX2_fromEnd 23 = .ok (.ifCond .lt 20, 3) := by decide +kernel
theorem dX2_fromEnd_26 : decode cX2_fromEnd 26 = .ok (.iload_n 2, 1) := by decide +kernel
theorem dX2_fromEnd_27 : decode cX2_fromEnd 27 = .ok (.aload_n 0, 1) := by decide +kernel
theorem dX2_fromEnd_28 : decode cX2_fromEnd 28 = .ok (.getfield 18, 3) := by decide +kernel
theorem dX2_fromEnd_31 : decode cX2_fromEnd 31 = .ok (.if_icmp .ge 12, 3) := by decide +kernel
theorem dX2_fromEnd_34 : decode cX2_fromEnd 34 = .ok (.aload_n 0, 1) := by decide +kernel
theorem dX2_fromEnd_35 : decode cX2_fromEnd 35 = .ok (.getfield 9, 3) := by decide +kernel
theorem dX2_fromEnd_38 : decode cX2_fromEnd 38 = .ok (.iload_n 2, 1) := by decide +kernel
theorem dX2_fromEnd_39 : decode cX2_fromEnd 39 = .ok (.iaload, 1) := by decide +kernel
theorem dX2_fromEnd_40 : decode cX2_fromEnd 40 = .ok (.goto 4, 3) := by decide +kernel
theorem dX2_fromEnd_43 : decode cX2_fromEnd 43 = .ok (.iconst 0, 1) := by decide +kernel
theorem dX2_fromEnd_44 : decode cX2_fromEnd 44 = .ok (.ireturn, 1) := by decide +kernel
theorem dX2_moveOn_0 : decode cX2_moveOn 0 = .ok (.aload_n 0, 1) := by decide +kernel
theorem dX2_moveOn_1 : decode cX2_moveOn 1 = .ok (.getfield 9, 3) := by decide +kernel
theorem dX2_moveOn_4 : decode cX2_moveOn 4 = .ok (.aload_n 0, 1) := by decide +kernel
theorem dX2_moveOn_5 : decode cX2_moveOn 5 = .ok (.getfield 28, 3) := by decide +kernel
theorem dX2_moveOn_8 : decode cX2_moveOn 8 = .ok (.iload_n 1, 1) := by decide +kernel
theorem dX2_moveOn_9 : decode cX2_moveOn 9 = .ok (.iastore, 1) := by decide +kernel
theorem dX2_moveOn_10 : decode cX2_moveOn 10 = .ok (.aload_n 0, 1) := by decide +kernel
theorem dX2_moveOn_11 : decode cX2_moveOn 11 = .ok (.aload_n 0, 1) := by decide +kernel
theorem dX2_moveOn_12 : decode cX2_moveOn 12 = .ok (.getfield 28, 3) := by decide +kernel
theorem dX2_moveOn_15 : decode cX2_moveOn 15 = .ok (.iconst 1, 1) := by decide +kernel
theorem dX2_moveOn_16 : decode cX2_moveOn 16 = .ok (.iadd, 1) := by decide +kernel
theorem dX2_moveOn_17 : decode cX2_moveOn 17 = .ok (.aload_n 0, 1) := by decide +kernel
theorem dX2_moveOn_18 : decode cX2_moveOn 18 = .ok (.getfield 18, 3) := by decide +kernel
theorem dX2_moveOn_21 : decode cX2_moveOn 21 = .ok (.if_icmp .ge 12, 3) := by decide +kernel
theorem dX2_moveOn_24 : decode cX2_moveOn 24 = .ok (.aload_n 0, 1) := by decide +kernel
theorem dX2_moveOn_25 : decode cX2_moveOn 25 = .ok (.getfield 28, 3) := by decide +kernel
theorem dX2_moveOn_28 : decode cX2_moveOn 28 = .ok (.iconst 1, 1) := by decide +kernel
theorem dX2_moveOn_29 : decode cX2_moveOn 29 = .ok (.iadd, 1) := by decide +kernel
theorem dX2_moveOn_30 : decode cX2_moveOn 30 = .ok (.goto 4, 3) := by decide +kernel
theorem dX2_moveOn_33 : decode cX2_moveOn 33 = .ok (.iconst 0, 1) := by decide +kernel
theorem dX2_moveOn_34 : decode cX2_moveOn 34 = .ok (.putfield 28, 3) := by decide +kernel
theorem dX2_moveOn_37 : decode cX2_moveOn 37 = .ok (.return_, 1) := by decide +kernel
theorem dX3_init_0 : decode cX3_init 0 = .ok (.aload_n 0, 1) := by decide +kernel
theorem dX3_init_1 : decode cX3_init 1 = .ok (.invokespecial 3, 3) := by decide +kernel
theorem dX3_init_4 : decode cX3_init 4 = .ok (.aload_n 0, 1) := by decide +kernel
theorem dX3_init_5 : decode cX3_init 5 = .ok (.iconst (-1), 1) := by decide +kernel
theorem dX3_init_6 : decode cX3_init 6 = .ok (.putfield 9, 3) := by decide +kernel
theorem dX3_init_9 : decode cX3_init 9 = .ok (.return_, 1) := by decide +kernel
theorem dX3_take_0 : decode cX3_take 0 = .ok (.aload_n 0, 1) := by decide +kernel
theorem dX3_take_1 : decode cX3_take 1 = .ok (.getfield 15, 3) := by decide +kernel
theorem dX3_take_4 : decode cX3_take 4 = .ok (.bipush 100, 2) := by decide +kernel
theorem dX3_take_6 : decode cX3_take 6 = .ok (.if_icmp .lt 14, 3) := by decide +kernel
theorem dX3_take_9 : decode cX3_take 9 = .ok (.aload_n 0, 1) := by decide +kernel
theorem dX3_take_10 : decode cX3_take 10 = .ok (.dup, 1) := by decide +kernel
theorem dX3_take_11 : decode cX3_take 11 = .ok (.getfield 18, 3) := by decide +kernel
theorem dX3_take_14 : decode cX3_take 14 = .ok (.iconst 1, 1) := by decide +kernel
theorem dX3_take_15 : decode cX3_take 15 = .ok (.iadd, 1) := by decide +kernel
theorem dX3_take_16 : decode cX3_take 16 = .ok (.putfield 18, 3) := by decide +kernel
theorem dX3_take_19 : decode cX3_take 19 = .ok (.return_, 1) := by decide +kernel
theorem dX3_take_20 : decode cX3_take 20 = .ok (.aload_n 0, 1) := by decide +kernel
theorem dX3_take_21 : decode cX3_take 21 = .ok (.dup, 1) := by decide +kernel
theorem dX3_take_22 : decode cX3_take 22 = .ok (.getfield 15, 3) := by decide +kernel
theorem dX3_take_25 : decode cX3_take 25 = .ok (.iconst 1, 1) := by decide +kernel
theorem dX3_take_26 : decode cX3_take 26 = .ok (.iadd, 1) := by decide +kernel
theorem dX3_take_27 : decode cX3_take 27 = .ok (.putfield 15, 3) := by decide +kernel
theorem dX3_take_30 : decode cX3_take 30 = .ok (.aload_n 0, 1) := by decide +kernel
theorem dX3_take_31 : decode cX3_take 31 = .ok (.aload_n 0, 1) := by decide +kernel
theorem dX3_take_32 : decode cX3_take 32 = .ok (.getfield 9, 3) := by decide +kernel
theorem dX3_take_35 : decode cX3_take 35 = .ok (.iload_n 1, 1) := by decide +kernel
theorem dX3_take_36 : decode cX3_take 36 = .ok (.invokestatic 21, 3) := by decide +kernel
theorem dX3_take_39 : decode cX3_take 39 = .ok (.putfield 9, 3) := by decide +kernel
theorem dX3_take_42 : decode cX3_take 42 = .ok (.aload_n 0, 1) := by decide +kernel
theorem dX3_take_43 : decode cX3_take 43 = .ok (.dup, 1) := by decide +kernel
theorem dX3_take_44 : decode cX3_take 44 = .ok (.getfield 27, 3) := by decide +kernel
theorem dX3_take_47 : decode cX3_take 47 = .ok (.iload_n 2, 1) := by decide +kernel
theorem dX3_take_48 : decode cX3_take 48 = .ok (.ifCond .eq 7, 3) := by decide +kernel
theorem dX3_take_51 : decode cX3_take 51 = .ok (.iconst 1, 1) := by decide +kernel
theorem dX3_take_52 : decode cX3_take 52 = .ok (.goto 4, 3) := by decide +kernel
theorem dX3_take_55 : decode cX3_take 55 = .ok (.iconst 0, 1) := by decide +kernel
theorem dX3_take_56 : decode cX3_take 56 = .ok (.iadd, 1) := by decide +kernel
theorem dX3_take_57 : decode cX3_take 57 = .ok (.putfield 27, 3) := by decide +kernel
theorem dX3_take_60 : decode cX3_take 60 = .ok (.return_, 1) := by decide +kernel
theorem dX3_pourOut_0 : decode cX3_pourOut 0 = .ok (.aload_n 0, 1) := by decide +kernel
theorem dX3_pourOut_1 : decode cX3_pourOut 1 = .ok (.getfield 15, 3) := by decide +kernel
theorem dX3_pourOut_4 : decode cX3_pourOut 4 = .ok (.istore_n 1, 1) := by decide +kernel
theorem dX3_pourOut_5 : decode cX3_pourOut 5 = .ok (.aload_n 0, 1) := by decide +kernel
theorem dX3_pourOut_6 : decode cX3_pourOut 6 = .ok (.iconst 0, 1) := by decide +kernel
theorem dX3_pourOut_7 : decode cX3_pourOut 7 = .ok (.putfield 15, 3) := by decide +kernel
theorem dX3_pourOut_10 : decode cX3_pourOut 10 = .ok (.aload_n 0, 1) := by decide +kernel
theorem dX3_pourOut_11 : decode cX3_pourOut 11 = .ok (.iconst (-1), 1) := by decide +kernel
theorem dX3_pourOut_12 : decode cX3_pourOut 12 = .ok (.putfield 9, 3) := by decide +kernel
theorem dX3_pourOut_15 : decode cX3_pourOut 15 = .ok (.aload_n 0, 1) := by decide +kernel
theorem dX3_pourOut_16 : decode cX3_pourOut 16 = .ok (.iconst 0, 1) := by decide +kernel
theorem dX3_pourOut_17 : decode cX3_pourOut 17 = .ok (.putfield 27, 3) := by decide +kernel
theorem dX3_pourOut_20 : decode cX3_pourOut 20 = .ok (.iload_n 1, 1) := by decide +kernel
theorem dX3_pourOut_21 : decode cX3_pourOut 21 = .ok (.ireturn, 1) := by decide +kernel
theorem dX4_init_0 : decode cX4_init 0 = .ok (.aload_n 0, 1) := by decide +kernel
theorem dX4_init_1 : decode cX4_init 1 = .ok (.invokespecial 3, 3) := by decide +kernel
theorem dX4_init_4 : decode cX4_init 4 = .ok (.aload_n 0, 1) := by decide +kernel
theorem dX4_init_5 : decode cX4_init 5 = .ok (.iconst (-1), 1) := by decide +kernel
theorem dX4_init_6 : decode cX4_init 6 = .ok (.putfield 9, 3) := by decide +kernel
theorem dX4_init_9 : decode cX4_init 9 = .ok (.return_, 1) := by decide +kernel
theorem dX4_tell_0 : decode cX4_tell 0 = .ok (.aload_n 0, 1) := by decide +kernel
theorem dX4_tell_1 : decode cX4_tell 1 = .ok (.iload_n 1, 1) := by decide +kernel
theorem dX4_tell_2 : decode cX4_tell 2 = .ok (.putfield 9, 3) := by decide +kernel
theorem dX4_tell_5 : decode cX4_tell 5 = .ok (.aload_n 0, 1) := by decide +kernel
theorem dX4_tell_6 : decode cX4_tell 6 = .ok (.iload_n 2, 1) := by decide +kernel
theorem dX4_tell_7 : decode cX4_tell 7 = .ok (.putfield 15, 3) := by decide +kernel
theorem dX4_tell_10 : decode cX4_tell 10 = .ok (.aload_n 0, 1) := by decide +kernel
theorem dX4_tell_11 : decode cX4_tell 11 = .ok (.iload_n 3, 1) := by decide +kernel
theorem dX4_tell_12 : decode cX4_tell 12 = .ok (.putfield 18, 3) := by decide +kernel
theorem dX4_tell_15 : decode cX4_tell 15 = .ok (.return_, 1) := by decide +kernel
theorem dX4_takesMore_0 : decode cX4_takesMore 0 = .ok (.aload_n 0, 1) := by decide +kernel
theorem dX4_takesMore_1 : decode cX4_takesMore 1 = .ok (.getfield 9, 3) := by decide +kernel
theorem dX4_takesMore_4 : decode cX4_takesMore 4 = .ok (.iconst (-1), 1) := by decide +kernel
theorem dX4_takesMore_5 : decode cX4_takesMore 5 = .ok (.if_icmp .eq 18, 3) := by decide +kernel
theorem dX4_takesMore_8 : decode cX4_takesMore 8 = .ok (.aload_n 0, 1) := by decide +kernel
theorem dX4_takesMore_9 : decode cX4_takesMore 9 = .ok (.getfield 21, 3) := by decide +kernel
theorem dX4_takesMore_12 : decode cX4_takesMore 12 = .ok (.aload_n 0, 1) := by decide +kernel
theorem dX4_takesMore_13 : decode cX4_takesMore 13 = .ok (.getfield 15, 3) := by decide +kernel
theorem dX4_takesMore_16 : decode cX4_takesMore 16 = .ok (.if_icmp .ge 7, 3) := by decide +kernel
theorem dX4_takesMore_19 : decode cX4_takesMore 19 = .ok (.iconst 1, 1) := by decide +kernel
theorem dX4_takesMore_20 : decode cX4_takesMore 20 = .ok (.goto 4, 3) := by decide +kernel
theorem dX4_takesMore_23 : decode cX4_takesMore 23 = .ok (.iconst 0, 1) := by decide +kernel
theorem dX4_takesMore_24 : decode cX4_takesMore 24 = .ok (.ireturn, 1) := by decide +kernel
set_option maxRecDepth 20000 in
theorem ggX5_init_X4_init : GoodIn wsX5_init wsX4_init := goodIn_r _ [32, 33, 2, 3, 34, 75, 76, 77, 78] (by decide +kernel) (by decide +kernel)
set_option maxRecDepth 20000 in
theorem gX5_init_X4_init_n39 : GoodIn wsX5_init (wsX4_init) := ggX5_init_X4_init
set_option maxRecDepth 20000 in
theorem ggX5_init_X2_init : GoodIn wsX5_init wsX2_init := goodIn_r _ [36, 37, 2, 3, 12, 38, 39, 40, 79, 80, 81, 82, 83, 84, 85] (by decide +kernel) (by decide +kernel)
set_option maxRecDepth 20000 in
theorem gX5_init_X2_init_n57 : GoodIn wsX5_init (wsX2_init) := ggX5_init_X2_init
set_option maxRecDepth 20000 in
theorem ggX5_init_X1_init : GoodIn wsX5_init wsX1_init := goodIn_r _ [42, 43, 2, 3, 44, 45, 46, 47, 86, 87, 88, 89, 90] (by decide +kernel) (by decide +kernel)
set_option maxRecDepth 20000 in
theorem gX5_init_X1_init_n58 : GoodIn wsX5_init (wsX1_init) := ggX5_init_X1_init
set_option maxRecDepth 20000 in
theorem ggX5_init_X0_init : GoodIn wsX5_init wsX0_init := goodIn_r _ [49, 50, 2, 3, 51, 52, 53, 91, 92, 93, 94, 95, 96, 97, 98, 99, 100, 101, 102, 103] (by decide +kernel) (by decide +kernel)
set_option maxRecDepth 20000 in
theorem gX5_init_X0_init_n61 : GoodIn wsX5_init (wsX0_init) := ggX5_init_X0_init
set_option maxRecDepth 20000 in
theorem ggX5_init_X3_init : GoodIn wsX5_init wsX3_init := goodIn_r _ [55, 56, 2, 3, 57, 104, 105, 106, 107] (by decide +kernel) (by decide +kernel)
set_option maxRecDepth 20000 in
theorem gX5_init_X3_init_n64 : GoodIn wsX5_init (wsX3_init) := ggX5_init_X3_init
theorem dX5_init_0 : decode cX5_init 0 = .ok (.aload_n 0, 1) := by decide +kernel
theorem dX5_init_1 : decode cX5_init 1 = .ok (.invokespecial 1, 3) := by decide +kernel
theorem dX5_init_4 : decode cX5_init 4 = .ok (.aload_n 0, 1) := by decide +kernel
theorem dX5_init_5 : decode cX5_init 5 = .ok (.bipush 6, 2) := by decide +kernel
theorem dX5_init_7 : decode cX5_init 7 = .ok (.anewarray 9, 3) := by decide +kernel
theorem dX5_init_10 : decode cX5_init 10 = .ok (.putfield 11, 3) := by decide +kernel
theorem dX5_init_13 : decode cX5_init 13 = .ok (.aload_n 0, 1) := by decide +kernel
theorem dX5_init_14 : decode cX5_init 14 = .ok (.bipush 6, 2) := by decide +kernel
theorem dX5_init_16 : decode cX5_init 16 = .ok (.anewarray 15, 3) := by decide +kernel
theorem dX5_init_19 : decode cX5_init 19 = .ok (.putfield 17, 3) := by decide +kernel
theorem dX5_init_22 : decode cX5_init 22 = .ok (.aload_n 0, 1) := by decide +kernel
theorem dX5_init_23 : decode cX5_init 23 = .ok (.bipush 40, 2) := by decide +kernel
theorem dX5_init_25 : decode cX5_init 25 = .ok (.anewarray 21, 3) := by decide +kernel
theorem dX5_init_28 : decode cX5_init 28 = .ok (.putfield 23, 3) := by decide +kernel
theorem dX5_init_31 : decode cX5_init 31 = .ok (.aload_n 0, 1) := by decide +kernel
theorem dX5_init_32 : decode cX5_init 32 = .ok (.iconst 4, 1) := by decide +kernel
theorem dX5_init_33 : decode cX5_init 33 = .ok (.anewarray 27, 3) := by decide +kernel
theorem dX5_init_36 : decode cX5_init 36 = .ok (.putfield 29, 3) := by decide +kernel
theorem dX5_init_39 : decode cX5_init 39 = .ok (.aload_n 0, 1) := by decide +kernel
theorem dX5_init_40 : decode cX5_init 40 = .ok (.iconst 5, 1) := by decide +kernel
theorem dX5_init_41 : decode cX5_init 41 = .ok (.newarray .int, 2) := by decide +kernel
theorem dX5_init_43 : decode cX5_init 43 = .ok (.putfield 33, 3) := by decide +kernel
theorem dX5_init_46 : decode cX5_init 46 = .ok (.aload_n 0, 1) := by decide +kernel
theorem dX5_init_47 : decode cX5_init 47 = .ok (.new 37, 3) := by decide +kernel
theorem dX5_init_50 : decode cX5_init 50 = .ok (.dup, 1) := by decide +kernel
theorem dX5_init_51 : decode cX5_init 51 = .ok (.invokespecial 39, 3) := by decide +kernel
theorem dX5_init_54 : decode cX5_init 54 = .ok (.putfield 40, 3) := by decide +kernel
theorem dX5_init_57 : decode cX5_init 57 = .ok (.aload_n 0, 1) := by decide +kernel
theorem dX5_init_58 : decode cX5_init 58 = .ok (.new 37, 3) := by decide +kernel
theorem dX5_init_61 : decode cX5_init 61 = .ok (.dup, 1) := by decide +kernel
theorem dX5_init_62 : decode cX5_init 62 = .ok (.invokespecial 39, 3) := by decide +kernel
theorem dX5_init_65 : decode cX5_init 65 = .ok (.putfield 44, 3) := by decide +kernel
theorem dX5_init_68 : decode cX5_init 68 = .ok (.aload_n 0, 1) := by decide +kernel
theorem dX5_init_69 : decode cX5_init 69 = .ok (.new 37, 3) := by decide +kernel
theorem dX5_init_72 : decode cX5_init 72 = .ok (.dup, 1) := by decide +kernel
theorem dX5_init_73 : decode cX5_init 73 = .ok (.invokespecial 39, 3) := by decide +kernel
theorem dX5_init_76 : decode cX5_init 76 = .ok (.putfield 47, 3) := by decide +kernel
theorem dX5_init_79 : decode cX5_init 79 = .ok (.aload_n 0, 1) := by decide +kernel
theorem dX5_init_80 : decode cX5_init 80 = .ok (.iconst 1, 1) := by decide +kernel
theorem dX5_init_81 : decode cX5_init 81 = .ok (.putfield 50, 3) := by decide +kernel
theorem dX5_init_84 : decode cX5_init 84 = .ok (.aload_n 0, 1) := by decide +kernel
theorem dX5_init_85 : decode cX5_init 85 = .ok (.iconst (-1), 1) := by decide +kernel
theorem dX5_init_86 : decode cX5_init 86 = .ok (.putfield 54, 3) := by decide +kernel
theorem dX5_init_89 : decode cX5_init 89 = .ok (.iconst 0, 1) := by decide +kernel
theorem dX5_init_90 : decode cX5_init 90 = .ok (.istore_n 1, 1) := by decide +kernel
theorem dX5_init_91 : decode cX5_init 91 = .ok (.iload_n 1, 1) := by decide +kernel
theorem dX5_init_92 : decode cX5_init 92 = .ok (.bipush 6, 2) := by decide +kernel
theorem dX5_init_94 : decode cX5_init 94 = .ok (.if_icmp .ge 22, 3) := by decide +kernel
theorem dX5_init_97 : decode cX5_init 97 = .ok (.aload_n 0, 1) := by decide +kernel
theorem dX5_init_98 : decode cX5_init 98 = .ok (.getfield 11, 3) := by decide +kernel
theorem dX5_init_101 : decode cX5_init 101 = .ok (.iload_n 1, 1) := by decide +kernel
theorem dX5_init_102 : decode cX5_init 102 = .ok (.new 9, 3) := by decide +kernel
theorem dX5_init_105 : decode cX5_init 105 = .ok (.dup, 1) := by decide +kernel
theorem dX5_init_106 : decode cX5_init 106 = .ok (.invokespecial 57, 3) := by decide +kernel
theorem dX5_init_109 : decode cX5_init 109 = .ok (.aastore, 1) := by decide +kernel
theorem dX5_init_110 : decode cX5_init 110 = .ok (.iinc 1 1, 3) := by decide +kernel
theorem dX5_init_113 : decode cX5_init 113 = .ok (.goto (-22), 3) := by decide +kernel
theorem dX5_init_116 : decode cX5_init 116 = .ok (.iconst 0, 1) := by decide +kernel
theorem dX5_init_117 : decode cX5_init 117 = .ok (.istore_n 1, 1) := by decide +kernel
theorem dX5_init_118 : decode cX5_init 118 = .ok (.iload_n 1, 1) := by decide +kernel
theorem dX5_init_119 : decode cX5_init 119 = .ok (.bipush 6, 2) := by decide +kernel
theorem dX5_init_121 : decode cX5_init 121 = .ok (.if_icmp .ge 23, 3) := by decide +kernel
theorem dX5_init_124 : decode cX5_init 124 = .ok (.aload_n 0, 1) := by decide +kernel
theorem dX5_init_125 : decode cX5_init 125 = .ok (.getfield 17, 3) := by decide +kernel
theorem dX5_init_128 : decode cX5_init 128 = .ok (.iload_n 1, 1) := by decide +kernel
theorem dX5_init_129 : decode cX5_init 129 = .ok (.new 15, 3) := by decide +kernel
theorem dX5_init_132 : decode cX5_init 132 = .ok (.dup, 1) := by decide +kernel
theorem dX5_init_133 : decode cX5_init 133 = .ok (.iload_n 1, 1) := by decide +kernel
theorem dX5_init_134 : decode cX5_init 134 = .ok (.invokespecial 58, 3) := by decide +kernel
theorem dX5_init_137 : decode cX5_init 137 = .ok (.aastore, 1) := by decide +kernel
theorem dX5_init_138 : decode cX5_init 138 = .ok (.iinc 1 1, 3) := by decide +kernel
theorem dX5_init_141 : decode cX5_init 141 = .ok (.goto (-23), 3) := by decide +kernel
theorem dX5_init_144 : decode cX5_init 144 = .ok (.iconst 0, 1) := by decide +kernel
theorem dX5_init_145 : decode cX5_init 145 = .ok (.istore_n 1, 1) := by decide +kernel
theorem dX5_init_146 : decode cX5_init 146 = .ok (.iload_n 1, 1) := by decide +kernel
theorem dX5_init_147 : decode cX5_init 147 = .ok (.bipush 40, 2) := by decide +kernel
theorem dX5_init_149 : decode cX5_init 149 = .ok (.if_icmp .ge 29, 3) := by decide +kernel
theorem dX5_init_152 : decode cX5_init 152 = .ok (.aload_n 0, 1) := by decide +kernel
theorem dX5_init_153 : decode cX5_init 153 = .ok (.getfield 23, 3) := by decide +kernel
theorem dX5_init_156 : decode cX5_init 156 = .ok (.iload_n 1, 1) := by decide +kernel
theorem dX5_init_157 : decode cX5_init 157 = .ok (.new 21, 3) := by decide +kernel
theorem dX5_init_160 : decode cX5_init 160 = .ok (.dup, 1) := by decide +kernel
theorem dX5_init_161 : decode cX5_init 161 = .ok (.iload_n 1, 1) := by decide +kernel
theorem dX5_init_162 : decode cX5_init 162 = .ok (.aload_n 0, 1) := by decide +kernel
theorem dX5_init_163 : decode cX5_init 163 = .ok (.getfield 17, 3) := by decide +kernel
theorem dX5_init_166 : decode cX5_init 166 = .ok (.iconst 0, 1) := by decide +kernel
theorem dX5_init_167 : decode cX5_init 167 = .ok (.aaload, 1) := by decide +kernel
theorem dX5_init_168 : decode cX5_init 168 = .ok (.invokespecial 61, 3) := by decide +kernel
theorem dX5_init_171 : decode cX5_init 171 = .ok (.aastore, 1) := by decide +kernel
theorem dX5_init_172 : decode cX5_init 172 = .ok (.iinc 1 1, 3) := by decide +kernel
theorem dX5_init_175 : decode cX5_init 175 = .ok (.goto (-29), 3) := by decide +kernel
theorem dX5_init_178 : decode cX5_init 178 = .ok (.iconst 0, 1) := by decide +kernel
theorem dX5_init_179 : decode cX5_init 179 = .ok (.istore_n 1, 1) := by decide +kernel
theorem dX5_init_180 : decode cX5_init 180 = .ok (.iload_n 1, 1) := by decide +kernel
theorem dX5_init_181 : decode cX5_init 181 = .ok (.iconst 4, 1) := by decide +kernel
theorem dX5_init_182 : decode cX5_init 182 = .ok (.if_icmp .ge 22, 3) := by decide +kernel
theorem dX5_init_185 : decode cX5_init 185 = .ok (.aload_n 0, 1) := by decide +kernel
theorem dX5_init_186 : decode cX5_init 186 = .ok (.getfield 29, 3) := by decide +kernel
theorem dX5_init_189 : decode cX5_init 189 = .ok (.iload_n 1, 1) := by decide +kernel
theorem dX5_init_190 : decode cX5_init 190 = .ok (.new 27, 3) := by decide +kernel
theorem dX5_init_193 : decode cX5_init 193 = .ok (.dup, 1) := by decide +kernel
theorem dX5_init_194 : decode cX5_init 194 = .ok (.invokespecial 64, 3) := by decide +kernel
theorem dX5_init_197 : decode cX5_init 197 = .ok (.aastore, 1) := by decide +kernel
theorem dX5_init_198 : decode cX5_init 198 = .ok (.iinc 1 1, 3) := by decide +kernel
theorem dX5_init_201 : decode cX5_init 201 = .ok (.goto (-21), 3) := by decide +kernel
theorem dX5_init_204 : decode cX5_init 204 = .ok (.aload_n 0, 1) := by decide +kernel
theorem dX5_init_205 : decode cX5_init 205 = .ok (.aload_n 0, 1) := by decide +kernel
theorem dX5_init_206 : decode cX5_init 206 = .ok (.getfield 23, 3) := by decide +kernel
theorem dX5_init_209 : decode cX5_init 209 = .ok (.iconst 0, 1) := by decide +kernel
theorem dX5_init_210 : decode cX5_init 210 = .ok (.aaload, 1) := by decide +kernel
theorem dX5_init_211 : decode cX5_init 211 = .ok (.putfield 65, 3) := by decide +kernel
theorem dX5_init_214 : decode cX5_init 214 = .ok (.return_, 1) := by decide +kernel
set_option maxRecDepth 20000 in
theorem ggX5_segment_X5_checkRange : GoodIn wsX5_segment wsX5_checkRange := goodIn_ca (goodIn_r _ [10, 11, 12] (by decide +kernel) (by decide +kernel)) (goodIn_sub (fun _ h => List.mem_cons_of_mem _ (List.mem_append_right _ h)) (by decide +kernel))
set_option maxRecDepth 20000 in
theorem gX5_segment_X5_checkRange : GoodIn wsX5_segment (wsV RX5 69 RX5 yX5_checkRange wsX5_checkRange) := goodIn_app (goodIn_of _ (by decide +kernel)) ggX5_segment_X5_checkRange
set_option maxRecDepth 20000 in
theorem ggX5_segment_X2_tell : GoodIn wsX5_segment wsX2_tell := goodIn_r _ [16, 17, 18, 19, 37, 38, 39, 40, 41, 42, 43] (by decide +kernel) (by decide +kernel)
set_option maxRecDepth 20000 in
theorem gX5_segment_X2_tell_n87 : GoodIn wsX5_segment (wsX2_tell) := ggX5_segment_X2_tell
theorem dX5_segment_0 : decode cX5_segment 0 = .ok (.aload_n 0, 1) := by decide +kernel
theorem dX5_segment_1 : decode cX5_segment 1 = .ok (.iload_n 1, 1) := by decide +kernel
theorem dX5_segment_2 : decode cX5_segment 2 = .ok (.iconst 5, 1) := by decide +kernel
theorem dX5_segment_3 : decode cX5_segment 3 = .ok (.bipush 60, 2) := by decide +kernel
theorem dX5_segment_5 : decode cX5_segment 5 = .ok (.invokevirtual 69, 3) := by decide +kernel
theorem dX5_segment_8 : decode cX5_segment 8 = .ok (.aload_n 0, 1) := by decide +kernel
theorem dX5_segment_9 : decode cX5_segment 9 = .ok (.iload_n 2, 1) := by decide +kernel
theorem dX5_segment_10 : decode cX5_segment 10 = .ok (.iconst 0, 1) := by decide +kernel
theorem dX5_segment_11 : decode cX5_segment 11 = .ok (.bipush 50, 2) := by decide +kernel
theorem dX5_segment_13 : decode cX5_segment 13 = .ok (.invokevirtual 69, 3) := by decide +kernel
theorem dX5_segment_16 : decode cX5_segment 16 = .ok (.aload_n 0, 1) := by decide +kernel
theorem dX5_segment_17 : decode cX5_segment 17 = .ok (.iload_n 3, 1) := by decide +kernel
theorem dX5_segment_18 : decode cX5_segment 18 = .ok (.bipush 10, 2) := by decide +kernel
theorem dX5_segment_20 : decode cX5_segment 20 = .ok (.sipush 500, 3) := by decide +kernel
theorem dX5_segment_23 : decode cX5_segment 23 = .ok (.invokevirtual 69, 3) := by decide +kernel
theorem dX5_segment_26 : decode cX5_segment 26 = .ok (.aload_n 0, 1) := by decide +kernel
theorem dX5_segment_27 : decode cX5_segment 27 = .ok (.getfield 73, 3) := by decide +kernel
theorem dX5_segment_30 : decode cX5_segment 30 = .ok (.ifCond .ne 12, 3) := by decide +kernel
theorem dX5_segment_33 : decode cX5_segment 33 = .ok (.aload_n 0, 1) := by decide +kernel
theorem dX5_segment_34 : decode cX5_segment 34 = .ok (.getfield 77, 3) := by decide +kernel
theorem dX5_segment_37 : decode cX5_segment 37 = .ok (.bipush 6, 2) := by decide +kernel
theorem dX5_segment_39 : decode cX5_segment 39 = .ok (.if_icmp .lt 13, 3) := by decide +kernel
theorem dX5_segment_42 : decode cX5_segment 42 = .ok (.new 80, 3) := by decide +kernel
theorem dX5_segment_45 : decode cX5_segment 45 = .ok (.dup, 1) := by decide +kernel
theorem dX5_segment_46 : decode cX5_segment 46 = .ok (.ldc 82, 2) := by decide +kernel
theorem dX5_segment_48 : decode cX5_segment 48 = .ok (.invokespecial 84, 3) := by decide +kernel
theorem dX5_segment_51 : decode cX5_segment 51 = .ok (.athrow, 1) := by decide +kernel
theorem dX5_segment_52 : decode cX5_segment 52 = .ok (.aload_n 0, 1) := by decide +kernel
theorem dX5_segment_53 : decode cX5_segment 53 = .ok (.getfield 11, 3) := by decide +kernel
theorem dX5_segment_56 : decode cX5_segment 56 = .ok (.aload_n 0, 1) := by decide +kernel
theorem dX5_segment_57 : decode cX5_segment 57 = .ok (.getfield 77, 3) := by decide +kernel
theorem dX5_segment_60 : decode cX5_segment 60 = .ok (.aaload, 1) := by decide +kernel
theorem dX5_segment_61 : decode cX5_segment 61 = .ok (.iload_n 1, 1) := by decide +kernel
theorem dX5_segment_62 : decode cX5_segment 62 = .ok (.iload_n 2, 1) := by decide +kernel
theorem dX5_segment_63 : decode cX5_segment 63 = .ok (.iload_n 3, 1) := by decide +kernel
theorem dX5_segment_64 : decode cX5_segment 64 = .ok (.invokevirtual 87, 3) := by decide +kernel
theorem dX5_segment_67 : decode cX5_segment 67 = .ok (.aload_n 0, 1) := by decide +kernel
theorem dX5_segment_68 : decode cX5_segment 68 = .ok (.dup, 1) := by decide +kernel
theorem dX5_segment_69 : decode cX5_segment 69 = .ok (.getfield 77, 3) := by decide +kernel
theorem dX5_segment_72 : decode cX5_segment 72 = .ok (.iconst 1, 1) := by decide +kernel
theorem dX5_segment_73 : decode cX5_segment 73 = .ok (.iadd, 1) := by decide +kernel
theorem dX5_segment_74 : decode cX5_segment 74 = .ok (.putfield 77, 3) := by decide +kernel
theorem dX5_segment_77 : decode cX5_segment 77 = .ok (.aload_n 0, 1) := by decide +kernel
theorem dX5_segment_78 : decode cX5_segment 78 = .ok (.getfield 77, 3) := by decide +kernel
theorem dX5_segment_81 : decode cX5_segment 81 = .ok (.iconst 1, 1) := by decide +kernel
theorem dX5_segment_82 : decode cX5_segment 82 = .ok (.isub, 1) := by decide +kernel
theorem dX5_segment_83 : decode cX5_segment 83 = .ok (.ireturn, 1) := by decide +kernel
set_option maxRecDepth 20000 in
theorem ggX5_product_X5_checkIndex : GoodIn wsX5_product wsX5_checkIndex := goodIn_ca (goodIn_r _ [8, 9, 10] (by decide +kernel) (by decide +kernel)) (goodIn_sub (fun _ h => List.mem_cons_of_mem _ (List.mem_append_right _ h)) (by decide +kernel))
set_option maxRecDepth 20000 in
theorem gX5_product_X5_checkIndex : GoodIn wsX5_product (wsV RX5 90 RX5 yX5_checkIndex wsX5_checkIndex) := goodIn_app (goodIn_of _ (by decide +kernel)) ggX5_product_X5_checkIndex
set_option maxRecDepth 20000 in
theorem ggX5_product_X5_checkRange : GoodIn wsX5_product wsX5_checkRange := goodIn_ca (goodIn_r _ [14, 1, 2] (by decide +kernel) (by decide +kernel)) (goodIn_sub (fun _ h => List.mem_cons_of_mem _ (List.mem_append_left _ (List.mem_append_right _ h))) (by decide +kernel))
set_option maxRecDepth 20000 in
theorem gX5_product_X5_checkRange : GoodIn wsX5_product (wsV RX5 69 RX5 yX5_checkRange wsX5_checkRange) := goodIn_app (goodIn_of _ (by decide +kernel)) ggX5_product_X5_checkRange
set_option maxRecDepth 20000 in
theorem ggX5_product_X1_tell : GoodIn wsX5_product wsX1_tell := goodIn_r _ [18, 19, 20, 21, 22, 40, 41, 42, 43, 44] (by decide +kernel) (by decide +kernel)
set_option maxRecDepth 20000 in
theorem gX5_product_X1_tell_n99 : GoodIn wsX5_product (wsX1_tell) := ggX5_product_X1_tell
theorem dX5_product_0 : decode cX5_product 0 = .ok (.aload_n 0, 1) := by decide +kernel
theorem dX5_product_1 : decode cX5_product 1 = .ok (.iload_n 1, 1) := by decide +kernel
theorem dX5_product_2 : decode cX5_product 2 = .ok (.bipush 6, 2) := by decide +kernel
theorem dX5_product_4 : decode cX5_product 4 = .ok (.invokevirtual 90, 3) := by decide +kernel
theorem dX5_product_7 : decode cX5_product 7 = .ok (.aload_n 0, 1) := by decide +kernel
theorem dX5_product_8 : decode cX5_product 8 = .ok (.iload_n 2, 1) := by decide +kernel
theorem dX5_product_9 : decode cX5_product 9 = .ok (.iconst 1, 1) := by decide +kernel
theorem dX5_product_10 : decode cX5_product 10 = .ok (.bipush 10, 2) := by decide +kernel
theorem dX5_product_12 : decode cX5_product 12 = .ok (.invokevirtual 69, 3) := by decide +kernel
theorem dX5_product_15 : decode cX5_product 15 = .ok (.aload_n 0, 1) := by decide +kernel
theorem dX5_product_16 : decode cX5_product 16 = .ok (.iload_n 3, 1) := by decide +kernel
theorem dX5_product_17 : decode cX5_product 17 = .ok (.iconst 1, 1) := by decide +kernel
theorem dX5_product_18 : decode cX5_product 18 = .ok (.bipush 10, 2) := by decide +kernel
theorem dX5_product_20 : decode cX5_product 20 = .ok (.invokevirtual 69, 3) := by decide +kernel
theorem dX5_product_23 : decode cX5_product 23 = .ok (.aload_n 0, 1) := by decide +kernel
theorem dX5_product_24 : decode cX5_product 24 = .ok (.iload 4, 2) := by decide +kernel
theorem dX5_product_26 : decode cX5_product 26 = .ok (.iconst 0, 1) := by decide +kernel
theorem dX5_product_27 : decode cX5_product 27 = .ok (.bipush 9, 2) := by decide +kernel
theorem dX5_product_29 : decode cX5_product 29 = .ok (.invokevirtual 69, 3) := by decide +kernel
theorem dX5_product_32 : decode cX5_product 32 = .ok (.aload_n 0, 1) := by decide +kernel
theorem dX5_product_33 : decode cX5_product 33 = .ok (.iload 5, 2) := by decide +kernel
theorem dX5_product_35 : decode cX5_product 35 = .ok (.iconst 0, 1) := by decide +kernel
theorem dX5_product_36 : decode cX5_product 36 = .ok (.bipush 63, 2) := by decide +kernel
theorem dX5_product_38 : decode cX5_product 38 = .ok (.invokevirtual 69, 3) := by decide +kernel
theorem dX5_product_41 : decode cX5_product 41 = .ok (.iload 5, 2) := by decide +kernel
theorem dX5_product_43 : decode cX5_product 43 = .ok (.iconst 1, 1) := by decide +kernel
theorem dX5_product_44 : decode cX5_product 44 = .ok (.iload_n 1, 1) := by decide +kernel
theorem dX5_product_45 : decode cX5_product 45 = .ok (.ishl, 1) := by decide +kernel
theorem dX5_product_46 : decode cX5_product 46 = .ok (.iand, 1) := by decide +kernel
theorem dX5_product_47 : decode cX5_product 47 = .ok (.ifCond .eq 13, 3) := by decide +kernel
theorem dX5_product_50 : decode cX5_product 50 = .ok (.new 94, 3) := by decide +kernel
theorem dX5_product_53 : decode cX5_product 53 = .ok (.dup, 1) := by decide +kernel
theorem dX5_product_54 : decode cX5_product 54 = .ok (.ldc 96, 2) := by decide +kernel
theorem dX5_product_56 : decode cX5_product 56 = .ok (.invokespecial 98, 3) := by decide +kernel
theorem dX5_product_59 : decode cX5_product 59 = .ok (.athrow, 1) := by decide +kernel
theorem dX5_product_60 : decode cX5_product 60 = .ok (.aload_n 0, 1) := by decide +kernel
theorem dX5_product_61 : decode cX5_product 61 = .ok (.getfield 17, 3) := by decide +kernel
theorem dX5_product_64 : decode cX5_product 64 = .ok (.iload_n 1, 1) := by decide +kernel
theorem dX5_product_65 : decode cX5_product 65 = .ok (.aaload, 1) := by decide +kernel
theorem dX5_product_66 : decode cX5_product 66 = .ok (.iload_n 2, 1) := by decide +kernel
theorem dX5_product_67 : decode cX5_product 67 = .ok (.iload_n 3, 1) := by decide +kernel
theorem dX5_product_68 : decode cX5_product 68 = .ok (.iload 4, 2) := by decide +kernel
theorem dX5_product_70 : decode cX5_product 70 = .ok (.iload 5, 2) := by decide +kernel
theorem dX5_product_72 : decode cX5_product 72 = .ok (.invokevirtual 99, 3) := by decide +kernel
theorem dX5_product_75 : decode cX5_product 75 = .ok (.return_, 1) := by decide +kernel
set_option maxRecDepth 20000 in
theorem ggX5_open_X5_checkIndex : GoodIn wsX5_open wsX5_checkIndex := goodIn_ca (goodIn_r _ [12, 13, 14] (by decide +kernel) (by decide +kernel)) (goodIn_sub (fun _ h => List.mem_cons_of_mem _ (List.mem_append_right _ h)) (by decide +kernel))
set_option maxRecDepth 20000 in
theorem gX5_open_X5_checkIndex : GoodIn wsX5_open (wsV RX5 90 RX5 yX5_checkIndex wsX5_checkIndex) := goodIn_app (goodIn_of _ (by decide +kernel)) ggX5_open_X5_checkIndex
set_option maxRecDepth 20000 in
theorem ggX5_open_X5_fillSegments : GoodIn wsX5_open wsX5_fillSegments := goodIn_r _ [18, 4, 19, 20, 21, 22, 23, 24, 25, 26, 41, 42, 43, 44, 45, 46, 47, 48, 49, 50, 51, 52, 53, 54, 55, 56, 57, 75, 76, 77, 78, 79, 80, 81] (by decide +kernel) (by decide +kernel)
set_option maxRecDepth 20000 in
theorem gX5_open_X5_fillSegments : GoodIn wsX5_open (wsV RX5 104 RX5 yX5_fillSegments wsX5_fillSegments) := goodIn_app (goodIn_of _ (by decide +kernel)) ggX5_open_X5_fillSegments
set_option maxRecDepth 20000 in
theorem ggX5_open_X0_tell : GoodIn wsX5_open wsX0_tell := goodIn_r _ [30, 31, 32, 33, 58, 59, 60, 61, 62, 63, 64, 65, 66, 67, 68, 69, 70] (by decide +kernel) (by decide +kernel)
set_option maxRecDepth 20000 in
theorem gX5_open_X0_tell_n108 : GoodIn wsX5_open (wsX0_tell) := ggX5_open_X0_tell
set_option maxRecDepth 20000 in
theorem ggX5_open_X4_tell : GoodIn wsX5_open wsX4_tell := goodIn_r _ [37, 38, 39, 40, 71, 72, 73, 74] (by decide +kernel) (by decide +kernel)
set_option maxRecDepth 20000 in
theorem gX5_open_X4_tell_n117 : GoodIn wsX5_open (wsX4_tell) := ggX5_open_X4_tell
theorem dX5_open_0 : decode cX5_open 0 = .ok (.aload_n 0, 1) := by decide +kernel
theorem dX5_open_1 : decode cX5_open 1 = .ok (.iload_n 1, 1) := by decide +kernel
theorem dX5_open_2 : decode cX5_open 2 = .ok (.bipush 6, 2) := by decide +kernel
theorem dX5_open_4 : decode cX5_open 4 = .ok (.invokevirtual 90, 3) := by decide +kernel
theorem dX5_open_7 : decode cX5_open 7 = .ok (.aload_n 0, 1) := by decide +kernel
theorem dX5_open_8 : decode cX5_open 8 = .ok (.getfield 73, 3) := by decide +kernel
theorem dX5_open_11 : decode cX5_open 11 = .ok (.ifCond .ne 10, 3) := by decide +kernel
theorem dX5_open_14 : decode cX5_open 14 = .ok (.aload_n 0, 1) := by decide +kernel
theorem dX5_open_15 : decode cX5_open 15 = .ok (.getfield 77, 3) := by decide +kernel
theorem dX5_open_18 : decode cX5_open 18 = .ok (.ifCond .ne 13, 3) := by decide +kernel
theorem dX5_open_21 : decode cX5_open 21 = .ok (.new 80, 3) := by decide +kernel
theorem dX5_open_24 : decode cX5_open 24 = .ok (.dup, 1) := by decide +kernel
theorem dX5_open_25 : decode cX5_open 25 = .ok (.ldc 102, 2) := by decide +kernel
theorem dX5_open_27 : decode cX5_open 27 = .ok (.invokespecial 84, 3) := by decide +kernel
theorem dX5_open_30 : decode cX5_open 30 = .ok (.athrow, 1) := by decide +kernel
theorem dX5_open_31 : decode cX5_open 31 = .ok (.aload_n 0, 1) := by decide +kernel
theorem dX5_open_32 : decode cX5_open 32 = .ok (.iload_n 1, 1) := by decide +kernel
theorem dX5_open_33 : decode cX5_open 33 = .ok (.invokevirtual 104, 3) := by decide +kernel
theorem dX5_open_36 : decode cX5_open 36 = .ok (.istore_n 2, 1) := by decide +kernel
theorem dX5_open_37 : decode cX5_open 37 = .ok (.aload_n 0, 1) := by decide +kernel
theorem dX5_open_38 : decode cX5_open 38 = .ok (.getfield 23, 3) := by decide +kernel
theorem dX5_open_41 : decode cX5_open 41 = .ok (.iconst 0, 1) := by decide +kernel
theorem dX5_open_42 : decode cX5_open 42 = .ok (.aaload, 1) := by decide +kernel
theorem dX5_open_43 : decode cX5_open 43 = .ok (.iconst (-1), 1) := by decide +kernel
theorem dX5_open_44 : decode cX5_open 44 = .ok (.aload_n 0, 1) := by decide +kernel
theorem dX5_open_45 : decode cX5_open 45 = .ok (.getfield 17, 3) := by decide +kernel
theorem dX5_open_48 : decode cX5_open 48 = .ok (.iload_n 1, 1) := by decide +kernel
theorem dX5_open_49 : decode cX5_open 49 = .ok (.aaload, 1) := by decide +kernel
theorem dX5_open_50 : decode cX5_open 50 = .ok (.iload_n 2, 1) := by decide +kernel
theorem dX5_open_51 : decode cX5_open 51 = .ok (.invokevirtual 108, 3) := by decide +kernel
theorem dX5_open_54 : decode cX5_open 54 = .ok (.aload_n 0, 1) := by decide +kernel
theorem dX5_open_55 : decode cX5_open 55 = .ok (.getfield 23, 3) := by decide +kernel
theorem dX5_open_58 : decode cX5_open 58 = .ok (.iconst 0, 1) := by decide +kernel
theorem dX5_open_59 : decode cX5_open 59 = .ok (.aaload, 1) := by decide +kernel
theorem dX5_open_60 : decode cX5_open 60 = .ok (.iload_n 2, 1) := by decide +kernel
theorem dX5_open_61 : decode cX5_open 61 = .ok (.putfield 111, 3) := by decide +kernel
theorem dX5_open_64 : decode cX5_open 64 = .ok (.aload_n 0, 1) := by decide +kernel
theorem dX5_open_65 : decode cX5_open 65 = .ok (.getfield 47, 3) := by decide +kernel
theorem dX5_open_68 : decode cX5_open 68 = .ok (.aload_n 0, 1) := by decide +kernel
theorem dX5_open_69 : decode cX5_open 69 = .ok (.getfield 77, 3) := by decide +kernel
theorem dX5_open_72 : decode cX5_open 72 = .ok (.iconst 1, 1) := by decide +kernel
theorem dX5_open_73 : decode cX5_open 73 = .ok (.isub, 1) := by decide +kernel
theorem dX5_open_74 : decode cX5_open 74 = .ok (.bipush 10, 2) := by decide +kernel
theorem dX5_open_76 : decode cX5_open 76 = .ok (.aload_n 0, 1) := by decide +kernel
theorem dX5_open_77 : decode cX5_open 77 = .ok (.getfield 47, 3) := by decide +kernel
theorem dX5_open_80 : decode cX5_open 80 = .ok (.getfield 114, 3) := by decide +kernel
theorem dX5_open_83 : decode cX5_open 83 = .ok (.invokevirtual 117, 3) := by decide +kernel
theorem dX5_open_86 : decode cX5_open 86 = .ok (.aload_n 0, 1) := by decide +kernel
theorem dX5_open_87 : decode cX5_open 87 = .ok (.iconst 1, 1) := by decide +kernel
theorem dX5_open_88 : decode cX5_open 88 = .ok (.putfield 73, 3) := by decide +kernel
theorem dX5_open_91 : decode cX5_open 91 = .ok (.iload_n 2, 1) := by decide +kernel
theorem dX5_open_92 : decode cX5_open 92 = .ok (.ireturn, 1) := by decide +kernel
set_option maxRecDepth 20000 in
theorem ggX5_order_X5_checkIndex : GoodIn wsX5_order wsX5_checkIndex := goodIn_ca (goodIn_r _ [10, 11, 12] (by decide +kernel) (by decide +kernel)) (goodIn_sub (fun _ h => List.mem_cons_of_mem _ (List.mem_append_left _ (List.mem_append_right _ h))) (by decide +kernel))
set_option maxRecDepth 20000 in
theorem gX5_order_X5_checkIndex : GoodIn wsX5_order (wsV RX5 90 RX5 yX5_checkIndex wsX5_checkIndex) := goodIn_app (goodIn_of _ (by decide +kernel)) ggX5_order_X5_checkIndex
set_option maxRecDepth 20000 in
theorem ggX5_order_X5_checkRange : GoodIn wsX5_order wsX5_checkRange := goodIn_ca (goodIn_r _ [16, 17, 18] (by decide +kernel) (by decide +kernel)) (goodIn_sub (fun _ h => List.mem_cons_of_mem _ (List.mem_append_right _ h)) (by decide +kernel))
set_option maxRecDepth 20000 in
theorem gX5_order_X5_checkRange : GoodIn wsX5_order (wsV RX5 69 RX5 yX5_checkRange wsX5_checkRange) := goodIn_app (goodIn_of _ (by decide +kernel)) ggX5_order_X5_checkRange
set_option maxRecDepth 20000 in
theorem ggX5_order_X0_tell : GoodIn wsX5_order wsX0_tell := goodIn_r _ [22, 23, 24, 25, 43, 44, 45, 46, 47, 48, 49, 50, 51, 52, 53, 54, 55] (by decide +kernel) (by decide +kernel)
set_option maxRecDepth 20000 in
theorem gX5_order_X0_tell_n108 : GoodIn wsX5_order (wsX0_tell) := ggX5_order_X0_tell
theorem dX5_order_0 : decode cX5_order 0 = .ok (.aload_n 0, 1) := by decide +kernel
theorem dX5_order_1 : decode cX5_order 1 = .ok (.iload_n 1, 1) := by decide +kernel
theorem dX5_order_2 : decode cX5_order 2 = .ok (.iconst 4, 1) := by decide +kernel
theorem dX5_order_3 : decode cX5_order 3 = .ok (.invokevirtual 90, 3) := by decide +kernel
theorem dX5_order_6 : decode cX5_order 6 = .ok (.aload_n 0, 1) := by decide +kernel
theorem dX5_order_7 : decode cX5_order 7 = .ok (.iload_n 2, 1) := by decide +kernel
theorem dX5_order_8 : decode cX5_order 8 = .ok (.bipush 6, 2) := by decide +kernel
theorem dX5_order_10 : decode cX5_order 10 = .ok (.invokevirtual 90, 3) := by decide +kernel
theorem dX5_order_13 : decode cX5_order 13 = .ok (.aload_n 0, 1) := by decide +kernel
theorem dX5_order_14 : decode cX5_order 14 = .ok (.iload_n 3, 1) := by decide +kernel
theorem dX5_order_15 : decode cX5_order 15 = .ok (.iconst 1, 1) := by decide +kernel
theorem dX5_order_16 : decode cX5_order 16 = .ok (.sipush 200, 3) := by decide +kernel
theorem dX5_order_19 : decode cX5_order 19 = .ok (.invokevirtual 69, 3) := by decide +kernel
theorem dX5_order_22 : decode cX5_order 22 = .ok (.aload_n 0, 1) := by decide +kernel
theorem dX5_order_23 : decode cX5_order 23 = .ok (.getfield 50, 3) := by decide +kernel
theorem dX5_order_26 : decode cX5_order 26 = .ok (.bipush 40, 2) := by decide +kernel
theorem dX5_order_28 : decode cX5_order 28 = .ok (.if_icmp .lt 13, 3) := by decide +kernel
theorem dX5_order_31 : decode cX5_order 31 = .ok (.new 80, 3) := by decide +kernel
theorem dX5_order_34 : decode cX5_order 34 = .ok (.dup, 1) := by decide +kernel
theorem dX5_order_35 : decode cX5_order 35 = .ok (.ldc 118, 2) := by decide +kernel
theorem dX5_order_37 : decode cX5_order 37 = .ok (.invokespecial 84, 3) := by decide +kernel
theorem dX5_order_40 : decode cX5_order 40 = .ok (.athrow, 1) := by decide +kernel
theorem dX5_order_41 : decode cX5_order 41 = .ok (.aload_n 0, 1) := by decide +kernel
theorem dX5_order_42 : decode cX5_order 42 = .ok (.getfield 23, 3) := by decide +kernel
theorem dX5_order_45 : decode cX5_order 45 = .ok (.aload_n 0, 1) := by decide +kernel
theorem dX5_order_46 : decode cX5_order 46 = .ok (.getfield 50, 3) := by decide +kernel
theorem dX5_order_49 : decode cX5_order 49 = .ok (.aaload, 1) := by decide +kernel
theorem dX5_order_50 : decode cX5_order 50 = .ok (.iload_n 1, 1) := by decide +kernel
theorem dX5_order_51 : decode cX5_order 51 = .ok (.aload_n 0, 1) := by decide +kernel
theorem dX5_order_52 : decode cX5_order 52 = .ok (.getfield 17, 3) := by decide +kernel
theorem dX5_order_55 : decode cX5_order 55 = .ok (.iload_n 2, 1) := by decide +kernel
theorem dX5_order_56 : decode cX5_order 56 = .ok (.aaload, 1) := by decide +kernel
theorem dX5_order_57 : decode cX5_order 57 = .ok (.iload_n 3, 1) := by decide +kernel
theorem dX5_order_58 : decode cX5_order 58 = .ok (.invokevirtual 108, 3) := by decide +kernel
theorem dX5_order_61 : decode cX5_order 61 = .ok (.aload_n 0, 1) := by decide +kernel
theorem dX5_order_62 : decode cX5_order 62 = .ok (.dup, 1) := by decide +kernel
theorem dX5_order_63 : decode cX5_order 63 = .ok (.getfield 50, 3) := by decide +kernel
theorem dX5_order_66 : decode cX5_order 66 = .ok (.iconst 1, 1) := by decide +kernel
theorem dX5_order_67 : decode cX5_order 67 = .ok (.iadd, 1) := by decide +kernel
theorem dX5_order_68 : decode cX5_order 68 = .ok (.putfield 50, 3) := by decide +kernel
theorem dX5_order_71 : decode cX5_order 71 = .ok (.aload_n 0, 1) := by decide +kernel
theorem dX5_order_72 : decode cX5_order 72 = .ok (.getfield 50, 3) := by decide +kernel
theorem dX5_order_75 : decode cX5_order 75 = .ok (.iconst 1, 1) := by decide +kernel
theorem dX5_order_76 : decode cX5_order 76 = .ok (.isub, 1) := by decide +kernel
theorem dX5_order_77 : decode cX5_order 77 = .ok (.ireturn, 1) := by decide +kernel
set_option maxRecDepth 20000 in
theorem ggX5_rate_X5_checkRange : GoodIn wsX5_rate wsX5_checkRange := goodIn_ca (goodIn_r _ [6, 7, 8] (by decide +kernel) (by decide +kernel)) (goodIn_sub (fun _ h => List.mem_cons_of_mem _ (List.mem_append_right _ h)) (by decide +kernel))
set_option maxRecDepth 20000 in
theorem gX5_rate_X5_checkRange : GoodIn wsX5_rate (wsV RX5 69 RX5 yX5_checkRange wsX5_checkRange) := goodIn_app (goodIn_of _ (by decide +kernel)) ggX5_rate_X5_checkRange
theorem dX5_rate_0 : decode cX5_rate 0 = .ok (.aload_n 0, 1) := by decide +kernel
theorem dX5_rate_1 : decode cX5_rate 1 = .ok (.iload_n 1, 1) := by decide +kernel
theorem dX5_rate_2 : decode cX5_rate 2 = .ok (.iconst 0, 1) := by decide +kernel
theorem dX5_rate_3 : decode cX5_rate 3 = .ok (.bipush 10, 2) := by decide +kernel
theorem dX5_rate_5 : decode cX5_rate 5 = .ok (.invokevirtual 69, 3) := by decide +kernel
theorem dX5_rate_8 : decode cX5_rate 8 = .ok (.aload_n 0, 1) := by decide +kernel
theorem dX5_rate_9 : decode cX5_rate 9 = .ok (.getfield 120, 3) := by decide +kernel
theorem dX5_rate_12 : decode cX5_rate 12 = .ok (.istore_n 2, 1) := by decide +kernel
theorem dX5_rate_13 : decode cX5_rate 13 = .ok (.aload_n 0, 1) := by decide +kernel
theorem dX5_rate_14 : decode cX5_rate 14 = .ok (.iload_n 1, 1) := by decide +kernel
theorem dX5_rate_15 : decode cX5_rate 15 = .ok (.putfield 120, 3) := by decide +kernel
theorem dX5_rate_18 : decode cX5_rate 18 = .ok (.iload_n 2, 1) := by decide +kernel
theorem dX5_rate_19 : decode cX5_rate 19 = .ok (.ireturn, 1) := by decide +kernel
set_option maxRecDepth 20000 in
theorem ggX5_drop_X5_checkOnTheWay : GoodIn wsX5_drop wsX5_checkOnTheWay := goodIn_ca (goodIn_r _ [6, 7, 8, 9, 10, 5, 11, 12, 13, 27, 28, 29, 30, 31, 32, 33, 34, 35, 36, 37, 38, 39, 40, 41, 42, 43] (by decide +kernel) (by decide +kernel)) (goodIn_sub (fun _ h => List.mem_cons_of_mem _ (List.mem_append_left _ (List.mem_append_right _ h))) (by decide +kernel))
set_option maxRecDepth 20000 in
theorem gX5_drop_X5_checkOnTheWay : GoodIn wsX5_drop (wsV RX5 123 RX5 yX5_checkOnTheWay wsX5_checkOnTheWay) := goodIn_app (goodIn_of _ (by decide +kernel)) ggX5_drop_X5_checkOnTheWay
set_option maxRecDepth 20000 in
theorem ggX5_drop_X5_checkIndex : GoodIn wsX5_drop wsX5_checkIndex := goodIn_ca (goodIn_r _ [11, 12, 13] (by decide +kernel) (by decide +kernel)) (goodIn_sub (fun _ h => List.mem_cons_of_mem _ (List.mem_append_left _ (List.mem_append_right _ h))) (by decide +kernel))
set_option maxRecDepth 20000 in
theorem gX5_drop_X5_checkIndex : GoodIn wsX5_drop (wsV RX5 90 RX5 yX5_checkIndex wsX5_checkIndex) := goodIn_app (goodIn_of _ (by decide +kernel)) ggX5_drop_X5_checkIndex
set_option maxRecDepth 20000 in
theorem ggX5_drop_X5_checkRange : GoodIn wsX5_drop wsX5_checkRange := goodIn_ca (goodIn_r _ [17, 18, 19] (by decide +kernel) (by decide +kernel)) (goodIn_sub (fun _ h => List.mem_cons_of_mem _ (List.mem_append_right _ h)) (by decide +kernel))
set_option maxRecDepth 20000 in
theorem gX5_drop_X5_checkRange : GoodIn wsX5_drop (wsV RX5 69 RX5 yX5_checkRange wsX5_checkRange) := goodIn_app (goodIn_of _ (by decide +kernel)) ggX5_drop_X5_checkRange
set_option maxRecDepth 20000 in
theorem ggX5_drop_X4_tell : GoodIn wsX5_drop wsX4_tell := goodIn_r _ [23, 24, 25, 26, 44, 45, 46, 47] (by decide +kernel) (by decide +kernel)
set_option maxRecDepth 20000 in
theorem gX5_drop_X4_tell_n117 : GoodIn wsX5_drop (wsX4_tell) := ggX5_drop_X4_tell
theorem dX5_drop_0 : decode cX5_drop 0 = .ok (.aload_n 0, 1) := by decide +kernel
theorem dX5_drop_1 : decode cX5_drop 1 = .ok (.iload_n 1, 1) := by decide +kernel
theorem dX5_drop_2 : decode cX5_drop 2 = .ok (.invokevirtual 123, 3) := by decide +kernel
theorem dX5_drop_5 : decode cX5_drop 5 = .ok (.aload_n 0, 1) := by decide +kernel
theorem dX5_drop_6 : decode cX5_drop 6 = .ok (.iload_n 3, 1) := by decide +kernel
theorem dX5_drop_7 : decode cX5_drop 7 = .ok (.iconst 4, 1) := by decide +kernel
theorem dX5_drop_8 : decode cX5_drop 8 = .ok (.invokevirtual 90, 3) := by decide +kernel
theorem dX5_drop_11 : decode cX5_drop 11 = .ok (.aload_n 0, 1) := by decide +kernel
theorem dX5_drop_12 : decode cX5_drop 12 = .ok (.iload_n 2, 1) := by decide +kernel
theorem dX5_drop_13 : decode cX5_drop 13 = .ok (.iconst 1, 1) := by decide +kernel
theorem dX5_drop_14 : decode cX5_drop 14 = .ok (.bipush 10, 2) := by decide +kernel
theorem dX5_drop_16 : decode cX5_drop 16 = .ok (.invokevirtual 69, 3) := by decide +kernel
theorem dX5_drop_19 : decode cX5_drop 19 = .ok (.aload_n 0, 1) := by decide +kernel
theorem dX5_drop_20 : decode cX5_drop 20 = .ok (.getfield 44, 3) := by decide +kernel
theorem dX5_drop_23 : decode cX5_drop 23 = .ok (.iload_n 1, 1) := by decide +kernel
theorem dX5_drop_24 : decode cX5_drop 24 = .ok (.iload_n 2, 1) := by decide +kernel
theorem dX5_drop_25 : decode cX5_drop 25 = .ok (.iload_n 3, 1) := by decide +kernel
theorem dX5_drop_26 : decode cX5_drop 26 = .ok (.invokevirtual 117, 3) := by decide +kernel
theorem dX5_drop_29 : decode cX5_drop 29 = .ok (.return_, 1) := by decide +kernel
set_option maxRecDepth 20000 in
theorem ggX5_leak_X5_checkOnTheWay : GoodIn wsX5_leak wsX5_checkOnTheWay := goodIn_ca (goodIn_r _ [6, 7, 8, 9, 10, 5, 11, 12, 13, 27, 28, 29, 30, 31, 32, 33, 34, 35, 36, 37, 38, 39, 40, 41, 42, 43] (by decide +kernel) (by decide +kernel)) (goodIn_sub (fun _ h => List.mem_cons_of_mem _ (List.mem_append_left _ (List.mem_append_right _ h))) (by decide +kernel))
set_option maxRecDepth 20000 in
theorem gX5_leak_X5_checkOnTheWay : GoodIn wsX5_leak (wsV RX5 123 RX5 yX5_checkOnTheWay wsX5_checkOnTheWay) := goodIn_app (goodIn_of _ (by decide +kernel)) ggX5_leak_X5_checkOnTheWay
set_option maxRecDepth 20000 in
theorem ggX5_leak_X5_checkRange : GoodIn wsX5_leak wsX5_checkRange := goodIn_ca (goodIn_r _ [17, 18, 19] (by decide +kernel) (by decide +kernel)) (goodIn_sub (fun _ h => List.mem_cons_of_mem _ (List.mem_append_right _ h)) (by decide +kernel))
set_option maxRecDepth 20000 in
theorem gX5_leak_X5_checkRange : GoodIn wsX5_leak (wsV RX5 69 RX5 yX5_checkRange wsX5_checkRange) := goodIn_app (goodIn_of _ (by decide +kernel)) ggX5_leak_X5_checkRange
set_option maxRecDepth 20000 in
theorem ggX5_leak_X4_tell : GoodIn wsX5_leak wsX4_tell := goodIn_r _ [23, 24, 25, 26, 44, 45, 46, 47] (by decide +kernel) (by decide +kernel)
set_option maxRecDepth 20000 in
theorem gX5_leak_X4_tell_n117 : GoodIn wsX5_leak (wsX4_tell) := ggX5_leak_X4_tell
theorem dX5_leak_0 : decode cX5_leak 0 = .ok (.aload_n 0, 1) := by decide +kernel
theorem dX5_leak_1 : decode cX5_leak 1 = .ok (.iload_n 1, 1) := by decide +kernel
theorem dX5_leak_2 : decode cX5_leak 2 = .ok (.invokevirtual 123, 3) := by decide +kernel
theorem dX5_leak_5 : decode cX5_leak 5 = .ok (.aload_n 0, 1) := by decide +kernel
theorem dX5_leak_6 : decode cX5_leak 6 = .ok (.iload_n 2, 1) := by decide +kernel
theorem dX5_leak_7 : decode cX5_leak 7 = .ok (.iconst 1, 1) := by decide +kernel
theorem dX5_leak_8 : decode cX5_leak 8 = .ok (.bipush 10, 2) := by decide +kernel
theorem dX5_leak_10 : decode cX5_leak 10 = .ok (.invokevirtual 69, 3) := by decide +kernel
theorem dX5_leak_13 : decode cX5_leak 13 = .ok (.aload_n 0, 1) := by decide +kernel
theorem dX5_leak_14 : decode cX5_leak 14 = .ok (.getfield 40, 3) := by decide +kernel
theorem dX5_leak_17 : decode cX5_leak 17 = .ok (.iload_n 1, 1) := by decide +kernel
theorem dX5_leak_18 : decode cX5_leak 18 = .ok (.iload_n 2, 1) := by decide +kernel
theorem dX5_leak_19 : decode cX5_leak 19 = .ok (.iconst 0, 1) := by decide +kernel
theorem dX5_leak_20 : decode cX5_leak 20 = .ok (.invokevirtual 117, 3) := by decide +kernel
theorem dX5_leak_23 : decode cX5_leak 23 = .ok (.return_, 1) := by decide +kernel
set_option maxRecDepth 20000 in
theorem ggX5_receive_X5_checkIndex : GoodIn wsX5_receive wsX5_checkIndex := goodIn_ca (goodIn_r _ [6, 7, 8] (by decide +kernel) (by decide +kernel)) (goodIn_sub (fun _ h => List.mem_cons_of_mem _ (List.mem_append_right _ h)) (by decide +kernel))
set_option maxRecDepth 20000 in
theorem gX5_receive_X5_checkIndex : GoodIn wsX5_receive (wsV RX5 90 RX5 yX5_checkIndex wsX5_checkIndex) := goodIn_app (goodIn_of _ (by decide +kernel)) ggX5_receive_X5_checkIndex
theorem dX5_receive_0 : decode cX5_receive 0 = .ok (.aload_n 0, 1) := by decide +kernel
theorem dX5_receive_1 : decode cX5_receive 1 = .ok (.iload_n 1, 1) := by decide +kernel
theorem dX5_receive_2 : decode cX5_receive 2 = .ok (.iconst 4, 1) := by decide +kernel
theorem dX5_receive_3 : decode cX5_receive 3 = .ok (.invokevirtual 90, 3) := by decide +kernel
theorem dX5_receive_6 : decode cX5_receive 6 = .ok (.aload_n 0, 1) := by decide +kernel
theorem dX5_receive_7 : decode cX5_receive 7 = .ok (.getfield 47, 3) := by decide +kernel
theorem dX5_receive_10 : decode cX5_receive 10 = .ok (.getfield 114, 3) := by decide +kernel
theorem dX5_receive_13 : decode cX5_receive 13 = .ok (.istore_n 2, 1) := by decide +kernel
theorem dX5_receive_14 : decode cX5_receive 14 = .ok (.aload_n 0, 1) := by decide +kernel
theorem dX5_receive_15 : decode cX5_receive 15 = .ok (.getfield 47, 3) := by decide +kernel
theorem dX5_receive_18 : decode cX5_receive 18 = .ok (.iload_n 1, 1) := by decide +kernel
theorem dX5_receive_19 : decode cX5_receive 19 = .ok (.putfield 114, 3) := by decide +kernel
theorem dX5_receive_22 : decode cX5_receive 22 = .ok (.iload_n 2, 1) := by decide +kernel
theorem dX5_receive_23 : decode cX5_receive 23 = .ok (.ireturn, 1) := by decide +kernel
set_option maxRecDepth 20000 in
theorem ggX5_empty_X5_checkIndex : GoodIn wsX5_empty wsX5_checkIndex := goodIn_ca (goodIn_r _ [6, 7, 8] (by decide +kernel) (by decide +kernel)) (goodIn_sub (fun _ h => List.mem_cons_of_mem _ (List.mem_append_right _ h)) (by decide +kernel))
set_option maxRecDepth 20000 in
theorem gX5_empty_X5_checkIndex : GoodIn wsX5_empty (wsV RX5 90 RX5 yX5_checkIndex wsX5_checkIndex) := goodIn_app (goodIn_of _ (by decide +kernel)) ggX5_empty_X5_checkIndex
set_option maxRecDepth 20000 in
theorem ggX5_empty_X3_pourOut : GoodIn wsX5_empty wsX3_pourOut := goodIn_r _ [12, 13, 14, 15, 33, 34, 35, 36] (by decide +kernel) (by decide +kernel)
set_option maxRecDepth 20000 in
theorem gX5_empty_X3_pourOut_n126 : GoodIn wsX5_empty (wsX3_pourOut) := ggX5_empty_X3_pourOut
theorem dX5_empty_0 : decode cX5_empty 0 = .ok (.aload_n 0, 1) := by decide +kernel
theorem dX5_empty_1 : decode cX5_empty 1 = .ok (.iload_n 1, 1) := by decide +kernel
theorem dX5_empty_2 : decode cX5_empty 2 = .ok (.iconst 4, 1) := by decide +kernel
theorem dX5_empty_3 : decode cX5_empty 3 = .ok (.invokevirtual 90, 3) := by decide +kernel
theorem dX5_empty_6 : decode cX5_empty 6 = .ok (.aload_n 0, 1) := by decide +kernel
theorem dX5_empty_7 : decode cX5_empty 7 = .ok (.getfield 29, 3) := by decide +kernel
theorem dX5_empty_10 : decode cX5_empty 10 = .ok (.iload_n 1, 1) := by decide +kernel
theorem dX5_empty_11 : decode cX5_empty 11 = .ok (.aaload, 1) := by decide +kernel
theorem dX5_empty_12 : decode cX5_empty 12 = .ok (.invokevirtual 126, 3) := by decide +kernel
theorem dX5_empty_15 : decode cX5_empty 15 = .ok (.ireturn, 1) := by decide +kernel
set_option maxRecDepth 20000 in
theorem ggX5_launch_X5_unitOf : GoodIn wsX5_launch wsX5_unitOf := goodIn_r _ [10, 28, 29, 30, 31, 32, 33, 34, 35, 36, 37, 38, 39, 40] (by decide +kernel) (by decide +kernel)
set_option maxRecDepth 20000 in
theorem gX5_launch_X5_unitOf : GoodIn wsX5_launch (wsV RX5 132 RX5 yX5_unitOf wsX5_unitOf) := goodIn_app (goodIn_of _ (by decide +kernel)) ggX5_launch_X5_unitOf
theorem dX5_launch_0 : decode cX5_launch 0 = .ok (.aload_n 0, 1) := by decide +kernel
theorem dX5_launch_1 : decode cX5_launch 1 = .ok (.getfield 73, 3) := by decide +kernel
theorem dX5_launch_4 : decode cX5_launch 4 = .ok (.ifCond .eq 11, 3) := by decide +kernel
theorem dX5_launch_7 : decode cX5_launch 7 = .ok (.aload_n 0, 1) := by decide +kernel
theorem dX5_launch_8 : decode cX5_launch 8 = .ok (.getfield 54, 3) := by decide +kernel
theorem dX5_launch_11 : decode cX5_launch 11 = .ok (.iconst (-1), 1) := by decide +kernel
theorem dX5_launch_12 : decode cX5_launch 12 = .ok (.if_icmp .eq 13, 3) := by decide +kernel
theorem dX5_launch_15 : decode cX5_launch 15 = .ok (.new 80, 3) := by decide +kernel
theorem dX5_launch_18 : decode cX5_launch 18 = .ok (.dup, 1) := by decide +kernel
theorem dX5_launch_19 : decode cX5_launch 19 = .ok (.ldc 130, 2) := by decide +kernel
theorem dX5_launch_21 : decode cX5_launch 21 = .ok (.invokespecial 84, 3) := by decide +kernel
theorem dX5_launch_24 : decode cX5_launch 24 = .ok (.athrow, 1) := by decide +kernel
theorem dX5_launch_25 : decode cX5_launch 25 = .ok (.aload_n 0, 1) := by decide +kernel
theorem dX5_launch_26 : decode cX5_launch 26 = .ok (.aload_n 0, 1) := by decide +kernel
theorem dX5_launch_27 : decode cX5_launch 27 = .ok (.aload_n 0, 1) := by decide +kernel
theorem dX5_launch_28 : decode cX5_launch 28 = .ok (.getfield 65, 3) := by decide +kernel
theorem dX5_launch_31 : decode cX5_launch 31 = .ok (.aload_n 0, 1) := by decide +kernel
theorem dX5_launch_32 : decode cX5_launch 32 = .ok (.getfield 65, 3) := by decide +kernel
theorem dX5_launch_35 : decode cX5_launch 35 = .ok (.getfield 111, 3) := by decide +kernel
theorem dX5_launch_38 : decode cX5_launch 38 = .ok (.iconst 1, 1) := by decide +kernel
theorem dX5_launch_39 : decode cX5_launch 39 = .ok (.isub, 1) := by decide +kernel
theorem dX5_launch_40 : decode cX5_launch 40 = .ok (.invokevirtual 132, 3) := by decide +kernel
theorem dX5_launch_43 : decode cX5_launch 43 = .ok (.putfield 54, 3) := by decide +kernel
theorem dX5_launch_46 : decode cX5_launch 46 = .ok (.return_, 1) := by decide +kernel
set_option maxRecDepth 20000 in
theorem ggX5_pass_X5_checkRange : GoodIn wsX5_pass wsX5_checkRange := goodIn_ca (goodIn_r _ [9, 10, 11] (by decide +kernel) (by decide +kernel)) (goodIn_sub (fun _ h => List.mem_cons_of_mem _ (List.mem_append_right _ h)) (by decide +kernel))
set_option maxRecDepth 20000 in
theorem gX5_pass_X5_checkRange : GoodIn wsX5_pass (wsV RX5 69 RX5 yX5_checkRange wsX5_checkRange) := goodIn_app (goodIn_of _ (by decide +kernel)) ggX5_pass_X5_checkRange
set_option maxRecDepth 20000 in
theorem ggX5_pass_X5_passOne : GoodIn wsX5_pass wsX5_passOne := goodIn_r _ [15, 16, 17, 18, 19, 20, 4, 21, 22, 23, 8, 24, 25, 26, 27, 28, 29, 30, 31, 32, 33, 34, 35, 36, 37, 38, 39, 40, 41, 42, 43, 44, 45, 46, 47, 48, 49, 50, 51, 52, 53, 54, 55, 56, 57, 58, 59, 60, 61, 62, 63, 64, 65, 66, 67, 68, 69, 70, 71, 72, 73, 74, 75, 76, 77, 78, 79, 80, 81, 82, 83, 84, 85, 86, 87, 88, 89, 90, 91, 92, 93, 94, 95, 96, 97, 98, 99, 100, 101, 102, 103, 104, 105, 106, 107, 108, 109, 110, 111, 112, 113, 114, 115, 116, 117, 118, 119, 120, 121, 122, 123, 124, 125, 126, 127, 128, 129, 130, 131, 132, 133, 134, 135, 136, 137, 138, 139, 140, 141, 142, 143, 144, 145, 146, 147, 148, 149, 150, 151, 152, 153, 154, 155, 156, 157, 158, 159, 160, 161, 162, 163, 164, 165, 166, 167, 168, 169, 170, 171, 172, 173, 174, 175, 176, 177, 178, 179, 180, 181, 182, 183, 184, 185, 186, 187, 188, 189, 190, 191, 192, 193, 194, 195, 196, 197] (by decide +kernel) (by decide +kernel)
set_option maxRecDepth 20000 in
theorem gX5_pass_X5_passOne : GoodIn wsX5_pass (wsV RX5 141 RX5 yX5_passOne wsX5_passOne) := goodIn_app (goodIn_of _ (by decide +kernel)) ggX5_pass_X5_passOne
theorem dX5_pass_0 : decode cX5_pass 0 = .ok (.aload_n 0, 1) := by decide +kernel
theorem dX5_pass_1 : decode cX5_pass 1 = .ok (.iload_n 1, 1) := by decide +kernel
theorem dX5_pass_2 : decode cX5_pass 2 = .ok (.iconst 1, 1) := by decide +kernel
theorem dX5_pass_3 : decode cX5_pass 3 = .ok (.bipush 60, 2) := by decide +kernel
theorem dX5_pass_5 : decode cX5_pass 5 = .ok (.invokevirtual 69, 3) := by decide +kernel
theorem dX5_pass_8 : decode cX5_pass 8 = .ok (.aload_n 0, 1) := by decide +kernel
theorem dX5_pass_9 : decode cX5_pass 9 = .ok (.getfield 73, 3) := by decide +kernel
theorem dX5_pass_12 : decode cX5_pass 12 = .ok (.ifCond .eq 15, 3) := by decide +kernel
theorem dX5_pass_15 : decode cX5_pass 15 = .ok (.aload_n 0, 1) := by decide +kernel
theorem dX5_pass_16 : decode cX5_pass 16 = .ok (.getfield 136, 3) := by decide +kernel
theorem dX5_pass_19 : decode cX5_pass 19 = .ok (.iload_n 1, 1) := by decide +kernel
theorem dX5_pass_20 : decode cX5_pass 20 = .ok (.iadd, 1) := by decide +kernel
theorem dX5_pass_21 : decode cX5_pass 21 = .ok (.sipush 9999, 3) := by decide +kernel
theorem dX5_pass_24 : decode cX5_pass 24 = .ok (.if_icmp .le 13, 3) := by decide +kernel
theorem dX5_pass_27 : decode cX5_pass 27 = .ok (.new 80, 3) := by decide +kernel
theorem dX5_pass_30 : decode cX5_pass 30 = .ok (.dup, 1) := by decide +kernel
theorem dX5_pass_31 : decode cX5_pass 31 = .ok (.ldc 139, 2) := by decide +kernel
theorem dX5_pass_33 : decode cX5_pass 33 = .ok (.invokespecial 84, 3) := by decide +kernel
theorem dX5_pass_36 : decode cX5_pass 36 = .ok (.athrow, 1) := by decide +kernel
theorem dX5_pass_37 : decode cX5_pass 37 = .ok (.iconst 0, 1) := by decide +kernel
theorem dX5_pass_38 : decode cX5_pass 38 = .ok (.istore_n 2, 1) := by decide +kernel
theorem dX5_pass_39 : decode cX5_pass 39 = .ok (.iconst 0, 1) := by decide +kernel
theorem dX5_pass_40 : decode cX5_pass 40 = .ok (.istore_n 3, 1) := by decide +kernel
theorem dX5_pass_41 : decode cX5_pass 41 = .ok (.iload_n 3, 1) := by decide +kernel
theorem dX5_pass_42 : decode cX5_pass 42 = .ok (.iload_n 1, 1) := by decide +kernel
theorem dX5_pass_43 : decode cX5_pass 43 = .ok (.if_icmp .ge 16, 3) := by decide +kernel
theorem dX5_pass_46 : decode cX5_pass 46 = .ok (.iload_n 2, 1) := by decide +kernel
theorem dX5_pass_47 : decode cX5_pass 47 = .ok (.aload_n 0, 1) := by decide +kernel
theorem dX5_pass_48 : decode cX5_pass 48 = .ok (.invokevirtual 141, 3) := by decide +kernel
theorem dX5_pass_51 : decode cX5_pass 51 = .ok (.iadd, 1) := by decide +kernel
theorem dX5_pass_52 : decode cX5_pass 52 = .ok (.istore_n 2, 1) := by decide +kernel
theorem dX5_pass_53 : decode cX5_pass 53 = .ok (.iinc 3 1, 3) := by decide +kernel
theorem dX5_pass_56 : decode cX5_pass 56 = .ok (.goto (-15), 3) := by decide +kernel
theorem dX5_pass_59 : decode cX5_pass 59 = .ok (.iload_n 2, 1) := by decide +kernel
theorem dX5_pass_60 : decode cX5_pass 60 = .ok (.ireturn, 1) := by decide +kernel
set_option maxRecDepth 20000 in
theorem ggX5_batch_X5_checkIndex : GoodIn wsX5_batch wsX5_checkIndex := goodIn_ca (goodIn_r _ [10, 1, 2] (by decide +kernel) (by decide +kernel)) (goodIn_sub (fun _ h => List.mem_cons_of_mem _ (List.mem_append_left _ (List.mem_append_right _ h))) (by decide +kernel))
set_option maxRecDepth 20000 in
theorem gX5_batch_X5_checkIndex : GoodIn wsX5_batch (wsV RX5 90 RX5 yX5_checkIndex wsX5_checkIndex) := goodIn_app (goodIn_of _ (by decide +kernel)) ggX5_batch_X5_checkIndex
set_option maxRecDepth 20000 in
theorem ggX5_batch_X5_checkRange : GoodIn wsX5_batch wsX5_checkRange := goodIn_ca (goodIn_r _ [14, 15, 16] (by decide +kernel) (by decide +kernel)) (goodIn_sub (fun _ h => List.mem_cons_of_mem _ (List.mem_append_right _ h)) (by decide +kernel))
set_option maxRecDepth 20000 in
theorem gX5_batch_X5_checkRange : GoodIn wsX5_batch (wsV RX5 69 RX5 yX5_checkRange wsX5_checkRange) := goodIn_app (goodIn_of _ (by decide +kernel)) ggX5_batch_X5_checkRange
set_option maxRecDepth 20000 in
theorem ggX5_batch_X0_inPipe : GoodIn wsX5_batch wsX0_inPipe := goodIn_r _ [20, 21, 22, 23, 24, 55, 56, 57, 58, 59, 60, 61, 62, 63, 64, 65, 66, 67] (by decide +kernel) (by decide +kernel)
set_option maxRecDepth 20000 in
theorem gX5_batch_X0_inPipe_n149 : GoodIn wsX5_batch (wsX0_inPipe) := ggX5_batch_X0_inPipe
set_option maxRecDepth 20000 in
theorem ggX5_batch_X0_waiting : GoodIn wsX5_batch wsX0_waiting := goodIn_r _ [27, 28, 21, 55, 56, 57, 58, 59, 60, 61, 62, 63, 64, 65, 66, 67] (by decide +kernel) (by decide +kernel)
set_option maxRecDepth 20000 in
theorem gX5_batch_X0_waiting_n161 : GoodIn wsX5_batch (wsX0_waiting) := ggX5_batch_X0_waiting
set_option maxRecDepth 20000 in
theorem ggX5_batch_X5_mixOf : GoodIn wsX5_batch wsX5_mixOf := goodIn_r _ [32, 33, 34, 35, 36, 9, 37, 55, 56, 57, 58, 59, 60, 61, 62, 63, 64, 65, 66, 67, 38, 39, 40, 41, 42, 43, 44, 45, 46, 47, 48, 49, 50, 51, 52, 53, 54] (by decide +kernel) (by decide +kernel)
set_option maxRecDepth 20000 in
theorem gX5_batch_X5_mixOf : GoodIn wsX5_batch (wsV RX5 164 RX5 yX5_mixOf wsX5_mixOf) := goodIn_app (goodIn_of _ (by decide +kernel)) ggX5_batch_X5_mixOf
theorem dX5_batch_0 : decode cX5_batch 0 = .ok (.aload_n 0, 1) := by decide +kernel
theorem dX5_batch_1 : decode cX5_batch 1 = .ok (.iload_n 1, 1) := by decide +kernel
theorem dX5_batch_2 : decode cX5_batch 2 = .ok (.aload_n 0, 1) := by decide +kernel
theorem dX5_batch_3 : decode cX5_batch 3 = .ok (.getfield 50, 3) := by decide +kernel
theorem dX5_batch_6 : decode cX5_batch 6 = .ok (.invokevirtual 90, 3) := by decide +kernel
theorem dX5_batch_9 : decode cX5_batch 9 = .ok (.iload_n 1, 1) := by decide +kernel
theorem dX5_batch_10 : decode cX5_batch 10 = .ok (.ifCond .ne 20, 3) := by decide +kernel
theorem dX5_batch_13 : decode cX5_batch 13 = .ok (.aload_n 0, 1) := by decide +kernel
theorem dX5_batch_14 : decode cX5_batch 14 = .ok (.getfield 73, 3) := by decide +kernel
theorem dX5_batch_17 : decode cX5_batch 17 = .ok (.ifCond .ne 13, 3) := by decide +kernel
theorem dX5_batch_20 : decode cX5_batch 20 = .ok (.new 144, 3) := by decide +kernel
theorem dX5_batch_23 : decode cX5_batch 23 = .ok (.dup, 1) := by decide +kernel
theorem dX5_batch_24 : decode cX5_batch 24 = .ok (.ldc 146, 2) := by decide +kernel
theorem dX5_batch_26 : decode cX5_batch 26 = .ok (.invokespecial 148, 3) := by decide +kernel
theorem dX5_batch_29 : decode cX5_batch 29 = .ok (.athrow, 1) := by decide +kernel
theorem dX5_batch_30 : decode cX5_batch 30 = .ok (.aload_n 0, 1) := by decide +kernel
theorem dX5_batch_31 : decode cX5_batch 31 = .ok (.iload_n 2, 1) := by decide +kernel
theorem dX5_batch_32 : decode cX5_batch 32 = .ok (.iconst 0, 1) := by decide +kernel
theorem dX5_batch_33 : decode cX5_batch 33 = .ok (.bipush 7, 2) := by decide +kernel
theorem dX5_batch_35 : decode cX5_batch 35 = .ok (.invokevirtual 69, 3) := by decide +kernel
theorem dX5_batch_38 : decode cX5_batch 38 = .ok (.aload_n 0, 1) := by decide +kernel
theorem dX5_batch_39 : decode cX5_batch 39 = .ok (.getfield 23, 3) := by decide +kernel
theorem dX5_batch_42 : decode cX5_batch 42 = .ok (.iload_n 1, 1) := by decide +kernel
theorem dX5_batch_43 : decode cX5_batch 43 = .ok (.aaload, 1) := by decide +kernel
theorem dX5_batch_44 : decode cX5_batch 44 = .ok (.astore_n 3, 1) := by decide +kernel
theorem dX5_batch_45 : decode cX5_batch 45 = .ok (.iload_n 2, 1) := by decide +kernel
theorem dX5_batch_46 : decode cX5_batch 46 = .ok (.tableswitch 78 0 6 #[42, 47, 52, 57, 62, 67, 72], 42) := by decide +kernel
theorem dX5_batch_88 : decode cX5_batch 88 = .ok (.aload_n 3, 1) := by decide +kernel
theorem dX5_batch_89 : decode cX5_batch 89 = .ok (.invokevirtual 149, 3) := by decide +kernel
theorem dX5_batch_92 : decode cX5_batch 92 = .ok (.ireturn, 1) := by decide +kernel
theorem dX5_batch_93 : decode cX5_batch 93 = .ok (.aload_n 3, 1) := by decide +kernel
theorem dX5_batch_94 : decode cX5_batch 94 = .ok (.getfield 111, 3) := by decide +kernel
theorem dX5_batch_97 : decode cX5_batch 97 = .ok (.ireturn, 1) := by decide +kernel
theorem dX5_batch_98 : decode cX5_batch 98 = .ok (.aload_n 3, 1) := by decide +kernel
theorem dX5_batch_99 : decode cX5_batch 99 = .ok (.getfield 152, 3) := by decide +kernel
theorem dX5_batch_102 : decode cX5_batch 102 = .ok (.ireturn, 1) := by decide +kernel
theorem dX5_batch_103 : decode cX5_batch 103 = .ok (.aload_n 3, 1) := by decide +kernel
theorem dX5_batch_104 : decode cX5_batch 104 = .ok (.getfield 155, 3) := by decide +kernel
theorem dX5_batch_107 : decode cX5_batch 107 = .ok (.ireturn, 1) := by decide +kernel
theorem dX5_batch_108 : decode cX5_batch 108 = .ok (.aload_n 3, 1) := by decide +kernel
theorem dX5_batch_109 : decode cX5_batch 109 = .ok (.getfield 158, 3) := by decide +kernel
theorem dX5_batch_112 : decode cX5_batch 112 = .ok (.ireturn, 1) := by decide +kernel
theorem dX5_batch_113 : decode cX5_batch 113 = .ok (.aload_n 3, 1) := by decide +kernel
theorem dX5_batch_114 : decode cX5_batch 114 = .ok (.invokevirtual 161, 3) := by decide +kernel
theorem dX5_batch_117 : decode cX5_batch 117 = .ok (.ireturn, 1) := by decide +kernel
theorem dX5_batch_118 : decode cX5_batch 118 = .ok (.aload_n 0, 1) := by decide +kernel
theorem dX5_batch_119 : decode cX5_batch 119 = .ok (.aload_n 3, 1) := by decide +kernel
theorem dX5_batch_120 : decode cX5_batch 120 = .ok (.invokevirtual 164, 3) := by decide +kernel
theorem dX5_batch_123 : decode cX5_batch 123 = .ok (.ireturn, 1) := by decide +kernel
theorem dX5_batch_124 : decode cX5_batch 124 = .ok (.aload_n 3, 1) := by decide +kernel
theorem dX5_batch_125 : decode cX5_batch 125 = .ok (.getfield 168, 3) := by decide +kernel
theorem dX5_batch_128 : decode cX5_batch 128 = .ok (.getfield 172, 3) := by decide +kernel
theorem dX5_batch_131 : decode cX5_batch 131 = .ok (.ireturn, 1) := by decide +kernel
set_option maxRecDepth 20000 in
theorem ggX5_unit_X5_checkUnit : GoodIn wsX5_unit wsX5_checkUnit := goodIn_ca (goodIn_r _ [8, 9, 10] (by decide +kernel) (by decide +kernel)) (goodIn_sub (fun _ h => List.mem_cons_of_mem _ (List.mem_append_right _ h)) (by decide +kernel))
set_option maxRecDepth 20000 in
theorem gX5_unit_X5_checkUnit : GoodIn wsX5_unit (wsV RX5 175 RX5 yX5_checkUnit wsX5_checkUnit) := goodIn_app (goodIn_of _ (by decide +kernel)) ggX5_unit_X5_checkUnit
set_option maxRecDepth 20000 in
theorem ggX5_unit_X2_fromEnd : GoodIn wsX5_unit wsX2_fromEnd := goodIn_r _ [14, 15, 16, 17, 41, 42, 43, 44, 45, 46, 47] (by decide +kernel) (by decide +kernel)
set_option maxRecDepth 20000 in
theorem gX5_unit_X2_fromEnd_n181 : GoodIn wsX5_unit (wsX2_fromEnd) := ggX5_unit_X2_fromEnd
set_option maxRecDepth 20000 in
theorem ggX5_unit_X5_batchOf : GoodIn wsX5_unit wsX5_batchOf := goodIn_r _ [21, 22, 23, 24, 25, 26, 27, 28, 29, 30, 31, 32, 33, 34, 35, 36, 37, 38, 39, 40] (by decide +kernel) (by decide +kernel)
set_option maxRecDepth 20000 in
theorem gX5_unit_X5_batchOf : GoodIn wsX5_unit (wsV RX5 184 RX5 yX5_batchOf wsX5_batchOf) := goodIn_app (goodIn_of _ (by decide +kernel)) ggX5_unit_X5_batchOf
theorem dX5_unit_0 : decode cX5_unit 0 = .ok (.aload_n 0, 1) := by decide +kernel
theorem dX5_unit_1 : decode cX5_unit 1 = .ok (.iload_n 1, 1) := by decide +kernel
theorem dX5_unit_2 : decode cX5_unit 2 = .ok (.invokevirtual 175, 3) := by decide +kernel
theorem dX5_unit_5 : decode cX5_unit 5 = .ok (.iload_n 1, 1) := by decide +kernel
theorem dX5_unit_6 : decode cX5_unit 6 = .ok (.istore_n 2, 1) := by decide +kernel
theorem dX5_unit_7 : decode cX5_unit 7 = .ok (.aload_n 0, 1) := by decide +kernel
theorem dX5_unit_8 : decode cX5_unit 8 = .ok (.getfield 73, 3) := by decide +kernel
theorem dX5_unit_11 : decode cX5_unit 11 = .ok (.ifCond .eq 12, 3) := by decide +kernel
theorem dX5_unit_14 : decode cX5_unit 14 = .ok (.aload_n 0, 1) := by decide +kernel
theorem dX5_unit_15 : decode cX5_unit 15 = .ok (.getfield 77, 3) := by decide +kernel
theorem dX5_unit_18 : decode cX5_unit 18 = .ok (.iconst 1, 1) := by decide +kernel
theorem dX5_unit_19 : decode cX5_unit 19 = .ok (.isub, 1) := by decide +kernel
theorem dX5_unit_20 : decode cX5_unit 20 = .ok (.goto 4, 3) := by decide +kernel
theorem dX5_unit_23 : decode cX5_unit 23 = .ok (.iconst (-1), 1) := by decide +kernel
theorem dX5_unit_24 : decode cX5_unit 24 = .ok (.istore_n 3, 1) := by decide +kernel
theorem dX5_unit_25 : decode cX5_unit 25 = .ok (.iload_n 3, 1) := by decide +kernel
theorem dX5_unit_26 : decode cX5_unit 26 = .ok (.ifCond .lt 52, 3) := by decide +kernel
theorem dX5_unit_29 : decode cX5_unit 29 = .ok (.iload_n 2, 1) := by decide +kernel
theorem dX5_unit_30 : decode cX5_unit 30 = .ok (.aload_n 0, 1) := by decide +kernel
theorem dX5_unit_31 : decode cX5_unit 31 = .ok (.getfield 11, 3) := by decide +kernel
theorem dX5_unit_34 : decode cX5_unit 34 = .ok (.iload_n 3, 1) := by decide +kernel
theorem dX5_unit_35 : decode cX5_unit 35 = .ok (.aaload, 1) := by decide +kernel
theorem dX5_unit_36 : decode cX5_unit 36 = .ok (.getfield 178, 3) := by decide +kernel
theorem dX5_unit_39 : decode cX5_unit 39 = .ok (.if_icmp .ge 21, 3) := by decide +kernel
theorem dX5_unit_42 : decode cX5_unit 42 = .ok (.aload_n 0, 1) := by decide +kernel
theorem dX5_unit_43 : decode cX5_unit 43 = .ok (.aload_n 0, 1) := by decide +kernel
theorem dX5_unit_44 : decode cX5_unit 44 = .ok (.getfield 11, 3) := by decide +kernel
theorem dX5_unit_47 : decode cX5_unit 47 = .ok (.iload_n 3, 1) := by decide +kernel
theorem dX5_unit_48 : decode cX5_unit 48 = .ok (.aaload, 1) := by decide +kernel
theorem dX5_unit_49 : decode cX5_unit 49 = .ok (.iload_n 2, 1) := by decide +kernel
theorem dX5_unit_50 : decode cX5_unit 50 = .ok (.invokevirtual 181, 3) := by decide +kernel
theorem dX5_unit_53 : decode cX5_unit 53 = .ok (.invokevirtual 184, 3) := by decide +kernel
theorem dX5_unit_56 : decode cX5_unit 56 = .ok (.getfield 188, 3) := by decide +kernel
theorem dX5_unit_59 : decode cX5_unit 59 = .ok (.ireturn, 1) := by decide +kernel
theorem dX5_unit_60 : decode cX5_unit 60 = .ok (.iload_n 2, 1) := by decide +kernel
theorem dX5_unit_61 : decode cX5_unit 61 = .ok (.aload_n 0, 1) := by decide +kernel
theorem dX5_unit_62 : decode cX5_unit 62 = .ok (.getfield 11, 3) := by decide +kernel
theorem dX5_unit_65 : decode cX5_unit 65 = .ok (.iload_n 3, 1) := by decide +kernel
theorem dX5_unit_66 : decode cX5_unit 66 = .ok (.aaload, 1) := by decide +kernel
theorem dX5_unit_67 : decode cX5_unit 67 = .ok (.getfield 178, 3) := by decide +kernel
theorem dX5_unit_70 : decode cX5_unit 70 = .ok (.isub, 1) := by decide +kernel
theorem dX5_unit_71 : decode cX5_unit 71 = .ok (.istore_n 2, 1) := by decide +kernel
theorem dX5_unit_72 : decode cX5_unit 72 = .ok (.iinc 3 (-1), 3) := by decide +kernel
theorem dX5_unit_75 : decode cX5_unit 75 = .ok (.goto (-50), 3) := by decide +kernel
theorem dX5_unit_78 : decode cX5_unit 78 = .ok (.iconst (-1), 1) := by decide +kernel
theorem dX5_unit_79 : decode cX5_unit 79 = .ok (.ireturn, 1) := by decide +kernel
set_option maxRecDepth 20000 in
theorem ggX5_unitAnew_X5_checkUnit : GoodIn wsX5_unitAnew wsX5_checkUnit := goodIn_ca (goodIn_r _ [7, 8, 9] (by decide +kernel) (by decide +kernel)) (goodIn_sub (fun _ h => List.mem_cons_of_mem _ (List.mem_append_right _ h)) (by decide +kernel))
set_option maxRecDepth 20000 in
theorem gX5_unitAnew_X5_checkUnit : GoodIn wsX5_unitAnew (wsV RX5 175 RX5 yX5_checkUnit wsX5_checkUnit) := goodIn_app (goodIn_of _ (by decide +kernel)) ggX5_unitAnew_X5_checkUnit
set_option maxRecDepth 20000 in
theorem ggX5_unitAnew_X0_inPipe : GoodIn wsX5_unitAnew wsX0_inPipe := goodIn_r _ [13, 14, 15, 16, 17, 35, 36, 37, 38, 39, 40, 41, 42, 43, 44, 45, 46, 47] (by decide +kernel) (by decide +kernel)
set_option maxRecDepth 20000 in
theorem gX5_unitAnew_X0_inPipe_n149 : GoodIn wsX5_unitAnew (wsX0_inPipe) := ggX5_unitAnew_X0_inPipe
theorem dX5_unitAnew_0 : decode cX5_unitAnew 0 = .ok (.aload_n 0, 1) := by decide +kernel
theorem dX5_unitAnew_1 : decode cX5_unitAnew 1 = .ok (.iload_n 1, 1) := by decide +kernel
theorem dX5_unitAnew_2 : decode cX5_unitAnew 2 = .ok (.invokevirtual 175, 3) := by decide +kernel
theorem dX5_unitAnew_5 : decode cX5_unitAnew 5 = .ok (.iload_n 1, 1) := by decide +kernel
theorem dX5_unitAnew_6 : decode cX5_unitAnew 6 = .ok (.istore_n 2, 1) := by decide +kernel
theorem dX5_unitAnew_7 : decode cX5_unitAnew 7 = .ok (.aload_n 0, 1) := by decide +kernel
theorem dX5_unitAnew_8 : decode cX5_unitAnew 8 = .ok (.getfield 73, 3) := by decide +kernel
theorem dX5_unitAnew_11 : decode cX5_unitAnew 11 = .ok (.ifCond .eq 12, 3) := by decide +kernel
theorem dX5_unitAnew_14 : decode cX5_unitAnew 14 = .ok (.aload_n 0, 1) := by decide +kernel
theorem dX5_unitAnew_15 : decode cX5_unitAnew 15 = .ok (.getfield 23, 3) := by decide +kernel
theorem dX5_unitAnew_18 : decode cX5_unitAnew 18 = .ok (.iconst 0, 1) := by decide +kernel
theorem dX5_unitAnew_19 : decode cX5_unitAnew 19 = .ok (.aaload, 1) := by decide +kernel
theorem dX5_unitAnew_20 : decode cX5_unitAnew 20 = .ok (.goto 4, 3) := by decide +kernel
theorem dX5_unitAnew_23 : decode cX5_unitAnew 23 = .ok (.aconst_null, 1) := by decide +kernel
theorem dX5_unitAnew_24 : decode cX5_unitAnew 24 = .ok (.astore_n 3, 1) := by decide +kernel
theorem dX5_unitAnew_25 : decode cX5_unitAnew 25 = .ok (.aload_n 3, 1) := by decide +kernel
theorem dX5_unitAnew_26 : decode cX5_unitAnew 26 = .ok (.ifnull 31, 3) := by decide +kernel
theorem dX5_unitAnew_29 : decode cX5_unitAnew 29 = .ok (.iload_n 2, 1) := by decide +kernel
theorem dX5_unitAnew_30 : decode cX5_unitAnew 30 = .ok (.aload_n 3, 1) := by decide +kernel
theorem dX5_unitAnew_31 : decode cX5_unitAnew 31 = .ok (.invokevirtual 149, 3) := by decide +kernel
theorem dX5_unitAnew_34 : decode cX5_unitAnew 34 = .ok (.if_icmp .ge 8, 3) := by decide +kernel
theorem dX5_unitAnew_37 : decode cX5_unitAnew 37 = .ok (.aload_n 3, 1) := by decide +kernel
theorem dX5_unitAnew_38 : decode cX5_unitAnew 38 = .ok (.getfield 188, 3) := by decide +kernel
theorem dX5_unitAnew_41 : decode cX5_unitAnew 41 = .ok (.ireturn, 1) := by decide +kernel
theorem dX5_unitAnew_42 : decode cX5_unitAnew 42 = .ok (.iload_n 2, 1) := by decide +kernel
theorem dX5_unitAnew_43 : decode cX5_unitAnew 43 = .ok (.aload_n 3, 1) := by decide +kernel
theorem dX5_unitAnew_44 : decode cX5_unitAnew 44 = .ok (.invokevirtual 149, 3) := by decide +kernel
theorem dX5_unitAnew_47 : decode cX5_unitAnew 47 = .ok (.isub, 1) := by decide +kernel
theorem dX5_unitAnew_48 : decode cX5_unitAnew 48 = .ok (.istore_n 2, 1) := by decide +kernel
theorem dX5_unitAnew_49 : decode cX5_unitAnew 49 = .ok (.aload_n 3, 1) := by decide +kernel
theorem dX5_unitAnew_50 : decode cX5_unitAnew 50 = .ok (.getfield 189, 3) := by decide +kernel
theorem dX5_unitAnew_53 : decode cX5_unitAnew 53 = .ok (.astore_n 3, 1) := by decide +kernel
theorem dX5_unitAnew_54 : decode cX5_unitAnew 54 = .ok (.goto (-29), 3) := by decide +kernel
theorem dX5_unitAnew_57 : decode cX5_unitAnew 57 = .ok (.iconst (-1), 1) := by decide +kernel
theorem dX5_unitAnew_58 : decode cX5_unitAnew 58 = .ok (.ireturn, 1) := by decide +kernel
set_option maxRecDepth 20000 in
theorem ggX5_pressure_X5_checkIndex : GoodIn wsX5_pressure wsX5_checkIndex := goodIn_ca (goodIn_r _ [10, 11, 12] (by decide +kernel) (by decide +kernel)) (goodIn_sub (fun _ h => List.mem_cons_of_mem _ (List.mem_append_left _ (List.mem_append_right _ h))) (by decide +kernel))
set_option maxRecDepth 20000 in
theorem gX5_pressure_X5_checkIndex : GoodIn wsX5_pressure (wsV RX5 90 RX5 yX5_checkIndex wsX5_checkIndex) := goodIn_app (goodIn_of _ (by decide +kernel)) ggX5_pressure_X5_checkIndex
set_option maxRecDepth 20000 in
theorem ggX5_pressure_X5_checkRange : GoodIn wsX5_pressure wsX5_checkRange := goodIn_ca (goodIn_r _ [16, 17, 18] (by decide +kernel) (by decide +kernel)) (goodIn_sub (fun _ h => List.mem_cons_of_mem _ (List.mem_append_right _ h)) (by decide +kernel))
set_option maxRecDepth 20000 in
theorem gX5_pressure_X5_checkRange : GoodIn wsX5_pressure (wsV RX5 69 RX5 yX5_checkRange wsX5_checkRange) := goodIn_app (goodIn_of _ (by decide +kernel)) ggX5_pressure_X5_checkRange
set_option maxRecDepth 20000 in
theorem ggX5_pressure_X5_headAt : GoodIn wsX5_pressure wsX5_headAt := goodIn_r _ [22, 3, 5, 23, 24, 25, 26, 27, 28, 29, 30, 31, 32, 9, 33, 34, 35, 49, 50, 51, 52, 53, 54, 55, 56, 57, 58, 59, 60, 61, 62, 63, 64, 65, 66, 67, 68, 69, 70, 71, 72, 73, 74, 75, 76, 77, 78, 79, 80, 81, 82, 83, 84, 85, 86, 87, 88, 89, 90] (by decide +kernel) (by decide +kernel)
set_option maxRecDepth 20000 in
theorem gX5_pressure_X5_headAt : GoodIn wsX5_pressure (wsV RX5 194 RX5 yX5_headAt wsX5_headAt) := goodIn_app (goodIn_of _ (by decide +kernel)) ggX5_pressure_X5_headAt
set_option maxRecDepth 20000 in
theorem ggX5_pressure_X5_friction : GoodIn wsX5_pressure wsX5_friction := goodIn_r _ [39, 40, 84, 85, 86, 87, 88, 89, 90, 49, 50, 51, 52, 53, 54, 55, 56, 57, 58, 59, 60, 61, 62, 63, 64, 65, 79, 80, 81, 82, 83] (by decide +kernel) (by decide +kernel)
set_option maxRecDepth 20000 in
theorem gX5_pressure_X5_friction : GoodIn wsX5_pressure (wsV RX5 197 RX5 yX5_friction wsX5_friction) := goodIn_app (goodIn_of _ (by decide +kernel)) ggX5_pressure_X5_friction
set_option maxRecDepth 20000 in
theorem ggX5_pressure_X5_atBeginning : GoodIn wsX5_pressure wsX5_atBeginning := goodIn_r _ [44, 45, 46, 47, 48, 19, 20, 21, 9, 22, 3, 5, 23, 24, 25, 26, 27, 28, 29, 30, 31, 32, 33, 34, 35, 49, 50, 51, 52, 53, 54, 55, 56, 57, 58, 59, 60, 61, 62, 63, 64, 65, 66, 67, 68, 69, 70, 71, 72, 73, 74, 75, 76, 77, 78, 79, 80, 81, 82, 83, 84, 85, 86, 87, 88, 89, 90] (by decide +kernel) (by decide +kernel)
set_option maxRecDepth 20000 in
theorem gX5_pressure_X5_atBeginning : GoodIn wsX5_pressure (wsV RX5 201 RX5 yX5_atBeginning wsX5_atBeginning) := goodIn_app (goodIn_of _ (by decide +kernel)) ggX5_pressure_X5_atBeginning
theorem dX5_pressure_0 : decode cX5_pressure 0 = .ok (.aload_n 0, 1) := by decide +kernel
theorem dX5_pressure_1 : decode cX5_pressure 1 = .ok (.iload_n 1, 1) := by decide +kernel
theorem dX5_pressure_2 : decode cX5_pressure 2 = .ok (.aload_n 0, 1) := by decide +kernel
theorem dX5_pressure_3 : decode cX5_pressure 3 = .ok (.getfield 77, 3) := by decide +kernel
theorem dX5_pressure_6 : decode cX5_pressure 6 = .ok (.invokevirtual 90, 3) := by decide +kernel
theorem dX5_pressure_9 : decode cX5_pressure 9 = .ok (.aload_n 0, 1) := by decide +kernel
theorem dX5_pressure_10 : decode cX5_pressure 10 = .ok (.iload_n 2, 1) := by decide +kernel
theorem dX5_pressure_11 : decode cX5_pressure 11 = .ok (.iconst 0, 1) := by decide +kernel
theorem dX5_pressure_12 : decode cX5_pressure 12 = .ok (.bipush 10, 2) := by decide +kernel
theorem dX5_pressure_14 : decode cX5_pressure 14 = .ok (.invokevirtual 69, 3) := by decide +kernel
theorem dX5_pressure_17 : decode cX5_pressure 17 = .ok (.aload_n 0, 1) := by decide +kernel
theorem dX5_pressure_18 : decode cX5_pressure 18 = .ok (.getfield 73, 3) := by decide +kernel
theorem dX5_pressure_21 : decode cX5_pressure 21 = .ok (.ifCond .ne 13, 3) := by decide +kernel
theorem dX5_pressure_24 : decode cX5_pressure 24 = .ok (.new 80, 3) := by decide +kernel
theorem dX5_pressure_27 : decode cX5_pressure 27 = .ok (.dup, 1) := by decide +kernel
theorem dX5_pressure_28 : decode cX5_pressure 28 = .ok (.ldc 192, 2) := by decide +kernel
theorem dX5_pressure_30 : decode cX5_pressure 30 = .ok (.invokespecial 84, 3) := by decide +kernel
theorem dX5_pressure_33 : decode cX5_pressure 33 = .ok (.athrow, 1) := by decide +kernel
theorem dX5_pressure_34 : decode cX5_pressure 34 = .ok (.aload_n 0, 1) := by decide +kernel
theorem dX5_pressure_35 : decode cX5_pressure 35 = .ok (.aload_n 0, 1) := by decide +kernel
theorem dX5_pressure_36 : decode cX5_pressure 36 = .ok (.getfield 77, 3) := by decide +kernel
theorem dX5_pressure_39 : decode cX5_pressure 39 = .ok (.iconst 1, 1) := by decide +kernel
theorem dX5_pressure_40 : decode cX5_pressure 40 = .ok (.isub, 1) := by decide +kernel
theorem dX5_pressure_41 : decode cX5_pressure 41 = .ok (.invokevirtual 194, 3) := by decide +kernel
theorem dX5_pressure_44 : decode cX5_pressure 44 = .ok (.istore_n 3, 1) := by decide +kernel
theorem dX5_pressure_45 : decode cX5_pressure 45 = .ok (.iload_n 1, 1) := by decide +kernel
theorem dX5_pressure_46 : decode cX5_pressure 46 = .ok (.istore 4, 2) := by decide +kernel
theorem dX5_pressure_48 : decode cX5_pressure 48 = .ok (.iload 4, 2) := by decide +kernel
theorem dX5_pressure_50 : decode cX5_pressure 50 = .ok (.aload_n 0, 1) := by decide +kernel
theorem dX5_pressure_51 : decode cX5_pressure 51 = .ok (.getfield 77, 3) := by decide +kernel
theorem dX5_pressure_54 : decode cX5_pressure 54 = .ok (.if_icmp .ge 24, 3) := by decide +kernel
theorem dX5_pressure_57 : decode cX5_pressure 57 = .ok (.iload_n 3, 1) := by decide +kernel
theorem dX5_pressure_58 : decode cX5_pressure 58 = .ok (.aload_n 0, 1) := by decide +kernel
theorem dX5_pressure_59 : decode cX5_pressure 59 = .ok (.aload_n 0, 1) := by decide +kernel
theorem dX5_pressure_60 : decode cX5_pressure 60 = .ok (.getfield 11, 3) := by decide +kernel
theorem dX5_pressure_63 : decode cX5_pressure 63 = .ok (.iload 4, 2) := by decide +kernel
theorem dX5_pressure_65 : decode cX5_pressure 65 = .ok (.aaload, 1) := by decide +kernel
theorem dX5_pressure_66 : decode cX5_pressure 66 = .ok (.iload_n 2, 1) := by decide +kernel
theorem dX5_pressure_67 : decode cX5_pressure 67 = .ok (.invokevirtual 197, 3) := by decide +kernel
theorem dX5_pressure_70 : decode cX5_pressure 70 = .ok (.iadd, 1) := by decide +kernel
theorem dX5_pressure_71 : decode cX5_pressure 71 = .ok (.istore_n 3, 1) := by decide +kernel
theorem dX5_pressure_72 : decode cX5_pressure 72 = .ok (.iinc 4 1, 3) := by decide +kernel
theorem dX5_pressure_75 : decode cX5_pressure 75 = .ok (.goto (-27), 3) := by decide +kernel
theorem dX5_pressure_78 : decode cX5_pressure 78 = .ok (.aload_n 0, 1) := by decide +kernel
theorem dX5_pressure_79 : decode cX5_pressure 79 = .ok (.iload_n 1, 1) := by decide +kernel
theorem dX5_pressure_80 : decode cX5_pressure 80 = .ok (.iload_n 3, 1) := by decide +kernel
theorem dX5_pressure_81 : decode cX5_pressure 81 = .ok (.invokevirtual 201, 3) := by decide +kernel
theorem dX5_pressure_84 : decode cX5_pressure 84 = .ok (.ireturn, 1) := by decide +kernel
set_option maxRecDepth 20000 in
theorem ggX5_tank_X5_checkIndex : GoodIn wsX5_tank wsX5_checkIndex := goodIn_ca (goodIn_r _ [6, 7, 8] (by decide +kernel) (by decide +kernel)) (goodIn_sub (fun _ h => List.mem_cons_of_mem _ (List.mem_append_left _ (List.mem_append_right _ h))) (by decide +kernel))
set_option maxRecDepth 20000 in
theorem gX5_tank_X5_checkIndex : GoodIn wsX5_tank (wsV RX5 90 RX5 yX5_checkIndex wsX5_checkIndex) := goodIn_app (goodIn_of _ (by decide +kernel)) ggX5_tank_X5_checkIndex
set_option maxRecDepth 20000 in
theorem ggX5_tank_X5_checkRange : GoodIn wsX5_tank wsX5_checkRange := goodIn_ca (goodIn_r _ [12, 13, 14] (by decide +kernel) (by decide +kernel)) (goodIn_sub (fun _ h => List.mem_cons_of_mem _ (List.mem_append_right _ h)) (by decide +kernel))
set_option maxRecDepth 20000 in
theorem gX5_tank_X5_checkRange : GoodIn wsX5_tank (wsV RX5 69 RX5 yX5_checkRange wsX5_checkRange) := goodIn_app (goodIn_of _ (by decide +kernel)) ggX5_tank_X5_checkRange
theorem dX5_tank_0 : decode cX5_tank 0 = .ok (.aload_n 0, 1) := by decide +kernel
theorem dX5_tank_1 : decode cX5_tank 1 = .ok (.iload_n 1, 1) := by decide +kernel
theorem dX5_tank_2 : decode cX5_tank 2 = .ok (.iconst 4, 1) := by decide +kernel
theorem dX5_tank_3 : decode cX5_tank 3 = .ok (.invokevirtual 90, 3) := by decide +kernel
theorem dX5_tank_6 : decode cX5_tank 6 = .ok (.aload_n 0, 1) := by decide +kernel
theorem dX5_tank_7 : decode cX5_tank 7 = .ok (.iload_n 2, 1) := by decide +kernel
theorem dX5_tank_8 : decode cX5_tank 8 = .ok (.iconst 0, 1) := by decide +kernel
theorem dX5_tank_9 : decode cX5_tank 9 = .ok (.iconst 2, 1) := by decide +kernel
theorem dX5_tank_10 : decode cX5_tank 10 = .ok (.invokevirtual 69, 3) := by decide +kernel
theorem dX5_tank_13 : decode cX5_tank 13 = .ok (.iload_n 2, 1) := by decide +kernel
theorem dX5_tank_14 : decode cX5_tank 14 = .ok (.lookupswitch 46 #[(0, 26), (1, 36)], 26) := by decide +kernel
theorem dX5_tank_40 : decode cX5_tank 40 = .ok (.aload_n 0, 1) := by decide +kernel
theorem dX5_tank_41 : decode cX5_tank 41 = .ok (.getfield 29, 3) := by decide +kernel
theorem dX5_tank_44 : decode cX5_tank 44 = .ok (.iload_n 1, 1) := by decide +kernel
theorem dX5_tank_45 : decode cX5_tank 45 = .ok (.aaload, 1) := by decide +kernel
theorem dX5_tank_46 : decode cX5_tank 46 = .ok (.getfield 205, 3) := by decide +kernel
theorem dX5_tank_49 : decode cX5_tank 49 = .ok (.ireturn, 1) := by decide +kernel
theorem dX5_tank_50 : decode cX5_tank 50 = .ok (.aload_n 0, 1) := by decide +kernel
theorem dX5_tank_51 : decode cX5_tank 51 = .ok (.getfield 29, 3) := by decide +kernel
theorem dX5_tank_54 : decode cX5_tank 54 = .ok (.iload_n 1, 1) := by decide +kernel
theorem dX5_tank_55 : decode cX5_tank 55 = .ok (.aaload, 1) := by decide +kernel
theorem dX5_tank_56 : decode cX5_tank 56 = .ok (.getfield 208, 3) := by decide +kernel
theorem dX5_tank_59 : decode cX5_tank 59 = .ok (.ireturn, 1) := by decide +kernel
theorem dX5_tank_60 : decode cX5_tank 60 = .ok (.aload_n 0, 1) := by decide +kernel
theorem dX5_tank_61 : decode cX5_tank 61 = .ok (.getfield 29, 3) := by decide +kernel
theorem dX5_tank_64 : decode cX5_tank 64 = .ok (.iload_n 1, 1) := by decide +kernel
theorem dX5_tank_65 : decode cX5_tank 65 = .ok (.aaload, 1) := by decide +kernel
theorem dX5_tank_66 : decode cX5_tank 66 = .ok (.getfield 211, 3) := by decide +kernel
theorem dX5_tank_69 : decode cX5_tank 69 = .ok (.ireturn, 1) := by decide +kernel
set_option maxRecDepth 20000 in
theorem ggX5_pipe_X5_checkRange : GoodIn wsX5_pipe wsX5_checkRange := goodIn_ca (goodIn_r _ [8, 9, 10] (by decide +kernel) (by decide +kernel)) (goodIn_sub (fun _ h => List.mem_cons_of_mem _ (List.mem_append_right _ h)) (by decide +kernel))
set_option maxRecDepth 20000 in
theorem gX5_pipe_X5_checkRange : GoodIn wsX5_pipe (wsV RX5 69 RX5 yX5_checkRange wsX5_checkRange) := goodIn_app (goodIn_of _ (by decide +kernel)) ggX5_pipe_X5_checkRange
set_option maxRecDepth 20000 in
theorem ggX5_pipe_X5_latestBalance : GoodIn wsX5_pipe wsX5_latestBalance := goodIn_r _ [14, 15, 21, 22, 23, 24, 25, 26, 27, 28, 29, 30, 31, 32, 33, 34, 35, 36, 37] (by decide +kernel) (by decide +kernel)
set_option maxRecDepth 20000 in
theorem gX5_pipe_X5_latestBalance : GoodIn wsX5_pipe (wsV RX5 217 RX5 yX5_latestBalance wsX5_latestBalance) := goodIn_app (goodIn_of _ (by decide +kernel)) ggX5_pipe_X5_latestBalance
set_option maxRecDepth 20000 in
theorem ggX5_pipe_X5_spilledInAll : GoodIn wsX5_pipe wsX5_spilledInAll := goodIn_r _ [19, 20, 21, 22, 23, 24, 25, 26, 27, 28, 29, 30, 31, 32, 33, 34, 35, 36, 37, 38, 39, 40, 41] (by decide +kernel) (by decide +kernel)
set_option maxRecDepth 20000 in
theorem gX5_pipe_X5_spilledInAll : GoodIn wsX5_pipe (wsV RX5 220 RX5 yX5_spilledInAll wsX5_spilledInAll) := goodIn_app (goodIn_of _ (by decide +kernel)) ggX5_pipe_X5_spilledInAll
theorem dX5_pipe_0 : decode cX5_pipe 0 = .ok (.aload_n 0, 1) := by decide +kernel
theorem dX5_pipe_1 : decode cX5_pipe 1 = .ok (.iload_n 1, 1) := by decide +kernel
theorem dX5_pipe_2 : decode cX5_pipe 2 = .ok (.iconst 0, 1) := by decide +kernel
theorem dX5_pipe_3 : decode cX5_pipe 3 = .ok (.iconst 5, 1) := by decide +kernel
theorem dX5_pipe_4 : decode cX5_pipe 4 = .ok (.invokevirtual 69, 3) := by decide +kernel
theorem dX5_pipe_7 : decode cX5_pipe 7 = .ok (.iload_n 1, 1) := by decide +kernel
theorem dX5_pipe_8 : decode cX5_pipe 8 = .ok (.tableswitch 79 0 4 #[36, 41, 46, 60, 65], 36) := by decide +kernel
theorem dX5_pipe_44 : decode cX5_pipe 44 = .ok (.aload_n 0, 1) := by decide +kernel
theorem dX5_pipe_45 : decode cX5_pipe 45 = .ok (.getfield 214, 3) := by decide +kernel
theorem dX5_pipe_48 : decode cX5_pipe 48 = .ok (.ireturn, 1) := by decide +kernel
theorem dX5_pipe_49 : decode cX5_pipe 49 = .ok (.aload_n 0, 1) := by decide +kernel
theorem dX5_pipe_50 : decode cX5_pipe 50 = .ok (.invokevirtual 217, 3) := by decide +kernel
theorem dX5_pipe_53 : decode cX5_pipe 53 = .ok (.ireturn, 1) := by decide +kernel
theorem dX5_pipe_54 : decode cX5_pipe 54 = .ok (.aload_n 0, 1) := by decide +kernel
theorem dX5_pipe_55 : decode cX5_pipe 55 = .ok (.invokevirtual 217, 3) := by decide +kernel
theorem dX5_pipe_58 : decode cX5_pipe 58 = .ok (.iconst 3, 1) := by decide +kernel
theorem dX5_pipe_59 : decode cX5_pipe 59 = .ok (.if_icmp .lt 7, 3) := by decide +kernel
theorem dX5_pipe_62 : decode cX5_pipe 62 = .ok (.iconst 1, 1) := by decide +kernel
theorem dX5_pipe_63 : decode cX5_pipe 63 = .ok (.goto 4, 3) := by decide +kernel
theorem dX5_pipe_66 : decode cX5_pipe 66 = .ok (.iconst 0, 1) := by decide +kernel
theorem dX5_pipe_67 : decode cX5_pipe 67 = .ok (.ireturn, 1) := by decide +kernel
theorem dX5_pipe_68 : decode cX5_pipe 68 = .ok (.aload_n 0, 1) := by decide +kernel
theorem dX5_pipe_69 : decode cX5_pipe 69 = .ok (.invokevirtual 220, 3) := by decide +kernel
theorem dX5_pipe_72 : decode cX5_pipe 72 = .ok (.ireturn, 1) := by decide +kernel
theorem dX5_pipe_73 : decode cX5_pipe 73 = .ok (.aload_n 0, 1) := by decide +kernel
theorem dX5_pipe_74 : decode cX5_pipe 74 = .ok (.getfield 54, 3) := by decide +kernel
theorem dX5_pipe_77 : decode cX5_pipe 77 = .ok (.iconst (-1), 1) := by decide +kernel
theorem dX5_pipe_78 : decode cX5_pipe 78 = .ok (.if_icmp .eq 7, 3) := by decide +kernel
theorem dX5_pipe_81 : decode cX5_pipe 81 = .ok (.iconst 1, 1) := by decide +kernel
theorem dX5_pipe_82 : decode cX5_pipe 82 = .ok (.goto 4, 3) := by decide +kernel
theorem dX5_pipe_85 : decode cX5_pipe 85 = .ok (.iconst 0, 1) := by decide +kernel
theorem dX5_pipe_86 : decode cX5_pipe 86 = .ok (.ireturn, 1) := by decide +kernel
theorem dX5_pipe_87 : decode cX5_pipe 87 = .ok (.aload_n 0, 1) := by decide +kernel
theorem dX5_pipe_88 : decode cX5_pipe 88 = .ok (.getfield 136, 3) := by decide +kernel
theorem dX5_pipe_91 : decode cX5_pipe 91 = .ok (.ireturn, 1) := by decide +kernel
set_option maxRecDepth 20000 in
theorem ggX5_dirt_X5_checkIndex : GoodIn wsX5_dirt wsX5_checkIndex := goodIn_ca (goodIn_r _ [7, 8, 9] (by decide +kernel) (by decide +kernel)) (goodIn_sub (fun _ h => List.mem_cons_of_mem _ (List.mem_append_right _ h)) (by decide +kernel))
set_option maxRecDepth 20000 in
theorem gX5_dirt_X5_checkIndex : GoodIn wsX5_dirt (wsV RX5 90 RX5 yX5_checkIndex wsX5_checkIndex) := goodIn_app (goodIn_of _ (by decide +kernel)) ggX5_dirt_X5_checkIndex
theorem dX5_dirt_0 : decode cX5_dirt 0 = .ok (.aload_n 0, 1) := by decide +kernel
theorem dX5_dirt_1 : decode cX5_dirt 1 = .ok (.iload_n 1, 1) := by decide +kernel
theorem dX5_dirt_2 : decode cX5_dirt 2 = .ok (.aload_n 0, 1) := by decide +kernel
theorem dX5_dirt_3 : decode cX5_dirt 3 = .ok (.getfield 77, 3) := by decide +kernel
theorem dX5_dirt_6 : decode cX5_dirt 6 = .ok (.invokevirtual 90, 3) := by decide +kernel
theorem dX5_dirt_9 : decode cX5_dirt 9 = .ok (.aload_n 0, 1) := by decide +kernel
theorem dX5_dirt_10 : decode cX5_dirt 10 = .ok (.getfield 11, 3) := by decide +kernel
theorem dX5_dirt_13 : decode cX5_dirt 13 = .ok (.iload_n 1, 1) := by decide +kernel
theorem dX5_dirt_14 : decode cX5_dirt 14 = .ok (.aaload, 1) := by decide +kernel
theorem dX5_dirt_15 : decode cX5_dirt 15 = .ok (.getfield 223, 3) := by decide +kernel
theorem dX5_dirt_18 : decode cX5_dirt 18 = .ok (.ireturn, 1) := by decide +kernel
set_option maxRecDepth 20000 in
theorem ggX5_share_X5_checkIndex : GoodIn wsX5_share wsX5_checkIndex := goodIn_ca (goodIn_r _ [9, 10, 11] (by decide +kernel) (by decide +kernel)) (goodIn_sub (fun _ h => List.mem_cons_of_mem _ (List.mem_append_left _ (List.mem_append_right _ h))) (by decide +kernel))
set_option maxRecDepth 20000 in
theorem gX5_share_X5_checkIndex : GoodIn wsX5_share (wsV RX5 90 RX5 yX5_checkIndex wsX5_checkIndex) := goodIn_app (goodIn_of _ (by decide +kernel)) ggX5_share_X5_checkIndex
set_option maxRecDepth 20000 in
theorem ggX5_share_X5_checkRange : GoodIn wsX5_share wsX5_checkRange := goodIn_ca (goodIn_r _ [15, 16, 17] (by decide +kernel) (by decide +kernel)) (goodIn_sub (fun _ h => List.mem_cons_of_mem _ (List.mem_append_right _ h)) (by decide +kernel))
set_option maxRecDepth 20000 in
theorem gX5_share_X5_checkRange : GoodIn wsX5_share (wsV RX5 69 RX5 yX5_checkRange wsX5_checkRange) := goodIn_app (goodIn_of _ (by decide +kernel)) ggX5_share_X5_checkRange
set_option maxRecDepth 20000 in
theorem ggX5_share_X5_waitingFor : GoodIn wsX5_share wsX5_waitingFor := goodIn_r _ [21, 22, 23, 24, 25, 26, 27, 28, 29, 34, 35, 36, 37, 38, 39, 40, 41, 42, 43, 44, 45, 46, 47, 48, 49, 50, 51, 52, 53, 54, 55, 56, 57, 58, 59, 60, 61, 62, 63] (by decide +kernel) (by decide +kernel)
set_option maxRecDepth 20000 in
theorem gX5_share_X5_waitingFor : GoodIn wsX5_share (wsV RX5 226 RX5 yX5_waitingFor wsX5_waitingFor) := goodIn_app (goodIn_of _ (by decide +kernel)) ggX5_share_X5_waitingFor
set_option maxRecDepth 20000 in
theorem ggX5_share_X5_claimOf : GoodIn wsX5_share wsX5_claimOf := goodIn_r _ [33, 22, 23, 34, 35, 36, 37, 38, 39, 40, 41, 42, 43, 44, 45, 46, 47, 48, 49, 50, 51, 52, 53, 54, 55, 56, 57, 58, 59, 60, 61, 62, 63] (by decide +kernel) (by decide +kernel)
set_option maxRecDepth 20000 in
theorem gX5_share_X5_claimOf : GoodIn wsX5_share (wsV RX5 229 RX5 yX5_claimOf wsX5_claimOf) := goodIn_app (goodIn_of _ (by decide +kernel)) ggX5_share_X5_claimOf
theorem dX5_share_0 : decode cX5_share 0 = .ok (.aload_n 0, 1) := by decide +kernel
theorem dX5_share_1 : decode cX5_share 1 = .ok (.iload_n 1, 1) := by decide +kernel
theorem dX5_share_2 : decode cX5_share 2 = .ok (.iconst 4, 1) := by decide +kernel
theorem dX5_share_3 : decode cX5_share 3 = .ok (.invokevirtual 90, 3) := by decide +kernel
theorem dX5_share_6 : decode cX5_share 6 = .ok (.aload_n 0, 1) := by decide +kernel
theorem dX5_share_7 : decode cX5_share 7 = .ok (.iload_n 2, 1) := by decide +kernel
theorem dX5_share_8 : decode cX5_share 8 = .ok (.iconst 0, 1) := by decide +kernel
theorem dX5_share_9 : decode cX5_share 9 = .ok (.sipush 9999, 3) := by decide +kernel
theorem dX5_share_12 : decode cX5_share 12 = .ok (.invokevirtual 69, 3) := by decide +kernel
theorem dX5_share_15 : decode cX5_share 15 = .ok (.iconst 0, 1) := by decide +kernel
theorem dX5_share_16 : decode cX5_share 16 = .ok (.istore_n 3, 1) := by decide +kernel
theorem dX5_share_17 : decode cX5_share 17 = .ok (.iconst 0, 1) := by decide +kernel
theorem dX5_share_18 : decode cX5_share 18 = .ok (.istore 4, 2) := by decide +kernel
theorem dX5_share_20 : decode cX5_share 20 = .ok (.iconst 0, 1) := by decide +kernel
theorem dX5_share_21 : decode cX5_share 21 = .ok (.istore 5, 2) := by decide +kernel
theorem dX5_share_23 : decode cX5_share 23 = .ok (.iload 5, 2) := by decide +kernel
theorem dX5_share_25 : decode cX5_share 25 = .ok (.iconst 4, 1) := by decide +kernel
theorem dX5_share_26 : decode cX5_share 26 = .ok (.if_icmp .ge 29, 3) := by decide +kernel
theorem dX5_share_29 : decode cX5_share 29 = .ok (.iload_n 3, 1) := by decide +kernel
theorem dX5_share_30 : decode cX5_share 30 = .ok (.aload_n 0, 1) := by decide +kernel
theorem dX5_share_31 : decode cX5_share 31 = .ok (.iload 5, 2) := by decide +kernel
theorem dX5_share_33 : decode cX5_share 33 = .ok (.invokevirtual 226, 3) := by decide +kernel
theorem dX5_share_36 : decode cX5_share 36 = .ok (.iadd, 1) := by decide +kernel
theorem dX5_share_37 : decode cX5_share 37 = .ok (.istore_n 3, 1) := by decide +kernel
theorem dX5_share_38 : decode cX5_share 38 = .ok (.iload 4, 2) := by decide +kernel
theorem dX5_share_40 : decode cX5_share 40 = .ok (.aload_n 0, 1) := by decide +kernel
theorem dX5_share_41 : decode cX5_share 41 = .ok (.iload 5, 2) := by decide +kernel
theorem dX5_share_43 : decode cX5_share 43 = .ok (.invokevirtual 229, 3) := by decide +kernel
theorem dX5_share_46 : decode cX5_share 46 = .ok (.iadd, 1) := by decide +kernel
theorem dX5_share_47 : decode cX5_share 47 = .ok (.istore 4, 2) := by decide +kernel
theorem dX5_share_49 : decode cX5_share 49 = .ok (.iinc 5 1, 3) := by decide +kernel
theorem dX5_share_52 : decode cX5_share 52 = .ok (.goto (-29), 3) := by decide +kernel
theorem dX5_share_55 : decode cX5_share 55 = .ok (.aload_n 0, 1) := by decide +kernel
theorem dX5_share_56 : decode cX5_share 56 = .ok (.iload_n 1, 1) := by decide +kernel
theorem dX5_share_57 : decode cX5_share 57 = .ok (.invokevirtual 226, 3) := by decide +kernel
theorem dX5_share_60 : decode cX5_share 60 = .ok (.istore 5, 2) := by decide +kernel
theorem dX5_share_62 : decode cX5_share 62 = .ok (.iload_n 3, 1) := by decide +kernel
theorem dX5_share_63 : decode cX5_share 63 = .ok (.iload_n 2, 1) := by decide +kernel
theorem dX5_share_64 : decode cX5_share 64 = .ok (.if_icmp .le 8, 3) := by decide +kernel
theorem dX5_share_67 : decode cX5_share 67 = .ok (.iload 4, 2) := by decide +kernel
theorem dX5_share_69 : decode cX5_share 69 = .ok (.ifCond .gt 6, 3) := by decide +kernel
theorem dX5_share_72 : decode cX5_share 72 = .ok (.iload 5, 2) := by decide +kernel
theorem dX5_share_74 : decode cX5_share 74 = .ok (.ireturn, 1) := by decide +kernel
theorem dX5_share_75 : decode cX5_share 75 = .ok (.iload 5, 2) := by decide +kernel
theorem dX5_share_77 : decode cX5_share 77 = .ok (.iload_n 2, 1) := by decide +kernel
theorem dX5_share_78 : decode cX5_share 78 = .ok (.aload_n 0, 1) := by decide +kernel
theorem dX5_share_79 : decode cX5_share 79 = .ok (.iload_n 1, 1) := by decide +kernel
theorem dX5_share_80 : decode cX5_share 80 = .ok (.invokevirtual 229, 3) := by decide +kernel
theorem dX5_share_83 : decode cX5_share 83 = .ok (.imul, 1) := by decide +kernel
theorem dX5_share_84 : decode cX5_share 84 = .ok (.iload 4, 2) := by decide +kernel
theorem dX5_share_86 : decode cX5_share 86 = .ok (.idiv, 1) := by decide +kernel
theorem dX5_share_87 : decode cX5_share 87 = .ok (.invokestatic 232, 3) := by decide +kernel
theorem dX5_share_90 : decode cX5_share 90 = .ok (.ireturn, 1) := by decide +kernel
theorem dX5_checkIndex_0 : decode cX5_checkIndex 0 = .ok (.iload_n 1, 1) := by decide +kernel
theorem dX5_checkIndex_1 : decode cX5_checkIndex 1 = .ok (.ifCond .lt 8, 3) := by decide +kernel
theorem dX5_checkIndex_4 : decode cX5_checkIndex 4 = .ok (.iload_n 1, 1) := by decide +kernel
theorem dX5_checkIndex_5 : decode cX5_checkIndex 5 = .ok (.iload_n 2, 1) := by decide +kernel
theorem dX5_checkIndex_6 : decode cX5_checkIndex 6 = .ok (.if_icmp .lt 13, 3) := by decide +kernel
theorem dX5_checkIndex_9 : decode cX5_checkIndex 9 = .ok (.new 144, 3) := by decide +kernel
theorem dX5_checkIndex_12 : decode cX5_checkIndex 12 = .ok (.dup, 1) := by decide +kernel
theorem dX5_checkIndex_13 : decode cX5_checkIndex 13 = .ok (.ldc 237, 2) := by decide +kernel
theorem dX5_checkIndex_15 : decode cX5_checkIndex 15 = .ok (.invokespecial 148, 3) := by decide +kernel
theorem dX5_checkIndex_18 : decode cX5_checkIndex 18 = .ok (.athrow, 1) := by decide +kernel
theorem dX5_checkIndex_19 : decode cX5_checkIndex 19 = .ok (.return_, 1) := by decide +kernel
theorem dX5_checkRange_0 : decode cX5_checkRange 0 = .ok (.iload_n 1, 1) := by decide +kernel
theorem dX5_checkRange_1 : decode cX5_checkRange 1 = .ok (.iload_n 2, 1) := by decide +kernel
theorem dX5_checkRange_2 : decode cX5_checkRange 2 = .ok (.if_icmp .lt 8, 3) := by decide +kernel
theorem dX5_checkRange_5 : decode cX5_checkRange 5 = .ok (.iload_n 1, 1) := by decide +kernel
theorem dX5_checkRange_6 : decode cX5_checkRange 6 = .ok (.iload_n 3, 1) := by decide +kernel
theorem dX5_checkRange_7 : decode cX5_checkRange 7 = .ok (.if_icmp .le 13, 3) := by decide +kernel
theorem dX5_checkRange_10 : decode cX5_checkRange 10 = .ok (.new 94, 3) := by decide +kernel
theorem dX5_checkRange_13 : decode cX5_checkRange 13 = .ok (.dup, 1) := by decide +kernel
theorem dX5_checkRange_14 : decode cX5_checkRange 14 = .ok (.ldc 239, 2) := by decide +kernel
theorem dX5_checkRange_16 : decode cX5_checkRange 16 = .ok (.invokespecial 98, 3) := by decide +kernel
theorem dX5_checkRange_19 : decode cX5_checkRange 19 = .ok (.athrow, 1) := by decide +kernel
theorem dX5_checkRange_20 : decode cX5_checkRange 20 = .ok (.return_, 1) := by decide +kernel
set_option maxRecDepth 20000 in
theorem ggX5_checkOnTheWay_X5_checkIndex : GoodIn wsX5_checkOnTheWay wsX5_checkIndex := goodIn_ca (goodIn_r _ [6, 7, 8] (by decide +kernel) (by decide +kernel)) (goodIn_sub (fun _ h => List.mem_cons_of_mem _ (List.mem_append_right _ h)) (by decide +kernel))
set_option maxRecDepth 20000 in
theorem gX5_checkOnTheWay_X5_checkIndex : GoodIn wsX5_checkOnTheWay (wsV RX5 90 RX5 yX5_checkIndex wsX5_checkIndex) := goodIn_app (goodIn_of _ (by decide +kernel)) ggX5_checkOnTheWay_X5_checkIndex
theorem dX5_checkOnTheWay_0 : decode cX5_checkOnTheWay 0 = .ok (.iload_n 1, 1) := by decide +kernel
theorem dX5_checkOnTheWay_1 : decode cX5_checkOnTheWay 1 = .ok (.iconst (-1), 1) := by decide +kernel
theorem dX5_checkOnTheWay_2 : decode cX5_checkOnTheWay 2 = .ok (.if_icmp .eq 14, 3) := by decide +kernel
theorem dX5_checkOnTheWay_5 : decode cX5_checkOnTheWay 5 = .ok (.aload_n 0, 1) := by decide +kernel
theorem dX5_checkOnTheWay_6 : decode cX5_checkOnTheWay 6 = .ok (.iload_n 1, 1) := by decide +kernel
theorem dX5_checkOnTheWay_7 : decode cX5_checkOnTheWay 7 = .ok (.aload_n 0, 1) := by decide +kernel
theorem dX5_checkOnTheWay_8 : decode cX5_checkOnTheWay 8 = .ok (.getfield 77, 3) := by decide +kernel
theorem dX5_checkOnTheWay_11 : decode cX5_checkOnTheWay 11 = .ok (.iconst 1, 1) := by decide +kernel
theorem dX5_checkOnTheWay_12 : decode cX5_checkOnTheWay 12 = .ok (.isub, 1) := by decide +kernel
theorem dX5_checkOnTheWay_13 : decode cX5_checkOnTheWay 13 = .ok (.invokevirtual 90, 3) := by decide +kernel
theorem dX5_checkOnTheWay_16 : decode cX5_checkOnTheWay 16 = .ok (.return_, 1) := by decide +kernel
theorem dX5_checkUnit_0 : decode cX5_checkUnit 0 = .ok (.iload_n 1, 1) := by decide +kernel
theorem dX5_checkUnit_1 : decode cX5_checkUnit 1 = .ok (.ifCond .ge 13, 3) := by decide +kernel
theorem dX5_checkUnit_4 : decode cX5_checkUnit 4 = .ok (.new 144, 3) := by decide +kernel
theorem dX5_checkUnit_7 : decode cX5_checkUnit 7 = .ok (.dup, 1) := by decide +kernel
theorem dX5_checkUnit_8 : decode cX5_checkUnit 8 = .ok (.ldc 241, 2) := by decide +kernel
theorem dX5_checkUnit_10 : decode cX5_checkUnit 10 = .ok (.invokespecial 148, 3) := by decide +kernel
theorem dX5_checkUnit_13 : decode cX5_checkUnit 13 = .ok (.athrow, 1) := by decide +kernel
theorem dX5_checkUnit_14 : decode cX5_checkUnit 14 = .ok (.return_, 1) := by decide +kernel
theorem dX5_unitOf_0 : decode cX5_unitOf 0 = .ok (.aload_n 1, 1) := by decide +kernel
theorem dX5_unitOf_1 : decode cX5_unitOf 1 = .ok (.getfield 188, 3) := by decide +kernel
theorem dX5_unitOf_4 : decode cX5_unitOf 4 = .ok (.sipush 512, 3) := by decide +kernel
theorem dX5_unitOf_7 : decode cX5_unitOf 7 = .ok (.imul, 1) := by decide +kernel
theorem dX5_unitOf_8 : decode cX5_unitOf 8 = .ok (.iload_n 2, 1) := by decide +kernel
theorem dX5_unitOf_9 : decode cX5_unitOf 9 = .ok (.iadd, 1) := by decide +kernel
theorem dX5_unitOf_10 : decode cX5_unitOf 10 = .ok (.ireturn, 1) := by decide +kernel
theorem dX5_placeOf_0 : decode cX5_placeOf 0 = .ok (.iload_n 1, 1) := by decide +kernel
theorem dX5_placeOf_1 : decode cX5_placeOf 1 = .ok (.sipush 512, 3) := by decide +kernel
theorem dX5_placeOf_4 : decode cX5_placeOf 4 = .ok (.irem, 1) := by decide +kernel
theorem dX5_placeOf_5 : decode cX5_placeOf 5 = .ok (.ireturn, 1) := by decide +kernel
theorem dX5_batchOf_0 : decode cX5_batchOf 0 = .ok (.iload_n 1, 1) := by decide +kernel
theorem dX5_batchOf_1 : decode cX5_batchOf 1 = .ok (.sipush 512, 3) := by decide +kernel
theorem dX5_batchOf_4 : decode cX5_batchOf 4 = .ok (.idiv, 1) := by decide +kernel
theorem dX5_batchOf_5 : decode cX5_batchOf 5 = .ok (.istore_n 2, 1) := by decide +kernel
theorem dX5_batchOf_6 : decode cX5_batchOf 6 = .ok (.iload_n 2, 1) := by decide +kernel
theorem dX5_batchOf_7 : decode cX5_batchOf 7 = .ok (.ifCond .lt 20, 3) := by decide +kernel
theorem dX5_batchOf_10 : decode cX5_batchOf 10 = .ok (.iload_n 2, 1) := by decide +kernel
theorem dX5_batchOf_11 : decode cX5_batchOf 11 = .ok (.aload_n 0, 1) := by decide +kernel
theorem dX5_batchOf_12 : decode cX5_batchOf 12 = .ok (.getfield 50, 3) := by decide +kernel
theorem dX5_batchOf_15 : decode cX5_batchOf 15 = .ok (.if_icmp .ge 12, 3) := by decide +kernel
theorem dX5_batchOf_18 : decode cX5_batchOf 18 = .ok (.aload_n 0, 1) := by decide +kernel
theorem dX5_batchOf_19 : decode cX5_batchOf 19 = .ok (.getfield 23, 3) := by decide +kernel
theorem dX5_batchOf_22 : decode cX5_batchOf 22 = .ok (.iload_n 2, 1) := by decide +kernel
theorem dX5_batchOf_23 : decode cX5_batchOf 23 = .ok (.aaload, 1) := by decide +kernel
theorem dX5_batchOf_24 : decode cX5_batchOf 24 = .ok (.goto 9, 3) := by decide +kernel
theorem dX5_batchOf_27 : decode cX5_batchOf 27 = .ok (.aload_n 0, 1) := by decide +kernel
theorem dX5_batchOf_28 : decode cX5_batchOf 28 = .ok (.getfield 23, 3) := by decide +kernel
theorem dX5_batchOf_31 : decode cX5_batchOf 31 = .ok (.iconst 0, 1) := by decide +kernel
theorem dX5_batchOf_32 : decode cX5_batchOf 32 = .ok (.aaload, 1) := by decide +kernel
theorem dX5_batchOf_33 : decode cX5_batchOf 33 = .ok (.areturn, 1) := by decide +kernel
set_option maxRecDepth 20000 in
theorem ggX5_fillSegments_X2_fill : GoodIn wsX5_fillSegments wsX2_fill := goodIn_r _ [6, 7, 8, 9, 27, 28, 29, 30, 31, 32, 33] (by decide +kernel) (by decide +kernel)
set_option maxRecDepth 20000 in
theorem gX5_fillSegments_X2_fill_n243 : GoodIn wsX5_fillSegments (wsX2_fill) := ggX5_fillSegments_X2_fill
theorem dX5_fillSegments_0 : decode cX5_fillSegments 0 = .ok (.iconst 0, 1) := by decide +kernel
theorem dX5_fillSegments_1 : decode cX5_fillSegments 1 = .ok (.istore_n 2, 1) := by decide +kernel
theorem dX5_fillSegments_2 : decode cX5_fillSegments 2 = .ok (.aload_n 0, 1) := by decide +kernel
theorem dX5_fillSegments_3 : decode cX5_fillSegments 3 = .ok (.getfield 77, 3) := by decide +kernel
theorem dX5_fillSegments_6 : decode cX5_fillSegments 6 = .ok (.iconst 1, 1) := by decide +kernel
theorem dX5_fillSegments_7 : decode cX5_fillSegments 7 = .ok (.isub, 1) := by decide +kernel
theorem dX5_fillSegments_8 : decode cX5_fillSegments 8 = .ok (.istore_n 3, 1) := by decide +kernel
theorem dX5_fillSegments_9 : decode cX5_fillSegments 9 = .ok (.iload_n 3, 1) := by decide +kernel
theorem dX5_fillSegments_10 : decode cX5_fillSegments 10 = .ok (.ifCond .lt 32, 3) := by decide +kernel
theorem dX5_fillSegments_13 : decode cX5_fillSegments 13 = .ok (.aload_n 0, 1) := by decide +kernel
theorem dX5_fillSegments_14 : decode cX5_fillSegments 14 = .ok (.getfield 11, 3) := by decide +kernel
theorem dX5_fillSegments_17 : decode cX5_fillSegments 17 = .ok (.iload_n 3, 1) := by decide +kernel
theorem dX5_fillSegments_18 : decode cX5_fillSegments 18 = .ok (.aaload, 1) := by decide +kernel
theorem dX5_fillSegments_19 : decode cX5_fillSegments 19 = .ok (.iload_n 2, 1) := by decide +kernel
theorem dX5_fillSegments_20 : decode cX5_fillSegments 20 = .ok (.iload_n 1, 1) := by decide +kernel
theorem dX5_fillSegments_21 : decode cX5_fillSegments 21 = .ok (.invokevirtual 243, 3) := by decide +kernel
theorem dX5_fillSegments_24 : decode cX5_fillSegments 24 = .ok (.iload_n 2, 1) := by decide +kernel
theorem dX5_fillSegments_25 : decode cX5_fillSegments 25 = .ok (.aload_n 0, 1) := by decide +kernel
theorem dX5_fillSegments_26 : decode cX5_fillSegments 26 = .ok (.getfield 11, 3) := by decide +kernel
theorem dX5_fillSegments_29 : decode cX5_fillSegments 29 = .ok (.iload_n 3, 1) := by decide +kernel
theorem dX5_fillSegments_30 : decode cX5_fillSegments 30 = .ok (.aaload, 1) := by decide +kernel
theorem dX5_fillSegments_31 : decode cX5_fillSegments 31 = .ok (.getfield 178, 3) := by decide +kernel
theorem dX5_fillSegments_34 : decode cX5_fillSegments 34 = .ok (.iadd, 1) := by decide +kernel
theorem dX5_fillSegments_35 : decode cX5_fillSegments 35 = .ok (.istore_n 2, 1) := by decide +kernel
theorem dX5_fillSegments_36 : decode cX5_fillSegments 36 = .ok (.iinc 3 (-1), 3) := by decide +kernel
theorem dX5_fillSegments_39 : decode cX5_fillSegments 39 = .ok (.goto (-30), 3) := by decide +kernel
theorem dX5_fillSegments_42 : decode cX5_fillSegments 42 = .ok (.iload_n 2, 1) := by decide +kernel
theorem dX5_fillSegments_43 : decode cX5_fillSegments 43 = .ok (.ireturn, 1) := by decide +kernel
set_option maxRecDepth 20000 in
theorem ggX5_passOne_X5_findRate : GoodIn wsX5_passOne wsX5_findRate := goodIn_r _ [11, 12, 13, 14, 15, 10, 16, 17, 18, 19, 20, 21, 22, 23, 24, 25, 26, 27, 28, 29, 30, 31, 32, 33, 34, 35, 36, 37, 38, 39, 40, 41, 42, 43, 44, 45, 46, 47, 48, 135, 136, 137, 138, 139, 140, 141, 142, 143, 144, 145, 146, 147, 148, 149, 150, 151, 156, 157, 158, 159, 160, 161, 162, 163, 164, 165, 166, 167, 168, 169, 170, 171, 172, 173, 174, 175, 176, 177, 178, 179, 180] (by decide +kernel) (by decide +kernel)
set_option maxRecDepth 20000 in
theorem gX5_passOne_X5_findRate : GoodIn wsX5_passOne (wsV RX5 249 RX5 yX5_findRate wsX5_findRate) := goodIn_app (goodIn_of _ (by decide +kernel)) ggX5_passOne_X5_findRate
set_option maxRecDepth 20000 in
theorem ggX5_passOne_X5_moveOne : GoodIn wsX5_passOne wsX5_moveOne := goodIn_r _ [52, 53, 54, 55, 10, 56, 57, 34, 35, 58, 59, 60, 61, 62, 63, 64, 65, 66, 67, 68, 69, 70, 71, 72, 73, 1, 2, 3, 74, 75, 76, 77, 78, 79, 80, 81, 82, 83, 84, 18, 85, 86, 23, 24, 25, 26, 27, 28, 29, 30, 31, 32, 33, 87, 88, 89, 90, 91, 92, 93, 94, 45, 46, 47, 48, 95, 96, 97, 98, 99, 100, 101, 102, 103, 104, 105, 106, 107, 108, 109, 110, 111, 112, 113, 114, 115, 116, 117, 118, 119, 120, 121, 122, 123, 124, 125, 126, 127, 152, 153, 154, 155, 135, 136, 137, 138, 139, 140, 141, 142, 143, 144, 145, 146, 147, 148, 149, 150, 151, 163, 164, 165, 166, 167, 168, 169, 170, 171, 172, 173, 174, 175, 176, 177, 178, 179, 180, 156, 157, 158, 159, 160, 161, 162, 181, 182, 183, 184] (by decide +kernel) (by decide +kernel)
set_option maxRecDepth 20000 in
theorem gX5_passOne_X5_moveOne : GoodIn wsX5_passOne (wsV RX5 252 RX5 yX5_moveOne wsX5_moveOne) := goodIn_app (goodIn_of _ (by decide +kernel)) ggX5_passOne_X5_moveOne
set_option maxRecDepth 20000 in
theorem ggX5_passOne_X5_soil : GoodIn wsX5_passOne wsX5_soil := goodIn_r _ [131, 17, 18, 132, 133, 47, 134, 135, 136, 137, 138, 139, 140, 141, 142, 143, 144, 145, 146, 147, 148, 149, 150, 151, 156, 157, 158, 159, 160, 161, 162] (by decide +kernel) (by decide +kernel)
set_option maxRecDepth 20000 in
theorem gX5_passOne_X5_soil : GoodIn wsX5_passOne (wsV RX5 256 RX5 yX5_soil wsX5_soil) := goodIn_app (goodIn_of _ (by decide +kernel)) ggX5_passOne_X5_soil
theorem dX5_passOne_0 : decode cX5_passOne 0 = .ok (.aload_n 0, 1) := by decide +kernel
theorem dX5_passOne_1 : decode cX5_passOne 1 = .ok (.getfield 40, 3) := by decide +kernel
theorem dX5_passOne_4 : decode cX5_passOne 4 = .ok (.iconst 0, 1) := by decide +kernel
theorem dX5_passOne_5 : decode cX5_passOne 5 = .ok (.putfield 246, 3) := by decide +kernel
theorem dX5_passOne_8 : decode cX5_passOne 8 = .ok (.aload_n 0, 1) := by decide +kernel
theorem dX5_passOne_9 : decode cX5_passOne 9 = .ok (.getfield 44, 3) := by decide +kernel
theorem dX5_passOne_12 : decode cX5_passOne 12 = .ok (.iconst 0, 1) := by decide +kernel
theorem dX5_passOne_13 : decode cX5_passOne 13 = .ok (.putfield 246, 3) := by decide +kernel
theorem dX5_passOne_16 : decode cX5_passOne 16 = .ok (.aload_n 0, 1) := by decide +kernel
theorem dX5_passOne_17 : decode cX5_passOne 17 = .ok (.getfield 47, 3) := by decide +kernel
theorem dX5_passOne_20 : decode cX5_passOne 20 = .ok (.iconst 0, 1) := by decide +kernel
theorem dX5_passOne_21 : decode cX5_passOne 21 = .ok (.putfield 246, 3) := by decide +kernel
theorem dX5_passOne_24 : decode cX5_passOne 24 = .ok (.aload_n 0, 1) := by decide +kernel
theorem dX5_passOne_25 : decode cX5_passOne 25 = .ok (.aload_n 0, 1) := by decide +kernel
theorem dX5_passOne_26 : decode cX5_passOne 26 = .ok (.invokevirtual 249, 3) := by decide +kernel
theorem dX5_passOne_29 : decode cX5_passOne 29 = .ok (.putfield 214, 3) := by decide +kernel
theorem dX5_passOne_32 : decode cX5_passOne 32 = .ok (.iconst 0, 1) := by decide +kernel
theorem dX5_passOne_33 : decode cX5_passOne 33 = .ok (.istore_n 1, 1) := by decide +kernel
theorem dX5_passOne_34 : decode cX5_passOne 34 = .ok (.iload_n 1, 1) := by decide +kernel
theorem dX5_passOne_35 : decode cX5_passOne 35 = .ok (.aload_n 0, 1) := by decide +kernel
theorem dX5_passOne_36 : decode cX5_passOne 36 = .ok (.getfield 214, 3) := by decide +kernel
theorem dX5_passOne_39 : decode cX5_passOne 39 = .ok (.if_icmp .ge 16, 3) := by decide +kernel
theorem dX5_passOne_42 : decode cX5_passOne 42 = .ok (.aload_n 0, 1) := by decide +kernel
theorem dX5_passOne_43 : decode cX5_passOne 43 = .ok (.invokevirtual 252, 3) := by decide +kernel
theorem dX5_passOne_46 : decode cX5_passOne 46 = .ok (.ifCond .eq 9, 3) := by decide +kernel
theorem dX5_passOne_49 : decode cX5_passOne 49 = .ok (.iinc 1 1, 3) := by decide +kernel
theorem dX5_passOne_52 : decode cX5_passOne 52 = .ok (.goto (-18), 3) := by decide +kernel
theorem dX5_passOne_55 : decode cX5_passOne 55 = .ok (.iload_n 1, 1) := by decide +kernel
theorem dX5_passOne_56 : decode cX5_passOne 56 = .ok (.ifCond .le 7, 3) := by decide +kernel
theorem dX5_passOne_59 : decode cX5_passOne 59 = .ok (.aload_n 0, 1) := by decide +kernel
theorem dX5_passOne_60 : decode cX5_passOne 60 = .ok (.invokevirtual 256, 3) := by decide +kernel
theorem dX5_passOne_63 : decode cX5_passOne 63 = .ok (.aload_n 0, 1) := by decide +kernel
theorem dX5_passOne_64 : decode cX5_passOne 64 = .ok (.getfield 33, 3) := by decide +kernel
theorem dX5_passOne_67 : decode cX5_passOne 67 = .ok (.aload_n 0, 1) := by decide +kernel
theorem dX5_passOne_68 : decode cX5_passOne 68 = .ok (.getfield 136, 3) := by decide +kernel
theorem dX5_passOne_71 : decode cX5_passOne 71 = .ok (.iconst 5, 1) := by decide +kernel
theorem dX5_passOne_72 : decode cX5_passOne 72 = .ok (.irem, 1) := by decide +kernel
theorem dX5_passOne_73 : decode cX5_passOne 73 = .ok (.iload_n 1, 1) := by decide +kernel
theorem dX5_passOne_74 : decode cX5_passOne 74 = .ok (.aload_n 0, 1) := by decide +kernel
theorem dX5_passOne_75 : decode cX5_passOne 75 = .ok (.getfield 47, 3) := by decide +kernel
theorem dX5_passOne_78 : decode cX5_passOne 78 = .ok (.getfield 246, 3) := by decide +kernel
theorem dX5_passOne_81 : decode cX5_passOne 81 = .ok (.isub, 1) := by decide +kernel
theorem dX5_passOne_82 : decode cX5_passOne 82 = .ok (.aload_n 0, 1) := by decide +kernel
theorem dX5_passOne_83 : decode cX5_passOne 83 = .ok (.getfield 44, 3) := by decide +kernel
theorem dX5_passOne_86 : decode cX5_passOne 86 = .ok (.getfield 246, 3) := by decide +kernel
theorem dX5_passOne_89 : decode cX5_passOne 89 = .ok (.isub, 1) := by decide +kernel
theorem dX5_passOne_90 : decode cX5_passOne 90 = .ok (.iastore, 1) := by decide +kernel
theorem dX5_passOne_91 : decode cX5_passOne 91 = .ok (.aload_n 0, 1) := by decide +kernel
theorem dX5_passOne_92 : decode cX5_passOne 92 = .ok (.dup, 1) := by decide +kernel
theorem dX5_passOne_93 : decode cX5_passOne 93 = .ok (.getfield 136, 3) := by decide +kernel
theorem dX5_passOne_96 : decode cX5_passOne 96 = .ok (.iconst 1, 1) := by decide +kernel
theorem dX5_passOne_97 : decode cX5_passOne 97 = .ok (.iadd, 1) := by decide +kernel
theorem dX5_passOne_98 : decode cX5_passOne 98 = .ok (.putfield 136, 3) := by decide +kernel
theorem dX5_passOne_101 : decode cX5_passOne 101 = .ok (.iload_n 1, 1) := by decide +kernel
theorem dX5_passOne_102 : decode cX5_passOne 102 = .ok (.ireturn, 1) := by decide +kernel
set_option maxRecDepth 20000 in
theorem ggX5_findRate_X5_noneAbove : GoodIn wsX5_findRate wsX5_noneAbove := goodIn_r _ [6, 7, 8, 9, 10, 11, 5, 12, 13, 14, 15, 16, 17, 18, 19, 20, 21, 22, 23, 24, 25, 26, 27, 28, 29, 30, 31, 32, 33, 34, 35, 36, 37, 38, 39, 40, 41, 42, 43, 44, 45, 46, 47, 48, 49, 50, 51, 52, 53, 54, 55, 56, 57, 58, 59, 60, 61, 62, 63, 64, 65, 66, 67, 68, 69, 70, 71, 72, 73, 74, 75, 76, 77, 78, 79, 80] (by decide +kernel) (by decide +kernel)
set_option maxRecDepth 20000 in
theorem gX5_findRate_X5_noneAbove : GoodIn wsX5_findRate (wsV RX5 259 RX5 yX5_noneAbove wsX5_noneAbove) := goodIn_app (goodIn_of _ (by decide +kernel)) ggX5_findRate_X5_noneAbove
theorem dX5_findRate_0 : decode cX5_findRate 0 = .ok (.aload_n 0, 1) := by decide +kernel
theorem dX5_findRate_1 : decode cX5_findRate 1 = .ok (.getfield 120, 3) := by decide +kernel
theorem dX5_findRate_4 : decode cX5_findRate 4 = .ok (.istore_n 1, 1) := by decide +kernel
theorem dX5_findRate_5 : decode cX5_findRate 5 = .ok (.iload_n 1, 1) := by decide +kernel
theorem dX5_findRate_6 : decode cX5_findRate 6 = .ok (.ifCond .le 19, 3) := by decide +kernel
theorem dX5_findRate_9 : decode cX5_findRate 9 = .ok (.aload_n 0, 1) := by decide +kernel
theorem dX5_findRate_10 : decode cX5_findRate 10 = .ok (.iload_n 1, 1) := by decide +kernel
theorem dX5_findRate_11 : decode cX5_findRate 11 = .ok (.invokevirtual 259, 3) := by decide +kernel
theorem dX5_findRate_14 : decode cX5_findRate 14 = .ok (.ifCond .eq 5, 3) := by decide +kernel
theorem dX5_findRate_17 : decode cX5_findRate 17 = .ok (.iload_n 1, 1) := by decide +kernel
theorem dX5_findRate_18 : decode cX5_findRate 18 = .ok (.ireturn, 1) := by decide +kernel
theorem dX5_findRate_19 : decode cX5_findRate 19 = .ok (.iinc 1 (-1), 3) := by decide +kernel
theorem dX5_findRate_22 : decode cX5_findRate 22 = .ok (.goto (-17), 3) := by decide +kernel
theorem dX5_findRate_25 : decode cX5_findRate 25 = .ok (.iconst 0, 1) := by decide +kernel
theorem dX5_findRate_26 : decode cX5_findRate 26 = .ok (.ireturn, 1) := by decide +kernel
set_option maxRecDepth 20000 in
theorem ggX5_noneAbove_X5_headAt : GoodIn wsX5_noneAbove wsX5_headAt := goodIn_r _ [7, 1, 2, 8, 9, 10, 11, 12, 13, 14, 15, 16, 17, 6, 18, 19, 20, 34, 35, 36, 37, 38, 39, 40, 41, 42, 43, 44, 45, 46, 47, 48, 49, 50, 58, 59, 60, 61, 62, 63, 64, 65, 66, 67, 68, 69, 70, 71, 72, 73, 74, 75, 51, 52, 53, 54, 55, 56, 57] (by decide +kernel) (by decide +kernel)
set_option maxRecDepth 20000 in
theorem gX5_noneAbove_X5_headAt : GoodIn wsX5_noneAbove (wsV RX5 194 RX5 yX5_headAt wsX5_headAt) := goodIn_app (goodIn_of _ (by decide +kernel)) ggX5_noneAbove_X5_headAt
set_option maxRecDepth 20000 in
theorem ggX5_noneAbove_X5_friction : GoodIn wsX5_noneAbove wsX5_friction := goodIn_r _ [24, 25, 51, 52, 53, 54, 55, 56, 57, 34, 35, 36, 37, 38, 39, 40, 41, 42, 43, 44, 45, 46, 47, 48, 49, 50, 71, 72, 73, 74, 75] (by decide +kernel) (by decide +kernel)
set_option maxRecDepth 20000 in
theorem gX5_noneAbove_X5_friction : GoodIn wsX5_noneAbove (wsV RX5 197 RX5 yX5_friction wsX5_friction) := goodIn_app (goodIn_of _ (by decide +kernel)) ggX5_noneAbove_X5_friction
set_option maxRecDepth 20000 in
theorem ggX5_noneAbove_X5_atBeginning : GoodIn wsX5_noneAbove wsX5_atBeginning := goodIn_r _ [29, 30, 31, 32, 33, 3, 4, 5, 6, 7, 1, 2, 8, 9, 10, 11, 12, 13, 14, 15, 16, 17, 18, 19, 20, 34, 35, 36, 37, 38, 39, 40, 41, 42, 43, 44, 45, 46, 47, 48, 49, 50, 58, 59, 60, 61, 62, 63, 64, 65, 66, 67, 68, 69, 70, 71, 72, 73, 74, 75, 51, 52, 53, 54, 55, 56, 57] (by decide +kernel) (by decide +kernel)
set_option maxRecDepth 20000 in
theorem gX5_noneAbove_X5_atBeginning : GoodIn wsX5_noneAbove (wsV RX5 201 RX5 yX5_atBeginning wsX5_atBeginning) := goodIn_app (goodIn_of _ (by decide +kernel)) ggX5_noneAbove_X5_atBeginning
theorem dX5_noneAbove_0 : decode cX5_noneAbove 0 = .ok (.aload_n 0, 1) := by decide +kernel
theorem dX5_noneAbove_1 : decode cX5_noneAbove 1 = .ok (.aload_n 0, 1) := by decide +kernel
theorem dX5_noneAbove_2 : decode cX5_noneAbove 2 = .ok (.getfield 77, 3) := by decide +kernel
theorem dX5_noneAbove_5 : decode cX5_noneAbove 5 = .ok (.iconst 1, 1) := by decide +kernel
theorem dX5_noneAbove_6 : decode cX5_noneAbove 6 = .ok (.isub, 1) := by decide +kernel
theorem dX5_noneAbove_7 : decode cX5_noneAbove 7 = .ok (.invokevirtual 194, 3) := by decide +kernel
theorem dX5_noneAbove_10 : decode cX5_noneAbove 10 = .ok (.istore_n 2, 1) := by decide +kernel
theorem dX5_noneAbove_11 : decode cX5_noneAbove 11 = .ok (.aload_n 0, 1) := by decide +kernel
theorem dX5_noneAbove_12 : decode cX5_noneAbove 12 = .ok (.getfield 77, 3) := by decide +kernel
theorem dX5_noneAbove_15 : decode cX5_noneAbove 15 = .ok (.iconst 1, 1) := by decide +kernel
theorem dX5_noneAbove_16 : decode cX5_noneAbove 16 = .ok (.isub, 1) := by decide +kernel
theorem dX5_noneAbove_17 : decode cX5_noneAbove 17 = .ok (.istore_n 3, 1) := by decide +kernel
theorem dX5_noneAbove_18 : decode cX5_noneAbove 18 = .ok (.iload_n 3, 1) := by decide +kernel
theorem dX5_noneAbove_19 : decode cX5_noneAbove 19 = .ok (.ifCond .lt 43, 3) := by decide +kernel
theorem dX5_noneAbove_22 : decode cX5_noneAbove 22 = .ok (.iload_n 2, 1) := by decide +kernel
theorem dX5_noneAbove_23 : decode cX5_noneAbove 23 = .ok (.aload_n 0, 1) := by decide +kernel
theorem dX5_noneAbove_24 : decode cX5_noneAbove 24 = .ok (.aload_n 0, 1) := by decide +kernel
theorem dX5_noneAbove_25 : decode cX5_noneAbove 25 = .ok (.getfield 11, 3) := by decide +kernel
theorem dX5_noneAbove_28 : decode cX5_noneAbove 28 = .ok (.iload_n 3, 1) := by decide +kernel
theorem dX5_noneAbove_29 : decode cX5_noneAbove 29 = .ok (.aaload, 1) := by decide +kernel
theorem dX5_noneAbove_30 : decode cX5_noneAbove 30 = .ok (.iload_n 1, 1) := by decide +kernel
theorem dX5_noneAbove_31 : decode cX5_noneAbove 31 = .ok (.invokevirtual 197, 3) := by decide +kernel
theorem dX5_noneAbove_34 : decode cX5_noneAbove 34 = .ok (.iadd, 1) := by decide +kernel
theorem dX5_noneAbove_35 : decode cX5_noneAbove 35 = .ok (.istore_n 2, 1) := by decide +kernel
theorem dX5_noneAbove_36 : decode cX5_noneAbove 36 = .ok (.aload_n 0, 1) := by decide +kernel
theorem dX5_noneAbove_37 : decode cX5_noneAbove 37 = .ok (.iload_n 3, 1) := by decide +kernel
theorem dX5_noneAbove_38 : decode cX5_noneAbove 38 = .ok (.iload_n 2, 1) := by decide +kernel
theorem dX5_noneAbove_39 : decode cX5_noneAbove 39 = .ok (.invokevirtual 201, 3) := by decide +kernel
theorem dX5_noneAbove_42 : decode cX5_noneAbove 42 = .ok (.aload_n 0, 1) := by decide +kernel
theorem dX5_noneAbove_43 : decode cX5_noneAbove 43 = .ok (.getfield 11, 3) := by decide +kernel
theorem dX5_noneAbove_46 : decode cX5_noneAbove 46 = .ok (.iload_n 3, 1) := by decide +kernel
theorem dX5_noneAbove_47 : decode cX5_noneAbove 47 = .ok (.aaload, 1) := by decide +kernel
theorem dX5_noneAbove_48 : decode cX5_noneAbove 48 = .ok (.getfield 263, 3) := by decide +kernel
theorem dX5_noneAbove_51 : decode cX5_noneAbove 51 = .ok (.if_icmp .le 5, 3) := by decide +kernel
theorem dX5_noneAbove_54 : decode cX5_noneAbove 54 = .ok (.iconst 0, 1) := by decide +kernel
theorem dX5_noneAbove_55 : decode cX5_noneAbove 55 = .ok (.ireturn, 1) := by decide +kernel
theorem dX5_noneAbove_56 : decode cX5_noneAbove 56 = .ok (.iinc 3 (-1), 3) := by decide +kernel
theorem dX5_noneAbove_59 : decode cX5_noneAbove 59 = .ok (.goto (-41), 3) := by decide +kernel
theorem dX5_noneAbove_62 : decode cX5_noneAbove 62 = .ok (.iconst 1, 1) := by decide +kernel
theorem dX5_noneAbove_63 : decode cX5_noneAbove 63 = .ok (.ireturn, 1) := by decide +kernel
set_option maxRecDepth 20000 in
theorem ggX5_atBeginning_X5_headAt : GoodIn wsX5_atBeginning wsX5_headAt := goodIn_r _ [9, 10, 11, 12, 13, 14, 15, 16, 17, 18, 19, 20, 21, 8, 22, 23, 24, 25, 26, 27, 28, 29, 30, 31, 32, 33, 34, 35, 36, 37, 38, 39, 40, 41, 42, 43, 44, 45, 46, 47, 48, 49, 50, 51, 52, 53, 54, 55, 56, 57, 58, 59, 60, 61, 62, 63, 64, 65, 66] (by decide +kernel) (by decide +kernel)
set_option maxRecDepth 20000 in
theorem gX5_atBeginning_X5_headAt : GoodIn wsX5_atBeginning (wsV RX5 194 RX5 yX5_headAt wsX5_headAt) := goodIn_app (goodIn_of _ (by decide +kernel)) ggX5_atBeginning_X5_headAt
theorem dX5_atBeginning_0 : decode cX5_atBeginning 0 = .ok (.iconst 0, 1) := by decide +kernel
theorem dX5_atBeginning_1 : decode cX5_atBeginning 1 = .ok (.iload_n 2, 1) := by decide +kernel
theorem dX5_atBeginning_2 : decode cX5_atBeginning 2 = .ok (.aload_n 0, 1) := by decide +kernel
theorem dX5_atBeginning_3 : decode cX5_atBeginning 3 = .ok (.iload_n 1, 1) := by decide +kernel
theorem dX5_atBeginning_4 : decode cX5_atBeginning 4 = .ok (.iconst 1, 1) := by decide +kernel
theorem dX5_atBeginning_5 : decode cX5_atBeginning 5 = .ok (.isub, 1) := by decide +kernel
theorem dX5_atBeginning_6 : decode cX5_atBeginning 6 = .ok (.invokevirtual 194, 3) := by decide +kernel
theorem dX5_atBeginning_9 : decode cX5_atBeginning 9 = .ok (.isub, 1) := by decide +kernel
theorem dX5_atBeginning_10 : decode cX5_atBeginning 10 = .ok (.invokestatic 266, 3) := by decide +kernel
theorem dX5_atBeginning_13 : decode cX5_atBeginning 13 = .ok (.ireturn, 1) := by decide +kernel
set_option maxRecDepth 20000 in
theorem ggX5_headAt_X2_fromEnd : GoodIn wsX5_headAt wsX2_fromEnd := goodIn_r _ [6, 7, 8, 9, 52, 53, 54, 55, 56, 57, 58] (by decide +kernel) (by decide +kernel)
set_option maxRecDepth 20000 in
theorem gX5_headAt_X2_fromEnd_n181 : GoodIn wsX5_headAt (wsX2_fromEnd) := ggX5_headAt_X2_fromEnd
set_option maxRecDepth 20000 in
theorem ggX5_headAt_X5_batchOf : GoodIn wsX5_headAt wsX5_batchOf := goodIn_r _ [14, 15, 16, 17, 18, 19, 20, 21, 22, 23, 24, 25, 26, 27, 28, 29, 30, 31, 32, 33] (by decide +kernel) (by decide +kernel)
set_option maxRecDepth 20000 in
theorem gX5_headAt_X5_batchOf : GoodIn wsX5_headAt (wsV RX5 184 RX5 yX5_batchOf wsX5_batchOf) := goodIn_app (goodIn_of _ (by decide +kernel)) ggX5_headAt_X5_batchOf
theorem dX5_headAt_0 : decode cX5_headAt 0 = .ok (.iload_n 1, 1) := by decide +kernel
theorem dX5_headAt_1 : decode cX5_headAt 1 = .ok (.ifCond .lt 11, 3) := by decide +kernel
theorem dX5_headAt_4 : decode cX5_headAt 4 = .ok (.iload_n 1, 1) := by decide +kernel
theorem dX5_headAt_5 : decode cX5_headAt 5 = .ok (.aload_n 0, 1) := by decide +kernel
theorem dX5_headAt_6 : decode cX5_headAt 6 = .ok (.getfield 77, 3) := by decide +kernel
theorem dX5_headAt_9 : decode cX5_headAt 9 = .ok (.if_icmp .lt 5, 3) := by decide +kernel
theorem dX5_headAt_12 : decode cX5_headAt 12 = .ok (.iconst 0, 1) := by decide +kernel
theorem dX5_headAt_13 : decode cX5_headAt 13 = .ok (.ireturn, 1) := by decide +kernel
theorem dX5_headAt_14 : decode cX5_headAt 14 = .ok (.aload_n 0, 1) := by decide +kernel
theorem dX5_headAt_15 : decode cX5_headAt 15 = .ok (.aload_n 0, 1) := by decide +kernel
theorem dX5_headAt_16 : decode cX5_headAt 16 = .ok (.getfield 11, 3) := by decide +kernel
theorem dX5_headAt_19 : decode cX5_headAt 19 = .ok (.iload_n 1, 1) := by decide +kernel
theorem dX5_headAt_20 : decode cX5_headAt 20 = .ok (.aaload, 1) := by decide +kernel
theorem dX5_headAt_21 : decode cX5_headAt 21 = .ok (.iconst 0, 1) := by decide +kernel
theorem dX5_headAt_22 : decode cX5_headAt 22 = .ok (.invokevirtual 181, 3) := by decide +kernel
theorem dX5_headAt_25 : decode cX5_headAt 25 = .ok (.invokevirtual 184, 3) := by decide +kernel
theorem dX5_headAt_28 : decode cX5_headAt 28 = .ok (.getfield 168, 3) := by decide +kernel
theorem dX5_headAt_31 : decode cX5_headAt 31 = .ok (.getfield 269, 3) := by decide +kernel
theorem dX5_headAt_34 : decode cX5_headAt 34 = .ok (.aload_n 0, 1) := by decide +kernel
theorem dX5_headAt_35 : decode cX5_headAt 35 = .ok (.getfield 11, 3) := by decide +kernel
theorem dX5_headAt_38 : decode cX5_headAt 38 = .ok (.iload_n 1, 1) := by decide +kernel
theorem dX5_headAt_39 : decode cX5_headAt 39 = .ok (.aaload, 1) := by decide +kernel
theorem dX5_headAt_40 : decode cX5_headAt 40 = .ok (.getfield 272, 3) := by decide +kernel
theorem dX5_headAt_43 : decode cX5_headAt 43 = .ok (.imul, 1) := by decide +kernel
theorem dX5_headAt_44 : decode cX5_headAt 44 = .ok (.ireturn, 1) := by decide +kernel
theorem dX5_friction_0 : decode cX5_friction 0 = .ok (.aload_n 1, 1) := by decide +kernel
theorem dX5_friction_1 : decode cX5_friction 1 = .ok (.getfield 223, 3) := by decide +kernel
theorem dX5_friction_4 : decode cX5_friction 4 = .ok (.istore_n 3, 1) := by decide +kernel
theorem dX5_friction_5 : decode cX5_friction 5 = .ok (.iconst 0, 1) := by decide +kernel
theorem dX5_friction_6 : decode cX5_friction 6 = .ok (.istore 4, 2) := by decide +kernel
theorem dX5_friction_8 : decode cX5_friction 8 = .ok (.iload 4, 2) := by decide +kernel
theorem dX5_friction_10 : decode cX5_friction 10 = .ok (.bipush 6, 2) := by decide +kernel
theorem dX5_friction_12 : decode cX5_friction 12 = .ok (.if_icmp .ge 30, 3) := by decide +kernel
theorem dX5_friction_15 : decode cX5_friction 15 = .ok (.iload_n 3, 1) := by decide +kernel
theorem dX5_friction_16 : decode cX5_friction 16 = .ok (.aload_n 1, 1) := by decide +kernel
theorem dX5_friction_17 : decode cX5_friction 17 = .ok (.getfield 275, 3) := by decide +kernel
theorem dX5_friction_20 : decode cX5_friction 20 = .ok (.iload 4, 2) := by decide +kernel
theorem dX5_friction_22 : decode cX5_friction 22 = .ok (.iaload, 1) := by decide +kernel
theorem dX5_friction_23 : decode cX5_friction 23 = .ok (.aload_n 0, 1) := by decide +kernel
theorem dX5_friction_24 : decode cX5_friction 24 = .ok (.getfield 17, 3) := by decide +kernel
theorem dX5_friction_27 : decode cX5_friction 27 = .ok (.iload 4, 2) := by decide +kernel
theorem dX5_friction_29 : decode cX5_friction 29 = .ok (.aaload, 1) := by decide +kernel
theorem dX5_friction_30 : decode cX5_friction 30 = .ok (.getfield 278, 3) := by decide +kernel
theorem dX5_friction_33 : decode cX5_friction 33 = .ok (.imul, 1) := by decide +kernel
theorem dX5_friction_34 : decode cX5_friction 34 = .ok (.iadd, 1) := by decide +kernel
theorem dX5_friction_35 : decode cX5_friction 35 = .ok (.istore_n 3, 1) := by decide +kernel
theorem dX5_friction_36 : decode cX5_friction 36 = .ok (.iinc 4 1, 3) := by decide +kernel
theorem dX5_friction_39 : decode cX5_friction 39 = .ok (.goto (-31), 3) := by decide +kernel
theorem dX5_friction_42 : decode cX5_friction 42 = .ok (.iload_n 2, 1) := by decide +kernel
theorem dX5_friction_43 : decode cX5_friction 43 = .ok (.iload_n 3, 1) := by decide +kernel
theorem dX5_friction_44 : decode cX5_friction 44 = .ok (.imul, 1) := by decide +kernel
theorem dX5_friction_45 : decode cX5_friction 45 = .ok (.bipush 99, 2) := by decide +kernel
theorem dX5_friction_47 : decode cX5_friction 47 = .ok (.iadd, 1) := by decide +kernel
theorem dX5_friction_48 : decode cX5_friction 48 = .ok (.bipush 100, 2) := by decide +kernel
theorem dX5_friction_50 : decode cX5_friction 50 = .ok (.idiv, 1) := by decide +kernel
theorem dX5_friction_51 : decode cX5_friction 51 = .ok (.ireturn, 1) := by decide +kernel
set_option maxRecDepth 20000 in
theorem ggX5_moveOne_X5_nextBatch : GoodIn wsX5_moveOne wsX5_nextBatch := goodIn_r _ [5, 6, 7, 8, 9, 10, 11, 12, 13, 14, 15, 16, 17, 18, 19, 20, 102, 103, 104, 105, 106, 107, 108, 109, 110, 111, 112, 113, 114, 115, 116, 117, 118, 119, 120, 121, 122, 123, 124, 125, 126, 127, 128, 129, 130, 131, 132, 133, 134, 135, 136] (by decide +kernel) (by decide +kernel)
set_option maxRecDepth 20000 in
theorem gX5_moveOne_X5_nextBatch : GoodIn wsX5_moveOne (wsV RX5 281 RX5 yX5_nextBatch wsX5_nextBatch) := goodIn_app (goodIn_of _ (by decide +kernel)) ggX5_moveOne_X5_nextBatch
set_option maxRecDepth 20000 in
theorem ggX5_moveOne_X5_nextTap : GoodIn wsX5_moveOne wsX5_nextTap := goodIn_r _ [24, 25, 26, 27, 28, 29, 30, 31, 32, 33, 34, 102, 103, 104, 105, 106, 107, 108, 109, 110, 111, 112, 113, 114, 115, 116, 117, 118, 98, 99, 100, 101] (by decide +kernel) (by decide +kernel)
set_option maxRecDepth 20000 in
theorem gX5_moveOne_X5_nextTap : GoodIn wsX5_moveOne (wsV RX5 285 RX5 yX5_nextTap wsX5_nextTap) := goodIn_app (goodIn_of _ (by decide +kernel)) ggX5_moveOne_X5_nextTap
set_option maxRecDepth 20000 in
theorem ggX5_moveOne_X5_sendOff : GoodIn wsX5_moveOne wsX5_sendOff := goodIn_r _ [38, 39, 25, 26, 40, 41, 42, 43, 44, 45, 46, 47, 48, 49, 50, 51, 4, 52, 7, 8, 53, 54, 55, 56, 57, 58, 59, 60, 61, 62, 63, 64, 65, 66, 67, 68, 69, 70, 71, 72, 73, 74, 75, 76, 77, 78, 79, 80, 81, 82, 83, 84, 85, 86, 102, 103, 104, 105, 106, 107, 108, 109, 110, 111, 112, 113, 114, 115, 116, 117, 118, 98, 99, 100, 101, 119, 120, 121, 122, 123, 124, 125, 126, 127, 128, 129, 130, 131, 137, 138, 139, 140, 141, 142, 143, 132, 133, 134, 135, 136, 144, 145, 146, 147] (by decide +kernel) (by decide +kernel)
set_option maxRecDepth 20000 in
theorem gX5_moveOne_X5_sendOff : GoodIn wsX5_moveOne (wsV RX5 289 RX5 yX5_sendOff wsX5_sendOff) := goodIn_app (goodIn_of _ (by decide +kernel)) ggX5_moveOne_X5_sendOff
set_option maxRecDepth 20000 in
theorem ggX5_moveOne_X5_bringIn : GoodIn wsX5_moveOne wsX5_bringIn := goodIn_r _ [90, 6, 69, 39, 91, 92, 93, 4, 94, 42, 43, 44, 45, 46, 47, 48, 49, 50, 51, 52, 7, 8, 95, 96, 97, 102, 103, 104, 105, 106, 107, 108, 109, 110, 111, 112, 113, 114, 115, 116, 117, 118, 119, 120, 121, 122, 123, 124, 125, 126, 127, 128, 129, 130, 131, 137, 138, 139, 140, 141, 142, 143, 132, 133, 134, 135, 136] (by decide +kernel) (by decide +kernel)
set_option maxRecDepth 20000 in
theorem gX5_moveOne_X5_bringIn : GoodIn wsX5_moveOne (wsV RX5 296 RX5 yX5_bringIn wsX5_bringIn) := goodIn_app (goodIn_of _ (by decide +kernel)) ggX5_moveOne_X5_bringIn
theorem dX5_moveOne_0 : decode cX5_moveOne 0 = .ok (.aload_n 0, 1) := by decide +kernel
theorem dX5_moveOne_1 : decode cX5_moveOne 1 = .ok (.invokevirtual 281, 3) := by decide +kernel
theorem dX5_moveOne_4 : decode cX5_moveOne 4 = .ok (.astore_n 1, 1) := by decide +kernel
theorem dX5_moveOne_5 : decode cX5_moveOne 5 = .ok (.aload_n 1, 1) := by decide +kernel
theorem dX5_moveOne_6 : decode cX5_moveOne 6 = .ok (.ifnonnull 5, 3) := by decide +kernel
theorem dX5_moveOne_9 : decode cX5_moveOne 9 = .ok (.iconst 0, 1) := by decide +kernel
theorem dX5_moveOne_10 : decode cX5_moveOne 10 = .ok (.ireturn, 1) := by decide +kernel
theorem dX5_moveOne_11 : decode cX5_moveOne 11 = .ok (.aload_n 0, 1) := by decide +kernel
theorem dX5_moveOne_12 : decode cX5_moveOne 12 = .ok (.invokevirtual 285, 3) := by decide +kernel
theorem dX5_moveOne_15 : decode cX5_moveOne 15 = .ok (.astore_n 2, 1) := by decide +kernel
theorem dX5_moveOne_16 : decode cX5_moveOne 16 = .ok (.aload_n 0, 1) := by decide +kernel
theorem dX5_moveOne_17 : decode cX5_moveOne 17 = .ok (.aload_n 2, 1) := by decide +kernel
theorem dX5_moveOne_18 : decode cX5_moveOne 18 = .ok (.invokevirtual 289, 3) := by decide +kernel
theorem dX5_moveOne_21 : decode cX5_moveOne 21 = .ok (.aload_n 0, 1) := by decide +kernel
theorem dX5_moveOne_22 : decode cX5_moveOne 22 = .ok (.aload_n 1, 1) := by decide +kernel
theorem dX5_moveOne_23 : decode cX5_moveOne 23 = .ok (.aload_n 2, 1) := by decide +kernel
theorem dX5_moveOne_24 : decode cX5_moveOne 24 = .ok (.getfield 293, 3) := by decide +kernel
theorem dX5_moveOne_27 : decode cX5_moveOne 27 = .ok (.invokevirtual 296, 3) := by decide +kernel
theorem dX5_moveOne_30 : decode cX5_moveOne 30 = .ok (.iconst 1, 1) := by decide +kernel
theorem dX5_moveOne_31 : decode cX5_moveOne 31 = .ok (.ireturn, 1) := by decide +kernel
set_option maxRecDepth 20000 in
theorem ggX5_nextBatch_X0_waiting : GoodIn wsX5_nextBatch wsX0_waiting := goodIn_r _ [7, 8, 9, 33, 34, 35, 36, 37, 38, 39, 40, 41, 42, 43, 44, 45] (by decide +kernel) (by decide +kernel)
set_option maxRecDepth 20000 in
theorem gX5_nextBatch_X0_waiting_n161 : GoodIn wsX5_nextBatch (wsX0_waiting) := ggX5_nextBatch_X0_waiting
set_option maxRecDepth 20000 in
theorem ggX5_nextBatch_X1_bears : GoodIn wsX5_nextBatch wsX1_bears := goodIn_r _ [13, 14, 15, 46, 47, 48, 49, 50] (by decide +kernel) (by decide +kernel)
set_option maxRecDepth 20000 in
theorem gX5_nextBatch_X1_bears_n300 : GoodIn wsX5_nextBatch (wsX1_bears) := ggX5_nextBatch_X1_bears
theorem dX5_nextBatch_0 : decode cX5_nextBatch 0 = .ok (.aload_n 0, 1) := by decide +kernel
theorem dX5_nextBatch_1 : decode cX5_nextBatch 1 = .ok (.getfield 65, 3) := by decide +kernel
theorem dX5_nextBatch_4 : decode cX5_nextBatch 4 = .ok (.invokevirtual 161, 3) := by decide +kernel
theorem dX5_nextBatch_7 : decode cX5_nextBatch 7 = .ok (.ifCond .le 8, 3) := by decide +kernel
theorem dX5_nextBatch_10 : decode cX5_nextBatch 10 = .ok (.aload_n 0, 1) := by decide +kernel
theorem dX5_nextBatch_11 : decode cX5_nextBatch 11 = .ok (.getfield 65, 3) := by decide +kernel
theorem dX5_nextBatch_14 : decode cX5_nextBatch 14 = .ok (.areturn, 1) := by decide +kernel
theorem dX5_nextBatch_15 : decode cX5_nextBatch 15 = .ok (.iconst 1, 1) := by decide +kernel
theorem dX5_nextBatch_16 : decode cX5_nextBatch 16 = .ok (.istore_n 1, 1) := by decide +kernel
theorem dX5_nextBatch_17 : decode cX5_nextBatch 17 = .ok (.iload_n 1, 1) := by decide +kernel
theorem dX5_nextBatch_18 : decode cX5_nextBatch 18 = .ok (.aload_n 0, 1) := by decide +kernel
theorem dX5_nextBatch_19 : decode cX5_nextBatch 19 = .ok (.getfield 50, 3) := by decide +kernel
theorem dX5_nextBatch_22 : decode cX5_nextBatch 22 = .ok (.if_icmp .ge 50, 3) := by decide +kernel
theorem dX5_nextBatch_25 : decode cX5_nextBatch 25 = .ok (.aload_n 0, 1) := by decide +kernel
theorem dX5_nextBatch_26 : decode cX5_nextBatch 26 = .ok (.getfield 23, 3) := by decide +kernel
theorem dX5_nextBatch_29 : decode cX5_nextBatch 29 = .ok (.iload_n 1, 1) := by decide +kernel
theorem dX5_nextBatch_30 : decode cX5_nextBatch 30 = .ok (.aaload, 1) := by decide +kernel
theorem dX5_nextBatch_31 : decode cX5_nextBatch 31 = .ok (.getfield 111, 3) := by decide +kernel
theorem dX5_nextBatch_34 : decode cX5_nextBatch 34 = .ok (.ifCond .ne 32, 3) := by decide +kernel
theorem dX5_nextBatch_37 : decode cX5_nextBatch 37 = .ok (.aload_n 0, 1) := by decide +kernel
theorem dX5_nextBatch_38 : decode cX5_nextBatch 38 = .ok (.getfield 23, 3) := by decide +kernel
theorem dX5_nextBatch_41 : decode cX5_nextBatch 41 = .ok (.iload_n 1, 1) := by decide +kernel
theorem dX5_nextBatch_42 : decode cX5_nextBatch 42 = .ok (.aaload, 1) := by decide +kernel
theorem dX5_nextBatch_43 : decode cX5_nextBatch 43 = .ok (.getfield 168, 3) := by decide +kernel
theorem dX5_nextBatch_46 : decode cX5_nextBatch 46 = .ok (.aload_n 0, 1) := by decide +kernel
theorem dX5_nextBatch_47 : decode cX5_nextBatch 47 = .ok (.getfield 65, 3) := by decide +kernel
theorem dX5_nextBatch_50 : decode cX5_nextBatch 50 = .ok (.getfield 168, 3) := by decide +kernel
theorem dX5_nextBatch_53 : decode cX5_nextBatch 53 = .ok (.invokevirtual 300, 3) := by decide +kernel
theorem dX5_nextBatch_56 : decode cX5_nextBatch 56 = .ok (.ifCond .eq 10, 3) := by decide +kernel
theorem dX5_nextBatch_59 : decode cX5_nextBatch 59 = .ok (.aload_n 0, 1) := by decide +kernel
theorem dX5_nextBatch_60 : decode cX5_nextBatch 60 = .ok (.getfield 23, 3) := by decide +kernel
theorem dX5_nextBatch_63 : decode cX5_nextBatch 63 = .ok (.iload_n 1, 1) := by decide +kernel
theorem dX5_nextBatch_64 : decode cX5_nextBatch 64 = .ok (.aaload, 1) := by decide +kernel
theorem dX5_nextBatch_65 : decode cX5_nextBatch 65 = .ok (.areturn, 1) := by decide +kernel
theorem dX5_nextBatch_66 : decode cX5_nextBatch 66 = .ok (.iinc 1 1, 3) := by decide +kernel
theorem dX5_nextBatch_69 : decode cX5_nextBatch 69 = .ok (.goto (-52), 3) := by decide +kernel
theorem dX5_nextBatch_72 : decode cX5_nextBatch 72 = .ok (.aconst_null, 1) := by decide +kernel
theorem dX5_nextBatch_73 : decode cX5_nextBatch 73 = .ok (.areturn, 1) := by decide +kernel
set_option maxRecDepth 20000 in
theorem ggX5_nextTap_X4_takesMore : GoodIn wsX5_nextTap wsX4_takesMore := goodIn_r _ [7, 8, 9, 10, 28, 29, 30, 31] (by decide +kernel) (by decide +kernel)
set_option maxRecDepth 20000 in
theorem gX5_nextTap_X4_takesMore_n304 : GoodIn wsX5_nextTap (wsX4_takesMore) := ggX5_nextTap_X4_takesMore
theorem dX5_nextTap_0 : decode cX5_nextTap 0 = .ok (.aload_n 0, 1) := by decide +kernel
theorem dX5_nextTap_1 : decode cX5_nextTap 1 = .ok (.getfield 40, 3) := by decide +kernel
theorem dX5_nextTap_4 : decode cX5_nextTap 4 = .ok (.invokevirtual 304, 3) := by decide +kernel
theorem dX5_nextTap_7 : decode cX5_nextTap 7 = .ok (.ifCond .eq 8, 3) := by decide +kernel
theorem dX5_nextTap_10 : decode cX5_nextTap 10 = .ok (.aload_n 0, 1) := by decide +kernel
theorem dX5_nextTap_11 : decode cX5_nextTap 11 = .ok (.getfield 40, 3) := by decide +kernel
theorem dX5_nextTap_14 : decode cX5_nextTap 14 = .ok (.areturn, 1) := by decide +kernel
theorem dX5_nextTap_15 : decode cX5_nextTap 15 = .ok (.aload_n 0, 1) := by decide +kernel
theorem dX5_nextTap_16 : decode cX5_nextTap 16 = .ok (.getfield 44, 3) := by decide +kernel
theorem dX5_nextTap_19 : decode cX5_nextTap 19 = .ok (.invokevirtual 304, 3) := by decide +kernel
theorem dX5_nextTap_22 : decode cX5_nextTap 22 = .ok (.ifCond .eq 10, 3) := by decide +kernel
theorem dX5_nextTap_25 : decode cX5_nextTap 25 = .ok (.aload_n 0, 1) := by decide +kernel
theorem dX5_nextTap_26 : decode cX5_nextTap 26 = .ok (.getfield 44, 3) := by decide +kernel
theorem dX5_nextTap_29 : decode cX5_nextTap 29 = .ok (.goto 7, 3) := by decide +kernel
theorem dX5_nextTap_32 : decode cX5_nextTap 32 = .ok (.aload_n 0, 1) := by decide +kernel
theorem dX5_nextTap_33 : decode cX5_nextTap 33 = .ok (.getfield 47, 3) := by decide +kernel
theorem dX5_nextTap_36 : decode cX5_nextTap 36 = .ok (.areturn, 1) := by decide +kernel
set_option maxRecDepth 20000 in
theorem ggX5_sendOff_X2_fromEnd : GoodIn wsX5_sendOff wsX2_fromEnd := goodIn_r _ [9, 10, 11, 12, 88, 89, 90, 91, 92, 93, 94] (by decide +kernel) (by decide +kernel)
set_option maxRecDepth 20000 in
theorem gX5_sendOff_X2_fromEnd_n181 : GoodIn wsX5_sendOff (wsX2_fromEnd) := ggX5_sendOff_X2_fromEnd
set_option maxRecDepth 20000 in
theorem ggX5_sendOff_X5_batchOf : GoodIn wsX5_sendOff wsX5_batchOf := goodIn_r _ [17, 18, 19, 54, 55, 56, 57, 58, 59, 60, 61, 62, 63, 64, 65, 66, 67, 68, 69, 70] (by decide +kernel) (by decide +kernel)
set_option maxRecDepth 20000 in
theorem gX5_sendOff_X5_batchOf : GoodIn wsX5_sendOff (wsV RX5 184 RX5 yX5_batchOf wsX5_batchOf) := goodIn_app (goodIn_of _ (by decide +kernel)) ggX5_sendOff_X5_batchOf
set_option maxRecDepth 20000 in
theorem ggX5_sendOff_X5_placeOf : GoodIn wsX5_sendOff wsX5_placeOf := goodIn_r _ [23] (by decide +kernel) (by decide +kernel)
set_option maxRecDepth 20000 in
theorem gX5_sendOff_X5_placeOf : GoodIn wsX5_sendOff (wsV RX5 307 RX5 yX5_placeOf wsX5_placeOf) := goodIn_app (goodIn_of _ (by decide +kernel)) ggX5_sendOff_X5_placeOf
set_option maxRecDepth 20000 in
theorem ggX5_sendOff_X5_pour : GoodIn wsX5_sendOff wsX5_pour := goodIn_r _ [27, 28, 29, 30, 31, 32, 33, 34, 16, 35, 36, 37, 38, 39, 40, 41, 42, 43, 44, 45, 46, 47, 48, 49, 75, 76, 77, 78, 79, 80, 81, 82, 83, 84, 85, 86, 87, 95, 96, 97, 98, 99, 54, 55, 56, 57, 58, 59, 60, 61, 62, 63, 64, 65, 66, 67, 68, 69, 70, 100, 101, 102, 103] (by decide +kernel) (by decide +kernel)
set_option maxRecDepth 20000 in
theorem gX5_sendOff_X5_pour : GoodIn wsX5_sendOff (wsV RX5 310 RX5 yX5_pour wsX5_pour) := goodIn_app (goodIn_of _ (by decide +kernel)) ggX5_sendOff_X5_pour
set_option maxRecDepth 20000 in
theorem ggX5_sendOff_X5_mixOf : GoodIn wsX5_sendOff wsX5_mixOf := goodIn_r _ [35, 36, 37, 38, 39, 16, 40, 75, 76, 77, 78, 79, 80, 81, 82, 83, 84, 85, 86, 87, 54, 55, 56, 57, 58, 59, 60, 61, 62, 63, 64, 65, 66, 67, 68, 69, 70] (by decide +kernel) (by decide +kernel)
set_option maxRecDepth 20000 in
theorem gX5_sendOff_X5_mixOf : GoodIn wsX5_sendOff (wsV RX5 164 RX5 yX5_mixOf wsX5_mixOf) := goodIn_app (goodIn_of _ (by decide +kernel)) ggX5_sendOff_X5_mixOf
set_option maxRecDepth 20000 in
theorem ggX5_sendOff_X5_cleanUpTo : GoodIn wsX5_sendOff wsX5_cleanUpTo := goodIn_r _ [53, 1, 54, 55, 56, 57, 58, 59, 60, 61, 62, 63, 64, 65, 66, 67, 68, 69, 70, 88, 89, 90, 91, 92, 93, 94] (by decide +kernel) (by decide +kernel)
set_option maxRecDepth 20000 in
theorem gX5_sendOff_X5_cleanUpTo : GoodIn wsX5_sendOff (wsV RX5 320 RX5 yX5_cleanUpTo wsX5_cleanUpTo) := goodIn_app (goodIn_of _ (by decide +kernel)) ggX5_sendOff_X5_cleanUpTo
theorem dX5_sendOff_0 : decode cX5_sendOff 0 = .ok (.aload_n 0, 1) := by decide +kernel
theorem dX5_sendOff_1 : decode cX5_sendOff 1 = .ok (.getfield 11, 3) := by decide +kernel
theorem dX5_sendOff_4 : decode cX5_sendOff 4 = .ok (.aload_n 1, 1) := by decide +kernel
theorem dX5_sendOff_5 : decode cX5_sendOff 5 = .ok (.getfield 293, 3) := by decide +kernel
theorem dX5_sendOff_8 : decode cX5_sendOff 8 = .ok (.aaload, 1) := by decide +kernel
theorem dX5_sendOff_9 : decode cX5_sendOff 9 = .ok (.iconst 0, 1) := by decide +kernel
theorem dX5_sendOff_10 : decode cX5_sendOff 10 = .ok (.invokevirtual 181, 3) := by decide +kernel
theorem dX5_sendOff_13 : decode cX5_sendOff 13 = .ok (.istore_n 2, 1) := by decide +kernel
theorem dX5_sendOff_14 : decode cX5_sendOff 14 = .ok (.aload_n 0, 1) := by decide +kernel
theorem dX5_sendOff_15 : decode cX5_sendOff 15 = .ok (.iload_n 2, 1) := by decide +kernel
theorem dX5_sendOff_16 : decode cX5_sendOff 16 = .ok (.invokevirtual 184, 3) := by decide +kernel
theorem dX5_sendOff_19 : decode cX5_sendOff 19 = .ok (.astore_n 3, 1) := by decide +kernel
theorem dX5_sendOff_20 : decode cX5_sendOff 20 = .ok (.aload_n 0, 1) := by decide +kernel
theorem dX5_sendOff_21 : decode cX5_sendOff 21 = .ok (.iload_n 2, 1) := by decide +kernel
theorem dX5_sendOff_22 : decode cX5_sendOff 22 = .ok (.invokevirtual 307, 3) := by decide +kernel
theorem dX5_sendOff_25 : decode cX5_sendOff 25 = .ok (.istore 4, 2) := by decide +kernel
theorem dX5_sendOff_27 : decode cX5_sendOff 27 = .ok (.aload_n 1, 1) := by decide +kernel
theorem dX5_sendOff_28 : decode cX5_sendOff 28 = .ok (.dup, 1) := by decide +kernel
theorem dX5_sendOff_29 : decode cX5_sendOff 29 = .ok (.getfield 246, 3) := by decide +kernel
theorem dX5_sendOff_32 : decode cX5_sendOff 32 = .ok (.iconst 1, 1) := by decide +kernel
theorem dX5_sendOff_33 : decode cX5_sendOff 33 = .ok (.iadd, 1) := by decide +kernel
theorem dX5_sendOff_34 : decode cX5_sendOff 34 = .ok (.putfield 246, 3) := by decide +kernel
theorem dX5_sendOff_37 : decode cX5_sendOff 37 = .ok (.aload_n 1, 1) := by decide +kernel
theorem dX5_sendOff_38 : decode cX5_sendOff 38 = .ok (.aload_n 0, 1) := by decide +kernel
theorem dX5_sendOff_39 : decode cX5_sendOff 39 = .ok (.getfield 40, 3) := by decide +kernel
theorem dX5_sendOff_42 : decode cX5_sendOff 42 = .ok (.if_acmp .ne 16, 3) := by decide +kernel
theorem dX5_sendOff_45 : decode cX5_sendOff 45 = .ok (.aload_n 3, 1) := by decide +kernel
theorem dX5_sendOff_46 : decode cX5_sendOff 46 = .ok (.dup, 1) := by decide +kernel
theorem dX5_sendOff_47 : decode cX5_sendOff 47 = .ok (.getfield 158, 3) := by decide +kernel
theorem dX5_sendOff_50 : decode cX5_sendOff 50 = .ok (.iconst 1, 1) := by decide +kernel
theorem dX5_sendOff_51 : decode cX5_sendOff 51 = .ok (.iadd, 1) := by decide +kernel
theorem dX5_sendOff_52 : decode cX5_sendOff 52 = .ok (.putfield 158, 3) := by decide +kernel
theorem dX5_sendOff_55 : decode cX5_sendOff 55 = .ok (.goto 66, 3) := by decide +kernel
theorem dX5_sendOff_58 : decode cX5_sendOff 58 = .ok (.aload_n 1, 1) := by decide +kernel
theorem dX5_sendOff_59 : decode cX5_sendOff 59 = .ok (.aload_n 0, 1) := by decide +kernel
theorem dX5_sendOff_60 : decode cX5_sendOff 60 = .ok (.getfield 44, 3) := by decide +kernel
theorem dX5_sendOff_63 : decode cX5_sendOff 63 = .ok (.if_acmp .ne 32, 3) := by decide +kernel
theorem dX5_sendOff_66 : decode cX5_sendOff 66 = .ok (.aload_n 3, 1) := by decide +kernel
theorem dX5_sendOff_67 : decode cX5_sendOff 67 = .ok (.dup, 1) := by decide +kernel
theorem dX5_sendOff_68 : decode cX5_sendOff 68 = .ok (.getfield 155, 3) := by decide +kernel
theorem dX5_sendOff_71 : decode cX5_sendOff 71 = .ok (.iconst 1, 1) := by decide +kernel
theorem dX5_sendOff_72 : decode cX5_sendOff 72 = .ok (.iadd, 1) := by decide +kernel
theorem dX5_sendOff_73 : decode cX5_sendOff 73 = .ok (.putfield 155, 3) := by decide +kernel
theorem dX5_sendOff_76 : decode cX5_sendOff 76 = .ok (.aload_n 0, 1) := by decide +kernel
theorem dX5_sendOff_77 : decode cX5_sendOff 77 = .ok (.aload_n 3, 1) := by decide +kernel
theorem dX5_sendOff_78 : decode cX5_sendOff 78 = .ok (.iload 4, 2) := by decide +kernel
theorem dX5_sendOff_80 : decode cX5_sendOff 80 = .ok (.aload_n 0, 1) := by decide +kernel
theorem dX5_sendOff_81 : decode cX5_sendOff 81 = .ok (.getfield 29, 3) := by decide +kernel
theorem dX5_sendOff_84 : decode cX5_sendOff 84 = .ok (.aload_n 1, 1) := by decide +kernel
theorem dX5_sendOff_85 : decode cX5_sendOff 85 = .ok (.getfield 114, 3) := by decide +kernel
theorem dX5_sendOff_88 : decode cX5_sendOff 88 = .ok (.aaload, 1) := by decide +kernel
theorem dX5_sendOff_89 : decode cX5_sendOff 89 = .ok (.invokevirtual 310, 3) := by decide +kernel
theorem dX5_sendOff_92 : decode cX5_sendOff 92 = .ok (.goto 29, 3) := by decide +kernel
theorem dX5_sendOff_95 : decode cX5_sendOff 95 = .ok (.aload_n 3, 1) := by decide +kernel
theorem dX5_sendOff_96 : decode cX5_sendOff 96 = .ok (.dup, 1) := by decide +kernel
theorem dX5_sendOff_97 : decode cX5_sendOff 97 = .ok (.getfield 152, 3) := by decide +kernel
theorem dX5_sendOff_100 : decode cX5_sendOff 100 = .ok (.iconst 1, 1) := by decide +kernel
theorem dX5_sendOff_101 : decode cX5_sendOff 101 = .ok (.iadd, 1) := by decide +kernel
theorem dX5_sendOff_102 : decode cX5_sendOff 102 = .ok (.putfield 152, 3) := by decide +kernel
theorem dX5_sendOff_105 : decode cX5_sendOff 105 = .ok (.aload_n 0, 1) := by decide +kernel
theorem dX5_sendOff_106 : decode cX5_sendOff 106 = .ok (.aload_n 3, 1) := by decide +kernel
theorem dX5_sendOff_107 : decode cX5_sendOff 107 = .ok (.iload 4, 2) := by decide +kernel
theorem dX5_sendOff_109 : decode cX5_sendOff 109 = .ok (.aload_n 0, 1) := by decide +kernel
theorem dX5_sendOff_110 : decode cX5_sendOff 110 = .ok (.getfield 29, 3) := by decide +kernel
theorem dX5_sendOff_113 : decode cX5_sendOff 113 = .ok (.aload_n 1, 1) := by decide +kernel
theorem dX5_sendOff_114 : decode cX5_sendOff 114 = .ok (.getfield 114, 3) := by decide +kernel
theorem dX5_sendOff_117 : decode cX5_sendOff 117 = .ok (.aaload, 1) := by decide +kernel
theorem dX5_sendOff_118 : decode cX5_sendOff 118 = .ok (.invokevirtual 310, 3) := by decide +kernel
theorem dX5_sendOff_121 : decode cX5_sendOff 121 = .ok (.iload 4, 2) := by decide +kernel
theorem dX5_sendOff_123 : decode cX5_sendOff 123 = .ok (.ifCond .ne 17, 3) := by decide +kernel
theorem dX5_sendOff_126 : decode cX5_sendOff 126 = .ok (.aload_n 3, 1) := by decide +kernel
theorem dX5_sendOff_127 : decode cX5_sendOff 127 = .ok (.aload_n 0, 1) := by decide +kernel
theorem dX5_sendOff_128 : decode cX5_sendOff 128 = .ok (.aload_n 3, 1) := by decide +kernel
theorem dX5_sendOff_129 : decode cX5_sendOff 129 = .ok (.invokevirtual 164, 3) := by decide +kernel
theorem dX5_sendOff_132 : decode cX5_sendOff 132 = .ok (.putfield 314, 3) := by decide +kernel
theorem dX5_sendOff_135 : decode cX5_sendOff 135 = .ok (.aload_n 3, 1) := by decide +kernel
theorem dX5_sendOff_136 : decode cX5_sendOff 136 = .ok (.iconst 1, 1) := by decide +kernel
theorem dX5_sendOff_137 : decode cX5_sendOff 137 = .ok (.putfield 317, 3) := by decide +kernel
theorem dX5_sendOff_140 : decode cX5_sendOff 140 = .ok (.iload_n 2, 1) := by decide +kernel
theorem dX5_sendOff_141 : decode cX5_sendOff 141 = .ok (.aload_n 0, 1) := by decide +kernel
theorem dX5_sendOff_142 : decode cX5_sendOff 142 = .ok (.getfield 54, 3) := by decide +kernel
theorem dX5_sendOff_145 : decode cX5_sendOff 145 = .ok (.if_icmp .ne 16, 3) := by decide +kernel
theorem dX5_sendOff_148 : decode cX5_sendOff 148 = .ok (.aload_n 0, 1) := by decide +kernel
theorem dX5_sendOff_149 : decode cX5_sendOff 149 = .ok (.iconst (-1), 1) := by decide +kernel
theorem dX5_sendOff_150 : decode cX5_sendOff 150 = .ok (.putfield 54, 3) := by decide +kernel
theorem dX5_sendOff_153 : decode cX5_sendOff 153 = .ok (.aload_n 0, 1) := by decide +kernel
theorem dX5_sendOff_154 : decode cX5_sendOff 154 = .ok (.aload_n 1, 1) := by decide +kernel
theorem dX5_sendOff_155 : decode cX5_sendOff 155 = .ok (.getfield 293, 3) := by decide +kernel
theorem dX5_sendOff_158 : decode cX5_sendOff 158 = .ok (.invokevirtual 320, 3) := by decide +kernel
theorem dX5_sendOff_161 : decode cX5_sendOff 161 = .ok (.return_, 1) := by decide +kernel
set_option maxRecDepth 20000 in
theorem ggX5_bringIn_X5_unitOf : GoodIn wsX5_bringIn wsX5_unitOf := goodIn_r _ [8, 42, 43, 44, 45, 46, 47, 48, 49, 50, 51, 52, 53, 54] (by decide +kernel) (by decide +kernel)
set_option maxRecDepth 20000 in
theorem gX5_bringIn_X5_unitOf : GoodIn wsX5_bringIn (wsV RX5 132 RX5 yX5_unitOf wsX5_unitOf) := goodIn_app (goodIn_of _ (by decide +kernel)) ggX5_bringIn_X5_unitOf
set_option maxRecDepth 20000 in
theorem ggX5_bringIn_X2_fromEnd : GoodIn wsX5_bringIn wsX2_fromEnd := goodIn_r _ [12, 13, 14, 15, 55, 56, 57, 58, 59, 60, 61] (by decide +kernel) (by decide +kernel)
set_option maxRecDepth 20000 in
theorem gX5_bringIn_X2_fromEnd_n181 : GoodIn wsX5_bringIn (wsX2_fromEnd) := ggX5_bringIn_X2_fromEnd
set_option maxRecDepth 20000 in
theorem ggX5_bringIn_X5_batchOf : GoodIn wsX5_bringIn wsX5_batchOf := goodIn_r _ [19, 20, 21, 25, 26, 27, 28, 29, 30, 31, 32, 33, 34, 35, 36, 37, 38, 39, 40, 41] (by decide +kernel) (by decide +kernel)
set_option maxRecDepth 20000 in
theorem gX5_bringIn_X5_batchOf : GoodIn wsX5_bringIn (wsV RX5 184 RX5 yX5_batchOf wsX5_batchOf) := goodIn_app (goodIn_of _ (by decide +kernel)) ggX5_bringIn_X5_batchOf
set_option maxRecDepth 20000 in
theorem ggX5_bringIn_X2_moveOn : GoodIn wsX5_bringIn wsX2_moveOn := goodIn_r _ [24, 15, 13, 14, 55, 56, 57, 58, 59, 60, 61] (by decide +kernel) (by decide +kernel)
set_option maxRecDepth 20000 in
theorem gX5_bringIn_X2_moveOn_n332 : GoodIn wsX5_bringIn (wsX2_moveOn) := ggX5_bringIn_X2_moveOn
theorem dX5_bringIn_0 : decode cX5_bringIn 0 = .ok (.aload_n 1, 1) := by decide +kernel
theorem dX5_bringIn_1 : decode cX5_bringIn 1 = .ok (.aload_n 0, 1) := by decide +kernel
theorem dX5_bringIn_2 : decode cX5_bringIn 2 = .ok (.getfield 65, 3) := by decide +kernel
theorem dX5_bringIn_5 : decode cX5_bringIn 5 = .ok (.if_acmp .eq 32, 3) := by decide +kernel
theorem dX5_bringIn_8 : decode cX5_bringIn 8 = .ok (.aload_n 1, 1) := by decide +kernel
theorem dX5_bringIn_9 : decode cX5_bringIn 9 = .ok (.aload_n 0, 1) := by decide +kernel
theorem dX5_bringIn_10 : decode cX5_bringIn 10 = .ok (.getfield 65, 3) := by decide +kernel
theorem dX5_bringIn_13 : decode cX5_bringIn 13 = .ok (.putfield 323, 3) := by decide +kernel
theorem dX5_bringIn_16 : decode cX5_bringIn 16 = .ok (.aload_n 0, 1) := by decide +kernel
theorem dX5_bringIn_17 : decode cX5_bringIn 17 = .ok (.getfield 65, 3) := by decide +kernel
theorem dX5_bringIn_20 : decode cX5_bringIn 20 = .ok (.aload_n 1, 1) := by decide +kernel
theorem dX5_bringIn_21 : decode cX5_bringIn 21 = .ok (.putfield 189, 3) := by decide +kernel
theorem dX5_bringIn_24 : decode cX5_bringIn 24 = .ok (.aload_n 1, 1) := by decide +kernel
theorem dX5_bringIn_25 : decode cX5_bringIn 25 = .ok (.aload_n 0, 1) := by decide +kernel
theorem dX5_bringIn_26 : decode cX5_bringIn 26 = .ok (.getfield 326, 3) := by decide +kernel
theorem dX5_bringIn_29 : decode cX5_bringIn 29 = .ok (.putfield 329, 3) := by decide +kernel
theorem dX5_bringIn_32 : decode cX5_bringIn 32 = .ok (.aload_n 0, 1) := by decide +kernel
theorem dX5_bringIn_33 : decode cX5_bringIn 33 = .ok (.aload_n 1, 1) := by decide +kernel
theorem dX5_bringIn_34 : decode cX5_bringIn 34 = .ok (.putfield 65, 3) := by decide +kernel
theorem dX5_bringIn_37 : decode cX5_bringIn 37 = .ok (.aload_n 0, 1) := by decide +kernel
theorem dX5_bringIn_38 : decode cX5_bringIn 38 = .ok (.aload_n 1, 1) := by decide +kernel
theorem dX5_bringIn_39 : decode cX5_bringIn 39 = .ok (.aload_n 1, 1) := by decide +kernel
theorem dX5_bringIn_40 : decode cX5_bringIn 40 = .ok (.getfield 111, 3) := by decide +kernel
theorem dX5_bringIn_43 : decode cX5_bringIn 43 = .ok (.invokevirtual 132, 3) := by decide +kernel
theorem dX5_bringIn_46 : decode cX5_bringIn 46 = .ok (.istore_n 3, 1) := by decide +kernel
theorem dX5_bringIn_47 : decode cX5_bringIn 47 = .ok (.aload_n 1, 1) := by decide +kernel
theorem dX5_bringIn_48 : decode cX5_bringIn 48 = .ok (.dup, 1) := by decide +kernel
theorem dX5_bringIn_49 : decode cX5_bringIn 49 = .ok (.getfield 111, 3) := by decide +kernel
theorem dX5_bringIn_52 : decode cX5_bringIn 52 = .ok (.iconst 1, 1) := by decide +kernel
theorem dX5_bringIn_53 : decode cX5_bringIn 53 = .ok (.iadd, 1) := by decide +kernel
theorem dX5_bringIn_54 : decode cX5_bringIn 54 = .ok (.putfield 111, 3) := by decide +kernel
theorem dX5_bringIn_57 : decode cX5_bringIn 57 = .ok (.aload_n 0, 1) := by decide +kernel
theorem dX5_bringIn_58 : decode cX5_bringIn 58 = .ok (.dup, 1) := by decide +kernel
theorem dX5_bringIn_59 : decode cX5_bringIn 59 = .ok (.getfield 326, 3) := by decide +kernel
theorem dX5_bringIn_62 : decode cX5_bringIn 62 = .ok (.iconst 1, 1) := by decide +kernel
theorem dX5_bringIn_63 : decode cX5_bringIn 63 = .ok (.iadd, 1) := by decide +kernel
theorem dX5_bringIn_64 : decode cX5_bringIn 64 = .ok (.putfield 326, 3) := by decide +kernel
theorem dX5_bringIn_67 : decode cX5_bringIn 67 = .ok (.iconst 0, 1) := by decide +kernel
theorem dX5_bringIn_68 : decode cX5_bringIn 68 = .ok (.istore 4, 2) := by decide +kernel
theorem dX5_bringIn_70 : decode cX5_bringIn 70 = .ok (.iload 4, 2) := by decide +kernel
theorem dX5_bringIn_72 : decode cX5_bringIn 72 = .ok (.iload_n 2, 1) := by decide +kernel
theorem dX5_bringIn_73 : decode cX5_bringIn 73 = .ok (.if_icmp .gt 89, 3) := by decide +kernel
theorem dX5_bringIn_76 : decode cX5_bringIn 76 = .ok (.aload_n 0, 1) := by decide +kernel
theorem dX5_bringIn_77 : decode cX5_bringIn 77 = .ok (.getfield 11, 3) := by decide +kernel
theorem dX5_bringIn_80 : decode cX5_bringIn 80 = .ok (.iload 4, 2) := by decide +kernel
theorem dX5_bringIn_82 : decode cX5_bringIn 82 = .ok (.aaload, 1) := by decide +kernel
theorem dX5_bringIn_83 : decode cX5_bringIn 83 = .ok (.iconst 0, 1) := by decide +kernel
theorem dX5_bringIn_84 : decode cX5_bringIn 84 = .ok (.invokevirtual 181, 3) := by decide +kernel
theorem dX5_bringIn_87 : decode cX5_bringIn 87 = .ok (.istore 5, 2) := by decide +kernel
theorem dX5_bringIn_89 : decode cX5_bringIn 89 = .ok (.aload_n 0, 1) := by decide +kernel
theorem dX5_bringIn_90 : decode cX5_bringIn 90 = .ok (.getfield 11, 3) := by decide +kernel
theorem dX5_bringIn_93 : decode cX5_bringIn 93 = .ok (.iload 4, 2) := by decide +kernel
theorem dX5_bringIn_95 : decode cX5_bringIn 95 = .ok (.aaload, 1) := by decide +kernel
theorem dX5_bringIn_96 : decode cX5_bringIn 96 = .ok (.getfield 275, 3) := by decide +kernel
theorem dX5_bringIn_99 : decode cX5_bringIn 99 = .ok (.aload_n 0, 1) := by decide +kernel
theorem dX5_bringIn_100 : decode cX5_bringIn 100 = .ok (.iload_n 3, 1) := by decide +kernel
theorem dX5_bringIn_101 : decode cX5_bringIn 101 = .ok (.invokevirtual 184, 3) := by decide +kernel
theorem dX5_bringIn_104 : decode cX5_bringIn 104 = .ok (.getfield 168, 3) := by decide +kernel
theorem dX5_bringIn_107 : decode cX5_bringIn 107 = .ok (.getfield 172, 3) := by decide +kernel
theorem dX5_bringIn_110 : decode cX5_bringIn 110 = .ok (.dup2, 1) := by decide +kernel
theorem dX5_bringIn_111 : decode cX5_bringIn 111 = .ok (.iaload, 1) := by decide +kernel
theorem dX5_bringIn_112 : decode cX5_bringIn 112 = .ok (.iconst 1, 1) := by decide +kernel
theorem dX5_bringIn_113 : decode cX5_bringIn 113 = .ok (.iadd, 1) := by decide +kernel
theorem dX5_bringIn_114 : decode cX5_bringIn 114 = .ok (.iastore, 1) := by decide +kernel
theorem dX5_bringIn_115 : decode cX5_bringIn 115 = .ok (.aload_n 0, 1) := by decide +kernel
theorem dX5_bringIn_116 : decode cX5_bringIn 116 = .ok (.getfield 11, 3) := by decide +kernel
theorem dX5_bringIn_119 : decode cX5_bringIn 119 = .ok (.iload 4, 2) := by decide +kernel
theorem dX5_bringIn_121 : decode cX5_bringIn 121 = .ok (.aaload, 1) := by decide +kernel
theorem dX5_bringIn_122 : decode cX5_bringIn 122 = .ok (.getfield 275, 3) := by decide +kernel
theorem dX5_bringIn_125 : decode cX5_bringIn 125 = .ok (.aload_n 0, 1) := by decide +kernel
theorem dX5_bringIn_126 : decode cX5_bringIn 126 = .ok (.iload 5, 2) := by decide +kernel
theorem dX5_bringIn_128 : decode cX5_bringIn 128 = .ok (.invokevirtual 184, 3) := by decide +kernel
theorem dX5_bringIn_131 : decode cX5_bringIn 131 = .ok (.getfield 168, 3) := by decide +kernel
theorem dX5_bringIn_134 : decode cX5_bringIn 134 = .ok (.getfield 172, 3) := by decide +kernel
theorem dX5_bringIn_137 : decode cX5_bringIn 137 = .ok (.dup2, 1) := by decide +kernel
theorem dX5_bringIn_138 : decode cX5_bringIn 138 = .ok (.iaload, 1) := by decide +kernel
theorem dX5_bringIn_139 : decode cX5_bringIn 139 = .ok (.iconst 1, 1) := by decide +kernel
theorem dX5_bringIn_140 : decode cX5_bringIn 140 = .ok (.isub, 1) := by decide +kernel
theorem dX5_bringIn_141 : decode cX5_bringIn 141 = .ok (.iastore, 1) := by decide +kernel
theorem dX5_bringIn_142 : decode cX5_bringIn 142 = .ok (.aload_n 0, 1) := by decide +kernel
theorem dX5_bringIn_143 : decode cX5_bringIn 143 = .ok (.getfield 11, 3) := by decide +kernel
theorem dX5_bringIn_146 : decode cX5_bringIn 146 = .ok (.iload 4, 2) := by decide +kernel
theorem dX5_bringIn_148 : decode cX5_bringIn 148 = .ok (.aaload, 1) := by decide +kernel
theorem dX5_bringIn_149 : decode cX5_bringIn 149 = .ok (.iload_n 3, 1) := by decide +kernel
theorem dX5_bringIn_150 : decode cX5_bringIn 150 = .ok (.invokevirtual 332, 3) := by decide +kernel
theorem dX5_bringIn_153 : decode cX5_bringIn 153 = .ok (.iload 5, 2) := by decide +kernel
theorem dX5_bringIn_155 : decode cX5_bringIn 155 = .ok (.istore_n 3, 1) := by decide +kernel
theorem dX5_bringIn_156 : decode cX5_bringIn 156 = .ok (.iinc 4 1, 3) := by decide +kernel
theorem dX5_bringIn_159 : decode cX5_bringIn 159 = .ok (.goto (-89), 3) := by decide +kernel
theorem dX5_bringIn_162 : decode cX5_bringIn 162 = .ok (.return_, 1) := by decide +kernel
theorem dX5_soil_0 : decode cX5_soil 0 = .ok (.iconst 0, 1) := by decide +kernel
theorem dX5_soil_1 : decode cX5_soil 1 = .ok (.istore_n 1, 1) := by decide +kernel
theorem dX5_soil_2 : decode cX5_soil 2 = .ok (.iload_n 1, 1) := by decide +kernel
theorem dX5_soil_3 : decode cX5_soil 3 = .ok (.aload_n 0, 1) := by decide +kernel
theorem dX5_soil_4 : decode cX5_soil 4 = .ok (.getfield 77, 3) := by decide +kernel
theorem dX5_soil_7 : decode cX5_soil 7 = .ok (.if_icmp .ge 35, 3) := by decide +kernel
theorem dX5_soil_10 : decode cX5_soil 10 = .ok (.aload_n 0, 1) := by decide +kernel
theorem dX5_soil_11 : decode cX5_soil 11 = .ok (.getfield 11, 3) := by decide +kernel
theorem dX5_soil_14 : decode cX5_soil 14 = .ok (.iload_n 1, 1) := by decide +kernel
theorem dX5_soil_15 : decode cX5_soil 15 = .ok (.aaload, 1) := by decide +kernel
theorem dX5_soil_16 : decode cX5_soil 16 = .ok (.sipush 200, 3) := by decide +kernel
theorem dX5_soil_19 : decode cX5_soil 19 = .ok (.aload_n 0, 1) := by decide +kernel
theorem dX5_soil_20 : decode cX5_soil 20 = .ok (.getfield 11, 3) := by decide +kernel
theorem dX5_soil_23 : decode cX5_soil 23 = .ok (.iload_n 1, 1) := by decide +kernel
theorem dX5_soil_24 : decode cX5_soil 24 = .ok (.aaload, 1) := by decide +kernel
theorem dX5_soil_25 : decode cX5_soil 25 = .ok (.getfield 223, 3) := by decide +kernel
theorem dX5_soil_28 : decode cX5_soil 28 = .ok (.iconst 1, 1) := by decide +kernel
theorem dX5_soil_29 : decode cX5_soil 29 = .ok (.iadd, 1) := by decide +kernel
theorem dX5_soil_30 : decode cX5_soil 30 = .ok (.invokestatic 232, 3) := by decide +kernel
theorem dX5_soil_33 : decode cX5_soil 33 = .ok (.putfield 223, 3) := by decide +kernel
theorem dX5_soil_36 : decode cX5_soil 36 = .ok (.iinc 1 1, 3) := by decide +kernel
theorem dX5_soil_39 : decode cX5_soil 39 = .ok (.goto (-37), 3) := by decide +kernel
theorem dX5_soil_42 : decode cX5_soil 42 = .ok (.return_, 1) := by decide +kernel
theorem dX5_cleanUpTo_0 : decode cX5_cleanUpTo 0 = .ok (.iconst 0, 1) := by decide +kernel
theorem dX5_cleanUpTo_1 : decode cX5_cleanUpTo 1 = .ok (.istore_n 2, 1) := by decide +kernel
theorem dX5_cleanUpTo_2 : decode cX5_cleanUpTo 2 = .ok (.iload_n 2, 1) := by decide +kernel
theorem dX5_cleanUpTo_3 : decode cX5_cleanUpTo 3 = .ok (.iload_n 1, 1) := by decide +kernel
theorem dX5_cleanUpTo_4 : decode cX5_cleanUpTo 4 = .ok (.if_icmp .gt 19, 3) := by decide +kernel
theorem dX5_cleanUpTo_7 : decode cX5_cleanUpTo 7 = .ok (.aload_n 0, 1) := by decide +kernel
theorem dX5_cleanUpTo_8 : decode cX5_cleanUpTo 8 = .ok (.getfield 11, 3) := by decide +kernel
theorem dX5_cleanUpTo_11 : decode cX5_cleanUpTo 11 = .ok (.iload_n 2, 1) := by decide +kernel
theorem dX5_cleanUpTo_12 : decode cX5_cleanUpTo 12 = .ok (.aaload, 1) := by decide +kernel
theorem dX5_cleanUpTo_13 : decode cX5_cleanUpTo 13 = .ok (.iconst 0, 1) := by decide +kernel
theorem dX5_cleanUpTo_14 : decode cX5_cleanUpTo 14 = .ok (.putfield 223, 3) := by decide +kernel
theorem dX5_cleanUpTo_17 : decode cX5_cleanUpTo 17 = .ok (.iinc 2 1, 3) := by decide +kernel
theorem dX5_cleanUpTo_20 : decode cX5_cleanUpTo 20 = .ok (.goto (-18), 3) := by decide +kernel
theorem dX5_cleanUpTo_23 : decode cX5_cleanUpTo 23 = .ok (.return_, 1) := by decide +kernel
set_option maxRecDepth 20000 in
theorem ggX5_mixOf_X5_wholeRoot : GoodIn wsX5_mixOf wsX5_wholeRoot := goodIn_r _ [6] (by decide +kernel) (by decide +kernel)
set_option maxRecDepth 20000 in
theorem gX5_mixOf_X5_wholeRoot : GoodIn wsX5_mixOf (wsV RX5 335 RX5 yX5_wholeRoot wsX5_wholeRoot) := goodIn_app (goodIn_of _ (by decide +kernel)) ggX5_mixOf_X5_wholeRoot
theorem dX5_mixOf_0 : decode cX5_mixOf 0 = .ok (.aload_n 1, 1) := by decide +kernel
theorem dX5_mixOf_1 : decode cX5_mixOf 1 = .ok (.getfield 323, 3) := by decide +kernel
theorem dX5_mixOf_4 : decode cX5_mixOf 4 = .ok (.ifnull 17, 3) := by decide +kernel
theorem dX5_mixOf_7 : decode cX5_mixOf 7 = .ok (.aload_n 1, 1) := by decide +kernel
theorem dX5_mixOf_8 : decode cX5_mixOf 8 = .ok (.getfield 323, 3) := by decide +kernel
theorem dX5_mixOf_11 : decode cX5_mixOf 11 = .ok (.getfield 168, 3) := by decide +kernel
theorem dX5_mixOf_14 : decode cX5_mixOf 14 = .ok (.aload_n 1, 1) := by decide +kernel
theorem dX5_mixOf_15 : decode cX5_mixOf 15 = .ok (.getfield 168, 3) := by decide +kernel
theorem dX5_mixOf_18 : decode cX5_mixOf 18 = .ok (.if_acmp .ne 5, 3) := by decide +kernel
theorem dX5_mixOf_21 : decode cX5_mixOf 21 = .ok (.iconst 0, 1) := by decide +kernel
theorem dX5_mixOf_22 : decode cX5_mixOf 22 = .ok (.ireturn, 1) := by decide +kernel
theorem dX5_mixOf_23 : decode cX5_mixOf 23 = .ok (.aload_n 1, 1) := by decide +kernel
theorem dX5_mixOf_24 : decode cX5_mixOf 24 = .ok (.getfield 317, 3) := by decide +kernel
theorem dX5_mixOf_27 : decode cX5_mixOf 27 = .ok (.ifCond .eq 10, 3) := by decide +kernel
theorem dX5_mixOf_30 : decode cX5_mixOf 30 = .ok (.aload_n 1, 1) := by decide +kernel
theorem dX5_mixOf_31 : decode cX5_mixOf 31 = .ok (.getfield 314, 3) := by decide +kernel
theorem dX5_mixOf_34 : decode cX5_mixOf 34 = .ok (.goto 16, 3) := by decide +kernel
theorem dX5_mixOf_37 : decode cX5_mixOf 37 = .ok (.aload_n 0, 1) := by decide +kernel
theorem dX5_mixOf_38 : decode cX5_mixOf 38 = .ok (.aload_n 0, 1) := by decide +kernel
theorem dX5_mixOf_39 : decode cX5_mixOf 39 = .ok (.getfield 326, 3) := by decide +kernel
theorem dX5_mixOf_42 : decode cX5_mixOf 42 = .ok (.aload_n 1, 1) := by decide +kernel
theorem dX5_mixOf_43 : decode cX5_mixOf 43 = .ok (.getfield 329, 3) := by decide +kernel
theorem dX5_mixOf_46 : decode cX5_mixOf 46 = .ok (.isub, 1) := by decide +kernel
theorem dX5_mixOf_47 : decode cX5_mixOf 47 = .ok (.invokevirtual 335, 3) := by decide +kernel
theorem dX5_mixOf_50 : decode cX5_mixOf 50 = .ok (.ireturn, 1) := by decide +kernel
theorem dX5_wholeRoot_0 : decode cX5_wholeRoot 0 = .ok (.iconst 0, 1) := by decide +kernel
theorem dX5_wholeRoot_1 : decode cX5_wholeRoot 1 = .ok (.istore_n 2, 1) := by decide +kernel
theorem dX5_wholeRoot_2 : decode cX5_wholeRoot 2 = .ok (.sipush 128, 3) := by decide +kernel
theorem dX5_wholeRoot_5 : decode cX5_wholeRoot 5 = .ok (.istore_n 3, 1) := by decide +kernel
theorem dX5_wholeRoot_6 : decode cX5_wholeRoot 6 = .ok (.iload_n 3, 1) := by decide +kernel
theorem dX5_wholeRoot_7 : decode cX5_wholeRoot 7 = .ok (.ifCond .le 25, 3) := by decide +kernel
theorem dX5_wholeRoot_10 : decode cX5_wholeRoot 10 = .ok (.iload_n 2, 1) := by decide +kernel
theorem dX5_wholeRoot_11 : decode cX5_wholeRoot 11 = .ok (.iload_n 3, 1) := by decide +kernel
theorem dX5_wholeRoot_12 : decode cX5_wholeRoot 12 = .ok (.iadd, 1) := by decide +kernel
theorem dX5_wholeRoot_13 : decode cX5_wholeRoot 13 = .ok (.iload_n 2, 1) := by decide +kernel
theorem dX5_wholeRoot_14 : decode cX5_wholeRoot 14 = .ok (.iload_n 3, 1) := by decide +kernel
theorem dX5_wholeRoot_15 : decode cX5_wholeRoot 15 = .ok (.iadd, 1) := by decide +kernel
theorem dX5_wholeRoot_16 : decode cX5_wholeRoot 16 = .ok (.imul, 1) := by decide +kernel
theorem dX5_wholeRoot_17 : decode cX5_wholeRoot 17 = .ok (.iload_n 1, 1) := by decide +kernel
theorem dX5_wholeRoot_18 : decode cX5_wholeRoot 18 = .ok (.if_icmp .gt 7, 3) := by decide +kernel
theorem dX5_wholeRoot_21 : decode cX5_wholeRoot 21 = .ok (.iload_n 2, 1) := by decide +kernel
theorem dX5_wholeRoot_22 : decode cX5_wholeRoot 22 = .ok (.iload_n 3, 1) := by decide +kernel
theorem dX5_wholeRoot_23 : decode cX5_wholeRoot 23 = .ok (.iadd, 1) := by decide +kernel
theorem dX5_wholeRoot_24 : decode cX5_wholeRoot 24 = .ok (.istore_n 2, 1) := by decide +kernel
theorem dX5_wholeRoot_25 : decode cX5_wholeRoot 25 = .ok (.iload_n 3, 1) := by decide +kernel
theorem dX5_wholeRoot_26 : decode cX5_wholeRoot 26 = .ok (.iconst 2, 1) := by decide +kernel
theorem dX5_wholeRoot_27 : decode cX5_wholeRoot 27 = .ok (.idiv, 1) := by decide +kernel
theorem dX5_wholeRoot_28 : decode cX5_wholeRoot 28 = .ok (.istore_n 3, 1) := by decide +kernel
theorem dX5_wholeRoot_29 : decode cX5_wholeRoot 29 = .ok (.goto (-23), 3) := by decide +kernel
theorem dX5_wholeRoot_32 : decode cX5_wholeRoot 32 = .ok (.iload_n 2, 1) := by decide +kernel
theorem dX5_wholeRoot_33 : decode cX5_wholeRoot 33 = .ok (.ireturn, 1) := by decide +kernel
set_option maxRecDepth 20000 in
theorem ggX5_pour_X5_mixOf : GoodIn wsX5_pour wsX5_mixOf := goodIn_r _ [9, 10, 11, 12, 13, 8, 14, 24, 25, 26, 27, 28, 29, 30, 31, 32, 33, 34, 35, 36, 42, 43, 44, 45, 46, 47, 48, 49, 50, 51, 52, 53, 54, 55, 56, 57, 58] (by decide +kernel) (by decide +kernel)
set_option maxRecDepth 20000 in
theorem gX5_pour_X5_mixOf : GoodIn wsX5_pour (wsV RX5 164 RX5 yX5_mixOf wsX5_mixOf) := goodIn_app (goodIn_of _ (by decide +kernel)) ggX5_pour_X5_mixOf
set_option maxRecDepth 20000 in
theorem ggX5_pour_X3_take : GoodIn wsX5_pour wsX3_take := goodIn_r _ [18, 19, 20, 21, 22, 2, 3, 4, 23, 59, 60, 61, 62] (by decide +kernel) (by decide +kernel)
set_option maxRecDepth 20000 in
theorem gX5_pour_X3_take_n339 : GoodIn wsX5_pour (wsX3_take) := ggX5_pour_X3_take
theorem dX5_pour_0 : decode cX5_pour 0 = .ok (.aload_n 1, 1) := by decide +kernel
theorem dX5_pour_1 : decode cX5_pour 1 = .ok (.getfield 168, 3) := by decide +kernel
theorem dX5_pour_4 : decode cX5_pour 4 = .ok (.getfield 338, 3) := by decide +kernel
theorem dX5_pour_7 : decode cX5_pour 7 = .ok (.istore 4, 2) := by decide +kernel
theorem dX5_pour_9 : decode cX5_pour 9 = .ok (.iconst 0, 1) := by decide +kernel
theorem dX5_pour_10 : decode cX5_pour 10 = .ok (.istore 5, 2) := by decide +kernel
theorem dX5_pour_12 : decode cX5_pour 12 = .ok (.aload_n 1, 1) := by decide +kernel
theorem dX5_pour_13 : decode cX5_pour 13 = .ok (.getfield 323, 3) := by decide +kernel
theorem dX5_pour_16 : decode cX5_pour 16 = .ok (.ifnull 34, 3) := by decide +kernel
theorem dX5_pour_19 : decode cX5_pour 19 = .ok (.iload_n 2, 1) := by decide +kernel
theorem dX5_pour_20 : decode cX5_pour 20 = .ok (.iconst 2, 1) := by decide +kernel
theorem dX5_pour_21 : decode cX5_pour 21 = .ok (.imul, 1) := by decide +kernel
theorem dX5_pour_22 : decode cX5_pour 22 = .ok (.aload_n 0, 1) := by decide +kernel
theorem dX5_pour_23 : decode cX5_pour 23 = .ok (.aload_n 1, 1) := by decide +kernel
theorem dX5_pour_24 : decode cX5_pour 24 = .ok (.invokevirtual 164, 3) := by decide +kernel
theorem dX5_pour_27 : decode cX5_pour 27 = .ok (.if_icmp .ge 23, 3) := by decide +kernel
theorem dX5_pour_30 : decode cX5_pour 30 = .ok (.iconst 1, 1) := by decide +kernel
theorem dX5_pour_31 : decode cX5_pour 31 = .ok (.istore 5, 2) := by decide +kernel
theorem dX5_pour_33 : decode cX5_pour 33 = .ok (.iload 4, 2) := by decide +kernel
theorem dX5_pour_35 : decode cX5_pour 35 = .ok (.aload_n 1, 1) := by decide +kernel
theorem dX5_pour_36 : decode cX5_pour 36 = .ok (.getfield 323, 3) := by decide +kernel
theorem dX5_pour_39 : decode cX5_pour 39 = .ok (.getfield 168, 3) := by decide +kernel
theorem dX5_pour_42 : decode cX5_pour 42 = .ok (.getfield 338, 3) := by decide +kernel
theorem dX5_pour_45 : decode cX5_pour 45 = .ok (.invokestatic 266, 3) := by decide +kernel
theorem dX5_pour_48 : decode cX5_pour 48 = .ok (.istore 4, 2) := by decide +kernel
theorem dX5_pour_50 : decode cX5_pour 50 = .ok (.aload_n 1, 1) := by decide +kernel
theorem dX5_pour_51 : decode cX5_pour 51 = .ok (.getfield 189, 3) := by decide +kernel
theorem dX5_pour_54 : decode cX5_pour 54 = .ok (.ifnull 44, 3) := by decide +kernel
theorem dX5_pour_57 : decode cX5_pour 57 = .ok (.aload_n 1, 1) := by decide +kernel
theorem dX5_pour_58 : decode cX5_pour 58 = .ok (.getfield 111, 3) := by decide +kernel
theorem dX5_pour_61 : decode cX5_pour 61 = .ok (.iconst 1, 1) := by decide +kernel
theorem dX5_pour_62 : decode cX5_pour 62 = .ok (.isub, 1) := by decide +kernel
theorem dX5_pour_63 : decode cX5_pour 63 = .ok (.iload_n 2, 1) := by decide +kernel
theorem dX5_pour_64 : decode cX5_pour 64 = .ok (.isub, 1) := by decide +kernel
theorem dX5_pour_65 : decode cX5_pour 65 = .ok (.iconst 2, 1) := by decide +kernel
theorem dX5_pour_66 : decode cX5_pour 66 = .ok (.imul, 1) := by decide +kernel
theorem dX5_pour_67 : decode cX5_pour 67 = .ok (.aload_n 0, 1) := by decide +kernel
theorem dX5_pour_68 : decode cX5_pour 68 = .ok (.aload_n 1, 1) := by decide +kernel
theorem dX5_pour_69 : decode cX5_pour 69 = .ok (.getfield 189, 3) := by decide +kernel
theorem dX5_pour_72 : decode cX5_pour 72 = .ok (.invokevirtual 164, 3) := by decide +kernel
theorem dX5_pour_75 : decode cX5_pour 75 = .ok (.if_icmp .ge 23, 3) := by decide +kernel
theorem dX5_pour_78 : decode cX5_pour 78 = .ok (.iconst 1, 1) := by decide +kernel
theorem dX5_pour_79 : decode cX5_pour 79 = .ok (.istore 5, 2) := by decide +kernel
theorem dX5_pour_81 : decode cX5_pour 81 = .ok (.iload 4, 2) := by decide +kernel
theorem dX5_pour_83 : decode cX5_pour 83 = .ok (.aload_n 1, 1) := by decide +kernel
theorem dX5_pour_84 : decode cX5_pour 84 = .ok (.getfield 189, 3) := by decide +kernel
theorem dX5_pour_87 : decode cX5_pour 87 = .ok (.getfield 168, 3) := by decide +kernel
theorem dX5_pour_90 : decode cX5_pour 90 = .ok (.getfield 338, 3) := by decide +kernel
theorem dX5_pour_93 : decode cX5_pour 93 = .ok (.invokestatic 266, 3) := by decide +kernel
theorem dX5_pour_96 : decode cX5_pour 96 = .ok (.istore 4, 2) := by decide +kernel
theorem dX5_pour_98 : decode cX5_pour 98 = .ok (.aload_n 3, 1) := by decide +kernel
theorem dX5_pour_99 : decode cX5_pour 99 = .ok (.iload 4, 2) := by decide +kernel
theorem dX5_pour_101 : decode cX5_pour 101 = .ok (.iload 5, 2) := by decide +kernel
theorem dX5_pour_103 : decode cX5_pour 103 = .ok (.invokevirtual 339, 3) := by decide +kernel
theorem dX5_pour_106 : decode cX5_pour 106 = .ok (.return_, 1) := by decide +kernel
theorem dX5_spilledInAll_0 : decode cX5_spilledInAll 0 = .ok (.iconst 0, 1) := by decide +kernel
theorem dX5_spilledInAll_1 : decode cX5_spilledInAll 1 = .ok (.istore_n 1, 1) := by decide +kernel
theorem dX5_spilledInAll_2 : decode cX5_spilledInAll 2 = .ok (.iconst 0, 1) := by decide +kernel
theorem dX5_spilledInAll_3 : decode cX5_spilledInAll 3 = .ok (.istore_n 2, 1) := by decide +kernel
theorem dX5_spilledInAll_4 : decode cX5_spilledInAll 4 = .ok (.iload_n 2, 1) := by decide +kernel
theorem dX5_spilledInAll_5 : decode cX5_spilledInAll 5 = .ok (.iconst 4, 1) := by decide +kernel
theorem dX5_spilledInAll_6 : decode cX5_spilledInAll 6 = .ok (.if_icmp .ge 21, 3) := by decide +kernel
theorem dX5_spilledInAll_9 : decode cX5_spilledInAll 9 = .ok (.iload_n 1, 1) := by decide +kernel
theorem dX5_spilledInAll_10 : decode cX5_spilledInAll 10 = .ok (.aload_n 0, 1) := by decide +kernel
theorem dX5_spilledInAll_11 : decode cX5_spilledInAll 11 = .ok (.getfield 29, 3) := by decide +kernel
theorem dX5_spilledInAll_14 : decode cX5_spilledInAll 14 = .ok (.iload_n 2, 1) := by decide +kernel
theorem dX5_spilledInAll_15 : decode cX5_spilledInAll 15 = .ok (.aaload, 1) := by decide +kernel
theorem dX5_spilledInAll_16 : decode cX5_spilledInAll 16 = .ok (.getfield 343, 3) := by decide +kernel
theorem dX5_spilledInAll_19 : decode cX5_spilledInAll 19 = .ok (.iadd, 1) := by decide +kernel
theorem dX5_spilledInAll_20 : decode cX5_spilledInAll 20 = .ok (.istore_n 1, 1) := by decide +kernel
theorem dX5_spilledInAll_21 : decode cX5_spilledInAll 21 = .ok (.iinc 2 1, 3) := by decide +kernel
theorem dX5_spilledInAll_24 : decode cX5_spilledInAll 24 = .ok (.goto (-20), 3) := by decide +kernel
theorem dX5_spilledInAll_27 : decode cX5_spilledInAll 27 = .ok (.iload_n 1, 1) := by decide +kernel
theorem dX5_spilledInAll_28 : decode cX5_spilledInAll 28 = .ok (.ireturn, 1) := by decide +kernel
theorem dX5_latestBalance_0 : decode cX5_latestBalance 0 = .ok (.iconst 0, 1) := by decide +kernel
theorem dX5_latestBalance_1 : decode cX5_latestBalance 1 = .ok (.istore_n 1, 1) := by decide +kernel
theorem dX5_latestBalance_2 : decode cX5_latestBalance 2 = .ok (.iconst 0, 1) := by decide +kernel
theorem dX5_latestBalance_3 : decode cX5_latestBalance 3 = .ok (.istore_n 2, 1) := by decide +kernel
theorem dX5_latestBalance_4 : decode cX5_latestBalance 4 = .ok (.iload_n 2, 1) := by decide +kernel
theorem dX5_latestBalance_5 : decode cX5_latestBalance 5 = .ok (.iconst 5, 1) := by decide +kernel
theorem dX5_latestBalance_6 : decode cX5_latestBalance 6 = .ok (.if_icmp .ge 18, 3) := by decide +kernel
theorem dX5_latestBalance_9 : decode cX5_latestBalance 9 = .ok (.iload_n 1, 1) := by decide +kernel
theorem dX5_latestBalance_10 : decode cX5_latestBalance 10 = .ok (.aload_n 0, 1) := by decide +kernel
theorem dX5_latestBalance_11 : decode cX5_latestBalance 11 = .ok (.getfield 33, 3) := by decide +kernel
theorem dX5_latestBalance_14 : decode cX5_latestBalance 14 = .ok (.iload_n 2, 1) := by decide +kernel
theorem dX5_latestBalance_15 : decode cX5_latestBalance 15 = .ok (.iaload, 1) := by decide +kernel
theorem dX5_latestBalance_16 : decode cX5_latestBalance 16 = .ok (.iadd, 1) := by decide +kernel
theorem dX5_latestBalance_17 : decode cX5_latestBalance 17 = .ok (.istore_n 1, 1) := by decide +kernel
theorem dX5_latestBalance_18 : decode cX5_latestBalance 18 = .ok (.iinc 2 1, 3) := by decide +kernel
theorem dX5_latestBalance_21 : decode cX5_latestBalance 21 = .ok (.goto (-17), 3) := by decide +kernel
theorem dX5_latestBalance_24 : decode cX5_latestBalance 24 = .ok (.iload_n 1, 1) := by decide +kernel
theorem dX5_latestBalance_25 : decode cX5_latestBalance 25 = .ok (.ireturn, 1) := by decide +kernel
set_option maxRecDepth 20000 in
theorem ggX5_waitingFor_X0_waiting : GoodIn wsX5_waitingFor wsX0_waiting := goodIn_r _ [6, 7, 8, 26, 27, 28, 29, 30, 31, 32, 33, 34, 35, 36, 37, 38] (by decide +kernel) (by decide +kernel)
set_option maxRecDepth 20000 in
theorem gX5_waitingFor_X0_waiting_n161 : GoodIn wsX5_waitingFor (wsX0_waiting) := ggX5_waitingFor_X0_waiting
theorem dX5_waitingFor_0 : decode cX5_waitingFor 0 = .ok (.iconst 0, 1) := by decide +kernel
theorem dX5_waitingFor_1 : decode cX5_waitingFor 1 = .ok (.istore_n 2, 1) := by decide +kernel
theorem dX5_waitingFor_2 : decode cX5_waitingFor 2 = .ok (.iconst 1, 1) := by decide +kernel
theorem dX5_waitingFor_3 : decode cX5_waitingFor 3 = .ok (.istore_n 3, 1) := by decide +kernel
theorem dX5_waitingFor_4 : decode cX5_waitingFor 4 = .ok (.iload_n 3, 1) := by decide +kernel
theorem dX5_waitingFor_5 : decode cX5_waitingFor 5 = .ok (.aload_n 0, 1) := by decide +kernel
theorem dX5_waitingFor_6 : decode cX5_waitingFor 6 = .ok (.getfield 50, 3) := by decide +kernel
theorem dX5_waitingFor_9 : decode cX5_waitingFor 9 = .ok (.if_icmp .ge 38, 3) := by decide +kernel
theorem dX5_waitingFor_12 : decode cX5_waitingFor 12 = .ok (.iload_n 2, 1) := by decide +kernel
theorem dX5_waitingFor_13 : decode cX5_waitingFor 13 = .ok (.aload_n 0, 1) := by decide +kernel
theorem dX5_waitingFor_14 : decode cX5_waitingFor 14 = .ok (.getfield 23, 3) := by decide +kernel
theorem dX5_waitingFor_17 : decode cX5_waitingFor 17 = .ok (.iload_n 3, 1) := by decide +kernel
theorem dX5_waitingFor_18 : decode cX5_waitingFor 18 = .ok (.aaload, 1) := by decide +kernel
theorem dX5_waitingFor_19 : decode cX5_waitingFor 19 = .ok (.getfield 346, 3) := by decide +kernel
theorem dX5_waitingFor_22 : decode cX5_waitingFor 22 = .ok (.iload_n 1, 1) := by decide +kernel
theorem dX5_waitingFor_23 : decode cX5_waitingFor 23 = .ok (.if_icmp .ne 15, 3) := by decide +kernel
theorem dX5_waitingFor_26 : decode cX5_waitingFor 26 = .ok (.aload_n 0, 1) := by decide +kernel
theorem dX5_waitingFor_27 : decode cX5_waitingFor 27 = .ok (.getfield 23, 3) := by decide +kernel
theorem dX5_waitingFor_30 : decode cX5_waitingFor 30 = .ok (.iload_n 3, 1) := by decide +kernel
theorem dX5_waitingFor_31 : decode cX5_waitingFor 31 = .ok (.aaload, 1) := by decide +kernel
theorem dX5_waitingFor_32 : decode cX5_waitingFor 32 = .ok (.invokevirtual 161, 3) := by decide +kernel
theorem dX5_waitingFor_35 : decode cX5_waitingFor 35 = .ok (.goto 4, 3) := by decide +kernel
theorem dX5_waitingFor_38 : decode cX5_waitingFor 38 = .ok (.iconst 0, 1) := by decide +kernel
theorem dX5_waitingFor_39 : decode cX5_waitingFor 39 = .ok (.iadd, 1) := by decide +kernel
theorem dX5_waitingFor_40 : decode cX5_waitingFor 40 = .ok (.istore_n 2, 1) := by decide +kernel
theorem dX5_waitingFor_41 : decode cX5_waitingFor 41 = .ok (.iinc 3 1, 3) := by decide +kernel
theorem dX5_waitingFor_44 : decode cX5_waitingFor 44 = .ok (.goto (-40), 3) := by decide +kernel
theorem dX5_waitingFor_47 : decode cX5_waitingFor 47 = .ok (.iload_n 2, 1) := by decide +kernel
theorem dX5_waitingFor_48 : decode cX5_waitingFor 48 = .ok (.ireturn, 1) := by decide +kernel
theorem dX5_claimOf_0 : decode cX5_claimOf 0 = .ok (.iconst 1, 1) := by decide +kernel
theorem dX5_claimOf_1 : decode cX5_claimOf 1 = .ok (.istore_n 2, 1) := by decide +kernel
theorem dX5_claimOf_2 : decode cX5_claimOf 2 = .ok (.iconst 1, 1) := by decide +kernel
theorem dX5_claimOf_3 : decode cX5_claimOf 3 = .ok (.istore_n 3, 1) := by decide +kernel
theorem dX5_claimOf_4 : decode cX5_claimOf 4 = .ok (.iload_n 3, 1) := by decide +kernel
theorem dX5_claimOf_5 : decode cX5_claimOf 5 = .ok (.aload_n 0, 1) := by decide +kernel
theorem dX5_claimOf_6 : decode cX5_claimOf 6 = .ok (.getfield 50, 3) := by decide +kernel
theorem dX5_claimOf_9 : decode cX5_claimOf 9 = .ok (.if_icmp .ge 38, 3) := by decide +kernel
theorem dX5_claimOf_12 : decode cX5_claimOf 12 = .ok (.iload_n 2, 1) := by decide +kernel
theorem dX5_claimOf_13 : decode cX5_claimOf 13 = .ok (.aload_n 0, 1) := by decide +kernel
theorem dX5_claimOf_14 : decode cX5_claimOf 14 = .ok (.getfield 23, 3) := by decide +kernel
theorem dX5_claimOf_17 : decode cX5_claimOf 17 = .ok (.iload_n 3, 1) := by decide +kernel
theorem dX5_claimOf_18 : decode cX5_claimOf 18 = .ok (.aaload, 1) := by decide +kernel
theorem dX5_claimOf_19 : decode cX5_claimOf 19 = .ok (.getfield 346, 3) := by decide +kernel
theorem dX5_claimOf_22 : decode cX5_claimOf 22 = .ok (.iload_n 1, 1) := by decide +kernel
theorem dX5_claimOf_23 : decode cX5_claimOf 23 = .ok (.if_icmp .ne 15, 3) := by decide +kernel
theorem dX5_claimOf_26 : decode cX5_claimOf 26 = .ok (.aload_n 0, 1) := by decide +kernel
theorem dX5_claimOf_27 : decode cX5_claimOf 27 = .ok (.getfield 23, 3) := by decide +kernel
theorem dX5_claimOf_30 : decode cX5_claimOf 30 = .ok (.iload_n 3, 1) := by decide +kernel
theorem dX5_claimOf_31 : decode cX5_claimOf 31 = .ok (.aaload, 1) := by decide +kernel
theorem dX5_claimOf_32 : decode cX5_claimOf 32 = .ok (.getfield 111, 3) := by decide +kernel
theorem dX5_claimOf_35 : decode cX5_claimOf 35 = .ok (.goto 4, 3) := by decide +kernel
theorem dX5_claimOf_38 : decode cX5_claimOf 38 = .ok (.iconst 0, 1) := by decide +kernel
theorem dX5_claimOf_39 : decode cX5_claimOf 39 = .ok (.iadd, 1) := by decide +kernel
theorem dX5_claimOf_40 : decode cX5_claimOf 40 = .ok (.istore_n 2, 1) := by decide +kernel
theorem dX5_claimOf_41 : decode cX5_claimOf 41 = .ok (.iinc 3 1, 3) := by decide +kernel
theorem dX5_claimOf_44 : decode cX5_claimOf 44 = .ok (.goto (-40), 3) := by decide +kernel
theorem dX5_claimOf_47 : decode cX5_claimOf 47 = .ok (.iload_n 2, 1) := by decide +kernel
theorem dX5_claimOf_48 : decode cX5_claimOf 48 = .ok (.ireturn, 1) := by decide +kernel
theorem dJ9_max_7cf53_0 : decode cJ9_max_7cf53 0 = .ok (.iload_n 0, 1) := by decide +kernel
theorem dJ9_max_7cf53_1 : decode cJ9_max_7cf53 1 = .ok (.iload_n 1, 1) := by decide +kernel
theorem dJ9_max_7cf53_2 : decode cJ9_max_7cf53 2 = .ok (.if_icmp .lt 7, 3) := by decide +kernel
theorem dJ9_max_7cf53_5 : decode cJ9_max_7cf53 5 = .ok (.iload_n 0, 1) := by decide +kernel
theorem dJ9_max_7cf53_6 : decode cJ9_max_7cf53 6 = .ok (.goto 4, 3) := by decide +kernel
theorem dJ9_max_7cf53_9 : decode cJ9_max_7cf53 9 = .ok (.iload_n 1, 1) := by decide +kernel
theorem dJ9_max_7cf53_10 : decode cJ9_max_7cf53 10 = .ok (.ireturn, 1) := by decide +kernel
theorem dJ9_min_7cf53_0 : decode cJ9_min_7cf53 0 = .ok (.iload_n 0, 1) := by decide +kernel
theorem dJ9_min_7cf53_1 : decode cJ9_min_7cf53 1 = .ok (.iload_n 1, 1) := by decide +kernel
theorem dJ9_min_7cf53_2 : decode cJ9_min_7cf53 2 = .ok (.if_icmp .gt 7, 3) := by decide +kernel
theorem dJ9_min_7cf53_5 : decode cJ9_min_7cf53 5 = .ok (.iload_n 0, 1) := by decide +kernel
theorem dJ9_min_7cf53_6 : decode cJ9_min_7cf53 6 = .ok (.goto 4, 3) := by decide +kernel
theorem dJ9_min_7cf53_9 : decode cJ9_min_7cf53 9 = .ok (.iload_n 1, 1) := by decide +kernel
theorem dJ9_min_7cf53_10 : decode cJ9_min_7cf53 10 = .ok (.ireturn, 1) := by decide +kernel
