section
-- ===== PART A: goes FIRST, ahead of the names: the tables' words, and 'selects' of the private methods out of them =====
/-- a private method of a class that the tables say can be made, by its rows of tables_1 -/
def lw_okq (q : MethodName × Nat) : Prop := (q.1.cls ≠ "java/lang/invoke/MethodHandle" ∧ q.1.cls ≠ "java/lang/invoke/VarHandle") ∧ Cond.instantiable q.1.cls q.2 ∈ tables_1 ∧ Cond.privateMethod q.1 ∈ tables_1 ∧ Cond.instanceMethod q.1 ∈ tables_1
theorem lw_p0 : lw_okq (⟨"BatchPipe", "checkRange", "(III)V"⟩, 17) := ⟨⟨by decide +kernel, by decide +kernel⟩, List.mem_of_getElem? (i := 16) (by decide +kernel), List.mem_of_getElem? (i := 246) (by decide +kernel), List.mem_of_getElem? (i := 247) (by decide +kernel)⟩
theorem lw_p1 : lw_okq (⟨"java/lang/Throwable", "fillInStackTrace", "(I)Ljava/lang/Throwable;"⟩, 6) := ⟨⟨by decide +kernel, by decide +kernel⟩, List.mem_of_getElem? (i := 288) (by decide +kernel), List.mem_of_getElem? (i := 286) (by decide +kernel), List.mem_of_getElem? (i := 287) (by decide +kernel)⟩
theorem lw_p2 : lw_okq (⟨"BatchPipe$Segment", "tell", "(III)V"⟩, 7) := ⟨⟨by decide +kernel, by decide +kernel⟩, List.mem_of_getElem? (i := 54) (by decide +kernel), List.mem_of_getElem? (i := 334) (by decide +kernel), List.mem_of_getElem? (i := 335) (by decide +kernel)⟩
theorem lw_p3 : lw_okq (⟨"BatchPipe", "checkIndex", "(II)V"⟩, 17) := ⟨⟨by decide +kernel, by decide +kernel⟩, List.mem_of_getElem? (i := 16) (by decide +kernel), List.mem_of_getElem? (i := 346) (by decide +kernel), List.mem_of_getElem? (i := 347) (by decide +kernel)⟩
theorem lw_p4 : lw_okq (⟨"BatchPipe$Product", "tell", "(IIII)V"⟩, 5) := ⟨⟨by decide +kernel, by decide +kernel⟩, List.mem_of_getElem? (i := 85) (by decide +kernel), List.mem_of_getElem? (i := 367) (by decide +kernel), List.mem_of_getElem? (i := 368) (by decide +kernel)⟩
theorem lw_p5 : lw_okq (⟨"BatchPipe", "fillSegments", "(I)I"⟩, 17) := ⟨⟨by decide +kernel, by decide +kernel⟩, List.mem_of_getElem? (i := 16) (by decide +kernel), List.mem_of_getElem? (i := 379) (by decide +kernel), List.mem_of_getElem? (i := 380) (by decide +kernel)⟩
theorem lw_p6 : lw_okq (⟨"BatchPipe$Segment", "fill", "(II)V"⟩, 7) := ⟨⟨by decide +kernel, by decide +kernel⟩, List.mem_of_getElem? (i := 54) (by decide +kernel), List.mem_of_getElem? (i := 383) (by decide +kernel), List.mem_of_getElem? (i := 384) (by decide +kernel)⟩
theorem lw_p7 : lw_okq (⟨"BatchPipe$Batch", "tell", "(ILBatchPipe$Product;I)V"⟩, 13) := ⟨⟨by decide +kernel, by decide +kernel⟩, List.mem_of_getElem? (i := 110) (by decide +kernel), List.mem_of_getElem? (i := 387) (by decide +kernel), List.mem_of_getElem? (i := 388) (by decide +kernel)⟩
theorem lw_p8 : lw_okq (⟨"BatchPipe$Tap", "tell", "(III)V"⟩, 4) := ⟨⟨by decide +kernel, by decide +kernel⟩, List.mem_of_getElem? (i := 32) (by decide +kernel), List.mem_of_getElem? (i := 391) (by decide +kernel), List.mem_of_getElem? (i := 392) (by decide +kernel)⟩
theorem lw_p9 : lw_okq (⟨"BatchPipe", "checkOnTheWay", "(I)V"⟩, 17) := ⟨⟨by decide +kernel, by decide +kernel⟩, List.mem_of_getElem? (i := 16) (by decide +kernel), List.mem_of_getElem? (i := 417) (by decide +kernel), List.mem_of_getElem? (i := 418) (by decide +kernel)⟩
theorem lw_p10 : lw_okq (⟨"BatchPipe$Tank", "pourOut", "()I"⟩, 4) := ⟨⟨by decide +kernel, by decide +kernel⟩, List.mem_of_getElem? (i := 162) (by decide +kernel), List.mem_of_getElem? (i := 442) (by decide +kernel), List.mem_of_getElem? (i := 443) (by decide +kernel)⟩
theorem lw_p11 : lw_okq (⟨"BatchPipe", "unitOf", "(LBatchPipe$Batch;I)I"⟩, 17) := ⟨⟨by decide +kernel, by decide +kernel⟩, List.mem_of_getElem? (i := 16) (by decide +kernel), List.mem_of_getElem? (i := 454) (by decide +kernel), List.mem_of_getElem? (i := 455) (by decide +kernel)⟩
theorem lw_p12 : lw_okq (⟨"BatchPipe", "passOne", "()I"⟩, 17) := ⟨⟨by decide +kernel, by decide +kernel⟩, List.mem_of_getElem? (i := 16) (by decide +kernel), List.mem_of_getElem? (i := 466) (by decide +kernel), List.mem_of_getElem? (i := 467) (by decide +kernel)⟩
theorem lw_p13 : lw_okq (⟨"BatchPipe", "findRate", "()I"⟩, 17) := ⟨⟨by decide +kernel, by decide +kernel⟩, List.mem_of_getElem? (i := 16) (by decide +kernel), List.mem_of_getElem? (i := 470) (by decide +kernel), List.mem_of_getElem? (i := 471) (by decide +kernel)⟩
theorem lw_p14 : lw_okq (⟨"BatchPipe", "noneAbove", "(I)Z"⟩, 17) := ⟨⟨by decide +kernel, by decide +kernel⟩, List.mem_of_getElem? (i := 16) (by decide +kernel), List.mem_of_getElem? (i := 474) (by decide +kernel), List.mem_of_getElem? (i := 475) (by decide +kernel)⟩
theorem lw_p15 : lw_okq (⟨"BatchPipe", "headAt", "(I)I"⟩, 17) := ⟨⟨by decide +kernel, by decide +kernel⟩, List.mem_of_getElem? (i := 16) (by decide +kernel), List.mem_of_getElem? (i := 478) (by decide +kernel), List.mem_of_getElem? (i := 479) (by decide +kernel)⟩
def lw_privs_1 : List (MethodName × Nat) := [(⟨"BatchPipe", "checkRange", "(III)V"⟩, 17), (⟨"java/lang/Throwable", "fillInStackTrace", "(I)Ljava/lang/Throwable;"⟩, 6), (⟨"BatchPipe$Segment", "tell", "(III)V"⟩, 7), (⟨"BatchPipe", "checkIndex", "(II)V"⟩, 17), (⟨"BatchPipe$Product", "tell", "(IIII)V"⟩, 5), (⟨"BatchPipe", "fillSegments", "(I)I"⟩, 17), (⟨"BatchPipe$Segment", "fill", "(II)V"⟩, 7), (⟨"BatchPipe$Batch", "tell", "(ILBatchPipe$Product;I)V"⟩, 13), (⟨"BatchPipe$Tap", "tell", "(III)V"⟩, 4), (⟨"BatchPipe", "checkOnTheWay", "(I)V"⟩, 17), (⟨"BatchPipe$Tank", "pourOut", "()I"⟩, 4), (⟨"BatchPipe", "unitOf", "(LBatchPipe$Batch;I)I"⟩, 17), (⟨"BatchPipe", "passOne", "()I"⟩, 17), (⟨"BatchPipe", "findRate", "()I"⟩, 17), (⟨"BatchPipe", "noneAbove", "(I)Z"⟩, 17), (⟨"BatchPipe", "headAt", "(I)I"⟩, 17)]
theorem lw_r1 : ∀ q ∈ lw_privs_1, lw_okq q := List.forall_mem_cons.mpr ⟨lw_p0, List.forall_mem_cons.mpr ⟨lw_p1, List.forall_mem_cons.mpr ⟨lw_p2, List.forall_mem_cons.mpr ⟨lw_p3, List.forall_mem_cons.mpr ⟨lw_p4, List.forall_mem_cons.mpr ⟨lw_p5, List.forall_mem_cons.mpr ⟨lw_p6, List.forall_mem_cons.mpr ⟨lw_p7, List.forall_mem_cons.mpr ⟨lw_p8, List.forall_mem_cons.mpr ⟨lw_p9, List.forall_mem_cons.mpr ⟨lw_p10, List.forall_mem_cons.mpr ⟨lw_p11, List.forall_mem_cons.mpr ⟨lw_p12, List.forall_mem_cons.mpr ⟨lw_p13, List.forall_mem_cons.mpr ⟨lw_p14, List.forall_mem_cons.mpr ⟨lw_p15, fun _ h => absurd h List.not_mem_nil⟩⟩⟩⟩⟩⟩⟩⟩⟩⟩⟩⟩⟩⟩⟩⟩
theorem lw_p16 : lw_okq (⟨"BatchPipe$Segment", "fromEnd", "(I)I"⟩, 7) := ⟨⟨by decide +kernel, by decide +kernel⟩, List.mem_of_getElem? (i := 54) (by decide +kernel), List.mem_of_getElem? (i := 482) (by decide +kernel), List.mem_of_getElem? (i := 483) (by decide +kernel)⟩
theorem lw_p17 : lw_okq (⟨"BatchPipe", "batchOf", "(I)LBatchPipe$Batch;"⟩, 17) := ⟨⟨by decide +kernel, by decide +kernel⟩, List.mem_of_getElem? (i := 16) (by decide +kernel), List.mem_of_getElem? (i := 486) (by decide +kernel), List.mem_of_getElem? (i := 487) (by decide +kernel)⟩
theorem lw_p18 : lw_okq (⟨"BatchPipe", "friction", "(LBatchPipe$Segment;I)I"⟩, 17) := ⟨⟨by decide +kernel, by decide +kernel⟩, List.mem_of_getElem? (i := 16) (by decide +kernel), List.mem_of_getElem? (i := 490) (by decide +kernel), List.mem_of_getElem? (i := 491) (by decide +kernel)⟩
theorem lw_p19 : lw_okq (⟨"BatchPipe", "atBeginning", "(II)I"⟩, 17) := ⟨⟨by decide +kernel, by decide +kernel⟩, List.mem_of_getElem? (i := 16) (by decide +kernel), List.mem_of_getElem? (i := 494) (by decide +kernel), List.mem_of_getElem? (i := 495) (by decide +kernel)⟩
theorem lw_p20 : lw_okq (⟨"BatchPipe", "moveOne", "()Z"⟩, 17) := ⟨⟨by decide +kernel, by decide +kernel⟩, List.mem_of_getElem? (i := 16) (by decide +kernel), List.mem_of_getElem? (i := 501) (by decide +kernel), List.mem_of_getElem? (i := 502) (by decide +kernel)⟩
theorem lw_p21 : lw_okq (⟨"BatchPipe", "nextBatch", "()LBatchPipe$Batch;"⟩, 17) := ⟨⟨by decide +kernel, by decide +kernel⟩, List.mem_of_getElem? (i := 16) (by decide +kernel), List.mem_of_getElem? (i := 505) (by decide +kernel), List.mem_of_getElem? (i := 506) (by decide +kernel)⟩
theorem lw_p22 : lw_okq (⟨"BatchPipe$Batch", "waiting", "()I"⟩, 13) := ⟨⟨by decide +kernel, by decide +kernel⟩, List.mem_of_getElem? (i := 110) (by decide +kernel), List.mem_of_getElem? (i := 509) (by decide +kernel), List.mem_of_getElem? (i := 510) (by decide +kernel)⟩
theorem lw_p23 : lw_okq (⟨"BatchPipe$Product", "bears", "(LBatchPipe$Product;)Z"⟩, 5) := ⟨⟨by decide +kernel, by decide +kernel⟩, List.mem_of_getElem? (i := 85) (by decide +kernel), List.mem_of_getElem? (i := 513) (by decide +kernel), List.mem_of_getElem? (i := 514) (by decide +kernel)⟩
theorem lw_p24 : lw_okq (⟨"BatchPipe", "nextTap", "()LBatchPipe$Tap;"⟩, 17) := ⟨⟨by decide +kernel, by decide +kernel⟩, List.mem_of_getElem? (i := 16) (by decide +kernel), List.mem_of_getElem? (i := 517) (by decide +kernel), List.mem_of_getElem? (i := 518) (by decide +kernel)⟩
theorem lw_p25 : lw_okq (⟨"BatchPipe$Tap", "takesMore", "()Z"⟩, 4) := ⟨⟨by decide +kernel, by decide +kernel⟩, List.mem_of_getElem? (i := 32) (by decide +kernel), List.mem_of_getElem? (i := 521) (by decide +kernel), List.mem_of_getElem? (i := 522) (by decide +kernel)⟩
theorem lw_p26 : lw_okq (⟨"BatchPipe", "sendOff", "(LBatchPipe$Tap;)V"⟩, 17) := ⟨⟨by decide +kernel, by decide +kernel⟩, List.mem_of_getElem? (i := 16) (by decide +kernel), List.mem_of_getElem? (i := 525) (by decide +kernel), List.mem_of_getElem? (i := 526) (by decide +kernel)⟩
theorem lw_p27 : lw_okq (⟨"BatchPipe", "placeOf", "(I)I"⟩, 17) := ⟨⟨by decide +kernel, by decide +kernel⟩, List.mem_of_getElem? (i := 16) (by decide +kernel), List.mem_of_getElem? (i := 529) (by decide +kernel), List.mem_of_getElem? (i := 530) (by decide +kernel)⟩
theorem lw_p28 : lw_okq (⟨"BatchPipe", "pour", "(LBatchPipe$Batch;ILBatchPipe$Tank;)V"⟩, 17) := ⟨⟨by decide +kernel, by decide +kernel⟩, List.mem_of_getElem? (i := 16) (by decide +kernel), List.mem_of_getElem? (i := 533) (by decide +kernel), List.mem_of_getElem? (i := 534) (by decide +kernel)⟩
theorem lw_p29 : lw_okq (⟨"BatchPipe", "mixOf", "(LBatchPipe$Batch;)I"⟩, 17) := ⟨⟨by decide +kernel, by decide +kernel⟩, List.mem_of_getElem? (i := 16) (by decide +kernel), List.mem_of_getElem? (i := 537) (by decide +kernel), List.mem_of_getElem? (i := 538) (by decide +kernel)⟩
theorem lw_p30 : lw_okq (⟨"BatchPipe", "wholeRoot", "(I)I"⟩, 17) := ⟨⟨by decide +kernel, by decide +kernel⟩, List.mem_of_getElem? (i := 16) (by decide +kernel), List.mem_of_getElem? (i := 541) (by decide +kernel), List.mem_of_getElem? (i := 542) (by decide +kernel)⟩
theorem lw_p31 : lw_okq (⟨"BatchPipe$Tank", "take", "(IZ)V"⟩, 4) := ⟨⟨by decide +kernel, by decide +kernel⟩, List.mem_of_getElem? (i := 162) (by decide +kernel), List.mem_of_getElem? (i := 545) (by decide +kernel), List.mem_of_getElem? (i := 546) (by decide +kernel)⟩
def lw_privs_2 : List (MethodName × Nat) := [(⟨"BatchPipe$Segment", "fromEnd", "(I)I"⟩, 7), (⟨"BatchPipe", "batchOf", "(I)LBatchPipe$Batch;"⟩, 17), (⟨"BatchPipe", "friction", "(LBatchPipe$Segment;I)I"⟩, 17), (⟨"BatchPipe", "atBeginning", "(II)I"⟩, 17), (⟨"BatchPipe", "moveOne", "()Z"⟩, 17), (⟨"BatchPipe", "nextBatch", "()LBatchPipe$Batch;"⟩, 17), (⟨"BatchPipe$Batch", "waiting", "()I"⟩, 13), (⟨"BatchPipe$Product", "bears", "(LBatchPipe$Product;)Z"⟩, 5), (⟨"BatchPipe", "nextTap", "()LBatchPipe$Tap;"⟩, 17), (⟨"BatchPipe$Tap", "takesMore", "()Z"⟩, 4), (⟨"BatchPipe", "sendOff", "(LBatchPipe$Tap;)V"⟩, 17), (⟨"BatchPipe", "placeOf", "(I)I"⟩, 17), (⟨"BatchPipe", "pour", "(LBatchPipe$Batch;ILBatchPipe$Tank;)V"⟩, 17), (⟨"BatchPipe", "mixOf", "(LBatchPipe$Batch;)I"⟩, 17), (⟨"BatchPipe", "wholeRoot", "(I)I"⟩, 17), (⟨"BatchPipe$Tank", "take", "(IZ)V"⟩, 4)]
theorem lw_r2 : ∀ q ∈ lw_privs_2, lw_okq q := List.forall_mem_cons.mpr ⟨lw_p16, List.forall_mem_cons.mpr ⟨lw_p17, List.forall_mem_cons.mpr ⟨lw_p18, List.forall_mem_cons.mpr ⟨lw_p19, List.forall_mem_cons.mpr ⟨lw_p20, List.forall_mem_cons.mpr ⟨lw_p21, List.forall_mem_cons.mpr ⟨lw_p22, List.forall_mem_cons.mpr ⟨lw_p23, List.forall_mem_cons.mpr ⟨lw_p24, List.forall_mem_cons.mpr ⟨lw_p25, List.forall_mem_cons.mpr ⟨lw_p26, List.forall_mem_cons.mpr ⟨lw_p27, List.forall_mem_cons.mpr ⟨lw_p28, List.forall_mem_cons.mpr ⟨lw_p29, List.forall_mem_cons.mpr ⟨lw_p30, List.forall_mem_cons.mpr ⟨lw_p31, fun _ h => absurd h List.not_mem_nil⟩⟩⟩⟩⟩⟩⟩⟩⟩⟩⟩⟩⟩⟩⟩⟩
theorem lw_p32 : lw_okq (⟨"BatchPipe", "cleanUpTo", "(I)V"⟩, 17) := ⟨⟨by decide +kernel, by decide +kernel⟩, List.mem_of_getElem? (i := 16) (by decide +kernel), List.mem_of_getElem? (i := 550) (by decide +kernel), List.mem_of_getElem? (i := 551) (by decide +kernel)⟩
theorem lw_p33 : lw_okq (⟨"BatchPipe", "bringIn", "(LBatchPipe$Batch;I)V"⟩, 17) := ⟨⟨by decide +kernel, by decide +kernel⟩, List.mem_of_getElem? (i := 16) (by decide +kernel), List.mem_of_getElem? (i := 554) (by decide +kernel), List.mem_of_getElem? (i := 555) (by decide +kernel)⟩
theorem lw_p34 : lw_okq (⟨"BatchPipe$Segment", "moveOn", "(I)V"⟩, 7) := ⟨⟨by decide +kernel, by decide +kernel⟩, List.mem_of_getElem? (i := 54) (by decide +kernel), List.mem_of_getElem? (i := 558) (by decide +kernel), List.mem_of_getElem? (i := 559) (by decide +kernel)⟩
theorem lw_p35 : lw_okq (⟨"BatchPipe", "soil", "()V"⟩, 17) := ⟨⟨by decide +kernel, by decide +kernel⟩, List.mem_of_getElem? (i := 16) (by decide +kernel), List.mem_of_getElem? (i := 562) (by decide +kernel), List.mem_of_getElem? (i := 563) (by decide +kernel)⟩
theorem lw_p36 : lw_okq (⟨"BatchPipe$Batch", "inPipe", "()I"⟩, 13) := ⟨⟨by decide +kernel, by decide +kernel⟩, List.mem_of_getElem? (i := 110) (by decide +kernel), List.mem_of_getElem? (i := 577) (by decide +kernel), List.mem_of_getElem? (i := 578) (by decide +kernel)⟩
theorem lw_p37 : lw_okq (⟨"BatchPipe", "checkUnit", "(I)V"⟩, 17) := ⟨⟨by decide +kernel, by decide +kernel⟩, List.mem_of_getElem? (i := 16) (by decide +kernel), List.mem_of_getElem? (i := 588) (by decide +kernel), List.mem_of_getElem? (i := 589) (by decide +kernel)⟩
theorem lw_p38 : lw_okq (⟨"BatchPipe", "latestBalance", "()I"⟩, 17) := ⟨⟨by decide +kernel, by decide +kernel⟩, List.mem_of_getElem? (i := 16) (by decide +kernel), List.mem_of_getElem? (i := 622) (by decide +kernel), List.mem_of_getElem? (i := 623) (by decide +kernel)⟩
theorem lw_p39 : lw_okq (⟨"BatchPipe", "spilledInAll", "()I"⟩, 17) := ⟨⟨by decide +kernel, by decide +kernel⟩, List.mem_of_getElem? (i := 16) (by decide +kernel), List.mem_of_getElem? (i := 626) (by decide +kernel), List.mem_of_getElem? (i := 627) (by decide +kernel)⟩
theorem lw_p40 : lw_okq (⟨"BatchPipe", "waitingFor", "(I)I"⟩, 17) := ⟨⟨by decide +kernel, by decide +kernel⟩, List.mem_of_getElem? (i := 16) (by decide +kernel), List.mem_of_getElem? (i := 644) (by decide +kernel), List.mem_of_getElem? (i := 645) (by decide +kernel)⟩
theorem lw_p41 : lw_okq (⟨"BatchPipe", "claimOf", "(I)I"⟩, 17) := ⟨⟨by decide +kernel, by decide +kernel⟩, List.mem_of_getElem? (i := 16) (by decide +kernel), List.mem_of_getElem? (i := 648) (by decide +kernel), List.mem_of_getElem? (i := 649) (by decide +kernel)⟩
theorem lw_p42 : lw_okq (⟨"BatchPipeModel", "goes", "(ZZZ)Z"⟩, 45) := ⟨⟨by decide +kernel, by decide +kernel⟩, List.mem_of_getElem? (i := 652) (by decide +kernel), List.mem_of_getElem? (i := 805) (by decide +kernel), List.mem_of_getElem? (i := 806) (by decide +kernel)⟩
theorem lw_p43 : lw_okq (⟨"BatchPipeModel", "isPlace", "(I)Z"⟩, 45) := ⟨⟨by decide +kernel, by decide +kernel⟩, List.mem_of_getElem? (i := 652) (by decide +kernel), List.mem_of_getElem? (i := 835) (by decide +kernel), List.mem_of_getElem? (i := 836) (by decide +kernel)⟩
theorem lw_p44 : lw_okq (⟨"BatchPipeModel", "passesMinute", "()I"⟩, 45) := ⟨⟨by decide +kernel, by decide +kernel⟩, List.mem_of_getElem? (i := 652) (by decide +kernel), List.mem_of_getElem? (i := 862) (by decide +kernel), List.mem_of_getElem? (i := 863) (by decide +kernel)⟩
theorem lw_p45 : lw_okq (⟨"BatchPipeModel", "rateThatGoes", "()I"⟩, 45) := ⟨⟨by decide +kernel, by decide +kernel⟩, List.mem_of_getElem? (i := 652) (by decide +kernel), List.mem_of_getElem? (i := 866) (by decide +kernel), List.mem_of_getElem? (i := 867) (by decide +kernel)⟩
theorem lw_p46 : lw_okq (⟨"BatchPipeModel", "pressureOf", "(II)I"⟩, 45) := ⟨⟨by decide +kernel, by decide +kernel⟩, List.mem_of_getElem? (i := 652) (by decide +kernel), List.mem_of_getElem? (i := 870) (by decide +kernel), List.mem_of_getElem? (i := 871) (by decide +kernel)⟩
theorem lw_p47 : lw_okq (⟨"BatchPipeModel", "lastOf", "(I)I"⟩, 45) := ⟨⟨by decide +kernel, by decide +kernel⟩, List.mem_of_getElem? (i := 652) (by decide +kernel), List.mem_of_getElem? (i := 874) (by decide +kernel), List.mem_of_getElem? (i := 875) (by decide +kernel)⟩
def lw_privs_3 : List (MethodName × Nat) := [(⟨"BatchPipe", "cleanUpTo", "(I)V"⟩, 17), (⟨"BatchPipe", "bringIn", "(LBatchPipe$Batch;I)V"⟩, 17), (⟨"BatchPipe$Segment", "moveOn", "(I)V"⟩, 7), (⟨"BatchPipe", "soil", "()V"⟩, 17), (⟨"BatchPipe$Batch", "inPipe", "()I"⟩, 13), (⟨"BatchPipe", "checkUnit", "(I)V"⟩, 17), (⟨"BatchPipe", "latestBalance", "()I"⟩, 17), (⟨"BatchPipe", "spilledInAll", "()I"⟩, 17), (⟨"BatchPipe", "waitingFor", "(I)I"⟩, 17), (⟨"BatchPipe", "claimOf", "(I)I"⟩, 17), (⟨"BatchPipeModel", "goes", "(ZZZ)Z"⟩, 45), (⟨"BatchPipeModel", "isPlace", "(I)Z"⟩, 45), (⟨"BatchPipeModel", "passesMinute", "()I"⟩, 45), (⟨"BatchPipeModel", "rateThatGoes", "()I"⟩, 45), (⟨"BatchPipeModel", "pressureOf", "(II)I"⟩, 45), (⟨"BatchPipeModel", "lastOf", "(I)I"⟩, 45)]
theorem lw_r3 : ∀ q ∈ lw_privs_3, lw_okq q := List.forall_mem_cons.mpr ⟨lw_p32, List.forall_mem_cons.mpr ⟨lw_p33, List.forall_mem_cons.mpr ⟨lw_p34, List.forall_mem_cons.mpr ⟨lw_p35, List.forall_mem_cons.mpr ⟨lw_p36, List.forall_mem_cons.mpr ⟨lw_p37, List.forall_mem_cons.mpr ⟨lw_p38, List.forall_mem_cons.mpr ⟨lw_p39, List.forall_mem_cons.mpr ⟨lw_p40, List.forall_mem_cons.mpr ⟨lw_p41, List.forall_mem_cons.mpr ⟨lw_p42, List.forall_mem_cons.mpr ⟨lw_p43, List.forall_mem_cons.mpr ⟨lw_p44, List.forall_mem_cons.mpr ⟨lw_p45, List.forall_mem_cons.mpr ⟨lw_p46, List.forall_mem_cons.mpr ⟨lw_p47, fun _ h => absurd h List.not_mem_nil⟩⟩⟩⟩⟩⟩⟩⟩⟩⟩⟩⟩⟩⟩⟩⟩
theorem lw_p48 : lw_okq (⟨"BatchPipeModel", "entering", "()I"⟩, 45) := ⟨⟨by decide +kernel, by decide +kernel⟩, List.mem_of_getElem? (i := 652) (by decide +kernel), List.mem_of_getElem? (i := 878) (by decide +kernel), List.mem_of_getElem? (i := 879) (by decide +kernel)⟩
theorem lw_p49 : lw_okq (⟨"BatchPipeModel", "moves", "(III)V"⟩, 45) := ⟨⟨by decide +kernel, by decide +kernel⟩, List.mem_of_getElem? (i := 652) (by decide +kernel), List.mem_of_getElem? (i := 885) (by decide +kernel), List.mem_of_getElem? (i := 886) (by decide +kernel)⟩
theorem lw_p50 : lw_okq (⟨"BatchPipeModel", "goesAway", "(III)V"⟩, 45) := ⟨⟨by decide +kernel, by decide +kernel⟩, List.mem_of_getElem? (i := 652) (by decide +kernel), List.mem_of_getElem? (i := 889) (by decide +kernel), List.mem_of_getElem? (i := 890) (by decide +kernel)⟩
theorem lw_p51 : lw_okq (⟨"BatchPipeModel", "clean", "(I)V"⟩, 45) := ⟨⟨by decide +kernel, by decide +kernel⟩, List.mem_of_getElem? (i := 652) (by decide +kernel), List.mem_of_getElem? (i := 893) (by decide +kernel), List.mem_of_getElem? (i := 894) (by decide +kernel)⟩
theorem lw_p52 : lw_okq (⟨"BatchPipeModel", "comesInto", "(III)V"⟩, 45) := ⟨⟨by decide +kernel, by decide +kernel⟩, List.mem_of_getElem? (i := 652) (by decide +kernel), List.mem_of_getElem? (i := 897) (by decide +kernel), List.mem_of_getElem? (i := 898) (by decide +kernel)⟩
theorem lw_p53 : lw_okq (⟨"BatchPipeModel", "isMixedAhead", "(II)Z"⟩, 45) := ⟨⟨by decide +kernel, by decide +kernel⟩, List.mem_of_getElem? (i := 652) (by decide +kernel), List.mem_of_getElem? (i := 901) (by decide +kernel), List.mem_of_getElem? (i := 902) (by decide +kernel)⟩
theorem lw_p54 : lw_okq (⟨"BatchPipeModel", "mixOf", "(I)I"⟩, 45) := ⟨⟨by decide +kernel, by decide +kernel⟩, List.mem_of_getElem? (i := 652) (by decide +kernel), List.mem_of_getElem? (i := 905) (by decide +kernel), List.mem_of_getElem? (i := 906) (by decide +kernel)⟩
theorem lw_p55 : lw_okq (⟨"BatchPipeModel", "isMixedBehind", "(II)Z"⟩, 45) := ⟨⟨by decide +kernel, by decide +kernel⟩, List.mem_of_getElem? (i := 652) (by decide +kernel), List.mem_of_getElem? (i := 912) (by decide +kernel), List.mem_of_getElem? (i := 913) (by decide +kernel)⟩
theorem lw_p56 : lw_okq (⟨"BatchPipeModel", "isBatch", "(I)Z"⟩, 45) := ⟨⟨by decide +kernel, by decide +kernel⟩, List.mem_of_getElem? (i := 652) (by decide +kernel), List.mem_of_getElem? (i := 920) (by decide +kernel), List.mem_of_getElem? (i := 921) (by decide +kernel)⟩
theorem lw_p57 : lw_okq (⟨"BatchPipeModel", "isSegment", "(I)Z"⟩, 45) := ⟨⟨by decide +kernel, by decide +kernel⟩, List.mem_of_getElem? (i := 652) (by decide +kernel), List.mem_of_getElem? (i := 937) (by decide +kernel), List.mem_of_getElem? (i := 938) (by decide +kernel)⟩
theorem lw_p58 : lw_okq (⟨"BatchPipeModel", "balance", "()I"⟩, 45) := ⟨⟨by decide +kernel, by decide +kernel⟩, List.mem_of_getElem? (i := 652) (by decide +kernel), List.mem_of_getElem? (i := 949) (by decide +kernel), List.mem_of_getElem? (i := 950) (by decide +kernel)⟩
theorem lw_p59 : lw_okq (⟨"BatchPipeModel", "waits", "(I)I"⟩, 45) := ⟨⟨by decide +kernel, by decide +kernel⟩, List.mem_of_getElem? (i := 652) (by decide +kernel), List.mem_of_getElem? (i := 961) (by decide +kernel), List.mem_of_getElem? (i := 962) (by decide +kernel)⟩
theorem lw_p60 : lw_okq (⟨"BatchPipeModel", "enteredOf", "(I)I"⟩, 45) := ⟨⟨by decide +kernel, by decide +kernel⟩, List.mem_of_getElem? (i := 652) (by decide +kernel), List.mem_of_getElem? (i := 965) (by decide +kernel), List.mem_of_getElem? (i := 966) (by decide +kernel)⟩
def lw_privs_4 : List (MethodName × Nat) := [(⟨"BatchPipeModel", "entering", "()I"⟩, 45), (⟨"BatchPipeModel", "moves", "(III)V"⟩, 45), (⟨"BatchPipeModel", "goesAway", "(III)V"⟩, 45), (⟨"BatchPipeModel", "clean", "(I)V"⟩, 45), (⟨"BatchPipeModel", "comesInto", "(III)V"⟩, 45), (⟨"BatchPipeModel", "isMixedAhead", "(II)Z"⟩, 45), (⟨"BatchPipeModel", "mixOf", "(I)I"⟩, 45), (⟨"BatchPipeModel", "isMixedBehind", "(II)Z"⟩, 45), (⟨"BatchPipeModel", "isBatch", "(I)Z"⟩, 45), (⟨"BatchPipeModel", "isSegment", "(I)Z"⟩, 45), (⟨"BatchPipeModel", "balance", "()I"⟩, 45), (⟨"BatchPipeModel", "waits", "(I)I"⟩, 45), (⟨"BatchPipeModel", "enteredOf", "(I)I"⟩, 45)]
theorem lw_r4 : ∀ q ∈ lw_privs_4, lw_okq q := List.forall_mem_cons.mpr ⟨lw_p48, List.forall_mem_cons.mpr ⟨lw_p49, List.forall_mem_cons.mpr ⟨lw_p50, List.forall_mem_cons.mpr ⟨lw_p51, List.forall_mem_cons.mpr ⟨lw_p52, List.forall_mem_cons.mpr ⟨lw_p53, List.forall_mem_cons.mpr ⟨lw_p54, List.forall_mem_cons.mpr ⟨lw_p55, List.forall_mem_cons.mpr ⟨lw_p56, List.forall_mem_cons.mpr ⟨lw_p57, List.forall_mem_cons.mpr ⟨lw_p58, List.forall_mem_cons.mpr ⟨lw_p59, List.forall_mem_cons.mpr ⟨lw_p60, fun _ h => absurd h List.not_mem_nil⟩⟩⟩⟩⟩⟩⟩⟩⟩⟩⟩⟩⟩
def lw_privs : List (MethodName × Nat) := lw_privs_1 ++ (lw_privs_2 ++ (lw_privs_3 ++ (lw_privs_4)))
def lw_tbl : List Cond := k2_sels lw_privs ++ tables_1
theorem lw_privs_ok : ∀ q ∈ lw_privs, lw_okq q := by
  show ∀ q ∈ lw_privs_1 ++ (lw_privs_2 ++ (lw_privs_3 ++ (lw_privs_4))), lw_okq q
  exact List.forall_mem_append.mpr ⟨lw_r1, List.forall_mem_append.mpr ⟨lw_r2, List.forall_mem_append.mpr ⟨lw_r3, lw_r4⟩⟩⟩
-- ===== end of PART A; then your names; then what follows =====
end
section
/-! ===== BEGIN words of one list among another's, by their places ===== -/
theorem goodIn_r {big : List Cond} (ws : List Cond) (ps : List Nat) (hp : ws = ps.filterMap (fun i => big[i]?)) (h : ws.all goodWord = true) : GoodIn big ws := by
  intro w hw
  have h1 := List.all_eq_true.mp h w hw
  rw [hp] at hw
  obtain ⟨i, -, hi⟩ := List.mem_filterMap.mp hw
  have hm : w ∈ big := by first | exact List.mem_of_getElem? hi | exact List.getElem?_mem hi
  exact ⟨hm, good_of_word h1⟩
theorem goodIn_app {big a b : List Cond} (ha : GoodIn big a) (hb : GoodIn big b) : GoodIn big (a ++ b) := fun w h => (List.mem_append.mp h).elim (ha w) (hb w)
theorem goodIn_ca {big a b : List Cond} {c : Cond} (ha : GoodIn big (c :: a)) (hb : GoodIn big b) : GoodIn big (c :: (a ++ b)) := fun w h => (List.mem_cons.mp h).elim (fun e => ha w (List.mem_cons.mpr (Or.inl e))) (fun h => (List.mem_append.mp h).elim (fun h => ha w (List.mem_cons.mpr (Or.inr h))) (hb w))
theorem goodIn_sub {big ws : List Cond} (hm : ∀ w ∈ ws, w ∈ big) (h : ws.all goodWord = true) : GoodIn big ws := fun w hw => ⟨hm w hw, good_of_word (List.all_eq_true.mp h w hw)⟩
/-! ===== END ===== -/

/-! ===== BEGIN exceptions that leave a method, and their catching by the caller (launches without stack traces) ===== -/
section VXA
/-! The laws vx_back, vx_callV, vx_callS, vx_callSW, vx_throw0, vx_throwS follow proofs of the library, with one case more: JvmDerived/Free/Laws.lean (Back.of_free), Shelf42/LK1.lean (callV, callS), Shelf/KitTraced.lean (throwNew0V, throwNewS). -/
/-- where a method has thrown q: the class by its name, the cell, what was written, the world -/
def vx_T (XC : String → State → State → Prop) (st : State) (q : Addr) (t : State) (mc ms : Nat) (free : Addr → Prop) : Prop :=
  ∃ (E : String) (ce : Cell) (L : List Loc), XC E st t ∧ t.heap[q]? = some ce ∧ ce.vm = .none ∧ st.vm.findClass E = some ce.cls ∧ st.WarmedH t.vm ∧ st.sameButNew ({ t with vm := st.vm } : State) L mc ms ∧ ∀ z ∈ L, free z.base
def vx_Q (Qc : Array Value → State → Outcome → State → Prop) (XC : String → State → State → Prop) (mc ms : Nat) (free : Addr → Prop) : Array Value → State → Outcome → State → Prop := fun a st o t =>
  (Qc a st o t ∧ ∃ L, FrameEnd st o t L mc ms ∧ ∀ q ∈ L, free q.base) ∨ ∃ q, o = .threw q ∧ vx_T XC st q t mc ms free
/-- a callee that returns or throws -/
def vx_Met (l : Launch) (y : MethodName) (ws : List Cond) (rm : Room) (Pc : Array Value → State → Prop) (Qc : Array Value → State → Outcome → State → Prop) (XC : String → State → State → Prop) (mc ms : Nat) (free : Addr → Prop) : Prop :=
  MetFree l y (headSpec ws rm) Pc (fun _ _ _ _ _ => True) (vx_Q Qc XC mc ms free)
def vx_Post (XC : String → State → State → Prop) (mc ms : Nat) (free : Addr → Prop) : Pt → Array Value → Addr → Pt → Prop := fun A a q B =>
  ∃ (g : JFrame) (mk : MethodId) (t : State) (L : List Loc) (E : String) (ce : Cell), B.U.heap = t.heap ∧ B.U.vm = t.vm ∧ XC E (A.U.calling g mk a) t ∧ t.heap[q]? = some ce ∧ ce.vm = .none ∧ A.U.vm.findClass E = some ce.cls ∧ B.locs = A.locs ++ L ∧ (∀ z ∈ L, free z.base) ∧ B.cells = A.cells + mc ∧ B.slots = A.slots + ms
def vx_Back (l : Launch) (R : Room) (p : Program) (e : Env) (below : List Frame) (s : State) (sargs : Array Value) (y : MethodName) (len W9 : Nat)
    (Pre : Pt → Array Value → Prop) (Post : Pt → Array Value → Option Value → Pt → Prop) (PostX : Pt → Array Value → Addr → Pt → Prop) : Prop :=
  ∀ (m : MethodId) (meth : Method) (c : Code) (A : Pt) (g : JFrame) (ig : Instr) (mk : MethodId) (a : Array Value),
    Stand p l e R s m sargs below meth c A.U A.locs A.cells A.slots → g.method = m → g.locals.size = c.maxLocals → decode c.code g.pc = .ok (ig, len) →
    2 * g.monitorRoom + (g.stack.map fun v => v.category).sum ≤ W9 → A.U.methodNamed? y = some mk → Pre A a →
    (∃ (v : Option Value) (B : Pt), Stand p l e R s m sargs below meth c B.U B.locs B.cells B.slots ∧ Post A a v B ∧
      Steps p.tables e below (doInvoke e (A.U.setTop g) [] mk a).1 (B.U.setTop { g with pc := g.pc + len, stack := v.toList ++ g.stack })) ∨
    (∃ (q : Addr) (B : Pt), Stand p l e R s m sargs below meth c B.U B.locs B.cells B.slots ∧ PostX A a q B ∧
      Steps p.tables e below (doInvoke e (A.U.setTop g) [] mk a).1 ((B.U.setTop g).pushFrame (.throwing q)))
section Payer
variable {l : Launch} {R : Room} {p : Program} {e : Env} {below : List Frame} {s : State} {sargs : Array Value} {y : MethodName} {len W9 : Nat}
theorem vx_back {ws : List Cond} {rm : Room} {Pc : Array Value → State → Prop} {Qc : Array Value → State → Outcome → State → Prop} {XC : String → State → State → Prop} {mc ms : Nat} {free : Addr → Prop} {bytes : ByteArray} {maxL : Nat} {ret : Option FieldType}
    (hM : vx_Met l y ws rm Pc Qc XC mc ms free) (hblind : FrameBlind Pc) (hrc : rm.cells = mc) (hrs : rm.slots = ms)
    (hframes : rm.frames + 1 ≤ R.frames) (hlocals : W9 + (maxL + 11) + rm.locals ≤ R.locals)
    (hws : ∀ w ∈ ws, ∀ a' U, s.WarmedH U.vm → w.before a' U = true) (hcode : Cond.code y bytes maxL ret ∈ ws) (hinit : ∀ a' U, s.WarmedH U.vm → (Cond.initialized y.cls).before a' U = true) :
    vx_Back l R p e below s sargs y len W9 (PreOf R mc ms Pc) (PostOf Qc mc ms free) (vx_Post XC mc ms free) := by
  intro m meth c A g ig mk a X hg hsize hdg hW hn hp
  have h1 : (headSpec ws rm).pre.before a A.U = true := atoms_intro fun w hw => hws w hw _ _ X.warmed
  have h2 : (Cond.code y bytes maxL ret).before a A.U = true := hws _ hcode _ _ X.warmed
  have h3 : (Cond.initialized y.cls).before a A.U = true := hinit _ _ X.warmed
  have h4 : A.cells + (headSpec ws rm).room.cells ≤ R.cells := by rw [show (headSpec ws rm).room.cells = mc from hrc]; exact hp.1
  have h5 : A.slots + (headSpec ws rm).room.slots ≤ R.slots := by rw [show (headSpec ws rm).room.slots = ms from hrs]; exact hp.2.1
  have hPc : Pc a (A.U.calling g mk a) := hblind _ _ _ _ hp.2.2
  obtain ⟨U, Ls, c0, s0⟩ := A
  dsimp only [Pt.U, Pt.locs, Pt.cells, Pt.slots] at h1 h2 h3 h4 h5 X hn hPc ⊢
  obtain ⟨methY, cY, hmY, hcY, -, hlY, -, -, -, -⟩ := Cond.code_spec hn h2
  obtain ⟨kY, hkY, -⟩ := className_of_methodNamed hn
  have hinitY : kY.init = .initialized := Cond.initialized_spec (findClass_of_methodNamed hn) hkY h3
  have h : At U g.method c below := by rw [hg]; exact X.here
  have hlocals9 : W9 + (maxL + 11) + (headSpec ws rm).room.locals ≤ R.locals := hlocals
  have happ : (headSpec ws rm).appliesLoose y e.platform (U.calling g mk a) = true :=
    Spec.appliesLoose_calling (g := g) h hdg hn hkY hinitY
      (X.room_calling (g := g) (R' := (headSpec ws rm).room) hsize hmY hcY hframes (by rw [hlY]; omega) h4 h5) h1
  obtain ⟨mid, hmid⟩ := h.above
  have hfr : (U.setTop g).frames = (.java g :: mid) ++ below := by rw [State.frames_setTop' g h.top, hmid]; rfl
  obtain ⟨o, s₂, hsteps, -, hend, hq⟩ := Steps.callFree hM p X.admits X.cas X.clock (acts := []) hfr happ hPc trivial
  have hq' : vx_Q Qc XC mc ms free a (U.calling g mk a) o s₂ := hq
  rw [State.frames_setTop' g h.top] at hend
  obtain ⟨g₀, hg0⟩ := Option.isSome_iff_exists.mp h.top
  obtain ⟨r, hr⟩ := State.topJava?_eq_some.mp hg0
  have hr' : (({ U with heap := s₂.heap, slotsUsed := s₂.slotsUsed } : State).setVm s₂.vm).frames = .java g₀ :: r := hr
  rcases hq' with ⟨hqc, L, hfe, hL⟩ | ⟨q, rfl, E, ce, L, hx, hce, hcv, hcl, hW₂, hsm, hL⟩
  · obtain ⟨⟨v, rfl⟩, hW₂, e2, q2, q3, q4, q5, q6⟩ := id hfe
    have e3 : s₂ = ({ (U.calling g mk a).setFrames s₂.frames with heap := s₂.heap, slotsUsed := s₂.slotsUsed } : State).setVm s₂.vm := by
      have : s₂ = ({ s₂ with vm := (U.calling g mk a).vm } : State).setVm s₂.vm := rfl
      rw [e2] at this
      exact this
    obtain ⟨c₂, i₂, len₂, hc₂, hd₂, hf₂⟩ := hend
    have hW' : U.WarmedH s₂.vm := hW₂
    have hcc : c₂ = c := by
      have h1 : s₂.code? g.method = U.code? g.method := by
        rw [State.code?_eq, State.code?_eq, hW'.alike.method?]
      exact Option.some.inj (hc₂.symm.trans (h1.trans h.code))
    subst hcc
    have hlen : len₂ = len := by rw [hdg] at hd₂; cases hd₂; rfl
    subst hlen
    have hs₂ : s₂ = (({ U with heap := s₂.heap, slotsUsed := s₂.slotsUsed } : State).setVm s₂.vm).setTop { g with pc := g.pc + len₂, stack := v.toList ++ g.stack } := by
      refine e3.trans ?_
      rw [hf₂, State.calling_eq h.top, State.setFrames_setFrames, State.setTop_of_frames _ hr', hr]
      rfl
    have hsame : U.sameButNew ({ U with heap := s₂.heap, slotsUsed := s₂.slotsUsed } : State) L mc ms := by
      refine ⟨?_, q2, q3, q4, q5, q6⟩
      obtain ⟨t, ht, -⟩ := State.frames_cons hr
      show ({ U with heap := s₂.heap, slotsUsed := s₂.slotsUsed } : State) = { U.setFrames U.frames with heap := s₂.heap, slotsUsed := s₂.slotsUsed }
      rw [State.setFrames_self ht]
    subst hg
    refine Or.inl ⟨v, ⟨(({ U with heap := s₂.heap, slotsUsed := s₂.slotsUsed } : State).setVm s₂.vm), Ls ++ L, c0 + mc, s0 + ms⟩,
      ⟨X.admits, X.cas, X.clock, X.frames, X.room, X.hears, X.method, X.code, (X.here.setHeapUsed s₂.heap s₂.slotsUsed).setVm hW'.alike, X.tail, State.WarmedH.trans X.warmed hW', X.limits, X.bytes, X.same.trans (hsame.setVm s.vm)⟩,
      ⟨g, mk, s₂, L, rfl, rfl, hqc, rfl, hL, rfl, rfl⟩, ?_⟩
    show Steps p.tables e below _ ((({ U with heap := s₂.heap, slotsUsed := s₂.slotsUsed } : State).setVm s₂.vm).setTop { g with pc := g.pc + len₂, stack := v.toList ++ g.stack })
    rw [← hs₂]
    exact hsteps
  · obtain ⟨e2, q2, q3, q4, q5, q6⟩ := id hsm
    have e3 : s₂ = ({ (U.calling g mk a).setFrames s₂.frames with heap := s₂.heap, slotsUsed := s₂.slotsUsed } : State).setVm s₂.vm := by
      have : s₂ = ({ s₂ with vm := (U.calling g mk a).vm } : State).setVm s₂.vm := rfl
      rw [e2] at this
      exact this
    have hf₂ : s₂.frames = .throwing q :: .java g :: U.frames.tail := hend
    have hW' : U.WarmedH s₂.vm := hW₂
    have hs₂ : s₂ = ((({ U with heap := s₂.heap, slotsUsed := s₂.slotsUsed } : State).setVm s₂.vm).setTop g).pushFrame (.throwing q) := by
      refine e3.trans ?_
      rw [hf₂, State.calling_eq h.top, State.setFrames_setFrames, State.pushFrame, State.frames_setTop _ hr', State.setTop_of_frames _ hr', State.setFrames_setFrames, hr]
      rfl
    have hsame : U.sameButNew ({ U with heap := s₂.heap, slotsUsed := s₂.slotsUsed } : State) L mc ms := by
      refine ⟨?_, q2, q3, q4, q5, q6⟩
      obtain ⟨t, ht, -⟩ := State.frames_cons hr
      show ({ U with heap := s₂.heap, slotsUsed := s₂.slotsUsed } : State) = { U.setFrames U.frames with heap := s₂.heap, slotsUsed := s₂.slotsUsed }
      rw [State.setFrames_self ht]
    subst hg
    refine Or.inr ⟨q, ⟨(({ U with heap := s₂.heap, slotsUsed := s₂.slotsUsed } : State).setVm s₂.vm), Ls ++ L, c0 + mc, s0 + ms⟩,
      ⟨X.admits, X.cas, X.clock, X.frames, X.room, X.hears, X.method, X.code, (X.here.setHeapUsed s₂.heap s₂.slotsUsed).setVm hW'.alike, X.tail, State.WarmedH.trans X.warmed hW', X.limits, X.bytes, X.same.trans (hsame.setVm s.vm)⟩,
      ⟨g, mk, s₂, L, E, ce, rfl, rfl, hx, hce, hcv, hcl, rfl, hL, rfl, rfl⟩, ?_⟩
    show Steps p.tables e below _ (((({ U with heap := s₂.heap, slotsUsed := s₂.slotsUsed } : State).setVm s₂.vm).setTop g).pushFrame (.throwing q))
    rw [← hs₂]
    exact hsteps
end Payer
section Calls
variable {p : Program} {l : Launch} {e : Env} {R : Room} {s : State} {m : MethodId} {args : Array Value} {below : List Frame} {meth : Method} {c : Code} {T : State} {locs : List Loc} {cells slots : Nat}
theorem vx_callV (X : Stand p l e R s m args below meth c T locs cells slots) (hexec : p.tables.exec = Jvm.exec) {own C : String} {index : Nat} {y : MethodName} {bytes : ByteArray} {maxL : Nat} {ret : Option FieldType}
    (hown : s.vm.findClass own = some m.cls) (hlink : (Cond.methodLink own index y).before args s = true) (hinst : (Cond.instanceMethod y).before args s = true) (hsel : (Cond.selects C y y).before args s = true)
    (hcode : (Cond.code y bytes maxL ret).before args s = true) (hy : y.cls ≠ "java/lang/invoke/MethodHandle" ∧ y.cls ≠ "java/lang/invoke/VarHandle")
    {W9 : Nat} {Pre : Pt → Array Value → Prop} {Post : Pt → Array Value → Option Value → Pt → Prop} {PostX : Pt → Array Value → Addr → Pt → Prop} (hK : vx_Back l R p e below s args y 3 W9 Pre Post PostX)
    {b : Addr} {cellB : Cell} (hcell : T.heap[b]? = some cellB) (hobj : cellB.vm.isStatics = false) (hcls : s.vm.findClass C = some cellB.cls)
    {g : JFrame} (hg : g.method = m) (hsize : g.locals.size = c.maxLocals) {argsL rest : List Value} (hlen : ∀ sig, parseMethodDescriptor y.desc = some sig → argsL.length = sig.parameters.length)
    (hstack : g.stack = argsL.reverse ++ .ref b :: rest) (hW : 2 * g.monitorRoom + (rest.map fun v => v.category).sum ≤ W9) (hdg : decode c.code g.pc = .ok (.invokevirtual index, 3))
    (hpre : ∀ vm₁, s.WarmedH vm₁ → Pre ⟨T.setVm vm₁, locs, cells, slots⟩ (Value.ref b :: argsL).toArray) :
    (∃ (v : Option Value) (vm₁ : Vm) (B : Pt), s.WarmedH vm₁ ∧ Stand p l e R s m args below meth c B.U B.locs B.cells B.slots ∧ Post ⟨T.setVm vm₁, locs, cells, slots⟩ (Value.ref b :: argsL).toArray v B ∧
      ∀ target, Steps p.tables e below (B.U.setTop { g with pc := g.pc + 3, stack := v.toList ++ rest }) target → Steps p.tables e below (T.setTop g) target) ∨
    (∃ (q : Addr) (vm₁ : Vm) (B : Pt), s.WarmedH vm₁ ∧ Stand p l e R s m args below meth c B.U B.locs B.cells B.slots ∧ PostX ⟨T.setVm vm₁, locs, cells, slots⟩ (Value.ref b :: argsL).toArray q B ∧
      Steps p.tables e below (T.setTop g) ((B.U.setTop { g with stack := rest }).pushFrame (.throwing q))) := by
  obtain ⟨mk, methM, hnamed, hmethM, hstM, habM⟩ := Cond.instanceMethod_spec hinst
  obtain ⟨methM', cM, hmethM', -, -, -, -, -, -, hsigM⟩ := Cond.code_spec hnamed hcode
  cases hmethM.symm.trans hmethM'
  obtain ⟨c2, r2, m2, q1, q2, q3, q4, kP, hkP, hkPi⟩ := Cond.selects_spec hsel
  cases hcls.symm.trans q1
  cases (State.methodFound?_of_named hnamed hy).symm.trans q2
  cases hnamed.symm.trans q3
  have hselP : selectMethod e.platform s.vm cellB.cls mk = .method mk := by rw [Launch.admits_selectMethod X.admits]; exact q4
  obtain ⟨vm₁, X₁, hstep₁⟩ := X.invokevirtual hexec hown hlink hnamed hmethM hstM hkP hkPi hy (a := b) (cell := cellB) hcell
    (fun z h => by rw [h] at hobj; cases hobj) hselP hmethM habM hkP hkPi (g := g) hg (argsL := argsL) (rest := rest) (hlen _ hsigM) hstack hdg
  rcases hK m meth c ⟨T.setVm vm₁, locs, cells, slots⟩ { g with stack := rest } (.invokevirtual index) mk (Value.ref b :: argsL).toArray X₁ hg hsize hdg hW (X₁.named hnamed) (hpre vm₁ X₁.warmed) with ⟨v, B, X', hpost, hsteps⟩ | ⟨q, B, X', hpost, hsteps⟩
  · exact Or.inl ⟨v, vm₁, B, X₁.warmed, X', hpost, fun target h => hstep₁ _ fun acts => by rw [doInvoke_state]; exact hsteps.trans h⟩
  · exact Or.inr ⟨q, vm₁, B, X₁.warmed, X', hpost, hstep₁ _ fun acts => by rw [doInvoke_state]; exact hsteps⟩
theorem vx_callS (X : Stand p l e R s m args below meth c T locs cells slots) (hexec : p.tables.exec = Jvm.exec) {own : String} {index : Nat} {y : MethodName} {bytes : ByteArray} {maxL : Nat} {ret : Option FieldType}
    (hown : s.vm.findClass own = some m.cls) (hlink : (Cond.methodLink own index y).before args s = true) (hstat : (Cond.static y).before args s = true) (hinit : (Cond.initialized y.cls).before args s = true)
    (hcode : (Cond.code y bytes maxL ret).before args s = true) (hy : y.cls ≠ "java/lang/invoke/MethodHandle" ∧ y.cls ≠ "java/lang/invoke/VarHandle")
    {W9 : Nat} {Pre : Pt → Array Value → Prop} {Post : Pt → Array Value → Option Value → Pt → Prop} {PostX : Pt → Array Value → Addr → Pt → Prop} (hK : vx_Back l R p e below s args y 3 W9 Pre Post PostX)
    {g : JFrame} (hg : g.method = m) (hsize : g.locals.size = c.maxLocals) {argsL rest : List Value} (hlen : ∀ sig, parseMethodDescriptor y.desc = some sig → argsL.length = sig.parameters.length)
    (hstack : g.stack = argsL.reverse ++ rest) (hW : 2 * g.monitorRoom + (rest.map fun v => v.category).sum ≤ W9) (hdg : decode c.code g.pc = .ok (.invokestatic index, 3))
    (hpre : ∀ vm₁, s.WarmedH vm₁ → Pre ⟨T.setVm vm₁, locs, cells, slots⟩ argsL.toArray) :
    (∃ (v : Option Value) (vm₁ : Vm) (B : Pt), s.WarmedH vm₁ ∧ Stand p l e R s m args below meth c B.U B.locs B.cells B.slots ∧ Post ⟨T.setVm vm₁, locs, cells, slots⟩ argsL.toArray v B ∧
      ∀ target, Steps p.tables e below (B.U.setTop { g with pc := g.pc + 3, stack := v.toList ++ rest }) target → Steps p.tables e below (T.setTop g) target) ∨
    (∃ (q : Addr) (vm₁ : Vm) (B : Pt), s.WarmedH vm₁ ∧ Stand p l e R s m args below meth c B.U B.locs B.cells B.slots ∧ PostX ⟨T.setVm vm₁, locs, cells, slots⟩ argsL.toArray q B ∧
      Steps p.tables e below (T.setTop g) ((B.U.setTop { g with stack := rest }).pushFrame (.throwing q))) := by
  obtain ⟨mk, hnamed⟩ := Cond.code_named hcode
  obtain ⟨methM, cM, hmethM, -, -, -, -, -, -, hsigM⟩ := Cond.code_spec hnamed hcode
  have hstatic : methM.isStatic = true := Cond.static_spec hnamed hmethM hstat
  obtain ⟨kP, hkP, -⟩ := className_of_methodNamed hnamed
  have hinitP : kP.init = .initialized := Cond.initialized_spec (findClass_of_methodNamed hnamed) hkP hinit
  obtain ⟨vm₁, X₁, hstep₁⟩ := X.invokestatic hexec hown hlink hnamed hmethM hstatic hkP hinitP hy (g := g) hg (argsL := argsL) (rest := rest) (hlen _ hsigM) hstack hdg
  rcases hK m meth c ⟨T.setVm vm₁, locs, cells, slots⟩ { g with stack := rest } (.invokestatic index) mk argsL.toArray X₁ hg hsize hdg hW (X₁.named hnamed) (hpre vm₁ X₁.warmed) with ⟨v, B, X', hpost, hsteps⟩ | ⟨q, B, X', hpost, hsteps⟩
  · exact Or.inl ⟨v, vm₁, B, X₁.warmed, X', hpost, fun target h => hstep₁ _ fun acts => by rw [doInvoke_state]; exact hsteps.trans h⟩
  · exact Or.inr ⟨q, vm₁, B, X₁.warmed, X', hpost, hstep₁ _ fun acts => by rw [doInvoke_state]; exact hsteps⟩
end Calls
theorem vx_cls {s : State} {T : State} {vm₁ : Vm} {E : String} {k : ClassId} (hW : s.WarmedH vm₁) (h : (T.setVm vm₁).vm.findClass E = some k) : s.vm.findClass E = some k := by
  have h1 : vm₁.findClass E = some k := h
  rw [hW.alike.findClass] at h1
  exact h1
/-- the method's frame g, with q thrown over it -/
def vx_W (p : Program) (l : Launch) (e : Env) (R : Room) (s : State) (m : MethodId) (args : Array Value) (below : List Frame) (meth : Method) (c : Code) (H : Heap) (locs : List Loc) (cells slots : Nat) (Q : State → Prop) (g : JFrame) (q : Addr) : Prop :=
  ∀ T : State, T.heap = H → Stand p l e R s m args below meth c T locs cells slots → ∃ t, Steps p.tables e below ((T.setTop g).pushFrame (.throwing q)) t ∧ Q t
def vx_Run (p : Program) (l : Launch) (e : Env) (R : Room) (s : State) (m : MethodId) (args : Array Value) (below : List Frame) (meth : Method) (c : Code) (H : Heap) (locs : List Loc) (cells slots mc ms : Nat) (g : JFrame) (rest : List Value) (Qa : State → Outcome → State → Prop) (XC : String → State → State → Prop) (free : Addr → Prop) : Prop :=
  ∀ T : State, T.heap = H → Stand p l e R s m args below meth c T locs cells slots →
    (∃ (v : Option Value) (st₀ t T' : State) (L : List Loc), st₀.heap = H ∧ Stand p l e R s m args below meth c T' (locs ++ L) (cells + mc) (slots + ms) ∧ (∀ q ∈ L, free q.base) ∧ T'.heap = t.heap ∧ T'.vm = t.vm ∧ Qa st₀ (.returned v) t ∧
      Goes p e below T g T' { g with pc := g.pc + 3, stack := v.toList ++ rest }) ∨
    (∃ (q : Addr) (st₀ t T' : State) (L : List Loc) (E : String) (ce : Cell), st₀.heap = H ∧ Stand p l e R s m args below meth c T' (locs ++ L) (cells + mc) (slots + ms) ∧ (∀ z ∈ L, free z.base) ∧ T'.heap = t.heap ∧ T'.vm = t.vm ∧ XC E st₀ t ∧ t.heap[q]? = some ce ∧ ce.vm = .none ∧ s.vm.findClass E = some ce.cls ∧
      Steps p.tables e below (T.setTop g) ((T'.setTop { g with stack := rest }).pushFrame (.throwing q)))
def vx_X {S : Type} (px : S → Prop) (B : String → S → State → Prop) (A : Nat → Prop) : String → State → State → Prop := fun E st t => ∃ u : S, px u ∧ B E u t ∧ va_F A st t
section Runs
variable {p : Program} {l : Launch} {e : Env} {R : Room} {s : State} {m : MethodId} {args : Array Value} {below : List Frame} {meth : Method} {c : Code} {H : Heap} {locs : List Loc} {cells slots : Nat}
variable {y : MethodName} {bytes cc : ByteArray} {maxL nL mc ms n index : Nat} {ret : Option FieldType} {ws : List Cond} {rm : Room} {Pc : Array Value → State → Prop} {Qc : Array Value → State → Outcome → State → Prop} {XC : String → State → State → Prop} {free : Addr → Prop} {Ts : List Cond} {own C : String} {b : Addr} {As rest : List Value} {g : JFrame}
theorem vx_callBack (cb : CallB R s args own index y bytes maxL ret ws rm mc ms n) (hM : vx_Met l y ws rm Pc Qc XC mc ms free) (hbl : FrameBlind Pc) : vx_Back l R p e below s args y 3 8 (PreOf R mc ms Pc) (PostOf Qc mc ms free) (vx_Post XC mc ms free) := by
  obtain ⟨hrc, hrs, hfr, hlo, hws, hcw, -, hini, -⟩ := cb
  exact vx_back (bytes := bytes) (maxL := maxL) (ret := ret) hM hbl hrc hrs hfr hlo hws hcw (fun a' U hW => word_at hW (Or.inl (by first | rfl | simp [Cond.onTables, Cond.keeps, Cond.steady])) hini)
theorem vx_runV (S : CallFix p m c cc nL s args Ts own) (hM : vx_Met l y ws rm Pc Qc XC mc ms free) (cw : CallW R s args own C index y bytes maxL ret ws rm mc ms n) (hp : PreV s H C b Pc As)
    (hg : g.method = m) (hn : As.length = n) (hsize : g.locals.size = nL) (hstack : g.stack = As.reverse ++ .ref b :: rest) (hW : 2 * g.monitorRoom + (rest.map fun v => v.category).sum ≤ 8) (hdg : decode cc g.pc = .ok (.invokevirtual index, 3)) (hf : cells + mc ≤ R.cells ∧ slots + ms ≤ R.slots) :
    vx_Run p l e R s m args below meth c H locs cells slots mc ms g rest (Qc (Value.ref b :: As).toArray) XC free := by
  have hK : vx_Back l R p e below s args y 3 8 (PreOf R mc ms Pc) (PostOf Qc mc ms free) (vx_Post XC mc ms free) := vx_callBack cw.1 hM hp.1
  obtain ⟨⟨-, -, -, -, -, -, hcode, -, hy, hlen, hl⟩, hin, hse⟩ := cw
  obtain ⟨hx, hb, hml, ho, -⟩ := S
  obtain ⟨-, ⟨cellB, hcB, hoB, hclB⟩, hPc⟩ := hp
  intro T hT X
  rcases vx_callV X hx (C := C) (bytes := bytes) (maxL := maxL) (ret := ret) ho hl hin hse hcode hy hK (by rw [hT]; exact hcB) hoB hclB hg (hsize.trans hml.symm) (argsL := As) (rest := rest) (fun sig h => hn.trans (hlen sig h)) hstack hW (by rw [hb]; exact hdg)
    (fun vm₁ hW₁ => ⟨hf.1, hf.2, hPc (T.setVm vm₁) hT hW₁⟩) with ⟨v, vm₁, ⟨U', l2, c2, s2⟩, hW₁, X', ⟨g', mk, t, L, e1, e2, hq, h1, hL, h2, h3⟩, st⟩ | ⟨q, vm₁, ⟨U', l2, c2, s2⟩, hW₁, X', ⟨g', mk, t, L, E, ce, e1, e2, hq, hce, hcv, hcl, h1, hL, h2, h3⟩, st⟩
  · dsimp only [Pt.U, Pt.locs, Pt.cells, Pt.slots] at X' e1 e2 h1 h2 h3 st
    subst h1; subst h2; subst h3
    exact Or.inl ⟨v, (T.setVm vm₁).calling g' mk (Value.ref b :: As).toArray, t, U', L, hT, X', hL, e1, e2, hq, st⟩
  · dsimp only [Pt.U, Pt.locs, Pt.cells, Pt.slots] at X' e1 e2 h1 h2 h3 st hcl
    subst h1; subst h2; subst h3
    exact Or.inr ⟨q, (T.setVm vm₁).calling g' mk (Value.ref b :: As).toArray, t, U', L, E, ce, hT, X', hL, e1, e2, hq, hce, hcv, vx_cls hW₁ hcl, st⟩
theorem vx_runS (S : CallFix p m c cc nL s args Ts own) (hM : vx_Met l y ws rm Pc Qc XC mc ms free) (cw : CallB R s args own index y bytes maxL ret ws rm mc ms n ∧ (Cond.static y).before args s = true) (hp : PreS s H Pc As)
    (hg : g.method = m) (hn : As.length = n) (hsize : g.locals.size = nL) (hstack : g.stack = As.reverse ++ rest) (hW : 2 * g.monitorRoom + (rest.map fun v => v.category).sum ≤ 8) (hdg : decode cc g.pc = .ok (.invokestatic index, 3)) (hf : cells + mc ≤ R.cells ∧ slots + ms ≤ R.slots) :
    vx_Run p l e R s m args below meth c H locs cells slots mc ms g rest (Qc As.toArray) XC free := by
  have hK : vx_Back l R p e below s args y 3 8 (PreOf R mc ms Pc) (PostOf Qc mc ms free) (vx_Post XC mc ms free) := vx_callBack cw.1 hM hp.1
  obtain ⟨⟨-, -, -, -, -, -, hcode, hini, hy, hlen, hl⟩, hstt⟩ := cw
  obtain ⟨hx, hb, hml, ho, -⟩ := S
  intro T hT X
  rcases vx_callS X hx (bytes := bytes) (maxL := maxL) (ret := ret) ho hl hstt hini hcode hy hK hg (hsize.trans hml.symm) (argsL := As) (rest := rest) (fun sig h => hn.trans (hlen sig h)) hstack hW (by rw [hb]; exact hdg)
    (fun vm₁ hW₁ => ⟨hf.1, hf.2, hp.2 (T.setVm vm₁) hT hW₁⟩) with ⟨v, vm₁, ⟨U', l2, c2, s2⟩, hW₁, X', ⟨g', mk, t, L, e1, e2, hq, h1, hL, h2, h3⟩, st⟩ | ⟨q, vm₁, ⟨U', l2, c2, s2⟩, hW₁, X', ⟨g', mk, t, L, E, ce, e1, e2, hq, hce, hcv, hcl, h1, hL, h2, h3⟩, st⟩
  · dsimp only [Pt.U, Pt.locs, Pt.cells, Pt.slots] at X' e1 e2 h1 h2 h3 st
    subst h1; subst h2; subst h3
    exact Or.inl ⟨v, (T.setVm vm₁).calling g' mk As.toArray, t, U', L, hT, X', hL, e1, e2, hq, st⟩
  · dsimp only [Pt.U, Pt.locs, Pt.cells, Pt.slots] at X' e1 e2 h1 h2 h3 st hcl
    subst h1; subst h2; subst h3
    exact Or.inr ⟨q, (T.setVm vm₁).calling g' mk As.toArray, t, U', L, E, ce, hT, X', hL, e1, e2, hq, hce, hcv, vx_cls hW₁ hcl, st⟩
end Runs
section Rows
variable {p : Program} {l : Launch} {e : Env} {R : Room} {s : State} {m : MethodId} {args : Array Value} {below : List Frame} {meth : Method} {c : Code} {H : Heap} {locs : List Loc} {cells slots : Nat} {Q : State → Prop}
variable {mc ms : Nat} {free : Addr → Prop} {A0 A1 : Nat → Prop} {H0 : Heap} {a : Array Value} {pc : Nat} {ls : Array Slot} {st0 rest : List Value}
theorem vx_keep {st₀ t T' : State} {L : List Loc} (h0 : st₀.heap = H) (e1 : T'.heap = t.heap) (hS : va_S A0 H0 H locs) (hA : ∀ q, q < H.size → A1 q → A0 q) (hf : ∀ q, free q → A0 q) (hL : ∀ q ∈ L, free q.base) (hF : va_F A1 st₀ t) :
    H.size ≤ T'.heap.size ∧ (∀ q : Nat, q < H.size → ¬ A1 q → T'.heap[q]? = H[q]?) ∧ va_S A0 H0 T'.heap (locs ++ L) := by
  obtain ⟨hz, hk⟩ := hF
  rw [h0] at hz hk
  exact ⟨by rw [e1]; exact hz, fun q h1 h2 => by rw [e1]; exact hk q h1 h2,
    ⟨Nat.le_trans hS.1 (by rw [e1]; exact hz), fun q h1 h2 => by rw [e1, hk q (Nat.lt_of_lt_of_le h1 hS.1) (fun z => h2 (hA q (Nat.lt_of_lt_of_le h1 hS.1) z))]; exact hS.2.1 q h1 h2, fun q hq => by
      rcases List.mem_append.mp hq with h | h
      · exact hS.2.2 q h
      · exact hf _ (hL q h)⟩⟩
theorem vx_calli {S SX : Type} {post : Int32 → S → Prop} {px : SX → Prop} {B : S → State → Prop} {BX : String → SX → State → Prop} {AX : Nat → Prop} (hr : vx_Run p l e R s m args below meth c H locs cells slots mc ms (F0 m pc ls st0) rest (va_Qi post B A1 a) (vx_X px BX AX) free) (hS : va_S A0 H0 H locs) (hA : ∀ q, q < H.size → A1 q → A0 q) (hf : ∀ q, free q → A0 q) (hAX : ∀ q, q < H.size → AX q → A0 q)
    (kx : ∀ (E : String) (ce : Cell) (q9 : Addr) (u : SX) (t : State) (H1 : Heap) (locs1 : List Loc), t.heap = H1 → s.vm.Alike t.vm → px u → BX E u t → H.size ≤ H1.size → (∀ q : Nat, q < H.size → ¬ AX q → H1[q]? = H[q]?) → va_S A0 H0 H1 locs1 → H1[q9]? = some ce → ce.vm = .none → s.vm.findClass E = some ce.cls → vx_W p l e R s m args below meth c H1 locs1 (cells + mc) (slots + ms) Q (F0 m pc ls rest) q9)
    (kk : ∀ (r : Int32) (u : S) (t : State) (H1 : Heap) (locs1 : List Loc), t.heap = H1 → s.vm.Alike t.vm → post r u → B u t → H.size ≤ H1.size → (∀ q : Nat, q < H.size → ¬ A1 q → H1[q]? = H[q]?) → va_S A0 H0 H1 locs1 → W p l e R s m args below meth c H1 locs1 (cells + mc) (slots + ms) Q (F0 m (pc + 3) ls (.int r :: rest))) : W p l e R s m args below meth c H locs cells slots Q (F0 m pc ls st0) := by
  intro T hT X
  rcases hr T hT X with ⟨v, st₀, t, T', L, h0, X', hL, e1, e2, ⟨⟨r, u, hv, hp, hb⟩, hF⟩, st⟩ | ⟨q, st₀, t, T', L, E, ce, h0, X', hL, e1, e2, ⟨u, hp, hb, hF⟩, hce, hcv, hcl, st⟩
  · cases hv
    obtain ⟨k1, k2, k3⟩ := vx_keep h0 e1 hS hA hf hL hF
    obtain ⟨t2, a1, b1⟩ := kk r u t T'.heap (locs ++ L) e1.symm (by rw [← e2]; exact X'.warmed.alike) hp hb k1 k2 k3 T' rfl X'
    exact ⟨t2, st t2 a1, b1⟩
  · obtain ⟨k1, k2, k3⟩ := vx_keep h0 e1 hS hAX hf hL hF
    obtain ⟨t2, a1, b1⟩ := kx E ce q u t T'.heap (locs ++ L) e1.symm (by rw [← e2]; exact X'.warmed.alike) hp hb k1 k2 k3 (by rw [e1]; exact hce) hcv hcl T' rfl X'
    exact ⟨t2, st.trans a1, b1⟩
theorem vx_calll {S SX : Type} {post : Int64 → S → Prop} {px : SX → Prop} {B : S → State → Prop} {BX : String → SX → State → Prop} {AX : Nat → Prop} (hr : vx_Run p l e R s m args below meth c H locs cells slots mc ms (F0 m pc ls st0) rest (va_Ql post B A1 a) (vx_X px BX AX) free) (hS : va_S A0 H0 H locs) (hA : ∀ q, q < H.size → A1 q → A0 q) (hf : ∀ q, free q → A0 q) (hAX : ∀ q, q < H.size → AX q → A0 q)
    (kx : ∀ (E : String) (ce : Cell) (q9 : Addr) (u : SX) (t : State) (H1 : Heap) (locs1 : List Loc), t.heap = H1 → s.vm.Alike t.vm → px u → BX E u t → H.size ≤ H1.size → (∀ q : Nat, q < H.size → ¬ AX q → H1[q]? = H[q]?) → va_S A0 H0 H1 locs1 → H1[q9]? = some ce → ce.vm = .none → s.vm.findClass E = some ce.cls → vx_W p l e R s m args below meth c H1 locs1 (cells + mc) (slots + ms) Q (F0 m pc ls rest) q9)
    (kk : ∀ (r : Int64) (u : S) (t : State) (H1 : Heap) (locs1 : List Loc), t.heap = H1 → s.vm.Alike t.vm → post r u → B u t → H.size ≤ H1.size → (∀ q : Nat, q < H.size → ¬ A1 q → H1[q]? = H[q]?) → va_S A0 H0 H1 locs1 → W p l e R s m args below meth c H1 locs1 (cells + mc) (slots + ms) Q (F0 m (pc + 3) ls (.long r :: rest))) : W p l e R s m args below meth c H locs cells slots Q (F0 m pc ls st0) := by
  intro T hT X
  rcases hr T hT X with ⟨v, st₀, t, T', L, h0, X', hL, e1, e2, ⟨⟨r, u, hv, hp, hb⟩, hF⟩, st⟩ | ⟨q, st₀, t, T', L, E, ce, h0, X', hL, e1, e2, ⟨u, hp, hb, hF⟩, hce, hcv, hcl, st⟩
  · cases hv
    obtain ⟨k1, k2, k3⟩ := vx_keep h0 e1 hS hA hf hL hF
    obtain ⟨t2, a1, b1⟩ := kk r u t T'.heap (locs ++ L) e1.symm (by rw [← e2]; exact X'.warmed.alike) hp hb k1 k2 k3 T' rfl X'
    exact ⟨t2, st t2 a1, b1⟩
  · obtain ⟨k1, k2, k3⟩ := vx_keep h0 e1 hS hAX hf hL hF
    obtain ⟨t2, a1, b1⟩ := kx E ce q u t T'.heap (locs ++ L) e1.symm (by rw [← e2]; exact X'.warmed.alike) hp hb k1 k2 k3 (by rw [e1]; exact hce) hcv hcl T' rfl X'
    exact ⟨t2, st.trans a1, b1⟩
theorem vx_callf {S SX : Type} {post : UInt32 → S → Prop} {px : SX → Prop} {B : S → State → Prop} {BX : String → SX → State → Prop} {AX : Nat → Prop} (hr : vx_Run p l e R s m args below meth c H locs cells slots mc ms (F0 m pc ls st0) rest (va_Qf post B A1 a) (vx_X px BX AX) free) (hS : va_S A0 H0 H locs) (hA : ∀ q, q < H.size → A1 q → A0 q) (hf : ∀ q, free q → A0 q) (hAX : ∀ q, q < H.size → AX q → A0 q)
    (kx : ∀ (E : String) (ce : Cell) (q9 : Addr) (u : SX) (t : State) (H1 : Heap) (locs1 : List Loc), t.heap = H1 → s.vm.Alike t.vm → px u → BX E u t → H.size ≤ H1.size → (∀ q : Nat, q < H.size → ¬ AX q → H1[q]? = H[q]?) → va_S A0 H0 H1 locs1 → H1[q9]? = some ce → ce.vm = .none → s.vm.findClass E = some ce.cls → vx_W p l e R s m args below meth c H1 locs1 (cells + mc) (slots + ms) Q (F0 m pc ls rest) q9)
    (kk : ∀ (r : UInt32) (u : S) (t : State) (H1 : Heap) (locs1 : List Loc), t.heap = H1 → s.vm.Alike t.vm → post r u → B u t → H.size ≤ H1.size → (∀ q : Nat, q < H.size → ¬ A1 q → H1[q]? = H[q]?) → va_S A0 H0 H1 locs1 → W p l e R s m args below meth c H1 locs1 (cells + mc) (slots + ms) Q (F0 m (pc + 3) ls (.float r :: rest))) : W p l e R s m args below meth c H locs cells slots Q (F0 m pc ls st0) := by
  intro T hT X
  rcases hr T hT X with ⟨v, st₀, t, T', L, h0, X', hL, e1, e2, ⟨⟨r, u, hv, hp, hb⟩, hF⟩, st⟩ | ⟨q, st₀, t, T', L, E, ce, h0, X', hL, e1, e2, ⟨u, hp, hb, hF⟩, hce, hcv, hcl, st⟩
  · cases hv
    obtain ⟨k1, k2, k3⟩ := vx_keep h0 e1 hS hA hf hL hF
    obtain ⟨t2, a1, b1⟩ := kk r u t T'.heap (locs ++ L) e1.symm (by rw [← e2]; exact X'.warmed.alike) hp hb k1 k2 k3 T' rfl X'
    exact ⟨t2, st t2 a1, b1⟩
  · obtain ⟨k1, k2, k3⟩ := vx_keep h0 e1 hS hAX hf hL hF
    obtain ⟨t2, a1, b1⟩ := kx E ce q u t T'.heap (locs ++ L) e1.symm (by rw [← e2]; exact X'.warmed.alike) hp hb k1 k2 k3 (by rw [e1]; exact hce) hcv hcl T' rfl X'
    exact ⟨t2, st.trans a1, b1⟩
theorem vx_calld {S SX : Type} {post : UInt64 → S → Prop} {px : SX → Prop} {B : S → State → Prop} {BX : String → SX → State → Prop} {AX : Nat → Prop} (hr : vx_Run p l e R s m args below meth c H locs cells slots mc ms (F0 m pc ls st0) rest (va_Qd post B A1 a) (vx_X px BX AX) free) (hS : va_S A0 H0 H locs) (hA : ∀ q, q < H.size → A1 q → A0 q) (hf : ∀ q, free q → A0 q) (hAX : ∀ q, q < H.size → AX q → A0 q)
    (kx : ∀ (E : String) (ce : Cell) (q9 : Addr) (u : SX) (t : State) (H1 : Heap) (locs1 : List Loc), t.heap = H1 → s.vm.Alike t.vm → px u → BX E u t → H.size ≤ H1.size → (∀ q : Nat, q < H.size → ¬ AX q → H1[q]? = H[q]?) → va_S A0 H0 H1 locs1 → H1[q9]? = some ce → ce.vm = .none → s.vm.findClass E = some ce.cls → vx_W p l e R s m args below meth c H1 locs1 (cells + mc) (slots + ms) Q (F0 m pc ls rest) q9)
    (kk : ∀ (r : UInt64) (u : S) (t : State) (H1 : Heap) (locs1 : List Loc), t.heap = H1 → s.vm.Alike t.vm → post r u → B u t → H.size ≤ H1.size → (∀ q : Nat, q < H.size → ¬ A1 q → H1[q]? = H[q]?) → va_S A0 H0 H1 locs1 → W p l e R s m args below meth c H1 locs1 (cells + mc) (slots + ms) Q (F0 m (pc + 3) ls (.double r :: rest))) : W p l e R s m args below meth c H locs cells slots Q (F0 m pc ls st0) := by
  intro T hT X
  rcases hr T hT X with ⟨v, st₀, t, T', L, h0, X', hL, e1, e2, ⟨⟨r, u, hv, hp, hb⟩, hF⟩, st⟩ | ⟨q, st₀, t, T', L, E, ce, h0, X', hL, e1, e2, ⟨u, hp, hb, hF⟩, hce, hcv, hcl, st⟩
  · cases hv
    obtain ⟨k1, k2, k3⟩ := vx_keep h0 e1 hS hA hf hL hF
    obtain ⟨t2, a1, b1⟩ := kk r u t T'.heap (locs ++ L) e1.symm (by rw [← e2]; exact X'.warmed.alike) hp hb k1 k2 k3 T' rfl X'
    exact ⟨t2, st t2 a1, b1⟩
  · obtain ⟨k1, k2, k3⟩ := vx_keep h0 e1 hS hAX hf hL hF
    obtain ⟨t2, a1, b1⟩ := kx E ce q u t T'.heap (locs ++ L) e1.symm (by rw [← e2]; exact X'.warmed.alike) hp hb k1 k2 k3 (by rw [e1]; exact hce) hcv hcl T' rfl X'
    exact ⟨t2, st.trans a1, b1⟩
theorem vx_callv {S SX : Type} {post : S → Prop} {px : SX → Prop} {B : S → State → Prop} {BX : String → SX → State → Prop} {AX : Nat → Prop} (hr : vx_Run p l e R s m args below meth c H locs cells slots mc ms (F0 m pc ls st0) rest (va_Qv post B A1 a) (vx_X px BX AX) free) (hS : va_S A0 H0 H locs) (hA : ∀ q, q < H.size → A1 q → A0 q) (hf : ∀ q, free q → A0 q) (hAX : ∀ q, q < H.size → AX q → A0 q)
    (kx : ∀ (E : String) (ce : Cell) (q9 : Addr) (u : SX) (t : State) (H1 : Heap) (locs1 : List Loc), t.heap = H1 → s.vm.Alike t.vm → px u → BX E u t → H.size ≤ H1.size → (∀ q : Nat, q < H.size → ¬ AX q → H1[q]? = H[q]?) → va_S A0 H0 H1 locs1 → H1[q9]? = some ce → ce.vm = .none → s.vm.findClass E = some ce.cls → vx_W p l e R s m args below meth c H1 locs1 (cells + mc) (slots + ms) Q (F0 m pc ls rest) q9)
    (kk : ∀ (u : S) (t : State) (H1 : Heap) (locs1 : List Loc), t.heap = H1 → s.vm.Alike t.vm → post u → B u t → H.size ≤ H1.size → (∀ q : Nat, q < H.size → ¬ A1 q → H1[q]? = H[q]?) → va_S A0 H0 H1 locs1 → W p l e R s m args below meth c H1 locs1 (cells + mc) (slots + ms) Q (F0 m (pc + 3) ls (rest))) : W p l e R s m args below meth c H locs cells slots Q (F0 m pc ls st0) := by
  intro T hT X
  rcases hr T hT X with ⟨v, st₀, t, T', L, h0, X', hL, e1, e2, ⟨⟨u, hv, hp, hb⟩, hF⟩, st⟩ | ⟨q, st₀, t, T', L, E, ce, h0, X', hL, e1, e2, ⟨u, hp, hb, hF⟩, hce, hcv, hcl, st⟩
  · cases hv
    obtain ⟨k1, k2, k3⟩ := vx_keep h0 e1 hS hA hf hL hF
    obtain ⟨t2, a1, b1⟩ := kk u t T'.heap (locs ++ L) e1.symm (by rw [← e2]; exact X'.warmed.alike) hp hb k1 k2 k3 T' rfl X'
    exact ⟨t2, st t2 a1, b1⟩
  · obtain ⟨k1, k2, k3⟩ := vx_keep h0 e1 hS hAX hf hL hF
    obtain ⟨t2, a1, b1⟩ := kx E ce q u t T'.heap (locs ++ L) e1.symm (by rw [← e2]; exact X'.warmed.alike) hp hb k1 k2 k3 (by rw [e1]; exact hce) hcv hcl T' rfl X'
    exact ⟨t2, st.trans a1, b1⟩
/-- caught by the row x of this method's table; the rows ahead don't take it -/
theorem vx_catch {own name : String} {E : String} {ce : Cell} {q : Addr} (hown : s.vm.findClass own = some m.cls) (pre : List ExceptionTableEntry) (x : ExceptionTableEntry) (suf : List ExceptionTableEntry) (hsplit : c.exceptionTable.toList = pre ++ x :: suf)
    (hpass : ∀ z ∈ pre, covers z pc = false ∨ (z.catchType ≠ 0 ∧ ∃ nm : String, (Cond.classLink own z.catchType nm).before args s = true ∧ va_Nc E nm s)) (hx : covers x pc = true) (h0 : x.catchType ≠ 0)
    (hlink : (Cond.classLink own x.catchType name).before args s = true) (hcast : (Cond.castable E name).before args s = true) (hcell : H[q]? = some ce) (hv : ce.vm = .none) (hcl : s.vm.findClass E = some ce.cls)
    (kk : W p l e R s m args below meth c H locs cells slots Q (F0 m x.handlerPc ls [.ref q])) : vx_W p l e R s m args below meth c H locs cells slots Q (F0 m pc ls rest) q := by
  intro T hT X
  have hpl : e.platform.magicAccessors = ({} : Platform).magicAccessors := by rw [X.admits.platform]
  obtain ⟨c3, c4, hc3, hc4, hasg⟩ := Cond.castable_spec hcast
  cases Option.some.inj (hc3.symm.trans hcl)
  obtain ⟨c5, hc5, hcl5⟩ := Cond.classLink_spec hown hlink e.platform hpl
  cases Option.some.inj (hc4.symm.trans hc5)
  obtain ⟨vm', X', st⟩ := X.thenCaughtThrough q (g := F0 m pc ls rest) rfl (Steps.refl _) (by rw [hT]; exact hcell) (by rw [hv]; rfl) (by obtain ⟨k9, h9, -⟩ := Vm.findClass_spec hcl; exact ⟨k9, h9⟩) pre x suf hsplit
    (fun z hz => by
      rcases hpass z hz with h | ⟨hz0, nm, hl1, hn1⟩
      · exact Or.inl h
      · obtain ⟨c6, hc6, hcl6⟩ := Cond.classLink_spec hown hl1 e.platform hpl
        obtain ⟨a8, b8, h1, h2, h3⟩ := hn1
        cases Option.some.inj (h1.symm.trans hcl)
        cases Option.some.inj (h2.symm.trans hc6)
        exact Or.inr ⟨hz0, _, hcl6, h3⟩) hx (Or.inr ⟨h0, c4, hcl5, hasg⟩)
  obtain ⟨t, a1, b1⟩ := kk (T.setVm vm') hT X'
  exact ⟨t, st.trans a1, b1⟩
end Rows
section Ends
variable {p : Program} {l : Launch} {e : Env} {R : Room} {s : State} {m : MethodId} {args : Array Value} {below : List Frame} {meth : Method} {c : Code} {H : Heap} {locs : List Loc} {cells slots : Nat} {Q : State → Prop}
variable {mc ms : Nat} {free : Addr → Prop} {A0 A1 : Nat → Prop} {H0 : Heap} {a : Array Value} {ls : Array Slot} {st0 rest : List Value}
variable {Qc : Array Value → State → Outcome → State → Prop} {XC : String → State → State → Prop}
/-- what a body that may throw owes at its end -/
def vx_MQ (below : List Frame) (Qc : Array Value → State → Outcome → State → Prop) (XC : String → State → State → Prop) (a : Array Value) (s : State) (mc ms : Nat) (free : Addr → Prop) : State → Prop := fun t =>
  ∃ o, t.status = .running ∧ Ended t below o ∧ vx_Q Qc XC mc ms free a s o t
theorem vx_ret {g : JFrame} {mc ms : Nat} (k : W p l e R s m args below meth c H locs cells slots (MQ below Qc args s mc ms free) g) : W p l e R s m args below meth c H locs cells slots (vx_MQ below Qc XC args s mc ms free) g := by
  intro T hT X
  obtain ⟨t, a1, o, b1, b2, b3, b4⟩ := k T hT X
  exact ⟨t, a1, o, b1, b2, Or.inl ⟨b3, b4⟩⟩
/-- not caught here: it goes on to the caller -/
theorem vx_widen {g : JFrame} {q : Addr} {k n : Nat} (h1 : cells ≤ k) (h2 : slots ≤ n) (kk : vx_W p l e R s m args below meth c H locs k n Q g q) : vx_W p l e R s m args below meth c H locs cells slots Q g q := fun T hT X => kk T hT (stand_widen X h1 h2)
theorem vx_out {pc : Nat} {E : String} {ce : Cell} {q : Addr} {mc ms : Nat} (hout : ∀ x ∈ c.exceptionTable.toList, covers x pc = false) (hlocks : meth.locks = false) (hcell : H[q]? = some ce) (hv : ce.vm = .none) (hcl : s.vm.findClass E = some ce.cls)
    (hx : ∀ t : State, t.heap = H → s.vm.Alike t.vm → XC E s t) (hf : ∀ z ∈ locs, free z.base) (hc : cells ≤ mc) (hs : slots ≤ ms) :
    vx_W p l e R s m args below meth c H locs cells slots (vx_MQ below Qc XC args s mc ms free) (F0 m pc ls rest) q := by
  intro T hT X
  obtain ⟨st1, hrun, hend, hW, hsm⟩ := X.leaveThrown q (g := F0 m pc ls rest) rfl rfl rfl hout hlocks
  have hcell9 : (T.setFrames (.throwing q :: below)).heap[q]? = some ce := by
    show T.heap[q]? = some ce
    rw [hT]; exact hcell
  exact ⟨_, st1, .threw q, hrun, hend, Or.inr ⟨q, rfl, E, ce, locs, hx _ hT hW.alike, hcell9, hv, hcl, hW, hsm.mono hc hs, hf⟩⟩
theorem vx_frame {U : State} {k n : Nat} (h : s.sameButNew ({ U with vm := s.vm } : State) locs k n) : s.heap.size ≤ U.heap.size ∧ ∀ q : Nat, q < s.heap.size → (∀ z ∈ locs, z.base ≠ q) → U.heap[q]? = s.heap[q]? := by
  obtain ⟨-, h2, -, -, -, h6⟩ := h
  refine ⟨h2, fun q hq hz => ?_⟩
  obtain ⟨c9, e1, e2, e3, e4⟩ := h6 q _ (Array.getElem?_eq_getElem hq)
  have hs : c9.slots = (s.heap[q]).slots := Array.ext_getElem? fun i => e4 i fun hm => hz _ hm rfl
  have h9 : c9 = s.heap[q] := by
    rw [hs] at e2
    exact e2
  have e5 : U.heap[q]? = some c9 := e1
  rw [e5, h9, Array.getElem?_eq_getElem hq]
/-- the words of a throw but the four that speak of the heap -/
def vx_no (w : Cond) : Bool := decide (w ≠ .isRef (.static Bundle.tN "UNASSIGNED_STACK" Bundle.steD)) && decide (w ≠ .isRef (.static Bundle.tN "SUPPRESSED_SENTINEL" Bundle.listD)) && decide (w ≠ .laysStatic Bundle.tN "UNASSIGNED_STACK" Bundle.steD) && decide (w ≠ .laysStatic Bundle.tN "SUPPRESSED_SENTINEL" Bundle.listD)
def vx_at0 (own : String) (ic : Nat) (X : String) (names : List String) : List Cond := (Bundle.ownAtoms0 own ic X names).filter vx_no
def vx_atS (own : String) (ic : Nat) (X : String) (names : List String) : List Cond := (Bundle.ownAtoms own ic X names).filter vx_no
/-- a word that the tables alone decide, or a good one -/
def vx_ot (w : Cond) : Bool := w.onTables || goodWord w
theorem vx_ot_at {args a' : Array Value} {s U : State} {w : Cond} (hW : s.WarmedH U.vm) (hvm : s.vm = U.vm) (hg : vx_ot w = true) (h : w.before args s = true) : w.before a' U = true := by
  simp only [vx_ot, Bool.or_eq_true] at hg
  rcases hg with hg | hg
  · exact va_tabs hg hvm h
  · exact word_at hW (good_of_word hg) h
/-- a list's words: the good ones out of the method's own list, the others by premises of their own -/
theorem vx_hat {args : Array Value} {s : State} {L B : List Cond} (h1 : ∀ w ∈ L.filter goodWord, w.before args s = true) (h2 : ∀ w ∈ L.filter (fun w => !goodWord w), w ∈ B) (h3 : ∀ w ∈ B, w.before args s = true) : ∀ w ∈ L, w.before args s = true := by
  intro w hw
  by_cases g : goodWord w = true
  · exact h1 w (List.mem_filter.mpr ⟨hw, g⟩)
  · refine h3 w (h2 w (List.mem_filter.mpr ⟨hw, ?_⟩))
    show (!goodWord w) = true
    cases hgw : goodWord w
    · rfl
    · exact absurd hgw g
theorem vx_c {args : Array Value} {s : State} {w : Cond} {B : List Cond} (h : w.before args s = true) (t : ∀ w ∈ B, w.before args s = true) : ∀ w' ∈ w :: B, w'.before args s = true := fun w' h' => (List.mem_cons.mp h').elim (fun e => by rw [e]; exact h) (t w')
theorem vx_n {args : Array Value} {s : State} : ∀ w ∈ ([] : List Cond), w.before args s = true := fun _ h => nomatch h
theorem vx_own {args : Array Value} {s : State} {L : List Cond} (h1 : ∀ w ∈ L.filter vx_no, w.before args s = true)
    (hU : (Cond.isRef (.static Bundle.tN "UNASSIGNED_STACK" Bundle.steD)).before args s = true) (hN : (Cond.isRef (.static Bundle.tN "SUPPRESSED_SENTINEL" Bundle.listD)).before args s = true)
    (lU : (Cond.laysStatic Bundle.tN "UNASSIGNED_STACK" Bundle.steD).before args s = true) (lN : (Cond.laysStatic Bundle.tN "SUPPRESSED_SENTINEL" Bundle.listD).before args s = true) : ∀ w ∈ L, w.before args s = true := by
  intro w hw
  by_cases e1 : w = .isRef (.static Bundle.tN "UNASSIGNED_STACK" Bundle.steD)
  · rw [e1]; exact hU
  · by_cases e2 : w = .isRef (.static Bundle.tN "SUPPRESSED_SENTINEL" Bundle.listD)
    · rw [e2]; exact hN
    · by_cases e3 : w = .laysStatic Bundle.tN "UNASSIGNED_STACK" Bundle.steD
      · rw [e3]; exact lU
      · by_cases e4 : w = .laysStatic Bundle.tN "SUPPRESSED_SENTINEL" Bundle.listD
        · rw [e4]; exact lN
        · exact h1 w (List.mem_filter.mpr ⟨hw, by unfold vx_no; rw [decide_eq_true e1, decide_eq_true e2, decide_eq_true e3, decide_eq_true e4]; rfl⟩)
/-- where a static field lies, its class's statics cell in H -/
def vx_L (C n d : String) (A : Nat → Prop) (U : State) (H : Heap) : Prop := ∃ (c : ClassId) (k : Class) (i : Nat) (f : Field) (a : Nat) (cell : Cell), U.vm.findClass C = some c ∧ U.fieldFound? C n d = some (c, k, i, f) ∧ f.isStatic = true ∧ k.statics = some a ∧ H[a]? = some cell ∧ cell.vm.isStatics = true ∧ cell.cls = c ∧ f.slot < cell.slots.size ∧ k.staticTypes[f.slot]? = some f.type ∧ ¬ A a
theorem vx_L.moved {C n d : String} {A : Nat → Prop} {u U : State} {H : Heap} (hvm : u.vm.Alike U.vm) (h : vx_L C n d A u H) : vx_L C n d A U H := by
  obtain ⟨c, k, i, f, a, cell, h1, h2, h3, h4, h5, h6, h7, h8, h9, h10⟩ := h
  obtain ⟨k', hi', he⟩ := State.fieldFound?_setVm hvm h2
  exact ⟨c, k', i, f, a, cell, by rw [hvm.findClass]; exact h1, hi', h3, by rw [he]; exact h4, h5, h6, h7, h8, by rw [he]; exact h9, h10⟩
theorem vx_L.kept {C n d : String} {A : Nat → Prop} {U : State} {H H1 : Heap} (h : vx_L C n d A U H) (hq : ∀ a : Nat, a < H.size → ¬ A a → H1[a]? = H[a]?) : vx_L C n d A U H1 := by
  obtain ⟨c, k, i, f, a, cell, h1, h2, h3, h4, h5, h6, h7, h8, h9, h10⟩ := h
  exact ⟨c, k, i, f, a, cell, h1, h2, h3, h4, by rw [hq a (Array.getElem?_eq_some_iff.mp h5).1 h10]; exact h5, h6, h7, h8, h9, h10⟩
theorem vx_L.narrow {C n d : String} {A B : Nat → Prop} {U : State} {H : Heap} (h : vx_L C n d A U H) (hAB : ∀ q, B q → A q) : vx_L C n d B U H := by
  obtain ⟨c, k, i, f, a, cell, h1, h2, h3, h4, h5, h6, h7, h8, h9, h10⟩ := h
  exact ⟨c, k, i, f, a, cell, h1, h2, h3, h4, h5, h6, h7, h8, h9, fun z => h10 (hAB _ z)⟩
theorem vx_L.word {C n d : String} {A : Nat → Prop} {s : State} {args : Array Value} (h : vx_L C n d A s s.heap) : (Cond.laysStatic C n d).before args s = true := by
  obtain ⟨c, k, i, f, a, cell, h1, h2, h3, h4, h5, h6, h7, h8, h9, -⟩ := h
  show (Cond.laysStatic C n d).holds args s none s [] = true
  exact Cond.laysStatic_of h1 h2 h3 h4 h5 h6 h7 h8 h9
/-- .. and what it holds: null or some reference -/
def vx_Zq (C n d : String) (A : Nat → Prop) (U : State) (H : Heap) : Prop := va_Zq C n d A U H ∧ vx_L C n d A U H
theorem vx_Zq.moved {C n d : String} {A : Nat → Prop} {u U : State} {H : Heap} (hvm : u.vm.Alike U.vm) (h : vx_Zq C n d A u H) : vx_Zq C n d A U H := ⟨va_Zq.moved hvm h.1, vx_L.moved hvm h.2⟩
theorem vx_Zq.kept {C n d : String} {A : Nat → Prop} {U : State} {H H1 : Heap} (h : vx_Zq C n d A U H) (hq : ∀ a : Nat, a < H.size → ¬ A a → H1[a]? = H[a]?) : vx_Zq C n d A U H1 := ⟨va_Zq.kept h.1 hq, vx_L.kept h.2 hq⟩
theorem vx_Zq.narrow {C n d : String} {A B : Nat → Prop} {U : State} {H : Heap} (h : vx_Zq C n d A U H) (hAB : ∀ q, B q → A q) : vx_Zq C n d B U H := ⟨va_Zq.narrow h.1 hAB, vx_L.narrow h.2 hAB⟩
theorem vx_Zqof {args : Array Value} {s : State} {C n d : String} {A : Nat → Prop} (hl : (Cond.laysStatic C n d).before args s = true) (hini : (Cond.initialized C).before args s = true) (h : (Cond.isRef (.static C n d)).before args s = true) (hA : ∀ a : Nat, a < s.heap.size → ¬ A a) : vx_Zq C n d A s s.heap := by
  refine ⟨va_Zqof hl hini h hA, ?_⟩
  obtain ⟨c, k, i, f, a, cell, h1, h2, h3, h4, h5, h6, h7, h8, h9⟩ := Cond.laysStatic_spec hl
  exact ⟨c, k, i, f, a, cell, h1, h2, h3, h4, h5, h6, h7, h8, h9, hA a (Array.getElem?_eq_some_iff.mp h5).1⟩
theorem vx_isRef {C n d : String} {v : Value} {A : Nat → Prop} {s : State} {args : Array Value} (h : va_Z C n d v A s s.heap) (hv : v.isRef = true) : (Cond.isRef (.static C n d)).before args s = true := by
  obtain ⟨cf, kf, fi, f, a, cell, h1, h2, h3, h4, h5, h6, h7, -⟩ := h
  have he : (Term.static C n d).eval args s none [] s = some v := by
    simp [Term.eval, State.fieldNamed?, h1, h2, h4, h5, h6, h7]
  simp only [Cond.before, Cond.holds, Cond.value, he]
  cases v <;> simp_all [Value.isRef]
theorem vx_isRefq {C n d : String} {A : Nat → Prop} {s : State} {args : Array Value} (h : va_Zq C n d A s s.heap) : (Cond.isRef (.static C n d)).before args s = true := by
  rcases h with h | ⟨t, h⟩
  · exact vx_isRef h rfl
  · exact vx_isRef h rfl
/-- the same frame, seen from here: as if the method were called anew in this heap -/
theorem vx_rebase {T : State} (X : Stand p l e R s m args below meth c T locs cells slots) {R' : Room} (hf : R'.frames ≤ R.frames) (hl : R'.locals ≤ R.locals) (hc : cells + R'.cells ≤ R.cells) (hs : slots + R'.slots ≤ R.slots) :
    Stand p l e R' ((T.setVm s.vm).setFrames (.invoking m args :: below)) m args below meth c T [] 0 0 := by
  have htop : (T.setVm s.vm).topJava?.isSome := X.here.top
  have hF : ((T.setVm s.vm).setFrames (.invoking m args :: below)).frames = .invoking m args :: below := State.frames_setFrames _ (State.cur_lt_of_top htop)
  obtain ⟨g₀, hg0⟩ := Option.isSome_iff_exists.mp htop
  obtain ⟨r, hr⟩ := State.topJava?_eq_some.mp hg0
  have hl9 : e.platform.stackLimits (T.setVm s.vm).me = e.platform.stackLimits s.me := X.limits
  have hb9 : (T.setVm s.vm).me.stackBytes = s.me.stackBytes := X.bytes
  refine ⟨X.admits, X.cas, X.clock, hF, ?_, X.hears, X.method, X.code, X.here, X.tail, X.warmed, ?_, ?_, ?_⟩
  · have h := X.room
    have hU : ((T.setVm s.vm).setFrames (.invoking m args :: below)).localsInUse = s.localsInUse := by
      rw [State.localsInUse_invoking hF (meth := meth) (c := c) X.method X.code, State.localsInUse_invoking X.frames X.method X.code]
    simp only [State.hasRoom, Bool.and_eq_true, decide_eq_true_eq] at h ⊢
    obtain ⟨⟨⟨⟨h1, h2, h3, h4, h5, h6⟩, h7⟩, h8⟩, h9⟩ := h
    rw [X.frames, List.length_cons] at h2 h3
    have q1 := X.heapSize
    have q2 := X.used
    simp only [hF, hU, List.length_cons, State.stackLimits_setFrames, State.stackBytes_setFrames, hl9, hb9]
    refine ⟨⟨⟨⟨by omega, by omega, by omega, by omega, by omega, h6⟩, ?_⟩, ?_⟩, X.book⟩
    · show T.heap.size + R'.cells ≤ e.platform.maxCells
      omega
    · show T.slotsUsed + R'.slots ≤ e.platform.maxSlots
      omega
  · rw [State.stackLimits_setFrames]; rfl
  · rw [State.stackBytes_setFrames]; rfl
  · refine ⟨?_, Nat.le_refl _, Nat.le_refl _, ?_, ?_, fun a c9 h9 => ⟨c9, h9, rfl, rfl, fun _ _ => rfl⟩⟩
    · obtain ⟨t, ht, -⟩ := State.frames_cons hr
      show T.setVm s.vm = { ((T.setVm s.vm).setFrames (.invoking m args :: below)).setFrames (T.setVm s.vm).frames with heap := T.heap, slotsUsed := T.slotsUsed }
      rw [State.setFrames_setFrames, State.setFrames_self ht]
      rfl
    · show T.slotsUsed = T.slotsUsed + ((T.heap.toList.drop T.heap.size).map (·.slots.size)).sum
      rw [List.drop_eq_nil_of_le (Nat.le_of_eq Array.length_toList)]
      rfl
    · show ((T.heap.toList.drop T.heap.size).map (·.slots.size)).sum ≤ 0
      rw [List.drop_eq_nil_of_le (Nat.le_of_eq Array.length_toList)]
      exact Nat.le_refl _
/-- 'throw new E()': new; dup; invokespecial; athrow -/
theorem vx_throw0 {cc : ByteArray} {pc : Nat} (hexec : p.tables.exec = Jvm.exec) (hb : c.code = cc) (hl : l.stackTraces = false) {own cls : String} {names : List String} {ik ic mc ms : Nat} {A : Nat → Prop}
    (hown : s.vm.findClass own = some m.cls) (hcls : Bundle.fit cls = true) (hnames : ∀ n ∈ names, Bundle.fit n = true)
    (hk : (Cond.classLink own ik cls).before args s = true) (hini : (Cond.initialized cls).before args s = true) (hat : ∀ w ∈ vx_at0 own ic cls names, w.before args s = true)
    (hgood : ∀ w ∈ Cond.classLink own ik cls :: Cond.initialized cls :: vx_at0 own ic cls names, vx_ot w = true)
    (hU : vx_Zq Bundle.tN "UNASSIGNED_STACK" Bundle.steD A s s.heap) (hN : vx_Zq Bundle.tN "SUPPRESSED_SENTINEL" Bundle.listD A s s.heap) (hS : va_S A s.heap H locs) (hsize : ls.size = c.maxLocals)
    (d0 : decode cc pc = .ok (.new ik, 3)) (d3 : decode cc (pc + 3) = .ok (.dup, 1)) (d4 : decode cc (pc + 4) = .ok (.invokespecial ic, 3)) (d7 : decode cc (pc + 7) = .ok (.athrow, 1))
    (hout : ∀ x ∈ c.exceptionTable.toList, covers x (pc + 7) = false)
    (hRframes : names.length + 3 < R.frames) (hRlocals : (rest.map fun v => v.category).sum + (13 * (names.length + 1) + 42) ≤ R.locals) (hRcells : cells + 1 ≤ R.cells) (hRslots : slots + 6 ≤ R.slots) (hlocks : meth.locks = false)
    (hx : ∀ t : State, s.vm.Alike t.vm → H.size ≤ t.heap.size → (∀ q : Nat, q < H.size → t.heap[q]? = H[q]?) → XC cls s t)
    (hf : ∀ z ∈ locs, free z.base) (hc : cells + 1 ≤ mc) (hs : slots + 6 ≤ ms) :
    W p l e R s m args below meth c H locs cells slots (vx_MQ below Qc XC args s mc ms free) (F0 m pc ls rest) := by
  intro T hT X
  have htr : e.platform.stackTraces = false := (show e.platform.stackTraces = l.stackTraces by rw [X.admits.platform]).trans hl
  have Y := vx_rebase X (R' := { frames := R.frames, locals := R.locals, cells := 1, slots := 6 }) (Nat.le_refl _) (Nat.le_refl _) hRcells hRslots
  obtain ⟨s', hA⟩ : ∃ z, z = (T.setVm s.vm).setFrames (.invoking m args :: below) := ⟨_, rfl⟩
  rw [← hA] at Y
  have hvm : s'.vm = s.vm := by rw [hA]; rfl
  have hhp : s'.heap = H := by rw [hA]; exact hT
  have hW0 : s.WarmedH s'.vm := by rw [hvm]; exact State.WarmedH.refl s
  have hat' : ∀ w ∈ vx_at0 own ic cls names, w.before args s' = true := fun w hw => vx_ot_at hW0 hvm.symm (hgood w (List.mem_cons_of_mem _ (List.mem_cons_of_mem _ hw))) (hat w hw)
  have hk' : (Cond.classLink own ik cls).before args s' = true := vx_ot_at hW0 hvm.symm (hgood _ List.mem_cons_self) hk
  have hini' : (Cond.initialized cls).before args s' = true := vx_ot_at hW0 hvm.symm (hgood _ (List.mem_cons_of_mem _ List.mem_cons_self)) hini
  have hU' : vx_Zq Bundle.tN "UNASSIGNED_STACK" Bundle.steD A s' s'.heap := by rw [hhp]; exact vx_Zq.moved hW0.alike (hU.kept hS.2.1)
  have hN' : vx_Zq Bundle.tN "SUPPRESSED_SENTINEL" Bundle.listD A s' s'.heap := by rw [hhp]; exact vx_Zq.moved hW0.alike (hN.kept hS.2.1)
  have h : ∀ w ∈ Bundle.ownAtoms0 own ic cls names, w.before args s' = true := vx_own hat' (vx_isRefq hU'.1) (vx_isRefq hN'.1) hU'.2.word hN'.2.word
  have hown' : s'.vm.findClass own = some m.cls := by rw [hvm]; exact hown
  have hins : (Cond.instantiable cls 6).before args s' = true := h _ (by simp [Bundle.ownAtoms0])
  obtain ⟨vm₁, cX, kX, hfX, hkX, -, -, X₁, st1⟩ := Y.newCold hexec (own := own) (C := cls) (index := ik) (n := 6) hown' hk' hins hini'
    (g := F0 m pc ls rest) rfl (by rw [hb]; exact d0) (Nat.le_refl _) (Nat.le_refl _)
  generalize hT1 : (T.setVm vm₁).pushCell { cls := cX, slots := kX.instanceTypes.map defaultValue, vm := .none } = T1 at X₁ st1
  have hcat : (Value.ref T.heap.size).category = 1 := rfl
  have hcellA : T1.heap[T.heap.size]? = some (freshCell cX kX) := by rw [← hT1]; exact State.heap_pushCell_size _ _
  have d3' : decode c.code (pc + 3) = .ok (.dup, 1) := by rw [hb]; exact d3
  obtain ⟨U, hsteps, hrun, hend, hW, hsame, ce, hce, hO⟩ := X₁.ctorThrow0 hexec htr (own := own) (cls := cls) (names := names) (ic := ic) hown' hcls hnames h (fun x hx => nomatch hx) hfX hkX hcellA (by rw [hhp, hT]; exact Nat.le_refl _)
    (g := { method := m, pc := pc + 4, locals := ls, stack := .ref T.heap.size :: .ref T.heap.size :: rest, locked := none }) rfl hsize rfl rfl (rest := rest) rfl
    (by rw [hb]; exact d4) (by rw [hb]; exact d7) hout hRframes (by simp only [List.map_cons, List.sum_cons, hcat]; omega) hlocks
  obtain ⟨f1, f2⟩ := vx_frame hsame
  rw [hhp] at f1 f2
  have hWs : s.WarmedH U.vm := State.WarmedH.trans hW0 hW
  have hcl : s.vm.findClass cls = some ce.cls := by
    have h9 := hO.cls
    rw [hvm] at h9
    exact h9
  have hall : s.sameButNew ({ U with vm := s.vm } : State) locs mc ms := by
    subst hA
    obtain ⟨e1, e2⟩ := hsame
    rw [State.setFrames_setFrames] at e1
    have h2 : (T.setVm s.vm).sameButNew ({ U with vm := s.vm } : State) [] (0 + 1) (0 + 6) := ⟨e1, e2⟩
    have h3 := X.same.trans h2
    rw [List.append_nil] at h3
    exact h3.mono hc hs
  refine ⟨U, ?_, .threw T.heap.size, hrun, hend, Or.inr ⟨T.heap.size, rfl, cls, ce, locs, hx U hWs.alike f1 (fun q hq => f2 q hq (fun z hz => nomatch hz)), hce, hO.vm, hcl, hWs, hall, hf⟩⟩
  refine st1 _ ?_
  show Steps p.tables e below (T1.setTop { method := m, pc := pc + 3, locals := ls, stack := .ref T.heap.size :: rest, locked := none }) _
  jvm_step X₁.here [X₁.here.top, hexec, d3', Value.category]
  exact hsteps
/-- 'throw new E("text")': new; dup; ldc; invokespecial; athrow -/
theorem vx_throwS {cc : ByteArray} {pc : Nat} (hexec : p.tables.exec = Jvm.exec) (hb : c.code = cc) (hl : l.stackTraces = false) {own cls text : String} {names : List String} {ik is ic mc ms sa : Nat} {A : Nat → Prop}
    (hown : s.vm.findClass own = some m.cls) (hcls : Bundle.fit cls = true) (hnames : ∀ n ∈ names, Bundle.fit n = true)
    (hk : (Cond.classLink own ik cls).before args s = true) (hini : (Cond.initialized cls).before args s = true) (hstr : vk_R own is text sa s) (hat : ∀ w ∈ vx_atS own ic cls names, w.before args s = true)
    (hgood : ∀ w ∈ Cond.classLink own ik cls :: Cond.initialized cls :: vx_atS own ic cls names, vx_ot w = true)
    (hU : vx_Zq Bundle.tN "UNASSIGNED_STACK" Bundle.steD A s s.heap) (hN : vx_Zq Bundle.tN "SUPPRESSED_SENTINEL" Bundle.listD A s s.heap) (hS : va_S A s.heap H locs) (hsize : ls.size = c.maxLocals)
    (d0 : decode cc pc = .ok (.new ik, 3)) (d3 : decode cc (pc + 3) = .ok (.dup, 1)) (d4 : decode cc (pc + 4) = .ok (.ldc is, 2)) (d6 : decode cc (pc + 6) = .ok (.invokespecial ic, 3)) (d9 : decode cc (pc + 9) = .ok (.athrow, 1))
    (hout : ∀ x ∈ c.exceptionTable.toList, covers x (pc + 9) = false)
    (hRframes : names.length + 3 < R.frames) (hRlocals : (rest.map fun v => v.category).sum + (13 * (names.length + 1) + 43) ≤ R.locals) (hRcells : cells + 1 ≤ R.cells) (hRslots : slots + 6 ≤ R.slots) (hlocks : meth.locks = false)
    (hx : ∀ t : State, s.vm.Alike t.vm → H.size ≤ t.heap.size → (∀ q : Nat, q < H.size → t.heap[q]? = H[q]?) → XC cls s t)
    (hf : ∀ z ∈ locs, free z.base) (hc : cells + 1 ≤ mc) (hs : slots + 6 ≤ ms) :
    W p l e R s m args below meth c H locs cells slots (vx_MQ below Qc XC args s mc ms free) (F0 m pc ls rest) := by
  intro T hT X
  have htr : e.platform.stackTraces = false := (show e.platform.stackTraces = l.stackTraces by rw [X.admits.platform]).trans hl
  have Y := vx_rebase X (R' := { frames := R.frames, locals := R.locals, cells := 1, slots := 6 }) (Nat.le_refl _) (Nat.le_refl _) hRcells hRslots
  obtain ⟨s', hA⟩ : ∃ z, z = (T.setVm s.vm).setFrames (.invoking m args :: below) := ⟨_, rfl⟩
  rw [← hA] at Y
  have hvm : s'.vm = s.vm := by rw [hA]; rfl
  have hhp : s'.heap = H := by rw [hA]; exact hT
  have hW0 : s.WarmedH s'.vm := by rw [hvm]; exact State.WarmedH.refl s
  have hat' : ∀ w ∈ vx_atS own ic cls names, w.before args s' = true := fun w hw => vx_ot_at hW0 hvm.symm (hgood w (List.mem_cons_of_mem _ (List.mem_cons_of_mem _ hw))) (hat w hw)
  have hk' : (Cond.classLink own ik cls).before args s' = true := vx_ot_at hW0 hvm.symm (hgood _ List.mem_cons_self) hk
  have hini' : (Cond.initialized cls).before args s' = true := vx_ot_at hW0 hvm.symm (hgood _ (List.mem_cons_of_mem _ List.mem_cons_self)) hini
  have hU' : vx_Zq Bundle.tN "UNASSIGNED_STACK" Bundle.steD A s' s'.heap := by rw [hhp]; exact vx_Zq.moved hW0.alike (hU.kept hS.2.1)
  have hN' : vx_Zq Bundle.tN "SUPPRESSED_SENTINEL" Bundle.listD A s' s'.heap := by rw [hhp]; exact vx_Zq.moved hW0.alike (hN.kept hS.2.1)
  have h : ∀ w ∈ Bundle.ownAtoms own ic cls names, w.before args s' = true := vx_own hat' (vx_isRefq hU'.1) (vx_isRefq hN'.1) hU'.2.word hN'.2.word
  have hown' : s'.vm.findClass own = some m.cls := by rw [hvm]; exact hown
  have hins : (Cond.instantiable cls 6).before args s' = true := h _ (by simp [Bundle.ownAtoms])
  obtain ⟨vm₁, cX, kX, hfX, hkX, -, -, X₁, st1⟩ := Y.newCold hexec (own := own) (C := cls) (index := ik) (n := 6) hown' hk' hins hini'
    (g := F0 m pc ls rest) rfl (by rw [hb]; exact d0) (Nat.le_refl _) (Nat.le_refl _)
  generalize hT1 : (T.setVm vm₁).pushCell { cls := cX, slots := kX.instanceTypes.map defaultValue, vm := .none } = T1 at X₁ st1
  have hcat : (Value.ref T.heap.size).category = 1 := rfl
  have hcellA : T1.heap[T.heap.size]? = some (freshCell cX kX) := by rw [← hT1]; exact State.heap_pushCell_size _ _
  have d3' : decode c.code (pc + 3) = .ok (.dup, 1) := by rw [hb]; exact d3
  have d4' : decode c.code (pc + 4) = .ok (.ldc is, 2) := by rw [hb]; exact d4
  have hstr' : vk_R own is text sa s' := vk_R.warm hW0 hstr
  obtain ⟨U, hsteps, hrun, hend, hW, hsame, ce, hce, hO⟩ := X₁.ctorThrowS hexec htr (own := own) (cls := cls) (names := names) (ic := ic) hown' hcls hnames h (fun x hx => nomatch hx) hfX hkX hcellA (by rw [hhp, hT]; exact Nat.le_refl _) (msg := .ref sa) rfl
    (g := { method := m, pc := pc + 6, locals := ls, stack := .ref sa :: .ref T.heap.size :: .ref T.heap.size :: rest, locked := none }) rfl hsize rfl rfl (rest := rest) rfl
    (by rw [hb]; exact d6) (by rw [hb]; exact d9) hout hRframes (by simp only [List.map_cons, List.sum_cons, hcat]; omega) hlocks
  obtain ⟨f1, f2⟩ := vx_frame hsame
  rw [hhp] at f1 f2
  have hWs : s.WarmedH U.vm := State.WarmedH.trans hW0 hW
  have hcl : s.vm.findClass cls = some ce.cls := by
    have h9 := hO.cls
    rw [hvm] at h9
    exact h9
  have hall : s.sameButNew ({ U with vm := s.vm } : State) locs mc ms := by
    subst hA
    obtain ⟨e1, e2⟩ := hsame
    rw [State.setFrames_setFrames] at e1
    have h2 : (T.setVm s.vm).sameButNew ({ U with vm := s.vm } : State) [] (0 + 1) (0 + 6) := ⟨e1, e2⟩
    have h3 := X.same.trans h2
    rw [List.append_nil] at h3
    exact h3.mono hc hs
  refine ⟨U, ?_, .threw T.heap.size, hrun, hend, Or.inr ⟨T.heap.size, rfl, cls, ce, locs, hx U hWs.alike f1 (fun q hq => f2 q hq (fun z hz => nomatch hz)), hce, hO.vm, hcl, hWs, hall, hf⟩⟩
  refine st1 _ ?_
  show Steps p.tables e below (T1.setTop { method := m, pc := pc + 3, locals := ls, stack := .ref T.heap.size :: rest, locked := none }) _
  jvm_step X₁.here [X₁.here.top, hexec, d3', Value.category]
  exact X₁.ldcString hexec (own := own) (text := text) (index := is) (a := sa) hown' hstr'.1 hstr'.2
    (g := { method := m, pc := pc + 4, locals := ls, stack := .ref T.heap.size :: .ref T.heap.size :: rest, locked := none }) rfl d4' _ hsteps
/-- 'throw new E("text")', the text by a wide index -/
theorem vx_throwSW {cc : ByteArray} {pc : Nat} (hexec : p.tables.exec = Jvm.exec) (hb : c.code = cc) (hl : l.stackTraces = false) {own cls text : String} {names : List String} {ik is ic mc ms sa : Nat} {A : Nat → Prop}
    (hown : s.vm.findClass own = some m.cls) (hcls : Bundle.fit cls = true) (hnames : ∀ n ∈ names, Bundle.fit n = true)
    (hk : (Cond.classLink own ik cls).before args s = true) (hini : (Cond.initialized cls).before args s = true) (hstr : vk_R own is text sa s) (hat : ∀ w ∈ vx_atS own ic cls names, w.before args s = true)
    (hgood : ∀ w ∈ Cond.classLink own ik cls :: Cond.initialized cls :: vx_atS own ic cls names, vx_ot w = true)
    (hU : vx_Zq Bundle.tN "UNASSIGNED_STACK" Bundle.steD A s s.heap) (hN : vx_Zq Bundle.tN "SUPPRESSED_SENTINEL" Bundle.listD A s s.heap) (hS : va_S A s.heap H locs) (hsize : ls.size = c.maxLocals)
    (d0 : decode cc pc = .ok (.new ik, 3)) (d3 : decode cc (pc + 3) = .ok (.dup, 1)) (d4 : decode cc (pc + 4) = .ok (.ldc_w is, 3)) (d7 : decode cc (pc + 7) = .ok (.invokespecial ic, 3)) (d10 : decode cc (pc + 10) = .ok (.athrow, 1))
    (hout : ∀ x ∈ c.exceptionTable.toList, covers x (pc + 10) = false)
    (hRframes : names.length + 3 < R.frames) (hRlocals : (rest.map fun v => v.category).sum + (13 * (names.length + 1) + 43) ≤ R.locals) (hRcells : cells + 1 ≤ R.cells) (hRslots : slots + 6 ≤ R.slots) (hlocks : meth.locks = false)
    (hx : ∀ t : State, s.vm.Alike t.vm → H.size ≤ t.heap.size → (∀ q : Nat, q < H.size → t.heap[q]? = H[q]?) → XC cls s t)
    (hf : ∀ z ∈ locs, free z.base) (hc : cells + 1 ≤ mc) (hs : slots + 6 ≤ ms) :
    W p l e R s m args below meth c H locs cells slots (vx_MQ below Qc XC args s mc ms free) (F0 m pc ls rest) := by
  intro T hT X
  have htr : e.platform.stackTraces = false := (show e.platform.stackTraces = l.stackTraces by rw [X.admits.platform]).trans hl
  have Y := vx_rebase X (R' := { frames := R.frames, locals := R.locals, cells := 1, slots := 6 }) (Nat.le_refl _) (Nat.le_refl _) hRcells hRslots
  obtain ⟨s', hA⟩ : ∃ z, z = (T.setVm s.vm).setFrames (.invoking m args :: below) := ⟨_, rfl⟩
  rw [← hA] at Y
  have hvm : s'.vm = s.vm := by rw [hA]; rfl
  have hhp : s'.heap = H := by rw [hA]; exact hT
  have hW0 : s.WarmedH s'.vm := by rw [hvm]; exact State.WarmedH.refl s
  have hat' : ∀ w ∈ vx_atS own ic cls names, w.before args s' = true := fun w hw => vx_ot_at hW0 hvm.symm (hgood w (List.mem_cons_of_mem _ (List.mem_cons_of_mem _ hw))) (hat w hw)
  have hk' : (Cond.classLink own ik cls).before args s' = true := vx_ot_at hW0 hvm.symm (hgood _ List.mem_cons_self) hk
  have hini' : (Cond.initialized cls).before args s' = true := vx_ot_at hW0 hvm.symm (hgood _ (List.mem_cons_of_mem _ List.mem_cons_self)) hini
  have hU' : vx_Zq Bundle.tN "UNASSIGNED_STACK" Bundle.steD A s' s'.heap := by rw [hhp]; exact vx_Zq.moved hW0.alike (hU.kept hS.2.1)
  have hN' : vx_Zq Bundle.tN "SUPPRESSED_SENTINEL" Bundle.listD A s' s'.heap := by rw [hhp]; exact vx_Zq.moved hW0.alike (hN.kept hS.2.1)
  have h : ∀ w ∈ Bundle.ownAtoms own ic cls names, w.before args s' = true := vx_own hat' (vx_isRefq hU'.1) (vx_isRefq hN'.1) hU'.2.word hN'.2.word
  have hown' : s'.vm.findClass own = some m.cls := by rw [hvm]; exact hown
  have hins : (Cond.instantiable cls 6).before args s' = true := h _ (by simp [Bundle.ownAtoms])
  obtain ⟨vm₁, cX, kX, hfX, hkX, -, -, X₁, st1⟩ := Y.newCold hexec (own := own) (C := cls) (index := ik) (n := 6) hown' hk' hins hini'
    (g := F0 m pc ls rest) rfl (by rw [hb]; exact d0) (Nat.le_refl _) (Nat.le_refl _)
  generalize hT1 : (T.setVm vm₁).pushCell { cls := cX, slots := kX.instanceTypes.map defaultValue, vm := .none } = T1 at X₁ st1
  have hcat : (Value.ref T.heap.size).category = 1 := rfl
  have hcellA : T1.heap[T.heap.size]? = some (freshCell cX kX) := by rw [← hT1]; exact State.heap_pushCell_size _ _
  have d3' : decode c.code (pc + 3) = .ok (.dup, 1) := by rw [hb]; exact d3
  have d4' : decode c.code (pc + 4) = .ok (.ldc_w is, 3) := by rw [hb]; exact d4
  have hstr' : vk_R own is text sa s' := vk_R.warm hW0 hstr
  obtain ⟨U, hsteps, hrun, hend, hW, hsame, ce, hce, hO⟩ := X₁.ctorThrowS hexec htr (own := own) (cls := cls) (names := names) (ic := ic) hown' hcls hnames h (fun x hx => nomatch hx) hfX hkX hcellA (by rw [hhp, hT]; exact Nat.le_refl _) (msg := .ref sa) rfl
    (g := { method := m, pc := pc + 7, locals := ls, stack := .ref sa :: .ref T.heap.size :: .ref T.heap.size :: rest, locked := none }) rfl hsize rfl rfl (rest := rest) rfl
    (by rw [hb]; exact d7) (by rw [hb]; exact d10) hout hRframes (by simp only [List.map_cons, List.sum_cons, hcat]; omega) hlocks
  obtain ⟨f1, f2⟩ := vx_frame hsame
  rw [hhp] at f1 f2
  have hWs : s.WarmedH U.vm := State.WarmedH.trans hW0 hW
  have hcl : s.vm.findClass cls = some ce.cls := by
    have h9 := hO.cls
    rw [hvm] at h9
    exact h9
  have hall : s.sameButNew ({ U with vm := s.vm } : State) locs mc ms := by
    subst hA
    obtain ⟨e1, e2⟩ := hsame
    rw [State.setFrames_setFrames] at e1
    have h2 : (T.setVm s.vm).sameButNew ({ U with vm := s.vm } : State) [] (0 + 1) (0 + 6) := ⟨e1, e2⟩
    have h3 := X.same.trans h2
    rw [List.append_nil] at h3
    exact h3.mono hc hs
  refine ⟨U, ?_, .threw T.heap.size, hrun, hend, Or.inr ⟨T.heap.size, rfl, cls, ce, locs, hx U hWs.alike f1 (fun q hq => f2 q hq (fun z hz => nomatch hz)), hce, hO.vm, hcl, hWs, hall, hf⟩⟩
  refine st1 _ ?_
  show Steps p.tables e below (T1.setTop { method := m, pc := pc + 3, locals := ls, stack := .ref T.heap.size :: rest, locked := none }) _
  jvm_step X₁.here [X₁.here.top, hexec, d3', Value.category]
  exact X₁.ldcStringW hexec (own := own) (text := text) (index := is) (a := sa) hown' hstr'.1 hstr'.2
    (g := { method := m, pc := pc + 4, locals := ls, stack := .ref T.heap.size :: .ref T.heap.size :: rest, locked := none }) rfl d4' _ hsteps
end Ends
section Bodies
variable {l : Launch}
theorem vx_ofW {y : MethodName} {ws ws' : List Cond} {rm : Room} {Pc : Array Value → State → Prop} {Qc : Array Value → State → Outcome → State → Prop} {XC : String → State → State → Prop} {mc ms : Nat} {free : Addr → Prop} {cc : ByteArray} {maxL : Nat} {ret : Option FieldType}
    (hy : plainName y.cls = true) (hw : ws = Cond.code y cc maxL ret :: ws')
    (body : ∀ p e s m args below meth c s₁, BodyLoose p l y (headSpec ws rm) cc maxL ret e s m args below meth c s₁ → c.maxLocals = maxL → (∀ x ∈ c.exceptionTable.toList, False) → Pc args s →
      W p l e (headSpec ws rm).room s m args below meth c s.heap [] 0 0 (vx_MQ below Qc XC args s mc ms free) (entryFrame m args maxL)) : vx_Met l y ws rm Pc Qc XC mc ms free := by
  refine MetFree.of_bodyS (code := cc) (maxLocals := maxL) (ret := ret) hy ?_ ?_
  · intro args s m h hn
    obtain ⟨meth, c, h1, h2, h3, h4, h5, h6, -, -⟩ := Cond.code_spec hn (atoms_spec (ws := ws) h _ (by rw [hw]; exact List.mem_cons_self))
    exact ⟨meth, c, h1, h2, h3, h4, h5, h6⟩
  · intro p e s m args below meth c s₁ B hml hP _
    have hh0 : s₁.heap = s.heap := by rw [B.state]; rfl
    have ht : ∀ x ∈ c.exceptionTable.toList, False := by
      obtain ⟨meth9, c9, h1, h2, -, -, -, -, h7, -⟩ := Cond.code_spec B.named (atoms_spec (ws := ws) B.pre _ (by rw [hw]; exact List.mem_cons_self))
      cases Option.some.inj (h1.symm.trans B.method)
      cases Option.some.inj (h2.symm.trans (Stand.of_body B).code)
      intro x hx
      rw [Array.isEmpty_iff.mp h7] at hx
      cases hx
    obtain ⟨t, a1, o, b1, b2, b3⟩ := body p e s m args below meth c s₁ B hml ht hP s₁ hh0 (Stand.of_body B)
    exact ⟨t, o, a1, b1, b2, b3⟩
/-- the table of a body with handlers -/
theorem vx_table {p : Program} {x y : MethodName} {S : Spec} {cc bytes : ByteArray} {maxL maxL' : Nat} {ret ret' : Option FieldType} {e : Env} {s s₁ : State} {m : MethodId} {args : Array Value} {below : List Frame} {meth : Method} {c : Code} {hh : List (Nat × Nat × Nat × Nat)}
    (B : BodyLoose p l y S cc maxL ret e s m args below meth c s₁) (h : (Cond.codeWith y bytes maxL' ret' hh).before args s = true) : c.exceptionTable.toList = tableOf hh := by
  obtain ⟨m9, meth9, c9, hn9, h1, h2, -, -, h6, -⟩ := Cond.codeWith_spec h
  cases Option.some.inj (hn9.symm.trans B.named)
  cases Option.some.inj (h1.symm.trans B.method)
  cases Option.some.inj (h2.symm.trans (Stand.of_body B).code)
  rw [← h6, table_eq]
end Bodies
end VXA
/-! ===== END ===== -/
/-! ===== BEGIN a static call of a method with an exception table ===== -/
section VXS
variable {p : Program} {l : Launch} {e : Env} {R : Room} {s : State} {m : MethodId} {args : Array Value} {below : List Frame} {meth : Method} {c : Code} {T : State} {H : Heap} {locs : List Loc} {cells slots : Nat}
abbrev vx_CSW (R : Room) (s : State) (args : Array Value) (own : String) (index : Nat) (y : MethodName) (bytes : ByteArray) (maxL : Nat) (ret : Option FieldType) (hh : List (Nat × Nat × Nat × Nat)) (ws : List Cond) (rm : Room) (mc ms n : Nat) : Prop :=
  (rm.cells = mc ∧ rm.slots = ms ∧ rm.frames + 1 ≤ R.frames ∧ 8 + (maxL + 11) + rm.locals ≤ R.locals ∧ (∀ w ∈ ws, ∀ (a' : Array Value) (U : State), s.WarmedH U.vm → w.before a' U = true) ∧ Cond.codeWith y bytes maxL ret hh ∈ ws) ∧
  (Cond.codeWith y bytes maxL ret hh).before args s = true ∧ (Cond.initialized y.cls).before args s = true ∧ (y.cls ≠ "java/lang/invoke/MethodHandle" ∧ y.cls ≠ "java/lang/invoke/VarHandle") ∧
  (∀ sig, parseMethodDescriptor y.desc = some sig → n = sig.parameters.length) ∧ (Cond.methodLink own index y).before args s = true ∧ (Cond.static y).before args s = true
theorem vx_cwSW {own : String} {index maxL mc ms : Nat} {y : MethodName} {bytes : ByteArray} {ret : Option FieldType} {hh : List (Nat × Nat × Nat × Nat)} {Ts ws ws' : List Cond} {rm : Room} (n : Nat) (ht : ∀ w ∈ Ts, w.before args s = true) (hT : GoodIn Ts (va_wsS own index y ws)) (hw : ws = Cond.codeWith y bytes maxL ret hh :: ws') (hrc : rm.cells = mc) (hrs : rm.slots = ms)
    (hd : y.cls ≠ "java/lang/invoke/MethodHandle" ∧ y.cls ≠ "java/lang/invoke/VarHandle" ∧ (parseMethodDescriptor y.desc).map (fun d => d.parameters.length) = some n) (hR : rm.frames + 1 ≤ R.frames ∧ 8 + (maxL + 11) + rm.locals ≤ R.locals) :
    vx_CSW R s args own index y bytes maxL ret hh ws rm mc ms n := by
  have ok : ∀ w ∈ va_wsS own index y ws, w.before args s = true := fun w h => ht w (hT w h).1
  have hG : GoodIn Ts ws := fun w h => hT w (by unfold va_wsS; exact List.mem_append_right _ h)
  have hc : Cond.codeWith y bytes maxL ret hh ∈ ws := by rw [hw]; exact List.mem_cons_self
  refine ⟨⟨hrc, hrs, hR.1, hR.2, pay_in ht hG, hc⟩, ht _ (hG _ hc).1, ok _ (by simp [va_wsS]), ⟨hd.1, hd.2.1⟩, fun sig h => ?_, ok _ (by simp [va_wsS]), ok _ (by simp [va_wsS])⟩
  have h2 := hd.2.2
  rw [h] at h2
  exact (Option.some.inj h2).symm
theorem vx_callSW (X : Stand p l e R s m args below meth c T locs cells slots) (hexec : p.tables.exec = Jvm.exec) {own : String} {index : Nat} {y : MethodName} {bytes : ByteArray} {maxL : Nat} {ret : Option FieldType} {hh : List (Nat × Nat × Nat × Nat)}
    (hown : s.vm.findClass own = some m.cls) (hlink : (Cond.methodLink own index y).before args s = true) (hstat : (Cond.static y).before args s = true) (hinit : (Cond.initialized y.cls).before args s = true)
    (hcode : (Cond.codeWith y bytes maxL ret hh).before args s = true) (hy : y.cls ≠ "java/lang/invoke/MethodHandle" ∧ y.cls ≠ "java/lang/invoke/VarHandle")
    {W9 : Nat} {Pre : Pt → Array Value → Prop} {Post : Pt → Array Value → Option Value → Pt → Prop} (hK : Back l R p e below s args y 3 W9 Pre Post)
    {g : JFrame} (hg : g.method = m) (hsize : g.locals.size = c.maxLocals) {argsL rest : List Value} (hlen : ∀ sig, parseMethodDescriptor y.desc = some sig → argsL.length = sig.parameters.length)
    (hstack : g.stack = argsL.reverse ++ rest) (hW : 2 * g.monitorRoom + (rest.map fun v => v.category).sum ≤ W9) (hdg : decode c.code g.pc = .ok (.invokestatic index, 3))
    (hpre : ∀ vm₁, s.WarmedH vm₁ → Pre ⟨T.setVm vm₁, locs, cells, slots⟩ argsL.toArray) :
    ∃ (v : Option Value) (vm₁ : Vm) (B : Pt), s.WarmedH vm₁ ∧ Stand p l e R s m args below meth c B.U B.locs B.cells B.slots ∧ Post ⟨T.setVm vm₁, locs, cells, slots⟩ argsL.toArray v B ∧
      ∀ target, Steps p.tables e below (B.U.setTop { g with pc := g.pc + 3, stack := v.toList ++ rest }) target → Steps p.tables e below (T.setTop g) target := by
  obtain ⟨mk, methM, cM, hnamed, hmethM, -, -, -, -, -, -, hsigM⟩ := Cond.codeWith_spec hcode
  have hstatic : methM.isStatic = true := Cond.static_spec hnamed hmethM hstat
  obtain ⟨kP, hkP, -⟩ := className_of_methodNamed hnamed
  have hinitP : kP.init = .initialized := Cond.initialized_spec (findClass_of_methodNamed hnamed) hkP hinit
  obtain ⟨vm₁, X₁, hstep₁⟩ := X.invokestatic hexec hown hlink hnamed hmethM hstatic hkP hinitP hy (g := g) hg (argsL := argsL) (rest := rest) (hlen _ hsigM) hstack hdg
  obtain ⟨v, B, X', hpost, hsteps⟩ := hK m meth c ⟨T.setVm vm₁, locs, cells, slots⟩ { g with stack := rest } (.invokestatic index) mk argsL.toArray X₁ hg hsize hdg hW (X₁.named hnamed) (hpre vm₁ X₁.warmed)
  exact ⟨v, vm₁, B, X₁.warmed, X', hpost, fun target h => hstep₁ _ fun acts => by rw [doInvoke_state]; exact hsteps.trans h⟩
theorem vx_runSW {y : MethodName} {bytes cc : ByteArray} {maxL nL mc ms n index : Nat} {ret : Option FieldType} {hh : List (Nat × Nat × Nat × Nat)} {ws : List Cond} {rm : Room} {Pc : Array Value → State → Prop} {Qc : Array Value → State → Outcome → State → Prop} {free : Addr → Prop} {Ts : List Cond} {own : String} {As rest : List Value} {g : JFrame}
    (S : CallFix p m c cc nL s args Ts own) (hM : Met l y ws rm Pc Qc mc ms free) (cw : vx_CSW R s args own index y bytes maxL ret hh ws rm mc ms n) (hp : PreS s H Pc As)
    (hg : g.method = m) (hn : As.length = n) (hsize : g.locals.size = nL) (hstack : g.stack = As.reverse ++ rest) (hW : 2 * g.monitorRoom + (rest.map fun v => v.category).sum ≤ 8) (hdg : decode cc g.pc = .ok (.invokestatic index, 3)) (hf : cells + mc ≤ R.cells ∧ slots + ms ≤ R.slots) :
    va_Run p l e R s m args below meth c H locs cells slots mc ms g rest (Qc As.toArray) (free) := by
  obtain ⟨⟨hrc, hrs, hfr, hlo, hws, hcw⟩, hcode, hini, hy, hlen, hl, hstt⟩ := cw
  have hK : Back l R p e below s args y 3 8 (PreOf R mc ms Pc) (PostOf Qc mc ms free) := va_backW (hh := hh) (bytes := bytes) (maxL := maxL) (ret := ret) hM hp.1 hrc hrs hfr hlo hws hcw (fun a' U hW => word_at hW (Or.inl (by first | rfl | simp [Cond.onTables, Cond.keeps, Cond.steady])) hini)
  obtain ⟨hx, hb, hml, ho, -⟩ := S
  intro T hT X
  obtain ⟨v, vm₁, ⟨U', l2, c2, s2⟩, hW₁, X', ⟨g', mk, t, L, e1, e2, hq, h1, hL, h2, h3⟩, st⟩ := vx_callSW X hx (hh := hh) (bytes := bytes) (maxL := maxL) (ret := ret) ho hl hstt hini hcode hy hK hg (hsize.trans hml.symm) (argsL := As) (rest := rest) (fun sig h => hn.trans (hlen sig h)) hstack hW (by rw [hb]; exact hdg)
    (fun vm₁ hW₁ => ⟨hf.1, hf.2, hp.2 (T.setVm vm₁) hT hW₁⟩)
  dsimp only [Pt.U, Pt.locs, Pt.cells, Pt.slots] at X' e1 e2 h1 h2 h3 st
  subst h1; subst h2; subst h3
  exact ⟨v, (T.setVm vm₁).calling g' mk As.toArray, t, U', L, hT, X', hL, e1, e2, hq, st⟩
/-- not caught here, past rows that name other classes: it goes on to the caller -/
theorem vx_outP {p : Program} {l : Launch} {e : Env} {R : Room} {s : State} {m : MethodId} {args : Array Value} {below : List Frame} {meth : Method} {c : Code} {H : Heap} {locs : List Loc} {cells slots : Nat} {free : Addr → Prop} {ls : Array Slot} {rest : List Value} {Qc : Array Value → State → Outcome → State → Prop} {XC : String → State → State → Prop}
    {pc : Nat} {own E : String} {ce : Cell} {q : Addr} {mc ms : Nat} (hown : s.vm.findClass own = some m.cls) (hlocks : meth.locks = false)
    (hpass : ∀ z ∈ c.exceptionTable.toList, covers z pc = false ∨ (z.catchType ≠ 0 ∧ ∃ nm : String, (Cond.classLink own z.catchType nm).before args s = true ∧ va_Nc E nm s)) (hcell : H[q]? = some ce) (hv : ce.vm = .none) (hcl : s.vm.findClass E = some ce.cls)
    (hx : ∀ t : State, t.heap = H → s.vm.Alike t.vm → XC E s t) (hf : ∀ z ∈ locs, free z.base) (hc : cells ≤ mc) (hs : slots ≤ ms) :
    vx_W p l e R s m args below meth c H locs cells slots (vx_MQ below Qc XC args s mc ms free) (F0 m pc ls rest) q := by
  intro T hT X
  have hpl : e.platform.magicAccessors = ({} : Platform).magicAccessors := by rw [X.admits.platform]
  obtain ⟨vm', hW', X', st⟩ := X.outThrough hlocks q (g := F0 m pc ls rest) rfl rfl rfl (cell := ce) (by rw [hT]; exact hcell) (by rw [hv]; rfl)
    (by obtain ⟨k9, h9, -⟩ := Vm.findClass_spec hcl; exact ⟨k9, h9⟩) (fun z hz => by
      rcases hpass z hz with h | ⟨hz0, nm, hl1, hn1⟩
      · exact Or.inl h
      · obtain ⟨c6, hc6, hcl6⟩ := Cond.classLink_spec hown hl1 e.platform hpl
        obtain ⟨a8, b8, h1, h2, h3⟩ := hn1
        cases Option.some.inj (h1.symm.trans hcl)
        cases Option.some.inj (h2.symm.trans hc6)
        exact Or.inr ⟨hz0, _, hcl6, h3⟩)
  obtain ⟨g₀, hfr⟩ := X'.frames_eq
  have hcell9 : ((T.setVm vm').setFrames (.throwing q :: below)).heap[q]? = some ce := by
    show T.heap[q]? = some ce
    rw [hT]; exact hcell
  have hend : Ended ((T.setVm vm').setFrames (.throwing q :: below)) below (.threw q) := State.frames_setFrames _ (State.cur_lt_of_frames hfr)
  refine ⟨(T.setVm vm').setFrames (.throwing q :: below), ?_, .threw q, X'.here.running, hend, Or.inr ⟨q, rfl, E, ce, locs, hx _ hT (X'.ends _).1.alike, hcell9, hv, hcl, (X'.ends _).1, (X'.ends _).2.mono hc hs, hf⟩⟩
  rw [X.pushThrowing_eq]
  exact st
/-- a thing of a world lies in the heap -/
theorem vx_lt {D : va_G} {cl : List vw_C} {ws : va_W} {H1 : Heap} (h : va_P D cl ws H1) {k : Nat} {q : Nat × va_E} (hk : ws[k]? = some q) : q.1 < H1.size := (h k q hk).lt
end VXS
/-! ===== END ===== -/
/-! ===== BEGIN methods with a table of their own: called by a name, returning or throwing ===== -/
section VXH
/-! vx_backW, vx_callVX, vx_callSX, vx_callVW, vx_runVW, vx_runVX, vx_runSX, vx_ofWH follow the same proofs as their sisters above (Free/Laws.lean, Shelf42/LK1.lean); vx_outP calls Shelf42/NT130.lean (outThrough). -/
section
variable {l : Launch} {R : Room} {p : Program} {e : Env} {below : List Frame} {s : State} {sargs : Array Value} {y : MethodName} {len W9 : Nat}
theorem vx_backW {ws : List Cond} {rm : Room} {Pc : Array Value → State → Prop} {Qc : Array Value → State → Outcome → State → Prop} {XC : String → State → State → Prop} {mc ms : Nat} {free : Addr → Prop} {bytes : ByteArray} {maxL : Nat} {ret : Option FieldType} {hh : List (Nat × Nat × Nat × Nat)}
    (hM : vx_Met l y ws rm Pc Qc XC mc ms free) (hblind : FrameBlind Pc) (hrc : rm.cells = mc) (hrs : rm.slots = ms)
    (hframes : rm.frames + 1 ≤ R.frames) (hlocals : W9 + (maxL + 11) + rm.locals ≤ R.locals)
    (hws : ∀ w ∈ ws, ∀ a' U, s.WarmedH U.vm → w.before a' U = true) (hcode : Cond.codeWith y bytes maxL ret hh ∈ ws) (hinit : ∀ a' U, s.WarmedH U.vm → (Cond.initialized y.cls).before a' U = true) :
    vx_Back l R p e below s sargs y len W9 (PreOf R mc ms Pc) (PostOf Qc mc ms free) (vx_Post XC mc ms free) := by
  intro m meth c A g ig mk a X hg hsize hdg hW hn hp
  have h1 : (headSpec ws rm).pre.before a A.U = true := atoms_intro fun w hw => hws w hw _ _ X.warmed
  have h2 : (Cond.codeWith y bytes maxL ret hh).before a A.U = true := hws _ hcode _ _ X.warmed
  have h3 : (Cond.initialized y.cls).before a A.U = true := hinit _ _ X.warmed
  have h4 : A.cells + (headSpec ws rm).room.cells ≤ R.cells := by rw [show (headSpec ws rm).room.cells = mc from hrc]; exact hp.1
  have h5 : A.slots + (headSpec ws rm).room.slots ≤ R.slots := by rw [show (headSpec ws rm).room.slots = ms from hrs]; exact hp.2.1
  have hPc : Pc a (A.U.calling g mk a) := hblind _ _ _ _ hp.2.2
  obtain ⟨U, Ls, c0, s0⟩ := A
  dsimp only [Pt.U, Pt.locs, Pt.cells, Pt.slots] at h1 h2 h3 h4 h5 X hn hPc ⊢
  obtain ⟨m9, methY, cY, hn9, hmY, hcY, -, hlY, -⟩ := Cond.codeWith_spec h2
  cases Option.some.inj (hn9.symm.trans hn)
  obtain ⟨kY, hkY, -⟩ := className_of_methodNamed hn
  have hinitY : kY.init = .initialized := Cond.initialized_spec (findClass_of_methodNamed hn) hkY h3
  have h : At U g.method c below := by rw [hg]; exact X.here
  have hlocals9 : W9 + (maxL + 11) + (headSpec ws rm).room.locals ≤ R.locals := hlocals
  have happ : (headSpec ws rm).appliesLoose y e.platform (U.calling g mk a) = true :=
    Spec.appliesLoose_calling (g := g) h hdg hn hkY hinitY
      (X.room_calling (g := g) (R' := (headSpec ws rm).room) hsize hmY hcY hframes (by rw [hlY]; omega) h4 h5) h1
  obtain ⟨mid, hmid⟩ := h.above
  have hfr : (U.setTop g).frames = (.java g :: mid) ++ below := by rw [State.frames_setTop' g h.top, hmid]; rfl
  obtain ⟨o, s₂, hsteps, -, hend, hq⟩ := Steps.callFree hM p X.admits X.cas X.clock (acts := []) hfr happ hPc trivial
  have hq' : vx_Q Qc XC mc ms free a (U.calling g mk a) o s₂ := hq
  rw [State.frames_setTop' g h.top] at hend
  obtain ⟨g₀, hg0⟩ := Option.isSome_iff_exists.mp h.top
  obtain ⟨r, hr⟩ := State.topJava?_eq_some.mp hg0
  have hr' : (({ U with heap := s₂.heap, slotsUsed := s₂.slotsUsed } : State).setVm s₂.vm).frames = .java g₀ :: r := hr
  rcases hq' with ⟨hqc, L, hfe, hL⟩ | ⟨q, rfl, E, ce, L, hx, hce, hcv, hcl, hW₂, hsm, hL⟩
  · obtain ⟨⟨v, rfl⟩, hW₂, e2, q2, q3, q4, q5, q6⟩ := id hfe
    have e3 : s₂ = ({ (U.calling g mk a).setFrames s₂.frames with heap := s₂.heap, slotsUsed := s₂.slotsUsed } : State).setVm s₂.vm := by
      have : s₂ = ({ s₂ with vm := (U.calling g mk a).vm } : State).setVm s₂.vm := rfl
      rw [e2] at this
      exact this
    obtain ⟨c₂, i₂, len₂, hc₂, hd₂, hf₂⟩ := hend
    have hW' : U.WarmedH s₂.vm := hW₂
    have hcc : c₂ = c := by
      have h1 : s₂.code? g.method = U.code? g.method := by
        rw [State.code?_eq, State.code?_eq, hW'.alike.method?]
      exact Option.some.inj (hc₂.symm.trans (h1.trans h.code))
    subst hcc
    have hlen : len₂ = len := by rw [hdg] at hd₂; cases hd₂; rfl
    subst hlen
    have hs₂ : s₂ = (({ U with heap := s₂.heap, slotsUsed := s₂.slotsUsed } : State).setVm s₂.vm).setTop { g with pc := g.pc + len₂, stack := v.toList ++ g.stack } := by
      refine e3.trans ?_
      rw [hf₂, State.calling_eq h.top, State.setFrames_setFrames, State.setTop_of_frames _ hr', hr]
      rfl
    have hsame : U.sameButNew ({ U with heap := s₂.heap, slotsUsed := s₂.slotsUsed } : State) L mc ms := by
      refine ⟨?_, q2, q3, q4, q5, q6⟩
      obtain ⟨t, ht, -⟩ := State.frames_cons hr
      show ({ U with heap := s₂.heap, slotsUsed := s₂.slotsUsed } : State) = { U.setFrames U.frames with heap := s₂.heap, slotsUsed := s₂.slotsUsed }
      rw [State.setFrames_self ht]
    subst hg
    refine Or.inl ⟨v, ⟨(({ U with heap := s₂.heap, slotsUsed := s₂.slotsUsed } : State).setVm s₂.vm), Ls ++ L, c0 + mc, s0 + ms⟩,
      ⟨X.admits, X.cas, X.clock, X.frames, X.room, X.hears, X.method, X.code, (X.here.setHeapUsed s₂.heap s₂.slotsUsed).setVm hW'.alike, X.tail, State.WarmedH.trans X.warmed hW', X.limits, X.bytes, X.same.trans (hsame.setVm s.vm)⟩,
      ⟨g, mk, s₂, L, rfl, rfl, hqc, rfl, hL, rfl, rfl⟩, ?_⟩
    show Steps p.tables e below _ ((({ U with heap := s₂.heap, slotsUsed := s₂.slotsUsed } : State).setVm s₂.vm).setTop { g with pc := g.pc + len₂, stack := v.toList ++ g.stack })
    rw [← hs₂]
    exact hsteps
  · obtain ⟨e2, q2, q3, q4, q5, q6⟩ := id hsm
    have e3 : s₂ = ({ (U.calling g mk a).setFrames s₂.frames with heap := s₂.heap, slotsUsed := s₂.slotsUsed } : State).setVm s₂.vm := by
      have : s₂ = ({ s₂ with vm := (U.calling g mk a).vm } : State).setVm s₂.vm := rfl
      rw [e2] at this
      exact this
    have hf₂ : s₂.frames = .throwing q :: .java g :: U.frames.tail := hend
    have hW' : U.WarmedH s₂.vm := hW₂
    have hs₂ : s₂ = ((({ U with heap := s₂.heap, slotsUsed := s₂.slotsUsed } : State).setVm s₂.vm).setTop g).pushFrame (.throwing q) := by
      refine e3.trans ?_
      rw [hf₂, State.calling_eq h.top, State.setFrames_setFrames, State.pushFrame, State.frames_setTop _ hr', State.setTop_of_frames _ hr', State.setFrames_setFrames, hr]
      rfl
    have hsame : U.sameButNew ({ U with heap := s₂.heap, slotsUsed := s₂.slotsUsed } : State) L mc ms := by
      refine ⟨?_, q2, q3, q4, q5, q6⟩
      obtain ⟨t, ht, -⟩ := State.frames_cons hr
      show ({ U with heap := s₂.heap, slotsUsed := s₂.slotsUsed } : State) = { U.setFrames U.frames with heap := s₂.heap, slotsUsed := s₂.slotsUsed }
      rw [State.setFrames_self ht]
    subst hg
    refine Or.inr ⟨q, ⟨(({ U with heap := s₂.heap, slotsUsed := s₂.slotsUsed } : State).setVm s₂.vm), Ls ++ L, c0 + mc, s0 + ms⟩,
      ⟨X.admits, X.cas, X.clock, X.frames, X.room, X.hears, X.method, X.code, (X.here.setHeapUsed s₂.heap s₂.slotsUsed).setVm hW'.alike, X.tail, State.WarmedH.trans X.warmed hW', X.limits, X.bytes, X.same.trans (hsame.setVm s.vm)⟩,
      ⟨g, mk, s₂, L, E, ce, rfl, rfl, hx, hce, hcv, hcl, rfl, hL, rfl, rfl⟩, ?_⟩
    show Steps p.tables e below _ (((({ U with heap := s₂.heap, slotsUsed := s₂.slotsUsed } : State).setVm s₂.vm).setTop g).pushFrame (.throwing q))
    rw [← hs₂]
    exact hsteps
end
variable {p : Program} {l : Launch} {e : Env} {R : Room} {s : State} {m : MethodId} {args : Array Value} {below : List Frame} {meth : Method} {c : Code} {T : State} {H : Heap} {locs : List Loc} {cells slots : Nat}
theorem vx_callVX (X : Stand p l e R s m args below meth c T locs cells slots) (hexec : p.tables.exec = Jvm.exec) {own C : String} {index : Nat} {y : MethodName} {bytes : ByteArray} {maxL : Nat} {ret : Option FieldType} {hh : List (Nat × Nat × Nat × Nat)}
    (hown : s.vm.findClass own = some m.cls) (hlink : (Cond.methodLink own index y).before args s = true) (hinst : (Cond.instanceMethod y).before args s = true) (hsel : (Cond.selects C y y).before args s = true)
    (hcode : (Cond.codeWith y bytes maxL ret hh).before args s = true) (hy : y.cls ≠ "java/lang/invoke/MethodHandle" ∧ y.cls ≠ "java/lang/invoke/VarHandle")
    {W9 : Nat} {Pre : Pt → Array Value → Prop} {Post : Pt → Array Value → Option Value → Pt → Prop} {PostX : Pt → Array Value → Addr → Pt → Prop} (hK : vx_Back l R p e below s args y 3 W9 Pre Post PostX)
    {b : Addr} {cellB : Cell} (hcell : T.heap[b]? = some cellB) (hobj : cellB.vm.isStatics = false) (hcls : s.vm.findClass C = some cellB.cls)
    {g : JFrame} (hg : g.method = m) (hsize : g.locals.size = c.maxLocals) {argsL rest : List Value} (hlen : ∀ sig, parseMethodDescriptor y.desc = some sig → argsL.length = sig.parameters.length)
    (hstack : g.stack = argsL.reverse ++ .ref b :: rest) (hW : 2 * g.monitorRoom + (rest.map fun v => v.category).sum ≤ W9) (hdg : decode c.code g.pc = .ok (.invokevirtual index, 3))
    (hpre : ∀ vm₁, s.WarmedH vm₁ → Pre ⟨T.setVm vm₁, locs, cells, slots⟩ (Value.ref b :: argsL).toArray) :
    (∃ (v : Option Value) (vm₁ : Vm) (B : Pt), s.WarmedH vm₁ ∧ Stand p l e R s m args below meth c B.U B.locs B.cells B.slots ∧ Post ⟨T.setVm vm₁, locs, cells, slots⟩ (Value.ref b :: argsL).toArray v B ∧
      ∀ target, Steps p.tables e below (B.U.setTop { g with pc := g.pc + 3, stack := v.toList ++ rest }) target → Steps p.tables e below (T.setTop g) target) ∨
    (∃ (q : Addr) (vm₁ : Vm) (B : Pt), s.WarmedH vm₁ ∧ Stand p l e R s m args below meth c B.U B.locs B.cells B.slots ∧ PostX ⟨T.setVm vm₁, locs, cells, slots⟩ (Value.ref b :: argsL).toArray q B ∧
      Steps p.tables e below (T.setTop g) ((B.U.setTop { g with stack := rest }).pushFrame (.throwing q))) := by
  obtain ⟨mk, methM, hnamed, hmethM, hstM, habM⟩ := Cond.instanceMethod_spec hinst
  obtain ⟨m8, methM', cM, hn8, hmethM', -, -, -, -, -, -, hsigM⟩ := Cond.codeWith_spec hcode
  cases Option.some.inj (hn8.symm.trans hnamed)
  cases hmethM.symm.trans hmethM'
  obtain ⟨c2, r2, m2, q1, q2, q3, q4, kP, hkP, hkPi⟩ := Cond.selects_spec hsel
  cases hcls.symm.trans q1
  cases (State.methodFound?_of_named hnamed hy).symm.trans q2
  cases hnamed.symm.trans q3
  have hselP : selectMethod e.platform s.vm cellB.cls mk = .method mk := by rw [Launch.admits_selectMethod X.admits]; exact q4
  obtain ⟨vm₁, X₁, hstep₁⟩ := X.invokevirtual hexec hown hlink hnamed hmethM hstM hkP hkPi hy (a := b) (cell := cellB) hcell
    (fun z h => by rw [h] at hobj; cases hobj) hselP hmethM habM hkP hkPi (g := g) hg (argsL := argsL) (rest := rest) (hlen _ hsigM) hstack hdg
  rcases hK m meth c ⟨T.setVm vm₁, locs, cells, slots⟩ { g with stack := rest } (.invokevirtual index) mk (Value.ref b :: argsL).toArray X₁ hg hsize hdg hW (X₁.named hnamed) (hpre vm₁ X₁.warmed) with ⟨v, B, X', hpost, hsteps⟩ | ⟨q, B, X', hpost, hsteps⟩
  · exact Or.inl ⟨v, vm₁, B, X₁.warmed, X', hpost, fun target h => hstep₁ _ fun acts => by rw [doInvoke_state]; exact hsteps.trans h⟩
  · exact Or.inr ⟨q, vm₁, B, X₁.warmed, X', hpost, hstep₁ _ fun acts => by rw [doInvoke_state]; exact hsteps⟩
theorem vx_callSX (X : Stand p l e R s m args below meth c T locs cells slots) (hexec : p.tables.exec = Jvm.exec) {own : String} {index : Nat} {y : MethodName} {bytes : ByteArray} {maxL : Nat} {ret : Option FieldType} {hh : List (Nat × Nat × Nat × Nat)}
    (hown : s.vm.findClass own = some m.cls) (hlink : (Cond.methodLink own index y).before args s = true) (hstat : (Cond.static y).before args s = true) (hinit : (Cond.initialized y.cls).before args s = true)
    (hcode : (Cond.codeWith y bytes maxL ret hh).before args s = true) (hy : y.cls ≠ "java/lang/invoke/MethodHandle" ∧ y.cls ≠ "java/lang/invoke/VarHandle")
    {W9 : Nat} {Pre : Pt → Array Value → Prop} {Post : Pt → Array Value → Option Value → Pt → Prop} {PostX : Pt → Array Value → Addr → Pt → Prop} (hK : vx_Back l R p e below s args y 3 W9 Pre Post PostX)
    {g : JFrame} (hg : g.method = m) (hsize : g.locals.size = c.maxLocals) {argsL rest : List Value} (hlen : ∀ sig, parseMethodDescriptor y.desc = some sig → argsL.length = sig.parameters.length)
    (hstack : g.stack = argsL.reverse ++ rest) (hW : 2 * g.monitorRoom + (rest.map fun v => v.category).sum ≤ W9) (hdg : decode c.code g.pc = .ok (.invokestatic index, 3))
    (hpre : ∀ vm₁, s.WarmedH vm₁ → Pre ⟨T.setVm vm₁, locs, cells, slots⟩ argsL.toArray) :
    (∃ (v : Option Value) (vm₁ : Vm) (B : Pt), s.WarmedH vm₁ ∧ Stand p l e R s m args below meth c B.U B.locs B.cells B.slots ∧ Post ⟨T.setVm vm₁, locs, cells, slots⟩ argsL.toArray v B ∧
      ∀ target, Steps p.tables e below (B.U.setTop { g with pc := g.pc + 3, stack := v.toList ++ rest }) target → Steps p.tables e below (T.setTop g) target) ∨
    (∃ (q : Addr) (vm₁ : Vm) (B : Pt), s.WarmedH vm₁ ∧ Stand p l e R s m args below meth c B.U B.locs B.cells B.slots ∧ PostX ⟨T.setVm vm₁, locs, cells, slots⟩ argsL.toArray q B ∧
      Steps p.tables e below (T.setTop g) ((B.U.setTop { g with stack := rest }).pushFrame (.throwing q))) := by
  obtain ⟨mk, methM, cM, hnamed, hmethM, -, -, -, -, -, -, hsigM⟩ := Cond.codeWith_spec hcode
  have hstatic : methM.isStatic = true := Cond.static_spec hnamed hmethM hstat
  obtain ⟨kP, hkP, -⟩ := className_of_methodNamed hnamed
  have hinitP : kP.init = .initialized := Cond.initialized_spec (findClass_of_methodNamed hnamed) hkP hinit
  obtain ⟨vm₁, X₁, hstep₁⟩ := X.invokestatic hexec hown hlink hnamed hmethM hstatic hkP hinitP hy (g := g) hg (argsL := argsL) (rest := rest) (hlen _ hsigM) hstack hdg
  rcases hK m meth c ⟨T.setVm vm₁, locs, cells, slots⟩ { g with stack := rest } (.invokestatic index) mk argsL.toArray X₁ hg hsize hdg hW (X₁.named hnamed) (hpre vm₁ X₁.warmed) with ⟨v, B, X', hpost, hsteps⟩ | ⟨q, B, X', hpost, hsteps⟩
  · exact Or.inl ⟨v, vm₁, B, X₁.warmed, X', hpost, fun target h => hstep₁ _ fun acts => by rw [doInvoke_state]; exact hsteps.trans h⟩
  · exact Or.inr ⟨q, vm₁, B, X₁.warmed, X', hpost, hstep₁ _ fun acts => by rw [doInvoke_state]; exact hsteps⟩
theorem vx_callVW (X : Stand p l e R s m args below meth c T locs cells slots) (hexec : p.tables.exec = Jvm.exec) {own C : String} {index : Nat} {y : MethodName} {bytes : ByteArray} {maxL : Nat} {ret : Option FieldType} {hh : List (Nat × Nat × Nat × Nat)}
    (hown : s.vm.findClass own = some m.cls) (hlink : (Cond.methodLink own index y).before args s = true) (hinst : (Cond.instanceMethod y).before args s = true) (hsel : (Cond.selects C y y).before args s = true)
    (hcode : (Cond.codeWith y bytes maxL ret hh).before args s = true) (hy : y.cls ≠ "java/lang/invoke/MethodHandle" ∧ y.cls ≠ "java/lang/invoke/VarHandle")
    {W9 : Nat} {Pre : Pt → Array Value → Prop} {Post : Pt → Array Value → Option Value → Pt → Prop} (hK : Back l R p e below s args y 3 W9 Pre Post)
    {b : Addr} {cellB : Cell} (hcell : T.heap[b]? = some cellB) (hobj : cellB.vm.isStatics = false) (hcls : s.vm.findClass C = some cellB.cls)
    {g : JFrame} (hg : g.method = m) (hsize : g.locals.size = c.maxLocals) {argsL rest : List Value} (hlen : ∀ sig, parseMethodDescriptor y.desc = some sig → argsL.length = sig.parameters.length)
    (hstack : g.stack = argsL.reverse ++ .ref b :: rest) (hW : 2 * g.monitorRoom + (rest.map fun v => v.category).sum ≤ W9) (hdg : decode c.code g.pc = .ok (.invokevirtual index, 3))
    (hpre : ∀ vm₁, s.WarmedH vm₁ → Pre ⟨T.setVm vm₁, locs, cells, slots⟩ (Value.ref b :: argsL).toArray) :
    ∃ (v : Option Value) (vm₁ : Vm) (B : Pt), s.WarmedH vm₁ ∧ Stand p l e R s m args below meth c B.U B.locs B.cells B.slots ∧ Post ⟨T.setVm vm₁, locs, cells, slots⟩ (Value.ref b :: argsL).toArray v B ∧
      ∀ target, Steps p.tables e below (B.U.setTop { g with pc := g.pc + 3, stack := v.toList ++ rest }) target → Steps p.tables e below (T.setTop g) target := by
  obtain ⟨mk, methM, hnamed, hmethM, hstM, habM⟩ := Cond.instanceMethod_spec hinst
  obtain ⟨m8, methM', cM, hn8, hmethM', -, -, -, -, -, -, hsigM⟩ := Cond.codeWith_spec hcode
  cases Option.some.inj (hn8.symm.trans hnamed)
  cases hmethM.symm.trans hmethM'
  obtain ⟨c2, r2, m2, q1, q2, q3, q4, kP, hkP, hkPi⟩ := Cond.selects_spec hsel
  cases hcls.symm.trans q1
  cases (State.methodFound?_of_named hnamed hy).symm.trans q2
  cases hnamed.symm.trans q3
  have hselP : selectMethod e.platform s.vm cellB.cls mk = .method mk := by rw [Launch.admits_selectMethod X.admits]; exact q4
  obtain ⟨vm₁, X₁, hstep₁⟩ := X.invokevirtual hexec hown hlink hnamed hmethM hstM hkP hkPi hy (a := b) (cell := cellB) hcell
    (fun z h => by rw [h] at hobj; cases hobj) hselP hmethM habM hkP hkPi (g := g) hg (argsL := argsL) (rest := rest) (hlen _ hsigM) hstack hdg
  obtain ⟨v, B, X', hpost, hsteps⟩ := hK m meth c ⟨T.setVm vm₁, locs, cells, slots⟩ { g with stack := rest } (.invokevirtual index) mk (Value.ref b :: argsL).toArray X₁ hg hsize hdg hW (X₁.named hnamed) (hpre vm₁ X₁.warmed)
  exact ⟨v, vm₁, B, X₁.warmed, X', hpost, fun target h => hstep₁ _ fun acts => by rw [doInvoke_state]; exact hsteps.trans h⟩
abbrev vx_CVW (R : Room) (s : State) (args : Array Value) (own C : String) (index : Nat) (y : MethodName) (bytes : ByteArray) (maxL : Nat) (ret : Option FieldType) (hh : List (Nat × Nat × Nat × Nat)) (ws : List Cond) (rm : Room) (mc ms n : Nat) : Prop :=
  (rm.cells = mc ∧ rm.slots = ms ∧ rm.frames + 1 ≤ R.frames ∧ 8 + (maxL + 11) + rm.locals ≤ R.locals ∧ (∀ w ∈ ws, ∀ (a' : Array Value) (U : State), s.WarmedH U.vm → w.before a' U = true) ∧ Cond.codeWith y bytes maxL ret hh ∈ ws) ∧
  (Cond.codeWith y bytes maxL ret hh).before args s = true ∧ (Cond.initialized y.cls).before args s = true ∧ (y.cls ≠ "java/lang/invoke/MethodHandle" ∧ y.cls ≠ "java/lang/invoke/VarHandle") ∧
  (∀ sig, parseMethodDescriptor y.desc = some sig → n = sig.parameters.length) ∧ (Cond.methodLink own index y).before args s = true ∧ (Cond.instanceMethod y).before args s = true ∧ (Cond.selects C y y).before args s = true
theorem vx_cwVW {own C : String} {index maxL mc ms : Nat} {y : MethodName} {bytes : ByteArray} {ret : Option FieldType} {hh : List (Nat × Nat × Nat × Nat)} {Ts ws ws' : List Cond} {rm : Room} (n : Nat) (ht : ∀ w ∈ Ts, w.before args s = true) (hT : GoodIn Ts (wsV own index C y ws)) (hw : ws = Cond.codeWith y bytes maxL ret hh :: ws') (hrc : rm.cells = mc) (hrs : rm.slots = ms)
    (hd : y.cls = C ∧ y.cls ≠ "java/lang/invoke/MethodHandle" ∧ y.cls ≠ "java/lang/invoke/VarHandle" ∧ (parseMethodDescriptor y.desc).map (fun d => d.parameters.length) = some n) (hR : rm.frames + 1 ≤ R.frames ∧ 8 + (maxL + 11) + rm.locals ≤ R.locals) :
    vx_CVW R s args own C index y bytes maxL ret hh ws rm mc ms n := by
  obtain ⟨hC, hd⟩ := hd
  subst hC
  have ok : ∀ w ∈ wsV own index y.cls y ws, w.before args s = true := fun w h => ht w (hT w h).1
  have hG : GoodIn Ts ws := fun w h => hT w (by unfold wsV; exact List.mem_append_right _ h)
  have hc : Cond.codeWith y bytes maxL ret hh ∈ ws := by rw [hw]; exact List.mem_cons_self
  refine ⟨⟨hrc, hrs, hR.1, hR.2, pay_in ht hG, hc⟩, ht _ (hG _ hc).1, ok _ (by simp [wsV]), ⟨hd.1, hd.2.1⟩, fun sig h => ?_, ok _ (by simp [wsV]), ok _ (by simp [wsV]), ok _ (by simp [wsV])⟩
  have h2 := hd.2.2
  rw [h] at h2
  exact (Option.some.inj h2).symm
theorem vx_runVW {y : MethodName} {bytes cc : ByteArray} {maxL nL mc ms n index : Nat} {ret : Option FieldType} {hh : List (Nat × Nat × Nat × Nat)} {ws : List Cond} {rm : Room} {Pc : Array Value → State → Prop} {Qc : Array Value → State → Outcome → State → Prop} {free : Addr → Prop} {Ts : List Cond} {own C : String} {b : Addr} {As rest : List Value} {g : JFrame}
    (S : CallFix p m c cc nL s args Ts own) (hM : Met l y ws rm Pc Qc mc ms free) (cw : vx_CVW R s args own C index y bytes maxL ret hh ws rm mc ms n) (hp : PreV s H C b Pc As)
    (hg : g.method = m) (hn : As.length = n) (hsize : g.locals.size = nL) (hstack : g.stack = As.reverse ++ .ref b :: rest) (hW : 2 * g.monitorRoom + (rest.map fun v => v.category).sum ≤ 8) (hdg : decode cc g.pc = .ok (.invokevirtual index, 3)) (hf : cells + mc ≤ R.cells ∧ slots + ms ≤ R.slots) :
    va_Run p l e R s m args below meth c H locs cells slots mc ms g rest (Qc (Value.ref b :: As).toArray) free := by
  obtain ⟨⟨hrc, hrs, hfr, hlo, hws, hcw⟩, hcode, hini, hy, hlen, hl, hin, hse⟩ := cw
  have hK : Back l R p e below s args y 3 8 (PreOf R mc ms Pc) (PostOf Qc mc ms free) := va_backW (hh := hh) (bytes := bytes) (maxL := maxL) (ret := ret) hM hp.1 hrc hrs hfr hlo hws hcw (fun a' U hW => word_at hW (Or.inl (by first | rfl | simp [Cond.onTables, Cond.keeps, Cond.steady])) hini)
  obtain ⟨hx, hb, hml, ho, -⟩ := S
  obtain ⟨-, ⟨cellB, hcB, hoB, hclB⟩, hPc⟩ := hp
  intro T hT X
  obtain ⟨v, vm₁, ⟨U', l2, c2, s2⟩, hW₁, X', ⟨g', mk, t, L, e1, e2, hq, h1, hL, h2, h3⟩, st⟩ := vx_callVW X hx (C := C) (hh := hh) (bytes := bytes) (maxL := maxL) (ret := ret) ho hl hin hse hcode hy hK (by rw [hT]; exact hcB) hoB hclB hg (hsize.trans hml.symm) (argsL := As) (rest := rest) (fun sig h => hn.trans (hlen sig h)) hstack hW (by rw [hb]; exact hdg)
    (fun vm₁ hW₁ => ⟨hf.1, hf.2, hPc (T.setVm vm₁) hT hW₁⟩)
  dsimp only [Pt.U, Pt.locs, Pt.cells, Pt.slots] at X' e1 e2 h1 h2 h3 st
  subst h1; subst h2; subst h3
  exact ⟨v, (T.setVm vm₁).calling g' mk (Value.ref b :: As).toArray, t, U', L, hT, X', hL, e1, e2, hq, st⟩
section
variable {y : MethodName} {bytes cc : ByteArray} {maxL nL mc ms n index : Nat} {ret : Option FieldType} {ws : List Cond} {rm : Room} {Pc : Array Value → State → Prop} {Qc : Array Value → State → Outcome → State → Prop} {XC : String → State → State → Prop} {free : Addr → Prop} {Ts : List Cond} {own C : String} {b : Addr} {As rest : List Value} {g : JFrame}
theorem vx_runVX {hh : List (Nat × Nat × Nat × Nat)} (S : CallFix p m c cc nL s args Ts own) (hM : vx_Met l y ws rm Pc Qc XC mc ms free) (cw : vx_CVW R s args own C index y bytes maxL ret hh ws rm mc ms n) (hp : PreV s H C b Pc As)
    (hg : g.method = m) (hn : As.length = n) (hsize : g.locals.size = nL) (hstack : g.stack = As.reverse ++ .ref b :: rest) (hW : 2 * g.monitorRoom + (rest.map fun v => v.category).sum ≤ 8) (hdg : decode cc g.pc = .ok (.invokevirtual index, 3)) (hf : cells + mc ≤ R.cells ∧ slots + ms ≤ R.slots) :
    vx_Run p l e R s m args below meth c H locs cells slots mc ms g rest (Qc (Value.ref b :: As).toArray) XC free := by
  obtain ⟨⟨hrc, hrs, hfr, hlo, hws, hcw⟩, hcode, hini, hy, hlen, hl, hin, hse⟩ := cw
  have hK : vx_Back l R p e below s args y 3 8 (PreOf R mc ms Pc) (PostOf Qc mc ms free) (vx_Post XC mc ms free) := vx_backW (hh := hh) (bytes := bytes) (maxL := maxL) (ret := ret) hM hp.1 hrc hrs hfr hlo hws hcw (fun a' U hW => word_at hW (Or.inl (by first | rfl | simp [Cond.onTables, Cond.keeps, Cond.steady])) hini)
  obtain ⟨hx, hb, hml, ho, -⟩ := S
  obtain ⟨-, ⟨cellB, hcB, hoB, hclB⟩, hPc⟩ := hp
  intro T hT X
  rcases vx_callVX X hx (C := C) (hh := hh) (bytes := bytes) (maxL := maxL) (ret := ret) ho hl hin hse hcode hy hK (by rw [hT]; exact hcB) hoB hclB hg (hsize.trans hml.symm) (argsL := As) (rest := rest) (fun sig h => hn.trans (hlen sig h)) hstack hW (by rw [hb]; exact hdg)
    (fun vm₁ hW₁ => ⟨hf.1, hf.2, hPc (T.setVm vm₁) hT hW₁⟩) with ⟨v, vm₁, ⟨U', l2, c2, s2⟩, hW₁, X', ⟨g', mk, t, L, e1, e2, hq, h1, hL, h2, h3⟩, st⟩ | ⟨q, vm₁, ⟨U', l2, c2, s2⟩, hW₁, X', ⟨g', mk, t, L, E, ce, e1, e2, hq, hce, hcv, hcl, h1, hL, h2, h3⟩, st⟩
  · dsimp only [Pt.U, Pt.locs, Pt.cells, Pt.slots] at X' e1 e2 h1 h2 h3 st
    subst h1; subst h2; subst h3
    exact Or.inl ⟨v, (T.setVm vm₁).calling g' mk (Value.ref b :: As).toArray, t, U', L, hT, X', hL, e1, e2, hq, st⟩
  · dsimp only [Pt.U, Pt.locs, Pt.cells, Pt.slots] at X' e1 e2 h1 h2 h3 st hcl
    subst h1; subst h2; subst h3
    exact Or.inr ⟨q, (T.setVm vm₁).calling g' mk (Value.ref b :: As).toArray, t, U', L, E, ce, hT, X', hL, e1, e2, hq, hce, hcv, vx_cls hW₁ hcl, st⟩
theorem vx_runSX {hh : List (Nat × Nat × Nat × Nat)} (S : CallFix p m c cc nL s args Ts own) (hM : vx_Met l y ws rm Pc Qc XC mc ms free) (cw : vx_CSW R s args own index y bytes maxL ret hh ws rm mc ms n) (hp : PreS s H Pc As)
    (hg : g.method = m) (hn : As.length = n) (hsize : g.locals.size = nL) (hstack : g.stack = As.reverse ++ rest) (hW : 2 * g.monitorRoom + (rest.map fun v => v.category).sum ≤ 8) (hdg : decode cc g.pc = .ok (.invokestatic index, 3)) (hf : cells + mc ≤ R.cells ∧ slots + ms ≤ R.slots) :
    vx_Run p l e R s m args below meth c H locs cells slots mc ms g rest (Qc As.toArray) XC free := by
  obtain ⟨⟨hrc, hrs, hfr, hlo, hws, hcw⟩, hcode, hini, hy, hlen, hl, hstt⟩ := cw
  have hK : vx_Back l R p e below s args y 3 8 (PreOf R mc ms Pc) (PostOf Qc mc ms free) (vx_Post XC mc ms free) := vx_backW (hh := hh) (bytes := bytes) (maxL := maxL) (ret := ret) hM hp.1 hrc hrs hfr hlo hws hcw (fun a' U hW => word_at hW (Or.inl (by first | rfl | simp [Cond.onTables, Cond.keeps, Cond.steady])) hini)
  obtain ⟨hx, hb, hml, ho, -⟩ := S
  intro T hT X
  rcases vx_callSX X hx (hh := hh) (bytes := bytes) (maxL := maxL) (ret := ret) ho hl hstt hini hcode hy hK hg (hsize.trans hml.symm) (argsL := As) (rest := rest) (fun sig h => hn.trans (hlen sig h)) hstack hW (by rw [hb]; exact hdg)
    (fun vm₁ hW₁ => ⟨hf.1, hf.2, hp.2 (T.setVm vm₁) hT hW₁⟩) with ⟨v, vm₁, ⟨U', l2, c2, s2⟩, hW₁, X', ⟨g', mk, t, L, e1, e2, hq, h1, hL, h2, h3⟩, st⟩ | ⟨q, vm₁, ⟨U', l2, c2, s2⟩, hW₁, X', ⟨g', mk, t, L, E, ce, e1, e2, hq, hce, hcv, hcl, h1, hL, h2, h3⟩, st⟩
  · dsimp only [Pt.U, Pt.locs, Pt.cells, Pt.slots] at X' e1 e2 h1 h2 h3 st
    subst h1; subst h2; subst h3
    exact Or.inl ⟨v, (T.setVm vm₁).calling g' mk As.toArray, t, U', L, hT, X', hL, e1, e2, hq, st⟩
  · dsimp only [Pt.U, Pt.locs, Pt.cells, Pt.slots] at X' e1 e2 h1 h2 h3 st hcl
    subst h1; subst h2; subst h3
    exact Or.inr ⟨q, (T.setVm vm₁).calling g' mk As.toArray, t, U', L, E, ce, hT, X', hL, e1, e2, hq, hce, hcv, vx_cls hW₁ hcl, st⟩
end
end VXH
theorem vx_ofWH {l : Launch} {y : MethodName} {ws ws' : List Cond} {rm : Room} {Pc : Array Value → State → Prop} {Qc : Array Value → State → Outcome → State → Prop} {XC : String → State → State → Prop} {mc ms : Nat} {free : Addr → Prop} {cc : ByteArray} {maxL : Nat} {ret : Option FieldType} {hh : List (Nat × Nat × Nat × Nat)}
    (hy : plainName y.cls = true) (hw : ws = Cond.codeWith y cc maxL ret hh :: ws')
    (body : ∀ p e s m args below meth c s₁, BodyLoose p l y (headSpec ws rm) cc maxL ret e s m args below meth c s₁ → c.maxLocals = maxL → Pc args s →
      W p l e (headSpec ws rm).room s m args below meth c s.heap [] 0 0 (vx_MQ below Qc XC args s mc ms free) (entryFrame m args maxL)) : vx_Met l y ws rm Pc Qc XC mc ms free := by
  refine MetFree.of_bodyS (code := cc) (maxLocals := maxL) (ret := ret) hy ?_ ?_
  · intro args s m h hn
    obtain ⟨m9, meth, c, hn9, h1, h2, h3, h4, -, h5, h6, -⟩ := Cond.codeWith_spec (atoms_spec (ws := ws) h _ (by rw [hw]; exact List.mem_cons_self))
    cases hn.symm.trans hn9
    exact ⟨meth, c, h1, h2, h3, h4, h5, h6⟩
  · intro p e s m args below meth c s₁ B hml hP _
    have hh0 : s₁.heap = s.heap := by rw [B.state]; rfl
    obtain ⟨t, a1, o, b1, b2, b3⟩ := body p e s m args below meth c s₁ B hml hP s₁ hh0 (Stand.of_body B)
    exact ⟨t, o, a1, b1, b2, b3⟩
/-! ===== END ===== -/

/-! ===== BEGIN printed: names, fields, word lists, decode rows ===== -/
def RX0 : String := "BatchPipe$Batch"
def TX0 : u_T := fun k => match k with
  | 0 => ("BatchPipe$Batch", "number", "I", true)
  | 1 => ("BatchPipe$Batch", "oil", "LBatchPipe$Product;", false)
  | 2 => ("BatchPipe$Batch", "shipper", "I", false)
  | 3 => ("BatchPipe$Batch", "ordered", "I", false)
  | 4 => ("BatchPipe$Batch", "entered", "I", false)
  | 5 => ("BatchPipe$Batch", "left", "I", false)
  | 6 => ("BatchPipe$Batch", "dropped", "I", false)
  | 7 => ("BatchPipe$Batch", "leaked", "I", false)
  | 8 => ("BatchPipe$Batch", "ahead", "LBatchPipe$Batch;", false)
  | 9 => ("BatchPipe$Batch", "behind", "LBatchPipe$Batch;", false)
  | 10 => ("BatchPipe$Batch", "enteredBefore", "I", false)
  | 11 => ("BatchPipe$Batch", "firstGone", "Z", false)
  | _ => ("BatchPipe$Batch", "mix", "I", false)
def tyX0 : Nat → FieldType := fun k => match k with
  | 0 => .int
  | 1 => .object "BatchPipe$Product"
  | 2 => .int
  | 3 => .int
  | 4 => .int
  | 5 => .int
  | 6 => .int
  | 7 => .int
  | 8 => .object "BatchPipe$Batch"
  | 9 => .object "BatchPipe$Batch"
  | 10 => .int
  | 11 => .boolean
  | _ => .int
abbrev wsX00 : List Cond := u_ws RX0 TX0 13
theorem nmX0 : ∀ a, a < 13 → ∀ b, b < 13 → a ≠ b → (TX0 a).2.1 ≠ (TX0 b).2.1 := by decide +kernel
theorem tyX0_ok : ∀ k, k < 13 → parseFieldDescriptor (TX0 k).2.2.1 = some (tyX0 k) := by decide +kernel
abbrev cX0_init : ByteArray := prog_2_method_1_code
def yX0_init : MethodName := ⟨RX0, "<init>", "(ILBatchPipe$Product;)V"⟩
abbrev cX0_tell : ByteArray := prog_2_method_2_code
def yX0_tell : MethodName := ⟨RX0, "tell", "(ILBatchPipe$Product;I)V"⟩
abbrev cX0_inPipe : ByteArray := prog_2_method_3_code
def yX0_inPipe : MethodName := ⟨RX0, "inPipe", "()I"⟩
abbrev cX0_waiting : ByteArray := prog_2_method_4_code
def yX0_waiting : MethodName := ⟨RX0, "waiting", "()I"⟩
def RX1 : String := "BatchPipe$Product"
def TX1 : u_T := fun k => match k with
  | 0 => ("BatchPipe$Product", "number", "I", true)
  | 1 => ("BatchPipe$Product", "weight", "I", false)
  | 2 => ("BatchPipe$Product", "thickness", "I", false)
  | 3 => ("BatchPipe$Product", "grade", "I", false)
  | _ => ("BatchPipe$Product", "barred", "I", false)
def tyX1 : Nat → FieldType := fun k => match k with
  | 0 => .int
  | 1 => .int
  | 2 => .int
  | 3 => .int
  | _ => .int
abbrev wsX10 : List Cond := u_ws RX1 TX1 5
theorem nmX1 : ∀ a, a < 5 → ∀ b, b < 5 → a ≠ b → (TX1 a).2.1 ≠ (TX1 b).2.1 := by decide +kernel
theorem tyX1_ok : ∀ k, k < 5 → parseFieldDescriptor (TX1 k).2.2.1 = some (tyX1 k) := by decide +kernel
abbrev cX1_init : ByteArray := prog_3_method_1_code
def yX1_init : MethodName := ⟨RX1, "<init>", "(I)V"⟩
abbrev cX1_tell : ByteArray := prog_3_method_2_code
def yX1_tell : MethodName := ⟨RX1, "tell", "(IIII)V"⟩
abbrev cX1_bears : ByteArray := prog_3_method_3_code
def yX1_bears : MethodName := ⟨RX1, "bears", "(LBatchPipe$Product;)Z"⟩
def RX2 : String := "BatchPipe$Segment"
def TX2 : u_T := fun k => match k with
  | 0 => ("BatchPipe$Segment", "ring", "[I", true)
  | 1 => ("BatchPipe$Segment", "unitsOf", "[I", true)
  | 2 => ("BatchPipe$Segment", "last", "I", false)
  | 3 => ("BatchPipe$Segment", "holds", "I", false)
  | 4 => ("BatchPipe$Segment", "height", "I", false)
  | 5 => ("BatchPipe$Segment", "limit", "I", false)
  | _ => ("BatchPipe$Segment", "dirt", "I", false)
def tyX2 : Nat → FieldType := fun k => match k with
  | 0 => .array .int
  | 1 => .array .int
  | 2 => .int
  | 3 => .int
  | 4 => .int
  | 5 => .int
  | _ => .int
abbrev wsX20 : List Cond := u_ws RX2 TX2 7
theorem nmX2 : ∀ a, a < 7 → ∀ b, b < 7 → a ≠ b → (TX2 a).2.1 ≠ (TX2 b).2.1 := by decide +kernel
theorem tyX2_ok : ∀ k, k < 7 → parseFieldDescriptor (TX2 k).2.2.1 = some (tyX2 k) := by decide +kernel
abbrev cX2_init : ByteArray := prog_4_method_1_code
def yX2_init : MethodName := ⟨RX2, "<init>", "()V"⟩
abbrev cX2_tell : ByteArray := prog_4_method_2_code
def yX2_tell : MethodName := ⟨RX2, "tell", "(III)V"⟩
abbrev cX2_fill : ByteArray := prog_4_method_3_code
def yX2_fill : MethodName := ⟨RX2, "fill", "(II)V"⟩
abbrev cX2_fromEnd : ByteArray := prog_4_method_4_code
def yX2_fromEnd : MethodName := ⟨RX2, "fromEnd", "(I)I"⟩
abbrev cX2_moveOn : ByteArray := prog_4_method_5_code
def yX2_moveOn : MethodName := ⟨RX2, "moveOn", "(I)V"⟩
def RX3 : String := "BatchPipe$Tank"
def TX3 : u_T := fun k => match k with
  | 0 => ("BatchPipe$Tank", "has", "I", false)
  | 1 => ("BatchPipe$Tank", "grade", "I", false)
  | 2 => ("BatchPipe$Tank", "mixed", "I", false)
  | _ => ("BatchPipe$Tank", "spilled", "I", false)
def tyX3 : Nat → FieldType := fun k => match k with
  | 0 => .int
  | 1 => .int
  | 2 => .int
  | _ => .int
abbrev wsX30 : List Cond := u_ws RX3 TX3 4
theorem nmX3 : ∀ a, a < 4 → ∀ b, b < 4 → a ≠ b → (TX3 a).2.1 ≠ (TX3 b).2.1 := by decide +kernel
theorem tyX3_ok : ∀ k, k < 4 → parseFieldDescriptor (TX3 k).2.2.1 = some (tyX3 k) := by decide +kernel
abbrev cX3_init : ByteArray := prog_5_method_1_code
def yX3_init : MethodName := ⟨RX3, "<init>", "()V"⟩
abbrev cX3_take : ByteArray := prog_5_method_2_code
def yX3_take : MethodName := ⟨RX3, "take", "(IZ)V"⟩
abbrev cX3_pourOut : ByteArray := prog_5_method_3_code
def yX3_pourOut : MethodName := ⟨RX3, "pourOut", "()I"⟩
def RX4 : String := "BatchPipe$Tap"
def TX4 : u_T := fun k => match k with
  | 0 => ("BatchPipe$Tap", "segment", "I", false)
  | 1 => ("BatchPipe$Tap", "units", "I", false)
  | 2 => ("BatchPipe$Tap", "tank", "I", false)
  | _ => ("BatchPipe$Tap", "taken", "I", false)
def tyX4 : Nat → FieldType := fun k => match k with
  | 0 => .int
  | 1 => .int
  | 2 => .int
  | _ => .int
abbrev wsX40 : List Cond := u_ws RX4 TX4 4
theorem nmX4 : ∀ a, a < 4 → ∀ b, b < 4 → a ≠ b → (TX4 a).2.1 ≠ (TX4 b).2.1 := by decide +kernel
theorem tyX4_ok : ∀ k, k < 4 → parseFieldDescriptor (TX4 k).2.2.1 = some (tyX4 k) := by decide +kernel
abbrev cX4_init : ByteArray := prog_6_method_1_code
def yX4_init : MethodName := ⟨RX4, "<init>", "()V"⟩
abbrev cX4_tell : ByteArray := prog_6_method_2_code
def yX4_tell : MethodName := ⟨RX4, "tell", "(III)V"⟩
abbrev cX4_takesMore : ByteArray := prog_6_method_3_code
def yX4_takesMore : MethodName := ⟨RX4, "takesMore", "()Z"⟩
def RX5 : String := "BatchPipe"
def TX5 : u_T := fun k => match k with
  | 0 => ("BatchPipe", "segments", "[LBatchPipe$Segment;", true)
  | 1 => ("BatchPipe", "products", "[LBatchPipe$Product;", true)
  | 2 => ("BatchPipe", "batches", "[LBatchPipe$Batch;", true)
  | 3 => ("BatchPipe", "tanks", "[LBatchPipe$Tank;", true)
  | 4 => ("BatchPipe", "balances", "[I", true)
  | 5 => ("BatchPipe", "leakTap", "LBatchPipe$Tap;", true)
  | 6 => ("BatchPipe", "dropTap", "LBatchPipe$Tap;", true)
  | 7 => ("BatchPipe", "outlet", "LBatchPipe$Tap;", true)
  | 8 => ("BatchPipe", "segmentCount", "I", false)
  | 9 => ("BatchPipe", "batchCount", "I", false)
  | 10 => ("BatchPipe", "isOpen", "Z", false)
  | 11 => ("BatchPipe", "inletBatch", "LBatchPipe$Batch;", false)
  | 12 => ("BatchPipe", "enteredInAll", "I", false)
  | 13 => ("BatchPipe", "rateTold", "I", false)
  | 14 => ("BatchPipe", "rateFound", "I", false)
  | 15 => ("BatchPipe", "minute", "I", false)
  | _ => ("BatchPipe", "pigBehind", "I", false)
def tyX5 : Nat → FieldType := fun k => match k with
  | 0 => .array (.object "BatchPipe$Segment")
  | 1 => .array (.object "BatchPipe$Product")
  | 2 => .array (.object "BatchPipe$Batch")
  | 3 => .array (.object "BatchPipe$Tank")
  | 4 => .array .int
  | 5 => .object "BatchPipe$Tap"
  | 6 => .object "BatchPipe$Tap"
  | 7 => .object "BatchPipe$Tap"
  | 8 => .int
  | 9 => .int
  | 10 => .boolean
  | 11 => .object "BatchPipe$Batch"
  | 12 => .int
  | 13 => .int
  | 14 => .int
  | 15 => .int
  | _ => .int
abbrev wsX50 : List Cond := u_ws RX5 TX5 17
theorem nmX5 : ∀ a, a < 17 → ∀ b, b < 17 → a ≠ b → (TX5 a).2.1 ≠ (TX5 b).2.1 := by decide +kernel
theorem tyX5_ok : ∀ k, k < 17 → parseFieldDescriptor (TX5 k).2.2.1 = some (tyX5 k) := by decide +kernel
abbrev cX5_init : ByteArray := prog_1_method_1_code
def yX5_init : MethodName := ⟨RX5, "<init>", "()V"⟩
abbrev cX5_segment : ByteArray := prog_1_method_2_code
def yX5_segment : MethodName := ⟨RX5, "segment", "(III)I"⟩
abbrev cX5_product : ByteArray := prog_1_method_3_code
def yX5_product : MethodName := ⟨RX5, "product", "(IIIII)V"⟩
abbrev cX5_open : ByteArray := prog_1_method_4_code
def yX5_open : MethodName := ⟨RX5, "open", "(I)I"⟩
abbrev cX5_order : ByteArray := prog_1_method_5_code
def yX5_order : MethodName := ⟨RX5, "order", "(III)I"⟩
abbrev cX5_rate : ByteArray := prog_1_method_6_code
def yX5_rate : MethodName := ⟨RX5, "rate", "(I)I"⟩
abbrev cX5_drop : ByteArray := prog_1_method_7_code
def yX5_drop : MethodName := ⟨RX5, "drop", "(III)V"⟩
abbrev cX5_leak : ByteArray := prog_1_method_8_code
def yX5_leak : MethodName := ⟨RX5, "leak", "(II)V"⟩
abbrev cX5_receive : ByteArray := prog_1_method_9_code
def yX5_receive : MethodName := ⟨RX5, "receive", "(I)I"⟩
abbrev cX5_empty : ByteArray := prog_1_method_10_code
def yX5_empty : MethodName := ⟨RX5, "empty", "(I)I"⟩
abbrev cX5_launch : ByteArray := prog_1_method_11_code
def yX5_launch : MethodName := ⟨RX5, "launch", "()V"⟩
abbrev cX5_pass : ByteArray := prog_1_method_12_code
def yX5_pass : MethodName := ⟨RX5, "pass", "(I)I"⟩
abbrev cX5_batch : ByteArray := prog_1_method_13_code
def yX5_batch : MethodName := ⟨RX5, "batch", "(II)I"⟩
abbrev cX5_unit : ByteArray := prog_1_method_14_code
def yX5_unit : MethodName := ⟨RX5, "unit", "(I)I"⟩
abbrev cX5_unitAnew : ByteArray := prog_1_method_15_code
def yX5_unitAnew : MethodName := ⟨RX5, "unitAnew", "(I)I"⟩
abbrev cX5_pressure : ByteArray := prog_1_method_16_code
def yX5_pressure : MethodName := ⟨RX5, "pressure", "(II)I"⟩
abbrev cX5_tank : ByteArray := prog_1_method_17_code
def yX5_tank : MethodName := ⟨RX5, "tank", "(II)I"⟩
abbrev cX5_pipe : ByteArray := prog_1_method_18_code
def yX5_pipe : MethodName := ⟨RX5, "pipe", "(I)I"⟩
abbrev cX5_dirt : ByteArray := prog_1_method_19_code
def yX5_dirt : MethodName := ⟨RX5, "dirt", "(I)I"⟩
abbrev cX5_share : ByteArray := prog_1_method_20_code
def yX5_share : MethodName := ⟨RX5, "share", "(II)I"⟩
abbrev cX5_checkIndex : ByteArray := prog_1_method_21_code
def yX5_checkIndex : MethodName := ⟨RX5, "checkIndex", "(II)V"⟩
abbrev cX5_checkRange : ByteArray := prog_1_method_22_code
def yX5_checkRange : MethodName := ⟨RX5, "checkRange", "(III)V"⟩
abbrev cX5_checkOnTheWay : ByteArray := prog_1_method_23_code
def yX5_checkOnTheWay : MethodName := ⟨RX5, "checkOnTheWay", "(I)V"⟩
abbrev cX5_checkUnit : ByteArray := prog_1_method_24_code
def yX5_checkUnit : MethodName := ⟨RX5, "checkUnit", "(I)V"⟩
abbrev cX5_unitOf : ByteArray := prog_1_method_25_code
def yX5_unitOf : MethodName := ⟨RX5, "unitOf", "(LBatchPipe$Batch;I)I"⟩
abbrev cX5_placeOf : ByteArray := prog_1_method_26_code
def yX5_placeOf : MethodName := ⟨RX5, "placeOf", "(I)I"⟩
abbrev cX5_batchOf : ByteArray := prog_1_method_27_code
def yX5_batchOf : MethodName := ⟨RX5, "batchOf", "(I)LBatchPipe$Batch;"⟩
abbrev cX5_fillSegments : ByteArray := prog_1_method_28_code
def yX5_fillSegments : MethodName := ⟨RX5, "fillSegments", "(I)I"⟩
abbrev cX5_passOne : ByteArray := prog_1_method_29_code
def yX5_passOne : MethodName := ⟨RX5, "passOne", "()I"⟩
abbrev cX5_findRate : ByteArray := prog_1_method_30_code
def yX5_findRate : MethodName := ⟨RX5, "findRate", "()I"⟩
abbrev cX5_noneAbove : ByteArray := prog_1_method_31_code
def yX5_noneAbove : MethodName := ⟨RX5, "noneAbove", "(I)Z"⟩
abbrev cX5_atBeginning : ByteArray := prog_1_method_32_code
def yX5_atBeginning : MethodName := ⟨RX5, "atBeginning", "(II)I"⟩
abbrev cX5_headAt : ByteArray := prog_1_method_33_code
def yX5_headAt : MethodName := ⟨RX5, "headAt", "(I)I"⟩
abbrev cX5_friction : ByteArray := prog_1_method_34_code
def yX5_friction : MethodName := ⟨RX5, "friction", "(LBatchPipe$Segment;I)I"⟩
abbrev cX5_moveOne : ByteArray := prog_1_method_35_code
def yX5_moveOne : MethodName := ⟨RX5, "moveOne", "()Z"⟩
abbrev cX5_nextBatch : ByteArray := prog_1_method_36_code
def yX5_nextBatch : MethodName := ⟨RX5, "nextBatch", "()LBatchPipe$Batch;"⟩
abbrev cX5_nextTap : ByteArray := prog_1_method_37_code
def yX5_nextTap : MethodName := ⟨RX5, "nextTap", "()LBatchPipe$Tap;"⟩
abbrev cX5_sendOff : ByteArray := prog_1_method_38_code
def yX5_sendOff : MethodName := ⟨RX5, "sendOff", "(LBatchPipe$Tap;)V"⟩
abbrev cX5_bringIn : ByteArray := prog_1_method_39_code
def yX5_bringIn : MethodName := ⟨RX5, "bringIn", "(LBatchPipe$Batch;I)V"⟩
abbrev cX5_soil : ByteArray := prog_1_method_40_code
def yX5_soil : MethodName := ⟨RX5, "soil", "()V"⟩
abbrev cX5_cleanUpTo : ByteArray := prog_1_method_41_code
def yX5_cleanUpTo : MethodName := ⟨RX5, "cleanUpTo", "(I)V"⟩
abbrev cX5_mixOf : ByteArray := prog_1_method_42_code
def yX5_mixOf : MethodName := ⟨RX5, "mixOf", "(LBatchPipe$Batch;)I"⟩
abbrev cX5_wholeRoot : ByteArray := prog_1_method_43_code
def yX5_wholeRoot : MethodName := ⟨RX5, "wholeRoot", "(I)I"⟩
abbrev cX5_pour : ByteArray := prog_1_method_44_code
def yX5_pour : MethodName := ⟨RX5, "pour", "(LBatchPipe$Batch;ILBatchPipe$Tank;)V"⟩
abbrev cX5_spilledInAll : ByteArray := prog_1_method_45_code
def yX5_spilledInAll : MethodName := ⟨RX5, "spilledInAll", "()I"⟩
abbrev cX5_latestBalance : ByteArray := prog_1_method_46_code
def yX5_latestBalance : MethodName := ⟨RX5, "latestBalance", "()I"⟩
abbrev cX5_waitingFor : ByteArray := prog_1_method_47_code
def yX5_waitingFor : MethodName := ⟨RX5, "waitingFor", "(I)I"⟩
abbrev cX5_claimOf : ByteArray := prog_1_method_48_code
def yX5_claimOf : MethodName := ⟨RX5, "claimOf", "(I)I"⟩
def RX6 : String := "BatchPipeModel"
def TX6 : u_T := fun k => match k with
  | 0 => ("BatchPipeModel", "minute", "I", false)
  | 1 => ("BatchPipeModel", "segments", "I", false)
  | 2 => ("BatchPipeModel", "holds", "[I", true)
  | 3 => ("BatchPipeModel", "height", "[I", true)
  | 4 => ("BatchPipeModel", "limit", "[I", true)
  | 5 => ("BatchPipeModel", "dirty", "[I", true)
  | 6 => ("BatchPipeModel", "isOpen", "Z", false)
  | 7 => ("BatchPipeModel", "length", "I", false)
  | 8 => ("BatchPipeModel", "weight", "[I", true)
  | 9 => ("BatchPipeModel", "thickness", "[I", true)
  | 10 => ("BatchPipeModel", "grade", "[I", true)
  | 11 => ("BatchPipeModel", "barred", "[I", true)
  | 12 => ("BatchPipeModel", "batches", "I", false)
  | 13 => ("BatchPipeModel", "shipper", "[I", true)
  | 14 => ("BatchPipeModel", "product", "[I", true)
  | 15 => ("BatchPipeModel", "ordered", "[I", true)
  | 16 => ("BatchPipeModel", "entered", "[I", true)
  | 17 => ("BatchPipeModel", "left", "[I", true)
  | 18 => ("BatchPipeModel", "dropped", "[I", true)
  | 19 => ("BatchPipeModel", "leaked", "[I", true)
  | 20 => ("BatchPipeModel", "ahead", "[I", true)
  | 21 => ("BatchPipeModel", "behind", "[I", true)
  | 22 => ("BatchPipeModel", "enteredAhead", "[I", true)
  | 23 => ("BatchPipeModel", "kept", "[I", true)
  | 24 => ("BatchPipeModel", "all", "I", false)
  | 25 => ("BatchPipeModel", "unitBatch", "[I", true)
  | 26 => ("BatchPipeModel", "unitPlace", "[I", true)
  | 27 => ("BatchPipeModel", "rate", "I", false)
  | 28 => ("BatchPipeModel", "rateNow", "I", false)
  | 29 => ("BatchPipeModel", "dropSegment", "I", false)
  | 30 => ("BatchPipeModel", "dropUnits", "I", false)
  | 31 => ("BatchPipeModel", "dropTank", "I", false)
  | 32 => ("BatchPipeModel", "leakSegment", "I", false)
  | 33 => ("BatchPipeModel", "leakUnits", "I", false)
  | 34 => ("BatchPipeModel", "receiving", "I", false)
  | 35 => ("BatchPipeModel", "has", "[I", true)
  | 36 => ("BatchPipeModel", "worst", "[I", true)
  | 37 => ("BatchPipeModel", "mixed", "[I", true)
  | 38 => ("BatchPipeModel", "spilled", "I", false)
  | 39 => ("BatchPipeModel", "isPig", "Z", false)
  | 40 => ("BatchPipeModel", "pigBatch", "I", false)
  | 41 => ("BatchPipeModel", "pigPlace", "I", false)
  | 42 => ("BatchPipeModel", "balances", "[I", true)
  | 43 => ("BatchPipeModel", "thrown", "I", false)
  | _ => ("BatchPipeModel", "isLeaking", "Z", false)
def tyX6 : Nat → FieldType := fun k => match k with
  | 0 => .int
  | 1 => .int
  | 2 => .array .int
  | 3 => .array .int
  | 4 => .array .int
  | 5 => .array .int
  | 6 => .boolean
  | 7 => .int
  | 8 => .array .int
  | 9 => .array .int
  | 10 => .array .int
  | 11 => .array .int
  | 12 => .int
  | 13 => .array .int
  | 14 => .array .int
  | 15 => .array .int
  | 16 => .array .int
  | 17 => .array .int
  | 18 => .array .int
  | 19 => .array .int
  | 20 => .array .int
  | 21 => .array .int
  | 22 => .array .int
  | 23 => .array .int
  | 24 => .int
  | 25 => .array .int
  | 26 => .array .int
  | 27 => .int
  | 28 => .int
  | 29 => .int
  | 30 => .int
  | 31 => .int
  | 32 => .int
  | 33 => .int
  | 34 => .int
  | 35 => .array .int
  | 36 => .array .int
  | 37 => .array .int
  | 38 => .int
  | 39 => .boolean
  | 40 => .int
  | 41 => .int
  | 42 => .array .int
  | 43 => .int
  | _ => .boolean
abbrev wsX60 : List Cond := u_ws RX6 TX6 45
theorem nmX6 : ∀ a, a < 45 → ∀ b, b < 45 → a ≠ b → (TX6 a).2.1 ≠ (TX6 b).2.1 := by decide +kernel
theorem tyX6_ok : ∀ k, k < 45 → parseFieldDescriptor (TX6 k).2.2.1 = some (tyX6 k) := by decide +kernel
abbrev cX6_init : ByteArray := prog_8_method_1_code
def yX6_init : MethodName := ⟨RX6, "<init>", "()V"⟩
abbrev cX6_thrown : ByteArray := prog_8_method_2_code
def yX6_thrown : MethodName := ⟨RX6, "thrown", "()I"⟩
abbrev cX6_goes : ByteArray := prog_8_method_3_code
def yX6_goes : MethodName := ⟨RX6, "goes", "(ZZZ)Z"⟩
abbrev cX6_isBetween : ByteArray := prog_8_method_4_code
def yX6_isBetween : MethodName := ⟨RX6, "isBetween", "(III)Z"⟩
abbrev cX6_isProduct : ByteArray := prog_8_method_5_code
def yX6_isProduct : MethodName := ⟨RX6, "isProduct", "(I)Z"⟩
abbrev cX6_isTank : ByteArray := prog_8_method_6_code
def yX6_isTank : MethodName := ⟨RX6, "isTank", "(I)Z"⟩
abbrev cX6_isShipper : ByteArray := prog_8_method_7_code
def yX6_isShipper : MethodName := ⟨RX6, "isShipper", "(I)Z"⟩
abbrev cX6_isSegment : ByteArray := prog_8_method_8_code
def yX6_isSegment : MethodName := ⟨RX6, "isSegment", "(I)Z"⟩
abbrev cX6_isPlace : ByteArray := prog_8_method_9_code
def yX6_isPlace : MethodName := ⟨RX6, "isPlace", "(I)Z"⟩
abbrev cX6_segment : ByteArray := prog_8_method_10_code
def yX6_segment : MethodName := ⟨RX6, "segment", "(III)I"⟩
abbrev cX6_product : ByteArray := prog_8_method_11_code
def yX6_product : MethodName := ⟨RX6, "product", "(IIIII)V"⟩
abbrev cX6_open : ByteArray := prog_8_method_12_code
def yX6_open : MethodName := ⟨RX6, "open", "(I)I"⟩
abbrev cX6_order : ByteArray := prog_8_method_13_code
def yX6_order : MethodName := ⟨RX6, "order", "(III)I"⟩
abbrev cX6_rate : ByteArray := prog_8_method_14_code
def yX6_rate : MethodName := ⟨RX6, "rate", "(I)I"⟩
abbrev cX6_drop : ByteArray := prog_8_method_15_code
def yX6_drop : MethodName := ⟨RX6, "drop", "(III)V"⟩
abbrev cX6_leak : ByteArray := prog_8_method_16_code
def yX6_leak : MethodName := ⟨RX6, "leak", "(II)V"⟩
abbrev cX6_receive : ByteArray := prog_8_method_17_code
def yX6_receive : MethodName := ⟨RX6, "receive", "(I)I"⟩
abbrev cX6_empty : ByteArray := prog_8_method_18_code
def yX6_empty : MethodName := ⟨RX6, "empty", "(I)I"⟩
abbrev cX6_launch : ByteArray := prog_8_method_19_code
def yX6_launch : MethodName := ⟨RX6, "launch", "()V"⟩
abbrev cX6_lastOf : ByteArray := prog_8_method_20_code
def yX6_lastOf : MethodName := ⟨RX6, "lastOf", "(I)I"⟩
abbrev cX6_pressureOf : ByteArray := prog_8_method_21_code
def yX6_pressureOf : MethodName := ⟨RX6, "pressureOf", "(II)I"⟩
abbrev cX6_rateThatGoes : ByteArray := prog_8_method_22_code
def yX6_rateThatGoes : MethodName := ⟨RX6, "rateThatGoes", "()I"⟩
abbrev cX6_root : ByteArray := prog_8_method_23_code
def yX6_root : MethodName := ⟨RX6, "root", "(I)I"⟩
abbrev cX6_mixOf : ByteArray := prog_8_method_24_code
def yX6_mixOf : MethodName := ⟨RX6, "mixOf", "(I)I"⟩
abbrev cX6_isMixedAhead : ByteArray := prog_8_method_25_code
def yX6_isMixedAhead : MethodName := ⟨RX6, "isMixedAhead", "(II)Z"⟩
abbrev cX6_isMixedBehind : ByteArray := prog_8_method_26_code
def yX6_isMixedBehind : MethodName := ⟨RX6, "isMixedBehind", "(II)Z"⟩
abbrev cX6_comesInto : ByteArray := prog_8_method_27_code
def yX6_comesInto : MethodName := ⟨RX6, "comesInto", "(III)V"⟩
abbrev cX6_isIn : ByteArray := prog_8_method_28_code
def yX6_isIn : MethodName := ⟨RX6, "isIn", "(II)Z"⟩
abbrev cX6_entering : ByteArray := prog_8_method_29_code
def yX6_entering : MethodName := ⟨RX6, "entering", "()I"⟩
abbrev cX6_clean : ByteArray := prog_8_method_30_code
def yX6_clean : MethodName := ⟨RX6, "clean", "(I)V"⟩
abbrev cX6_goesAway : ByteArray := prog_8_method_31_code
def yX6_goesAway : MethodName := ⟨RX6, "goesAway", "(III)V"⟩
abbrev cX6_moves : ByteArray := prog_8_method_32_code
def yX6_moves : MethodName := ⟨RX6, "moves", "(III)V"⟩
abbrev cX6_passesMinute : ByteArray := prog_8_method_33_code
def yX6_passesMinute : MethodName := ⟨RX6, "passesMinute", "()I"⟩
abbrev cX6_pass : ByteArray := prog_8_method_34_code
def yX6_pass : MethodName := ⟨RX6, "pass", "(I)I"⟩
abbrev cX6_isBatch : ByteArray := prog_8_method_35_code
def yX6_isBatch : MethodName := ⟨RX6, "isBatch", "(I)Z"⟩
abbrev cX6_batch : ByteArray := prog_8_method_36_code
def yX6_batch : MethodName := ⟨RX6, "batch", "(II)I"⟩
abbrev cX6_unit : ByteArray := prog_8_method_37_code
def yX6_unit : MethodName := ⟨RX6, "unit", "(I)I"⟩
abbrev cX6_unitAnew : ByteArray := prog_8_method_38_code
def yX6_unitAnew : MethodName := ⟨RX6, "unitAnew", "(I)I"⟩
abbrev cX6_pressure : ByteArray := prog_8_method_39_code
def yX6_pressure : MethodName := ⟨RX6, "pressure", "(II)I"⟩
abbrev cX6_tank : ByteArray := prog_8_method_40_code
def yX6_tank : MethodName := ⟨RX6, "tank", "(II)I"⟩
abbrev cX6_balance : ByteArray := prog_8_method_41_code
def yX6_balance : MethodName := ⟨RX6, "balance", "()I"⟩
abbrev cX6_pipe : ByteArray := prog_8_method_42_code
def yX6_pipe : MethodName := ⟨RX6, "pipe", "(I)I"⟩
abbrev cX6_dirt : ByteArray := prog_8_method_43_code
def yX6_dirt : MethodName := ⟨RX6, "dirt", "(I)I"⟩
abbrev cX6_waits : ByteArray := prog_8_method_44_code
def yX6_waits : MethodName := ⟨RX6, "waits", "(I)I"⟩
abbrev cX6_enteredOf : ByteArray := prog_8_method_45_code
def yX6_enteredOf : MethodName := ⟨RX6, "enteredOf", "(I)I"⟩
abbrev cX6_share : ByteArray := prog_8_method_46_code
def yX6_share : MethodName := ⟨RX6, "share", "(II)I"⟩
def RJ9 : String := "java/lang/Math"
def TJ9 : u_T := fun k => match k with
  | _ => ("", "", "", false)
def tyJ9 : Nat → FieldType := fun k => match k with
  | _ => .int
abbrev wsJ90 : List Cond := u_ws RJ9 TJ9 0
theorem nmJ9 : ∀ a, a < 0 → ∀ b, b < 0 → a ≠ b → (TJ9 a).2.1 ≠ (TJ9 b).2.1 := by decide +kernel
theorem tyJ9_ok : ∀ k, k < 0 → parseFieldDescriptor (TJ9 k).2.2.1 = some (tyJ9 k) := by decide +kernel
abbrev cJ9_max_7cf53 : ByteArray := prog_13_method_65_code
def yJ9_max_7cf53 : MethodName := ⟨RJ9, "max", "(II)I"⟩
abbrev cJ9_min_7cf53 : ByteArray := prog_13_method_69_code
def yJ9_min_7cf53 : MethodName := ⟨RJ9, "min", "(II)I"⟩
def RJ0 : String := "java/lang/String"
def TJ0 : u_T := fun k => match k with
  | _ => ("", "", "", false)
def tyJ0 : Nat → FieldType := fun k => match k with
  | _ => .int
abbrev wsJ00 : List Cond := u_ws RJ0 TJ0 0
theorem nmJ0 : ∀ a, a < 0 → ∀ b, b < 0 → a ≠ b → (TJ0 a).2.1 ≠ (TJ0 b).2.1 := by decide +kernel
theorem tyJ0_ok : ∀ k, k < 0 → parseFieldDescriptor (TJ0 k).2.2.1 = some (tyJ0 k) := by decide +kernel
def RL : String := "BatchPipeLaw"
abbrev cL_segment : ByteArray := method_3_code
def yL_segment : MethodName := ⟨RL, "segment", "(LBatchPipe;III[J)I"⟩
abbrev cL_product : ByteArray := method_4_code
def yL_product : MethodName := ⟨RL, "product", "(LBatchPipe;IIIII)I"⟩
abbrev cL_open : ByteArray := method_5_code
def yL_open : MethodName := ⟨RL, "open", "(LBatchPipe;I[J)I"⟩
abbrev cL_order : ByteArray := method_6_code
def yL_order : MethodName := ⟨RL, "order", "(LBatchPipe;III[J)I"⟩
abbrev cL_rate : ByteArray := method_7_code
def yL_rate : MethodName := ⟨RL, "rate", "(LBatchPipe;I[J)I"⟩
abbrev cL_drop : ByteArray := method_8_code
def yL_drop : MethodName := ⟨RL, "drop", "(LBatchPipe;III)I"⟩
abbrev cL_leak : ByteArray := method_9_code
def yL_leak : MethodName := ⟨RL, "leak", "(LBatchPipe;II)I"⟩
abbrev cL_receive : ByteArray := method_10_code
def yL_receive : MethodName := ⟨RL, "receive", "(LBatchPipe;I[J)I"⟩
abbrev cL_empty : ByteArray := method_11_code
def yL_empty : MethodName := ⟨RL, "empty", "(LBatchPipe;I[J)I"⟩
abbrev cL_launch : ByteArray := method_12_code
def yL_launch : MethodName := ⟨RL, "launch", "(LBatchPipe;)I"⟩
abbrev cL_pass : ByteArray := method_13_code
def yL_pass : MethodName := ⟨RL, "pass", "(LBatchPipe;I[J)I"⟩
abbrev cL_batch : ByteArray := method_14_code
def yL_batch : MethodName := ⟨RL, "batch", "(LBatchPipe;II[J)I"⟩
abbrev cL_unit : ByteArray := method_15_code
def yL_unit : MethodName := ⟨RL, "unit", "(LBatchPipe;I[J)I"⟩
abbrev cL_unitAnew : ByteArray := method_16_code
def yL_unitAnew : MethodName := ⟨RL, "unitAnew", "(LBatchPipe;I[J)I"⟩
abbrev cL_pressure : ByteArray := method_17_code
def yL_pressure : MethodName := ⟨RL, "pressure", "(LBatchPipe;II[J)I"⟩
abbrev cL_tank : ByteArray := method_18_code
def yL_tank : MethodName := ⟨RL, "tank", "(LBatchPipe;II[J)I"⟩
abbrev cL_pipe : ByteArray := method_19_code
def yL_pipe : MethodName := ⟨RL, "pipe", "(LBatchPipe;I[J)I"⟩
abbrev cL_dirt : ByteArray := method_20_code
def yL_dirt : MethodName := ⟨RL, "dirt", "(LBatchPipe;I[J)I"⟩
abbrev cL_share : ByteArray := method_21_code
def yL_share : MethodName := ⟨RL, "share", "(LBatchPipe;II[J)I"⟩
abbrev cL_law : ByteArray := code
def yL_law : MethodName := ⟨RL, "law", "([I)Z"⟩
def wsX0_init : List Cond := .code yX0_init cX0_init 3 none :: ([.methodLink RX0 3 objectInit, .instanceMethod objectInit, .code objectInit ⟨#[0xb1]⟩ 1 none, .fieldLink RX0 9 "BatchPipe$Batch" "shipper" "I", .fieldLink RX0 15 "BatchPipe$Batch" "number" "I", .fieldLink RX0 18 "BatchPipe$Batch" "oil" "LBatchPipe$Product;"] ++ wsX00)
def wsX0_tell : List Cond := .code yX0_tell cX0_tell 4 none :: ([.fieldLink RX0 9 "BatchPipe$Batch" "shipper" "I", .fieldLink RX0 18 "BatchPipe$Batch" "oil" "LBatchPipe$Product;", .fieldLink RX0 22 "BatchPipe$Batch" "ordered" "I"] ++ wsX00)
def wsX0_inPipe : List Cond := .code yX0_inPipe cX0_inPipe 1 (some .int) :: ([.fieldLink RX0 25 "BatchPipe$Batch" "entered" "I", .fieldLink RX0 28 "BatchPipe$Batch" "left" "I", .fieldLink RX0 31 "BatchPipe$Batch" "dropped" "I", .fieldLink RX0 34 "BatchPipe$Batch" "leaked" "I"] ++ wsX00)
def wsX0_waiting : List Cond := .code yX0_waiting cX0_waiting 1 (some .int) :: ([.fieldLink RX0 22 "BatchPipe$Batch" "ordered" "I", .fieldLink RX0 25 "BatchPipe$Batch" "entered" "I"] ++ wsX00)
def wsX1_init : List Cond := .code yX1_init cX1_init 2 none :: ([.methodLink RX1 1 objectInit, .instanceMethod objectInit, .code objectInit ⟨#[0xb1]⟩ 1 none, .fieldLink RX1 7 "BatchPipe$Product" "weight" "I", .fieldLink RX1 13 "BatchPipe$Product" "thickness" "I", .fieldLink RX1 16 "BatchPipe$Product" "number" "I", .fieldLink RX1 19 "BatchPipe$Product" "grade" "I"] ++ wsX10)
def wsX1_tell : List Cond := .code yX1_tell cX1_tell 5 none :: ([.fieldLink RX1 7 "BatchPipe$Product" "weight" "I", .fieldLink RX1 13 "BatchPipe$Product" "thickness" "I", .fieldLink RX1 19 "BatchPipe$Product" "grade" "I", .fieldLink RX1 22 "BatchPipe$Product" "barred" "I"] ++ wsX10)
def wsX1_bears : List Cond := .code yX1_bears cX1_bears 2 (some .boolean) :: ([.fieldLink RX1 22 "BatchPipe$Product" "barred" "I", .fieldLink RX1 16 "BatchPipe$Product" "number" "I"] ++ wsX10)
def wsX2_init : List Cond := .code yX2_init cX2_init 1 none :: ([.methodLink RX2 3 objectInit, .instanceMethod objectInit, .code objectInit ⟨#[0xb1]⟩ 1 none, .arrayClass .int, .fieldLink RX2 9 "BatchPipe$Segment" "ring" "[I", .fieldLink RX2 15 "BatchPipe$Segment" "unitsOf" "[I", .fieldLink RX2 18 "BatchPipe$Segment" "holds" "I"] ++ wsX20)
def wsX2_tell : List Cond := .code yX2_tell cX2_tell 4 none :: ([.fieldLink RX2 18 "BatchPipe$Segment" "holds" "I", .fieldLink RX2 22 "BatchPipe$Segment" "height" "I", .fieldLink RX2 25 "BatchPipe$Segment" "limit" "I"] ++ wsX20)
def wsX2_fill : List Cond := .code yX2_fill cX2_fill 4 none :: ([.fieldLink RX2 18 "BatchPipe$Segment" "holds" "I", .fieldLink RX2 9 "BatchPipe$Segment" "ring" "[I", .fieldLink RX2 15 "BatchPipe$Segment" "unitsOf" "[I"] ++ wsX20)
def wsX2_fromEnd : List Cond := .code yX2_fromEnd cX2_fromEnd 3 (some .int) :: ([.fieldLink RX2 28 "BatchPipe$Segment" "last" "I", .fieldLink RX2 18 "BatchPipe$Segment" "holds" "I", .fieldLink RX2 9 "BatchPipe$Segment" "ring" "[I"] ++ wsX20)
def wsX2_moveOn : List Cond := .code yX2_moveOn cX2_moveOn 2 none :: ([.fieldLink RX2 9 "BatchPipe$Segment" "ring" "[I", .fieldLink RX2 28 "BatchPipe$Segment" "last" "I", .fieldLink RX2 18 "BatchPipe$Segment" "holds" "I"] ++ wsX20)
def wsX3_init : List Cond := .code yX3_init cX3_init 1 none :: ([.methodLink RX3 3 objectInit, .instanceMethod objectInit, .code objectInit ⟨#[0xb1]⟩ 1 none, .fieldLink RX3 9 "BatchPipe$Tank" "grade" "I"] ++ wsX30)
def wsX3_take : List Cond := .code yX3_take cX3_take 3 none :: ([.fieldLink RX3 15 "BatchPipe$Tank" "has" "I", .fieldLink RX3 18 "BatchPipe$Tank" "spilled" "I", .fieldLink RX3 9 "BatchPipe$Tank" "grade" "I", .methodLink RX3 21 Lib.Math.max.name, .static Lib.Math.max.name, .initialized "java/lang/Math", .code Lib.Math.max.name Lib.Math.max.code 2 (some .int), .fieldLink RX3 27 "BatchPipe$Tank" "mixed" "I"] ++ wsX30)
def wsX3_pourOut : List Cond := .code yX3_pourOut cX3_pourOut 2 (some .int) :: ([.fieldLink RX3 15 "BatchPipe$Tank" "has" "I", .fieldLink RX3 9 "BatchPipe$Tank" "grade" "I", .fieldLink RX3 27 "BatchPipe$Tank" "mixed" "I"] ++ wsX30)
def wsX4_init : List Cond := .code yX4_init cX4_init 1 none :: ([.methodLink RX4 3 objectInit, .instanceMethod objectInit, .code objectInit ⟨#[0xb1]⟩ 1 none, .fieldLink RX4 9 "BatchPipe$Tap" "segment" "I"] ++ wsX40)
def wsX4_tell : List Cond := .code yX4_tell cX4_tell 4 none :: ([.fieldLink RX4 9 "BatchPipe$Tap" "segment" "I", .fieldLink RX4 15 "BatchPipe$Tap" "units" "I", .fieldLink RX4 18 "BatchPipe$Tap" "tank" "I"] ++ wsX40)
def wsX4_takesMore : List Cond := .code yX4_takesMore cX4_takesMore 1 (some .boolean) :: ([.fieldLink RX4 9 "BatchPipe$Tap" "segment" "I", .fieldLink RX4 21 "BatchPipe$Tap" "taken" "I", .fieldLink RX4 15 "BatchPipe$Tap" "units" "I"] ++ wsX40)
def wsX5_init_r1 : List Cond := [Cond.methodLink RX5 1 objectInit, Cond.instanceMethod objectInit, Cond.code objectInit ⟨#[0xb1]⟩ 1 none, Cond.classLink RX5 9 RX2, Cond.fieldLink RX5 11 "BatchPipe" "segments" "[LBatchPipe$Segment;", Cond.classLink RX5 15 RX1, Cond.fieldLink RX5 17 "BatchPipe" "products" "[LBatchPipe$Product;", Cond.classLink RX5 21 RX0, Cond.fieldLink RX5 23 "BatchPipe" "batches" "[LBatchPipe$Batch;", Cond.classLink RX5 27 RX3, Cond.fieldLink RX5 29 "BatchPipe" "tanks" "[LBatchPipe$Tank;", Cond.arrayClass .int, Cond.fieldLink RX5 33 "BatchPipe" "balances" "[I", Cond.classLink RX5 37 RX4, Cond.instantiable RX4 4, Cond.initialized RX4, Cond.fieldLink RX5 40 "BatchPipe" "leakTap" "LBatchPipe$Tap;", Cond.fieldLink RX5 44 "BatchPipe" "dropTap" "LBatchPipe$Tap;", Cond.fieldLink RX5 47 "BatchPipe" "outlet" "LBatchPipe$Tap;", Cond.fieldLink RX5 50 "BatchPipe" "batchCount" "I", Cond.fieldLink RX5 54 "BatchPipe" "pigBehind" "I", Cond.instantiable RX2 7, Cond.initialized RX2, Cond.instantiable RX1 5]
def wsX5_init_r2 : List Cond := [Cond.initialized RX1, Cond.instantiable RX0 13, Cond.initialized RX0, Cond.instantiable RX3 4, Cond.initialized RX3, Cond.fieldLink RX5 65 "BatchPipe" "inletBatch" "LBatchPipe$Batch;", Cond.instanceMethod yX4_init, Cond.code yX4_init cX4_init 1 none, Cond.methodLink RX4 3 objectInit, Cond.fieldLink RX4 9 "BatchPipe$Tap" "segment" "I", Cond.instanceMethod yX2_init, Cond.code yX2_init cX2_init 1 none, Cond.methodLink RX2 3 objectInit, Cond.fieldLink RX2 9 "BatchPipe$Segment" "ring" "[I", Cond.fieldLink RX2 15 "BatchPipe$Segment" "unitsOf" "[I", Cond.fieldLink RX2 18 "BatchPipe$Segment" "holds" "I", Cond.instanceMethod yX1_init, Cond.code yX1_init cX1_init 2 none, Cond.methodLink RX1 1 objectInit, Cond.fieldLink RX1 7 "BatchPipe$Product" "weight" "I", Cond.fieldLink RX1 13 "BatchPipe$Product" "thickness" "I", Cond.fieldLink RX1 16 "BatchPipe$Product" "number" "I", Cond.fieldLink RX1 19 "BatchPipe$Product" "grade" "I", Cond.instanceMethod yX0_init]
def wsX5_init_r3 : List Cond := [Cond.code yX0_init cX0_init 3 none, Cond.methodLink RX0 3 objectInit, Cond.fieldLink RX0 9 "BatchPipe$Batch" "shipper" "I", Cond.fieldLink RX0 15 "BatchPipe$Batch" "number" "I", Cond.fieldLink RX0 18 "BatchPipe$Batch" "oil" "LBatchPipe$Product;", Cond.instanceMethod yX3_init, Cond.code yX3_init cX3_init 1 none, Cond.methodLink RX3 3 objectInit, Cond.fieldLink RX3 9 "BatchPipe$Tank" "grade" "I"]
def wsX5_init : List Cond := .code yX5_init cX5_init 2 none :: ((wsX5_init_r1 ++ (wsX5_init_r2 ++ wsX5_init_r3)) ++ wsX50 ++ wsX40 ++ wsX20 ++ wsX10 ++ wsX00 ++ wsX30)
def wsX5_checkRange : List Cond := .code yX5_checkRange cX5_checkRange 4 none :: ([.classLink RX5 94 "java/lang/IllegalArgumentException", .initialized "java/lang/IllegalArgumentException"] ++ (vx_atS RX5 98 "java/lang/IllegalArgumentException" ["java/lang/RuntimeException", "java/lang/Exception"]).filter goodWord)
def wsX5_segment : List Cond := .code yX5_segment cX5_segment 4 (some .int) :: ([.classLink RX5 80 "java/lang/IllegalStateException", .initialized "java/lang/IllegalStateException", .fieldLink RX5 73 "BatchPipe" "isOpen" "Z", .fieldLink RX5 77 "BatchPipe" "segmentCount" "I", .fieldLink RX5 11 "BatchPipe" "segments" "[LBatchPipe$Segment;", .methodLink RX5 69 yX5_checkRange, .instanceMethod yX5_checkRange, .selects RX5 yX5_checkRange yX5_checkRange, .initialized RX5, .code yX5_checkRange cX5_checkRange 4 none, .classLink RX5 94 "java/lang/IllegalArgumentException", .initialized "java/lang/IllegalArgumentException", .instanceMethod yX2_tell, .initialized RX2, .selects RX2 yX2_tell yX2_tell, .code yX2_tell cX2_tell 4 none, .fieldLink RX2 18 "BatchPipe$Segment" "holds" "I", .fieldLink RX2 22 "BatchPipe$Segment" "height" "I", .fieldLink RX2 25 "BatchPipe$Segment" "limit" "I"] ++ wsX50 ++ wsX20 ++ (vx_atS RX5 84 "java/lang/IllegalStateException" ["java/lang/RuntimeException", "java/lang/Exception"]).filter goodWord ++ (vx_atS RX5 98 "java/lang/IllegalArgumentException" ["java/lang/RuntimeException", "java/lang/Exception"]).filter goodWord)
def wsX5_checkIndex : List Cond := .code yX5_checkIndex cX5_checkIndex 3 none :: ([.classLink RX5 144 "java/lang/IndexOutOfBoundsException", .initialized "java/lang/IndexOutOfBoundsException"] ++ (vx_atS RX5 148 "java/lang/IndexOutOfBoundsException" ["java/lang/RuntimeException", "java/lang/Exception"]).filter goodWord)
def wsX5_product : List Cond := .code yX5_product cX5_product 6 none :: ([.classLink RX5 94 "java/lang/IllegalArgumentException", .initialized "java/lang/IllegalArgumentException", .fieldLink RX5 17 "BatchPipe" "products" "[LBatchPipe$Product;", .methodLink RX5 90 yX5_checkIndex, .instanceMethod yX5_checkIndex, .selects RX5 yX5_checkIndex yX5_checkIndex, .initialized RX5, .code yX5_checkIndex cX5_checkIndex 3 none, .classLink RX5 144 "java/lang/IndexOutOfBoundsException", .initialized "java/lang/IndexOutOfBoundsException", .methodLink RX5 69 yX5_checkRange, .instanceMethod yX5_checkRange, .selects RX5 yX5_checkRange yX5_checkRange, .code yX5_checkRange cX5_checkRange 4 none, .instanceMethod yX1_tell, .initialized RX1, .selects RX1 yX1_tell yX1_tell, .code yX1_tell cX1_tell 5 none, .fieldLink RX1 7 "BatchPipe$Product" "weight" "I", .fieldLink RX1 13 "BatchPipe$Product" "thickness" "I", .fieldLink RX1 19 "BatchPipe$Product" "grade" "I", .fieldLink RX1 22 "BatchPipe$Product" "barred" "I"] ++ wsX50 ++ wsX10 ++ (vx_atS RX5 98 "java/lang/IllegalArgumentException" ["java/lang/RuntimeException", "java/lang/Exception"]).filter goodWord ++ (vx_atS RX5 148 "java/lang/IndexOutOfBoundsException" ["java/lang/RuntimeException", "java/lang/Exception"]).filter goodWord)
def wsX5_fillSegments : List Cond := .code yX5_fillSegments cX5_fillSegments 4 (some .int) :: ([.fieldLink RX5 77 "BatchPipe" "segmentCount" "I", .fieldLink RX5 11 "BatchPipe" "segments" "[LBatchPipe$Segment;", .instanceMethod yX2_fill, .initialized RX2, .selects RX2 yX2_fill yX2_fill, .code yX2_fill cX2_fill 4 none, .fieldLink RX2 18 "BatchPipe$Segment" "holds" "I", .fieldLink RX2 9 "BatchPipe$Segment" "ring" "[I", .fieldLink RX2 15 "BatchPipe$Segment" "unitsOf" "[I"] ++ wsX50 ++ wsX20)
def wsX5_open_r1 : List Cond := [Cond.classLink RX5 80 "java/lang/IllegalStateException", Cond.initialized "java/lang/IllegalStateException", Cond.fieldLink RX5 73 "BatchPipe" "isOpen" "Z", Cond.fieldLink RX5 77 "BatchPipe" "segmentCount" "I", Cond.fieldLink RX5 23 "BatchPipe" "batches" "[LBatchPipe$Batch;", Cond.fieldLink RX5 17 "BatchPipe" "products" "[LBatchPipe$Product;", Cond.fieldLink RX5 47 "BatchPipe" "outlet" "LBatchPipe$Tap;", Cond.methodLink RX5 90 yX5_checkIndex, Cond.instanceMethod yX5_checkIndex, Cond.selects RX5 yX5_checkIndex yX5_checkIndex, Cond.initialized RX5, Cond.code yX5_checkIndex cX5_checkIndex 3 none, Cond.classLink RX5 144 "java/lang/IndexOutOfBoundsException", Cond.initialized "java/lang/IndexOutOfBoundsException", Cond.methodLink RX5 104 yX5_fillSegments, Cond.instanceMethod yX5_fillSegments, Cond.selects RX5 yX5_fillSegments yX5_fillSegments, Cond.code yX5_fillSegments cX5_fillSegments 4 (some .int), Cond.fieldLink RX5 11 "BatchPipe" "segments" "[LBatchPipe$Segment;", Cond.instanceMethod yX2_fill, Cond.initialized RX2, Cond.selects RX2 yX2_fill yX2_fill, Cond.code yX2_fill cX2_fill 4 none, Cond.fieldLink RX2 18 "BatchPipe$Segment" "holds" "I"]
def wsX5_open_r2 : List Cond := [Cond.fieldLink RX2 9 "BatchPipe$Segment" "ring" "[I", Cond.fieldLink RX2 15 "BatchPipe$Segment" "unitsOf" "[I", Cond.instanceMethod yX0_tell, Cond.initialized RX0, Cond.selects RX0 yX0_tell yX0_tell, Cond.code yX0_tell cX0_tell 4 none, Cond.fieldLink RX0 9 "BatchPipe$Batch" "shipper" "I", Cond.fieldLink RX0 18 "BatchPipe$Batch" "oil" "LBatchPipe$Product;", Cond.fieldLink RX0 22 "BatchPipe$Batch" "ordered" "I", Cond.instanceMethod yX4_tell, Cond.initialized RX4, Cond.selects RX4 yX4_tell yX4_tell, Cond.code yX4_tell cX4_tell 4 none, Cond.fieldLink RX4 9 "BatchPipe$Tap" "segment" "I", Cond.fieldLink RX4 15 "BatchPipe$Tap" "units" "I", Cond.fieldLink RX4 18 "BatchPipe$Tap" "tank" "I"]
def wsX5_open : List Cond := .code yX5_open cX5_open 3 (some .int) :: ((wsX5_open_r1 ++ wsX5_open_r2) ++ wsX50 ++ wsX00 ++ wsX40 ++ wsX20 ++ (vx_atS RX5 84 "java/lang/IllegalStateException" ["java/lang/RuntimeException", "java/lang/Exception"]).filter goodWord ++ (vx_atS RX5 148 "java/lang/IndexOutOfBoundsException" ["java/lang/RuntimeException", "java/lang/Exception"]).filter goodWord)
def wsX5_order_r1 : List Cond := [Cond.classLink RX5 80 "java/lang/IllegalStateException", Cond.initialized "java/lang/IllegalStateException", Cond.fieldLink RX5 50 "BatchPipe" "batchCount" "I", Cond.fieldLink RX5 23 "BatchPipe" "batches" "[LBatchPipe$Batch;", Cond.fieldLink RX5 17 "BatchPipe" "products" "[LBatchPipe$Product;", Cond.methodLink RX5 90 yX5_checkIndex, Cond.instanceMethod yX5_checkIndex, Cond.selects RX5 yX5_checkIndex yX5_checkIndex, Cond.initialized RX5, Cond.code yX5_checkIndex cX5_checkIndex 3 none, Cond.classLink RX5 144 "java/lang/IndexOutOfBoundsException", Cond.initialized "java/lang/IndexOutOfBoundsException", Cond.methodLink RX5 69 yX5_checkRange, Cond.instanceMethod yX5_checkRange, Cond.selects RX5 yX5_checkRange yX5_checkRange, Cond.code yX5_checkRange cX5_checkRange 4 none, Cond.classLink RX5 94 "java/lang/IllegalArgumentException", Cond.initialized "java/lang/IllegalArgumentException", Cond.instanceMethod yX0_tell, Cond.initialized RX0, Cond.selects RX0 yX0_tell yX0_tell, Cond.code yX0_tell cX0_tell 4 none, Cond.fieldLink RX0 9 "BatchPipe$Batch" "shipper" "I", Cond.fieldLink RX0 18 "BatchPipe$Batch" "oil" "LBatchPipe$Product;"]
def wsX5_order_r2 : List Cond := [Cond.fieldLink RX0 22 "BatchPipe$Batch" "ordered" "I"]
def wsX5_order : List Cond := .code yX5_order cX5_order 4 (some .int) :: ((wsX5_order_r1 ++ wsX5_order_r2) ++ wsX50 ++ wsX00 ++ (vx_atS RX5 84 "java/lang/IllegalStateException" ["java/lang/RuntimeException", "java/lang/Exception"]).filter goodWord ++ (vx_atS RX5 148 "java/lang/IndexOutOfBoundsException" ["java/lang/RuntimeException", "java/lang/Exception"]).filter goodWord ++ (vx_atS RX5 98 "java/lang/IllegalArgumentException" ["java/lang/RuntimeException", "java/lang/Exception"]).filter goodWord)
def wsX5_rate : List Cond := .code yX5_rate cX5_rate 3 (some .int) :: ([.fieldLink RX5 120 "BatchPipe" "rateTold" "I", .methodLink RX5 69 yX5_checkRange, .instanceMethod yX5_checkRange, .selects RX5 yX5_checkRange yX5_checkRange, .initialized RX5, .code yX5_checkRange cX5_checkRange 4 none, .classLink RX5 94 "java/lang/IllegalArgumentException", .initialized "java/lang/IllegalArgumentException"] ++ wsX50 ++ (vx_atS RX5 98 "java/lang/IllegalArgumentException" ["java/lang/RuntimeException", "java/lang/Exception"]).filter goodWord)
def wsX5_checkOnTheWay : List Cond := .code yX5_checkOnTheWay cX5_checkOnTheWay 2 none :: ([.fieldLink RX5 77 "BatchPipe" "segmentCount" "I", .methodLink RX5 90 yX5_checkIndex, .instanceMethod yX5_checkIndex, .selects RX5 yX5_checkIndex yX5_checkIndex, .initialized RX5, .code yX5_checkIndex cX5_checkIndex 3 none, .classLink RX5 144 "java/lang/IndexOutOfBoundsException", .initialized "java/lang/IndexOutOfBoundsException"] ++ wsX50 ++ (vx_atS RX5 148 "java/lang/IndexOutOfBoundsException" ["java/lang/RuntimeException", "java/lang/Exception"]).filter goodWord)
def wsX5_drop_r1 : List Cond := [Cond.fieldLink RX5 44 "BatchPipe" "dropTap" "LBatchPipe$Tap;", Cond.methodLink RX5 123 yX5_checkOnTheWay, Cond.instanceMethod yX5_checkOnTheWay, Cond.selects RX5 yX5_checkOnTheWay yX5_checkOnTheWay, Cond.initialized RX5, Cond.code yX5_checkOnTheWay cX5_checkOnTheWay 2 none, Cond.fieldLink RX5 77 "BatchPipe" "segmentCount" "I", Cond.methodLink RX5 90 yX5_checkIndex, Cond.instanceMethod yX5_checkIndex, Cond.selects RX5 yX5_checkIndex yX5_checkIndex, Cond.code yX5_checkIndex cX5_checkIndex 3 none, Cond.classLink RX5 144 "java/lang/IndexOutOfBoundsException", Cond.initialized "java/lang/IndexOutOfBoundsException", Cond.methodLink RX5 69 yX5_checkRange, Cond.instanceMethod yX5_checkRange, Cond.selects RX5 yX5_checkRange yX5_checkRange, Cond.code yX5_checkRange cX5_checkRange 4 none, Cond.classLink RX5 94 "java/lang/IllegalArgumentException", Cond.initialized "java/lang/IllegalArgumentException", Cond.instanceMethod yX4_tell, Cond.initialized RX4, Cond.selects RX4 yX4_tell yX4_tell, Cond.code yX4_tell cX4_tell 4 none, Cond.fieldLink RX4 9 "BatchPipe$Tap" "segment" "I"]
def wsX5_drop_r2 : List Cond := [Cond.fieldLink RX4 15 "BatchPipe$Tap" "units" "I", Cond.fieldLink RX4 18 "BatchPipe$Tap" "tank" "I"]
def wsX5_drop : List Cond := .code yX5_drop cX5_drop 4 none :: ((wsX5_drop_r1 ++ wsX5_drop_r2) ++ wsX50 ++ wsX40 ++ (vx_atS RX5 148 "java/lang/IndexOutOfBoundsException" ["java/lang/RuntimeException", "java/lang/Exception"]).filter goodWord ++ (vx_atS RX5 98 "java/lang/IllegalArgumentException" ["java/lang/RuntimeException", "java/lang/Exception"]).filter goodWord)
def wsX5_leak_r1 : List Cond := [Cond.fieldLink RX5 40 "BatchPipe" "leakTap" "LBatchPipe$Tap;", Cond.methodLink RX5 123 yX5_checkOnTheWay, Cond.instanceMethod yX5_checkOnTheWay, Cond.selects RX5 yX5_checkOnTheWay yX5_checkOnTheWay, Cond.initialized RX5, Cond.code yX5_checkOnTheWay cX5_checkOnTheWay 2 none, Cond.fieldLink RX5 77 "BatchPipe" "segmentCount" "I", Cond.methodLink RX5 90 yX5_checkIndex, Cond.instanceMethod yX5_checkIndex, Cond.selects RX5 yX5_checkIndex yX5_checkIndex, Cond.code yX5_checkIndex cX5_checkIndex 3 none, Cond.classLink RX5 144 "java/lang/IndexOutOfBoundsException", Cond.initialized "java/lang/IndexOutOfBoundsException", Cond.methodLink RX5 69 yX5_checkRange, Cond.instanceMethod yX5_checkRange, Cond.selects RX5 yX5_checkRange yX5_checkRange, Cond.code yX5_checkRange cX5_checkRange 4 none, Cond.classLink RX5 94 "java/lang/IllegalArgumentException", Cond.initialized "java/lang/IllegalArgumentException", Cond.instanceMethod yX4_tell, Cond.initialized RX4, Cond.selects RX4 yX4_tell yX4_tell, Cond.code yX4_tell cX4_tell 4 none, Cond.fieldLink RX4 9 "BatchPipe$Tap" "segment" "I"]
def wsX5_leak_r2 : List Cond := [Cond.fieldLink RX4 15 "BatchPipe$Tap" "units" "I", Cond.fieldLink RX4 18 "BatchPipe$Tap" "tank" "I"]
def wsX5_leak : List Cond := .code yX5_leak cX5_leak 3 none :: ((wsX5_leak_r1 ++ wsX5_leak_r2) ++ wsX50 ++ wsX40 ++ (vx_atS RX5 148 "java/lang/IndexOutOfBoundsException" ["java/lang/RuntimeException", "java/lang/Exception"]).filter goodWord ++ (vx_atS RX5 98 "java/lang/IllegalArgumentException" ["java/lang/RuntimeException", "java/lang/Exception"]).filter goodWord)
def wsX5_receive : List Cond := .code yX5_receive cX5_receive 3 (some .int) :: ([.fieldLink RX5 47 "BatchPipe" "outlet" "LBatchPipe$Tap;", .methodLink RX5 90 yX5_checkIndex, .instanceMethod yX5_checkIndex, .selects RX5 yX5_checkIndex yX5_checkIndex, .initialized RX5, .code yX5_checkIndex cX5_checkIndex 3 none, .classLink RX5 144 "java/lang/IndexOutOfBoundsException", .initialized "java/lang/IndexOutOfBoundsException"] ++ wsX50 ++ wsX40 ++ (vx_atS RX5 148 "java/lang/IndexOutOfBoundsException" ["java/lang/RuntimeException", "java/lang/Exception"]).filter goodWord)
def wsX5_empty : List Cond := .code yX5_empty cX5_empty 2 (some .int) :: ([.fieldLink RX5 29 "BatchPipe" "tanks" "[LBatchPipe$Tank;", .methodLink RX5 90 yX5_checkIndex, .instanceMethod yX5_checkIndex, .selects RX5 yX5_checkIndex yX5_checkIndex, .initialized RX5, .code yX5_checkIndex cX5_checkIndex 3 none, .classLink RX5 144 "java/lang/IndexOutOfBoundsException", .initialized "java/lang/IndexOutOfBoundsException", .instanceMethod yX3_pourOut, .initialized RX3, .selects RX3 yX3_pourOut yX3_pourOut, .code yX3_pourOut cX3_pourOut 2 (some .int), .fieldLink RX3 15 "BatchPipe$Tank" "has" "I", .fieldLink RX3 9 "BatchPipe$Tank" "grade" "I", .fieldLink RX3 27 "BatchPipe$Tank" "mixed" "I"] ++ wsX50 ++ wsX30 ++ (vx_atS RX5 148 "java/lang/IndexOutOfBoundsException" ["java/lang/RuntimeException", "java/lang/Exception"]).filter goodWord)
def wsX5_unitOf : List Cond := .code yX5_unitOf cX5_unitOf 3 (some .int) :: ([] ++ wsX00)
def wsX5_launch : List Cond := .code yX5_launch cX5_launch 1 none :: ([.classLink RX5 80 "java/lang/IllegalStateException", .initialized "java/lang/IllegalStateException", .fieldLink RX5 73 "BatchPipe" "isOpen" "Z", .fieldLink RX5 54 "BatchPipe" "pigBehind" "I", .fieldLink RX5 65 "BatchPipe" "inletBatch" "LBatchPipe$Batch;", .methodLink RX5 132 yX5_unitOf, .instanceMethod yX5_unitOf, .selects RX5 yX5_unitOf yX5_unitOf, .initialized RX5, .code yX5_unitOf cX5_unitOf 3 (some .int)] ++ wsX50 ++ wsX00 ++ (vx_atS RX5 84 "java/lang/IllegalStateException" ["java/lang/RuntimeException", "java/lang/Exception"]).filter goodWord)
def wsX5_batchOf : List Cond := .code yX5_batchOf cX5_batchOf 3 (some (.object "BatchPipe$Batch")) :: ([.fieldLink RX5 50 "BatchPipe" "batchCount" "I", .fieldLink RX5 23 "BatchPipe" "batches" "[LBatchPipe$Batch;"] ++ wsX50)
def wsX5_headAt : List Cond := .code yX5_headAt cX5_headAt 2 (some .int) :: ([.fieldLink RX5 77 "BatchPipe" "segmentCount" "I", .fieldLink RX5 11 "BatchPipe" "segments" "[LBatchPipe$Segment;", .instanceMethod yX2_fromEnd, .initialized RX2, .selects RX2 yX2_fromEnd yX2_fromEnd, .code yX2_fromEnd cX2_fromEnd 3 (some .int), .fieldLink RX2 28 "BatchPipe$Segment" "last" "I", .fieldLink RX2 18 "BatchPipe$Segment" "holds" "I", .fieldLink RX2 9 "BatchPipe$Segment" "ring" "[I", .methodLink RX5 184 yX5_batchOf, .instanceMethod yX5_batchOf, .selects RX5 yX5_batchOf yX5_batchOf, .initialized RX5, .code yX5_batchOf cX5_batchOf 3 (some (.object "BatchPipe$Batch")), .fieldLink RX5 50 "BatchPipe" "batchCount" "I", .fieldLink RX5 23 "BatchPipe" "batches" "[LBatchPipe$Batch;"] ++ wsX50 ++ wsX00 ++ wsX10 ++ wsX20)
def wsX5_friction : List Cond := .code yX5_friction cX5_friction 5 (some .int) :: ([.fieldLink RX5 17 "BatchPipe" "products" "[LBatchPipe$Product;"] ++ wsX20 ++ wsX50 ++ wsX10)
def wsX5_atBeginning : List Cond := .code yX5_atBeginning cX5_atBeginning 3 (some .int) :: ([.methodLink RX5 266 Lib.Math.max.name, .static Lib.Math.max.name, .initialized "java/lang/Math", .code Lib.Math.max.name Lib.Math.max.code 2 (some .int), .methodLink RX5 194 yX5_headAt, .instanceMethod yX5_headAt, .selects RX5 yX5_headAt yX5_headAt, .initialized RX5, .code yX5_headAt cX5_headAt 2 (some .int), .fieldLink RX5 77 "BatchPipe" "segmentCount" "I", .fieldLink RX5 11 "BatchPipe" "segments" "[LBatchPipe$Segment;", .instanceMethod yX2_fromEnd, .initialized RX2, .selects RX2 yX2_fromEnd yX2_fromEnd, .code yX2_fromEnd cX2_fromEnd 3 (some .int), .fieldLink RX2 28 "BatchPipe$Segment" "last" "I", .fieldLink RX2 18 "BatchPipe$Segment" "holds" "I", .fieldLink RX2 9 "BatchPipe$Segment" "ring" "[I", .methodLink RX5 184 yX5_batchOf, .instanceMethod yX5_batchOf, .selects RX5 yX5_batchOf yX5_batchOf, .code yX5_batchOf cX5_batchOf 3 (some (.object "BatchPipe$Batch")), .fieldLink RX5 50 "BatchPipe" "batchCount" "I", .fieldLink RX5 23 "BatchPipe" "batches" "[LBatchPipe$Batch;"] ++ wsX50 ++ wsX00 ++ wsX10 ++ wsX20)
def wsX5_noneAbove_r1 : List Cond := [Cond.fieldLink RX5 77 "BatchPipe" "segmentCount" "I", Cond.fieldLink RX5 11 "BatchPipe" "segments" "[LBatchPipe$Segment;", Cond.methodLink RX5 194 yX5_headAt, Cond.instanceMethod yX5_headAt, Cond.selects RX5 yX5_headAt yX5_headAt, Cond.initialized RX5, Cond.code yX5_headAt cX5_headAt 2 (some .int), Cond.instanceMethod yX2_fromEnd, Cond.initialized RX2, Cond.selects RX2 yX2_fromEnd yX2_fromEnd, Cond.code yX2_fromEnd cX2_fromEnd 3 (some .int), Cond.fieldLink RX2 28 "BatchPipe$Segment" "last" "I", Cond.fieldLink RX2 18 "BatchPipe$Segment" "holds" "I", Cond.fieldLink RX2 9 "BatchPipe$Segment" "ring" "[I", Cond.methodLink RX5 184 yX5_batchOf, Cond.instanceMethod yX5_batchOf, Cond.selects RX5 yX5_batchOf yX5_batchOf, Cond.code yX5_batchOf cX5_batchOf 3 (some (.object "BatchPipe$Batch")), Cond.fieldLink RX5 50 "BatchPipe" "batchCount" "I", Cond.fieldLink RX5 23 "BatchPipe" "batches" "[LBatchPipe$Batch;", Cond.methodLink RX5 197 yX5_friction, Cond.instanceMethod yX5_friction, Cond.selects RX5 yX5_friction yX5_friction, Cond.code yX5_friction cX5_friction 5 (some .int)]
def wsX5_noneAbove_r2 : List Cond := [Cond.fieldLink RX5 17 "BatchPipe" "products" "[LBatchPipe$Product;", Cond.methodLink RX5 201 yX5_atBeginning, Cond.instanceMethod yX5_atBeginning, Cond.selects RX5 yX5_atBeginning yX5_atBeginning, Cond.code yX5_atBeginning cX5_atBeginning 3 (some .int), Cond.methodLink RX5 266 Lib.Math.max.name, Cond.static Lib.Math.max.name, Cond.initialized "java/lang/Math", Cond.code Lib.Math.max.name Lib.Math.max.code 2 (some .int)]
def wsX5_noneAbove : List Cond := .code yX5_noneAbove cX5_noneAbove 4 (some .boolean) :: ((wsX5_noneAbove_r1 ++ wsX5_noneAbove_r2) ++ wsX50 ++ wsX20 ++ wsX00 ++ wsX10)
def wsX5_findRate_r1 : List Cond := [Cond.fieldLink RX5 120 "BatchPipe" "rateTold" "I", Cond.methodLink RX5 259 yX5_noneAbove, Cond.instanceMethod yX5_noneAbove, Cond.selects RX5 yX5_noneAbove yX5_noneAbove, Cond.initialized RX5, Cond.code yX5_noneAbove cX5_noneAbove 4 (some .boolean), Cond.fieldLink RX5 77 "BatchPipe" "segmentCount" "I", Cond.fieldLink RX5 11 "BatchPipe" "segments" "[LBatchPipe$Segment;", Cond.methodLink RX5 194 yX5_headAt, Cond.instanceMethod yX5_headAt, Cond.selects RX5 yX5_headAt yX5_headAt, Cond.code yX5_headAt cX5_headAt 2 (some .int), Cond.instanceMethod yX2_fromEnd, Cond.initialized RX2, Cond.selects RX2 yX2_fromEnd yX2_fromEnd, Cond.code yX2_fromEnd cX2_fromEnd 3 (some .int), Cond.fieldLink RX2 28 "BatchPipe$Segment" "last" "I", Cond.fieldLink RX2 18 "BatchPipe$Segment" "holds" "I", Cond.fieldLink RX2 9 "BatchPipe$Segment" "ring" "[I", Cond.methodLink RX5 184 yX5_batchOf, Cond.instanceMethod yX5_batchOf, Cond.selects RX5 yX5_batchOf yX5_batchOf, Cond.code yX5_batchOf cX5_batchOf 3 (some (.object "BatchPipe$Batch")), Cond.fieldLink RX5 50 "BatchPipe" "batchCount" "I"]
def wsX5_findRate_r2 : List Cond := [Cond.fieldLink RX5 23 "BatchPipe" "batches" "[LBatchPipe$Batch;", Cond.methodLink RX5 197 yX5_friction, Cond.instanceMethod yX5_friction, Cond.selects RX5 yX5_friction yX5_friction, Cond.code yX5_friction cX5_friction 5 (some .int), Cond.fieldLink RX5 17 "BatchPipe" "products" "[LBatchPipe$Product;", Cond.methodLink RX5 201 yX5_atBeginning, Cond.instanceMethod yX5_atBeginning, Cond.selects RX5 yX5_atBeginning yX5_atBeginning, Cond.code yX5_atBeginning cX5_atBeginning 3 (some .int), Cond.methodLink RX5 266 Lib.Math.max.name, Cond.static Lib.Math.max.name, Cond.initialized "java/lang/Math", Cond.code Lib.Math.max.name Lib.Math.max.code 2 (some .int)]
def wsX5_findRate : List Cond := .code yX5_findRate cX5_findRate 2 (some .int) :: ((wsX5_findRate_r1 ++ wsX5_findRate_r2) ++ wsX50 ++ wsX20 ++ wsX00 ++ wsX10)
def wsX5_nextBatch : List Cond := .code yX5_nextBatch cX5_nextBatch 2 (some (.object "BatchPipe$Batch")) :: ([.fieldLink RX5 65 "BatchPipe" "inletBatch" "LBatchPipe$Batch;", .fieldLink RX5 50 "BatchPipe" "batchCount" "I", .fieldLink RX5 23 "BatchPipe" "batches" "[LBatchPipe$Batch;", .instanceMethod yX0_waiting, .initialized RX0, .selects RX0 yX0_waiting yX0_waiting, .code yX0_waiting cX0_waiting 1 (some .int), .fieldLink RX0 22 "BatchPipe$Batch" "ordered" "I", .fieldLink RX0 25 "BatchPipe$Batch" "entered" "I", .instanceMethod yX1_bears, .initialized RX1, .selects RX1 yX1_bears yX1_bears, .code yX1_bears cX1_bears 2 (some .boolean), .fieldLink RX1 22 "BatchPipe$Product" "barred" "I", .fieldLink RX1 16 "BatchPipe$Product" "number" "I"] ++ wsX50 ++ wsX00 ++ wsX10)
def wsX5_nextTap : List Cond := .code yX5_nextTap cX5_nextTap 1 (some (.object "BatchPipe$Tap")) :: ([.fieldLink RX5 40 "BatchPipe" "leakTap" "LBatchPipe$Tap;", .fieldLink RX5 44 "BatchPipe" "dropTap" "LBatchPipe$Tap;", .fieldLink RX5 47 "BatchPipe" "outlet" "LBatchPipe$Tap;", .instanceMethod yX4_takesMore, .initialized RX4, .selects RX4 yX4_takesMore yX4_takesMore, .code yX4_takesMore cX4_takesMore 1 (some .boolean), .fieldLink RX4 9 "BatchPipe$Tap" "segment" "I", .fieldLink RX4 21 "BatchPipe$Tap" "taken" "I", .fieldLink RX4 15 "BatchPipe$Tap" "units" "I"] ++ wsX50 ++ wsX40)
def wsX5_placeOf : List Cond := .code yX5_placeOf cX5_placeOf 2 (some .int) :: ([])
def wsX5_wholeRoot : List Cond := .code yX5_wholeRoot cX5_wholeRoot 4 (some .int) :: ([])
def wsX5_mixOf : List Cond := .code yX5_mixOf cX5_mixOf 2 (some .int) :: ([.fieldLink RX5 326 "BatchPipe" "enteredInAll" "I", .methodLink RX5 335 yX5_wholeRoot, .instanceMethod yX5_wholeRoot, .selects RX5 yX5_wholeRoot yX5_wholeRoot, .initialized RX5, .code yX5_wholeRoot cX5_wholeRoot 4 (some .int)] ++ wsX00 ++ wsX50)
def wsX5_pour : List Cond := .code yX5_pour cX5_pour 6 none :: ([.methodLink RX5 266 Lib.Math.max.name, .static Lib.Math.max.name, .initialized "java/lang/Math", .code Lib.Math.max.name Lib.Math.max.code 2 (some .int), .methodLink RX5 164 yX5_mixOf, .instanceMethod yX5_mixOf, .selects RX5 yX5_mixOf yX5_mixOf, .initialized RX5, .code yX5_mixOf cX5_mixOf 2 (some .int), .fieldLink RX5 326 "BatchPipe" "enteredInAll" "I", .methodLink RX5 335 yX5_wholeRoot, .instanceMethod yX5_wholeRoot, .selects RX5 yX5_wholeRoot yX5_wholeRoot, .code yX5_wholeRoot cX5_wholeRoot 4 (some .int), .instanceMethod yX3_take, .initialized RX3, .selects RX3 yX3_take yX3_take, .code yX3_take cX3_take 3 none, .fieldLink RX3 15 "BatchPipe$Tank" "has" "I", .fieldLink RX3 18 "BatchPipe$Tank" "spilled" "I", .fieldLink RX3 9 "BatchPipe$Tank" "grade" "I", .methodLink RX3 21 Lib.Math.max.name, .fieldLink RX3 27 "BatchPipe$Tank" "mixed" "I"] ++ wsX00 ++ wsX10 ++ wsX50 ++ wsX30)
def wsX5_cleanUpTo : List Cond := .code yX5_cleanUpTo cX5_cleanUpTo 3 none :: ([.fieldLink RX5 11 "BatchPipe" "segments" "[LBatchPipe$Segment;"] ++ wsX50 ++ wsX20)
def wsX5_sendOff_r1 : List Cond := [Cond.fieldLink RX5 11 "BatchPipe" "segments" "[LBatchPipe$Segment;", Cond.fieldLink RX5 40 "BatchPipe" "leakTap" "LBatchPipe$Tap;", Cond.fieldLink RX5 44 "BatchPipe" "dropTap" "LBatchPipe$Tap;", Cond.fieldLink RX5 29 "BatchPipe" "tanks" "[LBatchPipe$Tank;", Cond.fieldLink RX5 54 "BatchPipe" "pigBehind" "I", Cond.instanceMethod yX2_fromEnd, Cond.initialized RX2, Cond.selects RX2 yX2_fromEnd yX2_fromEnd, Cond.code yX2_fromEnd cX2_fromEnd 3 (some .int), Cond.fieldLink RX2 28 "BatchPipe$Segment" "last" "I", Cond.fieldLink RX2 18 "BatchPipe$Segment" "holds" "I", Cond.fieldLink RX2 9 "BatchPipe$Segment" "ring" "[I", Cond.methodLink RX5 184 yX5_batchOf, Cond.instanceMethod yX5_batchOf, Cond.selects RX5 yX5_batchOf yX5_batchOf, Cond.initialized RX5, Cond.code yX5_batchOf cX5_batchOf 3 (some (.object "BatchPipe$Batch")), Cond.fieldLink RX5 50 "BatchPipe" "batchCount" "I", Cond.fieldLink RX5 23 "BatchPipe" "batches" "[LBatchPipe$Batch;", Cond.methodLink RX5 307 yX5_placeOf, Cond.instanceMethod yX5_placeOf, Cond.selects RX5 yX5_placeOf yX5_placeOf, Cond.code yX5_placeOf cX5_placeOf 2 (some .int), Cond.methodLink RX5 310 yX5_pour]
def wsX5_sendOff_r2 : List Cond := [Cond.instanceMethod yX5_pour, Cond.selects RX5 yX5_pour yX5_pour, Cond.code yX5_pour cX5_pour 6 none, Cond.methodLink RX5 266 Lib.Math.max.name, Cond.static Lib.Math.max.name, Cond.initialized "java/lang/Math", Cond.code Lib.Math.max.name Lib.Math.max.code 2 (some .int), Cond.methodLink RX5 164 yX5_mixOf, Cond.instanceMethod yX5_mixOf, Cond.selects RX5 yX5_mixOf yX5_mixOf, Cond.code yX5_mixOf cX5_mixOf 2 (some .int), Cond.fieldLink RX5 326 "BatchPipe" "enteredInAll" "I", Cond.methodLink RX5 335 yX5_wholeRoot, Cond.instanceMethod yX5_wholeRoot, Cond.selects RX5 yX5_wholeRoot yX5_wholeRoot, Cond.code yX5_wholeRoot cX5_wholeRoot 4 (some .int), Cond.instanceMethod yX3_take, Cond.initialized RX3, Cond.selects RX3 yX3_take yX3_take, Cond.code yX3_take cX3_take 3 none, Cond.fieldLink RX3 15 "BatchPipe$Tank" "has" "I", Cond.fieldLink RX3 18 "BatchPipe$Tank" "spilled" "I", Cond.fieldLink RX3 9 "BatchPipe$Tank" "grade" "I", Cond.methodLink RX3 21 Lib.Math.max.name]
def wsX5_sendOff_r3 : List Cond := [Cond.fieldLink RX3 27 "BatchPipe$Tank" "mixed" "I", Cond.methodLink RX5 320 yX5_cleanUpTo, Cond.instanceMethod yX5_cleanUpTo, Cond.selects RX5 yX5_cleanUpTo yX5_cleanUpTo, Cond.code yX5_cleanUpTo cX5_cleanUpTo 3 none]
def wsX5_sendOff : List Cond := .code yX5_sendOff cX5_sendOff 5 none :: ((wsX5_sendOff_r1 ++ (wsX5_sendOff_r2 ++ wsX5_sendOff_r3)) ++ wsX50 ++ wsX40 ++ wsX00 ++ wsX20 ++ wsX10 ++ wsX30)
def wsX5_bringIn : List Cond := .code yX5_bringIn cX5_bringIn 6 none :: ([.fieldLink RX5 65 "BatchPipe" "inletBatch" "LBatchPipe$Batch;", .fieldLink RX5 326 "BatchPipe" "enteredInAll" "I", .fieldLink RX5 11 "BatchPipe" "segments" "[LBatchPipe$Segment;", .methodLink RX5 132 yX5_unitOf, .instanceMethod yX5_unitOf, .selects RX5 yX5_unitOf yX5_unitOf, .initialized RX5, .code yX5_unitOf cX5_unitOf 3 (some .int), .instanceMethod yX2_fromEnd, .initialized RX2, .selects RX2 yX2_fromEnd yX2_fromEnd, .code yX2_fromEnd cX2_fromEnd 3 (some .int), .fieldLink RX2 28 "BatchPipe$Segment" "last" "I", .fieldLink RX2 18 "BatchPipe$Segment" "holds" "I", .fieldLink RX2 9 "BatchPipe$Segment" "ring" "[I", .methodLink RX5 184 yX5_batchOf, .instanceMethod yX5_batchOf, .selects RX5 yX5_batchOf yX5_batchOf, .code yX5_batchOf cX5_batchOf 3 (some (.object "BatchPipe$Batch")), .fieldLink RX5 50 "BatchPipe" "batchCount" "I", .fieldLink RX5 23 "BatchPipe" "batches" "[LBatchPipe$Batch;", .instanceMethod yX2_moveOn, .selects RX2 yX2_moveOn yX2_moveOn, .code yX2_moveOn cX2_moveOn 2 none] ++ wsX50 ++ wsX00 ++ wsX20 ++ wsX10)
def wsX5_moveOne_r1 : List Cond := [Cond.methodLink RX5 281 yX5_nextBatch, Cond.instanceMethod yX5_nextBatch, Cond.selects RX5 yX5_nextBatch yX5_nextBatch, Cond.initialized RX5, Cond.code yX5_nextBatch cX5_nextBatch 2 (some (.object "BatchPipe$Batch")), Cond.fieldLink RX5 65 "BatchPipe" "inletBatch" "LBatchPipe$Batch;", Cond.fieldLink RX5 50 "BatchPipe" "batchCount" "I", Cond.fieldLink RX5 23 "BatchPipe" "batches" "[LBatchPipe$Batch;", Cond.instanceMethod yX0_waiting, Cond.initialized RX0, Cond.selects RX0 yX0_waiting yX0_waiting, Cond.code yX0_waiting cX0_waiting 1 (some .int), Cond.fieldLink RX0 22 "BatchPipe$Batch" "ordered" "I", Cond.fieldLink RX0 25 "BatchPipe$Batch" "entered" "I", Cond.instanceMethod yX1_bears, Cond.initialized RX1, Cond.selects RX1 yX1_bears yX1_bears, Cond.code yX1_bears cX1_bears 2 (some .boolean), Cond.fieldLink RX1 22 "BatchPipe$Product" "barred" "I", Cond.fieldLink RX1 16 "BatchPipe$Product" "number" "I", Cond.methodLink RX5 285 yX5_nextTap, Cond.instanceMethod yX5_nextTap, Cond.selects RX5 yX5_nextTap yX5_nextTap, Cond.code yX5_nextTap cX5_nextTap 1 (some (.object "BatchPipe$Tap"))]
def wsX5_moveOne_r2 : List Cond := [Cond.fieldLink RX5 40 "BatchPipe" "leakTap" "LBatchPipe$Tap;", Cond.fieldLink RX5 44 "BatchPipe" "dropTap" "LBatchPipe$Tap;", Cond.fieldLink RX5 47 "BatchPipe" "outlet" "LBatchPipe$Tap;", Cond.instanceMethod yX4_takesMore, Cond.initialized RX4, Cond.selects RX4 yX4_takesMore yX4_takesMore, Cond.code yX4_takesMore cX4_takesMore 1 (some .boolean), Cond.fieldLink RX4 9 "BatchPipe$Tap" "segment" "I", Cond.fieldLink RX4 21 "BatchPipe$Tap" "taken" "I", Cond.fieldLink RX4 15 "BatchPipe$Tap" "units" "I", Cond.methodLink RX5 289 yX5_sendOff, Cond.instanceMethod yX5_sendOff, Cond.selects RX5 yX5_sendOff yX5_sendOff, Cond.code yX5_sendOff cX5_sendOff 5 none, Cond.fieldLink RX5 11 "BatchPipe" "segments" "[LBatchPipe$Segment;", Cond.fieldLink RX5 29 "BatchPipe" "tanks" "[LBatchPipe$Tank;", Cond.fieldLink RX5 54 "BatchPipe" "pigBehind" "I", Cond.instanceMethod yX2_fromEnd, Cond.initialized RX2, Cond.selects RX2 yX2_fromEnd yX2_fromEnd, Cond.code yX2_fromEnd cX2_fromEnd 3 (some .int), Cond.fieldLink RX2 28 "BatchPipe$Segment" "last" "I", Cond.fieldLink RX2 18 "BatchPipe$Segment" "holds" "I", Cond.fieldLink RX2 9 "BatchPipe$Segment" "ring" "[I"]
def wsX5_moveOne_r3 : List Cond := [Cond.methodLink RX5 184 yX5_batchOf, Cond.instanceMethod yX5_batchOf, Cond.selects RX5 yX5_batchOf yX5_batchOf, Cond.code yX5_batchOf cX5_batchOf 3 (some (.object "BatchPipe$Batch")), Cond.methodLink RX5 307 yX5_placeOf, Cond.instanceMethod yX5_placeOf, Cond.selects RX5 yX5_placeOf yX5_placeOf, Cond.code yX5_placeOf cX5_placeOf 2 (some .int), Cond.methodLink RX5 310 yX5_pour, Cond.instanceMethod yX5_pour, Cond.selects RX5 yX5_pour yX5_pour, Cond.code yX5_pour cX5_pour 6 none, Cond.methodLink RX5 266 Lib.Math.max.name, Cond.static Lib.Math.max.name, Cond.initialized "java/lang/Math", Cond.code Lib.Math.max.name Lib.Math.max.code 2 (some .int), Cond.methodLink RX5 164 yX5_mixOf, Cond.instanceMethod yX5_mixOf, Cond.selects RX5 yX5_mixOf yX5_mixOf, Cond.code yX5_mixOf cX5_mixOf 2 (some .int), Cond.fieldLink RX5 326 "BatchPipe" "enteredInAll" "I", Cond.methodLink RX5 335 yX5_wholeRoot, Cond.instanceMethod yX5_wholeRoot, Cond.selects RX5 yX5_wholeRoot yX5_wholeRoot]
def wsX5_moveOne_r4 : List Cond := [Cond.code yX5_wholeRoot cX5_wholeRoot 4 (some .int), Cond.instanceMethod yX3_take, Cond.initialized RX3, Cond.selects RX3 yX3_take yX3_take, Cond.code yX3_take cX3_take 3 none, Cond.fieldLink RX3 15 "BatchPipe$Tank" "has" "I", Cond.fieldLink RX3 18 "BatchPipe$Tank" "spilled" "I", Cond.fieldLink RX3 9 "BatchPipe$Tank" "grade" "I", Cond.methodLink RX3 21 Lib.Math.max.name, Cond.fieldLink RX3 27 "BatchPipe$Tank" "mixed" "I", Cond.methodLink RX5 320 yX5_cleanUpTo, Cond.instanceMethod yX5_cleanUpTo, Cond.selects RX5 yX5_cleanUpTo yX5_cleanUpTo, Cond.code yX5_cleanUpTo cX5_cleanUpTo 3 none, Cond.methodLink RX5 296 yX5_bringIn, Cond.instanceMethod yX5_bringIn, Cond.selects RX5 yX5_bringIn yX5_bringIn, Cond.code yX5_bringIn cX5_bringIn 6 none, Cond.methodLink RX5 132 yX5_unitOf, Cond.instanceMethod yX5_unitOf, Cond.selects RX5 yX5_unitOf yX5_unitOf, Cond.code yX5_unitOf cX5_unitOf 3 (some .int), Cond.instanceMethod yX2_moveOn, Cond.selects RX2 yX2_moveOn yX2_moveOn]
def wsX5_moveOne_r5 : List Cond := [Cond.code yX2_moveOn cX2_moveOn 2 none]
def wsX5_moveOne : List Cond := .code yX5_moveOne cX5_moveOne 3 (some .boolean) :: ((wsX5_moveOne_r1 ++ (wsX5_moveOne_r2 ++ (wsX5_moveOne_r3 ++ (wsX5_moveOne_r4 ++ wsX5_moveOne_r5)))) ++ wsX40 ++ wsX50 ++ wsX00 ++ wsX10 ++ wsX20 ++ wsX30)
def wsX5_soil : List Cond := .code yX5_soil cX5_soil 2 none :: ([.fieldLink RX5 77 "BatchPipe" "segmentCount" "I", .fieldLink RX5 11 "BatchPipe" "segments" "[LBatchPipe$Segment;", .methodLink RX5 232 Lib.Math.min.name, .static Lib.Math.min.name, .initialized "java/lang/Math", .code Lib.Math.min.name Lib.Math.min.code 2 (some .int)] ++ wsX50 ++ wsX20)
def wsX5_passOne_r1 : List Cond := [Cond.fieldLink RX5 40 "BatchPipe" "leakTap" "LBatchPipe$Tap;", Cond.fieldLink RX5 44 "BatchPipe" "dropTap" "LBatchPipe$Tap;", Cond.fieldLink RX5 47 "BatchPipe" "outlet" "LBatchPipe$Tap;", Cond.fieldLink RX5 214 "BatchPipe" "rateFound" "I", Cond.fieldLink RX5 33 "BatchPipe" "balances" "[I", Cond.fieldLink RX5 136 "BatchPipe" "minute" "I", Cond.methodLink RX5 249 yX5_findRate, Cond.instanceMethod yX5_findRate, Cond.selects RX5 yX5_findRate yX5_findRate, Cond.initialized RX5, Cond.code yX5_findRate cX5_findRate 2 (some .int), Cond.fieldLink RX5 120 "BatchPipe" "rateTold" "I", Cond.methodLink RX5 259 yX5_noneAbove, Cond.instanceMethod yX5_noneAbove, Cond.selects RX5 yX5_noneAbove yX5_noneAbove, Cond.code yX5_noneAbove cX5_noneAbove 4 (some .boolean), Cond.fieldLink RX5 77 "BatchPipe" "segmentCount" "I", Cond.fieldLink RX5 11 "BatchPipe" "segments" "[LBatchPipe$Segment;", Cond.methodLink RX5 194 yX5_headAt, Cond.instanceMethod yX5_headAt, Cond.selects RX5 yX5_headAt yX5_headAt, Cond.code yX5_headAt cX5_headAt 2 (some .int), Cond.instanceMethod yX2_fromEnd, Cond.initialized RX2]
def wsX5_passOne_r2 : List Cond := [Cond.selects RX2 yX2_fromEnd yX2_fromEnd, Cond.code yX2_fromEnd cX2_fromEnd 3 (some .int), Cond.fieldLink RX2 28 "BatchPipe$Segment" "last" "I", Cond.fieldLink RX2 18 "BatchPipe$Segment" "holds" "I", Cond.fieldLink RX2 9 "BatchPipe$Segment" "ring" "[I", Cond.methodLink RX5 184 yX5_batchOf, Cond.instanceMethod yX5_batchOf, Cond.selects RX5 yX5_batchOf yX5_batchOf, Cond.code yX5_batchOf cX5_batchOf 3 (some (.object "BatchPipe$Batch")), Cond.fieldLink RX5 50 "BatchPipe" "batchCount" "I", Cond.fieldLink RX5 23 "BatchPipe" "batches" "[LBatchPipe$Batch;", Cond.methodLink RX5 197 yX5_friction, Cond.instanceMethod yX5_friction, Cond.selects RX5 yX5_friction yX5_friction, Cond.code yX5_friction cX5_friction 5 (some .int), Cond.fieldLink RX5 17 "BatchPipe" "products" "[LBatchPipe$Product;", Cond.methodLink RX5 201 yX5_atBeginning, Cond.instanceMethod yX5_atBeginning, Cond.selects RX5 yX5_atBeginning yX5_atBeginning, Cond.code yX5_atBeginning cX5_atBeginning 3 (some .int), Cond.methodLink RX5 266 Lib.Math.max.name, Cond.static Lib.Math.max.name, Cond.initialized "java/lang/Math", Cond.code Lib.Math.max.name Lib.Math.max.code 2 (some .int)]
def wsX5_passOne_r3 : List Cond := [Cond.methodLink RX5 252 yX5_moveOne, Cond.instanceMethod yX5_moveOne, Cond.selects RX5 yX5_moveOne yX5_moveOne, Cond.code yX5_moveOne cX5_moveOne 3 (some .boolean), Cond.methodLink RX5 281 yX5_nextBatch, Cond.instanceMethod yX5_nextBatch, Cond.selects RX5 yX5_nextBatch yX5_nextBatch, Cond.code yX5_nextBatch cX5_nextBatch 2 (some (.object "BatchPipe$Batch")), Cond.fieldLink RX5 65 "BatchPipe" "inletBatch" "LBatchPipe$Batch;", Cond.instanceMethod yX0_waiting, Cond.initialized RX0, Cond.selects RX0 yX0_waiting yX0_waiting, Cond.code yX0_waiting cX0_waiting 1 (some .int), Cond.fieldLink RX0 22 "BatchPipe$Batch" "ordered" "I", Cond.fieldLink RX0 25 "BatchPipe$Batch" "entered" "I", Cond.instanceMethod yX1_bears, Cond.initialized RX1, Cond.selects RX1 yX1_bears yX1_bears, Cond.code yX1_bears cX1_bears 2 (some .boolean), Cond.fieldLink RX1 22 "BatchPipe$Product" "barred" "I", Cond.fieldLink RX1 16 "BatchPipe$Product" "number" "I", Cond.methodLink RX5 285 yX5_nextTap, Cond.instanceMethod yX5_nextTap, Cond.selects RX5 yX5_nextTap yX5_nextTap]
def wsX5_passOne_r4 : List Cond := [Cond.code yX5_nextTap cX5_nextTap 1 (some (.object "BatchPipe$Tap")), Cond.instanceMethod yX4_takesMore, Cond.initialized RX4, Cond.selects RX4 yX4_takesMore yX4_takesMore, Cond.code yX4_takesMore cX4_takesMore 1 (some .boolean), Cond.fieldLink RX4 9 "BatchPipe$Tap" "segment" "I", Cond.fieldLink RX4 21 "BatchPipe$Tap" "taken" "I", Cond.fieldLink RX4 15 "BatchPipe$Tap" "units" "I", Cond.methodLink RX5 289 yX5_sendOff, Cond.instanceMethod yX5_sendOff, Cond.selects RX5 yX5_sendOff yX5_sendOff, Cond.code yX5_sendOff cX5_sendOff 5 none, Cond.fieldLink RX5 29 "BatchPipe" "tanks" "[LBatchPipe$Tank;", Cond.fieldLink RX5 54 "BatchPipe" "pigBehind" "I", Cond.methodLink RX5 307 yX5_placeOf, Cond.instanceMethod yX5_placeOf, Cond.selects RX5 yX5_placeOf yX5_placeOf, Cond.code yX5_placeOf cX5_placeOf 2 (some .int), Cond.methodLink RX5 310 yX5_pour, Cond.instanceMethod yX5_pour, Cond.selects RX5 yX5_pour yX5_pour, Cond.code yX5_pour cX5_pour 6 none, Cond.methodLink RX5 164 yX5_mixOf, Cond.instanceMethod yX5_mixOf]
def wsX5_passOne_r5 : List Cond := [Cond.selects RX5 yX5_mixOf yX5_mixOf, Cond.code yX5_mixOf cX5_mixOf 2 (some .int), Cond.fieldLink RX5 326 "BatchPipe" "enteredInAll" "I", Cond.methodLink RX5 335 yX5_wholeRoot, Cond.instanceMethod yX5_wholeRoot, Cond.selects RX5 yX5_wholeRoot yX5_wholeRoot, Cond.code yX5_wholeRoot cX5_wholeRoot 4 (some .int), Cond.instanceMethod yX3_take, Cond.initialized RX3, Cond.selects RX3 yX3_take yX3_take, Cond.code yX3_take cX3_take 3 none, Cond.fieldLink RX3 15 "BatchPipe$Tank" "has" "I", Cond.fieldLink RX3 18 "BatchPipe$Tank" "spilled" "I", Cond.fieldLink RX3 9 "BatchPipe$Tank" "grade" "I", Cond.methodLink RX3 21 Lib.Math.max.name, Cond.fieldLink RX3 27 "BatchPipe$Tank" "mixed" "I", Cond.methodLink RX5 320 yX5_cleanUpTo, Cond.instanceMethod yX5_cleanUpTo, Cond.selects RX5 yX5_cleanUpTo yX5_cleanUpTo, Cond.code yX5_cleanUpTo cX5_cleanUpTo 3 none, Cond.methodLink RX5 296 yX5_bringIn, Cond.instanceMethod yX5_bringIn, Cond.selects RX5 yX5_bringIn yX5_bringIn, Cond.code yX5_bringIn cX5_bringIn 6 none]
def wsX5_passOne_r6 : List Cond := [Cond.methodLink RX5 132 yX5_unitOf, Cond.instanceMethod yX5_unitOf, Cond.selects RX5 yX5_unitOf yX5_unitOf, Cond.code yX5_unitOf cX5_unitOf 3 (some .int), Cond.instanceMethod yX2_moveOn, Cond.selects RX2 yX2_moveOn yX2_moveOn, Cond.code yX2_moveOn cX2_moveOn 2 none, Cond.methodLink RX5 256 yX5_soil, Cond.instanceMethod yX5_soil, Cond.selects RX5 yX5_soil yX5_soil, Cond.code yX5_soil cX5_soil 2 none, Cond.methodLink RX5 232 Lib.Math.min.name, Cond.static Lib.Math.min.name, Cond.code Lib.Math.min.name Lib.Math.min.code 2 (some .int)]
def wsX5_passOne : List Cond := .code yX5_passOne cX5_passOne 2 (some .int) :: ((wsX5_passOne_r1 ++ (wsX5_passOne_r2 ++ (wsX5_passOne_r3 ++ (wsX5_passOne_r4 ++ (wsX5_passOne_r5 ++ wsX5_passOne_r6))))) ++ wsX50 ++ wsX40 ++ wsX20 ++ wsX00 ++ wsX10 ++ wsX30)
def wsX5_pass_r1 : List Cond := [Cond.classLink RX5 80 "java/lang/IllegalStateException", Cond.initialized "java/lang/IllegalStateException", Cond.fieldLink RX5 73 "BatchPipe" "isOpen" "Z", Cond.fieldLink RX5 136 "BatchPipe" "minute" "I", Cond.methodLink RX5 69 yX5_checkRange, Cond.instanceMethod yX5_checkRange, Cond.selects RX5 yX5_checkRange yX5_checkRange, Cond.initialized RX5, Cond.code yX5_checkRange cX5_checkRange 4 none, Cond.classLink RX5 94 "java/lang/IllegalArgumentException", Cond.initialized "java/lang/IllegalArgumentException", Cond.methodLink RX5 141 yX5_passOne, Cond.instanceMethod yX5_passOne, Cond.selects RX5 yX5_passOne yX5_passOne, Cond.code yX5_passOne cX5_passOne 2 (some .int), Cond.fieldLink RX5 40 "BatchPipe" "leakTap" "LBatchPipe$Tap;", Cond.fieldLink RX5 44 "BatchPipe" "dropTap" "LBatchPipe$Tap;", Cond.fieldLink RX5 47 "BatchPipe" "outlet" "LBatchPipe$Tap;", Cond.fieldLink RX5 214 "BatchPipe" "rateFound" "I", Cond.fieldLink RX5 33 "BatchPipe" "balances" "[I", Cond.methodLink RX5 249 yX5_findRate, Cond.instanceMethod yX5_findRate, Cond.selects RX5 yX5_findRate yX5_findRate, Cond.code yX5_findRate cX5_findRate 2 (some .int)]
def wsX5_pass_r2 : List Cond := [Cond.fieldLink RX5 120 "BatchPipe" "rateTold" "I", Cond.methodLink RX5 259 yX5_noneAbove, Cond.instanceMethod yX5_noneAbove, Cond.selects RX5 yX5_noneAbove yX5_noneAbove, Cond.code yX5_noneAbove cX5_noneAbove 4 (some .boolean), Cond.fieldLink RX5 77 "BatchPipe" "segmentCount" "I", Cond.fieldLink RX5 11 "BatchPipe" "segments" "[LBatchPipe$Segment;", Cond.methodLink RX5 194 yX5_headAt, Cond.instanceMethod yX5_headAt, Cond.selects RX5 yX5_headAt yX5_headAt, Cond.code yX5_headAt cX5_headAt 2 (some .int), Cond.instanceMethod yX2_fromEnd, Cond.initialized RX2, Cond.selects RX2 yX2_fromEnd yX2_fromEnd, Cond.code yX2_fromEnd cX2_fromEnd 3 (some .int), Cond.fieldLink RX2 28 "BatchPipe$Segment" "last" "I", Cond.fieldLink RX2 18 "BatchPipe$Segment" "holds" "I", Cond.fieldLink RX2 9 "BatchPipe$Segment" "ring" "[I", Cond.methodLink RX5 184 yX5_batchOf, Cond.instanceMethod yX5_batchOf, Cond.selects RX5 yX5_batchOf yX5_batchOf, Cond.code yX5_batchOf cX5_batchOf 3 (some (.object "BatchPipe$Batch")), Cond.fieldLink RX5 50 "BatchPipe" "batchCount" "I", Cond.fieldLink RX5 23 "BatchPipe" "batches" "[LBatchPipe$Batch;"]
def wsX5_pass_r3 : List Cond := [Cond.methodLink RX5 197 yX5_friction, Cond.instanceMethod yX5_friction, Cond.selects RX5 yX5_friction yX5_friction, Cond.code yX5_friction cX5_friction 5 (some .int), Cond.fieldLink RX5 17 "BatchPipe" "products" "[LBatchPipe$Product;", Cond.methodLink RX5 201 yX5_atBeginning, Cond.instanceMethod yX5_atBeginning, Cond.selects RX5 yX5_atBeginning yX5_atBeginning, Cond.code yX5_atBeginning cX5_atBeginning 3 (some .int), Cond.methodLink RX5 266 Lib.Math.max.name, Cond.static Lib.Math.max.name, Cond.initialized "java/lang/Math", Cond.code Lib.Math.max.name Lib.Math.max.code 2 (some .int), Cond.methodLink RX5 252 yX5_moveOne, Cond.instanceMethod yX5_moveOne, Cond.selects RX5 yX5_moveOne yX5_moveOne, Cond.code yX5_moveOne cX5_moveOne 3 (some .boolean), Cond.methodLink RX5 281 yX5_nextBatch, Cond.instanceMethod yX5_nextBatch, Cond.selects RX5 yX5_nextBatch yX5_nextBatch, Cond.code yX5_nextBatch cX5_nextBatch 2 (some (.object "BatchPipe$Batch")), Cond.fieldLink RX5 65 "BatchPipe" "inletBatch" "LBatchPipe$Batch;", Cond.instanceMethod yX0_waiting, Cond.initialized RX0]
def wsX5_pass_r4 : List Cond := [Cond.selects RX0 yX0_waiting yX0_waiting, Cond.code yX0_waiting cX0_waiting 1 (some .int), Cond.fieldLink RX0 22 "BatchPipe$Batch" "ordered" "I", Cond.fieldLink RX0 25 "BatchPipe$Batch" "entered" "I", Cond.instanceMethod yX1_bears, Cond.initialized RX1, Cond.selects RX1 yX1_bears yX1_bears, Cond.code yX1_bears cX1_bears 2 (some .boolean), Cond.fieldLink RX1 22 "BatchPipe$Product" "barred" "I", Cond.fieldLink RX1 16 "BatchPipe$Product" "number" "I", Cond.methodLink RX5 285 yX5_nextTap, Cond.instanceMethod yX5_nextTap, Cond.selects RX5 yX5_nextTap yX5_nextTap, Cond.code yX5_nextTap cX5_nextTap 1 (some (.object "BatchPipe$Tap")), Cond.instanceMethod yX4_takesMore, Cond.initialized RX4, Cond.selects RX4 yX4_takesMore yX4_takesMore, Cond.code yX4_takesMore cX4_takesMore 1 (some .boolean), Cond.fieldLink RX4 9 "BatchPipe$Tap" "segment" "I", Cond.fieldLink RX4 21 "BatchPipe$Tap" "taken" "I", Cond.fieldLink RX4 15 "BatchPipe$Tap" "units" "I", Cond.methodLink RX5 289 yX5_sendOff, Cond.instanceMethod yX5_sendOff, Cond.selects RX5 yX5_sendOff yX5_sendOff]
def wsX5_pass_r5 : List Cond := [Cond.code yX5_sendOff cX5_sendOff 5 none, Cond.fieldLink RX5 29 "BatchPipe" "tanks" "[LBatchPipe$Tank;", Cond.fieldLink RX5 54 "BatchPipe" "pigBehind" "I", Cond.methodLink RX5 307 yX5_placeOf, Cond.instanceMethod yX5_placeOf, Cond.selects RX5 yX5_placeOf yX5_placeOf, Cond.code yX5_placeOf cX5_placeOf 2 (some .int), Cond.methodLink RX5 310 yX5_pour, Cond.instanceMethod yX5_pour, Cond.selects RX5 yX5_pour yX5_pour, Cond.code yX5_pour cX5_pour 6 none, Cond.methodLink RX5 164 yX5_mixOf, Cond.instanceMethod yX5_mixOf, Cond.selects RX5 yX5_mixOf yX5_mixOf, Cond.code yX5_mixOf cX5_mixOf 2 (some .int), Cond.fieldLink RX5 326 "BatchPipe" "enteredInAll" "I", Cond.methodLink RX5 335 yX5_wholeRoot, Cond.instanceMethod yX5_wholeRoot, Cond.selects RX5 yX5_wholeRoot yX5_wholeRoot, Cond.code yX5_wholeRoot cX5_wholeRoot 4 (some .int), Cond.instanceMethod yX3_take, Cond.initialized RX3, Cond.selects RX3 yX3_take yX3_take, Cond.code yX3_take cX3_take 3 none]
def wsX5_pass_r6 : List Cond := [Cond.fieldLink RX3 15 "BatchPipe$Tank" "has" "I", Cond.fieldLink RX3 18 "BatchPipe$Tank" "spilled" "I", Cond.fieldLink RX3 9 "BatchPipe$Tank" "grade" "I", Cond.methodLink RX3 21 Lib.Math.max.name, Cond.fieldLink RX3 27 "BatchPipe$Tank" "mixed" "I", Cond.methodLink RX5 320 yX5_cleanUpTo, Cond.instanceMethod yX5_cleanUpTo, Cond.selects RX5 yX5_cleanUpTo yX5_cleanUpTo, Cond.code yX5_cleanUpTo cX5_cleanUpTo 3 none, Cond.methodLink RX5 296 yX5_bringIn, Cond.instanceMethod yX5_bringIn, Cond.selects RX5 yX5_bringIn yX5_bringIn, Cond.code yX5_bringIn cX5_bringIn 6 none, Cond.methodLink RX5 132 yX5_unitOf, Cond.instanceMethod yX5_unitOf, Cond.selects RX5 yX5_unitOf yX5_unitOf, Cond.code yX5_unitOf cX5_unitOf 3 (some .int), Cond.instanceMethod yX2_moveOn, Cond.selects RX2 yX2_moveOn yX2_moveOn, Cond.code yX2_moveOn cX2_moveOn 2 none, Cond.methodLink RX5 256 yX5_soil, Cond.instanceMethod yX5_soil, Cond.selects RX5 yX5_soil yX5_soil, Cond.code yX5_soil cX5_soil 2 none]
def wsX5_pass_r7 : List Cond := [Cond.methodLink RX5 232 Lib.Math.min.name, Cond.static Lib.Math.min.name, Cond.code Lib.Math.min.name Lib.Math.min.code 2 (some .int)]
def wsX5_pass : List Cond := .code yX5_pass cX5_pass 4 (some .int) :: ((wsX5_pass_r1 ++ (wsX5_pass_r2 ++ (wsX5_pass_r3 ++ (wsX5_pass_r4 ++ (wsX5_pass_r5 ++ (wsX5_pass_r6 ++ wsX5_pass_r7)))))) ++ wsX50 ++ wsX40 ++ wsX20 ++ wsX00 ++ wsX10 ++ wsX30 ++ (vx_atS RX5 84 "java/lang/IllegalStateException" ["java/lang/RuntimeException", "java/lang/Exception"]).filter goodWord ++ (vx_atS RX5 98 "java/lang/IllegalArgumentException" ["java/lang/RuntimeException", "java/lang/Exception"]).filter goodWord)
def wsX5_batch_r1 : List Cond := [Cond.classLink RX5 144 "java/lang/IndexOutOfBoundsException", Cond.initialized "java/lang/IndexOutOfBoundsException", Cond.fieldLink RX5 50 "BatchPipe" "batchCount" "I", Cond.fieldLink RX5 73 "BatchPipe" "isOpen" "Z", Cond.fieldLink RX5 23 "BatchPipe" "batches" "[LBatchPipe$Batch;", Cond.methodLink RX5 90 yX5_checkIndex, Cond.instanceMethod yX5_checkIndex, Cond.selects RX5 yX5_checkIndex yX5_checkIndex, Cond.initialized RX5, Cond.code yX5_checkIndex cX5_checkIndex 3 none, Cond.methodLink RX5 69 yX5_checkRange, Cond.instanceMethod yX5_checkRange, Cond.selects RX5 yX5_checkRange yX5_checkRange, Cond.code yX5_checkRange cX5_checkRange 4 none, Cond.classLink RX5 94 "java/lang/IllegalArgumentException", Cond.initialized "java/lang/IllegalArgumentException", Cond.instanceMethod yX0_inPipe, Cond.initialized RX0, Cond.selects RX0 yX0_inPipe yX0_inPipe, Cond.code yX0_inPipe cX0_inPipe 1 (some .int), Cond.fieldLink RX0 25 "BatchPipe$Batch" "entered" "I", Cond.fieldLink RX0 28 "BatchPipe$Batch" "left" "I", Cond.fieldLink RX0 31 "BatchPipe$Batch" "dropped" "I", Cond.fieldLink RX0 34 "BatchPipe$Batch" "leaked" "I"]
def wsX5_batch_r2 : List Cond := [Cond.instanceMethod yX0_waiting, Cond.selects RX0 yX0_waiting yX0_waiting, Cond.code yX0_waiting cX0_waiting 1 (some .int), Cond.fieldLink RX0 22 "BatchPipe$Batch" "ordered" "I", Cond.methodLink RX5 164 yX5_mixOf, Cond.instanceMethod yX5_mixOf, Cond.selects RX5 yX5_mixOf yX5_mixOf, Cond.code yX5_mixOf cX5_mixOf 2 (some .int), Cond.fieldLink RX5 326 "BatchPipe" "enteredInAll" "I", Cond.methodLink RX5 335 yX5_wholeRoot, Cond.instanceMethod yX5_wholeRoot, Cond.selects RX5 yX5_wholeRoot yX5_wholeRoot, Cond.code yX5_wholeRoot cX5_wholeRoot 4 (some .int)]
def wsX5_batch : List Cond := .code yX5_batch cX5_batch 4 (some .int) :: ((wsX5_batch_r1 ++ wsX5_batch_r2) ++ wsX50 ++ wsX00 ++ wsX10 ++ (vx_atS RX5 148 "java/lang/IndexOutOfBoundsException" ["java/lang/RuntimeException", "java/lang/Exception"]).filter goodWord ++ (vx_atS RX5 98 "java/lang/IllegalArgumentException" ["java/lang/RuntimeException", "java/lang/Exception"]).filter goodWord)
def wsX5_checkUnit : List Cond := .code yX5_checkUnit cX5_checkUnit 2 none :: ([.classLink RX5 144 "java/lang/IndexOutOfBoundsException", .initialized "java/lang/IndexOutOfBoundsException"] ++ (vx_atS RX5 148 "java/lang/IndexOutOfBoundsException" ["java/lang/RuntimeException", "java/lang/Exception"]).filter goodWord)
def wsX5_unit : List Cond := .code yX5_unit cX5_unit 4 (some .int) :: ([.fieldLink RX5 73 "BatchPipe" "isOpen" "Z", .fieldLink RX5 77 "BatchPipe" "segmentCount" "I", .fieldLink RX5 11 "BatchPipe" "segments" "[LBatchPipe$Segment;", .methodLink RX5 175 yX5_checkUnit, .instanceMethod yX5_checkUnit, .selects RX5 yX5_checkUnit yX5_checkUnit, .initialized RX5, .code yX5_checkUnit cX5_checkUnit 2 none, .classLink RX5 144 "java/lang/IndexOutOfBoundsException", .initialized "java/lang/IndexOutOfBoundsException", .instanceMethod yX2_fromEnd, .initialized RX2, .selects RX2 yX2_fromEnd yX2_fromEnd, .code yX2_fromEnd cX2_fromEnd 3 (some .int), .fieldLink RX2 28 "BatchPipe$Segment" "last" "I", .fieldLink RX2 18 "BatchPipe$Segment" "holds" "I", .fieldLink RX2 9 "BatchPipe$Segment" "ring" "[I", .methodLink RX5 184 yX5_batchOf, .instanceMethod yX5_batchOf, .selects RX5 yX5_batchOf yX5_batchOf, .code yX5_batchOf cX5_batchOf 3 (some (.object "BatchPipe$Batch")), .fieldLink RX5 50 "BatchPipe" "batchCount" "I", .fieldLink RX5 23 "BatchPipe" "batches" "[LBatchPipe$Batch;"] ++ wsX50 ++ wsX20 ++ wsX00 ++ (vx_atS RX5 148 "java/lang/IndexOutOfBoundsException" ["java/lang/RuntimeException", "java/lang/Exception"]).filter goodWord)
def wsX5_unitAnew : List Cond := .code yX5_unitAnew cX5_unitAnew 4 (some .int) :: ([.fieldLink RX5 73 "BatchPipe" "isOpen" "Z", .fieldLink RX5 23 "BatchPipe" "batches" "[LBatchPipe$Batch;", .methodLink RX5 175 yX5_checkUnit, .instanceMethod yX5_checkUnit, .selects RX5 yX5_checkUnit yX5_checkUnit, .initialized RX5, .code yX5_checkUnit cX5_checkUnit 2 none, .classLink RX5 144 "java/lang/IndexOutOfBoundsException", .initialized "java/lang/IndexOutOfBoundsException", .instanceMethod yX0_inPipe, .initialized RX0, .selects RX0 yX0_inPipe yX0_inPipe, .code yX0_inPipe cX0_inPipe 1 (some .int), .fieldLink RX0 25 "BatchPipe$Batch" "entered" "I", .fieldLink RX0 28 "BatchPipe$Batch" "left" "I", .fieldLink RX0 31 "BatchPipe$Batch" "dropped" "I", .fieldLink RX0 34 "BatchPipe$Batch" "leaked" "I"] ++ wsX50 ++ wsX00 ++ (vx_atS RX5 148 "java/lang/IndexOutOfBoundsException" ["java/lang/RuntimeException", "java/lang/Exception"]).filter goodWord)
def wsX5_pressure_r1 : List Cond := [Cond.classLink RX5 80 "java/lang/IllegalStateException", Cond.initialized "java/lang/IllegalStateException", Cond.fieldLink RX5 77 "BatchPipe" "segmentCount" "I", Cond.fieldLink RX5 73 "BatchPipe" "isOpen" "Z", Cond.fieldLink RX5 11 "BatchPipe" "segments" "[LBatchPipe$Segment;", Cond.methodLink RX5 90 yX5_checkIndex, Cond.instanceMethod yX5_checkIndex, Cond.selects RX5 yX5_checkIndex yX5_checkIndex, Cond.initialized RX5, Cond.code yX5_checkIndex cX5_checkIndex 3 none, Cond.classLink RX5 144 "java/lang/IndexOutOfBoundsException", Cond.initialized "java/lang/IndexOutOfBoundsException", Cond.methodLink RX5 69 yX5_checkRange, Cond.instanceMethod yX5_checkRange, Cond.selects RX5 yX5_checkRange yX5_checkRange, Cond.code yX5_checkRange cX5_checkRange 4 none, Cond.classLink RX5 94 "java/lang/IllegalArgumentException", Cond.initialized "java/lang/IllegalArgumentException", Cond.methodLink RX5 194 yX5_headAt, Cond.instanceMethod yX5_headAt, Cond.selects RX5 yX5_headAt yX5_headAt, Cond.code yX5_headAt cX5_headAt 2 (some .int), Cond.instanceMethod yX2_fromEnd, Cond.initialized RX2]
def wsX5_pressure_r2 : List Cond := [Cond.selects RX2 yX2_fromEnd yX2_fromEnd, Cond.code yX2_fromEnd cX2_fromEnd 3 (some .int), Cond.fieldLink RX2 28 "BatchPipe$Segment" "last" "I", Cond.fieldLink RX2 18 "BatchPipe$Segment" "holds" "I", Cond.fieldLink RX2 9 "BatchPipe$Segment" "ring" "[I", Cond.methodLink RX5 184 yX5_batchOf, Cond.instanceMethod yX5_batchOf, Cond.selects RX5 yX5_batchOf yX5_batchOf, Cond.code yX5_batchOf cX5_batchOf 3 (some (.object "BatchPipe$Batch")), Cond.fieldLink RX5 50 "BatchPipe" "batchCount" "I", Cond.fieldLink RX5 23 "BatchPipe" "batches" "[LBatchPipe$Batch;", Cond.methodLink RX5 197 yX5_friction, Cond.instanceMethod yX5_friction, Cond.selects RX5 yX5_friction yX5_friction, Cond.code yX5_friction cX5_friction 5 (some .int), Cond.fieldLink RX5 17 "BatchPipe" "products" "[LBatchPipe$Product;", Cond.methodLink RX5 201 yX5_atBeginning, Cond.instanceMethod yX5_atBeginning, Cond.selects RX5 yX5_atBeginning yX5_atBeginning, Cond.code yX5_atBeginning cX5_atBeginning 3 (some .int), Cond.methodLink RX5 266 Lib.Math.max.name, Cond.static Lib.Math.max.name, Cond.initialized "java/lang/Math", Cond.code Lib.Math.max.name Lib.Math.max.code 2 (some .int)]
def wsX5_pressure : List Cond := .code yX5_pressure cX5_pressure 5 (some .int) :: ((wsX5_pressure_r1 ++ wsX5_pressure_r2) ++ wsX50 ++ wsX00 ++ wsX10 ++ wsX20 ++ (vx_atS RX5 84 "java/lang/IllegalStateException" ["java/lang/RuntimeException", "java/lang/Exception"]).filter goodWord ++ (vx_atS RX5 148 "java/lang/IndexOutOfBoundsException" ["java/lang/RuntimeException", "java/lang/Exception"]).filter goodWord ++ (vx_atS RX5 98 "java/lang/IllegalArgumentException" ["java/lang/RuntimeException", "java/lang/Exception"]).filter goodWord)
def wsX5_tank : List Cond := .code yX5_tank cX5_tank 3 (some .int) :: ([.fieldLink RX5 29 "BatchPipe" "tanks" "[LBatchPipe$Tank;", .methodLink RX5 90 yX5_checkIndex, .instanceMethod yX5_checkIndex, .selects RX5 yX5_checkIndex yX5_checkIndex, .initialized RX5, .code yX5_checkIndex cX5_checkIndex 3 none, .classLink RX5 144 "java/lang/IndexOutOfBoundsException", .initialized "java/lang/IndexOutOfBoundsException", .methodLink RX5 69 yX5_checkRange, .instanceMethod yX5_checkRange, .selects RX5 yX5_checkRange yX5_checkRange, .code yX5_checkRange cX5_checkRange 4 none, .classLink RX5 94 "java/lang/IllegalArgumentException", .initialized "java/lang/IllegalArgumentException"] ++ wsX50 ++ wsX30 ++ (vx_atS RX5 148 "java/lang/IndexOutOfBoundsException" ["java/lang/RuntimeException", "java/lang/Exception"]).filter goodWord ++ (vx_atS RX5 98 "java/lang/IllegalArgumentException" ["java/lang/RuntimeException", "java/lang/Exception"]).filter goodWord)
def wsX5_latestBalance : List Cond := .code yX5_latestBalance cX5_latestBalance 3 (some .int) :: ([.fieldLink RX5 33 "BatchPipe" "balances" "[I"] ++ wsX50)
def wsX5_spilledInAll : List Cond := .code yX5_spilledInAll cX5_spilledInAll 3 (some .int) :: ([.fieldLink RX5 29 "BatchPipe" "tanks" "[LBatchPipe$Tank;"] ++ wsX50 ++ wsX30)
def wsX5_pipe : List Cond := .code yX5_pipe cX5_pipe 2 (some .int) :: ([.fieldLink RX5 214 "BatchPipe" "rateFound" "I", .fieldLink RX5 54 "BatchPipe" "pigBehind" "I", .fieldLink RX5 136 "BatchPipe" "minute" "I", .methodLink RX5 69 yX5_checkRange, .instanceMethod yX5_checkRange, .selects RX5 yX5_checkRange yX5_checkRange, .initialized RX5, .code yX5_checkRange cX5_checkRange 4 none, .classLink RX5 94 "java/lang/IllegalArgumentException", .initialized "java/lang/IllegalArgumentException", .methodLink RX5 217 yX5_latestBalance, .instanceMethod yX5_latestBalance, .selects RX5 yX5_latestBalance yX5_latestBalance, .code yX5_latestBalance cX5_latestBalance 3 (some .int), .fieldLink RX5 33 "BatchPipe" "balances" "[I", .methodLink RX5 220 yX5_spilledInAll, .instanceMethod yX5_spilledInAll, .selects RX5 yX5_spilledInAll yX5_spilledInAll, .code yX5_spilledInAll cX5_spilledInAll 3 (some .int), .fieldLink RX5 29 "BatchPipe" "tanks" "[LBatchPipe$Tank;"] ++ wsX50 ++ wsX30 ++ (vx_atS RX5 98 "java/lang/IllegalArgumentException" ["java/lang/RuntimeException", "java/lang/Exception"]).filter goodWord)
def wsX5_dirt : List Cond := .code yX5_dirt cX5_dirt 2 (some .int) :: ([.fieldLink RX5 77 "BatchPipe" "segmentCount" "I", .fieldLink RX5 11 "BatchPipe" "segments" "[LBatchPipe$Segment;", .methodLink RX5 90 yX5_checkIndex, .instanceMethod yX5_checkIndex, .selects RX5 yX5_checkIndex yX5_checkIndex, .initialized RX5, .code yX5_checkIndex cX5_checkIndex 3 none, .classLink RX5 144 "java/lang/IndexOutOfBoundsException", .initialized "java/lang/IndexOutOfBoundsException"] ++ wsX50 ++ wsX20 ++ (vx_atS RX5 148 "java/lang/IndexOutOfBoundsException" ["java/lang/RuntimeException", "java/lang/Exception"]).filter goodWord)
def wsX5_waitingFor : List Cond := .code yX5_waitingFor cX5_waitingFor 4 (some .int) :: ([.fieldLink RX5 50 "BatchPipe" "batchCount" "I", .fieldLink RX5 23 "BatchPipe" "batches" "[LBatchPipe$Batch;", .instanceMethod yX0_waiting, .initialized RX0, .selects RX0 yX0_waiting yX0_waiting, .code yX0_waiting cX0_waiting 1 (some .int), .fieldLink RX0 22 "BatchPipe$Batch" "ordered" "I", .fieldLink RX0 25 "BatchPipe$Batch" "entered" "I"] ++ wsX50 ++ wsX00)
def wsX5_claimOf : List Cond := .code yX5_claimOf cX5_claimOf 4 (some .int) :: ([.fieldLink RX5 50 "BatchPipe" "batchCount" "I", .fieldLink RX5 23 "BatchPipe" "batches" "[LBatchPipe$Batch;"] ++ wsX50 ++ wsX00)
def wsX5_share_r1 : List Cond := [Cond.methodLink RX5 232 Lib.Math.min.name, Cond.static Lib.Math.min.name, Cond.initialized "java/lang/Math", Cond.code Lib.Math.min.name Lib.Math.min.code 2 (some .int), Cond.methodLink RX5 90 yX5_checkIndex, Cond.instanceMethod yX5_checkIndex, Cond.selects RX5 yX5_checkIndex yX5_checkIndex, Cond.initialized RX5, Cond.code yX5_checkIndex cX5_checkIndex 3 none, Cond.classLink RX5 144 "java/lang/IndexOutOfBoundsException", Cond.initialized "java/lang/IndexOutOfBoundsException", Cond.methodLink RX5 69 yX5_checkRange, Cond.instanceMethod yX5_checkRange, Cond.selects RX5 yX5_checkRange yX5_checkRange, Cond.code yX5_checkRange cX5_checkRange 4 none, Cond.classLink RX5 94 "java/lang/IllegalArgumentException", Cond.initialized "java/lang/IllegalArgumentException", Cond.methodLink RX5 226 yX5_waitingFor, Cond.instanceMethod yX5_waitingFor, Cond.selects RX5 yX5_waitingFor yX5_waitingFor, Cond.code yX5_waitingFor cX5_waitingFor 4 (some .int), Cond.fieldLink RX5 50 "BatchPipe" "batchCount" "I", Cond.fieldLink RX5 23 "BatchPipe" "batches" "[LBatchPipe$Batch;", Cond.instanceMethod yX0_waiting]
def wsX5_share_r2 : List Cond := [Cond.initialized RX0, Cond.selects RX0 yX0_waiting yX0_waiting, Cond.code yX0_waiting cX0_waiting 1 (some .int), Cond.fieldLink RX0 22 "BatchPipe$Batch" "ordered" "I", Cond.fieldLink RX0 25 "BatchPipe$Batch" "entered" "I", Cond.methodLink RX5 229 yX5_claimOf, Cond.instanceMethod yX5_claimOf, Cond.selects RX5 yX5_claimOf yX5_claimOf, Cond.code yX5_claimOf cX5_claimOf 4 (some .int)]
def wsX5_share : List Cond := .code yX5_share cX5_share 6 (some .int) :: ((wsX5_share_r1 ++ wsX5_share_r2) ++ wsX50 ++ wsX00 ++ (vx_atS RX5 148 "java/lang/IndexOutOfBoundsException" ["java/lang/RuntimeException", "java/lang/Exception"]).filter goodWord ++ (vx_atS RX5 98 "java/lang/IllegalArgumentException" ["java/lang/RuntimeException", "java/lang/Exception"]).filter goodWord)
def wsX6_init_r1 : List Cond := [Cond.methodLink RX6 1 objectInit, Cond.instanceMethod objectInit, Cond.code objectInit ⟨#[0xb1]⟩ 1 none, Cond.arrayClass .int, Cond.fieldLink RX6 7 "BatchPipeModel" "holds" "[I", Cond.fieldLink RX6 13 "BatchPipeModel" "height" "[I", Cond.fieldLink RX6 16 "BatchPipeModel" "limit" "[I", Cond.fieldLink RX6 19 "BatchPipeModel" "dirty" "[I", Cond.fieldLink RX6 22 "BatchPipeModel" "weight" "[I", Cond.fieldLink RX6 25 "BatchPipeModel" "thickness" "[I", Cond.fieldLink RX6 28 "BatchPipeModel" "grade" "[I", Cond.fieldLink RX6 31 "BatchPipeModel" "barred" "[I", Cond.fieldLink RX6 34 "BatchPipeModel" "batches" "I", Cond.fieldLink RX6 38 "BatchPipeModel" "shipper" "[I", Cond.fieldLink RX6 41 "BatchPipeModel" "product" "[I", Cond.fieldLink RX6 44 "BatchPipeModel" "ordered" "[I", Cond.fieldLink RX6 47 "BatchPipeModel" "entered" "[I", Cond.fieldLink RX6 50 "BatchPipeModel" "left" "[I", Cond.fieldLink RX6 53 "BatchPipeModel" "dropped" "[I", Cond.fieldLink RX6 56 "BatchPipeModel" "leaked" "[I", Cond.fieldLink RX6 59 "BatchPipeModel" "ahead" "[I", Cond.fieldLink RX6 62 "BatchPipeModel" "behind" "[I", Cond.fieldLink RX6 65 "BatchPipeModel" "enteredAhead" "[I", Cond.fieldLink RX6 68 "BatchPipeModel" "kept" "[I"]
def wsX6_init_r2 : List Cond := [Cond.fieldLink RX6 71 "BatchPipeModel" "unitBatch" "[I", Cond.fieldLink RX6 74 "BatchPipeModel" "unitPlace" "[I", Cond.fieldLink RX6 77 "BatchPipeModel" "dropSegment" "I", Cond.fieldLink RX6 80 "BatchPipeModel" "leakSegment" "I", Cond.fieldLink RX6 83 "BatchPipeModel" "has" "[I", Cond.fieldLink RX6 86 "BatchPipeModel" "worst" "[I", Cond.fieldLink RX6 89 "BatchPipeModel" "mixed" "[I", Cond.fieldLink RX6 92 "BatchPipeModel" "balances" "[I"]
def wsX6_init : List Cond := .code yX6_init cX6_init 2 none :: ((wsX6_init_r1 ++ wsX6_init_r2) ++ wsX60)
def wsX6_thrown : List Cond := .code yX6_thrown cX6_thrown 1 (some .int) :: ([.fieldLink RX6 95 "BatchPipeModel" "thrown" "I"] ++ wsX60)
def wsX6_goes : List Cond := .code yX6_goes cX6_goes 4 (some .boolean) :: ([.fieldLink RX6 95 "BatchPipeModel" "thrown" "I"] ++ wsX60)
def wsX6_isBetween : List Cond := .code yX6_isBetween cX6_isBetween 3 (some .boolean) :: ([])
def wsX6_isProduct : List Cond := .code yX6_isProduct cX6_isProduct 1 (some .boolean) :: ([.methodLink RX6 98 yX6_isBetween, .static yX6_isBetween, .initialized RX6, .code yX6_isBetween cX6_isBetween 3 (some .boolean)])
def wsX6_isTank : List Cond := .code yX6_isTank cX6_isTank 1 (some .boolean) :: ([.methodLink RX6 98 yX6_isBetween, .static yX6_isBetween, .initialized RX6, .code yX6_isBetween cX6_isBetween 3 (some .boolean)])
def wsX6_isShipper : List Cond := .code yX6_isShipper cX6_isShipper 1 (some .boolean) :: ([.methodLink RX6 98 yX6_isBetween, .static yX6_isBetween, .initialized RX6, .code yX6_isBetween cX6_isBetween 3 (some .boolean)])
def wsX6_isSegment : List Cond := .code yX6_isSegment cX6_isSegment 2 (some .boolean) :: ([.fieldLink RX6 102 "BatchPipeModel" "segments" "I", .methodLink RX6 98 yX6_isBetween, .static yX6_isBetween, .initialized RX6, .code yX6_isBetween cX6_isBetween 3 (some .boolean)] ++ wsX60)
def wsX6_isPlace : List Cond := .code yX6_isPlace cX6_isPlace 2 (some .boolean) :: ([.fieldLink RX6 102 "BatchPipeModel" "segments" "I", .methodLink RX6 98 yX6_isBetween, .static yX6_isBetween, .initialized RX6, .code yX6_isBetween cX6_isBetween 3 (some .boolean)] ++ wsX60)
def wsX6_segment : List Cond := .code yX6_segment cX6_segment 4 (some .int) :: ([.fieldLink RX6 102 "BatchPipeModel" "segments" "I", .fieldLink RX6 105 "BatchPipeModel" "isOpen" "Z", .fieldLink RX6 7 "BatchPipeModel" "holds" "[I", .fieldLink RX6 13 "BatchPipeModel" "height" "[I", .fieldLink RX6 16 "BatchPipeModel" "limit" "[I", .methodLink RX6 98 yX6_isBetween, .static yX6_isBetween, .initialized RX6, .code yX6_isBetween cX6_isBetween 3 (some .boolean), .methodLink RX6 109 yX6_goes, .instanceMethod yX6_goes, .selects RX6 yX6_goes yX6_goes, .code yX6_goes cX6_goes 4 (some .boolean), .fieldLink RX6 95 "BatchPipeModel" "thrown" "I"] ++ wsX60)
def wsX6_product : List Cond := .code yX6_product cX6_product 8 none :: ([.fieldLink RX6 22 "BatchPipeModel" "weight" "[I", .fieldLink RX6 25 "BatchPipeModel" "thickness" "[I", .fieldLink RX6 28 "BatchPipeModel" "grade" "[I", .fieldLink RX6 31 "BatchPipeModel" "barred" "[I", .methodLink RX6 113 yX6_isProduct, .static yX6_isProduct, .initialized RX6, .code yX6_isProduct cX6_isProduct 1 (some .boolean), .methodLink RX6 98 yX6_isBetween, .static yX6_isBetween, .code yX6_isBetween cX6_isBetween 3 (some .boolean), .methodLink RX6 109 yX6_goes, .instanceMethod yX6_goes, .selects RX6 yX6_goes yX6_goes, .code yX6_goes cX6_goes 4 (some .boolean), .fieldLink RX6 95 "BatchPipeModel" "thrown" "I"] ++ wsX60)
def wsX6_open : List Cond := .code yX6_open cX6_open 3 (some .int) :: ([.fieldLink RX6 105 "BatchPipeModel" "isOpen" "Z", .fieldLink RX6 102 "BatchPipeModel" "segments" "I", .fieldLink RX6 117 "BatchPipeModel" "length" "I", .fieldLink RX6 7 "BatchPipeModel" "holds" "[I", .fieldLink RX6 41 "BatchPipeModel" "product" "[I", .fieldLink RX6 44 "BatchPipeModel" "ordered" "[I", .fieldLink RX6 47 "BatchPipeModel" "entered" "[I", .fieldLink RX6 120 "BatchPipeModel" "all" "I", .fieldLink RX6 71 "BatchPipeModel" "unitBatch" "[I", .fieldLink RX6 74 "BatchPipeModel" "unitPlace" "[I", .methodLink RX6 113 yX6_isProduct, .static yX6_isProduct, .initialized RX6, .code yX6_isProduct cX6_isProduct 1 (some .boolean), .methodLink RX6 98 yX6_isBetween, .static yX6_isBetween, .code yX6_isBetween cX6_isBetween 3 (some .boolean), .methodLink RX6 109 yX6_goes, .instanceMethod yX6_goes, .selects RX6 yX6_goes yX6_goes, .code yX6_goes cX6_goes 4 (some .boolean), .fieldLink RX6 95 "BatchPipeModel" "thrown" "I"] ++ wsX60)
def wsX6_order : List Cond := .code yX6_order cX6_order 4 (some .int) :: ([.fieldLink RX6 34 "BatchPipeModel" "batches" "I", .fieldLink RX6 38 "BatchPipeModel" "shipper" "[I", .fieldLink RX6 41 "BatchPipeModel" "product" "[I", .fieldLink RX6 44 "BatchPipeModel" "ordered" "[I", .methodLink RX6 123 yX6_isShipper, .static yX6_isShipper, .initialized RX6, .code yX6_isShipper cX6_isShipper 1 (some .boolean), .methodLink RX6 98 yX6_isBetween, .static yX6_isBetween, .code yX6_isBetween cX6_isBetween 3 (some .boolean), .methodLink RX6 113 yX6_isProduct, .static yX6_isProduct, .code yX6_isProduct cX6_isProduct 1 (some .boolean), .methodLink RX6 109 yX6_goes, .instanceMethod yX6_goes, .selects RX6 yX6_goes yX6_goes, .code yX6_goes cX6_goes 4 (some .boolean), .fieldLink RX6 95 "BatchPipeModel" "thrown" "I"] ++ wsX60)
def wsX6_rate : List Cond := .code yX6_rate cX6_rate 3 (some .int) :: ([.fieldLink RX6 126 "BatchPipeModel" "rate" "I", .methodLink RX6 98 yX6_isBetween, .static yX6_isBetween, .initialized RX6, .code yX6_isBetween cX6_isBetween 3 (some .boolean), .methodLink RX6 109 yX6_goes, .instanceMethod yX6_goes, .selects RX6 yX6_goes yX6_goes, .code yX6_goes cX6_goes 4 (some .boolean), .fieldLink RX6 95 "BatchPipeModel" "thrown" "I"] ++ wsX60)
def wsX6_drop : List Cond := .code yX6_drop cX6_drop 4 none :: ([.fieldLink RX6 77 "BatchPipeModel" "dropSegment" "I", .fieldLink RX6 135 "BatchPipeModel" "dropUnits" "I", .fieldLink RX6 138 "BatchPipeModel" "dropTank" "I", .methodLink RX6 129 yX6_isPlace, .instanceMethod yX6_isPlace, .selects RX6 yX6_isPlace yX6_isPlace, .initialized RX6, .code yX6_isPlace cX6_isPlace 2 (some .boolean), .fieldLink RX6 102 "BatchPipeModel" "segments" "I", .methodLink RX6 98 yX6_isBetween, .static yX6_isBetween, .code yX6_isBetween cX6_isBetween 3 (some .boolean), .methodLink RX6 132 yX6_isTank, .static yX6_isTank, .code yX6_isTank cX6_isTank 1 (some .boolean), .methodLink RX6 109 yX6_goes, .instanceMethod yX6_goes, .selects RX6 yX6_goes yX6_goes, .code yX6_goes cX6_goes 4 (some .boolean), .fieldLink RX6 95 "BatchPipeModel" "thrown" "I"] ++ wsX60)
def wsX6_leak : List Cond := .code yX6_leak cX6_leak 3 none :: ([.fieldLink RX6 80 "BatchPipeModel" "leakSegment" "I", .fieldLink RX6 141 "BatchPipeModel" "leakUnits" "I", .methodLink RX6 129 yX6_isPlace, .instanceMethod yX6_isPlace, .selects RX6 yX6_isPlace yX6_isPlace, .initialized RX6, .code yX6_isPlace cX6_isPlace 2 (some .boolean), .fieldLink RX6 102 "BatchPipeModel" "segments" "I", .methodLink RX6 98 yX6_isBetween, .static yX6_isBetween, .code yX6_isBetween cX6_isBetween 3 (some .boolean), .methodLink RX6 109 yX6_goes, .instanceMethod yX6_goes, .selects RX6 yX6_goes yX6_goes, .code yX6_goes cX6_goes 4 (some .boolean), .fieldLink RX6 95 "BatchPipeModel" "thrown" "I"] ++ wsX60)
def wsX6_receive : List Cond := .code yX6_receive cX6_receive 3 (some .int) :: ([.fieldLink RX6 144 "BatchPipeModel" "receiving" "I", .methodLink RX6 132 yX6_isTank, .static yX6_isTank, .initialized RX6, .code yX6_isTank cX6_isTank 1 (some .boolean), .methodLink RX6 98 yX6_isBetween, .static yX6_isBetween, .code yX6_isBetween cX6_isBetween 3 (some .boolean), .methodLink RX6 109 yX6_goes, .instanceMethod yX6_goes, .selects RX6 yX6_goes yX6_goes, .code yX6_goes cX6_goes 4 (some .boolean), .fieldLink RX6 95 "BatchPipeModel" "thrown" "I"] ++ wsX60)
def wsX6_empty : List Cond := .code yX6_empty cX6_empty 3 (some .int) :: ([.fieldLink RX6 83 "BatchPipeModel" "has" "[I", .fieldLink RX6 89 "BatchPipeModel" "mixed" "[I", .fieldLink RX6 86 "BatchPipeModel" "worst" "[I", .methodLink RX6 132 yX6_isTank, .static yX6_isTank, .initialized RX6, .code yX6_isTank cX6_isTank 1 (some .boolean), .methodLink RX6 98 yX6_isBetween, .static yX6_isBetween, .code yX6_isBetween cX6_isBetween 3 (some .boolean), .methodLink RX6 109 yX6_goes, .instanceMethod yX6_goes, .selects RX6 yX6_goes yX6_goes, .code yX6_goes cX6_goes 4 (some .boolean), .fieldLink RX6 95 "BatchPipeModel" "thrown" "I"] ++ wsX60)
def wsX6_launch : List Cond := .code yX6_launch cX6_launch 1 none :: ([.fieldLink RX6 105 "BatchPipeModel" "isOpen" "Z", .fieldLink RX6 147 "BatchPipeModel" "isPig" "Z", .fieldLink RX6 71 "BatchPipeModel" "unitBatch" "[I", .fieldLink RX6 117 "BatchPipeModel" "length" "I", .fieldLink RX6 150 "BatchPipeModel" "pigBatch" "I", .fieldLink RX6 74 "BatchPipeModel" "unitPlace" "[I", .fieldLink RX6 153 "BatchPipeModel" "pigPlace" "I", .methodLink RX6 109 yX6_goes, .instanceMethod yX6_goes, .selects RX6 yX6_goes yX6_goes, .initialized RX6, .code yX6_goes cX6_goes 4 (some .boolean), .fieldLink RX6 95 "BatchPipeModel" "thrown" "I"] ++ wsX60)
def wsX6_lastOf : List Cond := .code yX6_lastOf cX6_lastOf 4 (some .int) :: ([.fieldLink RX6 102 "BatchPipeModel" "segments" "I", .fieldLink RX6 7 "BatchPipeModel" "holds" "[I"] ++ wsX60)
def wsX6_pressureOf : List Cond := .code yX6_pressureOf cX6_pressureOf 8 (some .int) :: ([.fieldLink RX6 102 "BatchPipeModel" "segments" "I", .fieldLink RX6 7 "BatchPipeModel" "holds" "[I", .fieldLink RX6 25 "BatchPipeModel" "thickness" "[I", .fieldLink RX6 41 "BatchPipeModel" "product" "[I", .fieldLink RX6 71 "BatchPipeModel" "unitBatch" "[I", .fieldLink RX6 19 "BatchPipeModel" "dirty" "[I", .fieldLink RX6 22 "BatchPipeModel" "weight" "[I", .fieldLink RX6 13 "BatchPipeModel" "height" "[I", .methodLink RX6 156 yX6_lastOf, .instanceMethod yX6_lastOf, .selects RX6 yX6_lastOf yX6_lastOf, .initialized RX6, .code yX6_lastOf cX6_lastOf 4 (some .int)] ++ wsX60)
def wsX6_rateThatGoes : List Cond := .code yX6_rateThatGoes cX6_rateThatGoes 4 (some .int) :: ([.fieldLink RX6 126 "BatchPipeModel" "rate" "I", .fieldLink RX6 102 "BatchPipeModel" "segments" "I", .fieldLink RX6 16 "BatchPipeModel" "limit" "[I", .methodLink RX6 160 yX6_pressureOf, .instanceMethod yX6_pressureOf, .selects RX6 yX6_pressureOf yX6_pressureOf, .initialized RX6, .code yX6_pressureOf cX6_pressureOf 8 (some .int), .fieldLink RX6 7 "BatchPipeModel" "holds" "[I", .fieldLink RX6 25 "BatchPipeModel" "thickness" "[I", .fieldLink RX6 41 "BatchPipeModel" "product" "[I", .fieldLink RX6 71 "BatchPipeModel" "unitBatch" "[I", .fieldLink RX6 19 "BatchPipeModel" "dirty" "[I", .fieldLink RX6 22 "BatchPipeModel" "weight" "[I", .fieldLink RX6 13 "BatchPipeModel" "height" "[I", .methodLink RX6 156 yX6_lastOf, .instanceMethod yX6_lastOf, .selects RX6 yX6_lastOf yX6_lastOf, .code yX6_lastOf cX6_lastOf 4 (some .int)] ++ wsX60)
def wsX6_root : List Cond := .code yX6_root cX6_root 2 (some .int) :: ([])
def wsX6_mixOf : List Cond := .code yX6_mixOf cX6_mixOf 2 (some .int) :: ([.fieldLink RX6 47 "BatchPipeModel" "entered" "[I", .fieldLink RX6 41 "BatchPipeModel" "product" "[I", .fieldLink RX6 59 "BatchPipeModel" "ahead" "[I", .fieldLink RX6 68 "BatchPipeModel" "kept" "[I", .fieldLink RX6 120 "BatchPipeModel" "all" "I", .fieldLink RX6 65 "BatchPipeModel" "enteredAhead" "[I", .methodLink RX6 164 yX6_root, .static yX6_root, .initialized RX6, .code yX6_root cX6_root 2 (some .int)] ++ wsX60)
def wsX6_isMixedAhead : List Cond := .code yX6_isMixedAhead cX6_isMixedAhead 3 (some .boolean) :: ([.methodLink RX6 167 yX6_mixOf, .instanceMethod yX6_mixOf, .selects RX6 yX6_mixOf yX6_mixOf, .initialized RX6, .code yX6_mixOf cX6_mixOf 2 (some .int), .fieldLink RX6 47 "BatchPipeModel" "entered" "[I", .fieldLink RX6 41 "BatchPipeModel" "product" "[I", .fieldLink RX6 59 "BatchPipeModel" "ahead" "[I", .fieldLink RX6 68 "BatchPipeModel" "kept" "[I", .fieldLink RX6 120 "BatchPipeModel" "all" "I", .fieldLink RX6 65 "BatchPipeModel" "enteredAhead" "[I", .methodLink RX6 164 yX6_root, .static yX6_root, .code yX6_root cX6_root 2 (some .int)] ++ wsX60)
def wsX6_isMixedBehind : List Cond := .code yX6_isMixedBehind cX6_isMixedBehind 4 (some .boolean) :: ([.fieldLink RX6 62 "BatchPipeModel" "behind" "[I", .fieldLink RX6 47 "BatchPipeModel" "entered" "[I", .methodLink RX6 167 yX6_mixOf, .instanceMethod yX6_mixOf, .selects RX6 yX6_mixOf yX6_mixOf, .initialized RX6, .code yX6_mixOf cX6_mixOf 2 (some .int), .fieldLink RX6 41 "BatchPipeModel" "product" "[I", .fieldLink RX6 59 "BatchPipeModel" "ahead" "[I", .fieldLink RX6 68 "BatchPipeModel" "kept" "[I", .fieldLink RX6 120 "BatchPipeModel" "all" "I", .fieldLink RX6 65 "BatchPipeModel" "enteredAhead" "[I", .methodLink RX6 164 yX6_root, .static yX6_root, .code yX6_root cX6_root 2 (some .int)] ++ wsX60)
def wsX6_comesInto_r1 : List Cond := [Cond.fieldLink RX6 83 "BatchPipeModel" "has" "[I", Cond.fieldLink RX6 170 "BatchPipeModel" "spilled" "I", Cond.fieldLink RX6 28 "BatchPipeModel" "grade" "[I", Cond.fieldLink RX6 41 "BatchPipeModel" "product" "[I", Cond.fieldLink RX6 59 "BatchPipeModel" "ahead" "[I", Cond.fieldLink RX6 62 "BatchPipeModel" "behind" "[I", Cond.fieldLink RX6 86 "BatchPipeModel" "worst" "[I", Cond.fieldLink RX6 89 "BatchPipeModel" "mixed" "[I", Cond.methodLink RX6 173 yX6_isMixedAhead, Cond.instanceMethod yX6_isMixedAhead, Cond.selects RX6 yX6_isMixedAhead yX6_isMixedAhead, Cond.initialized RX6, Cond.code yX6_isMixedAhead cX6_isMixedAhead 3 (some .boolean), Cond.methodLink RX6 167 yX6_mixOf, Cond.instanceMethod yX6_mixOf, Cond.selects RX6 yX6_mixOf yX6_mixOf, Cond.code yX6_mixOf cX6_mixOf 2 (some .int), Cond.fieldLink RX6 47 "BatchPipeModel" "entered" "[I", Cond.fieldLink RX6 68 "BatchPipeModel" "kept" "[I", Cond.fieldLink RX6 120 "BatchPipeModel" "all" "I", Cond.fieldLink RX6 65 "BatchPipeModel" "enteredAhead" "[I", Cond.methodLink RX6 164 yX6_root, Cond.static yX6_root, Cond.code yX6_root cX6_root 2 (some .int)]
def wsX6_comesInto_r2 : List Cond := [Cond.methodLink RX6 177 yX6_isMixedBehind, Cond.instanceMethod yX6_isMixedBehind, Cond.selects RX6 yX6_isMixedBehind yX6_isMixedBehind, Cond.code yX6_isMixedBehind cX6_isMixedBehind 4 (some .boolean)]
def wsX6_comesInto : List Cond := .code yX6_comesInto cX6_comesInto 7 none :: ((wsX6_comesInto_r1 ++ wsX6_comesInto_r2) ++ wsX60)
def wsX6_isIn : List Cond := .code yX6_isIn cX6_isIn 2 (some .boolean) :: ([])
def wsX6_entering : List Cond := .code yX6_entering cX6_entering 3 (some .int) :: ([.fieldLink RX6 34 "BatchPipeModel" "batches" "I", .fieldLink RX6 47 "BatchPipeModel" "entered" "[I", .fieldLink RX6 44 "BatchPipeModel" "ordered" "[I", .fieldLink RX6 41 "BatchPipeModel" "product" "[I", .fieldLink RX6 71 "BatchPipeModel" "unitBatch" "[I", .fieldLink RX6 117 "BatchPipeModel" "length" "I", .fieldLink RX6 31 "BatchPipeModel" "barred" "[I", .methodLink RX6 180 yX6_isIn, .static yX6_isIn, .initialized RX6, .code yX6_isIn cX6_isIn 2 (some .boolean)] ++ wsX60)
def wsX6_clean : List Cond := .code yX6_clean cX6_clean 3 none :: ([.fieldLink RX6 19 "BatchPipeModel" "dirty" "[I", .fieldLink RX6 147 "BatchPipeModel" "isPig" "Z"] ++ wsX60)
def wsX6_goesAway_r1 : List Cond := [Cond.fieldLink RX6 147 "BatchPipeModel" "isPig" "Z", Cond.fieldLink RX6 150 "BatchPipeModel" "pigBatch" "I", Cond.fieldLink RX6 153 "BatchPipeModel" "pigPlace" "I", Cond.fieldLink RX6 102 "BatchPipeModel" "segments" "I", Cond.fieldLink RX6 50 "BatchPipeModel" "left" "[I", Cond.fieldLink RX6 144 "BatchPipeModel" "receiving" "I", Cond.fieldLink RX6 191 "BatchPipeModel" "isLeaking" "Z", Cond.fieldLink RX6 56 "BatchPipeModel" "leaked" "[I", Cond.fieldLink RX6 53 "BatchPipeModel" "dropped" "[I", Cond.fieldLink RX6 138 "BatchPipeModel" "dropTank" "I", Cond.fieldLink RX6 68 "BatchPipeModel" "kept" "[I", Cond.fieldLink RX6 120 "BatchPipeModel" "all" "I", Cond.fieldLink RX6 65 "BatchPipeModel" "enteredAhead" "[I", Cond.methodLink RX6 183 yX6_clean, Cond.instanceMethod yX6_clean, Cond.selects RX6 yX6_clean yX6_clean, Cond.initialized RX6, Cond.code yX6_clean cX6_clean 3 none, Cond.fieldLink RX6 19 "BatchPipeModel" "dirty" "[I", Cond.methodLink RX6 187 yX6_comesInto, Cond.instanceMethod yX6_comesInto, Cond.selects RX6 yX6_comesInto yX6_comesInto, Cond.code yX6_comesInto cX6_comesInto 7 none, Cond.fieldLink RX6 83 "BatchPipeModel" "has" "[I"]
def wsX6_goesAway_r2 : List Cond := [Cond.fieldLink RX6 170 "BatchPipeModel" "spilled" "I", Cond.fieldLink RX6 28 "BatchPipeModel" "grade" "[I", Cond.fieldLink RX6 41 "BatchPipeModel" "product" "[I", Cond.fieldLink RX6 59 "BatchPipeModel" "ahead" "[I", Cond.fieldLink RX6 62 "BatchPipeModel" "behind" "[I", Cond.fieldLink RX6 86 "BatchPipeModel" "worst" "[I", Cond.fieldLink RX6 89 "BatchPipeModel" "mixed" "[I", Cond.methodLink RX6 173 yX6_isMixedAhead, Cond.instanceMethod yX6_isMixedAhead, Cond.selects RX6 yX6_isMixedAhead yX6_isMixedAhead, Cond.code yX6_isMixedAhead cX6_isMixedAhead 3 (some .boolean), Cond.methodLink RX6 167 yX6_mixOf, Cond.instanceMethod yX6_mixOf, Cond.selects RX6 yX6_mixOf yX6_mixOf, Cond.code yX6_mixOf cX6_mixOf 2 (some .int), Cond.fieldLink RX6 47 "BatchPipeModel" "entered" "[I", Cond.methodLink RX6 164 yX6_root, Cond.static yX6_root, Cond.code yX6_root cX6_root 2 (some .int), Cond.methodLink RX6 177 yX6_isMixedBehind, Cond.instanceMethod yX6_isMixedBehind, Cond.selects RX6 yX6_isMixedBehind yX6_isMixedBehind, Cond.code yX6_isMixedBehind cX6_isMixedBehind 4 (some .boolean)]
def wsX6_goesAway : List Cond := .code yX6_goesAway cX6_goesAway 4 none :: ((wsX6_goesAway_r1 ++ wsX6_goesAway_r2) ++ wsX60)
def wsX6_moves_r1 : List Cond := [Cond.fieldLink RX6 71 "BatchPipeModel" "unitBatch" "[I", Cond.fieldLink RX6 74 "BatchPipeModel" "unitPlace" "[I", Cond.fieldLink RX6 47 "BatchPipeModel" "entered" "[I", Cond.fieldLink RX6 117 "BatchPipeModel" "length" "I", Cond.fieldLink RX6 59 "BatchPipeModel" "ahead" "[I", Cond.fieldLink RX6 62 "BatchPipeModel" "behind" "[I", Cond.fieldLink RX6 65 "BatchPipeModel" "enteredAhead" "[I", Cond.fieldLink RX6 120 "BatchPipeModel" "all" "I", Cond.methodLink RX6 194 yX6_goesAway, Cond.instanceMethod yX6_goesAway, Cond.selects RX6 yX6_goesAway yX6_goesAway, Cond.initialized RX6, Cond.code yX6_goesAway cX6_goesAway 4 none, Cond.fieldLink RX6 147 "BatchPipeModel" "isPig" "Z", Cond.fieldLink RX6 150 "BatchPipeModel" "pigBatch" "I", Cond.fieldLink RX6 153 "BatchPipeModel" "pigPlace" "I", Cond.fieldLink RX6 102 "BatchPipeModel" "segments" "I", Cond.fieldLink RX6 50 "BatchPipeModel" "left" "[I", Cond.fieldLink RX6 144 "BatchPipeModel" "receiving" "I", Cond.fieldLink RX6 191 "BatchPipeModel" "isLeaking" "Z", Cond.fieldLink RX6 56 "BatchPipeModel" "leaked" "[I", Cond.fieldLink RX6 53 "BatchPipeModel" "dropped" "[I", Cond.fieldLink RX6 138 "BatchPipeModel" "dropTank" "I", Cond.fieldLink RX6 68 "BatchPipeModel" "kept" "[I"]
def wsX6_moves_r2 : List Cond := [Cond.methodLink RX6 183 yX6_clean, Cond.instanceMethod yX6_clean, Cond.selects RX6 yX6_clean yX6_clean, Cond.code yX6_clean cX6_clean 3 none, Cond.fieldLink RX6 19 "BatchPipeModel" "dirty" "[I", Cond.methodLink RX6 187 yX6_comesInto, Cond.instanceMethod yX6_comesInto, Cond.selects RX6 yX6_comesInto yX6_comesInto, Cond.code yX6_comesInto cX6_comesInto 7 none, Cond.fieldLink RX6 83 "BatchPipeModel" "has" "[I", Cond.fieldLink RX6 170 "BatchPipeModel" "spilled" "I", Cond.fieldLink RX6 28 "BatchPipeModel" "grade" "[I", Cond.fieldLink RX6 41 "BatchPipeModel" "product" "[I", Cond.fieldLink RX6 86 "BatchPipeModel" "worst" "[I", Cond.fieldLink RX6 89 "BatchPipeModel" "mixed" "[I", Cond.methodLink RX6 173 yX6_isMixedAhead, Cond.instanceMethod yX6_isMixedAhead, Cond.selects RX6 yX6_isMixedAhead yX6_isMixedAhead, Cond.code yX6_isMixedAhead cX6_isMixedAhead 3 (some .boolean), Cond.methodLink RX6 167 yX6_mixOf, Cond.instanceMethod yX6_mixOf, Cond.selects RX6 yX6_mixOf yX6_mixOf, Cond.code yX6_mixOf cX6_mixOf 2 (some .int), Cond.methodLink RX6 164 yX6_root]
def wsX6_moves_r3 : List Cond := [Cond.static yX6_root, Cond.code yX6_root cX6_root 2 (some .int), Cond.methodLink RX6 177 yX6_isMixedBehind, Cond.instanceMethod yX6_isMixedBehind, Cond.selects RX6 yX6_isMixedBehind yX6_isMixedBehind, Cond.code yX6_isMixedBehind cX6_isMixedBehind 4 (some .boolean)]
def wsX6_moves : List Cond := .code yX6_moves cX6_moves 5 none :: ((wsX6_moves_r1 ++ (wsX6_moves_r2 ++ wsX6_moves_r3)) ++ wsX60)
def wsX6_passesMinute_r1 : List Cond := [Cond.fieldLink RX6 197 "BatchPipeModel" "minute" "I", Cond.fieldLink RX6 204 "BatchPipeModel" "rateNow" "I", Cond.fieldLink RX6 80 "BatchPipeModel" "leakSegment" "I", Cond.fieldLink RX6 141 "BatchPipeModel" "leakUnits" "I", Cond.fieldLink RX6 191 "BatchPipeModel" "isLeaking" "Z", Cond.fieldLink RX6 77 "BatchPipeModel" "dropSegment" "I", Cond.fieldLink RX6 135 "BatchPipeModel" "dropUnits" "I", Cond.fieldLink RX6 102 "BatchPipeModel" "segments" "I", Cond.fieldLink RX6 19 "BatchPipeModel" "dirty" "[I", Cond.fieldLink RX6 92 "BatchPipeModel" "balances" "[I", Cond.methodLink RX6 200 yX6_rateThatGoes, Cond.instanceMethod yX6_rateThatGoes, Cond.selects RX6 yX6_rateThatGoes yX6_rateThatGoes, Cond.initialized RX6, Cond.code yX6_rateThatGoes cX6_rateThatGoes 4 (some .int), Cond.fieldLink RX6 126 "BatchPipeModel" "rate" "I", Cond.fieldLink RX6 16 "BatchPipeModel" "limit" "[I", Cond.methodLink RX6 160 yX6_pressureOf, Cond.instanceMethod yX6_pressureOf, Cond.selects RX6 yX6_pressureOf yX6_pressureOf, Cond.code yX6_pressureOf cX6_pressureOf 8 (some .int), Cond.fieldLink RX6 7 "BatchPipeModel" "holds" "[I", Cond.fieldLink RX6 25 "BatchPipeModel" "thickness" "[I", Cond.fieldLink RX6 41 "BatchPipeModel" "product" "[I"]
def wsX6_passesMinute_r2 : List Cond := [Cond.fieldLink RX6 71 "BatchPipeModel" "unitBatch" "[I", Cond.fieldLink RX6 22 "BatchPipeModel" "weight" "[I", Cond.fieldLink RX6 13 "BatchPipeModel" "height" "[I", Cond.methodLink RX6 156 yX6_lastOf, Cond.instanceMethod yX6_lastOf, Cond.selects RX6 yX6_lastOf yX6_lastOf, Cond.code yX6_lastOf cX6_lastOf 4 (some .int), Cond.methodLink RX6 207 yX6_entering, Cond.instanceMethod yX6_entering, Cond.selects RX6 yX6_entering yX6_entering, Cond.code yX6_entering cX6_entering 3 (some .int), Cond.fieldLink RX6 34 "BatchPipeModel" "batches" "I", Cond.fieldLink RX6 47 "BatchPipeModel" "entered" "[I", Cond.fieldLink RX6 44 "BatchPipeModel" "ordered" "[I", Cond.fieldLink RX6 117 "BatchPipeModel" "length" "I", Cond.fieldLink RX6 31 "BatchPipeModel" "barred" "[I", Cond.methodLink RX6 180 yX6_isIn, Cond.static yX6_isIn, Cond.code yX6_isIn cX6_isIn 2 (some .boolean), Cond.methodLink RX6 210 yX6_moves, Cond.instanceMethod yX6_moves, Cond.selects RX6 yX6_moves yX6_moves, Cond.code yX6_moves cX6_moves 5 none, Cond.fieldLink RX6 74 "BatchPipeModel" "unitPlace" "[I"]
def wsX6_passesMinute_r3 : List Cond := [Cond.fieldLink RX6 59 "BatchPipeModel" "ahead" "[I", Cond.fieldLink RX6 62 "BatchPipeModel" "behind" "[I", Cond.fieldLink RX6 65 "BatchPipeModel" "enteredAhead" "[I", Cond.fieldLink RX6 120 "BatchPipeModel" "all" "I", Cond.methodLink RX6 194 yX6_goesAway, Cond.instanceMethod yX6_goesAway, Cond.selects RX6 yX6_goesAway yX6_goesAway, Cond.code yX6_goesAway cX6_goesAway 4 none, Cond.fieldLink RX6 147 "BatchPipeModel" "isPig" "Z", Cond.fieldLink RX6 150 "BatchPipeModel" "pigBatch" "I", Cond.fieldLink RX6 153 "BatchPipeModel" "pigPlace" "I", Cond.fieldLink RX6 50 "BatchPipeModel" "left" "[I", Cond.fieldLink RX6 144 "BatchPipeModel" "receiving" "I", Cond.fieldLink RX6 56 "BatchPipeModel" "leaked" "[I", Cond.fieldLink RX6 53 "BatchPipeModel" "dropped" "[I", Cond.fieldLink RX6 138 "BatchPipeModel" "dropTank" "I", Cond.fieldLink RX6 68 "BatchPipeModel" "kept" "[I", Cond.methodLink RX6 183 yX6_clean, Cond.instanceMethod yX6_clean, Cond.selects RX6 yX6_clean yX6_clean, Cond.code yX6_clean cX6_clean 3 none, Cond.methodLink RX6 187 yX6_comesInto, Cond.instanceMethod yX6_comesInto, Cond.selects RX6 yX6_comesInto yX6_comesInto]
def wsX6_passesMinute_r4 : List Cond := [Cond.code yX6_comesInto cX6_comesInto 7 none, Cond.fieldLink RX6 83 "BatchPipeModel" "has" "[I", Cond.fieldLink RX6 170 "BatchPipeModel" "spilled" "I", Cond.fieldLink RX6 28 "BatchPipeModel" "grade" "[I", Cond.fieldLink RX6 86 "BatchPipeModel" "worst" "[I", Cond.fieldLink RX6 89 "BatchPipeModel" "mixed" "[I", Cond.methodLink RX6 173 yX6_isMixedAhead, Cond.instanceMethod yX6_isMixedAhead, Cond.selects RX6 yX6_isMixedAhead yX6_isMixedAhead, Cond.code yX6_isMixedAhead cX6_isMixedAhead 3 (some .boolean), Cond.methodLink RX6 167 yX6_mixOf, Cond.instanceMethod yX6_mixOf, Cond.selects RX6 yX6_mixOf yX6_mixOf, Cond.code yX6_mixOf cX6_mixOf 2 (some .int), Cond.methodLink RX6 164 yX6_root, Cond.static yX6_root, Cond.code yX6_root cX6_root 2 (some .int), Cond.methodLink RX6 177 yX6_isMixedBehind, Cond.instanceMethod yX6_isMixedBehind, Cond.selects RX6 yX6_isMixedBehind yX6_isMixedBehind, Cond.code yX6_isMixedBehind cX6_isMixedBehind 4 (some .boolean)]
def wsX6_passesMinute : List Cond := .code yX6_passesMinute cX6_passesMinute 9 (some .int) :: ((wsX6_passesMinute_r1 ++ (wsX6_passesMinute_r2 ++ (wsX6_passesMinute_r3 ++ wsX6_passesMinute_r4))) ++ wsX60)
def wsX6_pass_r1 : List Cond := [Cond.fieldLink RX6 105 "BatchPipeModel" "isOpen" "Z", Cond.fieldLink RX6 197 "BatchPipeModel" "minute" "I", Cond.methodLink RX6 98 yX6_isBetween, Cond.static yX6_isBetween, Cond.initialized RX6, Cond.code yX6_isBetween cX6_isBetween 3 (some .boolean), Cond.methodLink RX6 109 yX6_goes, Cond.instanceMethod yX6_goes, Cond.selects RX6 yX6_goes yX6_goes, Cond.code yX6_goes cX6_goes 4 (some .boolean), Cond.fieldLink RX6 95 "BatchPipeModel" "thrown" "I", Cond.methodLink RX6 213 yX6_passesMinute, Cond.instanceMethod yX6_passesMinute, Cond.selects RX6 yX6_passesMinute yX6_passesMinute, Cond.code yX6_passesMinute cX6_passesMinute 9 (some .int), Cond.fieldLink RX6 204 "BatchPipeModel" "rateNow" "I", Cond.fieldLink RX6 80 "BatchPipeModel" "leakSegment" "I", Cond.fieldLink RX6 141 "BatchPipeModel" "leakUnits" "I", Cond.fieldLink RX6 191 "BatchPipeModel" "isLeaking" "Z", Cond.fieldLink RX6 77 "BatchPipeModel" "dropSegment" "I", Cond.fieldLink RX6 135 "BatchPipeModel" "dropUnits" "I", Cond.fieldLink RX6 102 "BatchPipeModel" "segments" "I", Cond.fieldLink RX6 19 "BatchPipeModel" "dirty" "[I", Cond.fieldLink RX6 92 "BatchPipeModel" "balances" "[I"]
def wsX6_pass_r2 : List Cond := [Cond.methodLink RX6 200 yX6_rateThatGoes, Cond.instanceMethod yX6_rateThatGoes, Cond.selects RX6 yX6_rateThatGoes yX6_rateThatGoes, Cond.code yX6_rateThatGoes cX6_rateThatGoes 4 (some .int), Cond.fieldLink RX6 126 "BatchPipeModel" "rate" "I", Cond.fieldLink RX6 16 "BatchPipeModel" "limit" "[I", Cond.methodLink RX6 160 yX6_pressureOf, Cond.instanceMethod yX6_pressureOf, Cond.selects RX6 yX6_pressureOf yX6_pressureOf, Cond.code yX6_pressureOf cX6_pressureOf 8 (some .int), Cond.fieldLink RX6 7 "BatchPipeModel" "holds" "[I", Cond.fieldLink RX6 25 "BatchPipeModel" "thickness" "[I", Cond.fieldLink RX6 41 "BatchPipeModel" "product" "[I", Cond.fieldLink RX6 71 "BatchPipeModel" "unitBatch" "[I", Cond.fieldLink RX6 22 "BatchPipeModel" "weight" "[I", Cond.fieldLink RX6 13 "BatchPipeModel" "height" "[I", Cond.methodLink RX6 156 yX6_lastOf, Cond.instanceMethod yX6_lastOf, Cond.selects RX6 yX6_lastOf yX6_lastOf, Cond.code yX6_lastOf cX6_lastOf 4 (some .int), Cond.methodLink RX6 207 yX6_entering, Cond.instanceMethod yX6_entering, Cond.selects RX6 yX6_entering yX6_entering, Cond.code yX6_entering cX6_entering 3 (some .int)]
def wsX6_pass_r3 : List Cond := [Cond.fieldLink RX6 34 "BatchPipeModel" "batches" "I", Cond.fieldLink RX6 47 "BatchPipeModel" "entered" "[I", Cond.fieldLink RX6 44 "BatchPipeModel" "ordered" "[I", Cond.fieldLink RX6 117 "BatchPipeModel" "length" "I", Cond.fieldLink RX6 31 "BatchPipeModel" "barred" "[I", Cond.methodLink RX6 180 yX6_isIn, Cond.static yX6_isIn, Cond.code yX6_isIn cX6_isIn 2 (some .boolean), Cond.methodLink RX6 210 yX6_moves, Cond.instanceMethod yX6_moves, Cond.selects RX6 yX6_moves yX6_moves, Cond.code yX6_moves cX6_moves 5 none, Cond.fieldLink RX6 74 "BatchPipeModel" "unitPlace" "[I", Cond.fieldLink RX6 59 "BatchPipeModel" "ahead" "[I", Cond.fieldLink RX6 62 "BatchPipeModel" "behind" "[I", Cond.fieldLink RX6 65 "BatchPipeModel" "enteredAhead" "[I", Cond.fieldLink RX6 120 "BatchPipeModel" "all" "I", Cond.methodLink RX6 194 yX6_goesAway, Cond.instanceMethod yX6_goesAway, Cond.selects RX6 yX6_goesAway yX6_goesAway, Cond.code yX6_goesAway cX6_goesAway 4 none, Cond.fieldLink RX6 147 "BatchPipeModel" "isPig" "Z", Cond.fieldLink RX6 150 "BatchPipeModel" "pigBatch" "I", Cond.fieldLink RX6 153 "BatchPipeModel" "pigPlace" "I"]
def wsX6_pass_r4 : List Cond := [Cond.fieldLink RX6 50 "BatchPipeModel" "left" "[I", Cond.fieldLink RX6 144 "BatchPipeModel" "receiving" "I", Cond.fieldLink RX6 56 "BatchPipeModel" "leaked" "[I", Cond.fieldLink RX6 53 "BatchPipeModel" "dropped" "[I", Cond.fieldLink RX6 138 "BatchPipeModel" "dropTank" "I", Cond.fieldLink RX6 68 "BatchPipeModel" "kept" "[I", Cond.methodLink RX6 183 yX6_clean, Cond.instanceMethod yX6_clean, Cond.selects RX6 yX6_clean yX6_clean, Cond.code yX6_clean cX6_clean 3 none, Cond.methodLink RX6 187 yX6_comesInto, Cond.instanceMethod yX6_comesInto, Cond.selects RX6 yX6_comesInto yX6_comesInto, Cond.code yX6_comesInto cX6_comesInto 7 none, Cond.fieldLink RX6 83 "BatchPipeModel" "has" "[I", Cond.fieldLink RX6 170 "BatchPipeModel" "spilled" "I", Cond.fieldLink RX6 28 "BatchPipeModel" "grade" "[I", Cond.fieldLink RX6 86 "BatchPipeModel" "worst" "[I", Cond.fieldLink RX6 89 "BatchPipeModel" "mixed" "[I", Cond.methodLink RX6 173 yX6_isMixedAhead, Cond.instanceMethod yX6_isMixedAhead, Cond.selects RX6 yX6_isMixedAhead yX6_isMixedAhead, Cond.code yX6_isMixedAhead cX6_isMixedAhead 3 (some .boolean), Cond.methodLink RX6 167 yX6_mixOf]
def wsX6_pass_r5 : List Cond := [Cond.instanceMethod yX6_mixOf, Cond.selects RX6 yX6_mixOf yX6_mixOf, Cond.code yX6_mixOf cX6_mixOf 2 (some .int), Cond.methodLink RX6 164 yX6_root, Cond.static yX6_root, Cond.code yX6_root cX6_root 2 (some .int), Cond.methodLink RX6 177 yX6_isMixedBehind, Cond.instanceMethod yX6_isMixedBehind, Cond.selects RX6 yX6_isMixedBehind yX6_isMixedBehind, Cond.code yX6_isMixedBehind cX6_isMixedBehind 4 (some .boolean)]
def wsX6_pass : List Cond := .code yX6_pass cX6_pass 4 (some .int) :: ((wsX6_pass_r1 ++ (wsX6_pass_r2 ++ (wsX6_pass_r3 ++ (wsX6_pass_r4 ++ wsX6_pass_r5)))) ++ wsX60)
def wsX6_isBatch : List Cond := .code yX6_isBatch cX6_isBatch 2 (some .boolean) :: ([.fieldLink RX6 105 "BatchPipeModel" "isOpen" "Z", .fieldLink RX6 34 "BatchPipeModel" "batches" "I", .methodLink RX6 98 yX6_isBetween, .static yX6_isBetween, .initialized RX6, .code yX6_isBetween cX6_isBetween 3 (some .boolean)] ++ wsX60)
def wsX6_batch_r1 : List Cond := [Cond.fieldLink RX6 47 "BatchPipeModel" "entered" "[I", Cond.fieldLink RX6 50 "BatchPipeModel" "left" "[I", Cond.fieldLink RX6 53 "BatchPipeModel" "dropped" "[I", Cond.fieldLink RX6 56 "BatchPipeModel" "leaked" "[I", Cond.fieldLink RX6 44 "BatchPipeModel" "ordered" "[I", Cond.fieldLink RX6 41 "BatchPipeModel" "product" "[I", Cond.methodLink RX6 216 yX6_isBatch, Cond.instanceMethod yX6_isBatch, Cond.selects RX6 yX6_isBatch yX6_isBatch, Cond.initialized RX6, Cond.code yX6_isBatch cX6_isBatch 2 (some .boolean), Cond.fieldLink RX6 105 "BatchPipeModel" "isOpen" "Z", Cond.fieldLink RX6 34 "BatchPipeModel" "batches" "I", Cond.methodLink RX6 98 yX6_isBetween, Cond.static yX6_isBetween, Cond.code yX6_isBetween cX6_isBetween 3 (some .boolean), Cond.methodLink RX6 109 yX6_goes, Cond.instanceMethod yX6_goes, Cond.selects RX6 yX6_goes yX6_goes, Cond.code yX6_goes cX6_goes 4 (some .boolean), Cond.fieldLink RX6 95 "BatchPipeModel" "thrown" "I", Cond.methodLink RX6 167 yX6_mixOf, Cond.instanceMethod yX6_mixOf, Cond.selects RX6 yX6_mixOf yX6_mixOf]
def wsX6_batch_r2 : List Cond := [Cond.code yX6_mixOf cX6_mixOf 2 (some .int), Cond.fieldLink RX6 59 "BatchPipeModel" "ahead" "[I", Cond.fieldLink RX6 68 "BatchPipeModel" "kept" "[I", Cond.fieldLink RX6 120 "BatchPipeModel" "all" "I", Cond.fieldLink RX6 65 "BatchPipeModel" "enteredAhead" "[I", Cond.methodLink RX6 164 yX6_root, Cond.static yX6_root, Cond.code yX6_root cX6_root 2 (some .int)]
def wsX6_batch : List Cond := .code yX6_batch cX6_batch 3 (some .int) :: ((wsX6_batch_r1 ++ wsX6_batch_r2) ++ wsX60)
def wsX6_unit : List Cond := .code yX6_unit cX6_unit 2 (some .int) :: ([.fieldLink RX6 105 "BatchPipeModel" "isOpen" "Z", .fieldLink RX6 117 "BatchPipeModel" "length" "I", .fieldLink RX6 71 "BatchPipeModel" "unitBatch" "[I", .methodLink RX6 109 yX6_goes, .instanceMethod yX6_goes, .selects RX6 yX6_goes yX6_goes, .initialized RX6, .code yX6_goes cX6_goes 4 (some .boolean), .fieldLink RX6 95 "BatchPipeModel" "thrown" "I"] ++ wsX60)
def wsX6_unitAnew : List Cond := .code yX6_unitAnew cX6_unitAnew 2 (some .int) :: ([.methodLink RX6 219 yX6_unit, .instanceMethod yX6_unit, .selects RX6 yX6_unit yX6_unit, .initialized RX6, .code yX6_unit cX6_unit 2 (some .int), .fieldLink RX6 105 "BatchPipeModel" "isOpen" "Z", .fieldLink RX6 117 "BatchPipeModel" "length" "I", .fieldLink RX6 71 "BatchPipeModel" "unitBatch" "[I", .methodLink RX6 109 yX6_goes, .instanceMethod yX6_goes, .selects RX6 yX6_goes yX6_goes, .code yX6_goes cX6_goes 4 (some .boolean), .fieldLink RX6 95 "BatchPipeModel" "thrown" "I"] ++ wsX60)
def wsX6_pressure_r1 : List Cond := [Cond.fieldLink RX6 105 "BatchPipeModel" "isOpen" "Z", Cond.methodLink RX6 222 yX6_isSegment, Cond.instanceMethod yX6_isSegment, Cond.selects RX6 yX6_isSegment yX6_isSegment, Cond.initialized RX6, Cond.code yX6_isSegment cX6_isSegment 2 (some .boolean), Cond.fieldLink RX6 102 "BatchPipeModel" "segments" "I", Cond.methodLink RX6 98 yX6_isBetween, Cond.static yX6_isBetween, Cond.code yX6_isBetween cX6_isBetween 3 (some .boolean), Cond.methodLink RX6 109 yX6_goes, Cond.instanceMethod yX6_goes, Cond.selects RX6 yX6_goes yX6_goes, Cond.code yX6_goes cX6_goes 4 (some .boolean), Cond.fieldLink RX6 95 "BatchPipeModel" "thrown" "I", Cond.methodLink RX6 160 yX6_pressureOf, Cond.instanceMethod yX6_pressureOf, Cond.selects RX6 yX6_pressureOf yX6_pressureOf, Cond.code yX6_pressureOf cX6_pressureOf 8 (some .int), Cond.fieldLink RX6 7 "BatchPipeModel" "holds" "[I", Cond.fieldLink RX6 25 "BatchPipeModel" "thickness" "[I", Cond.fieldLink RX6 41 "BatchPipeModel" "product" "[I", Cond.fieldLink RX6 71 "BatchPipeModel" "unitBatch" "[I", Cond.fieldLink RX6 19 "BatchPipeModel" "dirty" "[I"]
def wsX6_pressure_r2 : List Cond := [Cond.fieldLink RX6 22 "BatchPipeModel" "weight" "[I", Cond.fieldLink RX6 13 "BatchPipeModel" "height" "[I", Cond.methodLink RX6 156 yX6_lastOf, Cond.instanceMethod yX6_lastOf, Cond.selects RX6 yX6_lastOf yX6_lastOf, Cond.code yX6_lastOf cX6_lastOf 4 (some .int)]
def wsX6_pressure : List Cond := .code yX6_pressure cX6_pressure 3 (some .int) :: ((wsX6_pressure_r1 ++ wsX6_pressure_r2) ++ wsX60)
def wsX6_tank : List Cond := .code yX6_tank cX6_tank 3 (some .int) :: ([.fieldLink RX6 83 "BatchPipeModel" "has" "[I", .fieldLink RX6 89 "BatchPipeModel" "mixed" "[I", .fieldLink RX6 86 "BatchPipeModel" "worst" "[I", .methodLink RX6 132 yX6_isTank, .static yX6_isTank, .initialized RX6, .code yX6_isTank cX6_isTank 1 (some .boolean), .methodLink RX6 98 yX6_isBetween, .static yX6_isBetween, .code yX6_isBetween cX6_isBetween 3 (some .boolean), .methodLink RX6 109 yX6_goes, .instanceMethod yX6_goes, .selects RX6 yX6_goes yX6_goes, .code yX6_goes cX6_goes 4 (some .boolean), .fieldLink RX6 95 "BatchPipeModel" "thrown" "I"] ++ wsX60)
def wsX6_balance : List Cond := .code yX6_balance cX6_balance 3 (some .int) :: ([.fieldLink RX6 92 "BatchPipeModel" "balances" "[I"] ++ wsX60)
def wsX6_pipe : List Cond := .code yX6_pipe cX6_pipe 2 (some .int) :: ([.fieldLink RX6 204 "BatchPipeModel" "rateNow" "I", .fieldLink RX6 170 "BatchPipeModel" "spilled" "I", .fieldLink RX6 147 "BatchPipeModel" "isPig" "Z", .fieldLink RX6 197 "BatchPipeModel" "minute" "I", .methodLink RX6 98 yX6_isBetween, .static yX6_isBetween, .initialized RX6, .code yX6_isBetween cX6_isBetween 3 (some .boolean), .methodLink RX6 109 yX6_goes, .instanceMethod yX6_goes, .selects RX6 yX6_goes yX6_goes, .code yX6_goes cX6_goes 4 (some .boolean), .fieldLink RX6 95 "BatchPipeModel" "thrown" "I", .methodLink RX6 225 yX6_balance, .instanceMethod yX6_balance, .selects RX6 yX6_balance yX6_balance, .code yX6_balance cX6_balance 3 (some .int), .fieldLink RX6 92 "BatchPipeModel" "balances" "[I"] ++ wsX60)
def wsX6_dirt : List Cond := .code yX6_dirt cX6_dirt 2 (some .int) :: ([.fieldLink RX6 19 "BatchPipeModel" "dirty" "[I", .methodLink RX6 222 yX6_isSegment, .instanceMethod yX6_isSegment, .selects RX6 yX6_isSegment yX6_isSegment, .initialized RX6, .code yX6_isSegment cX6_isSegment 2 (some .boolean), .fieldLink RX6 102 "BatchPipeModel" "segments" "I", .methodLink RX6 98 yX6_isBetween, .static yX6_isBetween, .code yX6_isBetween cX6_isBetween 3 (some .boolean), .methodLink RX6 109 yX6_goes, .instanceMethod yX6_goes, .selects RX6 yX6_goes yX6_goes, .code yX6_goes cX6_goes 4 (some .boolean), .fieldLink RX6 95 "BatchPipeModel" "thrown" "I"] ++ wsX60)
def wsX6_waits : List Cond := .code yX6_waits cX6_waits 4 (some .int) :: ([.fieldLink RX6 34 "BatchPipeModel" "batches" "I", .fieldLink RX6 38 "BatchPipeModel" "shipper" "[I", .fieldLink RX6 44 "BatchPipeModel" "ordered" "[I", .fieldLink RX6 47 "BatchPipeModel" "entered" "[I"] ++ wsX60)
def wsX6_enteredOf : List Cond := .code yX6_enteredOf cX6_enteredOf 4 (some .int) :: ([.fieldLink RX6 34 "BatchPipeModel" "batches" "I", .fieldLink RX6 38 "BatchPipeModel" "shipper" "[I", .fieldLink RX6 47 "BatchPipeModel" "entered" "[I"] ++ wsX60)
def wsX6_share : List Cond := .code yX6_share cX6_share 6 (some .int) :: ([.methodLink RX6 123 yX6_isShipper, .static yX6_isShipper, .initialized RX6, .code yX6_isShipper cX6_isShipper 1 (some .boolean), .methodLink RX6 98 yX6_isBetween, .static yX6_isBetween, .code yX6_isBetween cX6_isBetween 3 (some .boolean), .methodLink RX6 109 yX6_goes, .instanceMethod yX6_goes, .selects RX6 yX6_goes yX6_goes, .code yX6_goes cX6_goes 4 (some .boolean), .fieldLink RX6 95 "BatchPipeModel" "thrown" "I", .methodLink RX6 228 yX6_waits, .instanceMethod yX6_waits, .selects RX6 yX6_waits yX6_waits, .code yX6_waits cX6_waits 4 (some .int), .fieldLink RX6 34 "BatchPipeModel" "batches" "I", .fieldLink RX6 38 "BatchPipeModel" "shipper" "[I", .fieldLink RX6 44 "BatchPipeModel" "ordered" "[I", .fieldLink RX6 47 "BatchPipeModel" "entered" "[I", .methodLink RX6 231 yX6_enteredOf, .instanceMethod yX6_enteredOf, .selects RX6 yX6_enteredOf yX6_enteredOf, .code yX6_enteredOf cX6_enteredOf 4 (some .int)] ++ wsX60)
def wsJ9_max_7cf53 : List Cond := .code yJ9_max_7cf53 cJ9_max_7cf53 2 (some .int) :: ([])
def wsJ9_min_7cf53 : List Cond := .code yJ9_min_7cf53 cJ9_min_7cf53 2 (some .int) :: ([])
def wsL_segment_r1 : List Cond := [Cond.classLink RL 13 "java/lang/IllegalArgumentException", Cond.classLink RL 15 "java/lang/IllegalStateException", Cond.methodLink RL 7 yX5_segment, Cond.instanceMethod yX5_segment, Cond.selects RX5 yX5_segment yX5_segment, Cond.initialized RX5, Cond.code yX5_segment cX5_segment 4 (some .int), Cond.classLink RX5 80 "java/lang/IllegalStateException", Cond.initialized "java/lang/IllegalStateException", Cond.fieldLink RX5 73 "BatchPipe" "isOpen" "Z", Cond.fieldLink RX5 77 "BatchPipe" "segmentCount" "I", Cond.fieldLink RX5 11 "BatchPipe" "segments" "[LBatchPipe$Segment;", Cond.methodLink RX5 69 yX5_checkRange, Cond.instanceMethod yX5_checkRange, Cond.selects RX5 yX5_checkRange yX5_checkRange, Cond.code yX5_checkRange cX5_checkRange 4 none, Cond.classLink RX5 94 "java/lang/IllegalArgumentException", Cond.initialized "java/lang/IllegalArgumentException", Cond.instanceMethod yX2_tell, Cond.initialized RX2, Cond.selects RX2 yX2_tell yX2_tell, Cond.code yX2_tell cX2_tell 4 none, Cond.fieldLink RX2 18 "BatchPipe$Segment" "holds" "I", Cond.fieldLink RX2 22 "BatchPipe$Segment" "height" "I"]
def wsL_segment_r2 : List Cond := [Cond.fieldLink RX2 25 "BatchPipe$Segment" "limit" "I"]
def wsL_segment : List Cond := .codeWith yL_segment cL_segment 6 (some .int) [(0, 12, 15, 13), (0, 12, 19, 15)] :: ((wsL_segment_r1 ++ wsL_segment_r2) ++ wsX50 ++ wsX20 ++ (vx_atS RX5 84 "java/lang/IllegalStateException" ["java/lang/RuntimeException", "java/lang/Exception"]).filter goodWord ++ (vx_atS RX5 98 "java/lang/IllegalArgumentException" ["java/lang/RuntimeException", "java/lang/Exception"]).filter goodWord)
def wsL_product_r1 : List Cond := [Cond.classLink RL 21 "java/lang/IndexOutOfBoundsException", Cond.classLink RL 13 "java/lang/IllegalArgumentException", Cond.methodLink RL 17 yX5_product, Cond.instanceMethod yX5_product, Cond.selects RX5 yX5_product yX5_product, Cond.initialized RX5, Cond.code yX5_product cX5_product 6 none, Cond.classLink RX5 94 "java/lang/IllegalArgumentException", Cond.initialized "java/lang/IllegalArgumentException", Cond.fieldLink RX5 17 "BatchPipe" "products" "[LBatchPipe$Product;", Cond.methodLink RX5 90 yX5_checkIndex, Cond.instanceMethod yX5_checkIndex, Cond.selects RX5 yX5_checkIndex yX5_checkIndex, Cond.code yX5_checkIndex cX5_checkIndex 3 none, Cond.classLink RX5 144 "java/lang/IndexOutOfBoundsException", Cond.initialized "java/lang/IndexOutOfBoundsException", Cond.methodLink RX5 69 yX5_checkRange, Cond.instanceMethod yX5_checkRange, Cond.selects RX5 yX5_checkRange yX5_checkRange, Cond.code yX5_checkRange cX5_checkRange 4 none, Cond.instanceMethod yX1_tell, Cond.initialized RX1, Cond.selects RX1 yX1_tell yX1_tell, Cond.code yX1_tell cX1_tell 5 none]
def wsL_product_r2 : List Cond := [Cond.fieldLink RX1 7 "BatchPipe$Product" "weight" "I", Cond.fieldLink RX1 13 "BatchPipe$Product" "thickness" "I", Cond.fieldLink RX1 19 "BatchPipe$Product" "grade" "I", Cond.fieldLink RX1 22 "BatchPipe$Product" "barred" "I"]
def wsL_product : List Cond := .codeWith yL_product cL_product 7 (some .int) [(0, 11, 14, 21), (0, 11, 18, 13)] :: ((wsL_product_r1 ++ wsL_product_r2) ++ wsX50 ++ wsX10 ++ (vx_atS RX5 98 "java/lang/IllegalArgumentException" ["java/lang/RuntimeException", "java/lang/Exception"]).filter goodWord ++ (vx_atS RX5 148 "java/lang/IndexOutOfBoundsException" ["java/lang/RuntimeException", "java/lang/Exception"]).filter goodWord)
def wsL_open_r1 : List Cond := [Cond.classLink RL 21 "java/lang/IndexOutOfBoundsException", Cond.classLink RL 15 "java/lang/IllegalStateException", Cond.methodLink RL 23 yX5_open, Cond.instanceMethod yX5_open, Cond.selects RX5 yX5_open yX5_open, Cond.initialized RX5, Cond.code yX5_open cX5_open 3 (some .int), Cond.classLink RX5 80 "java/lang/IllegalStateException", Cond.initialized "java/lang/IllegalStateException", Cond.fieldLink RX5 73 "BatchPipe" "isOpen" "Z", Cond.fieldLink RX5 77 "BatchPipe" "segmentCount" "I", Cond.fieldLink RX5 23 "BatchPipe" "batches" "[LBatchPipe$Batch;", Cond.fieldLink RX5 17 "BatchPipe" "products" "[LBatchPipe$Product;", Cond.fieldLink RX5 47 "BatchPipe" "outlet" "LBatchPipe$Tap;", Cond.methodLink RX5 90 yX5_checkIndex, Cond.instanceMethod yX5_checkIndex, Cond.selects RX5 yX5_checkIndex yX5_checkIndex, Cond.code yX5_checkIndex cX5_checkIndex 3 none, Cond.classLink RX5 144 "java/lang/IndexOutOfBoundsException", Cond.initialized "java/lang/IndexOutOfBoundsException", Cond.methodLink RX5 104 yX5_fillSegments, Cond.instanceMethod yX5_fillSegments, Cond.selects RX5 yX5_fillSegments yX5_fillSegments, Cond.code yX5_fillSegments cX5_fillSegments 4 (some .int)]
def wsL_open_r2 : List Cond := [Cond.fieldLink RX5 11 "BatchPipe" "segments" "[LBatchPipe$Segment;", Cond.instanceMethod yX2_fill, Cond.initialized RX2, Cond.selects RX2 yX2_fill yX2_fill, Cond.code yX2_fill cX2_fill 4 none, Cond.fieldLink RX2 18 "BatchPipe$Segment" "holds" "I", Cond.fieldLink RX2 9 "BatchPipe$Segment" "ring" "[I", Cond.fieldLink RX2 15 "BatchPipe$Segment" "unitsOf" "[I", Cond.instanceMethod yX0_tell, Cond.initialized RX0, Cond.selects RX0 yX0_tell yX0_tell, Cond.code yX0_tell cX0_tell 4 none, Cond.fieldLink RX0 9 "BatchPipe$Batch" "shipper" "I", Cond.fieldLink RX0 18 "BatchPipe$Batch" "oil" "LBatchPipe$Product;", Cond.fieldLink RX0 22 "BatchPipe$Batch" "ordered" "I", Cond.instanceMethod yX4_tell, Cond.initialized RX4, Cond.selects RX4 yX4_tell yX4_tell, Cond.code yX4_tell cX4_tell 4 none, Cond.fieldLink RX4 9 "BatchPipe$Tap" "segment" "I", Cond.fieldLink RX4 15 "BatchPipe$Tap" "units" "I", Cond.fieldLink RX4 18 "BatchPipe$Tap" "tank" "I"]
def wsL_open : List Cond := .codeWith yL_open cL_open 4 (some .int) [(0, 9, 12, 21), (0, 9, 15, 15)] :: ((wsL_open_r1 ++ wsL_open_r2) ++ wsX50 ++ wsX00 ++ wsX40 ++ wsX20 ++ (vx_atS RX5 84 "java/lang/IllegalStateException" ["java/lang/RuntimeException", "java/lang/Exception"]).filter goodWord ++ (vx_atS RX5 148 "java/lang/IndexOutOfBoundsException" ["java/lang/RuntimeException", "java/lang/Exception"]).filter goodWord)
def wsL_order_r1 : List Cond := [Cond.classLink RL 21 "java/lang/IndexOutOfBoundsException", Cond.classLink RL 13 "java/lang/IllegalArgumentException", Cond.classLink RL 15 "java/lang/IllegalStateException", Cond.methodLink RL 27 yX5_order, Cond.instanceMethod yX5_order, Cond.selects RX5 yX5_order yX5_order, Cond.initialized RX5, Cond.code yX5_order cX5_order 4 (some .int), Cond.classLink RX5 80 "java/lang/IllegalStateException", Cond.initialized "java/lang/IllegalStateException", Cond.fieldLink RX5 50 "BatchPipe" "batchCount" "I", Cond.fieldLink RX5 23 "BatchPipe" "batches" "[LBatchPipe$Batch;", Cond.fieldLink RX5 17 "BatchPipe" "products" "[LBatchPipe$Product;", Cond.methodLink RX5 90 yX5_checkIndex, Cond.instanceMethod yX5_checkIndex, Cond.selects RX5 yX5_checkIndex yX5_checkIndex, Cond.code yX5_checkIndex cX5_checkIndex 3 none, Cond.classLink RX5 144 "java/lang/IndexOutOfBoundsException", Cond.initialized "java/lang/IndexOutOfBoundsException", Cond.methodLink RX5 69 yX5_checkRange, Cond.instanceMethod yX5_checkRange, Cond.selects RX5 yX5_checkRange yX5_checkRange, Cond.code yX5_checkRange cX5_checkRange 4 none, Cond.classLink RX5 94 "java/lang/IllegalArgumentException"]
def wsL_order_r2 : List Cond := [Cond.initialized "java/lang/IllegalArgumentException", Cond.instanceMethod yX0_tell, Cond.initialized RX0, Cond.selects RX0 yX0_tell yX0_tell, Cond.code yX0_tell cX0_tell 4 none, Cond.fieldLink RX0 9 "BatchPipe$Batch" "shipper" "I", Cond.fieldLink RX0 18 "BatchPipe$Batch" "oil" "LBatchPipe$Product;", Cond.fieldLink RX0 22 "BatchPipe$Batch" "ordered" "I"]
def wsL_order : List Cond := .codeWith yL_order cL_order 6 (some .int) [(0, 12, 15, 21), (0, 12, 19, 13), (0, 12, 23, 15)] :: ((wsL_order_r1 ++ wsL_order_r2) ++ wsX50 ++ wsX00 ++ (vx_atS RX5 84 "java/lang/IllegalStateException" ["java/lang/RuntimeException", "java/lang/Exception"]).filter goodWord ++ (vx_atS RX5 148 "java/lang/IndexOutOfBoundsException" ["java/lang/RuntimeException", "java/lang/Exception"]).filter goodWord ++ (vx_atS RX5 98 "java/lang/IllegalArgumentException" ["java/lang/RuntimeException", "java/lang/Exception"]).filter goodWord)
def wsL_rate : List Cond := .codeWith yL_rate cL_rate 4 (some .int) [(0, 9, 12, 13)] :: ([.classLink RL 13 "java/lang/IllegalArgumentException", .methodLink RL 30 yX5_rate, .instanceMethod yX5_rate, .selects RX5 yX5_rate yX5_rate, .initialized RX5, .code yX5_rate cX5_rate 3 (some .int), .fieldLink RX5 120 "BatchPipe" "rateTold" "I", .methodLink RX5 69 yX5_checkRange, .instanceMethod yX5_checkRange, .selects RX5 yX5_checkRange yX5_checkRange, .code yX5_checkRange cX5_checkRange 4 none, .classLink RX5 94 "java/lang/IllegalArgumentException", .initialized "java/lang/IllegalArgumentException"] ++ wsX50 ++ (vx_atS RX5 98 "java/lang/IllegalArgumentException" ["java/lang/RuntimeException", "java/lang/Exception"]).filter goodWord)
def wsL_drop_r1 : List Cond := [Cond.classLink RL 21 "java/lang/IndexOutOfBoundsException", Cond.classLink RL 13 "java/lang/IllegalArgumentException", Cond.methodLink RL 33 yX5_drop, Cond.instanceMethod yX5_drop, Cond.selects RX5 yX5_drop yX5_drop, Cond.initialized RX5, Cond.code yX5_drop cX5_drop 4 none, Cond.fieldLink RX5 44 "BatchPipe" "dropTap" "LBatchPipe$Tap;", Cond.methodLink RX5 123 yX5_checkOnTheWay, Cond.instanceMethod yX5_checkOnTheWay, Cond.selects RX5 yX5_checkOnTheWay yX5_checkOnTheWay, Cond.code yX5_checkOnTheWay cX5_checkOnTheWay 2 none, Cond.fieldLink RX5 77 "BatchPipe" "segmentCount" "I", Cond.methodLink RX5 90 yX5_checkIndex, Cond.instanceMethod yX5_checkIndex, Cond.selects RX5 yX5_checkIndex yX5_checkIndex, Cond.code yX5_checkIndex cX5_checkIndex 3 none, Cond.classLink RX5 144 "java/lang/IndexOutOfBoundsException", Cond.initialized "java/lang/IndexOutOfBoundsException", Cond.methodLink RX5 69 yX5_checkRange, Cond.instanceMethod yX5_checkRange, Cond.selects RX5 yX5_checkRange yX5_checkRange, Cond.code yX5_checkRange cX5_checkRange 4 none, Cond.classLink RX5 94 "java/lang/IllegalArgumentException"]
def wsL_drop_r2 : List Cond := [Cond.initialized "java/lang/IllegalArgumentException", Cond.instanceMethod yX4_tell, Cond.initialized RX4, Cond.selects RX4 yX4_tell yX4_tell, Cond.code yX4_tell cX4_tell 4 none, Cond.fieldLink RX4 9 "BatchPipe$Tap" "segment" "I", Cond.fieldLink RX4 15 "BatchPipe$Tap" "units" "I", Cond.fieldLink RX4 18 "BatchPipe$Tap" "tank" "I"]
def wsL_drop : List Cond := .codeWith yL_drop cL_drop 5 (some .int) [(0, 7, 10, 21), (0, 7, 14, 13)] :: ((wsL_drop_r1 ++ wsL_drop_r2) ++ wsX50 ++ wsX40 ++ (vx_atS RX5 148 "java/lang/IndexOutOfBoundsException" ["java/lang/RuntimeException", "java/lang/Exception"]).filter goodWord ++ (vx_atS RX5 98 "java/lang/IllegalArgumentException" ["java/lang/RuntimeException", "java/lang/Exception"]).filter goodWord)
def wsL_leak_r1 : List Cond := [Cond.classLink RL 21 "java/lang/IndexOutOfBoundsException", Cond.classLink RL 13 "java/lang/IllegalArgumentException", Cond.methodLink RL 37 yX5_leak, Cond.instanceMethod yX5_leak, Cond.selects RX5 yX5_leak yX5_leak, Cond.initialized RX5, Cond.code yX5_leak cX5_leak 3 none, Cond.fieldLink RX5 40 "BatchPipe" "leakTap" "LBatchPipe$Tap;", Cond.methodLink RX5 123 yX5_checkOnTheWay, Cond.instanceMethod yX5_checkOnTheWay, Cond.selects RX5 yX5_checkOnTheWay yX5_checkOnTheWay, Cond.code yX5_checkOnTheWay cX5_checkOnTheWay 2 none, Cond.fieldLink RX5 77 "BatchPipe" "segmentCount" "I", Cond.methodLink RX5 90 yX5_checkIndex, Cond.instanceMethod yX5_checkIndex, Cond.selects RX5 yX5_checkIndex yX5_checkIndex, Cond.code yX5_checkIndex cX5_checkIndex 3 none, Cond.classLink RX5 144 "java/lang/IndexOutOfBoundsException", Cond.initialized "java/lang/IndexOutOfBoundsException", Cond.methodLink RX5 69 yX5_checkRange, Cond.instanceMethod yX5_checkRange, Cond.selects RX5 yX5_checkRange yX5_checkRange, Cond.code yX5_checkRange cX5_checkRange 4 none, Cond.classLink RX5 94 "java/lang/IllegalArgumentException"]
def wsL_leak_r2 : List Cond := [Cond.initialized "java/lang/IllegalArgumentException", Cond.instanceMethod yX4_tell, Cond.initialized RX4, Cond.selects RX4 yX4_tell yX4_tell, Cond.code yX4_tell cX4_tell 4 none, Cond.fieldLink RX4 9 "BatchPipe$Tap" "segment" "I", Cond.fieldLink RX4 15 "BatchPipe$Tap" "units" "I", Cond.fieldLink RX4 18 "BatchPipe$Tap" "tank" "I"]
def wsL_leak : List Cond := .codeWith yL_leak cL_leak 4 (some .int) [(0, 6, 9, 21), (0, 6, 12, 13)] :: ((wsL_leak_r1 ++ wsL_leak_r2) ++ wsX50 ++ wsX40 ++ (vx_atS RX5 148 "java/lang/IndexOutOfBoundsException" ["java/lang/RuntimeException", "java/lang/Exception"]).filter goodWord ++ (vx_atS RX5 98 "java/lang/IllegalArgumentException" ["java/lang/RuntimeException", "java/lang/Exception"]).filter goodWord)
def wsL_receive : List Cond := .codeWith yL_receive cL_receive 4 (some .int) [(0, 9, 12, 21)] :: ([.classLink RL 21 "java/lang/IndexOutOfBoundsException", .methodLink RL 41 yX5_receive, .instanceMethod yX5_receive, .selects RX5 yX5_receive yX5_receive, .initialized RX5, .code yX5_receive cX5_receive 3 (some .int), .fieldLink RX5 47 "BatchPipe" "outlet" "LBatchPipe$Tap;", .methodLink RX5 90 yX5_checkIndex, .instanceMethod yX5_checkIndex, .selects RX5 yX5_checkIndex yX5_checkIndex, .code yX5_checkIndex cX5_checkIndex 3 none, .classLink RX5 144 "java/lang/IndexOutOfBoundsException", .initialized "java/lang/IndexOutOfBoundsException"] ++ wsX50 ++ wsX40 ++ (vx_atS RX5 148 "java/lang/IndexOutOfBoundsException" ["java/lang/RuntimeException", "java/lang/Exception"]).filter goodWord)
def wsL_empty : List Cond := .codeWith yL_empty cL_empty 4 (some .int) [(0, 9, 12, 21)] :: ([.classLink RL 21 "java/lang/IndexOutOfBoundsException", .methodLink RL 44 yX5_empty, .instanceMethod yX5_empty, .selects RX5 yX5_empty yX5_empty, .initialized RX5, .code yX5_empty cX5_empty 2 (some .int), .fieldLink RX5 29 "BatchPipe" "tanks" "[LBatchPipe$Tank;", .methodLink RX5 90 yX5_checkIndex, .instanceMethod yX5_checkIndex, .selects RX5 yX5_checkIndex yX5_checkIndex, .code yX5_checkIndex cX5_checkIndex 3 none, .classLink RX5 144 "java/lang/IndexOutOfBoundsException", .initialized "java/lang/IndexOutOfBoundsException", .instanceMethod yX3_pourOut, .initialized RX3, .selects RX3 yX3_pourOut yX3_pourOut, .code yX3_pourOut cX3_pourOut 2 (some .int), .fieldLink RX3 15 "BatchPipe$Tank" "has" "I", .fieldLink RX3 9 "BatchPipe$Tank" "grade" "I", .fieldLink RX3 27 "BatchPipe$Tank" "mixed" "I"] ++ wsX50 ++ wsX30 ++ (vx_atS RX5 148 "java/lang/IndexOutOfBoundsException" ["java/lang/RuntimeException", "java/lang/Exception"]).filter goodWord)
def wsL_launch : List Cond := .codeWith yL_launch cL_launch 2 (some .int) [(0, 4, 7, 15)] :: ([.classLink RL 15 "java/lang/IllegalStateException", .methodLink RL 47 yX5_launch, .instanceMethod yX5_launch, .selects RX5 yX5_launch yX5_launch, .initialized RX5, .code yX5_launch cX5_launch 1 none, .classLink RX5 80 "java/lang/IllegalStateException", .initialized "java/lang/IllegalStateException", .fieldLink RX5 73 "BatchPipe" "isOpen" "Z", .fieldLink RX5 54 "BatchPipe" "pigBehind" "I", .fieldLink RX5 65 "BatchPipe" "inletBatch" "LBatchPipe$Batch;", .methodLink RX5 132 yX5_unitOf, .instanceMethod yX5_unitOf, .selects RX5 yX5_unitOf yX5_unitOf, .code yX5_unitOf cX5_unitOf 3 (some .int)] ++ wsX50 ++ wsX00 ++ (vx_atS RX5 84 "java/lang/IllegalStateException" ["java/lang/RuntimeException", "java/lang/Exception"]).filter goodWord)
def wsL_pass_r1 : List Cond := [Cond.classLink RL 13 "java/lang/IllegalArgumentException", Cond.classLink RL 15 "java/lang/IllegalStateException", Cond.methodLink RL 50 yX5_pass, Cond.instanceMethod yX5_pass, Cond.selects RX5 yX5_pass yX5_pass, Cond.initialized RX5, Cond.code yX5_pass cX5_pass 4 (some .int), Cond.classLink RX5 80 "java/lang/IllegalStateException", Cond.initialized "java/lang/IllegalStateException", Cond.fieldLink RX5 73 "BatchPipe" "isOpen" "Z", Cond.fieldLink RX5 136 "BatchPipe" "minute" "I", Cond.methodLink RX5 69 yX5_checkRange, Cond.instanceMethod yX5_checkRange, Cond.selects RX5 yX5_checkRange yX5_checkRange, Cond.code yX5_checkRange cX5_checkRange 4 none, Cond.classLink RX5 94 "java/lang/IllegalArgumentException", Cond.initialized "java/lang/IllegalArgumentException", Cond.methodLink RX5 141 yX5_passOne, Cond.instanceMethod yX5_passOne, Cond.selects RX5 yX5_passOne yX5_passOne, Cond.code yX5_passOne cX5_passOne 2 (some .int), Cond.fieldLink RX5 40 "BatchPipe" "leakTap" "LBatchPipe$Tap;", Cond.fieldLink RX5 44 "BatchPipe" "dropTap" "LBatchPipe$Tap;", Cond.fieldLink RX5 47 "BatchPipe" "outlet" "LBatchPipe$Tap;"]
def wsL_pass_r2 : List Cond := [Cond.fieldLink RX5 214 "BatchPipe" "rateFound" "I", Cond.fieldLink RX5 33 "BatchPipe" "balances" "[I", Cond.methodLink RX5 249 yX5_findRate, Cond.instanceMethod yX5_findRate, Cond.selects RX5 yX5_findRate yX5_findRate, Cond.code yX5_findRate cX5_findRate 2 (some .int), Cond.fieldLink RX5 120 "BatchPipe" "rateTold" "I", Cond.methodLink RX5 259 yX5_noneAbove, Cond.instanceMethod yX5_noneAbove, Cond.selects RX5 yX5_noneAbove yX5_noneAbove, Cond.code yX5_noneAbove cX5_noneAbove 4 (some .boolean), Cond.fieldLink RX5 77 "BatchPipe" "segmentCount" "I", Cond.fieldLink RX5 11 "BatchPipe" "segments" "[LBatchPipe$Segment;", Cond.methodLink RX5 194 yX5_headAt, Cond.instanceMethod yX5_headAt, Cond.selects RX5 yX5_headAt yX5_headAt, Cond.code yX5_headAt cX5_headAt 2 (some .int), Cond.instanceMethod yX2_fromEnd, Cond.initialized RX2, Cond.selects RX2 yX2_fromEnd yX2_fromEnd, Cond.code yX2_fromEnd cX2_fromEnd 3 (some .int), Cond.fieldLink RX2 28 "BatchPipe$Segment" "last" "I", Cond.fieldLink RX2 18 "BatchPipe$Segment" "holds" "I", Cond.fieldLink RX2 9 "BatchPipe$Segment" "ring" "[I"]
def wsL_pass_r3 : List Cond := [Cond.methodLink RX5 184 yX5_batchOf, Cond.instanceMethod yX5_batchOf, Cond.selects RX5 yX5_batchOf yX5_batchOf, Cond.code yX5_batchOf cX5_batchOf 3 (some (.object "BatchPipe$Batch")), Cond.fieldLink RX5 50 "BatchPipe" "batchCount" "I", Cond.fieldLink RX5 23 "BatchPipe" "batches" "[LBatchPipe$Batch;", Cond.methodLink RX5 197 yX5_friction, Cond.instanceMethod yX5_friction, Cond.selects RX5 yX5_friction yX5_friction, Cond.code yX5_friction cX5_friction 5 (some .int), Cond.fieldLink RX5 17 "BatchPipe" "products" "[LBatchPipe$Product;", Cond.methodLink RX5 201 yX5_atBeginning, Cond.instanceMethod yX5_atBeginning, Cond.selects RX5 yX5_atBeginning yX5_atBeginning, Cond.code yX5_atBeginning cX5_atBeginning 3 (some .int), Cond.methodLink RX5 266 Lib.Math.max.name, Cond.static Lib.Math.max.name, Cond.initialized "java/lang/Math", Cond.code Lib.Math.max.name Lib.Math.max.code 2 (some .int), Cond.methodLink RX5 252 yX5_moveOne, Cond.instanceMethod yX5_moveOne, Cond.selects RX5 yX5_moveOne yX5_moveOne, Cond.code yX5_moveOne cX5_moveOne 3 (some .boolean), Cond.methodLink RX5 281 yX5_nextBatch]
def wsL_pass_r4 : List Cond := [Cond.instanceMethod yX5_nextBatch, Cond.selects RX5 yX5_nextBatch yX5_nextBatch, Cond.code yX5_nextBatch cX5_nextBatch 2 (some (.object "BatchPipe$Batch")), Cond.fieldLink RX5 65 "BatchPipe" "inletBatch" "LBatchPipe$Batch;", Cond.instanceMethod yX0_waiting, Cond.initialized RX0, Cond.selects RX0 yX0_waiting yX0_waiting, Cond.code yX0_waiting cX0_waiting 1 (some .int), Cond.fieldLink RX0 22 "BatchPipe$Batch" "ordered" "I", Cond.fieldLink RX0 25 "BatchPipe$Batch" "entered" "I", Cond.instanceMethod yX1_bears, Cond.initialized RX1, Cond.selects RX1 yX1_bears yX1_bears, Cond.code yX1_bears cX1_bears 2 (some .boolean), Cond.fieldLink RX1 22 "BatchPipe$Product" "barred" "I", Cond.fieldLink RX1 16 "BatchPipe$Product" "number" "I", Cond.methodLink RX5 285 yX5_nextTap, Cond.instanceMethod yX5_nextTap, Cond.selects RX5 yX5_nextTap yX5_nextTap, Cond.code yX5_nextTap cX5_nextTap 1 (some (.object "BatchPipe$Tap")), Cond.instanceMethod yX4_takesMore, Cond.initialized RX4, Cond.selects RX4 yX4_takesMore yX4_takesMore, Cond.code yX4_takesMore cX4_takesMore 1 (some .boolean)]
def wsL_pass_r5 : List Cond := [Cond.fieldLink RX4 9 "BatchPipe$Tap" "segment" "I", Cond.fieldLink RX4 21 "BatchPipe$Tap" "taken" "I", Cond.fieldLink RX4 15 "BatchPipe$Tap" "units" "I", Cond.methodLink RX5 289 yX5_sendOff, Cond.instanceMethod yX5_sendOff, Cond.selects RX5 yX5_sendOff yX5_sendOff, Cond.code yX5_sendOff cX5_sendOff 5 none, Cond.fieldLink RX5 29 "BatchPipe" "tanks" "[LBatchPipe$Tank;", Cond.fieldLink RX5 54 "BatchPipe" "pigBehind" "I", Cond.methodLink RX5 307 yX5_placeOf, Cond.instanceMethod yX5_placeOf, Cond.selects RX5 yX5_placeOf yX5_placeOf, Cond.code yX5_placeOf cX5_placeOf 2 (some .int), Cond.methodLink RX5 310 yX5_pour, Cond.instanceMethod yX5_pour, Cond.selects RX5 yX5_pour yX5_pour, Cond.code yX5_pour cX5_pour 6 none, Cond.methodLink RX5 164 yX5_mixOf, Cond.instanceMethod yX5_mixOf, Cond.selects RX5 yX5_mixOf yX5_mixOf, Cond.code yX5_mixOf cX5_mixOf 2 (some .int), Cond.fieldLink RX5 326 "BatchPipe" "enteredInAll" "I", Cond.methodLink RX5 335 yX5_wholeRoot, Cond.instanceMethod yX5_wholeRoot]
def wsL_pass_r6 : List Cond := [Cond.selects RX5 yX5_wholeRoot yX5_wholeRoot, Cond.code yX5_wholeRoot cX5_wholeRoot 4 (some .int), Cond.instanceMethod yX3_take, Cond.initialized RX3, Cond.selects RX3 yX3_take yX3_take, Cond.code yX3_take cX3_take 3 none, Cond.fieldLink RX3 15 "BatchPipe$Tank" "has" "I", Cond.fieldLink RX3 18 "BatchPipe$Tank" "spilled" "I", Cond.fieldLink RX3 9 "BatchPipe$Tank" "grade" "I", Cond.methodLink RX3 21 Lib.Math.max.name, Cond.fieldLink RX3 27 "BatchPipe$Tank" "mixed" "I", Cond.methodLink RX5 320 yX5_cleanUpTo, Cond.instanceMethod yX5_cleanUpTo, Cond.selects RX5 yX5_cleanUpTo yX5_cleanUpTo, Cond.code yX5_cleanUpTo cX5_cleanUpTo 3 none, Cond.methodLink RX5 296 yX5_bringIn, Cond.instanceMethod yX5_bringIn, Cond.selects RX5 yX5_bringIn yX5_bringIn, Cond.code yX5_bringIn cX5_bringIn 6 none, Cond.methodLink RX5 132 yX5_unitOf, Cond.instanceMethod yX5_unitOf, Cond.selects RX5 yX5_unitOf yX5_unitOf, Cond.code yX5_unitOf cX5_unitOf 3 (some .int), Cond.instanceMethod yX2_moveOn]
def wsL_pass_r7 : List Cond := [Cond.selects RX2 yX2_moveOn yX2_moveOn, Cond.code yX2_moveOn cX2_moveOn 2 none, Cond.methodLink RX5 256 yX5_soil, Cond.instanceMethod yX5_soil, Cond.selects RX5 yX5_soil yX5_soil, Cond.code yX5_soil cX5_soil 2 none, Cond.methodLink RX5 232 Lib.Math.min.name, Cond.static Lib.Math.min.name, Cond.code Lib.Math.min.name Lib.Math.min.code 2 (some .int)]
def wsL_pass : List Cond := .codeWith yL_pass cL_pass 4 (some .int) [(0, 9, 12, 13), (0, 9, 15, 15)] :: ((wsL_pass_r1 ++ (wsL_pass_r2 ++ (wsL_pass_r3 ++ (wsL_pass_r4 ++ (wsL_pass_r5 ++ (wsL_pass_r6 ++ wsL_pass_r7)))))) ++ wsX50 ++ wsX40 ++ wsX20 ++ wsX00 ++ wsX10 ++ wsX30 ++ (vx_atS RX5 84 "java/lang/IllegalStateException" ["java/lang/RuntimeException", "java/lang/Exception"]).filter goodWord ++ (vx_atS RX5 98 "java/lang/IllegalArgumentException" ["java/lang/RuntimeException", "java/lang/Exception"]).filter goodWord)
def wsL_batch_r1 : List Cond := [Cond.classLink RL 21 "java/lang/IndexOutOfBoundsException", Cond.classLink RL 13 "java/lang/IllegalArgumentException", Cond.methodLink RL 53 yX5_batch, Cond.instanceMethod yX5_batch, Cond.selects RX5 yX5_batch yX5_batch, Cond.initialized RX5, Cond.code yX5_batch cX5_batch 4 (some .int), Cond.classLink RX5 144 "java/lang/IndexOutOfBoundsException", Cond.initialized "java/lang/IndexOutOfBoundsException", Cond.fieldLink RX5 50 "BatchPipe" "batchCount" "I", Cond.fieldLink RX5 73 "BatchPipe" "isOpen" "Z", Cond.fieldLink RX5 23 "BatchPipe" "batches" "[LBatchPipe$Batch;", Cond.methodLink RX5 90 yX5_checkIndex, Cond.instanceMethod yX5_checkIndex, Cond.selects RX5 yX5_checkIndex yX5_checkIndex, Cond.code yX5_checkIndex cX5_checkIndex 3 none, Cond.methodLink RX5 69 yX5_checkRange, Cond.instanceMethod yX5_checkRange, Cond.selects RX5 yX5_checkRange yX5_checkRange, Cond.code yX5_checkRange cX5_checkRange 4 none, Cond.classLink RX5 94 "java/lang/IllegalArgumentException", Cond.initialized "java/lang/IllegalArgumentException", Cond.instanceMethod yX0_inPipe, Cond.initialized RX0]
def wsL_batch_r2 : List Cond := [Cond.selects RX0 yX0_inPipe yX0_inPipe, Cond.code yX0_inPipe cX0_inPipe 1 (some .int), Cond.fieldLink RX0 25 "BatchPipe$Batch" "entered" "I", Cond.fieldLink RX0 28 "BatchPipe$Batch" "left" "I", Cond.fieldLink RX0 31 "BatchPipe$Batch" "dropped" "I", Cond.fieldLink RX0 34 "BatchPipe$Batch" "leaked" "I", Cond.instanceMethod yX0_waiting, Cond.selects RX0 yX0_waiting yX0_waiting, Cond.code yX0_waiting cX0_waiting 1 (some .int), Cond.fieldLink RX0 22 "BatchPipe$Batch" "ordered" "I", Cond.methodLink RX5 164 yX5_mixOf, Cond.instanceMethod yX5_mixOf, Cond.selects RX5 yX5_mixOf yX5_mixOf, Cond.code yX5_mixOf cX5_mixOf 2 (some .int), Cond.fieldLink RX5 326 "BatchPipe" "enteredInAll" "I", Cond.methodLink RX5 335 yX5_wholeRoot, Cond.instanceMethod yX5_wholeRoot, Cond.selects RX5 yX5_wholeRoot yX5_wholeRoot, Cond.code yX5_wholeRoot cX5_wholeRoot 4 (some .int)]
def wsL_batch : List Cond := .codeWith yL_batch cL_batch 5 (some .int) [(0, 10, 13, 21), (0, 10, 17, 13)] :: ((wsL_batch_r1 ++ wsL_batch_r2) ++ wsX50 ++ wsX00 ++ wsX10 ++ (vx_atS RX5 148 "java/lang/IndexOutOfBoundsException" ["java/lang/RuntimeException", "java/lang/Exception"]).filter goodWord ++ (vx_atS RX5 98 "java/lang/IllegalArgumentException" ["java/lang/RuntimeException", "java/lang/Exception"]).filter goodWord)
def wsL_unit_r1 : List Cond := [Cond.classLink RL 21 "java/lang/IndexOutOfBoundsException", Cond.methodLink RL 57 yX5_unit, Cond.instanceMethod yX5_unit, Cond.selects RX5 yX5_unit yX5_unit, Cond.initialized RX5, Cond.code yX5_unit cX5_unit 4 (some .int), Cond.fieldLink RX5 73 "BatchPipe" "isOpen" "Z", Cond.fieldLink RX5 77 "BatchPipe" "segmentCount" "I", Cond.fieldLink RX5 11 "BatchPipe" "segments" "[LBatchPipe$Segment;", Cond.methodLink RX5 175 yX5_checkUnit, Cond.instanceMethod yX5_checkUnit, Cond.selects RX5 yX5_checkUnit yX5_checkUnit, Cond.code yX5_checkUnit cX5_checkUnit 2 none, Cond.classLink RX5 144 "java/lang/IndexOutOfBoundsException", Cond.initialized "java/lang/IndexOutOfBoundsException", Cond.instanceMethod yX2_fromEnd, Cond.initialized RX2, Cond.selects RX2 yX2_fromEnd yX2_fromEnd, Cond.code yX2_fromEnd cX2_fromEnd 3 (some .int), Cond.fieldLink RX2 28 "BatchPipe$Segment" "last" "I", Cond.fieldLink RX2 18 "BatchPipe$Segment" "holds" "I", Cond.fieldLink RX2 9 "BatchPipe$Segment" "ring" "[I", Cond.methodLink RX5 184 yX5_batchOf, Cond.instanceMethod yX5_batchOf]
def wsL_unit_r2 : List Cond := [Cond.selects RX5 yX5_batchOf yX5_batchOf, Cond.code yX5_batchOf cX5_batchOf 3 (some (.object "BatchPipe$Batch")), Cond.fieldLink RX5 50 "BatchPipe" "batchCount" "I", Cond.fieldLink RX5 23 "BatchPipe" "batches" "[LBatchPipe$Batch;"]
def wsL_unit : List Cond := .codeWith yL_unit cL_unit 4 (some .int) [(0, 9, 12, 21)] :: ((wsL_unit_r1 ++ wsL_unit_r2) ++ wsX50 ++ wsX20 ++ wsX00 ++ (vx_atS RX5 148 "java/lang/IndexOutOfBoundsException" ["java/lang/RuntimeException", "java/lang/Exception"]).filter goodWord)
def wsL_unitAnew : List Cond := .codeWith yL_unitAnew cL_unitAnew 4 (some .int) [(0, 9, 12, 21)] :: ([.classLink RL 21 "java/lang/IndexOutOfBoundsException", .methodLink RL 60 yX5_unitAnew, .instanceMethod yX5_unitAnew, .selects RX5 yX5_unitAnew yX5_unitAnew, .initialized RX5, .code yX5_unitAnew cX5_unitAnew 4 (some .int), .fieldLink RX5 73 "BatchPipe" "isOpen" "Z", .fieldLink RX5 23 "BatchPipe" "batches" "[LBatchPipe$Batch;", .methodLink RX5 175 yX5_checkUnit, .instanceMethod yX5_checkUnit, .selects RX5 yX5_checkUnit yX5_checkUnit, .code yX5_checkUnit cX5_checkUnit 2 none, .classLink RX5 144 "java/lang/IndexOutOfBoundsException", .initialized "java/lang/IndexOutOfBoundsException", .instanceMethod yX0_inPipe, .initialized RX0, .selects RX0 yX0_inPipe yX0_inPipe, .code yX0_inPipe cX0_inPipe 1 (some .int), .fieldLink RX0 25 "BatchPipe$Batch" "entered" "I", .fieldLink RX0 28 "BatchPipe$Batch" "left" "I", .fieldLink RX0 31 "BatchPipe$Batch" "dropped" "I", .fieldLink RX0 34 "BatchPipe$Batch" "leaked" "I"] ++ wsX50 ++ wsX00 ++ (vx_atS RX5 148 "java/lang/IndexOutOfBoundsException" ["java/lang/RuntimeException", "java/lang/Exception"]).filter goodWord)
def wsL_pressure_r1 : List Cond := [Cond.classLink RL 21 "java/lang/IndexOutOfBoundsException", Cond.classLink RL 13 "java/lang/IllegalArgumentException", Cond.classLink RL 15 "java/lang/IllegalStateException", Cond.methodLink RL 63 yX5_pressure, Cond.instanceMethod yX5_pressure, Cond.selects RX5 yX5_pressure yX5_pressure, Cond.initialized RX5, Cond.code yX5_pressure cX5_pressure 5 (some .int), Cond.classLink RX5 80 "java/lang/IllegalStateException", Cond.initialized "java/lang/IllegalStateException", Cond.fieldLink RX5 77 "BatchPipe" "segmentCount" "I", Cond.fieldLink RX5 73 "BatchPipe" "isOpen" "Z", Cond.fieldLink RX5 11 "BatchPipe" "segments" "[LBatchPipe$Segment;", Cond.methodLink RX5 90 yX5_checkIndex, Cond.instanceMethod yX5_checkIndex, Cond.selects RX5 yX5_checkIndex yX5_checkIndex, Cond.code yX5_checkIndex cX5_checkIndex 3 none, Cond.classLink RX5 144 "java/lang/IndexOutOfBoundsException", Cond.initialized "java/lang/IndexOutOfBoundsException", Cond.methodLink RX5 69 yX5_checkRange, Cond.instanceMethod yX5_checkRange, Cond.selects RX5 yX5_checkRange yX5_checkRange, Cond.code yX5_checkRange cX5_checkRange 4 none, Cond.classLink RX5 94 "java/lang/IllegalArgumentException"]
def wsL_pressure_r2 : List Cond := [Cond.initialized "java/lang/IllegalArgumentException", Cond.methodLink RX5 194 yX5_headAt, Cond.instanceMethod yX5_headAt, Cond.selects RX5 yX5_headAt yX5_headAt, Cond.code yX5_headAt cX5_headAt 2 (some .int), Cond.instanceMethod yX2_fromEnd, Cond.initialized RX2, Cond.selects RX2 yX2_fromEnd yX2_fromEnd, Cond.code yX2_fromEnd cX2_fromEnd 3 (some .int), Cond.fieldLink RX2 28 "BatchPipe$Segment" "last" "I", Cond.fieldLink RX2 18 "BatchPipe$Segment" "holds" "I", Cond.fieldLink RX2 9 "BatchPipe$Segment" "ring" "[I", Cond.methodLink RX5 184 yX5_batchOf, Cond.instanceMethod yX5_batchOf, Cond.selects RX5 yX5_batchOf yX5_batchOf, Cond.code yX5_batchOf cX5_batchOf 3 (some (.object "BatchPipe$Batch")), Cond.fieldLink RX5 50 "BatchPipe" "batchCount" "I", Cond.fieldLink RX5 23 "BatchPipe" "batches" "[LBatchPipe$Batch;", Cond.methodLink RX5 197 yX5_friction, Cond.instanceMethod yX5_friction, Cond.selects RX5 yX5_friction yX5_friction, Cond.code yX5_friction cX5_friction 5 (some .int), Cond.fieldLink RX5 17 "BatchPipe" "products" "[LBatchPipe$Product;", Cond.methodLink RX5 201 yX5_atBeginning]
def wsL_pressure_r3 : List Cond := [Cond.instanceMethod yX5_atBeginning, Cond.selects RX5 yX5_atBeginning yX5_atBeginning, Cond.code yX5_atBeginning cX5_atBeginning 3 (some .int), Cond.methodLink RX5 266 Lib.Math.max.name, Cond.static Lib.Math.max.name, Cond.initialized "java/lang/Math", Cond.code Lib.Math.max.name Lib.Math.max.code 2 (some .int)]
def wsL_pressure : List Cond := .codeWith yL_pressure cL_pressure 5 (some .int) [(0, 10, 13, 21), (0, 10, 17, 13), (0, 10, 21, 15)] :: ((wsL_pressure_r1 ++ (wsL_pressure_r2 ++ wsL_pressure_r3)) ++ wsX50 ++ wsX00 ++ wsX10 ++ wsX20 ++ (vx_atS RX5 84 "java/lang/IllegalStateException" ["java/lang/RuntimeException", "java/lang/Exception"]).filter goodWord ++ (vx_atS RX5 148 "java/lang/IndexOutOfBoundsException" ["java/lang/RuntimeException", "java/lang/Exception"]).filter goodWord ++ (vx_atS RX5 98 "java/lang/IllegalArgumentException" ["java/lang/RuntimeException", "java/lang/Exception"]).filter goodWord)
def wsL_tank : List Cond := .codeWith yL_tank cL_tank 5 (some .int) [(0, 10, 13, 21), (0, 10, 17, 13)] :: ([.classLink RL 21 "java/lang/IndexOutOfBoundsException", .classLink RL 13 "java/lang/IllegalArgumentException", .methodLink RL 66 yX5_tank, .instanceMethod yX5_tank, .selects RX5 yX5_tank yX5_tank, .initialized RX5, .code yX5_tank cX5_tank 3 (some .int), .fieldLink RX5 29 "BatchPipe" "tanks" "[LBatchPipe$Tank;", .methodLink RX5 90 yX5_checkIndex, .instanceMethod yX5_checkIndex, .selects RX5 yX5_checkIndex yX5_checkIndex, .code yX5_checkIndex cX5_checkIndex 3 none, .classLink RX5 144 "java/lang/IndexOutOfBoundsException", .initialized "java/lang/IndexOutOfBoundsException", .methodLink RX5 69 yX5_checkRange, .instanceMethod yX5_checkRange, .selects RX5 yX5_checkRange yX5_checkRange, .code yX5_checkRange cX5_checkRange 4 none, .classLink RX5 94 "java/lang/IllegalArgumentException", .initialized "java/lang/IllegalArgumentException"] ++ wsX50 ++ wsX30 ++ (vx_atS RX5 148 "java/lang/IndexOutOfBoundsException" ["java/lang/RuntimeException", "java/lang/Exception"]).filter goodWord ++ (vx_atS RX5 98 "java/lang/IllegalArgumentException" ["java/lang/RuntimeException", "java/lang/Exception"]).filter goodWord)
def wsL_pipe_r1 : List Cond := [Cond.classLink RL 13 "java/lang/IllegalArgumentException", Cond.methodLink RL 69 yX5_pipe, Cond.instanceMethod yX5_pipe, Cond.selects RX5 yX5_pipe yX5_pipe, Cond.initialized RX5, Cond.code yX5_pipe cX5_pipe 2 (some .int), Cond.fieldLink RX5 214 "BatchPipe" "rateFound" "I", Cond.fieldLink RX5 54 "BatchPipe" "pigBehind" "I", Cond.fieldLink RX5 136 "BatchPipe" "minute" "I", Cond.methodLink RX5 69 yX5_checkRange, Cond.instanceMethod yX5_checkRange, Cond.selects RX5 yX5_checkRange yX5_checkRange, Cond.code yX5_checkRange cX5_checkRange 4 none, Cond.classLink RX5 94 "java/lang/IllegalArgumentException", Cond.initialized "java/lang/IllegalArgumentException", Cond.methodLink RX5 217 yX5_latestBalance, Cond.instanceMethod yX5_latestBalance, Cond.selects RX5 yX5_latestBalance yX5_latestBalance, Cond.code yX5_latestBalance cX5_latestBalance 3 (some .int), Cond.fieldLink RX5 33 "BatchPipe" "balances" "[I", Cond.methodLink RX5 220 yX5_spilledInAll, Cond.instanceMethod yX5_spilledInAll, Cond.selects RX5 yX5_spilledInAll yX5_spilledInAll, Cond.code yX5_spilledInAll cX5_spilledInAll 3 (some .int)]
def wsL_pipe_r2 : List Cond := [Cond.fieldLink RX5 29 "BatchPipe" "tanks" "[LBatchPipe$Tank;"]
def wsL_pipe : List Cond := .codeWith yL_pipe cL_pipe 4 (some .int) [(0, 9, 12, 13)] :: ((wsL_pipe_r1 ++ wsL_pipe_r2) ++ wsX50 ++ wsX30 ++ (vx_atS RX5 98 "java/lang/IllegalArgumentException" ["java/lang/RuntimeException", "java/lang/Exception"]).filter goodWord)
def wsL_dirt : List Cond := .codeWith yL_dirt cL_dirt 4 (some .int) [(0, 9, 12, 21)] :: ([.classLink RL 21 "java/lang/IndexOutOfBoundsException", .methodLink RL 72 yX5_dirt, .instanceMethod yX5_dirt, .selects RX5 yX5_dirt yX5_dirt, .initialized RX5, .code yX5_dirt cX5_dirt 2 (some .int), .fieldLink RX5 77 "BatchPipe" "segmentCount" "I", .fieldLink RX5 11 "BatchPipe" "segments" "[LBatchPipe$Segment;", .methodLink RX5 90 yX5_checkIndex, .instanceMethod yX5_checkIndex, .selects RX5 yX5_checkIndex yX5_checkIndex, .code yX5_checkIndex cX5_checkIndex 3 none, .classLink RX5 144 "java/lang/IndexOutOfBoundsException", .initialized "java/lang/IndexOutOfBoundsException"] ++ wsX50 ++ wsX20 ++ (vx_atS RX5 148 "java/lang/IndexOutOfBoundsException" ["java/lang/RuntimeException", "java/lang/Exception"]).filter goodWord)
def wsL_share_r1 : List Cond := [Cond.classLink RL 21 "java/lang/IndexOutOfBoundsException", Cond.classLink RL 13 "java/lang/IllegalArgumentException", Cond.methodLink RL 75 yX5_share, Cond.instanceMethod yX5_share, Cond.selects RX5 yX5_share yX5_share, Cond.initialized RX5, Cond.code yX5_share cX5_share 6 (some .int), Cond.methodLink RX5 232 Lib.Math.min.name, Cond.static Lib.Math.min.name, Cond.initialized "java/lang/Math", Cond.code Lib.Math.min.name Lib.Math.min.code 2 (some .int), Cond.methodLink RX5 90 yX5_checkIndex, Cond.instanceMethod yX5_checkIndex, Cond.selects RX5 yX5_checkIndex yX5_checkIndex, Cond.code yX5_checkIndex cX5_checkIndex 3 none, Cond.classLink RX5 144 "java/lang/IndexOutOfBoundsException", Cond.initialized "java/lang/IndexOutOfBoundsException", Cond.methodLink RX5 69 yX5_checkRange, Cond.instanceMethod yX5_checkRange, Cond.selects RX5 yX5_checkRange yX5_checkRange, Cond.code yX5_checkRange cX5_checkRange 4 none, Cond.classLink RX5 94 "java/lang/IllegalArgumentException", Cond.initialized "java/lang/IllegalArgumentException", Cond.methodLink RX5 226 yX5_waitingFor]
def wsL_share_r2 : List Cond := [Cond.instanceMethod yX5_waitingFor, Cond.selects RX5 yX5_waitingFor yX5_waitingFor, Cond.code yX5_waitingFor cX5_waitingFor 4 (some .int), Cond.fieldLink RX5 50 "BatchPipe" "batchCount" "I", Cond.fieldLink RX5 23 "BatchPipe" "batches" "[LBatchPipe$Batch;", Cond.instanceMethod yX0_waiting, Cond.initialized RX0, Cond.selects RX0 yX0_waiting yX0_waiting, Cond.code yX0_waiting cX0_waiting 1 (some .int), Cond.fieldLink RX0 22 "BatchPipe$Batch" "ordered" "I", Cond.fieldLink RX0 25 "BatchPipe$Batch" "entered" "I", Cond.methodLink RX5 229 yX5_claimOf, Cond.instanceMethod yX5_claimOf, Cond.selects RX5 yX5_claimOf yX5_claimOf, Cond.code yX5_claimOf cX5_claimOf 4 (some .int)]
def wsL_share : List Cond := .codeWith yL_share cL_share 5 (some .int) [(0, 10, 13, 21), (0, 10, 17, 13)] :: ((wsL_share_r1 ++ wsL_share_r2) ++ wsX50 ++ wsX00 ++ (vx_atS RX5 148 "java/lang/IndexOutOfBoundsException" ["java/lang/RuntimeException", "java/lang/Exception"]).filter goodWord ++ (vx_atS RX5 98 "java/lang/IllegalArgumentException" ["java/lang/RuntimeException", "java/lang/Exception"]).filter goodWord)
def wsL_law0_r1 : List Cond := [Cond.classLink RL 8 RX5, Cond.instantiable RX5 17, Cond.initialized RX5, Cond.classLink RL 79 RX6, Cond.instantiable RX6 45, Cond.initialized RX6, Cond.arrayClass .long, Cond.methodLink RL 78 yX5_init, Cond.instanceMethod yX5_init, Cond.code yX5_init cX5_init 2 none, Cond.methodLink RX5 1 objectInit, Cond.instanceMethod objectInit, Cond.code objectInit ⟨#[0xb1]⟩ 1 none, Cond.classLink RX5 9 RX2, Cond.fieldLink RX5 11 "BatchPipe" "segments" "[LBatchPipe$Segment;", Cond.classLink RX5 15 RX1, Cond.fieldLink RX5 17 "BatchPipe" "products" "[LBatchPipe$Product;", Cond.classLink RX5 21 RX0, Cond.fieldLink RX5 23 "BatchPipe" "batches" "[LBatchPipe$Batch;", Cond.classLink RX5 27 RX3, Cond.fieldLink RX5 29 "BatchPipe" "tanks" "[LBatchPipe$Tank;", Cond.arrayClass .int, Cond.fieldLink RX5 33 "BatchPipe" "balances" "[I", Cond.classLink RX5 37 RX4]
def wsL_law0_r2 : List Cond := [Cond.instantiable RX4 4, Cond.initialized RX4, Cond.fieldLink RX5 40 "BatchPipe" "leakTap" "LBatchPipe$Tap;", Cond.fieldLink RX5 44 "BatchPipe" "dropTap" "LBatchPipe$Tap;", Cond.fieldLink RX5 47 "BatchPipe" "outlet" "LBatchPipe$Tap;", Cond.fieldLink RX5 50 "BatchPipe" "batchCount" "I", Cond.fieldLink RX5 54 "BatchPipe" "pigBehind" "I", Cond.instantiable RX2 7, Cond.initialized RX2, Cond.instantiable RX1 5, Cond.initialized RX1, Cond.instantiable RX0 13, Cond.initialized RX0, Cond.instantiable RX3 4, Cond.initialized RX3, Cond.fieldLink RX5 65 "BatchPipe" "inletBatch" "LBatchPipe$Batch;", Cond.instanceMethod yX4_init, Cond.code yX4_init cX4_init 1 none, Cond.methodLink RX4 3 objectInit, Cond.fieldLink RX4 9 "BatchPipe$Tap" "segment" "I", Cond.instanceMethod yX2_init, Cond.code yX2_init cX2_init 1 none, Cond.methodLink RX2 3 objectInit, Cond.fieldLink RX2 9 "BatchPipe$Segment" "ring" "[I"]
def wsL_law0_r3 : List Cond := [Cond.fieldLink RX2 15 "BatchPipe$Segment" "unitsOf" "[I", Cond.fieldLink RX2 18 "BatchPipe$Segment" "holds" "I", Cond.instanceMethod yX1_init, Cond.code yX1_init cX1_init 2 none, Cond.methodLink RX1 1 objectInit, Cond.fieldLink RX1 7 "BatchPipe$Product" "weight" "I", Cond.fieldLink RX1 13 "BatchPipe$Product" "thickness" "I", Cond.fieldLink RX1 16 "BatchPipe$Product" "number" "I", Cond.fieldLink RX1 19 "BatchPipe$Product" "grade" "I", Cond.instanceMethod yX0_init, Cond.code yX0_init cX0_init 3 none, Cond.methodLink RX0 3 objectInit, Cond.fieldLink RX0 9 "BatchPipe$Batch" "shipper" "I", Cond.fieldLink RX0 15 "BatchPipe$Batch" "number" "I", Cond.fieldLink RX0 18 "BatchPipe$Batch" "oil" "LBatchPipe$Product;", Cond.instanceMethod yX3_init, Cond.code yX3_init cX3_init 1 none, Cond.methodLink RX3 3 objectInit, Cond.fieldLink RX3 9 "BatchPipe$Tank" "grade" "I", Cond.methodLink RL 81 yX6_init, Cond.instanceMethod yX6_init, Cond.code yX6_init cX6_init 2 none, Cond.methodLink RX6 1 objectInit, Cond.fieldLink RX6 7 "BatchPipeModel" "holds" "[I"]
def wsL_law0_r4 : List Cond := [Cond.fieldLink RX6 13 "BatchPipeModel" "height" "[I", Cond.fieldLink RX6 16 "BatchPipeModel" "limit" "[I", Cond.fieldLink RX6 19 "BatchPipeModel" "dirty" "[I", Cond.fieldLink RX6 22 "BatchPipeModel" "weight" "[I", Cond.fieldLink RX6 25 "BatchPipeModel" "thickness" "[I", Cond.fieldLink RX6 28 "BatchPipeModel" "grade" "[I", Cond.fieldLink RX6 31 "BatchPipeModel" "barred" "[I", Cond.fieldLink RX6 34 "BatchPipeModel" "batches" "I", Cond.fieldLink RX6 38 "BatchPipeModel" "shipper" "[I", Cond.fieldLink RX6 41 "BatchPipeModel" "product" "[I", Cond.fieldLink RX6 44 "BatchPipeModel" "ordered" "[I", Cond.fieldLink RX6 47 "BatchPipeModel" "entered" "[I", Cond.fieldLink RX6 50 "BatchPipeModel" "left" "[I", Cond.fieldLink RX6 53 "BatchPipeModel" "dropped" "[I", Cond.fieldLink RX6 56 "BatchPipeModel" "leaked" "[I", Cond.fieldLink RX6 59 "BatchPipeModel" "ahead" "[I", Cond.fieldLink RX6 62 "BatchPipeModel" "behind" "[I", Cond.fieldLink RX6 65 "BatchPipeModel" "enteredAhead" "[I", Cond.fieldLink RX6 68 "BatchPipeModel" "kept" "[I", Cond.fieldLink RX6 71 "BatchPipeModel" "unitBatch" "[I", Cond.fieldLink RX6 74 "BatchPipeModel" "unitPlace" "[I", Cond.fieldLink RX6 77 "BatchPipeModel" "dropSegment" "I", Cond.fieldLink RX6 80 "BatchPipeModel" "leakSegment" "I", Cond.fieldLink RX6 83 "BatchPipeModel" "has" "[I"]
def wsL_law0_r5 : List Cond := [Cond.fieldLink RX6 86 "BatchPipeModel" "worst" "[I", Cond.fieldLink RX6 89 "BatchPipeModel" "mixed" "[I", Cond.fieldLink RX6 92 "BatchPipeModel" "balances" "[I", Cond.methodLink RL 82 yL_segment, Cond.static yL_segment, Cond.initialized RL, Cond.codeWith yL_segment cL_segment 6 (some .int) [(0, 12, 15, 13), (0, 12, 19, 15)], Cond.classLink RL 13 "java/lang/IllegalArgumentException", Cond.classLink RL 15 "java/lang/IllegalStateException", Cond.methodLink RL 7 yX5_segment, Cond.instanceMethod yX5_segment, Cond.selects RX5 yX5_segment yX5_segment, Cond.code yX5_segment cX5_segment 4 (some .int), Cond.classLink RX5 80 "java/lang/IllegalStateException", Cond.initialized "java/lang/IllegalStateException", Cond.fieldLink RX5 73 "BatchPipe" "isOpen" "Z", Cond.fieldLink RX5 77 "BatchPipe" "segmentCount" "I", Cond.methodLink RX5 69 yX5_checkRange, Cond.instanceMethod yX5_checkRange, Cond.selects RX5 yX5_checkRange yX5_checkRange, Cond.code yX5_checkRange cX5_checkRange 4 none, Cond.classLink RX5 94 "java/lang/IllegalArgumentException", Cond.initialized "java/lang/IllegalArgumentException", Cond.instanceMethod yX2_tell]
def wsL_law0_r6 : List Cond := [Cond.selects RX2 yX2_tell yX2_tell, Cond.code yX2_tell cX2_tell 4 none, Cond.fieldLink RX2 22 "BatchPipe$Segment" "height" "I", Cond.fieldLink RX2 25 "BatchPipe$Segment" "limit" "I", Cond.methodLink RL 87 yX6_segment, Cond.instanceMethod yX6_segment, Cond.selects RX6 yX6_segment yX6_segment, Cond.code yX6_segment cX6_segment 4 (some .int), Cond.fieldLink RX6 102 "BatchPipeModel" "segments" "I", Cond.fieldLink RX6 105 "BatchPipeModel" "isOpen" "Z", Cond.methodLink RX6 98 yX6_isBetween, Cond.static yX6_isBetween, Cond.code yX6_isBetween cX6_isBetween 3 (some .boolean), Cond.methodLink RX6 109 yX6_goes, Cond.instanceMethod yX6_goes, Cond.selects RX6 yX6_goes yX6_goes, Cond.code yX6_goes cX6_goes 4 (some .boolean), Cond.fieldLink RX6 95 "BatchPipeModel" "thrown" "I", Cond.methodLink RL 88 yX6_thrown, Cond.instanceMethod yX6_thrown, Cond.selects RX6 yX6_thrown yX6_thrown, Cond.code yX6_thrown cX6_thrown 1 (some .int), Cond.methodLink RL 92 yL_product, Cond.static yL_product]
def wsL_law0_r7 : List Cond := [Cond.codeWith yL_product cL_product 7 (some .int) [(0, 11, 14, 21), (0, 11, 18, 13)], Cond.classLink RL 21 "java/lang/IndexOutOfBoundsException", Cond.methodLink RL 17 yX5_product, Cond.instanceMethod yX5_product, Cond.selects RX5 yX5_product yX5_product, Cond.code yX5_product cX5_product 6 none, Cond.methodLink RX5 90 yX5_checkIndex, Cond.instanceMethod yX5_checkIndex, Cond.selects RX5 yX5_checkIndex yX5_checkIndex, Cond.code yX5_checkIndex cX5_checkIndex 3 none, Cond.classLink RX5 144 "java/lang/IndexOutOfBoundsException", Cond.initialized "java/lang/IndexOutOfBoundsException", Cond.instanceMethod yX1_tell, Cond.selects RX1 yX1_tell yX1_tell, Cond.code yX1_tell cX1_tell 5 none, Cond.fieldLink RX1 22 "BatchPipe$Product" "barred" "I", Cond.methodLink RL 95 yX6_product, Cond.instanceMethod yX6_product, Cond.selects RX6 yX6_product yX6_product, Cond.code yX6_product cX6_product 8 none, Cond.methodLink RX6 113 yX6_isProduct, Cond.static yX6_isProduct, Cond.code yX6_isProduct cX6_isProduct 1 (some .boolean), Cond.methodLink RL 96 yL_open]
def wsL_law0_r8 : List Cond := [Cond.static yL_open, Cond.codeWith yL_open cL_open 4 (some .int) [(0, 9, 12, 21), (0, 9, 15, 15)], Cond.methodLink RL 23 yX5_open, Cond.instanceMethod yX5_open, Cond.selects RX5 yX5_open yX5_open, Cond.code yX5_open cX5_open 3 (some .int), Cond.methodLink RX5 104 yX5_fillSegments, Cond.instanceMethod yX5_fillSegments, Cond.selects RX5 yX5_fillSegments yX5_fillSegments, Cond.code yX5_fillSegments cX5_fillSegments 4 (some .int), Cond.instanceMethod yX2_fill, Cond.selects RX2 yX2_fill yX2_fill, Cond.code yX2_fill cX2_fill 4 none, Cond.instanceMethod yX0_tell, Cond.selects RX0 yX0_tell yX0_tell, Cond.code yX0_tell cX0_tell 4 none, Cond.fieldLink RX0 22 "BatchPipe$Batch" "ordered" "I", Cond.instanceMethod yX4_tell, Cond.selects RX4 yX4_tell yX4_tell, Cond.code yX4_tell cX4_tell 4 none, Cond.fieldLink RX4 15 "BatchPipe$Tap" "units" "I", Cond.fieldLink RX4 18 "BatchPipe$Tap" "tank" "I", Cond.methodLink RL 99 yX6_open, Cond.instanceMethod yX6_open]
def wsL_law0_r9 : List Cond := [Cond.selects RX6 yX6_open yX6_open, Cond.code yX6_open cX6_open 3 (some .int), Cond.fieldLink RX6 117 "BatchPipeModel" "length" "I", Cond.fieldLink RX6 120 "BatchPipeModel" "all" "I", Cond.methodLink RL 100 yL_order, Cond.static yL_order, Cond.codeWith yL_order cL_order 6 (some .int) [(0, 12, 15, 21), (0, 12, 19, 13), (0, 12, 23, 15)], Cond.methodLink RL 27 yX5_order, Cond.instanceMethod yX5_order, Cond.selects RX5 yX5_order yX5_order, Cond.code yX5_order cX5_order 4 (some .int), Cond.methodLink RL 102 yX6_order, Cond.instanceMethod yX6_order, Cond.selects RX6 yX6_order yX6_order, Cond.code yX6_order cX6_order 4 (some .int), Cond.methodLink RX6 123 yX6_isShipper, Cond.static yX6_isShipper, Cond.code yX6_isShipper cX6_isShipper 1 (some .boolean), Cond.methodLink RL 103 yL_rate, Cond.static yL_rate, Cond.codeWith yL_rate cL_rate 4 (some .int) [(0, 9, 12, 13)], Cond.methodLink RL 30 yX5_rate, Cond.instanceMethod yX5_rate, Cond.selects RX5 yX5_rate yX5_rate]
def wsL_law0_r10 : List Cond := [Cond.code yX5_rate cX5_rate 3 (some .int), Cond.fieldLink RX5 120 "BatchPipe" "rateTold" "I", Cond.methodLink RL 105 yX6_rate, Cond.instanceMethod yX6_rate, Cond.selects RX6 yX6_rate yX6_rate, Cond.code yX6_rate cX6_rate 3 (some .int), Cond.fieldLink RX6 126 "BatchPipeModel" "rate" "I", Cond.methodLink RL 106 yL_drop, Cond.static yL_drop, Cond.codeWith yL_drop cL_drop 5 (some .int) [(0, 7, 10, 21), (0, 7, 14, 13)], Cond.methodLink RL 33 yX5_drop, Cond.instanceMethod yX5_drop, Cond.selects RX5 yX5_drop yX5_drop, Cond.code yX5_drop cX5_drop 4 none, Cond.methodLink RX5 123 yX5_checkOnTheWay, Cond.instanceMethod yX5_checkOnTheWay, Cond.selects RX5 yX5_checkOnTheWay yX5_checkOnTheWay, Cond.code yX5_checkOnTheWay cX5_checkOnTheWay 2 none, Cond.methodLink RL 109 yX6_drop, Cond.instanceMethod yX6_drop, Cond.selects RX6 yX6_drop yX6_drop, Cond.code yX6_drop cX6_drop 4 none, Cond.fieldLink RX6 135 "BatchPipeModel" "dropUnits" "I", Cond.fieldLink RX6 138 "BatchPipeModel" "dropTank" "I"]
def wsL_law0_r11 : List Cond := [Cond.methodLink RX6 129 yX6_isPlace, Cond.instanceMethod yX6_isPlace, Cond.selects RX6 yX6_isPlace yX6_isPlace, Cond.code yX6_isPlace cX6_isPlace 2 (some .boolean), Cond.methodLink RX6 132 yX6_isTank, Cond.static yX6_isTank, Cond.code yX6_isTank cX6_isTank 1 (some .boolean), Cond.methodLink RL 110 yL_leak, Cond.static yL_leak, Cond.codeWith yL_leak cL_leak 4 (some .int) [(0, 6, 9, 21), (0, 6, 12, 13)], Cond.methodLink RL 37 yX5_leak, Cond.instanceMethod yX5_leak, Cond.selects RX5 yX5_leak yX5_leak, Cond.code yX5_leak cX5_leak 3 none, Cond.methodLink RL 113 yX6_leak, Cond.instanceMethod yX6_leak, Cond.selects RX6 yX6_leak yX6_leak, Cond.code yX6_leak cX6_leak 3 none, Cond.fieldLink RX6 141 "BatchPipeModel" "leakUnits" "I", Cond.methodLink RL 114 yL_receive, Cond.static yL_receive, Cond.codeWith yL_receive cL_receive 4 (some .int) [(0, 9, 12, 21)], Cond.methodLink RL 41 yX5_receive, Cond.instanceMethod yX5_receive]
def wsL_law0_r12 : List Cond := [Cond.selects RX5 yX5_receive yX5_receive, Cond.code yX5_receive cX5_receive 3 (some .int), Cond.methodLink RL 116 yX6_receive, Cond.instanceMethod yX6_receive, Cond.selects RX6 yX6_receive yX6_receive, Cond.code yX6_receive cX6_receive 3 (some .int), Cond.fieldLink RX6 144 "BatchPipeModel" "receiving" "I", Cond.methodLink RL 117 yL_empty, Cond.static yL_empty, Cond.codeWith yL_empty cL_empty 4 (some .int) [(0, 9, 12, 21)], Cond.methodLink RL 44 yX5_empty, Cond.instanceMethod yX5_empty, Cond.selects RX5 yX5_empty yX5_empty, Cond.code yX5_empty cX5_empty 2 (some .int), Cond.instanceMethod yX3_pourOut, Cond.selects RX3 yX3_pourOut yX3_pourOut, Cond.code yX3_pourOut cX3_pourOut 2 (some .int), Cond.fieldLink RX3 15 "BatchPipe$Tank" "has" "I", Cond.fieldLink RX3 27 "BatchPipe$Tank" "mixed" "I", Cond.methodLink RL 119 yX6_empty, Cond.instanceMethod yX6_empty, Cond.selects RX6 yX6_empty yX6_empty, Cond.code yX6_empty cX6_empty 3 (some .int), Cond.methodLink RL 120 yL_launch]
def wsL_law0_r13 : List Cond := [Cond.static yL_launch, Cond.codeWith yL_launch cL_launch 2 (some .int) [(0, 4, 7, 15)], Cond.methodLink RL 47 yX5_launch, Cond.instanceMethod yX5_launch, Cond.selects RX5 yX5_launch yX5_launch, Cond.code yX5_launch cX5_launch 1 none, Cond.methodLink RX5 132 yX5_unitOf, Cond.instanceMethod yX5_unitOf, Cond.selects RX5 yX5_unitOf yX5_unitOf, Cond.code yX5_unitOf cX5_unitOf 3 (some .int), Cond.methodLink RL 123 yX6_launch, Cond.instanceMethod yX6_launch, Cond.selects RX6 yX6_launch yX6_launch, Cond.code yX6_launch cX6_launch 1 none, Cond.fieldLink RX6 147 "BatchPipeModel" "isPig" "Z", Cond.fieldLink RX6 150 "BatchPipeModel" "pigBatch" "I", Cond.fieldLink RX6 153 "BatchPipeModel" "pigPlace" "I", Cond.methodLink RL 124 yL_pass, Cond.static yL_pass, Cond.codeWith yL_pass cL_pass 4 (some .int) [(0, 9, 12, 13), (0, 9, 15, 15)], Cond.methodLink RL 50 yX5_pass, Cond.instanceMethod yX5_pass, Cond.selects RX5 yX5_pass yX5_pass, Cond.code yX5_pass cX5_pass 4 (some .int)]
def wsL_law0_r14 : List Cond := [Cond.fieldLink RX5 136 "BatchPipe" "minute" "I", Cond.methodLink RX5 141 yX5_passOne, Cond.instanceMethod yX5_passOne, Cond.selects RX5 yX5_passOne yX5_passOne, Cond.code yX5_passOne cX5_passOne 2 (some .int), Cond.fieldLink RX5 214 "BatchPipe" "rateFound" "I", Cond.methodLink RX5 249 yX5_findRate, Cond.instanceMethod yX5_findRate, Cond.selects RX5 yX5_findRate yX5_findRate, Cond.code yX5_findRate cX5_findRate 2 (some .int), Cond.methodLink RX5 259 yX5_noneAbove, Cond.instanceMethod yX5_noneAbove, Cond.selects RX5 yX5_noneAbove yX5_noneAbove, Cond.code yX5_noneAbove cX5_noneAbove 4 (some .boolean), Cond.methodLink RX5 194 yX5_headAt, Cond.instanceMethod yX5_headAt, Cond.selects RX5 yX5_headAt yX5_headAt, Cond.code yX5_headAt cX5_headAt 2 (some .int), Cond.instanceMethod yX2_fromEnd, Cond.selects RX2 yX2_fromEnd yX2_fromEnd, Cond.code yX2_fromEnd cX2_fromEnd 3 (some .int), Cond.fieldLink RX2 28 "BatchPipe$Segment" "last" "I", Cond.methodLink RX5 184 yX5_batchOf, Cond.instanceMethod yX5_batchOf]
def wsL_law0_r15 : List Cond := [Cond.selects RX5 yX5_batchOf yX5_batchOf, Cond.code yX5_batchOf cX5_batchOf 3 (some (.object "BatchPipe$Batch")), Cond.methodLink RX5 197 yX5_friction, Cond.instanceMethod yX5_friction, Cond.selects RX5 yX5_friction yX5_friction, Cond.code yX5_friction cX5_friction 5 (some .int), Cond.methodLink RX5 201 yX5_atBeginning, Cond.instanceMethod yX5_atBeginning, Cond.selects RX5 yX5_atBeginning yX5_atBeginning, Cond.code yX5_atBeginning cX5_atBeginning 3 (some .int), Cond.methodLink RX5 266 Lib.Math.max.name, Cond.static Lib.Math.max.name, Cond.initialized "java/lang/Math", Cond.code Lib.Math.max.name Lib.Math.max.code 2 (some .int), Cond.methodLink RX5 252 yX5_moveOne, Cond.instanceMethod yX5_moveOne, Cond.selects RX5 yX5_moveOne yX5_moveOne, Cond.code yX5_moveOne cX5_moveOne 3 (some .boolean), Cond.methodLink RX5 281 yX5_nextBatch, Cond.instanceMethod yX5_nextBatch, Cond.selects RX5 yX5_nextBatch yX5_nextBatch, Cond.code yX5_nextBatch cX5_nextBatch 2 (some (.object "BatchPipe$Batch")), Cond.instanceMethod yX0_waiting, Cond.selects RX0 yX0_waiting yX0_waiting]
def wsL_law0_r16 : List Cond := [Cond.code yX0_waiting cX0_waiting 1 (some .int), Cond.fieldLink RX0 25 "BatchPipe$Batch" "entered" "I", Cond.instanceMethod yX1_bears, Cond.selects RX1 yX1_bears yX1_bears, Cond.code yX1_bears cX1_bears 2 (some .boolean), Cond.methodLink RX5 285 yX5_nextTap, Cond.instanceMethod yX5_nextTap, Cond.selects RX5 yX5_nextTap yX5_nextTap, Cond.code yX5_nextTap cX5_nextTap 1 (some (.object "BatchPipe$Tap")), Cond.instanceMethod yX4_takesMore, Cond.selects RX4 yX4_takesMore yX4_takesMore, Cond.code yX4_takesMore cX4_takesMore 1 (some .boolean), Cond.fieldLink RX4 21 "BatchPipe$Tap" "taken" "I", Cond.methodLink RX5 289 yX5_sendOff, Cond.instanceMethod yX5_sendOff, Cond.selects RX5 yX5_sendOff yX5_sendOff, Cond.code yX5_sendOff cX5_sendOff 5 none, Cond.methodLink RX5 307 yX5_placeOf, Cond.instanceMethod yX5_placeOf, Cond.selects RX5 yX5_placeOf yX5_placeOf, Cond.code yX5_placeOf cX5_placeOf 2 (some .int), Cond.methodLink RX5 310 yX5_pour, Cond.instanceMethod yX5_pour, Cond.selects RX5 yX5_pour yX5_pour]
def wsL_law0_r17 : List Cond := [Cond.code yX5_pour cX5_pour 6 none, Cond.methodLink RX5 164 yX5_mixOf, Cond.instanceMethod yX5_mixOf, Cond.selects RX5 yX5_mixOf yX5_mixOf, Cond.code yX5_mixOf cX5_mixOf 2 (some .int), Cond.fieldLink RX5 326 "BatchPipe" "enteredInAll" "I", Cond.methodLink RX5 335 yX5_wholeRoot, Cond.instanceMethod yX5_wholeRoot, Cond.selects RX5 yX5_wholeRoot yX5_wholeRoot, Cond.code yX5_wholeRoot cX5_wholeRoot 4 (some .int), Cond.instanceMethod yX3_take, Cond.selects RX3 yX3_take yX3_take, Cond.code yX3_take cX3_take 3 none, Cond.fieldLink RX3 18 "BatchPipe$Tank" "spilled" "I", Cond.methodLink RX3 21 Lib.Math.max.name, Cond.methodLink RX5 320 yX5_cleanUpTo, Cond.instanceMethod yX5_cleanUpTo, Cond.selects RX5 yX5_cleanUpTo yX5_cleanUpTo, Cond.code yX5_cleanUpTo cX5_cleanUpTo 3 none, Cond.methodLink RX5 296 yX5_bringIn, Cond.instanceMethod yX5_bringIn, Cond.selects RX5 yX5_bringIn yX5_bringIn, Cond.code yX5_bringIn cX5_bringIn 6 none, Cond.instanceMethod yX2_moveOn]
def wsL_law0_r18 : List Cond := [Cond.selects RX2 yX2_moveOn yX2_moveOn, Cond.code yX2_moveOn cX2_moveOn 2 none, Cond.methodLink RX5 256 yX5_soil, Cond.instanceMethod yX5_soil, Cond.selects RX5 yX5_soil yX5_soil, Cond.code yX5_soil cX5_soil 2 none, Cond.methodLink RX5 232 Lib.Math.min.name, Cond.static Lib.Math.min.name, Cond.code Lib.Math.min.name Lib.Math.min.code 2 (some .int), Cond.methodLink RL 126 yX6_pass, Cond.instanceMethod yX6_pass, Cond.selects RX6 yX6_pass yX6_pass, Cond.code yX6_pass cX6_pass 4 (some .int), Cond.fieldLink RX6 197 "BatchPipeModel" "minute" "I", Cond.methodLink RX6 213 yX6_passesMinute, Cond.instanceMethod yX6_passesMinute, Cond.selects RX6 yX6_passesMinute yX6_passesMinute, Cond.code yX6_passesMinute cX6_passesMinute 9 (some .int), Cond.fieldLink RX6 204 "BatchPipeModel" "rateNow" "I", Cond.fieldLink RX6 191 "BatchPipeModel" "isLeaking" "Z", Cond.methodLink RX6 200 yX6_rateThatGoes, Cond.instanceMethod yX6_rateThatGoes, Cond.selects RX6 yX6_rateThatGoes yX6_rateThatGoes, Cond.code yX6_rateThatGoes cX6_rateThatGoes 4 (some .int)]
def wsL_law0_r19 : List Cond := [Cond.methodLink RX6 160 yX6_pressureOf, Cond.instanceMethod yX6_pressureOf, Cond.selects RX6 yX6_pressureOf yX6_pressureOf, Cond.code yX6_pressureOf cX6_pressureOf 8 (some .int), Cond.methodLink RX6 156 yX6_lastOf, Cond.instanceMethod yX6_lastOf, Cond.selects RX6 yX6_lastOf yX6_lastOf, Cond.code yX6_lastOf cX6_lastOf 4 (some .int), Cond.methodLink RX6 207 yX6_entering, Cond.instanceMethod yX6_entering, Cond.selects RX6 yX6_entering yX6_entering, Cond.code yX6_entering cX6_entering 3 (some .int), Cond.methodLink RX6 180 yX6_isIn, Cond.static yX6_isIn, Cond.code yX6_isIn cX6_isIn 2 (some .boolean), Cond.methodLink RX6 210 yX6_moves, Cond.instanceMethod yX6_moves, Cond.selects RX6 yX6_moves yX6_moves, Cond.code yX6_moves cX6_moves 5 none, Cond.methodLink RX6 194 yX6_goesAway, Cond.instanceMethod yX6_goesAway, Cond.selects RX6 yX6_goesAway yX6_goesAway, Cond.code yX6_goesAway cX6_goesAway 4 none, Cond.methodLink RX6 183 yX6_clean]
def wsL_law0_r20 : List Cond := [Cond.instanceMethod yX6_clean, Cond.selects RX6 yX6_clean yX6_clean, Cond.code yX6_clean cX6_clean 3 none, Cond.methodLink RX6 187 yX6_comesInto, Cond.instanceMethod yX6_comesInto, Cond.selects RX6 yX6_comesInto yX6_comesInto, Cond.code yX6_comesInto cX6_comesInto 7 none, Cond.fieldLink RX6 170 "BatchPipeModel" "spilled" "I", Cond.methodLink RX6 173 yX6_isMixedAhead, Cond.instanceMethod yX6_isMixedAhead, Cond.selects RX6 yX6_isMixedAhead yX6_isMixedAhead, Cond.code yX6_isMixedAhead cX6_isMixedAhead 3 (some .boolean), Cond.methodLink RX6 167 yX6_mixOf, Cond.instanceMethod yX6_mixOf, Cond.selects RX6 yX6_mixOf yX6_mixOf, Cond.code yX6_mixOf cX6_mixOf 2 (some .int), Cond.methodLink RX6 164 yX6_root, Cond.static yX6_root, Cond.code yX6_root cX6_root 2 (some .int), Cond.methodLink RX6 177 yX6_isMixedBehind, Cond.instanceMethod yX6_isMixedBehind, Cond.selects RX6 yX6_isMixedBehind yX6_isMixedBehind, Cond.code yX6_isMixedBehind cX6_isMixedBehind 4 (some .boolean), Cond.methodLink RL 127 yL_batch]
def wsL_law0_r21 : List Cond := [Cond.static yL_batch, Cond.codeWith yL_batch cL_batch 5 (some .int) [(0, 10, 13, 21), (0, 10, 17, 13)], Cond.methodLink RL 53 yX5_batch, Cond.instanceMethod yX5_batch, Cond.selects RX5 yX5_batch yX5_batch, Cond.code yX5_batch cX5_batch 4 (some .int), Cond.instanceMethod yX0_inPipe, Cond.selects RX0 yX0_inPipe yX0_inPipe, Cond.code yX0_inPipe cX0_inPipe 1 (some .int), Cond.fieldLink RX0 28 "BatchPipe$Batch" "left" "I", Cond.fieldLink RX0 31 "BatchPipe$Batch" "dropped" "I", Cond.fieldLink RX0 34 "BatchPipe$Batch" "leaked" "I", Cond.methodLink RL 130 yX6_batch, Cond.instanceMethod yX6_batch, Cond.selects RX6 yX6_batch yX6_batch, Cond.code yX6_batch cX6_batch 3 (some .int), Cond.methodLink RX6 216 yX6_isBatch, Cond.instanceMethod yX6_isBatch, Cond.selects RX6 yX6_isBatch yX6_isBatch, Cond.code yX6_isBatch cX6_isBatch 2 (some .boolean), Cond.methodLink RL 131 yL_unit, Cond.static yL_unit, Cond.codeWith yL_unit cL_unit 4 (some .int) [(0, 9, 12, 21)], Cond.methodLink RL 57 yX5_unit]
def wsL_law0_r22 : List Cond := [Cond.instanceMethod yX5_unit, Cond.selects RX5 yX5_unit yX5_unit, Cond.code yX5_unit cX5_unit 4 (some .int), Cond.methodLink RX5 175 yX5_checkUnit, Cond.instanceMethod yX5_checkUnit, Cond.selects RX5 yX5_checkUnit yX5_checkUnit, Cond.code yX5_checkUnit cX5_checkUnit 2 none, Cond.methodLink RL 133 yX6_unit, Cond.instanceMethod yX6_unit, Cond.selects RX6 yX6_unit yX6_unit, Cond.code yX6_unit cX6_unit 2 (some .int), Cond.methodLink RL 134 yL_unitAnew, Cond.static yL_unitAnew, Cond.codeWith yL_unitAnew cL_unitAnew 4 (some .int) [(0, 9, 12, 21)], Cond.methodLink RL 60 yX5_unitAnew, Cond.instanceMethod yX5_unitAnew, Cond.selects RX5 yX5_unitAnew yX5_unitAnew, Cond.code yX5_unitAnew cX5_unitAnew 4 (some .int), Cond.methodLink RL 136 yX6_unitAnew, Cond.instanceMethod yX6_unitAnew, Cond.selects RX6 yX6_unitAnew yX6_unitAnew, Cond.code yX6_unitAnew cX6_unitAnew 2 (some .int), Cond.methodLink RX6 219 yX6_unit, Cond.methodLink RL 137 yL_pressure]
def wsL_law0_r23 : List Cond := [Cond.static yL_pressure, Cond.codeWith yL_pressure cL_pressure 5 (some .int) [(0, 10, 13, 21), (0, 10, 17, 13), (0, 10, 21, 15)], Cond.methodLink RL 63 yX5_pressure, Cond.instanceMethod yX5_pressure, Cond.selects RX5 yX5_pressure yX5_pressure, Cond.code yX5_pressure cX5_pressure 5 (some .int), Cond.methodLink RL 139 yX6_pressure, Cond.instanceMethod yX6_pressure, Cond.selects RX6 yX6_pressure yX6_pressure, Cond.code yX6_pressure cX6_pressure 3 (some .int), Cond.methodLink RX6 222 yX6_isSegment, Cond.instanceMethod yX6_isSegment, Cond.selects RX6 yX6_isSegment yX6_isSegment, Cond.code yX6_isSegment cX6_isSegment 2 (some .boolean), Cond.methodLink RL 140 yL_tank, Cond.static yL_tank, Cond.codeWith yL_tank cL_tank 5 (some .int) [(0, 10, 13, 21), (0, 10, 17, 13)], Cond.methodLink RL 66 yX5_tank, Cond.instanceMethod yX5_tank, Cond.selects RX5 yX5_tank yX5_tank, Cond.code yX5_tank cX5_tank 3 (some .int), Cond.methodLink RL 142 yX6_tank, Cond.instanceMethod yX6_tank, Cond.selects RX6 yX6_tank yX6_tank]
def wsL_law0_r24 : List Cond := [Cond.code yX6_tank cX6_tank 3 (some .int), Cond.methodLink RL 143 yL_pipe, Cond.static yL_pipe, Cond.codeWith yL_pipe cL_pipe 4 (some .int) [(0, 9, 12, 13)], Cond.methodLink RL 69 yX5_pipe, Cond.instanceMethod yX5_pipe, Cond.selects RX5 yX5_pipe yX5_pipe, Cond.code yX5_pipe cX5_pipe 2 (some .int), Cond.methodLink RX5 217 yX5_latestBalance, Cond.instanceMethod yX5_latestBalance, Cond.selects RX5 yX5_latestBalance yX5_latestBalance, Cond.code yX5_latestBalance cX5_latestBalance 3 (some .int), Cond.methodLink RX5 220 yX5_spilledInAll, Cond.instanceMethod yX5_spilledInAll, Cond.selects RX5 yX5_spilledInAll yX5_spilledInAll, Cond.code yX5_spilledInAll cX5_spilledInAll 3 (some .int), Cond.methodLink RL 145 yX6_pipe, Cond.instanceMethod yX6_pipe, Cond.selects RX6 yX6_pipe yX6_pipe, Cond.code yX6_pipe cX6_pipe 2 (some .int), Cond.methodLink RX6 225 yX6_balance, Cond.instanceMethod yX6_balance, Cond.selects RX6 yX6_balance yX6_balance, Cond.code yX6_balance cX6_balance 3 (some .int)]
def wsL_law0_r25 : List Cond := [Cond.methodLink RL 146 yL_dirt, Cond.static yL_dirt, Cond.codeWith yL_dirt cL_dirt 4 (some .int) [(0, 9, 12, 21)], Cond.methodLink RL 72 yX5_dirt, Cond.instanceMethod yX5_dirt, Cond.selects RX5 yX5_dirt yX5_dirt, Cond.code yX5_dirt cX5_dirt 2 (some .int), Cond.methodLink RL 148 yX6_dirt, Cond.instanceMethod yX6_dirt, Cond.selects RX6 yX6_dirt yX6_dirt, Cond.code yX6_dirt cX6_dirt 2 (some .int), Cond.methodLink RL 149 yL_share, Cond.static yL_share, Cond.codeWith yL_share cL_share 5 (some .int) [(0, 10, 13, 21), (0, 10, 17, 13)], Cond.methodLink RL 75 yX5_share, Cond.instanceMethod yX5_share, Cond.selects RX5 yX5_share yX5_share, Cond.code yX5_share cX5_share 6 (some .int), Cond.methodLink RX5 226 yX5_waitingFor, Cond.instanceMethod yX5_waitingFor, Cond.selects RX5 yX5_waitingFor yX5_waitingFor, Cond.code yX5_waitingFor cX5_waitingFor 4 (some .int), Cond.methodLink RX5 229 yX5_claimOf, Cond.instanceMethod yX5_claimOf]
def wsL_law0_r26 : List Cond := [Cond.selects RX5 yX5_claimOf yX5_claimOf, Cond.code yX5_claimOf cX5_claimOf 4 (some .int), Cond.methodLink RL 151 yX6_share, Cond.instanceMethod yX6_share, Cond.selects RX6 yX6_share yX6_share, Cond.code yX6_share cX6_share 6 (some .int), Cond.methodLink RX6 228 yX6_waits, Cond.instanceMethod yX6_waits, Cond.selects RX6 yX6_waits yX6_waits, Cond.code yX6_waits cX6_waits 4 (some .int), Cond.methodLink RX6 231 yX6_enteredOf, Cond.instanceMethod yX6_enteredOf, Cond.selects RX6 yX6_enteredOf yX6_enteredOf, Cond.code yX6_enteredOf cX6_enteredOf 4 (some .int)]
def wsL_law0 : List Cond := (wsL_law0_r1 ++ (wsL_law0_r2 ++ (wsL_law0_r3 ++ (wsL_law0_r4 ++ (wsL_law0_r5 ++ (wsL_law0_r6 ++ (wsL_law0_r7 ++ (wsL_law0_r8 ++ (wsL_law0_r9 ++ (wsL_law0_r10 ++ (wsL_law0_r11 ++ (wsL_law0_r12 ++ (wsL_law0_r13 ++ (wsL_law0_r14 ++ (wsL_law0_r15 ++ (wsL_law0_r16 ++ (wsL_law0_r17 ++ (wsL_law0_r18 ++ (wsL_law0_r19 ++ (wsL_law0_r20 ++ (wsL_law0_r21 ++ (wsL_law0_r22 ++ (wsL_law0_r23 ++ (wsL_law0_r24 ++ (wsL_law0_r25 ++ wsL_law0_r26))))))))))))))))))))))))) ++ wsX50 ++ wsX60 ++ wsX40 ++ wsX20 ++ wsX10 ++ wsX00 ++ wsX30 ++ ([] : List Cond)
def wsL_law : List Cond := wsL_law0 ++ (vx_atS RX5 84 "java/lang/IllegalStateException" ["java/lang/RuntimeException", "java/lang/Exception"]).filter goodWord ++ (vx_atS RX5 98 "java/lang/IllegalArgumentException" ["java/lang/RuntimeException", "java/lang/Exception"]).filter goodWord ++ (vx_atS RX5 148 "java/lang/IndexOutOfBoundsException" ["java/lang/RuntimeException", "java/lang/Exception"]).filter goodWord
abbrev vwCl : List vw_C := [(RX0, TX0, 13), (RX1, TX1, 5), (RX2, TX2, 7), (RX3, TX3, 4), (RX4, TX4, 4), (RX5, TX5, 17), (RX6, TX6, 45)]
end
section
theorem dX0_init_0 : decode cX0_init 0 = .ok (.aload_n 0, 1) := by decide +kernel
theorem dX0_init_1 : decode cX0_init 1 = .ok (.invokespecial 3, 3) := by decide +kernel
theorem dX0_init_4 : decode cX0_init 4 = .ok (.aload_n 0, 1) := by decide +kernel
theorem dX0_init_5 : decode cX0_init 5 = .ok (.iconst (-1), 1) := by decide +kernel
theorem dX0_init_6 : decode cX0_init 6 = .ok (.putfield 9, 3) := by decide +kernel
theorem dX0_init_9 : decode cX0_init 9 = .ok (.aload_n 0, 1) := by decide +kernel
theorem dX0_init_10 : decode cX0_init 10 = .ok (.iload_n 1, 1) := by decide +kernel
theorem dX0_init_11 : decode cX0_init 11 = .ok (.putfield 15, 3) := by decide +kernel
theorem dX0_init_14 : decode cX0_init 14 = .ok (.aload_n 0, 1) := by decide +kernel
theorem dX0_init_15 : decode cX0_init 15 = .ok (.aload_n 2, 1) := by decide +kernel
theorem dX0_init_16 : decode cX0_init 16 = .ok (.putfield 18, 3) := by decide +kernel
theorem dX0_init_19 : decode cX0_init 19 = .ok (.return_, 1) := by decide +kernel
theorem dX0_tell_0 : decode cX0_tell 0 = .ok (.aload_n 0, 1) := by decide +kernel
theorem dX0_tell_1 : decode cX0_tell 1 = .ok (.iload_n 1, 1) := by decide +kernel
theorem dX0_tell_2 : decode cX0_tell 2 = .ok (.putfield 9, 3) := by decide +kernel
theorem dX0_tell_5 : decode cX0_tell 5 = .ok (.aload_n 0, 1) := by decide +kernel
theorem dX0_tell_6 : decode cX0_tell 6 = .ok (.aload_n 2, 1) := by decide +kernel
theorem dX0_tell_7 : decode cX0_tell 7 = .ok (.putfield 18, 3) := by decide +kernel
theorem dX0_tell_10 : decode cX0_tell 10 = .ok (.aload_n 0, 1) := by decide +kernel
theorem dX0_tell_11 : decode cX0_tell 11 = .ok (.iload_n 3, 1) := by decide +kernel
theorem dX0_tell_12 : decode cX0_tell 12 = .ok (.putfield 22, 3) := by decide +kernel
theorem dX0_tell_15 : decode cX0_tell 15 = .ok (.return_, 1) := by decide +kernel
theorem dX0_inPipe_0 : decode cX0_inPipe 0 = .ok (.aload_n 0, 1) := by decide +kernel
theorem dX0_inPipe_1 : decode cX0_inPipe 1 = .ok (.getfield 25, 3) := by decide +kernel
theorem dX0_inPipe_4 : decode cX0_inPipe 4 = .ok (.aload_n 0, 1) := by decide +kernel
theorem dX0_inPipe_5 : decode cX0_inPipe 5 = .ok (.getfield 28, 3) := by decide +kernel
theorem dX0_inPipe_8 : decode cX0_inPipe 8 = .ok (.isub, 1) := by decide +kernel
theorem dX0_inPipe_9 : decode cX0_inPipe 9 = .ok (.aload_n 0, 1) := by decide +kernel
theorem dX0_inPipe_10 : decode cX0_inPipe 10 = .ok (.getfield 31, 3) := by decide +kernel
theorem dX0_inPipe_13 : decode cX0_inPipe 13 = .ok (.isub, 1) := by decide +kernel
theorem dX0_inPipe_14 : decode cX0_inPipe 14 = .ok (.aload_n 0, 1) := by decide +kernel
theorem dX0_inPipe_15 : decode cX0_inPipe 15 = .ok (.getfield 34, 3) := by decide +kernel
theorem dX0_inPipe_18 : decode cX0_inPipe 18 = .ok (.isub, 1) := by decide +kernel
theorem dX0_inPipe_19 : decode cX0_inPipe 19 = .ok (.ireturn, 1) := by decide +kernel
theorem dX0_waiting_0 : decode cX0_waiting 0 = .ok (.aload_n 0, 1) := by decide +kernel
theorem dX0_waiting_1 : decode cX0_waiting 1 = .ok (.getfield 22, 3) := by decide +kernel
theorem dX0_waiting_4 : decode cX0_waiting 4 = .ok (.aload_n 0, 1) := by decide +kernel
theorem dX0_waiting_5 : decode cX0_waiting 5 = .ok (.getfield 25, 3) := by decide +kernel
theorem dX0_waiting_8 : decode cX0_waiting 8 = .ok (.isub, 1) := by decide +kernel
theorem dX0_waiting_9 : decode cX0_waiting 9 = .ok (.ireturn, 1) := by decide +kernel
theorem dX1_init_0 : decode cX1_init 0 = .ok (.aload_n 0, 1) := by decide +kernel
theorem dX1_init_1 : decode cX1_init 1 = .ok (.invokespecial 1, 3) := by decide +kernel
theorem dX1_init_4 : decode cX1_init 4 = .ok (.aload_n 0, 1) := by decide +kernel
theorem dX1_init_5 : decode cX1_init 5 = .ok (.bipush 8, 2) := by decide +kernel
theorem dX1_init_7 : decode cX1_init 7 = .ok (.putfield 7, 3) := by decide +kernel
theorem dX1_init_10 : decode cX1_init 10 = .ok (.aload_n 0, 1) := by decide +kernel
theorem dX1_init_11 : decode cX1_init 11 = .ok (.iconst 3, 1) := by decide +kernel
theorem dX1_init_12 : decode cX1_init 12 = .ok (.putfield 13, 3) := by decide +kernel
theorem dX1_init_15 : decode cX1_init 15 = .ok (.aload_n 0, 1) := by decide +kernel
theorem dX1_init_16 : decode cX1_init 16 = .ok (.iload_n 1, 1) := by decide +kernel
theorem dX1_init_17 : decode cX1_init 17 = .ok (.putfield 16, 3) := by decide +kernel
theorem dX1_init_20 : decode cX1_init 20 = .ok (.aload_n 0, 1) := by decide +kernel
theorem dX1_init_21 : decode cX1_init 21 = .ok (.iload_n 1, 1) := by decide +kernel
theorem dX1_init_22 : decode cX1_init 22 = .ok (.putfield 19, 3) := by decide +kernel
theorem dX1_init_25 : decode cX1_init 25 = .ok (.return_, 1) := by decide +kernel
theorem dX1_tell_0 : decode cX1_tell 0 = .ok (.aload_n 0, 1) := by decide +kernel
theorem dX1_tell_1 : decode cX1_tell 1 = .ok (.iload_n 1, 1) := by decide +kernel
theorem dX1_tell_2 : decode cX1_tell 2 = .ok (.putfield 7, 3) := by decide +kernel
theorem dX1_tell_5 : decode cX1_tell 5 = .ok (.aload_n 0, 1) := by decide +kernel
theorem dX1_tell_6 : decode cX1_tell 6 = .ok (.iload_n 2, 1) := by decide +kernel
theorem dX1_tell_7 : decode cX1_tell 7 = .ok (.putfield 13, 3) := by decide +kernel
theorem dX1_tell_10 : decode cX1_tell 10 = .ok (.aload_n 0, 1) := by decide +kernel
theorem dX1_tell_11 : decode cX1_tell 11 = .ok (.iload_n 3, 1) := by decide +kernel
theorem dX1_tell_12 : decode cX1_tell 12 = .ok (.putfield 19, 3) := by decide +kernel
theorem dX1_tell_15 : decode cX1_tell 15 = .ok (.aload_n 0, 1) := by decide +kernel
theorem dX1_tell_16 : decode cX1_tell 16 = .ok (.iload 4, 2) := by decide +kernel
theorem dX1_tell_18 : decode cX1_tell 18 = .ok (.putfield 22, 3) := by decide +kernel
theorem dX1_tell_21 : decode cX1_tell 21 = .ok (.return_, 1) := by decide +kernel
theorem dX1_bears_0 : decode cX1_bears 0 = .ok (.aload_n 0, 1) := by decide +kernel
theorem dX1_bears_1 : decode cX1_bears 1 = .ok (.getfield 22, 3) := by decide +kernel
theorem dX1_bears_4 : decode cX1_bears 4 = .ok (.iconst 1, 1) := by decide +kernel
theorem dX1_bears_5 : decode cX1_bears 5 = .ok (.aload_n 1, 1) := by decide +kernel
theorem dX1_bears_6 : decode cX1_bears 6 = .ok (.getfield 16, 3) := by decide +kernel
theorem dX1_bears_9 : decode cX1_bears 9 = .ok (.ishl, 1) := by decide +kernel
theorem dX1_bears_10 : decode cX1_bears 10 = .ok (.iand, 1) := by decide +kernel
theorem dX1_bears_11 : decode cX1_bears 11 = .ok (.ifCond .ne 21, 3) := by decide +kernel
theorem dX1_bears_14 : decode cX1_bears 14 = .ok (.aload_n 1, 1) := by decide +kernel
theorem dX1_bears_15 : decode cX1_bears 15 = .ok (.getfield 22, 3) := by decide +kernel
theorem dX1_bears_18 : decode cX1_bears 18 = .ok (.iconst 1, 1) := by decide +kernel
theorem dX1_bears_19 : decode cX1_bears 19 = .ok (.aload_n 0, 1) := by decide +kernel
theorem dX1_bears_20 : decode cX1_bears 20 = .ok (.getfield 16, 3) := by decide +kernel
theorem dX1_bears_23 : decode cX1_bears 23 = .ok (.ishl, 1) := by decide +kernel
theorem dX1_bears_24 : decode cX1_bears 24 = .ok (.iand, 1) := by decide +kernel
theorem dX1_bears_25 : decode cX1_bears 25 = .ok (.ifCond .ne 7, 3) := by decide +kernel
theorem dX1_bears_28 : decode cX1_bears 28 = .ok (.iconst 1, 1) := by decide +kernel
theorem dX1_bears_29 : decode cX1_bears 29 = .ok (.goto 4, 3) := by decide +kernel
theorem dX1_bears_32 : decode cX1_bears 32 = .ok (.iconst 0, 1) := by decide +kernel
theorem dX1_bears_33 : decode cX1_bears 33 = .ok (.ireturn, 1) := by decide +kernel
theorem dX2_init_0 : decode cX2_init 0 = .ok (.aload_n 0, 1) := by decide +kernel
theorem dX2_init_1 : decode cX2_init 1 = .ok (.invokespecial 3, 3) := by decide +kernel
theorem dX2_init_4 : decode cX2_init 4 = .ok (.aload_n 0, 1) := by decide +kernel
theorem dX2_init_5 : decode cX2_init 5 = .ok (.bipush 60, 2) := by decide +kernel
theorem dX2_init_7 : decode cX2_init 7 = .ok (.newarray .int, 2) := by decide +kernel
theorem dX2_init_9 : decode cX2_init 9 = .ok (.putfield 9, 3) := by decide +kernel
theorem dX2_init_12 : decode cX2_init 12 = .ok (.aload_n 0, 1) := by decide +kernel
theorem dX2_init_13 : decode cX2_init 13 = .ok (.bipush 6, 2) := by decide +kernel
theorem dX2_init_15 : decode cX2_init 15 = .ok (.newarray .int, 2) := by decide +kernel
theorem dX2_init_17 : decode cX2_init 17 = .ok (.putfield 15, 3) := by decide +kernel
theorem dX2_init_20 : decode cX2_init 20 = .ok (.aload_n 0, 1) := by decide +kernel
theorem dX2_init_21 : decode cX2_init 21 = .ok (.iconst 5, 1) := by decide +kernel
theorem dX2_init_22 : decode cX2_init 22 = .ok (.putfield 18, 3) := by decide +kernel
theorem dX2_init_25 : decode cX2_init 25 = .ok (.return_, 1) := by decide +kernel
theorem dX2_tell_0 : decode cX2_tell 0 = .ok (.aload_n 0, 1) := by decide +kernel
theorem dX2_tell_1 : decode cX2_tell 1 = .ok (.iload_n 1, 1) := by decide +kernel
theorem dX2_tell_2 : decode cX2_tell 2 = .ok (.putfield 18, 3) := by decide +kernel
theorem dX2_tell_5 : decode cX2_tell 5 = .ok (.aload_n 0, 1) := by decide +kernel
theorem dX2_tell_6 : decode cX2_tell 6 = .ok (.iload_n 2, 1) := by decide +kernel
theorem dX2_tell_7 : decode cX2_tell 7 = .ok (.putfield 22, 3) := by decide +kernel
theorem dX2_tell_10 : decode cX2_tell 10 = .ok (.aload_n 0, 1) := by decide +kernel
theorem dX2_tell_11 : decode cX2_tell 11 = .ok (.iload_n 3, 1) := by decide +kernel
theorem dX2_tell_12 : decode cX2_tell 12 = .ok (.putfield 25, 3) := by decide +kernel
theorem dX2_tell_15 : decode cX2_tell 15 = .ok (.return_, 1) := by decide +kernel
theorem dX2_fill_0 : decode cX2_fill 0 = .ok (.iconst 0, 1) := by decide +kernel
theorem dX2_fill_1 : decode cX2_fill 1 = .ok (.istore_n 3, 1) := by decide +kernel
theorem dX2_fill_2 : decode cX2_fill 2 = .ok (.iload_n 3, 1) := by decide +kernel
theorem dX2_fill_3 : decode cX2_fill 3 = .ok (.aload_n 0, 1) := by decide +kernel
theorem dX2_fill_4 : decode cX2_fill 4 = .ok (.getfield 18, 3) := by decide +kernel
theorem dX2_fill_7 : decode cX2_fill 7 = .ok (.if_icmp .ge 18, 3) := by decide +kernel
theorem dX2_fill_10 : decode cX2_fill 10 = .ok (.aload_n 0, 1) := by decide +kernel
theorem dX2_fill_11 : decode cX2_fill 11 = .ok (.getfield 9, 3) := by decide +kernel
theorem dX2_fill_14 : decode cX2_fill 14 = .ok (.iload_n 3, 1) := by decide +kernel
theorem dX2_fill_15 : decode cX2_fill 15 = .ok (.iload_n 1, 1) := by decide +kernel
theorem dX2_fill_16 : decode cX2_fill 16 = .ok (.iload_n 3, 1) := by decide +kernel
theorem dX2_fill_17 : decode cX2_fill 17 = .ok (.iadd, 1) := by decide +kernel
theorem dX2_fill_18 : decode cX2_fill 18 = .ok (.iastore, 1) := by decide +kernel
theorem dX2_fill_19 : decode cX2_fill 19 = .ok (.iinc 3 1, 3) := by decide +kernel
theorem dX2_fill_22 : decode cX2_fill 22 = .ok (.goto (-20), 3) := by decide +kernel
theorem dX2_fill_25 : decode cX2_fill 25 = .ok (.aload_n 0, 1) := by decide +kernel
theorem dX2_fill_26 : decode cX2_fill 26 = .ok (.getfield 15, 3) := by decide +kernel
theorem dX2_fill_29 : decode cX2_fill 29 = .ok (.iload_n 2, 1) := by decide +kernel
theorem dX2_fill_30 : decode cX2_fill 30 = .ok (.aload_n 0, 1) := by decide +kernel
theorem dX2_fill_31 : decode cX2_fill 31 = .ok (.getfield 18, 3) := by decide +kernel
theorem dX2_fill_34 : decode cX2_fill 34 = .ok (.iastore, 1) := by decide +kernel
theorem dX2_fill_35 : decode cX2_fill 35 = .ok (.return_, 1) := by decide +kernel
theorem dX2_fromEnd_0 : decode cX2_fromEnd 0 = .ok (.aload_n 0, 1) := by decide +kernel
theorem dX2_fromEnd_1 : decode cX2_fromEnd 1 = .ok (.getfield 28, 3) := by decide +kernel
theorem dX2_fromEnd_4 : decode cX2_fromEnd 4 = .ok (.iload_n 1, 1) := by decide +kernel
theorem dX2_fromEnd_5 : decode cX2_fromEnd 5 = .ok (.iadd, 1) := by decide +kernel
theorem dX2_fromEnd_6 : decode cX2_fromEnd 6 = .ok (.istore_n 2, 1) := by decide +kernel
theorem dX2_fromEnd_7 : decode cX2_fromEnd 7 = .ok (.iload_n 2, 1) := by decide +kernel
theorem dX2_fromEnd_8 : decode cX2_fromEnd 8 = .ok (.aload_n 0, 1) := by decide +kernel
theorem dX2_fromEnd_9 : decode cX2_fromEnd 9 = .ok (.getfield 18, 3) := by decide +kernel
theorem dX2_fromEnd_12 : decode cX2_fromEnd 12 = .ok (.if_icmp .lt 10, 3) := by decide +kernel
theorem dX2_fromEnd_15 : decode cX2_fromEnd 15 = .ok (.iload_n 2, 1) := by decide +kernel
theorem dX2_fromEnd_16 : decode cX2_fromEnd 16 = .ok (.aload_n 0, 1) := by decide +kernel
theorem dX2_fromEnd_17 : decode cX2_fromEnd 17 = .ok (.getfield 18, 3) := by decide +kernel
theorem dX2_fromEnd_20 : decode cX2_fromEnd 20 = .ok (.isub, 1) := by decide +kernel
theorem dX2_fromEnd_21 : decode cX2_fromEnd 21 = .ok (.istore_n 2, 1) := by decide +kernel
theorem dX2_fromEnd_22 : decode cX2_fromEnd 22 = .ok (.iload_n 2, 1) := by decide +kernel
theorem dX2_fromEnd_23 : decode cX2_fromEnd 23 = .ok (.ifCond .lt 20, 3) := by decide +kernel
theorem dX2_fromEnd_26 : decode cX2_fromEnd 26 = .ok (.iload_n 2, 1) := by decide +kernel
theorem dX2_fromEnd_27 : decode cX2_fromEnd 27 = .ok (.aload_n 0, 1) := by decide +kernel
theorem dX2_fromEnd_28 : decode cX2_fromEnd 28 = .ok (.getfield 18, 3) := by decide +kernel
theorem dX2_fromEnd_31 : decode cX2_fromEnd 31 = .ok (.if_icmp .ge 12, 3) := by decide +kernel
theorem dX2_fromEnd_34 : decode cX2_fromEnd 34 = .ok (.aload_n 0, 1) := by decide +kernel
theorem dX2_fromEnd_35 : decode cX2_fromEnd 35 = .ok (.getfield 9, 3) := by decide +kernel
theorem dX2_fromEnd_38 : decode cX2_fromEnd 38 = .ok (.iload_n 2, 1) := by decide +kernel
theorem dX2_fromEnd_39 : decode cX2_fromEnd 39 = .ok (.iaload, 1) := by decide +kernel
theorem dX2_fromEnd_40 : decode cX2_fromEnd 40 = .ok (.goto 4, 3) := by decide +kernel
theorem dX2_fromEnd_43 : decode cX2_fromEnd 43 = .ok (.iconst 0, 1) := by decide +kernel
theorem dX2_fromEnd_44 : decode cX2_fromEnd 44 = .ok (.ireturn, 1) := by decide +kernel
theorem dX2_moveOn_0 : decode cX2_moveOn 0 = .ok (.aload_n 0, 1) := by decide +kernel
theorem dX2_moveOn_1 : decode cX2_moveOn 1 = .ok (.getfield 9, 3) := by decide +kernel
theorem dX2_moveOn_4 : decode cX2_moveOn 4 = .ok (.aload_n 0, 1) := by decide +kernel
theorem dX2_moveOn_5 : decode cX2_moveOn 5 = .ok (.getfield 28, 3) := by decide +kernel
theorem dX2_moveOn_8 : decode cX2_moveOn 8 = .ok (.iload_n 1, 1) := by decide +kernel
theorem dX2_moveOn_9 : decode cX2_moveOn 9 = .ok (.iastore, 1) := by decide +kernel
theorem dX2_moveOn_10 : decode cX2_moveOn 10 = .ok (.aload_n 0, 1) := by decide +kernel
theorem dX2_moveOn_11 : decode cX2_moveOn 11 = .ok (.aload_n 0, 1) := by decide +kernel
theorem dX2_moveOn_12 : decode cX2_moveOn 12 = .ok (.getfield 28, 3) := by decide +kernel
theorem dX2_moveOn_15 : decode cX2_moveOn 15 = .ok (.iconst 1, 1) := by decide +kernel
theorem dX2_moveOn_16 : decode cX2_moveOn 16 = .ok (.iadd, 1) := by decide +kernel
theorem dX2_moveOn_17 : decode cX2_moveOn 17 = .ok (.aload_n 0, 1) := by decide +kernel
theorem dX2_moveOn_18 : decode cX2_moveOn 18 = .ok (.getfield 18, 3) := by decide +kernel
theorem dX2_moveOn_21 : decode cX2_moveOn 21 = .ok (.if_icmp .ge 12, 3) := by decide +kernel
theorem dX2_moveOn_24 : decode cX2_moveOn 24 = .ok (.aload_n 0, 1) := by decide +kernel
theorem dX2_moveOn_25 : decode cX2_moveOn 25 = .ok (.getfield 28, 3) := by decide +kernel
theorem dX2_moveOn_28 : decode cX2_moveOn 28 = .ok (.iconst 1, 1) := by decide +kernel
theorem dX2_moveOn_29 : decode cX2_moveOn 29 = .ok (.iadd, 1) := by decide +kernel
theorem dX2_moveOn_30 : decode cX2_moveOn 30 = .ok (.goto 4, 3) := by decide +kernel
theorem dX2_moveOn_33 : decode cX2_moveOn 33 = .ok (.iconst 0, 1) := by decide +kernel
theorem dX2_moveOn_34 : decode cX2_moveOn 34 = .ok (.putfield 28, 3) := by decide +kernel
theorem dX2_moveOn_37 : decode cX2_moveOn 37 = .ok (.return_, 1) := by decide +kernel
theorem dX3_init_0 : decode cX3_init 0 = .ok (.aload_n 0, 1) := by decide +kernel
theorem dX3_init_1 : decode cX3_init 1 = .ok (.invokespecial 3, 3) := by decide +kernel
theorem dX3_init_4 : decode cX3_init 4 = .ok (.aload_n 0, 1) := by decide +kernel
theorem dX3_init_5 : decode cX3_init 5 = .ok (.iconst (-1), 1) := by decide +kernel
theorem dX3_init_6 : decode cX3_init 6 = .ok (.putfield 9, 3) := by decide +kernel
theorem dX3_init_9 : decode cX3_init 9 = .ok (.return_, 1) := by decide +kernel
theorem dX3_take_0 : decode cX3_take 0 = .ok (.aload_n 0, 1) := by decide +kernel
theorem dX3_take_1 : decode cX3_take 1 = .ok (.getfield 15, 3) := by decide +kernel
theorem dX3_take_4 : decode cX3_take 4 = .ok (.bipush 100, 2) := by decide +kernel
theorem dX3_take_6 : decode cX3_take 6 = .ok (.if_icmp .lt 14, 3) := by decide +kernel
theorem dX3_take_9 : decode cX3_take 9 = .ok (.aload_n 0, 1) := by decide +kernel
theorem dX3_take_10 : decode cX3_take 10 = .ok (.dup, 1) := by decide +kernel
theorem dX3_take_11 : decode cX3_take 11 = .ok (.getfield 18, 3) := by decide +kernel
theorem dX3_take_14 : decode cX3_take 14 = .ok (.iconst 1, 1) := by decide +kernel
theorem dX3_take_15 : decode cX3_take 15 = .ok (.iadd, 1) := by decide +kernel
theorem dX3_take_16 : decode cX3_take 16 = .ok (.putfield 18, 3) := by decide +kernel
theorem dX3_take_19 : decode cX3_take 19 = .ok (.return_, 1) := by decide +kernel
theorem dX3_take_20 : decode cX3_take 20 = .ok (.aload_n 0, 1) := by decide +kernel
theorem dX3_take_21 : decode cX3_take 21 = .ok (.dup, 1) := by decide +kernel
theorem dX3_take_22 : decode cX3_take 22 = .ok (.getfield 15, 3) := by decide +kernel
theorem dX3_take_25 : decode cX3_take 25 = .ok (.iconst 1, 1) := by decide +kernel
theorem dX3_take_26 : decode cX3_take 26 = .ok (.iadd, 1) := by decide +kernel
theorem dX3_take_27 : decode cX3_take 27 = .ok (.putfield 15, 3) := by decide +kernel
theorem dX3_take_30 : decode cX3_take 30 = .ok (.aload_n 0, 1) := by decide +kernel
theorem dX3_take_31 : decode cX3_take 31 = .ok (.aload_n 0, 1) := by decide +kernel
theorem dX3_take_32 : decode cX3_take 32 = .ok (.getfield 9, 3) := by decide +kernel
theorem dX3_take_35 : decode cX3_take 35 = .ok (.iload_n 1, 1) := by decide +kernel
theorem dX3_take_36 : decode cX3_take 36 = .ok (.invokestatic 21, 3) := by decide +kernel
theorem dX3_take_39 : decode cX3_take 39 = .ok (.putfield 9, 3) := by decide +kernel
theorem dX3_take_42 : decode cX3_take 42 = .ok (.aload_n 0, 1) := by decide +kernel
theorem dX3_take_43 : decode cX3_take 43 = .ok (.dup, 1) := by decide +kernel
theorem dX3_take_44 : decode cX3_take 44 = .ok (.getfield 27, 3) := by decide +kernel
theorem dX3_take_47 : decode cX3_take 47 = .ok (.iload_n 2, 1) := by decide +kernel
theorem dX3_take_48 : decode cX3_take 48 = .ok (.ifCond .eq 7, 3) := by decide +kernel
theorem dX3_take_51 : decode cX3_take 51 = .ok (.iconst 1, 1) := by decide +kernel
theorem dX3_take_52 : decode cX3_take 52 = .ok (.goto 4, 3) := by decide +kernel
theorem dX3_take_55 : decode cX3_take 55 = .ok (.iconst 0, 1) := by decide +kernel
theorem dX3_take_56 : decode cX3_take 56 = .ok (.iadd, 1) := by decide +kernel
theorem dX3_take_57 : decode cX3_take 57 = .ok (.putfield 27, 3) := by decide +kernel
theorem dX3_take_60 : decode cX3_take 60 = .ok (.return_, 1) := by decide +kernel
theorem dX3_pourOut_0 : decode cX3_pourOut 0 = .ok (.aload_n 0, 1) := by decide +kernel
theorem dX3_pourOut_1 : decode cX3_pourOut 1 = .ok (.getfield 15, 3) := by decide +kernel
theorem dX3_pourOut_4 : decode cX3_pourOut 4 = .ok (.istore_n 1, 1) := by decide +kernel
theorem dX3_pourOut_5 : decode cX3_pourOut 5 = .ok (.aload_n 0, 1) := by decide +kernel
theorem dX3_pourOut_6 : decode cX3_pourOut 6 = .ok (.iconst 0, 1) := by decide +kernel
theorem dX3_pourOut_7 : decode cX3_pourOut 7 = .ok (.putfield 15, 3) := by decide +kernel
theorem dX3_pourOut_10 : decode cX3_pourOut 10 = .ok (.aload_n 0, 1) := by decide +kernel
theorem dX3_pourOut_11 : decode cX3_pourOut 11 = .ok (.iconst (-1), 1) := by decide +kernel
theorem dX3_pourOut_12 : decode cX3_pourOut 12 = .ok (.putfield 9, 3) := by decide +kernel
theorem dX3_pourOut_15 : decode cX3_pourOut 15 = .ok (.aload_n 0, 1) := by decide +kernel
theorem dX3_pourOut_16 : decode cX3_pourOut 16 = .ok (.iconst 0, 1) := by decide +kernel
theorem dX3_pourOut_17 : decode cX3_pourOut 17 = .ok (.putfield 27, 3) := by decide +kernel
theorem dX3_pourOut_20 : decode cX3_pourOut 20 = .ok (.iload_n 1, 1) := by decide +kernel
theorem dX3_pourOut_21 : decode cX3_pourOut 21 = .ok (.ireturn, 1) := by decide +kernel
theorem dX4_init_0 : decode cX4_init 0 = .ok (.aload_n 0, 1) := by decide +kernel
theorem dX4_init_1 : decode cX4_init 1 = .ok (.invokespecial 3, 3) := by decide +kernel
theorem dX4_init_4 : decode cX4_init 4 = .ok (.aload_n 0, 1) := by decide +kernel
theorem dX4_init_5 : decode cX4_init 5 = .ok (.iconst (-1), 1) := by decide +kernel
theorem dX4_init_6 : decode cX4_init 6 = .ok (.putfield 9, 3) := by decide +kernel
theorem dX4_init_9 : decode cX4_init 9 = .ok (.return_, 1) := by decide +kernel
theorem dX4_tell_0 : decode cX4_tell 0 = .ok (.aload_n 0, 1) := by decide +kernel
theorem dX4_tell_1 : decode cX4_tell 1 = .ok (.iload_n 1, 1) := by decide +kernel
theorem dX4_tell_2 : decode cX4_tell 2 = .ok (.putfield 9, 3) := by decide +kernel
theorem dX4_tell_5 : decode cX4_tell 5 = .ok (.aload_n 0, 1) := by decide +kernel
theorem dX4_tell_6 : decode cX4_tell 6 = .ok (.iload_n 2, 1) := by decide +kernel
theorem dX4_tell_7 : decode cX4_tell 7 = .ok (.putfield 15, 3) := by decide +kernel
theorem dX4_tell_10 : decode cX4_tell 10 = .ok (.aload_n 0, 1) := by decide +kernel
theorem dX4_tell_11 : decode cX4_tell 11 = .ok (.iload_n 3, 1) := by decide +kernel
theorem dX4_tell_12 : decode cX4_tell 12 = .ok (.putfield 18, 3) := by decide +kernel
theorem dX4_tell_15 : decode cX4_tell 15 = .ok (.return_, 1) := by decide +kernel
theorem dX4_takesMore_0 : decode cX4_takesMore 0 = .ok (.aload_n 0, 1) := by decide +kernel
theorem dX4_takesMore_1 : decode cX4_takesMore 1 = .ok (.getfield 9, 3) := by decide +kernel
theorem dX4_takesMore_4 : decode cX4_takesMore 4 = .ok (.iconst (-1), 1) := by decide +kernel
theorem dX4_takesMore_5 : decode cX4_takesMore 5 = .ok (.if_icmp .eq 18, 3) := by decide +kernel
theorem dX4_takesMore_8 : decode cX4_takesMore 8 = .ok (.aload_n 0, 1) := by decide +kernel
theorem dX4_takesMore_9 : decode cX4_takesMore 9 = .ok (.getfield 21, 3) := by decide +kernel
theorem dX4_takesMore_12 : decode cX4_takesMore 12 = .ok (.aload_n 0, 1) := by decide +kernel
theorem dX4_takesMore_13 : decode cX4_takesMore 13 = .ok (.getfield 15, 3) := by decide +kernel
theorem dX4_takesMore_16 : decode cX4_takesMore 16 = .ok (.if_icmp .ge 7, 3) := by decide +kernel
theorem dX4_takesMore_19 : decode cX4_takesMore 19 = .ok (.iconst 1, 1) := by decide +kernel
theorem dX4_takesMore_20 : decode cX4_takesMore 20 = .ok (.goto 4, 3) := by decide +kernel
theorem dX4_takesMore_23 : decode cX4_takesMore 23 = .ok (.iconst 0, 1) := by decide +kernel
theorem dX4_takesMore_24 : decode cX4_takesMore 24 = .ok (.ireturn, 1) := by decide +kernel
set_option maxRecDepth 20000 in
theorem ggX5_init_X4_init : GoodIn wsX5_init wsX4_init := goodIn_r _ [32, 33, 2, 3, 34, 75, 76, 77, 78] (by decide +kernel) (by decide +kernel)
set_option maxRecDepth 20000 in
theorem gX5_init_X4_init_n39 : GoodIn wsX5_init (wsX4_init) := ggX5_init_X4_init
set_option maxRecDepth 20000 in
theorem ggX5_init_X2_init : GoodIn wsX5_init wsX2_init := goodIn_r _ [36, 37, 2, 3, 12, 38, 39, 40, 79, 80, 81, 82, 83, 84, 85] (by decide +kernel) (by decide +kernel)
set_option maxRecDepth 20000 in
theorem gX5_init_X2_init_n57 : GoodIn wsX5_init (wsX2_init) := ggX5_init_X2_init
set_option maxRecDepth 20000 in
theorem ggX5_init_X1_init : GoodIn wsX5_init wsX1_init := goodIn_r _ [42, 43, 2, 3, 44, 45, 46, 47, 86, 87, 88, 89, 90] (by decide +kernel) (by decide +kernel)
set_option maxRecDepth 20000 in
theorem gX5_init_X1_init_n58 : GoodIn wsX5_init (wsX1_init) := ggX5_init_X1_init
set_option maxRecDepth 20000 in
theorem ggX5_init_X0_init : GoodIn wsX5_init wsX0_init := goodIn_r _ [49, 50, 2, 3, 51, 52, 53, 91, 92, 93, 94, 95, 96, 97, 98, 99, 100, 101, 102, 103] (by decide +kernel) (by decide +kernel)
set_option maxRecDepth 20000 in
theorem gX5_init_X0_init_n61 : GoodIn wsX5_init (wsX0_init) := ggX5_init_X0_init
set_option maxRecDepth 20000 in
theorem ggX5_init_X3_init : GoodIn wsX5_init wsX3_init := goodIn_r _ [55, 56, 2, 3, 57, 104, 105, 106, 107] (by decide +kernel) (by decide +kernel)
set_option maxRecDepth 20000 in
theorem gX5_init_X3_init_n64 : GoodIn wsX5_init (wsX3_init) := ggX5_init_X3_init
theorem dX5_init_0 : decode cX5_init 0 = .ok (.aload_n 0, 1) := by decide +kernel
theorem dX5_init_1 : decode cX5_init 1 = .ok (.invokespecial 1, 3) := by decide +kernel
theorem dX5_init_4 : decode cX5_init 4 = .ok (.aload_n 0, 1) := by decide +kernel
theorem dX5_init_5 : decode cX5_init 5 = .ok (.bipush 6, 2) := by decide +kernel
theorem dX5_init_7 : decode cX5_init 7 = .ok (.anewarray 9, 3) := by decide +kernel
theorem dX5_init_10 : decode cX5_init 10 = .ok (.putfield 11, 3) := by decide +kernel
theorem dX5_init_13 : decode cX5_init 13 = .ok (.aload_n 0, 1) := by decide +kernel
theorem dX5_init_14 : decode cX5_init 14 = .ok (.bipush 6, 2) := by decide +kernel
theorem dX5_init_16 : decode cX5_init 16 = .ok (.anewarray 15, 3) := by decide +kernel
theorem dX5_init_19 : decode cX5_init 19 = .ok (.putfield 17, 3) := by decide +kernel
theorem dX5_init_22 : decode cX5_init 22 = .ok (.aload_n 0, 1) := by decide +kernel
theorem dX5_init_23 : decode cX5_init 23 = .ok (.bipush 40, 2) := by decide +kernel
theorem dX5_init_25 : decode cX5_init 25 = .ok (.anewarray 21, 3) := by decide +kernel
theorem dX5_init_28 : decode cX5_init 28 = .ok (.putfield 23, 3) := by decide +kernel
theorem dX5_init_31 : decode cX5_init 31 = .ok (.aload_n 0, 1) := by decide +kernel
theorem dX5_init_32 : decode cX5_init 32 = .ok (.iconst 4, 1) := by decide +kernel
theorem dX5_init_33 : decode cX5_init 33 = .ok (.anewarray 27, 3) := by decide +kernel
theorem dX5_init_36 : decode cX5_init 36 = .ok (.putfield 29, 3) := by decide +kernel
theorem dX5_init_39 : decode cX5_init 39 = .ok (.aload_n 0, 1) := by decide +kernel
theorem dX5_init_40 : decode cX5_init 40 = .ok (.iconst 5, 1) := by decide +kernel
theorem dX5_init_41 : decode cX5_init 41 = .ok (.newarray .int, 2) := by decide +kernel
theorem dX5_init_43 : decode cX5_init 43 = .ok (.putfield 33, 3) := by decide +kernel
theorem dX5_init_46 : decode cX5_init 46 = .ok (.aload_n 0, 1) := by decide +kernel
theorem dX5_init_47 : decode cX5_init 47 = .ok (.new 37, 3) := by decide +kernel
theorem dX5_init_50 : decode cX5_init 50 = .ok (.dup, 1) := by decide +kernel
theorem dX5_init_51 : decode cX5_init 51 = .ok (.invokespecial 39, 3) := by decide +kernel
theorem dX5_init_54 : decode cX5_init 54 = .ok (.putfield 40, 3) := by decide +kernel
theorem dX5_init_57 : decode cX5_init 57 = .ok (.aload_n 0, 1) := by decide +kernel
theorem dX5_init_58 : decode cX5_init 58 = .ok (.new 37, 3) := by decide +kernel
theorem dX5_init_61 : decode cX5_init 61 = .ok (.dup, 1) := by decide +kernel
theorem dX5_init_62 : decode cX5_init 62 = .ok (.invokespecial 39, 3) := by decide +kernel
theorem dX5_init_65 : decode cX5_init 65 = .ok (.putfield 44, 3) := by decide +kernel
theorem dX5_init_68 : decode cX5_init 68 = .ok (.aload_n 0, 1) := by decide +kernel
theorem dX5_init_69 : decode cX5_init 69 = .ok (.new 37, 3) := by decide +kernel
theorem dX5_init_72 : decode cX5_init 72 = .ok (.dup, 1) := by decide +kernel
theorem dX5_init_73 : decode cX5_init 73 = .ok (.invokespecial 39, 3) := by decide +kernel
theorem dX5_init_76 : decode cX5_init 76 = .ok (.putfield 47, 3) := by decide +kernel
theorem dX5_init_79 : decode cX5_init 79 = .ok (.aload_n 0, 1) := by decide +kernel
theorem dX5_init_80 : decode cX5_init 80 = .ok (.iconst 1, 1) := by decide +kernel
theorem dX5_init_81 : decode cX5_init 81 = .ok (.putfield 50, 3) := by decide +kernel
theorem dX5_init_84 : decode cX5_init 84 = .ok (.aload_n 0, 1) := by decide +kernel
theorem dX5_init_85 : decode cX5_init 85 = .ok (.iconst (-1), 1) := by decide +kernel
theorem dX5_init_86 : decode cX5_init 86 = .ok (.putfield 54, 3) := by decide +kernel
theorem dX5_init_89 : decode cX5_init 89 = .ok (.iconst 0, 1) := by decide +kernel
theorem dX5_init_90 : decode cX5_init 90 = .ok (.istore_n 1, 1) := by decide +kernel
theorem dX5_init_91 : decode cX5_init 91 = .ok (.iload_n 1, 1) := by decide +kernel
theorem dX5_init_92 : decode cX5_init 92 = .ok (.bipush 6, 2) := by decide +kernel
theorem dX5_init_94 : decode cX5_init 94 = .ok (.if_icmp .ge 22, 3) := by decide +kernel
theorem dX5_init_97 : decode cX5_init 97 = .ok (.aload_n 0, 1) := by decide +kernel
theorem dX5_init_98 : decode cX5_init 98 = .ok (.getfield 11, 3) := by decide +kernel
theorem dX5_init_101 : decode cX5_init 101 = .ok (.iload_n 1, 1) := by decide +kernel
theorem dX5_init_102 : decode cX5_init 102 = .ok (.new 9, 3) := by decide +kernel
theorem dX5_init_105 : decode cX5_init 105 = .ok (.dup, 1) := by decide +kernel
theorem dX5_init_106 : decode cX5_init 106 = .ok (.invokespecial 57, 3) := by decide +kernel
theorem dX5_init_109 : decode cX5_init 109 = .ok (.aastore, 1) := by decide +kernel
theorem dX5_init_110 : decode cX5_init 110 = .ok (.iinc 1 1, 3) := by decide +kernel
theorem dX5_init_113 : decode cX5_init 113 = .ok (.goto (-22), 3) := by decide +kernel
theorem dX5_init_116 : decode cX5_init 116 = .ok (.iconst 0, 1) := by decide +kernel
theorem dX5_init_117 : decode cX5_init 117 = .ok (.istore_n 1, 1) := by decide +kernel
theorem dX5_init_118 : decode cX5_init 118 = .ok (.iload_n 1, 1) := by decide +kernel
theorem dX5_init_119 : decode cX5_init 119 = .ok (.bipush 6, 2) := by decide +kernel
theorem dX5_init_121 : decode cX5_init 121 = .ok (.if_icmp .ge 23, 3) := by decide +kernel
theorem dX5_init_124 : decode cX5_init 124 = .ok (.aload_n 0, 1) := by decide +kernel
theorem dX5_init_125 : decode cX5_init 125 = .ok (.getfield 17, 3) := by decide +kernel
theorem dX5_init_128 : decode cX5_init 128 = .ok (.iload_n 1, 1) := by decide +kernel
theorem dX5_init_129 : decode cX5_init 129 = .ok (.new 15, 3) := by decide +kernel
theorem dX5_init_132 : decode cX5_init 132 = .ok (.dup, 1) := by decide +kernel
theorem dX5_init_133 : decode cX5_init 133 = .ok (.iload_n 1, 1) := by decide +kernel
theorem dX5_init_134 : decode cX5_init 134 = .ok (.invokespecial 58, 3) := by decide +kernel
theorem dX5_init_137 : decode cX5_init 137 = .ok (.aastore, 1) := by decide +kernel
theorem dX5_init_138 : decode cX5_init 138 = .ok (.iinc 1 1, 3) := by decide +kernel
theorem dX5_init_141 : decode cX5_init 141 = .ok (.goto (-23), 3) := by decide +kernel
theorem dX5_init_144 : decode cX5_init 144 = .ok (.iconst 0, 1) := by decide +kernel
theorem dX5_init_145 : decode cX5_init 145 = .ok (.istore_n 1, 1) := by decide +kernel
theorem dX5_init_146 : decode cX5_init 146 = .ok (.iload_n 1, 1) := by decide +kernel
theorem dX5_init_147 : decode cX5_init 147 = .ok (.bipush 40, 2) := by decide +kernel
theorem dX5_init_149 : decode cX5_init 149 = .ok (.if_icmp .ge 29, 3) := by decide +kernel
theorem dX5_init_152 : decode cX5_init 152 = .ok (.aload_n 0, 1) := by decide +kernel
theorem dX5_init_153 : decode cX5_init 153 = .ok (.getfield 23, 3) := by decide +kernel
theorem dX5_init_156 : decode cX5_init 156 = .ok (.iload_n 1, 1) := by decide +kernel
theorem dX5_init_157 : decode cX5_init 157 = .ok (.new 21, 3) := by decide +kernel
theorem dX5_init_160 : decode cX5_init 160 = .ok (.dup, 1) := by decide +kernel
theorem dX5_init_161 : decode cX5_init 161 = .ok (.iload_n 1, 1) := by decide +kernel
theorem dX5_init_162 : decode cX5_init 162 = .ok (.aload_n 0, 1) := by decide +kernel
theorem dX5_init_163 : decode cX5_init 163 = .ok (.getfield 17, 3) := by decide +kernel
theorem dX5_init_166 : decode cX5_init 166 = .ok (.iconst 0, 1) := by decide +kernel
theorem dX5_init_167 : decode cX5_init 167 = .ok (.aaload, 1) := by decide +kernel
theorem dX5_init_168 : decode cX5_init 168 = .ok (.invokespecial 61, 3) := by decide +kernel
theorem dX5_init_171 : decode cX5_init 171 = .ok (.aastore, 1) := by decide +kernel
theorem dX5_init_172 : decode cX5_init 172 = .ok (.iinc 1 1, 3) := by decide +kernel
theorem dX5_init_175 : decode cX5_init 175 = .ok (.goto (-29), 3) := by decide +kernel
theorem dX5_init_178 : decode cX5_init 178 = .ok (.iconst 0, 1) := by decide +kernel
theorem dX5_init_179 : decode cX5_init 179 = .ok (.istore_n 1, 1) := by decide +kernel
theorem dX5_init_180 : decode cX5_init 180 = .ok (.iload_n 1, 1) := by decide +kernel
theorem dX5_init_181 : decode cX5_init 181 = .ok (.iconst 4, 1) := by decide +kernel
theorem dX5_init_182 : decode cX5_init 182 = .ok (.if_icmp .ge 22, 3) := by decide +kernel
theorem dX5_init_185 : decode cX5_init 185 = .ok (.aload_n 0, 1) := by decide +kernel
theorem dX5_init_186 : decode cX5_init 186 = .ok (.getfield 29, 3) := by decide +kernel
theorem dX5_init_189 : decode cX5_init 189 = .ok (.iload_n 1, 1) := by decide +kernel
theorem dX5_init_190 : decode cX5_init 190 = .ok (.new 27, 3) := by decide +kernel
theorem dX5_init_193 : decode cX5_init 193 = .ok (.dup, 1) := by decide +kernel
theorem dX5_init_194 : decode cX5_init 194 = .ok (.invokespecial 64, 3) := by decide +kernel
theorem dX5_init_197 : decode cX5_init 197 = .ok (.aastore, 1) := by decide +kernel
theorem dX5_init_198 : decode cX5_init 198 = .ok (.iinc 1 1, 3) := by decide +kernel
theorem dX5_init_201 : decode cX5_init 201 = .ok (.goto (-21), 3) := by decide +kernel
theorem dX5_init_204 : decode cX5_init 204 = .ok (.aload_n 0, 1) := by decide +kernel
theorem dX5_init_205 : decode cX5_init 205 = .ok (.aload_n 0, 1) := by decide +kernel
theorem dX5_init_206 : decode cX5_init 206 = .ok (.getfield 23, 3) := by decide +kernel
theorem dX5_init_209 : decode cX5_init 209 = .ok (.iconst 0, 1) := by decide +kernel
theorem dX5_init_210 : decode cX5_init 210 = .ok (.aaload, 1) := by decide +kernel
theorem dX5_init_211 : decode cX5_init 211 = .ok (.putfield 65, 3) := by decide +kernel
theorem dX5_init_214 : decode cX5_init 214 = .ok (.return_, 1) := by decide +kernel
set_option maxRecDepth 20000 in
theorem ggX5_segment_X5_checkRange : GoodIn wsX5_segment wsX5_checkRange := goodIn_ca (goodIn_r _ [10, 11, 12] (by decide +kernel) (by decide +kernel)) (goodIn_sub (fun _ h => List.mem_cons_of_mem _ (List.mem_append_right _ h)) (by decide +kernel))
set_option maxRecDepth 20000 in
theorem gX5_segment_X5_checkRange : GoodIn wsX5_segment (wsV RX5 69 RX5 yX5_checkRange wsX5_checkRange) := goodIn_app (goodIn_of _ (by decide +kernel)) ggX5_segment_X5_checkRange
set_option maxRecDepth 20000 in
theorem ggX5_segment_X2_tell : GoodIn wsX5_segment wsX2_tell := goodIn_r _ [16, 17, 18, 19, 37, 38, 39, 40, 41, 42, 43] (by decide +kernel) (by decide +kernel)
set_option maxRecDepth 20000 in
theorem gX5_segment_X2_tell_n87 : GoodIn wsX5_segment (wsX2_tell) := ggX5_segment_X2_tell
theorem dX5_segment_0 : decode cX5_segment 0 = .ok (.aload_n 0, 1) := by decide +kernel
theorem dX5_segment_1 : decode cX5_segment 1 = .ok (.iload_n 1, 1) := by decide +kernel
theorem dX5_segment_2 : decode cX5_segment 2 = .ok (.iconst 5, 1) := by decide +kernel
theorem dX5_segment_3 : decode cX5_segment 3 = .ok (.bipush 60, 2) := by decide +kernel
theorem dX5_segment_5 : decode cX5_segment 5 = .ok (.invokevirtual 69, 3) := by decide +kernel
theorem dX5_segment_8 : decode cX5_segment 8 = .ok (.aload_n 0, 1) := by decide +kernel
theorem dX5_segment_9 : decode cX5_segment 9 = .ok (.iload_n 2, 1) := by decide +kernel
theorem dX5_segment_10 : decode cX5_segment 10 = .ok (.iconst 0, 1) := by decide +kernel
theorem dX5_segment_11 : decode cX5_segment 11 = .ok (.bipush 50, 2) := by decide +kernel
theorem dX5_segment_13 : decode cX5_segment 13 = .ok (.invokevirtual 69, 3) := by decide +kernel
theorem dX5_segment_16 : decode cX5_segment 16 = .ok (.aload_n 0, 1) := by decide +kernel
theorem dX5_segment_17 : decode cX5_segment 17 = .ok (.iload_n 3, 1) := by decide +kernel
theorem dX5_segment_18 : decode cX5_segment 18 = .ok (.bipush 10, 2) := by decide +kernel
theorem dX5_segment_20 : decode cX5_segment 20 = .ok (.sipush 500, 3) := by decide +kernel
theorem dX5_segment_23 : decode cX5_segment 23 = .ok (.invokevirtual 69, 3) := by decide +kernel
theorem dX5_segment_26 : decode cX5_segment 26 = .ok (.aload_n 0, 1) := by decide +kernel
theorem dX5_segment_27 : decode cX5_segment 27 = .ok (.getfield 73, 3) := by decide +kernel
theorem dX5_segment_30 : decode cX5_segment 30 = .ok (.ifCond .ne 12, 3) := by decide +kernel
theorem dX5_segment_33 : decode cX5_segment 33 = .ok (.aload_n 0, 1) := by decide +kernel
theorem dX5_segment_34 : decode cX5_segment 34 = .ok (.getfield 77, 3) := by decide +kernel
theorem dX5_segment_37 : decode cX5_segment 37 = .ok (.bipush 6, 2) := by decide +kernel
theorem dX5_segment_39 : decode cX5_segment 39 = .ok (.if_icmp .lt 13, 3) := by decide +kernel
theorem dX5_segment_42 : decode cX5_segment 42 = .ok (.new 80, 3) := by decide +kernel
theorem dX5_segment_45 : decode cX5_segment 45 = .ok (.dup, 1) := by decide +kernel
theorem dX5_segment_46 : decode cX5_segment 46 = .ok (.ldc 82, 2) := by decide +kernel
theorem dX5_segment_48 : decode cX5_segment 48 = .ok (.invokespecial 84, 3) := by decide +kernel
theorem dX5_segment_51 : decode cX5_segment 51 = .ok (.athrow, 1) := by decide +kernel
theorem dX5_segment_52 : decode cX5_segment 52 = .ok (.aload_n 0, 1) := by decide +kernel
theorem dX5_segment_53 : decode cX5_segment 53 = .ok (.getfield 11, 3) := by decide +kernel
theorem dX5_segment_56 : decode cX5_segment 56 = .ok (.aload_n 0, 1) := by decide +kernel
theorem dX5_segment_57 : decode cX5_segment 57 = .ok (.getfield 77, 3) := by decide +kernel
theorem dX5_segment_60 : decode cX5_segment 60 = .ok (.aaload, 1) := by decide +kernel
theorem dX5_segment_61 : decode cX5_segment 61 = .ok (.iload_n 1, 1) := by decide +kernel
theorem dX5_segment_62 : decode cX5_segment 62 = .ok (.iload_n 2, 1) := by decide +kernel
theorem dX5_segment_63 : decode cX5_segment 63 = .ok (.iload_n 3, 1) := by decide +kernel
theorem dX5_segment_64 : decode cX5_segment 64 = .ok (.invokevirtual 87, 3) := by decide +kernel
theorem dX5_segment_67 : decode cX5_segment 67 = .ok (.aload_n 0, 1) := by decide +kernel
theorem dX5_segment_68 : decode cX5_segment 68 = .ok (.dup, 1) := by decide +kernel
theorem dX5_segment_69 : decode cX5_segment 69 = .ok (.getfield 77, 3) := by decide +kernel
theorem dX5_segment_72 : decode cX5_segment 72 = .ok (.iconst 1, 1) := by decide +kernel
theorem dX5_segment_73 : decode cX5_segment 73 = .ok (.iadd, 1) := by decide +kernel
theorem dX5_segment_74 : decode cX5_segment 74 = .ok (.putfield 77, 3) := by decide +kernel
theorem dX5_segment_77 : decode cX5_segment 77 = .ok (.aload_n 0, 1) := by decide +kernel
theorem dX5_segment_78 : decode cX5_segment 78 = .ok (.getfield 77, 3) := by decide +kernel
theorem dX5_segment_81 : decode cX5_segment 81 = .ok (.iconst 1, 1) := by decide +kernel
theorem dX5_segment_82 : decode cX5_segment 82 = .ok (.isub, 1) := by decide +kernel
theorem dX5_segment_83 : decode cX5_segment 83 = .ok (.ireturn, 1) := by decide +kernel
set_option maxRecDepth 20000 in
theorem ggX5_product_X5_checkIndex : GoodIn wsX5_product wsX5_checkIndex := goodIn_ca (goodIn_r _ [8, 9, 10] (by decide +kernel) (by decide +kernel)) (goodIn_sub (fun _ h => List.mem_cons_of_mem _ (List.mem_append_right _ h)) (by decide +kernel))
set_option maxRecDepth 20000 in
theorem gX5_product_X5_checkIndex : GoodIn wsX5_product (wsV RX5 90 RX5 yX5_checkIndex wsX5_checkIndex) := goodIn_app (goodIn_of _ (by decide +kernel)) ggX5_product_X5_checkIndex
set_option maxRecDepth 20000 in
theorem ggX5_product_X5_checkRange : GoodIn wsX5_product wsX5_checkRange := goodIn_ca (goodIn_r _ [14, 1, 2] (by decide +kernel) (by decide +kernel)) (goodIn_sub (fun _ h => List.mem_cons_of_mem _ (List.mem_append_left _ (List.mem_append_right _ h))) (by decide +kernel))
set_option maxRecDepth 20000 in
theorem gX5_product_X5_checkRange : GoodIn wsX5_product (wsV RX5 69 RX5 yX5_checkRange wsX5_checkRange) := goodIn_app (goodIn_of _ (by decide +kernel)) ggX5_product_X5_checkRange
set_option maxRecDepth 20000 in
theorem ggX5_product_X1_tell : GoodIn wsX5_product wsX1_tell := goodIn_r _ [18, 19, 20, 21, 22, 40, 41, 42, 43, 44] (by decide +kernel) (by decide +kernel)
set_option maxRecDepth 20000 in
theorem gX5_product_X1_tell_n99 : GoodIn wsX5_product (wsX1_tell) := ggX5_product_X1_tell
theorem dX5_product_0 : decode cX5_product 0 = .ok (.aload_n 0, 1) := by decide +kernel
theorem dX5_product_1 : decode cX5_product 1 = .ok (.iload_n 1, 1) := by decide +kernel
theorem dX5_product_2 : decode cX5_product 2 = .ok (.bipush 6, 2) := by decide +kernel
theorem dX5_product_4 : decode cX5_product 4 = .ok (.invokevirtual 90, 3) := by decide +kernel
theorem dX5_product_7 : decode cX5_product 7 = .ok (.aload_n 0, 1) := by decide +kernel
theorem dX5_product_8 : decode cX5_product 8 = .ok (.iload_n 2, 1) := by decide +kernel
theorem dX5_product_9 : decode cX5_product 9 = .ok (.iconst 1, 1) := by decide +kernel
theorem dX5_product_10 : decode cX5_product 10 = .ok (.bipush 10, 2) := by decide +kernel
theorem dX5_product_12 : decode cX5_product 12 = .ok (.invokevirtual 69, 3) := by decide +kernel
theorem dX5_product_15 : decode cX5_product 15 = .ok (.aload_n 0, 1) := by decide +kernel
theorem dX5_product_16 : decode cX5_product 16 = .ok (.iload_n 3, 1) := by decide +kernel
theorem dX5_product_17 : decode cX5_product 17 = .ok (.iconst 1, 1) := by decide +kernel
theorem dX5_product_18 : decode cX5_product 18 = .ok (.bipush 10, 2) := by decide +kernel
theorem dX5_product_20 : decode cX5_product 20 = .ok (.invokevirtual 69, 3) := by decide +kernel
theorem dX5_product_23 : decode cX5_product 23 = .ok (.aload_n 0, 1) := by decide +kernel
theorem dX5_product_24 : decode cX5_product 24 = .ok (.iload 4, 2) := by decide +kernel
theorem dX5_product_26 : decode cX5_product 26 = .ok (.iconst 0, 1) := by decide +kernel
theorem dX5_product_27 : decode cX5_product 27 = .ok (.bipush 9, 2) := by decide +kernel
theorem dX5_product_29 : decode cX5_product 29 = .ok (.invokevirtual 69, 3) := by decide +kernel
theorem dX5_product_32 : decode cX5_product 32 = .ok (.aload_n 0, 1) := by decide +kernel
theorem dX5_product_33 : decode cX5_product 33 = .ok (.iload 5, 2) := by decide +kernel
theorem dX5_product_35 : decode cX5_product 35 = .ok (.iconst 0, 1) := by decide +kernel
theorem dX5_product_36 : decode cX5_product 36 = .ok (.bipush 63, 2) := by decide +kernel
theorem dX5_product_38 : decode cX5_product 38 = .ok (.invokevirtual 69, 3) := by decide +kernel
theorem dX5_product_41 : decode cX5_product 41 = .ok (.iload 5, 2) := by decide +kernel
theorem dX5_product_43 : decode cX5_product 43 = .ok (.iconst 1, 1) := by decide +kernel
theorem dX5_product_44 : decode cX5_product 44 = .ok (.iload_n 1, 1) := by decide +kernel
theorem dX5_product_45 : decode cX5_product 45 = .ok (.ishl, 1) := by decide +kernel
theorem dX5_product_46 : decode cX5_product 46 = .ok (.iand, 1) := by decide +kernel
theorem dX5_product_47 : decode cX5_product 47 = .ok (.ifCond .eq 13, 3) := by decide +kernel
theorem dX5_product_50 : decode cX5_product 50 = .ok (.new 94, 3) := by decide +kernel
theorem dX5_product_53 : decode cX5_product 53 = .ok (.dup, 1) := by decide +kernel
theorem dX5_product_54 : decode cX5_product 54 = .ok (.ldc 96, 2) := by decide +kernel
theorem dX5_product_56 : decode cX5_product 56 = .ok (.invokespecial 98, 3) := by decide +kernel
theorem dX5_product_59 : decode cX5_product 59 = .ok (.athrow, 1) := by decide +kernel
theorem dX5_product_60 : decode cX5_product 60 = .ok (.aload_n 0, 1) := by decide +kernel
theorem dX5_product_61 : decode cX5_product 61 = .ok (.getfield 17, 3) := by decide +kernel
theorem dX5_product_64 : decode cX5_product 64 = .ok (.iload_n 1, 1) := by decide +kernel
theorem dX5_product_65 : decode cX5_product 65 = .ok (.aaload, 1) := by decide +kernel
theorem dX5_product_66 : decode cX5_product 66 = .ok (.iload_n 2, 1) := by decide +kernel
theorem dX5_product_67 : decode cX5_product 67 = .ok (.iload_n 3, 1) := by decide +kernel
theorem dX5_product_68 : decode cX5_product 68 = .ok (.iload 4, 2) := by decide +kernel
theorem dX5_product_70 : decode cX5_product 70 = .ok (.iload 5, 2) := by decide +kernel
theorem dX5_product_72 : decode cX5_product 72 = .ok (.invokevirtual 99, 3) := by decide +kernel
theorem dX5_product_75 : decode cX5_product 75 = .ok (.return_, 1) := by decide +kernel
set_option maxRecDepth 20000 in
theorem ggX5_open_X5_checkIndex : GoodIn wsX5_open wsX5_checkIndex := goodIn_ca (goodIn_r _ [12, 13, 14] (by decide +kernel) (by decide +kernel)) (goodIn_sub (fun _ h => List.mem_cons_of_mem _ (List.mem_append_right _ h)) (by decide +kernel))
set_option maxRecDepth 20000 in
theorem gX5_open_X5_checkIndex : GoodIn wsX5_open (wsV RX5 90 RX5 yX5_checkIndex wsX5_checkIndex) := goodIn_app (goodIn_of _ (by decide +kernel)) ggX5_open_X5_checkIndex
set_option maxRecDepth 20000 in
theorem ggX5_open_X5_fillSegments : GoodIn wsX5_open wsX5_fillSegments := goodIn_r _ [18, 4, 19, 20, 21, 22, 23, 24, 25, 26, 41, 42, 43, 44, 45, 46, 47, 48, 49, 50, 51, 52, 53, 54, 55, 56, 57, 75, 76, 77, 78, 79, 80, 81] (by decide +kernel) (by decide +kernel)
set_option maxRecDepth 20000 in
theorem gX5_open_X5_fillSegments : GoodIn wsX5_open (wsV RX5 104 RX5 yX5_fillSegments wsX5_fillSegments) := goodIn_app (goodIn_of _ (by decide +kernel)) ggX5_open_X5_fillSegments
set_option maxRecDepth 20000 in
theorem ggX5_open_X0_tell : GoodIn wsX5_open wsX0_tell := goodIn_r _ [30, 31, 32, 33, 58, 59, 60, 61, 62, 63, 64, 65, 66, 67, 68, 69, 70] (by decide +kernel) (by decide +kernel)
set_option maxRecDepth 20000 in
theorem gX5_open_X0_tell_n108 : GoodIn wsX5_open (wsX0_tell) := ggX5_open_X0_tell
set_option maxRecDepth 20000 in
theorem ggX5_open_X4_tell : GoodIn wsX5_open wsX4_tell := goodIn_r _ [37, 38, 39, 40, 71, 72, 73, 74] (by decide +kernel) (by decide +kernel)
set_option maxRecDepth 20000 in
theorem gX5_open_X4_tell_n117 : GoodIn wsX5_open (wsX4_tell) := ggX5_open_X4_tell
theorem dX5_open_0 : decode cX5_open 0 = .ok (.aload_n 0, 1) := by decide +kernel
theorem dX5_open_1 : decode cX5_open 1 = .ok (.iload_n 1, 1) := by decide +kernel
theorem dX5_open_2 : decode cX5_open 2 = .ok (.bipush 6, 2) := by decide +kernel
theorem dX5_open_4 : decode cX5_open 4 = .ok (.invokevirtual 90, 3) := by decide +kernel
theorem dX5_open_7 : decode cX5_open 7 = .ok (.aload_n 0, 1) := by decide +kernel
theorem dX5_open_8 : decode cX5_open 8 = .ok (.getfield 73, 3) := by decide +kernel
theorem dX5_open_11 : decode cX5_open 11 = .ok (.ifCond .ne 10, 3) := by decide +kernel
theorem dX5_open_14 : decode cX5_open 14 = .ok (.aload_n 0, 1) := by decide +kernel
theorem dX5_open_15 : decode cX5_open 15 = .ok (.getfield 77, 3) := by decide +kernel
theorem dX5_open_18 : decode cX5_open 18 = .ok (.ifCond .ne 13, 3) := by decide +kernel
theorem dX5_open_21 : decode cX5_open 21 = .ok (.new 80, 3) := by decide +kernel
theorem dX5_open_24 : decode cX5_open 24 = .ok (.dup, 1) := by decide +kernel
theorem dX5_open_25 : decode cX5_open 25 = .ok (.ldc 102, 2) := by decide +kernel
theorem dX5_open_27 : decode cX5_open 27 = .ok (.invokespecial 84, 3) := by decide +kernel
theorem dX5_open_30 : decode cX5_open 30 = .ok (.athrow, 1) := by decide +kernel
theorem dX5_open_31 : decode cX5_open 31 = .ok (.aload_n 0, 1) := by decide +kernel
theorem dX5_open_32 : decode cX5_open 32 = .ok (.iload_n 1, 1) := by decide +kernel
theorem dX5_open_33 : decode cX5_open 33 = .ok (.invokevirtual 104, 3) := by decide +kernel
theorem dX5_open_36 : decode cX5_open 36 = .ok (.istore_n 2, 1) := by decide +kernel
theorem dX5_open_37 : decode cX5_open 37 = .ok (.aload_n 0, 1) := by decide +kernel
theorem dX5_open_38 : decode cX5_open 38 = .ok (.getfield 23, 3) := by decide +kernel
theorem dX5_open_41 : decode cX5_open 41 = .ok (.iconst 0, 1) := by decide +kernel
theorem dX5_open_42 : decode cX5_open 42 = .ok (.aaload, 1) := by decide +kernel
theorem dX5_open_43 : decode cX5_open 43 = .ok (.iconst (-1), 1) := by decide +kernel
theorem dX5_open_44 : decode cX5_open 44 = .ok (.aload_n 0, 1) := by decide +kernel
theorem dX5_open_45 : decode cX5_open 45 = .ok (.getfield 17, 3) := by decide +kernel
theorem dX5_open_48 : decode cX5_open 48 = .ok (.iload_n 1, 1) := by decide +kernel
theorem dX5_open_49 : decode cX5_open 49 = .ok (.aaload, 1) := by decide +kernel
theorem dX5_open_50 : decode cX5_open 50 = .ok (.iload_n 2, 1) := by decide +kernel
theorem dX5_open_51 : decode cX5_open 51 = .ok (.invokevirtual 108, 3) := by decide +kernel
theorem dX5_open_54 : decode cX5_open 54 = .ok (.aload_n 0, 1) := by decide +kernel
theorem dX5_open_55 : decode cX5_open 55 = .ok (.getfield 23, 3) := by decide +kernel
theorem dX5_open_58 : decode cX5_open 58 = .ok (.iconst 0, 1) := by decide +kernel
theorem dX5_open_59 : decode cX5_open 59 = .ok (.aaload, 1) := by decide +kernel
theorem dX5_open_60 : decode cX5_open 60 = .ok (.iload_n 2, 1) := by decide +kernel
theorem dX5_open_61 : decode cX5_open 61 = .ok (.putfield 111, 3) := by decide +kernel
theorem dX5_open_64 : decode cX5_open 64 = .ok (.aload_n 0, 1) := by decide +kernel
theorem dX5_open_65 : decode cX5_open 65 = .ok (.getfield 47, 3) := by decide +kernel
theorem dX5_open_68 : decode cX5_open 68 = .ok (.aload_n 0, 1) := by decide +kernel
theorem dX5_open_69 : decode cX5_open 69 = .ok (.getfield 77, 3) := by decide +kernel
theorem dX5_open_72 : decode cX5_open 72 = .ok (.iconst 1, 1) := by decide +kernel
theorem dX5_open_73 : decode cX5_open 73 = .ok (.isub, 1) := by decide +kernel
theorem dX5_open_74 : decode cX5_open 74 = .ok (.bipush 10, 2) := by decide +kernel
theorem dX5_open_76 : decode cX5_open 76 = .ok (.aload_n 0, 1) := by decide +kernel
theorem dX5_open_77 : decode cX5_open 77 = .ok (.getfield 47, 3) := by decide +kernel
theorem dX5_open_80 : decode cX5_open 80 = .ok (.getfield 114, 3) := by decide +kernel
theorem dX5_open_83 : decode cX5_open 83 = .ok (.invokevirtual 117, 3) := by decide +kernel
theorem dX5_open_86 : decode cX5_open 86 = .ok (.aload_n 0, 1) := by decide +kernel
theorem dX5_open_87 : decode cX5_open 87 = .ok (.iconst 1, 1) := by decide +kernel
theorem dX5_open_88 : decode cX5_open 88 = .ok (.putfield 73, 3) := by decide +kernel
theorem dX5_open_91 : decode cX5_open 91 = .ok (.iload_n 2, 1) := by decide +kernel
theorem dX5_open_92 : decode cX5_open 92 = .ok (.ireturn, 1) := by decide +kernel
set_option maxRecDepth 20000 in
theorem ggX5_order_X5_checkIndex : GoodIn wsX5_order wsX5_checkIndex := goodIn_ca (goodIn_r _ [10, 11, 12] (by decide +kernel) (by decide +kernel)) (goodIn_sub (fun _ h => List.mem_cons_of_mem _ (List.mem_append_left _ (List.mem_append_right _ h))) (by decide +kernel))
set_option maxRecDepth 20000 in
theorem gX5_order_X5_checkIndex : GoodIn wsX5_order (wsV RX5 90 RX5 yX5_checkIndex wsX5_checkIndex) := goodIn_app (goodIn_of _ (by decide +kernel)) ggX5_order_X5_checkIndex
set_option maxRecDepth 20000 in
theorem ggX5_order_X5_checkRange : GoodIn wsX5_order wsX5_checkRange := goodIn_ca (goodIn_r _ [16, 17, 18] (by decide +kernel) (by decide +kernel)) (goodIn_sub (fun _ h => List.mem_cons_of_mem _ (List.mem_append_right _ h)) (by decide +kernel))
set_option maxRecDepth 20000 in
theorem gX5_order_X5_checkRange : GoodIn wsX5_order (wsV RX5 69 RX5 yX5_checkRange wsX5_checkRange) := goodIn_app (goodIn_of _ (by decide +kernel)) ggX5_order_X5_checkRange
set_option maxRecDepth 20000 in
theorem ggX5_order_X0_tell : GoodIn wsX5_order wsX0_tell := goodIn_r _ [22, 23, 24, 25, 43, 44, 45, 46, 47, 48, 49, 50, 51, 52, 53, 54, 55] (by decide +kernel) (by decide +kernel)
set_option maxRecDepth 20000 in
theorem gX5_order_X0_tell_n108 : GoodIn wsX5_order (wsX0_tell) := ggX5_order_X0_tell
theorem dX5_order_0 : decode cX5_order 0 = .ok (.aload_n 0, 1) := by decide +kernel
theorem dX5_order_1 : decode cX5_order 1 = .ok (.iload_n 1, 1) := by decide +kernel
theorem dX5_order_2 : decode cX5_order 2 = .ok (.iconst 4, 1) := by decide +kernel
theorem dX5_order_3 : decode cX5_order 3 = .ok (.invokevirtual 90, 3) := by decide +kernel
theorem dX5_order_6 : decode cX5_order 6 = .ok (.aload_n 0, 1) := by decide +kernel
theorem dX5_order_7 : decode cX5_order 7 = .ok (.iload_n 2, 1) := by decide +kernel
theorem dX5_order_8 : decode cX5_order 8 = .ok (.bipush 6, 2) := by decide +kernel
theorem dX5_order_10 : decode cX5_order 10 = .ok (.invokevirtual 90, 3) := by decide +kernel
theorem dX5_order_13 : decode cX5_order 13 = .ok (.aload_n 0, 1) := by decide +kernel
theorem dX5_order_14 : decode cX5_order 14 = .ok (.iload_n 3, 1) := by decide +kernel
theorem dX5_order_15 : decode cX5_order 15 = .ok (.iconst 1, 1) := by decide +kernel
theorem dX5_order_16 : decode cX5_order 16 = .ok (.sipush 200, 3) := by decide +kernel
theorem dX5_order_19 : decode cX5_order 19 = .ok (.invokevirtual 69, 3) := by decide +kernel
theorem dX5_order_22 : decode cX5_order 22 = .ok (.aload_n 0, 1) := by decide +kernel
theorem dX5_order_23 : decode cX5_order 23 = .ok (.getfield 50, 3) := by decide +kernel
theorem dX5_order_26 : decode cX5_order 26 = .ok (.bipush 40, 2) := by decide +kernel
theorem dX5_order_28 : decode cX5_order 28 = .ok (.if_icmp .lt 13, 3) := by decide +kernel
theorem dX5_order_31 : decode cX5_order 31 = .ok (.new 80, 3) := by decide +kernel
theorem dX5_order_34 : decode cX5_order 34 = .ok (.dup, 1) := by decide +kernel
theorem dX5_order_35 : decode cX5_order 35 = .ok (.ldc 118, 2) := by decide +kernel
theorem dX5_order_37 : decode cX5_order 37 = .ok (.invokespecial 84, 3) := by decide +kernel
theorem dX5_order_40 : decode cX5_order 40 = .ok (.athrow, 1) := by decide +kernel
theorem dX5_order_41 : decode cX5_order 41 = .ok (.aload_n 0, 1) := by decide +kernel
theorem dX5_order_42 : decode cX5_order 42 = .ok (.getfield 23, 3) := by decide +kernel
theorem dX5_order_45 : decode cX5_order 45 = .ok (.aload_n 0, 1) := by decide +kernel
theorem dX5_order_46 : decode cX5_order 46 = .ok (.getfield 50, 3) := by decide +kernel
theorem dX5_order_49 : decode cX5_order 49 = .ok (.aaload, 1) := by decide +kernel
theorem dX5_order_50 : decode cX5_order 50 = .ok (.iload_n 1, 1) := by decide +kernel
theorem dX5_order_51 : decode cX5_order 51 = .ok (.aload_n 0, 1) := by decide +kernel
theorem dX5_order_52 : decode cX5_order 52 = .ok (.getfield 17, 3) := by decide +kernel
theorem dX5_order_55 : decode cX5_order 55 = .ok (.iload_n 2, 1) := by decide +kernel
theorem dX5_order_56 : decode cX5_order 56 = .ok (.aaload, 1) := by decide +kernel
theorem dX5_order_57 : decode cX5_order 57 = .ok (.iload_n 3, 1) := by decide +kernel
theorem dX5_order_58 : decode cX5_order 58 = .ok (.invokevirtual 108, 3) := by decide +kernel
theorem dX5_order_61 : decode cX5_order 61 = .ok (.aload_n 0, 1) := by decide +kernel
theorem dX5_order_62 : decode cX5_order 62 = .ok (.dup, 1) := by decide +kernel
theorem dX5_order_63 : decode cX5_order 63 = .ok (.getfield 50, 3) := by decide +kernel
theorem dX5_order_66 : decode cX5_order 66 = .ok (.iconst 1, 1) := by decide +kernel
theorem dX5_order_67 : decode cX5_order 67 = .ok (.iadd, 1) := by decide +kernel
theorem dX5_order_68 : decode cX5_order 68 = .ok (.putfield 50, 3) := by decide +kernel
theorem dX5_order_71 : decode cX5_order 71 = .ok (.aload_n 0, 1) := by decide +kernel
theorem dX5_order_72 : decode cX5_order 72 = .ok (.getfield 50, 3) := by decide +kernel
theorem dX5_order_75 : decode cX5_order 75 = .ok (.iconst 1, 1) := by decide +kernel
theorem dX5_order_76 : decode cX5_order 76 = .ok (.isub, 1) := by decide +kernel
theorem dX5_order_77 : decode cX5_order 77 = .ok (.ireturn, 1) := by decide +kernel
set_option maxRecDepth 20000 in
theorem ggX5_rate_X5_checkRange : GoodIn wsX5_rate wsX5_checkRange := goodIn_ca (goodIn_r _ [6, 7, 8] (by decide +kernel) (by decide +kernel)) (goodIn_sub (fun _ h => List.mem_cons_of_mem _ (List.mem_append_right _ h)) (by decide +kernel))
set_option maxRecDepth 20000 in
theorem gX5_rate_X5_checkRange : GoodIn wsX5_rate (wsV RX5 69 RX5 yX5_checkRange wsX5_checkRange) := goodIn_app (goodIn_of _ (by decide +kernel)) ggX5_rate_X5_checkRange
theorem dX5_rate_0 : decode cX5_rate 0 = .ok (.aload_n 0, 1) := by decide +kernel
theorem dX5_rate_1 : decode cX5_rate 1 = .ok (.iload_n 1, 1) := by decide +kernel
theorem dX5_rate_2 : decode cX5_rate 2 = .ok (.iconst 0, 1) := by decide +kernel
theorem dX5_rate_3 : decode cX5_rate 3 = .ok (.bipush 10, 2) := by decide +kernel
theorem dX5_rate_5 : decode cX5_rate 5 = .ok (.invokevirtual 69, 3) := by decide +kernel
theorem dX5_rate_8 : decode cX5_rate 8 = .ok (.aload_n 0, 1) := by decide +kernel
theorem dX5_rate_9 : decode cX5_rate 9 = .ok (.getfield 120, 3) := by decide +kernel
theorem dX5_rate_12 : decode cX5_rate 12 = .ok (.istore_n 2, 1) := by decide +kernel
theorem dX5_rate_13 : decode cX5_rate 13 = .ok (.aload_n 0, 1) := by decide +kernel
theorem dX5_rate_14 : decode cX5_rate 14 = .ok (.iload_n 1, 1) := by decide +kernel
theorem dX5_rate_15 : decode cX5_rate 15 = .ok (.putfield 120, 3) := by decide +kernel
theorem dX5_rate_18 : decode cX5_rate 18 = .ok (.iload_n 2, 1) := by decide +kernel
theorem dX5_rate_19 : decode cX5_rate 19 = .ok (.ireturn, 1) := by decide +kernel
set_option maxRecDepth 20000 in
theorem ggX5_drop_X5_checkOnTheWay : GoodIn wsX5_drop wsX5_checkOnTheWay := goodIn_ca (goodIn_r _ [6, 7, 8, 9, 10, 5, 11, 12, 13, 27, 28, 29, 30, 31, 32, 33, 34, 35, 36, 37, 38, 39, 40, 41, 42, 43] (by decide +kernel) (by decide +kernel)) (goodIn_sub (fun _ h => List.mem_cons_of_mem _ (List.mem_append_left _ (List.mem_append_right _ h))) (by decide +kernel))
set_option maxRecDepth 20000 in
theorem gX5_drop_X5_checkOnTheWay : GoodIn wsX5_drop (wsV RX5 123 RX5 yX5_checkOnTheWay wsX5_checkOnTheWay) := goodIn_app (goodIn_of _ (by decide +kernel)) ggX5_drop_X5_checkOnTheWay
set_option maxRecDepth 20000 in
theorem ggX5_drop_X5_checkIndex : GoodIn wsX5_drop wsX5_checkIndex := goodIn_ca (goodIn_r _ [11, 12, 13] (by decide +kernel) (by decide +kernel)) (goodIn_sub (fun _ h => List.mem_cons_of_mem _ (List.mem_append_left _ (List.mem_append_right _ h))) (by decide +kernel))
set_option maxRecDepth 20000 in
theorem gX5_drop_X5_checkIndex : GoodIn wsX5_drop (wsV RX5 90 RX5 yX5_checkIndex wsX5_checkIndex) := goodIn_app (goodIn_of _ (by decide +kernel)) ggX5_drop_X5_checkIndex
set_option maxRecDepth 20000 in
theorem ggX5_drop_X5_checkRange : GoodIn wsX5_drop wsX5_checkRange := goodIn_ca (goodIn_r _ [17, 18, 19] (by decide +kernel) (by decide +kernel)) (goodIn_sub (fun _ h => List.mem_cons_of_mem _ (List.mem_append_right _ h)) (by decide +kernel))
set_option maxRecDepth 20000 in
theorem gX5_drop_X5_checkRange : GoodIn wsX5_drop (wsV RX5 69 RX5 yX5_checkRange wsX5_checkRange) := goodIn_app (goodIn_of _ (by decide +kernel)) ggX5_drop_X5_checkRange
set_option maxRecDepth 20000 in
theorem ggX5_drop_X4_tell : GoodIn wsX5_drop wsX4_tell := goodIn_r _ [23, 24, 25, 26, 44, 45, 46, 47] (by decide +kernel) (by decide +kernel)
set_option maxRecDepth 20000 in
theorem gX5_drop_X4_tell_n117 : GoodIn wsX5_drop (wsX4_tell) := ggX5_drop_X4_tell
theorem dX5_drop_0 : decode cX5_drop 0 = .ok (.aload_n 0, 1) := by decide +kernel
theorem dX5_drop_1 : decode cX5_drop 1 = .ok (.iload_n 1, 1) := by decide +kernel
theorem dX5_drop_2 : decode cX5_drop 2 = .ok (.invokevirtual 123, 3) := by decide +kernel
theorem dX5_drop_5 : decode cX5_drop 5 = .ok (.aload_n 0, 1) := by decide +kernel
theorem dX5_drop_6 : decode cX5_drop 6 = .ok (.iload_n 3, 1) := by decide +kernel
theorem dX5_drop_7 : decode cX5_drop 7 = .ok (.iconst 4, 1) := by decide +kernel
theorem dX5_drop_8 : decode cX5_drop 8 = .ok (.invokevirtual 90, 3) := by decide +kernel
theorem dX5_drop_11 : decode cX5_drop 11 = .ok (.aload_n 0, 1) := by decide +kernel
theorem dX5_drop_12 : decode cX5_drop 12 = .ok (.iload_n 2, 1) := by decide +kernel
theorem dX5_drop_13 : decode cX5_drop 13 = .ok (.iconst 1, 1) := by decide +kernel
theorem dX5_drop_14 : decode cX5_drop 14 = .ok (.bipush 10, 2) := by decide +kernel
theorem dX5_drop_16 : decode cX5_drop 16 = .ok (.invokevirtual 69, 3) := by decide +kernel
theorem dX5_drop_19 : decode cX5_drop 19 = .ok (.aload_n 0, 1) := by decide +kernel
theorem dX5_drop_20 : decode cX5_drop 20 = .ok (.getfield 44, 3) := by decide +kernel
theorem dX5_drop_23 : decode cX5_drop 23 = .ok (.iload_n 1, 1) := by decide +kernel
theorem dX5_drop_24 : decode cX5_drop 24 = .ok (.iload_n 2, 1) := by decide +kernel
theorem dX5_drop_25 : decode cX5_drop 25 = .ok (.iload_n 3, 1) := by decide +kernel
theorem dX5_drop_26 : decode cX5_drop 26 = .ok (.invokevirtual 117, 3) := by decide +kernel
theorem dX5_drop_29 : decode cX5_drop 29 = .ok (.return_, 1) := by decide +kernel
set_option maxRecDepth 20000 in
theorem ggX5_leak_X5_checkOnTheWay : GoodIn wsX5_leak wsX5_checkOnTheWay := goodIn_ca (goodIn_r _ [6, 7, 8, 9, 10, 5, 11, 12, 13, 27, 28, 29, 30, 31, 32, 33, 34, 35, 36, 37, 38, 39, 40, 41, 42, 43] (by decide +kernel) (by decide +kernel)) (goodIn_sub (fun _ h => List.mem_cons_of_mem _ (List.mem_append_left _ (List.mem_append_right _ h))) (by decide +kernel))
set_option maxRecDepth 20000 in
theorem gX5_leak_X5_checkOnTheWay : GoodIn wsX5_leak (wsV RX5 123 RX5 yX5_checkOnTheWay wsX5_checkOnTheWay) := goodIn_app (goodIn_of _ (by decide +kernel)) ggX5_leak_X5_checkOnTheWay
set_option maxRecDepth 20000 in
theorem ggX5_leak_X5_checkRange : GoodIn wsX5_leak wsX5_checkRange := goodIn_ca (goodIn_r _ [17, 18, 19] (by decide +kernel) (by decide +kernel)) (goodIn_sub (fun _ h => List.mem_cons_of_mem _ (List.mem_append_right _ h)) (by decide +kernel))
set_option maxRecDepth 20000 in
theorem gX5_leak_X5_checkRange : GoodIn wsX5_leak (wsV RX5 69 RX5 yX5_checkRange wsX5_checkRange) := goodIn_app (goodIn_of _ (by decide +kernel)) ggX5_leak_X5_checkRange
set_option maxRecDepth 20000 in
theorem ggX5_leak_X4_tell : GoodIn wsX5_leak wsX4_tell := goodIn_r _ [23, 24, 25, 26, 44, 45, 46, 47] (by decide +kernel) (by decide +kernel)
set_option maxRecDepth 20000 in
theorem gX5_leak_X4_tell_n117 : GoodIn wsX5_leak (wsX4_tell) := ggX5_leak_X4_tell
theorem dX5_leak_0 : decode cX5_leak 0 = .ok (.aload_n 0, 1) := by decide +kernel
theorem dX5_leak_1 : decode cX5_leak 1 = .ok (.iload_n 1, 1) := by decide +kernel
theorem dX5_leak_2 : decode cX5_leak 2 = .ok (.invokevirtual 123, 3) := by decide +kernel
theorem dX5_leak_5 : decode cX5_leak 5 = .ok (.aload_n 0, 1) := by decide +kernel
theorem dX5_leak_6 : decode cX5_leak 6 = .ok (.iload_n 2, 1) := by decide +kernel
theorem dX5_leak_7 : decode cX5_leak 7 = .ok (.iconst 1, 1) := by decide +kernel
theorem dX5_leak_8 : decode cX5_leak 8 = .ok (.bipush 10, 2) := by decide +kernel
theorem dX5_leak_10 : decode cX5_leak 10 = .ok (.invokevirtual 69, 3) := by decide +kernel
theorem dX5_leak_13 : decode cX5_leak 13 = .ok (.aload_n 0, 1) := by decide +kernel
theorem dX5_leak_14 : decode cX5_leak 14 = .ok (.getfield 40, 3) := by decide +kernel
theorem dX5_leak_17 : decode cX5_leak 17 = .ok (.iload_n 1, 1) := by decide +kernel
theorem dX5_leak_18 : decode cX5_leak 18 = .ok (.iload_n 2, 1) := by decide +kernel
theorem dX5_leak_19 : decode cX5_leak 19 = .ok (.iconst 0, 1) := by decide +kernel
theorem dX5_leak_20 : decode cX5_leak 20 = .ok (.invokevirtual 117, 3) := by decide +kernel
theorem dX5_leak_23 : decode cX5_leak 23 = .ok (.return_, 1) := by decide +kernel
set_option maxRecDepth 20000 in
theorem ggX5_receive_X5_checkIndex : GoodIn wsX5_receive wsX5_checkIndex := goodIn_ca (goodIn_r _ [6, 7, 8] (by decide +kernel) (by decide +kernel)) (goodIn_sub (fun _ h => List.mem_cons_of_mem _ (List.mem_append_right _ h)) (by decide +kernel))
set_option maxRecDepth 20000 in
theorem gX5_receive_X5_checkIndex : GoodIn wsX5_receive (wsV RX5 90 RX5 yX5_checkIndex wsX5_checkIndex) := goodIn_app (goodIn_of _ (by decide +kernel)) ggX5_receive_X5_checkIndex
theorem dX5_receive_0 : decode cX5_receive 0 = .ok (.aload_n 0, 1) := by decide +kernel
theorem dX5_receive_1 : decode cX5_receive 1 = .ok (.iload_n 1, 1) := by decide +kernel
theorem dX5_receive_2 : decode cX5_receive 2 = .ok (.iconst 4, 1) := by decide +kernel
theorem dX5_receive_3 : decode cX5_receive 3 = .ok (.invokevirtual 90, 3) := by decide +kernel
theorem dX5_receive_6 : decode cX5_receive 6 = .ok (.aload_n 0, 1) := by decide +kernel
theorem dX5_receive_7 : decode cX5_receive 7 = .ok (.getfield 47, 3) := by decide +kernel
theorem dX5_receive_10 : decode cX5_receive 10 = .ok (.getfield 114, 3) := by decide +kernel
theorem dX5_receive_13 : decode cX5_receive 13 = .ok (.istore_n 2, 1) := by decide +kernel
theorem dX5_receive_14 : decode cX5_receive 14 = .ok (.aload_n 0, 1) := by decide +kernel
theorem dX5_receive_15 : decode cX5_receive 15 = .ok (.getfield 47, 3) := by decide +kernel
theorem dX5_receive_18 : decode cX5_receive 18 = .ok (.iload_n 1, 1) := by decide +kernel
theorem dX5_receive_19 : decode cX5_receive 19 = .ok (.putfield 114, 3) := by decide +kernel
theorem dX5_receive_22 : decode cX5_receive 22 = .ok (.iload_n 2, 1) := by decide +kernel
theorem dX5_receive_23 : decode cX5_receive 23 = .ok (.ireturn, 1) := by decide +kernel
set_option maxRecDepth 20000 in
theorem ggX5_empty_X5_checkIndex : GoodIn wsX5_empty wsX5_checkIndex := goodIn_ca (goodIn_r _ [6, 7, 8] (by decide +kernel) (by decide +kernel)) (goodIn_sub (fun _ h => List.mem_cons_of_mem _ (List.mem_append_right _ h)) (by decide +kernel))
set_option maxRecDepth 20000 in
theorem gX5_empty_X5_checkIndex : GoodIn wsX5_empty (wsV RX5 90 RX5 yX5_checkIndex wsX5_checkIndex) := goodIn_app (goodIn_of _ (by decide +kernel)) ggX5_empty_X5_checkIndex
set_option maxRecDepth 20000 in
theorem ggX5_empty_X3_pourOut : GoodIn wsX5_empty wsX3_pourOut := goodIn_r _ [12, 13, 14, 15, 33, 34, 35, 36] (by decide +kernel) (by decide +kernel)
set_option maxRecDepth 20000 in
theorem gX5_empty_X3_pourOut_n126 : GoodIn wsX5_empty (wsX3_pourOut) := ggX5_empty_X3_pourOut
theorem dX5_empty_0 : decode cX5_empty 0 = .ok (.aload_n 0, 1) := by decide +kernel
theorem dX5_empty_1 : decode cX5_empty 1 = .ok (.iload_n 1, 1) := by decide +kernel
theorem dX5_empty_2 : decode cX5_empty 2 = .ok (.iconst 4, 1) := by decide +kernel
theorem dX5_empty_3 : decode cX5_empty 3 = .ok (.invokevirtual 90, 3) := by decide +kernel
theorem dX5_empty_6 : decode cX5_empty 6 = .ok (.aload_n 0, 1) := by decide +kernel
theorem dX5_empty_7 : decode cX5_empty 7 = .ok (.getfield 29, 3) := by decide +kernel
theorem dX5_empty_10 : decode cX5_empty 10 = .ok (.iload_n 1, 1) := by decide +kernel
theorem dX5_empty_11 : decode cX5_empty 11 = .ok (.aaload, 1) := by decide +kernel
theorem dX5_empty_12 : decode cX5_empty 12 = .ok (.invokevirtual 126, 3) := by decide +kernel
theorem dX5_empty_15 : decode cX5_empty 15 = .ok (.ireturn, 1) := by decide +kernel
set_option maxRecDepth 20000 in
theorem ggX5_launch_X5_unitOf : GoodIn wsX5_launch wsX5_unitOf := goodIn_r _ [10, 28, 29, 30, 31, 32, 33, 34, 35, 36, 37, 38, 39, 40] (by decide +kernel) (by decide +kernel)
set_option maxRecDepth 20000 in
theorem gX5_launch_X5_unitOf : GoodIn wsX5_launch (wsV RX5 132 RX5 yX5_unitOf wsX5_unitOf) := goodIn_app (goodIn_of _ (by decide +kernel)) ggX5_launch_X5_unitOf
theorem dX5_launch_0 : decode cX5_launch 0 = .ok (.aload_n 0, 1) := by decide +kernel
theorem dX5_launch_1 : decode cX5_launch 1 = .ok (.getfield 73, 3) := by decide +kernel
theorem dX5_launch_4 : decode cX5_launch 4 = .ok (.ifCond .eq 11, 3) := by decide +kernel
theorem dX5_launch_7 : decode cX5_launch 7 = .ok (.aload_n 0, 1) := by decide +kernel
theorem dX5_launch_8 : decode cX5_launch 8 = .ok (.getfield 54, 3) := by decide +kernel
theorem dX5_launch_11 : decode cX5_launch 11 = .ok (.iconst (-1), 1) := by decide +kernel
theorem dX5_launch_12 : decode cX5_launch 12 = .ok (.if_icmp .eq 13, 3) := by decide +kernel
theorem dX5_launch_15 : decode cX5_launch 15 = .ok (.new 80, 3) := by decide +kernel
theorem dX5_launch_18 : decode cX5_launch 18 = .ok (.dup, 1) := by decide +kernel
theorem dX5_launch_19 : decode cX5_launch 19 = .ok (.ldc 130, 2) := by decide +kernel
theorem dX5_launch_21 : decode cX5_launch 21 = .ok (.invokespecial 84, 3) := by decide +kernel
theorem dX5_launch_24 : decode cX5_launch 24 = .ok (.athrow, 1) := by decide +kernel
theorem dX5_launch_25 : decode cX5_launch 25 = .ok (.aload_n 0, 1) := by decide +kernel
theorem dX5_launch_26 : decode cX5_launch 26 = .ok (.aload_n 0, 1) := by decide +kernel
theorem dX5_launch_27 : decode cX5_launch 27 = .ok (.aload_n 0, 1) := by decide +kernel
theorem dX5_launch_28 : decode cX5_launch 28 = .ok (.getfield 65, 3) := by decide +kernel
theorem dX5_launch_31 : decode cX5_launch 31 = .ok (.aload_n 0, 1) := by decide +kernel
theorem dX5_launch_32 : decode cX5_launch 32 = .ok (.getfield 65, 3) := by decide +kernel
theorem dX5_launch_35 : decode cX5_launch 35 = .ok (.getfield 111, 3) := by decide +kernel
theorem dX5_launch_38 : decode cX5_launch 38 = .ok (.iconst 1, 1) := by decide +kernel
theorem dX5_launch_39 : decode cX5_launch 39 = .ok (.isub, 1) := by decide +kernel
theorem dX5_launch_40 : decode cX5_launch 40 = .ok (.invokevirtual 132, 3) := by decide +kernel
theorem dX5_launch_43 : decode cX5_launch 43 = .ok (.putfield 54, 3) := by decide +kernel
theorem dX5_launch_46 : decode cX5_launch 46 = .ok (.return_, 1) := by decide +kernel
set_option maxRecDepth 20000 in
theorem ggX5_pass_X5_checkRange : GoodIn wsX5_pass wsX5_checkRange := goodIn_ca (goodIn_r _ [9, 10, 11] (by decide +kernel) (by decide +kernel)) (goodIn_sub (fun _ h => List.mem_cons_of_mem _ (List.mem_append_right _ h)) (by decide +kernel))
set_option maxRecDepth 20000 in
theorem gX5_pass_X5_checkRange : GoodIn wsX5_pass (wsV RX5 69 RX5 yX5_checkRange wsX5_checkRange) := goodIn_app (goodIn_of _ (by decide +kernel)) ggX5_pass_X5_checkRange
set_option maxRecDepth 20000 in
theorem ggX5_pass_X5_passOne : GoodIn wsX5_pass wsX5_passOne := goodIn_r _ [15, 16, 17, 18, 19, 20, 4, 21, 22, 23, 8, 24, 25, 26, 27, 28, 29, 30, 31, 32, 33, 34, 35, 36, 37, 38, 39, 40, 41, 42, 43, 44, 45, 46, 47, 48, 49, 50, 51, 52, 53, 54, 55, 56, 57, 58, 59, 60, 61, 62, 63, 64, 65, 66, 67, 68, 69, 70, 71, 72, 73, 74, 75, 76, 77, 78, 79, 80, 81, 82, 83, 84, 85, 86, 87, 88, 89, 90, 91, 92, 93, 94, 95, 96, 97, 98, 99, 100, 101, 102, 103, 104, 105, 106, 107, 108, 109, 110, 111, 112, 113, 114, 115, 116, 117, 118, 119, 120, 121, 122, 123, 124, 125, 126, 127, 128, 129, 130, 131, 132, 133, 134, 135, 136, 137, 138, 139, 140, 141, 142, 143, 144, 145, 146, 147, 148, 149, 150, 151, 152, 153, 154, 155, 156, 157, 158, 159, 160, 161, 162, 163, 164, 165, 166, 167, 168, 169, 170, 171, 172, 173, 174, 175, 176, 177, 178, 179, 180, 181, 182, 183, 184, 185, 186, 187, 188, 189, 190, 191, 192, 193, 194, 195, 196, 197] (by decide +kernel) (by decide +kernel)
set_option maxRecDepth 20000 in
theorem gX5_pass_X5_passOne : GoodIn wsX5_pass (wsV RX5 141 RX5 yX5_passOne wsX5_passOne) := goodIn_app (goodIn_of _ (by decide +kernel)) ggX5_pass_X5_passOne
theorem dX5_pass_0 : decode cX5_pass 0 = .ok (.aload_n 0, 1) := by decide +kernel
theorem dX5_pass_1 : decode cX5_pass 1 = .ok (.iload_n 1, 1) := by decide +kernel
theorem dX5_pass_2 : decode cX5_pass 2 = .ok (.iconst 1, 1) := by decide +kernel
theorem dX5_pass_3 : decode cX5_pass 3 = .ok (.bipush 60, 2) := by decide +kernel
theorem dX5_pass_5 : decode cX5_pass 5 = .ok (.invokevirtual 69, 3) := by decide +kernel
theorem dX5_pass_8 : decode cX5_pass 8 = .ok (.aload_n 0, 1) := by decide +kernel
theorem dX5_pass_9 : decode cX5_pass 9 = .ok (.getfield 73, 3) := by decide +kernel
theorem dX5_pass_12 : decode cX5_pass 12 = .ok (.ifCond .eq 15, 3) := by decide +kernel
theorem dX5_pass_15 : decode cX5_pass 15 = .ok (.aload_n 0, 1) := by decide +kernel
theorem dX5_pass_16 : decode cX5_pass 16 = .ok (.getfield 136, 3) := by decide +kernel
theorem dX5_pass_19 : decode cX5_pass 19 = .ok (.iload_n 1, 1) := by decide +kernel
theorem dX5_pass_20 : decode cX5_pass 20 = .ok (.iadd, 1) := by decide +kernel
theorem dX5_pass_21 : decode cX5_pass 21 = .ok (.sipush 9999, 3) := by decide +kernel
theorem dX5_pass_24 : decode cX5_pass 24 = .ok (.if_icmp .le 13, 3) := by decide +kernel
theorem dX5_pass_27 : decode cX5_pass 27 = .ok (.new 80, 3) := by decide +kernel
theorem dX5_pass_30 : decode cX5_pass 30 = .ok (.dup, 1) := by decide +kernel
theorem dX5_pass_31 : decode cX5_pass 31 = .ok (.ldc 139, 2) := by decide +kernel
theorem dX5_pass_33 : decode cX5_pass 33 = .ok (.invokespecial 84, 3) := by decide +kernel
theorem dX5_pass_36 : decode cX5_pass 36 = .ok (.athrow, 1) := by decide +kernel
theorem dX5_pass_37 : decode cX5_pass 37 = .ok (.iconst 0, 1) := by decide +kernel
theorem dX5_pass_38 : decode cX5_pass 38 = .ok (.istore_n 2, 1) := by decide +kernel
theorem dX5_pass_39 : decode cX5_pass 39 = .ok (.iconst 0, 1) := by decide +kernel
theorem dX5_pass_40 : decode cX5_pass 40 = .ok (.istore_n 3, 1) := by decide +kernel
theorem dX5_pass_41 : decode cX5_pass 41 = .ok (.iload_n 3, 1) := by decide +kernel
theorem dX5_pass_42 : decode cX5_pass 42 = .ok (.iload_n 1, 1) := by decide +kernel
theorem dX5_pass_43 : decode cX5_pass 43 = .ok (.if_icmp .ge 16, 3) := by decide +kernel
theorem dX5_pass_46 : decode cX5_pass 46 = .ok (.iload_n 2, 1) := by decide +kernel
theorem dX5_pass_47 : decode cX5_pass 47 = .ok (.aload_n 0, 1) := by decide +kernel
theorem dX5_pass_48 : decode cX5_pass 48 = .ok (.invokevirtual 141, 3) := by decide +kernel
theorem dX5_pass_51 : decode cX5_pass 51 = .ok (.iadd, 1) := by decide +kernel
theorem dX5_pass_52 : decode cX5_pass 52 = .ok (.istore_n 2, 1) := by decide +kernel
theorem dX5_pass_53 : decode cX5_pass 53 = .ok (.iinc 3 1, 3) := by decide +kernel
theorem dX5_pass_56 : decode cX5_pass 56 = .ok (.goto (-15), 3) := by decide +kernel
theorem dX5_pass_59 : decode cX5_pass 59 = .ok (.iload_n 2, 1) := by decide +kernel
theorem dX5_pass_60 : decode cX5_pass 60 = .ok (.ireturn, 1) := by decide +kernel
set_option maxRecDepth 20000 in
theorem ggX5_batch_X5_checkIndex : GoodIn wsX5_batch wsX5_checkIndex := goodIn_ca (goodIn_r _ [10, 1, 2] (by decide +kernel) (by decide +kernel)) (goodIn_sub (fun _ h => List.mem_cons_of_mem _ (List.mem_append_left _ (List.mem_append_right _ h))) (by decide +kernel))
set_option maxRecDepth 20000 in
theorem gX5_batch_X5_checkIndex : GoodIn wsX5_batch (wsV RX5 90 RX5 yX5_checkIndex wsX5_checkIndex) := goodIn_app (goodIn_of _ (by decide +kernel)) ggX5_batch_X5_checkIndex
set_option maxRecDepth 20000 in
theorem ggX5_batch_X5_checkRange : GoodIn wsX5_batch wsX5_checkRange := goodIn_ca (goodIn_r _ [14, 15, 16] (by decide +kernel) (by decide +kernel)) (goodIn_sub (fun _ h => List.mem_cons_of_mem _ (List.mem_append_right _ h)) (by decide +kernel))
set_option maxRecDepth 20000 in
theorem gX5_batch_X5_checkRange : GoodIn wsX5_batch (wsV RX5 69 RX5 yX5_checkRange wsX5_checkRange) := goodIn_app (goodIn_of _ (by decide +kernel)) ggX5_batch_X5_checkRange
set_option maxRecDepth 20000 in
theorem ggX5_batch_X0_inPipe : GoodIn wsX5_batch wsX0_inPipe := goodIn_r _ [20, 21, 22, 23, 24, 55, 56, 57, 58, 59, 60, 61, 62, 63, 64, 65, 66, 67] (by decide +kernel) (by decide +kernel)
set_option maxRecDepth 20000 in
theorem gX5_batch_X0_inPipe_n149 : GoodIn wsX5_batch (wsX0_inPipe) := ggX5_batch_X0_inPipe
set_option maxRecDepth 20000 in
theorem ggX5_batch_X0_waiting : GoodIn wsX5_batch wsX0_waiting := goodIn_r _ [27, 28, 21, 55, 56, 57, 58, 59, 60, 61, 62, 63, 64, 65, 66, 67] (by decide +kernel) (by decide +kernel)
set_option maxRecDepth 20000 in
theorem gX5_batch_X0_waiting_n161 : GoodIn wsX5_batch (wsX0_waiting) := ggX5_batch_X0_waiting
set_option maxRecDepth 20000 in
theorem ggX5_batch_X5_mixOf : GoodIn wsX5_batch wsX5_mixOf := goodIn_r _ [32, 33, 34, 35, 36, 9, 37, 55, 56, 57, 58, 59, 60, 61, 62, 63, 64, 65, 66, 67, 38, 39, 40, 41, 42, 43, 44, 45, 46, 47, 48, 49, 50, 51, 52, 53, 54] (by decide +kernel) (by decide +kernel)
set_option maxRecDepth 20000 in
theorem gX5_batch_X5_mixOf : GoodIn wsX5_batch (wsV RX5 164 RX5 yX5_mixOf wsX5_mixOf) := goodIn_app (goodIn_of _ (by decide +kernel)) ggX5_batch_X5_mixOf
theorem dX5_batch_0 : decode cX5_batch 0 = .ok (.aload_n 0, 1) := by decide +kernel
theorem dX5_batch_1 : decode cX5_batch 1 = .ok (.iload_n 1, 1) := by decide +kernel
theorem dX5_batch_2 : decode cX5_batch 2 = .ok (.aload_n 0, 1) := by decide +kernel
theorem dX5_batch_3 : decode cX5_batch 3 = .ok (.getfield 50, 3) := by decide +kernel
theorem dX5_batch_6 : decode cX5_batch 6 = .ok (.invokevirtual 90, 3) := by decide +kernel
theorem dX5_batch_9 : decode cX5_batch 9 = .ok (.iload_n 1, 1) := by decide +kernel
theorem dX5_batch_10 : decode cX5_batch 10 = .ok (.ifCond .ne 20, 3) := by decide +kernel
theorem dX5_batch_13 : decode cX5_batch 13 = .ok (.aload_n 0, 1) := by decide +kernel
theorem dX5_batch_14 : decode cX5_batch 14 = .ok (.getfield 73, 3) := by decide +kernel
theorem dX5_batch_17 : decode cX5_batch 17 = .ok (.ifCond .ne 13, 3) := by decide +kernel
theorem dX5_batch_20 : decode cX5_batch 20 = .ok (.new 144, 3) := by decide +kernel
theorem dX5_batch_23 : decode cX5_batch 23 = .ok (.dup, 1) := by decide +kernel
theorem dX5_batch_24 : decode cX5_batch 24 = .ok (.ldc 146, 2) := by decide +kernel
theorem dX5_batch_26 : decode cX5_batch 26 = .ok (.invokespecial 148, 3) := by decide +kernel
theorem dX5_batch_29 : decode cX5_batch 29 = .ok (.athrow, 1) := by decide +kernel
theorem dX5_batch_30 : decode cX5_batch 30 = .ok (.aload_n 0, 1) := by decide +kernel
theorem dX5_batch_31 : decode cX5_batch 31 = .ok (.iload_n 2, 1) := by decide +kernel
theorem dX5_batch_32 : decode cX5_batch 32 = .ok (.iconst 0, 1) := by decide +kernel
theorem dX5_batch_33 : decode cX5_batch 33 = .ok (.bipush 7, 2) := by decide +kernel
theorem dX5_batch_35 : decode cX5_batch 35 = .ok (.invokevirtual 69, 3) := by decide +kernel
theorem dX5_batch_38 : decode cX5_batch 38 = .ok (.aload_n 0, 1) := by decide +kernel
theorem dX5_batch_39 : decode cX5_batch 39 = .ok (.getfield 23, 3) := by decide +kernel
theorem dX5_batch_42 : decode cX5_batch 42 = .ok (.iload_n 1, 1) := by decide +kernel
theorem dX5_batch_43 : decode cX5_batch 43 = .ok (.aaload, 1) := by decide +kernel
theorem dX5_batch_44 : decode cX5_batch 44 = .ok (.astore_n 3, 1) := by decide +kernel
theorem dX5_batch_45 : decode cX5_batch 45 = .ok (.iload_n 2, 1) := by decide +kernel
theorem dX5_batch_46 : decode cX5_batch 46 = .ok (.tableswitch 78 0 6 #[42, 47, 52, 57, 62, 67, 72], 42) := by decide +kernel
theorem dX5_batch_88 : decode cX5_batch 88 = .ok (.aload_n 3, 1) := by decide +kernel
theorem dX5_batch_89 : decode cX5_batch 89 = .ok (.invokevirtual 149, 3) := by decide +kernel
theorem dX5_batch_92 : decode cX5_batch 92 = .ok (.ireturn, 1) := by decide +kernel
theorem dX5_batch_93 : decode cX5_batch 93 = .ok (.aload_n 3, 1) := by decide +kernel
theorem dX5_batch_94 : decode cX5_batch 94 = .ok (.getfield 111, 3) := by decide +kernel
theorem dX5_batch_97 : decode cX5_batch 97 = .ok (.ireturn, 1) := by decide +kernel
theorem dX5_batch_98 : decode cX5_batch 98 = .ok (.aload_n 3, 1) := by decide +kernel
theorem dX5_batch_99 : decode cX5_batch 99 = .ok (.getfield 152, 3) := by decide +kernel
theorem dX5_batch_102 : decode cX5_batch 102 = .ok (.ireturn, 1) := by decide +kernel
theorem dX5_batch_103 : decode cX5_batch 103 = .ok (.aload_n 3, 1) := by decide +kernel
theorem dX5_batch_104 : decode cX5_batch 104 = .ok (.getfield 155, 3) := by decide +kernel
theorem dX5_batch_107 : decode cX5_batch 107 = .ok (.ireturn, 1) := by decide +kernel
theorem dX5_batch_108 : decode cX5_batch 108 = .ok (.aload_n 3, 1) := by decide +kernel
theorem dX5_batch_109 : decode cX5_batch 109 = .ok (.getfield 158, 3) := by decide +kernel
theorem dX5_batch_112 : decode cX5_batch 112 = .ok (.ireturn, 1) := by decide +kernel
theorem dX5_batch_113 : decode cX5_batch 113 = .ok (.aload_n 3, 1) := by decide +kernel
theorem dX5_batch_114 : decode cX5_batch 114 = .ok (.invokevirtual 161, 3) := by decide +kernel
theorem dX5_batch_117 : decode cX5_batch 117 = .ok (.ireturn, 1) := by decide +kernel
theorem dX5_batch_118 : decode cX5_batch 118 = .ok (.aload_n 0, 1) := by decide +kernel
theorem dX5_batch_119 : decode cX5_batch 119 = .ok (.aload_n 3, 1) := by decide +kernel
theorem dX5_batch_120 : decode cX5_batch 120 = .ok (.invokevirtual 164, 3) := by decide +kernel
theorem dX5_batch_123 : decode cX5_batch 123 = .ok (.ireturn, 1) := by decide +kernel
theorem dX5_batch_124 : decode cX5_batch 124 = .ok (.aload_n 3, 1) := by decide +kernel
theorem dX5_batch_125 : decode cX5_batch 125 = .ok (.getfield 168, 3) := by decide +kernel
theorem dX5_batch_128 : decode cX5_batch 128 = .ok (.getfield 172, 3) := by decide +kernel
theorem dX5_batch_131 : decode cX5_batch 131 = .ok (.ireturn, 1) := by decide +kernel
set_option maxRecDepth 20000 in
theorem ggX5_unit_X5_checkUnit : GoodIn wsX5_unit wsX5_checkUnit := goodIn_ca (goodIn_r _ [8, 9, 10] (by decide +kernel) (by decide +kernel)) (goodIn_sub (fun _ h => List.mem_cons_of_mem _ (List.mem_append_right _ h)) (by decide +kernel))
set_option maxRecDepth 20000 in
theorem gX5_unit_X5_checkUnit : GoodIn wsX5_unit (wsV RX5 175 RX5 yX5_checkUnit wsX5_checkUnit) := goodIn_app (goodIn_of _ (by decide +kernel)) ggX5_unit_X5_checkUnit
set_option maxRecDepth 20000 in
theorem ggX5_unit_X2_fromEnd : GoodIn wsX5_unit wsX2_fromEnd := goodIn_r _ [14, 15, 16, 17, 41, 42, 43, 44, 45, 46, 47] (by decide +kernel) (by decide +kernel)
set_option maxRecDepth 20000 in
theorem gX5_unit_X2_fromEnd_n181 : GoodIn wsX5_unit (wsX2_fromEnd) := ggX5_unit_X2_fromEnd
set_option maxRecDepth 20000 in
theorem ggX5_unit_X5_batchOf : GoodIn wsX5_unit wsX5_batchOf := goodIn_r _ [21, 22, 23, 24, 25, 26, 27, 28, 29, 30, 31, 32, 33, 34, 35, 36, 37, 38, 39, 40] (by decide +kernel) (by decide +kernel)
set_option maxRecDepth 20000 in
theorem gX5_unit_X5_batchOf : GoodIn wsX5_unit (wsV RX5 184 RX5 yX5_batchOf wsX5_batchOf) := goodIn_app (goodIn_of _ (by decide +kernel)) ggX5_unit_X5_batchOf
theorem dX5_unit_0 : decode cX5_unit 0 = .ok (.aload_n 0, 1) := by decide +kernel
theorem dX5_unit_1 : decode cX5_unit 1 = .ok (.iload_n 1, 1) := by decide +kernel
theorem dX5_unit_2 : decode cX5_unit 2 = .ok (.invokevirtual 175, 3) := by decide +kernel
theorem dX5_unit_5 : decode cX5_unit 5 = .ok (.iload_n 1, 1) := by decide +kernel
theorem dX5_unit_6 : decode cX5_unit 6 = .ok (.istore_n 2, 1) := by decide +kernel
theorem dX5_unit_7 : decode cX5_unit 7 = .ok (.aload_n 0, 1) := by decide +kernel
theorem dX5_unit_8 : decode cX5_unit 8 = .ok (.getfield 73, 3) := by decide +kernel
theorem dX5_unit_11 : decode cX5_unit 11 = .ok (.ifCond .eq 12, 3) := by decide +kernel
theorem dX5_unit_14 : decode cX5_unit 14 = .ok (.aload_n 0, 1) := by decide +kernel
theorem dX5_unit_15 : decode cX5_unit 15 = .ok (.getfield 77, 3) := by decide +kernel
theorem dX5_unit_18 : decode cX5_unit 18 = .ok (.iconst 1, 1) := by decide +kernel
theorem dX5_unit_19 : decode cX5_unit 19 = .ok (.isub, 1) := by decide +kernel
theorem dX5_unit_20 : decode cX5_unit 20 = .ok (.goto 4, 3) := by decide +kernel
theorem dX5_unit_23 : decode cX5_unit 23 = .ok (.iconst (-1), 1) := by decide +kernel
theorem dX5_unit_24 : decode cX5_unit 24 = .ok (.istore_n 3, 1) := by decide +kernel
theorem dX5_unit_25 : decode cX5_unit 25 = .ok (.iload_n 3, 1) := by decide +kernel
theorem dX5_unit_26 : decode cX5_unit 26 = .ok (.ifCond .lt 52, 3) := by decide +kernel
theorem dX5_unit_29 : decode cX5_unit 29 = .ok (.iload_n 2, 1) := by decide +kernel
theorem dX5_unit_30 : decode cX5_unit 30 = .ok (.aload_n 0, 1) := by decide +kernel
theorem dX5_unit_31 : decode cX5_unit 31 = .ok (.getfield 11, 3) := by decide +kernel
theorem dX5_unit_34 : decode cX5_unit 34 = .ok (.iload_n 3, 1) := by decide +kernel
theorem dX5_unit_35 : decode cX5_unit 35 = .ok (.aaload, 1) := by decide +kernel
theorem dX5_unit_36 : decode cX5_unit 36 = .ok (.getfield 178, 3) := by decide +kernel
theorem dX5_unit_39 : decode cX5_unit 39 = .ok (.if_icmp .ge 21, 3) := by decide +kernel
theorem dX5_unit_42 : decode cX5_unit 42 = .ok (.aload_n 0, 1) := by decide +kernel
theorem dX5_unit_43 : decode cX5_unit 43 = .ok (.aload_n 0, 1) := by decide +kernel
theorem dX5_unit_44 : decode cX5_unit 44 = .ok (.getfield 11, 3) := by decide +kernel
theorem dX5_unit_47 : decode cX5_unit 47 = .ok (.iload_n 3, 1) := by decide +kernel
theorem dX5_unit_48 : decode cX5_unit 48 = .ok (.aaload, 1) := by decide +kernel
theorem dX5_unit_49 : decode cX5_unit 49 = .ok (.iload_n 2, 1) := by decide +kernel
theorem dX5_unit_50 : decode cX5_unit 50 = .ok (.invokevirtual 181, 3) := by decide +kernel
theorem dX5_unit_53 : decode cX5_unit 53 = .ok (.invokevirtual 184, 3) := by decide +kernel
theorem dX5_unit_56 : decode cX5_unit 56 = .ok (.getfield 188, 3) := by decide +kernel
theorem dX5_unit_59 : decode cX5_unit 59 = .ok (.ireturn, 1) := by decide +kernel
theorem dX5_unit_60 : decode cX5_unit 60 = .ok (.iload_n 2, 1) := by decide +kernel
theorem dX5_unit_61 : decode cX5_unit 61 = .ok (.aload_n 0, 1) := by decide +kernel
theorem dX5_unit_62 : decode cX5_unit 62 = .ok (.getfield 11, 3) := by decide +kernel
theorem dX5_unit_65 : decode cX5_unit 65 = .ok (.iload_n 3, 1) := by decide +kernel
theorem dX5_unit_66 : decode cX5_unit 66 = .ok (.aaload, 1) := by decide +kernel
theorem dX5_unit_67 : decode cX5_unit 67 = .ok (.getfield 178, 3) := by decide +kernel
theorem dX5_unit_70 : decode cX5_unit 70 = .ok (.isub, 1) := by decide +kernel
theorem dX5_unit_71 : decode cX5_unit 71 = .ok (.istore_n 2, 1) := by decide +kernel
theorem dX5_unit_72 : decode cX5_unit 72 = .ok (.iinc 3 (-1), 3) := by decide +kernel
theorem dX5_unit_75 : decode cX5_unit 75 = .ok (.goto (-50), 3) := by decide +kernel
theorem dX5_unit_78 : decode cX5_unit 78 = .ok (.iconst (-1), 1) := by decide +kernel
theorem dX5_unit_79 : decode cX5_unit 79 = .ok (.ireturn, 1) := by decide +kernel
set_option maxRecDepth 20000 in
theorem ggX5_unitAnew_X5_checkUnit : GoodIn wsX5_unitAnew wsX5_checkUnit := goodIn_ca (goodIn_r _ [7, 8, 9] (by decide +kernel) (by decide +kernel)) (goodIn_sub (fun _ h => List.mem_cons_of_mem _ (List.mem_append_right _ h)) (by decide +kernel))
set_option maxRecDepth 20000 in
theorem gX5_unitAnew_X5_checkUnit : GoodIn wsX5_unitAnew (wsV RX5 175 RX5 yX5_checkUnit wsX5_checkUnit) := goodIn_app (goodIn_of _ (by decide +kernel)) ggX5_unitAnew_X5_checkUnit
set_option maxRecDepth 20000 in
theorem ggX5_unitAnew_X0_inPipe : GoodIn wsX5_unitAnew wsX0_inPipe := goodIn_r _ [13, 14, 15, 16, 17, 35, 36, 37, 38, 39, 40, 41, 42, 43, 44, 45, 46, 47] (by decide +kernel) (by decide +kernel)
set_option maxRecDepth 20000 in
theorem gX5_unitAnew_X0_inPipe_n149 : GoodIn wsX5_unitAnew (wsX0_inPipe) := ggX5_unitAnew_X0_inPipe
theorem dX5_unitAnew_0 : decode cX5_unitAnew 0 = .ok (.aload_n 0, 1) := by decide +kernel
theorem dX5_unitAnew_1 : decode cX5_unitAnew 1 = .ok (.iload_n 1, 1) := by decide +kernel
theorem dX5_unitAnew_2 : decode cX5_unitAnew 2 = .ok (.invokevirtual 175, 3) := by decide +kernel
theorem dX5_unitAnew_5 : decode cX5_unitAnew 5 = .ok (.iload_n 1, 1) := by decide +kernel
theorem dX5_unitAnew_6 : decode cX5_unitAnew 6 = .ok (.istore_n 2, 1) := by decide +kernel
theorem dX5_unitAnew_7 : decode cX5_unitAnew 7 = .ok (.aload_n 0, 1) := by decide +kernel
theorem dX5_unitAnew_8 : decode cX5_unitAnew 8 = .ok (.getfield 73, 3) := by decide +kernel
theorem dX5_unitAnew_11 : decode cX5_unitAnew 11 = .ok (.ifCond .eq 12, 3) := by decide +kernel
theorem dX5_unitAnew_14 : decode cX5_unitAnew 14 = .ok (.aload_n 0, 1) := by decide +kernel
theorem dX5_unitAnew_15 : decode cX5_unitAnew 15 = .ok (.getfield 23, 3) := by decide +kernel
theorem dX5_unitAnew_18 : decode cX5_unitAnew 18 = .ok (.iconst 0, 1) := by decide +kernel
theorem dX5_unitAnew_19 : decode cX5_unitAnew 19 = .ok (.aaload, 1) := by decide +kernel
theorem dX5_unitAnew_20 : decode cX5_unitAnew 20 = .ok (.goto 4, 3) := by decide +kernel
theorem dX5_unitAnew_23 : decode cX5_unitAnew 23 = .ok (.aconst_null, 1) := by decide +kernel
theorem dX5_unitAnew_24 : decode cX5_unitAnew 24 = .ok (.astore_n 3, 1) := by decide +kernel
theorem dX5_unitAnew_25 : decode cX5_unitAnew 25 = .ok (.aload_n 3, 1) := by decide +kernel
theorem dX5_unitAnew_26 : decode cX5_unitAnew 26 = .ok (.ifnull 31, 3) := by decide +kernel
theorem dX5_unitAnew_29 : decode cX5_unitAnew 29 = .ok (.iload_n 2, 1) := by decide +kernel
theorem dX5_unitAnew_30 : decode cX5_unitAnew 30 = .ok (.aload_n 3, 1) := by decide +kernel
theorem dX5_unitAnew_31 : decode cX5_unitAnew 31 = .ok (.invokevirtual 149, 3) := by decide +kernel
theorem dX5_unitAnew_34 : decode cX5_unitAnew 34 = .ok (.if_icmp .ge 8, 3) := by decide +kernel
theorem dX5_unitAnew_37 : decode cX5_unitAnew 37 = .ok (.aload_n 3, 1) := by decide +kernel
theorem dX5_unitAnew_38 : decode cX5_unitAnew 38 = .ok (.getfield 188, 3) := by decide +kernel
theorem dX5_unitAnew_41 : decode cX5_unitAnew 41 = .ok (.ireturn, 1) := by decide +kernel
theorem dX5_unitAnew_42 : decode cX5_unitAnew 42 = .ok (.iload_n 2, 1) := by decide +kernel
theorem dX5_unitAnew_43 : decode cX5_unitAnew 43 = .ok (.aload_n 3, 1) := by decide +kernel
theorem dX5_unitAnew_44 : decode cX5_unitAnew 44 = .ok (.invokevirtual 149, 3) := by decide +kernel
theorem dX5_unitAnew_47 : decode cX5_unitAnew 47 = .ok (.isub, 1) := by decide +kernel
theorem dX5_unitAnew_48 : decode cX5_unitAnew 48 = .ok (.istore_n 2, 1) := by decide +kernel
theorem dX5_unitAnew_49 : decode cX5_unitAnew 49 = .ok (.aload_n 3, 1) := by decide +kernel
theorem dX5_unitAnew_50 : decode cX5_unitAnew 50 = .ok (.getfield 189, 3) := by decide +kernel
theorem dX5_unitAnew_53 : decode cX5_unitAnew 53 = .ok (.astore_n 3, 1) := by decide +kernel
theorem dX5_unitAnew_54 : decode cX5_unitAnew 54 = .ok (.goto (-29), 3) := by decide +kernel
theorem dX5_unitAnew_57 : decode cX5_unitAnew 57 = .ok (.iconst (-1), 1) := by decide +kernel
theorem dX5_unitAnew_58 : decode cX5_unitAnew 58 = .ok (.ireturn, 1) := by decide +kernel
set_option maxRecDepth 20000 in
theorem ggX5_pressure_X5_checkIndex : GoodIn wsX5_pressure wsX5_checkIndex := goodIn_ca (goodIn_r _ [10, 11, 12] (by decide +kernel) (by decide +kernel)) (goodIn_sub (fun _ h => List.mem_cons_of_mem _ (List.mem_append_left _ (List.mem_append_right _ h))) (by decide +kernel))
set_option maxRecDepth 20000 in
theorem gX5_pressure_X5_checkIndex : GoodIn wsX5_pressure (wsV RX5 90 RX5 yX5_checkIndex wsX5_checkIndex) := goodIn_app (goodIn_of _ (by decide +kernel)) ggX5_pressure_X5_checkIndex
set_option maxRecDepth 20000 in
theorem ggX5_pressure_X5_checkRange : GoodIn wsX5_pressure wsX5_checkRange := goodIn_ca (goodIn_r _ [16, 17, 18] (by decide +kernel) (by decide +kernel)) (goodIn_sub (fun _ h => List.mem_cons_of_mem _ (List.mem_append_right _ h)) (by decide +kernel))
set_option maxRecDepth 20000 in
theorem gX5_pressure_X5_checkRange : GoodIn wsX5_pressure (wsV RX5 69 RX5 yX5_checkRange wsX5_checkRange) := goodIn_app (goodIn_of _ (by decide +kernel)) ggX5_pressure_X5_checkRange
set_option maxRecDepth 20000 in
theorem ggX5_pressure_X5_headAt : GoodIn wsX5_pressure wsX5_headAt := goodIn_r _ [22, 3, 5, 23, 24, 25, 26, 27, 28, 29, 30, 31, 32, 9, 33, 34, 35, 49, 50, 51, 52, 53, 54, 55, 56, 57, 58, 59, 60, 61, 62, 63, 64, 65, 66, 67, 68, 69, 70, 71, 72, 73, 74, 75, 76, 77, 78, 79, 80, 81, 82, 83, 84, 85, 86, 87, 88, 89, 90] (by decide +kernel) (by decide +kernel)
set_option maxRecDepth 20000 in
theorem gX5_pressure_X5_headAt : GoodIn wsX5_pressure (wsV RX5 194 RX5 yX5_headAt wsX5_headAt) := goodIn_app (goodIn_of _ (by decide +kernel)) ggX5_pressure_X5_headAt
set_option maxRecDepth 20000 in
theorem ggX5_pressure_X5_friction : GoodIn wsX5_pressure wsX5_friction := goodIn_r _ [39, 40, 84, 85, 86, 87, 88, 89, 90, 49, 50, 51, 52, 53, 54, 55, 56, 57, 58, 59, 60, 61, 62, 63, 64, 65, 79, 80, 81, 82, 83] (by decide +kernel) (by decide +kernel)
set_option maxRecDepth 20000 in
theorem gX5_pressure_X5_friction : GoodIn wsX5_pressure (wsV RX5 197 RX5 yX5_friction wsX5_friction) := goodIn_app (goodIn_of _ (by decide +kernel)) ggX5_pressure_X5_friction
set_option maxRecDepth 20000 in
theorem ggX5_pressure_X5_atBeginning : GoodIn wsX5_pressure wsX5_atBeginning := goodIn_r _ [44, 45, 46, 47, 48, 19, 20, 21, 9, 22, 3, 5, 23, 24, 25, 26, 27, 28, 29, 30, 31, 32, 33, 34, 35, 49, 50, 51, 52, 53, 54, 55, 56, 57, 58, 59, 60, 61, 62, 63, 64, 65, 66, 67, 68, 69, 70, 71, 72, 73, 74, 75, 76, 77, 78, 79, 80, 81, 82, 83, 84, 85, 86, 87, 88, 89, 90] (by decide +kernel) (by decide +kernel)
set_option maxRecDepth 20000 in
theorem gX5_pressure_X5_atBeginning : GoodIn wsX5_pressure (wsV RX5 201 RX5 yX5_atBeginning wsX5_atBeginning) := goodIn_app (goodIn_of _ (by decide +kernel)) ggX5_pressure_X5_atBeginning
theorem dX5_pressure_0 : decode cX5_pressure 0 = .ok (.aload_n 0, 1) := by decide +kernel
theorem dX5_pressure_1 : decode cX5_pressure 1 = .ok (.iload_n 1, 1) := by decide +kernel
theorem dX5_pressure_2 : decode cX5_pressure 2 = .ok (.aload_n 0, 1) := by decide +kernel
theorem dX5_pressure_3 : decode cX5_pressure 3 = .ok (.getfield 77, 3) := by decide +kernel
theorem dX5_pressure_6 : decode cX5_pressure 6 = .ok (.invokevirtual 90, 3) := by decide +kernel
theorem dX5_pressure_9 : decode cX5_pressure 9 = .ok (.aload_n 0, 1) := by decide +kernel
theorem dX5_pressure_10 : decode cX5_pressure 10 = .ok (.iload_n 2, 1) := by decide +kernel
theorem dX5_pressure_11 : decode cX5_pressure 11 = .ok (.iconst 0, 1) := by decide +kernel
theorem dX5_pressure_12 : decode cX5_pressure 12 = .ok (.bipush 10, 2) := by decide +kernel
theorem dX5_pressure_14 : decode cX5_pressure 14 = .ok (.invokevirtual 69, 3) := by decide +kernel
theorem dX5_pressure_17 : decode cX5_pressure 17 = .ok (.aload_n 0, 1) := by decide +kernel
theorem dX5_pressure_18 : decode cX5_pressure 18 = .ok (.getfield 73, 3) := by decide +kernel
theorem dX5_pressure_21 : decode cX5_pressure 21 = .ok (.ifCond .ne 13, 3) := by decide +kernel
theorem dX5_pressure_24 : decode cX5_pressure 24 = .ok (.new 80, 3) := by decide +kernel
theorem dX5_pressure_27 : decode cX5_pressure 27 = .ok (.dup, 1) := by decide +kernel
theorem dX5_pressure_28 : decode cX5_pressure 28 = .ok (.ldc 192, 2) := by decide +kernel
theorem dX5_pressure_30 : decode cX5_pressure 30 = .ok (.invokespecial 84, 3) := by decide +kernel
theorem dX5_pressure_33 : decode cX5_pressure 33 = .ok (.athrow, 1) := by decide +kernel
theorem dX5_pressure_34 : decode cX5_pressure 34 = .ok (.aload_n 0, 1) := by decide +kernel
theorem dX5_pressure_35 : decode cX5_pressure 35 = .ok (.aload_n 0, 1) := by decide +kernel
theorem dX5_pressure_36 : decode cX5_pressure 36 = .ok (.getfield 77, 3) := by decide +kernel
theorem dX5_pressure_39 : decode cX5_pressure 39 = .ok (.iconst 1, 1) := by decide +kernel
theorem dX5_pressure_40 : decode cX5_pressure 40 = .ok (.isub, 1) := by decide +kernel
theorem dX5_pressure_41 : decode cX5_pressure 41 = .ok (.invokevirtual 194, 3) := by decide +kernel
theorem dX5_pressure_44 : decode cX5_pressure 44 = .ok (.istore_n 3, 1) := by decide +kernel
theorem dX5_pressure_45 : decode cX5_pressure 45 = .ok (.iload_n 1, 1) := by decide +kernel
theorem dX5_pressure_46 : decode cX5_pressure 46 = .ok (.istore 4, 2) := by decide +kernel
theorem dX5_pressure_48 : decode cX5_pressure 48 = .ok (.iload 4, 2) := by decide +kernel
theorem dX5_pressure_50 : decode cX5_pressure 50 = .ok (.aload_n 0, 1) := by decide +kernel
theorem dX5_pressure_51 : decode cX5_pressure 51 = .ok (.getfield 77, 3) := by decide +kernel
theorem dX5_pressure_54 : decode cX5_pressure 54 = .ok (.if_icmp .ge 24, 3) := by decide +kernel
theorem dX5_pressure_57 : decode cX5_pressure 57 = .ok (.iload_n 3, 1) := by decide +kernel
theorem dX5_pressure_58 : decode cX5_pressure 58 = .ok (.aload_n 0, 1) := by decide +kernel
theorem dX5_pressure_59 : decode cX5_pressure 59 = .ok (.aload_n 0, 1) := by decide +kernel
theorem dX5_pressure_60 : decode cX5_pressure 60 = .ok (.getfield 11, 3) := by decide +kernel
theorem dX5_pressure_63 : decode cX5_pressure 63 = .ok (.iload 4, 2) := by decide +kernel
theorem dX5_pressure_65 : decode cX5_pressure 65 = .ok (.aaload, 1) := by decide +kernel
theorem dX5_pressure_66 : decode cX5_pressure 66 = .ok (.iload_n 2, 1) := by decide +kernel
theorem dX5_pressure_67 : decode cX5_pressure 67 = .ok (.invokevirtual 197, 3) := by decide +kernel
theorem dX5_pressure_70 : decode cX5_pressure 70 = .ok (.iadd, 1) := by decide +kernel
theorem dX5_pressure_71 : decode cX5_pressure 71 = .ok (.istore_n 3, 1) := by decide +kernel
theorem dX5_pressure_72 : decode cX5_pressure 72 = .ok (.iinc 4 1, 3) := by decide +kernel
theorem dX5_pressure_75 : decode cX5_pressure 75 = .ok (.goto (-27), 3) := by decide +kernel
theorem dX5_pressure_78 : decode cX5_pressure 78 = .ok (.aload_n 0, 1) := by decide +kernel
theorem dX5_pressure_79 : decode cX5_pressure 79 = .ok (.iload_n 1, 1) := by decide +kernel
theorem dX5_pressure_80 : decode cX5_pressure 80 = .ok (.iload_n 3, 1) := by decide +kernel
theorem dX5_pressure_81 : decode cX5_pressure 81 = .ok (.invokevirtual 201, 3) := by decide +kernel
theorem dX5_pressure_84 : decode cX5_pressure 84 = .ok (.ireturn, 1) := by decide +kernel
set_option maxRecDepth 20000 in
theorem ggX5_tank_X5_checkIndex : GoodIn wsX5_tank wsX5_checkIndex := goodIn_ca (goodIn_r _ [6, 7, 8] (by decide +kernel) (by decide +kernel)) (goodIn_sub (fun _ h => List.mem_cons_of_mem _ (List.mem_append_left _ (List.mem_append_right _ h))) (by decide +kernel))
set_option maxRecDepth 20000 in
theorem gX5_tank_X5_checkIndex : GoodIn wsX5_tank (wsV RX5 90 RX5 yX5_checkIndex wsX5_checkIndex) := goodIn_app (goodIn_of _ (by decide +kernel)) ggX5_tank_X5_checkIndex
set_option maxRecDepth 20000 in
theorem ggX5_tank_X5_checkRange : GoodIn wsX5_tank wsX5_checkRange := goodIn_ca (goodIn_r _ [12, 13, 14] (by decide +kernel) (by decide +kernel)) (goodIn_sub (fun _ h => List.mem_cons_of_mem _ (List.mem_append_right _ h)) (by decide +kernel))
set_option maxRecDepth 20000 in
theorem gX5_tank_X5_checkRange : GoodIn wsX5_tank (wsV RX5 69 RX5 yX5_checkRange wsX5_checkRange) := goodIn_app (goodIn_of _ (by decide +kernel)) ggX5_tank_X5_checkRange
theorem dX5_tank_0 : decode cX5_tank 0 = .ok (.aload_n 0, 1) := by decide +kernel
theorem dX5_tank_1 : decode cX5_tank 1 = .ok (.iload_n 1, 1) := by decide +kernel
theorem dX5_tank_2 : decode cX5_tank 2 = .ok (.iconst 4, 1) := by decide +kernel
theorem dX5_tank_3 : decode cX5_tank 3 = .ok (.invokevirtual 90, 3) := by decide +kernel
theorem dX5_tank_6 : decode cX5_tank 6 = .ok (.aload_n 0, 1) := by decide +kernel
theorem dX5_tank_7 : decode cX5_tank 7 = .ok (.iload_n 2, 1) := by decide +kernel
theorem dX5_tank_8 : decode cX5_tank 8 = .ok (.iconst 0, 1) := by decide +kernel
theorem dX5_tank_9 : decode cX5_tank 9 = .ok (.iconst 2, 1) := by decide +kernel
theorem dX5_tank_10 : decode cX5_tank 10 = .ok (.invokevirtual 69, 3) := by decide +kernel
theorem dX5_tank_13 : decode cX5_tank 13 = .ok (.iload_n 2, 1) := by decide +kernel
theorem dX5_tank_14 : decode cX5_tank 14 = .ok (.lookupswitch 46 #[(0, 26), (1, 36)], 26) := by decide +kernel
theorem dX5_tank_40 : decode cX5_tank 40 = .ok (.aload_n 0, 1) := by decide +kernel
theorem dX5_tank_41 : decode cX5_tank 41 = .ok (.getfield 29, 3) := by decide +kernel
theorem dX5_tank_44 : decode cX5_tank 44 = .ok (.iload_n 1, 1) := by decide +kernel
theorem dX5_tank_45 : decode cX5_tank 45 = .ok (.aaload, 1) := by decide +kernel
theorem dX5_tank_46 : decode cX5_tank 46 = .ok (.getfield 205, 3) := by decide +kernel
theorem dX5_tank_49 : decode cX5_tank 49 = .ok (.ireturn, 1) := by decide +kernel
theorem dX5_tank_50 : decode cX5_tank 50 = .ok (.aload_n 0, 1) := by decide +kernel
theorem dX5_tank_51 : decode cX5_tank 51 = .ok (.getfield 29, 3) := by decide +kernel
theorem dX5_tank_54 : decode cX5_tank 54 = .ok (.iload_n 1, 1) := by decide +kernel
theorem dX5_tank_55 : decode cX5_tank 55 = .ok (.aaload, 1) := by decide +kernel
theorem dX5_tank_56 : decode cX5_tank 56 = .ok (.getfield 208, 3) := by decide +kernel
theorem dX5_tank_59 : decode cX5_tank 59 = .ok (.ireturn, 1) := by decide +kernel
theorem dX5_tank_60 : decode cX5_tank 60 = .ok (.aload_n 0, 1) := by decide +kernel
theorem dX5_tank_61 : decode cX5_tank 61 = .ok (.getfield 29, 3) := by decide +kernel
theorem dX5_tank_64 : decode cX5_tank 64 = .ok (.iload_n 1, 1) := by decide +kernel
theorem dX5_tank_65 : decode cX5_tank 65 = .ok (.aaload, 1) := by decide +kernel
theorem dX5_tank_66 : decode cX5_tank 66 = .ok (.getfield 211, 3) := by decide +kernel
theorem dX5_tank_69 : decode cX5_tank 69 = .ok (.ireturn, 1) := by decide +kernel
set_option maxRecDepth 20000 in
theorem ggX5_pipe_X5_checkRange : GoodIn wsX5_pipe wsX5_checkRange := goodIn_ca (goodIn_r _ [8, 9, 10] (by decide +kernel) (by decide +kernel)) (goodIn_sub (fun _ h => List.mem_cons_of_mem _ (List.mem_append_right _ h)) (by decide +kernel))
set_option maxRecDepth 20000 in
theorem gX5_pipe_X5_checkRange : GoodIn wsX5_pipe (wsV RX5 69 RX5 yX5_checkRange wsX5_checkRange) := goodIn_app (goodIn_of _ (by decide +kernel)) ggX5_pipe_X5_checkRange
set_option maxRecDepth 20000 in
theorem ggX5_pipe_X5_latestBalance : GoodIn wsX5_pipe wsX5_latestBalance := goodIn_r _ [14, 15, 21, 22, 23, 24, 25, 26, 27, 28, 29, 30, 31, 32, 33, 34, 35, 36, 37] (by decide +kernel) (by decide +kernel)
set_option maxRecDepth 20000 in
theorem gX5_pipe_X5_latestBalance : GoodIn wsX5_pipe (wsV RX5 217 RX5 yX5_latestBalance wsX5_latestBalance) := goodIn_app (goodIn_of _ (by decide +kernel)) ggX5_pipe_X5_latestBalance
set_option maxRecDepth 20000 in
theorem ggX5_pipe_X5_spilledInAll : GoodIn wsX5_pipe wsX5_spilledInAll := goodIn_r _ [19, 20, 21, 22, 23, 24, 25, 26, 27, 28, 29, 30, 31, 32, 33, 34, 35, 36, 37, 38, 39, 40, 41] (by decide +kernel) (by decide +kernel)
set_option maxRecDepth 20000 in
theorem gX5_pipe_X5_spilledInAll : GoodIn wsX5_pipe (wsV RX5 220 RX5 yX5_spilledInAll wsX5_spilledInAll) := goodIn_app (goodIn_of _ (by decide +kernel)) ggX5_pipe_X5_spilledInAll
theorem dX5_pipe_0 : decode cX5_pipe 0 = .ok (.aload_n 0, 1) := by decide +kernel
theorem dX5_pipe_1 : decode cX5_pipe 1 = .ok (.iload_n 1, 1) := by decide +kernel
theorem dX5_pipe_2 : decode cX5_pipe 2 = .ok (.iconst 0, 1) := by decide +kernel
theorem dX5_pipe_3 : decode cX5_pipe 3 = .ok (.iconst 5, 1) := by decide +kernel
theorem dX5_pipe_4 : decode cX5_pipe 4 = .ok (.invokevirtual 69, 3) := by decide +kernel
theorem dX5_pipe_7 : decode cX5_pipe 7 = .ok (.iload_n 1, 1) := by decide +kernel
theorem dX5_pipe_8 : decode cX5_pipe 8 = .ok (.tableswitch 79 0 4 #[36, 41, 46, 60, 65], 36) := by decide +kernel
theorem dX5_pipe_44 : decode cX5_pipe 44 = .ok (.aload_n 0, 1) := by decide +kernel
theorem dX5_pipe_45 : decode cX5_pipe 45 = .ok (.getfield 214, 3) := by decide +kernel
theorem dX5_pipe_48 : decode cX5_pipe 48 = .ok (.ireturn, 1) := by decide +kernel
theorem dX5_pipe_49 : decode cX5_pipe 49 = .ok (.aload_n 0, 1) := by decide +kernel
theorem dX5_pipe_50 : decode cX5_pipe 50 = .ok (.invokevirtual 217, 3) := by decide +kernel
theorem dX5_pipe_53 : decode cX5_pipe 53 = .ok (.ireturn, 1) := by decide +kernel
theorem dX5_pipe_54 : decode cX5_pipe 54 = .ok (.aload_n 0, 1) := by decide +kernel
theorem dX5_pipe_55 : decode cX5_pipe 55 = .ok (.invokevirtual 217, 3) := by decide +kernel
theorem dX5_pipe_58 : decode cX5_pipe 58 = .ok (.iconst 3, 1) := by decide +kernel
theorem dX5_pipe_59 : decode cX5_pipe 59 = .ok (.if_icmp .lt 7, 3) := by decide +kernel
theorem dX5_pipe_62 : decode cX5_pipe 62 = .ok (.iconst 1, 1) := by decide +kernel
theorem dX5_pipe_63 : decode cX5_pipe 63 = .ok (.goto 4, 3) := by decide +kernel
theorem dX5_pipe_66 : decode cX5_pipe 66 = .ok (.iconst 0, 1) := by decide +kernel
theorem dX5_pipe_67 : decode cX5_pipe 67 = .ok (.ireturn, 1) := by decide +kernel
theorem dX5_pipe_68 : decode cX5_pipe 68 = .ok (.aload_n 0, 1) := by decide +kernel
theorem dX5_pipe_69 : decode cX5_pipe 69 = .ok (.invokevirtual 220, 3) := by decide +kernel
theorem dX5_pipe_72 : decode cX5_pipe 72 = .ok (.ireturn, 1) := by decide +kernel
theorem dX5_pipe_73 : decode cX5_pipe 73 = .ok (.aload_n 0, 1) := by decide +kernel
theorem dX5_pipe_74 : decode cX5_pipe 74 = .ok (.getfield 54, 3) := by decide +kernel
theorem dX5_pipe_77 : decode cX5_pipe 77 = .ok (.iconst (-1), 1) := by decide +kernel
theorem dX5_pipe_78 : decode cX5_pipe 78 = .ok (.if_icmp .eq 7, 3) := by decide +kernel
theorem dX5_pipe_81 : decode cX5_pipe 81 = .ok (.iconst 1, 1) := by decide +kernel
theorem dX5_pipe_82 : decode cX5_pipe 82 = .ok (.goto 4, 3) := by decide +kernel
theorem dX5_pipe_85 : decode cX5_pipe 85 = .ok (.iconst 0, 1) := by decide +kernel
theorem dX5_pipe_86 : decode cX5_pipe 86 = .ok (.ireturn, 1) := by decide +kernel
theorem dX5_pipe_87 : decode cX5_pipe 87 = .ok (.aload_n 0, 1) := by decide +kernel
theorem dX5_pipe_88 : decode cX5_pipe 88 = .ok (.getfield 136, 3) := by decide +kernel
theorem dX5_pipe_91 : decode cX5_pipe 91 = .ok (.ireturn, 1) := by decide +kernel
set_option maxRecDepth 20000 in
theorem ggX5_dirt_X5_checkIndex : GoodIn wsX5_dirt wsX5_checkIndex := goodIn_ca (goodIn_r _ [7, 8, 9] (by decide +kernel) (by decide +kernel)) (goodIn_sub (fun _ h => List.mem_cons_of_mem _ (List.mem_append_right _ h)) (by decide +kernel))
set_option maxRecDepth 20000 in
theorem gX5_dirt_X5_checkIndex : GoodIn wsX5_dirt (wsV RX5 90 RX5 yX5_checkIndex wsX5_checkIndex) := goodIn_app (goodIn_of _ (by decide +kernel)) ggX5_dirt_X5_checkIndex
theorem dX5_dirt_0 : decode cX5_dirt 0 = .ok (.aload_n 0, 1) := by decide +kernel
theorem dX5_dirt_1 : decode cX5_dirt 1 = .ok (.iload_n 1, 1) := by decide +kernel
theorem dX5_dirt_2 : decode cX5_dirt 2 = .ok (.aload_n 0, 1) := by decide +kernel
theorem dX5_dirt_3 : decode cX5_dirt 3 = .ok (.getfield 77, 3) := by decide +kernel
theorem dX5_dirt_6 : decode cX5_dirt 6 = .ok (.invokevirtual 90, 3) := by decide +kernel
theorem dX5_dirt_9 : decode cX5_dirt 9 = .ok (.aload_n 0, 1) := by decide +kernel
theorem dX5_dirt_10 : decode cX5_dirt 10 = .ok (.getfield 11, 3) := by decide +kernel
theorem dX5_dirt_13 : decode cX5_dirt 13 = .ok (.iload_n 1, 1) := by decide +kernel
theorem dX5_dirt_14 : decode cX5_dirt 14 = .ok (.aaload, 1) := by decide +kernel
theorem dX5_dirt_15 : decode cX5_dirt 15 = .ok (.getfield 223, 3) := by decide +kernel
theorem dX5_dirt_18 : decode cX5_dirt 18 = .ok (.ireturn, 1) := by decide +kernel
set_option maxRecDepth 20000 in
theorem ggX5_share_X5_checkIndex : GoodIn wsX5_share wsX5_checkIndex := goodIn_ca (goodIn_r _ [9, 10, 11] (by decide +kernel) (by decide +kernel)) (goodIn_sub (fun _ h => List.mem_cons_of_mem _ (List.mem_append_left _ (List.mem_append_right _ h))) (by decide +kernel))
set_option maxRecDepth 20000 in
theorem gX5_share_X5_checkIndex : GoodIn wsX5_share (wsV RX5 90 RX5 yX5_checkIndex wsX5_checkIndex) := goodIn_app (goodIn_of _ (by decide +kernel)) ggX5_share_X5_checkIndex
set_option maxRecDepth 20000 in
theorem ggX5_share_X5_checkRange : GoodIn wsX5_share wsX5_checkRange := goodIn_ca (goodIn_r _ [15, 16, 17] (by decide +kernel) (by decide +kernel)) (goodIn_sub (fun _ h => List.mem_cons_of_mem _ (List.mem_append_right _ h)) (by decide +kernel))
set_option maxRecDepth 20000 in
theorem gX5_share_X5_checkRange : GoodIn wsX5_share (wsV RX5 69 RX5 yX5_checkRange wsX5_checkRange) := goodIn_app (goodIn_of _ (by decide +kernel)) ggX5_share_X5_checkRange
set_option maxRecDepth 20000 in
theorem ggX5_share_X5_waitingFor : GoodIn wsX5_share wsX5_waitingFor := goodIn_r _ [21, 22, 23, 24, 25, 26, 27, 28, 29, 34, 35, 36, 37, 38, 39, 40, 41, 42, 43, 44, 45, 46, 47, 48, 49, 50, 51, 52, 53, 54, 55, 56, 57, 58, 59, 60, 61, 62, 63] (by decide +kernel) (by decide +kernel)
set_option maxRecDepth 20000 in
theorem gX5_share_X5_waitingFor : GoodIn wsX5_share (wsV RX5 226 RX5 yX5_waitingFor wsX5_waitingFor) := goodIn_app (goodIn_of _ (by decide +kernel)) ggX5_share_X5_waitingFor
set_option maxRecDepth 20000 in
theorem ggX5_share_X5_claimOf : GoodIn wsX5_share wsX5_claimOf := goodIn_r _ [33, 22, 23, 34, 35, 36, 37, 38, 39, 40, 41, 42, 43, 44, 45, 46, 47, 48, 49, 50, 51, 52, 53, 54, 55, 56, 57, 58, 59, 60, 61, 62, 63] (by decide +kernel) (by decide +kernel)
set_option maxRecDepth 20000 in
theorem gX5_share_X5_claimOf : GoodIn wsX5_share (wsV RX5 229 RX5 yX5_claimOf wsX5_claimOf) := goodIn_app (goodIn_of _ (by decide +kernel)) ggX5_share_X5_claimOf
theorem dX5_share_0 : decode cX5_share 0 = .ok (.aload_n 0, 1) := by decide +kernel
theorem dX5_share_1 : decode cX5_share 1 = .ok (.iload_n 1, 1) := by decide +kernel
theorem dX5_share_2 : decode cX5_share 2 = .ok (.iconst 4, 1) := by decide +kernel
theorem dX5_share_3 : decode cX5_share 3 = .ok (.invokevirtual 90, 3) := by decide +kernel
theorem dX5_share_6 : decode cX5_share 6 = .ok (.aload_n 0, 1) := by decide +kernel
theorem dX5_share_7 : decode cX5_share 7 = .ok (.iload_n 2, 1) := by decide +kernel
theorem dX5_share_8 : decode cX5_share 8 = .ok (.iconst 0, 1) := by decide +kernel
theorem dX5_share_9 : decode cX5_share 9 = .ok (.sipush 9999, 3) := by decide +kernel
theorem dX5_share_12 : decode cX5_share 12 = .ok (.invokevirtual 69, 3) := by decide +kernel
theorem dX5_share_15 : decode cX5_share 15 = .ok (.iconst 0, 1) := by decide +kernel
theorem dX5_share_16 : decode cX5_share 16 = .ok (.istore_n 3, 1) := by decide +kernel
theorem dX5_share_17 : decode cX5_share 17 = .ok (.iconst 0, 1) := by decide +kernel
theorem dX5_share_18 : decode cX5_share 18 = .ok (.istore 4, 2) := by decide +kernel
theorem dX5_share_20 : decode cX5_share 20 = .ok (.iconst 0, 1) := by decide +kernel
theorem dX5_share_21 : decode cX5_share 21 = .ok (.istore 5, 2) := by decide +kernel
theorem dX5_share_23 : decode cX5_share 23 = .ok (.iload 5, 2) := by decide +kernel
theorem dX5_share_25 : decode cX5_share 25 = .ok (.iconst 4, 1) := by decide +kernel
theorem dX5_share_26 : decode cX5_share 26 = .ok (.if_icmp .ge 29, 3) := by decide +kernel
theorem dX5_share_29 : decode cX5_share 29 = .ok (.iload_n 3, 1) := by decide +kernel
theorem dX5_share_30 : decode cX5_share 30 = .ok (.aload_n 0, 1) := by decide +kernel
theorem dX5_share_31 : decode cX5_share 31 = .ok (.iload 5, 2) := by decide +kernel
theorem dX5_share_33 : decode cX5_share 33 = .ok (.invokevirtual 226, 3) := by decide +kernel
theorem dX5_share_36 : decode cX5_share 36 = .ok (.iadd, 1) := by decide +kernel
theorem dX5_share_37 : decode cX5_share 37 = .ok (.istore_n 3, 1) := by decide +kernel
theorem dX5_share_38 : decode cX5_share 38 = .ok (.iload 4, 2) := by decide +kernel
theorem dX5_share_40 : decode cX5_share 40 = .ok (.aload_n 0, 1) := by decide +kernel
theorem dX5_share_41 : decode cX5_share 41 = .ok (.iload 5, 2) := by decide +kernel
theorem dX5_share_43 : decode cX5_share 43 = .ok (.invokevirtual 229, 3) := by decide +kernel
theorem dX5_share_46 : decode cX5_share 46 = .ok (.iadd, 1) := by decide +kernel
theorem dX5_share_47 : decode cX5_share 47 = .ok (.istore 4, 2) := by decide +kernel
theorem dX5_share_49 : decode cX5_share 49 = .ok (.iinc 5 1, 3) := by decide +kernel
theorem dX5_share_52 : decode cX5_share 52 = .ok (.goto (-29), 3) := by decide +kernel
theorem dX5_share_55 : decode cX5_share 55 = .ok (.aload_n 0, 1) := by decide +kernel
theorem dX5_share_56 : decode cX5_share 56 = .ok (.iload_n 1, 1) := by decide +kernel
theorem dX5_share_57 : decode cX5_share 57 = .ok (.invokevirtual 226, 3) := by decide +kernel
theorem dX5_share_60 : decode cX5_share 60 = .ok (.istore 5, 2) := by decide +kernel
theorem dX5_share_62 : decode cX5_share 62 = .ok (.iload_n 3, 1) := by decide +kernel
theorem dX5_share_63 : decode cX5_share 63 = .ok (.iload_n 2, 1) := by decide +kernel
theorem dX5_share_64 : decode cX5_share 64 = .ok (.if_icmp .le 8, 3) := by decide +kernel
theorem dX5_share_67 : decode cX5_share 67 = .ok (.iload 4, 2) := by decide +kernel
theorem dX5_share_69 : decode cX5_share 69 = .ok (.ifCond .gt 6, 3) := by decide +kernel
theorem dX5_share_72 : decode cX5_share 72 = .ok (.iload 5, 2) := by decide +kernel
theorem dX5_share_74 : decode cX5_share 74 = .ok (.ireturn, 1) := by decide +kernel
theorem dX5_share_75 : decode cX5_share 75 = .ok (.iload 5, 2) := by decide +kernel
theorem dX5_share_77 : decode cX5_share 77 = .ok (.iload_n 2, 1) := by decide +kernel
theorem dX5_share_78 : decode cX5_share 78 = .ok (.aload_n 0, 1) := by decide +kernel
theorem dX5_share_79 : decode cX5_share 79 = .ok (.iload_n 1, 1) := by decide +kernel
theorem dX5_share_80 : decode cX5_share 80 = .ok (.invokevirtual 229, 3) := by decide +kernel
theorem dX5_share_83 : decode cX5_share 83 = .ok (.imul, 1) := by decide +kernel
theorem dX5_share_84 : decode cX5_share 84 = .ok (.iload 4, 2) := by decide +kernel
theorem dX5_share_86 : decode cX5_share 86 = .ok (.idiv, 1) := by decide +kernel
theorem dX5_share_87 : decode cX5_share 87 = .ok (.invokestatic 232, 3) := by decide +kernel
theorem dX5_share_90 : decode cX5_share 90 = .ok (.ireturn, 1) := by decide +kernel
theorem dX5_checkIndex_0 : decode cX5_checkIndex 0 = .ok (.iload_n 1, 1) := by decide +kernel
theorem dX5_checkIndex_1 : decode cX5_checkIndex 1 = .ok (.ifCond .lt 8, 3) := by decide +kernel
theorem dX5_checkIndex_4 : decode cX5_checkIndex 4 = .ok (.iload_n 1, 1) := by decide +kernel
theorem dX5_checkIndex_5 : decode cX5_checkIndex 5 = .ok (.iload_n 2, 1) := by decide +kernel
theorem dX5_checkIndex_6 : decode cX5_checkIndex 6 = .ok (.if_icmp .lt 13, 3) := by decide +kernel
theorem dX5_checkIndex_9 : decode cX5_checkIndex 9 = .ok (.new 144, 3) := by decide +kernel
theorem dX5_checkIndex_12 : decode cX5_checkIndex 12 = .ok (.dup, 1) := by decide +kernel
theorem dX5_checkIndex_13 : decode cX5_checkIndex 13 = .ok (.ldc 237, 2) := by decide +kernel
theorem dX5_checkIndex_15 : decode cX5_checkIndex 15 = .ok (.invokespecial 148, 3) := by decide +kernel
theorem dX5_checkIndex_18 : decode cX5_checkIndex 18 = .ok (.athrow, 1) := by decide +kernel
theorem dX5_checkIndex_19 : decode cX5_checkIndex 19 = .ok (.return_, 1) := by decide +kernel
theorem dX5_checkRange_0 : decode cX5_checkRange 0 = .ok (.iload_n 1, 1) := by decide +kernel
theorem dX5_checkRange_1 : decode cX5_checkRange 1 = .ok (.iload_n 2, 1) := by decide +kernel
theorem dX5_checkRange_2 : decode cX5_checkRange 2 = .ok (.if_icmp .lt 8, 3) := by decide +kernel
theorem dX5_checkRange_5 : decode cX5_checkRange 5 = .ok (.iload_n 1, 1) := by decide +kernel
theorem dX5_checkRange_6 : decode cX5_checkRange 6 = .ok (.iload_n 3, 1) := by decide +kernel
theorem dX5_checkRange_7 : decode cX5_checkRange 7 = .ok (.if_icmp .le 13, 3) := by decide +kernel
theorem dX5_checkRange_10 : decode cX5_checkRange 10 = .ok (.new 94, 3) := by decide +kernel
theorem dX5_checkRange_13 : decode cX5_checkRange 13 = .ok (.dup, 1) := by decide +kernel
theorem dX5_checkRange_14 : decode cX5_checkRange 14 = .ok (.ldc 239, 2) := by decide +kernel
theorem dX5_checkRange_16 : decode cX5_checkRange 16 = .ok (.invokespecial 98, 3) := by decide +kernel
theorem dX5_checkRange_19 : decode cX5_checkRange 19 = .ok (.athrow, 1) := by decide +kernel
theorem dX5_checkRange_20 : decode cX5_checkRange 20 = .ok (.return_, 1) := by decide +kernel
set_option maxRecDepth 20000 in
theorem ggX5_checkOnTheWay_X5_checkIndex : GoodIn wsX5_checkOnTheWay wsX5_checkIndex := goodIn_ca (goodIn_r _ [6, 7, 8] (by decide +kernel) (by decide +kernel)) (goodIn_sub (fun _ h => List.mem_cons_of_mem _ (List.mem_append_right _ h)) (by decide +kernel))
set_option maxRecDepth 20000 in
theorem gX5_checkOnTheWay_X5_checkIndex : GoodIn wsX5_checkOnTheWay (wsV RX5 90 RX5 yX5_checkIndex wsX5_checkIndex) := goodIn_app (goodIn_of _ (by decide +kernel)) ggX5_checkOnTheWay_X5_checkIndex
theorem dX5_checkOnTheWay_0 : decode cX5_checkOnTheWay 0 = .ok (.iload_n 1, 1) := by decide +kernel
theorem dX5_checkOnTheWay_1 : decode cX5_checkOnTheWay 1 = .ok (.iconst (-1), 1) := by decide +kernel
theorem dX5_checkOnTheWay_2 : decode cX5_checkOnTheWay 2 = .ok (.if_icmp .eq 14, 3) := by decide +kernel
theorem dX5_checkOnTheWay_5 : decode cX5_checkOnTheWay 5 = .ok (.aload_n 0, 1) := by decide +kernel
theorem dX5_checkOnTheWay_6 : decode cX5_checkOnTheWay 6 = .ok (.iload_n 1, 1) := by decide +kernel
theorem dX5_checkOnTheWay_7 : decode cX5_checkOnTheWay 7 = .ok (.aload_n 0, 1) := by decide +kernel
theorem dX5_checkOnTheWay_8 : decode cX5_checkOnTheWay 8 = .ok (.getfield 77, 3) := by decide +kernel
theorem dX5_checkOnTheWay_11 : decode cX5_checkOnTheWay 11 = .ok (.iconst 1, 1) := by decide +kernel
theorem dX5_checkOnTheWay_12 : decode cX5_checkOnTheWay 12 = .ok (.isub, 1) := by decide +kernel
theorem dX5_checkOnTheWay_13 : decode cX5_checkOnTheWay 13 = .ok (.invokevirtual 90, 3) := by decide +kernel
theorem dX5_checkOnTheWay_16 : decode cX5_checkOnTheWay 16 = .ok (.return_, 1) := by decide +kernel
theorem dX5_checkUnit_0 : decode cX5_checkUnit 0 = .ok (.iload_n 1, 1) := by decide +kernel
theorem dX5_checkUnit_1 : decode cX5_checkUnit 1 = .ok (.ifCond .ge 13, 3) := by decide +kernel
theorem dX5_checkUnit_4 : decode cX5_checkUnit 4 = .ok (.new 144, 3) := by decide +kernel
theorem dX5_checkUnit_7 : decode cX5_checkUnit 7 = .ok (.dup, 1) := by decide +kernel
theorem dX5_checkUnit_8 : decode cX5_checkUnit 8 = .ok (.ldc 241, 2) := by decide +kernel
theorem dX5_checkUnit_10 : decode cX5_checkUnit 10 = .ok (.invokespecial 148, 3) := by decide +kernel
theorem dX5_checkUnit_13 : decode cX5_checkUnit 13 = .ok (.athrow, 1) := by decide +kernel
theorem dX5_checkUnit_14 : decode cX5_checkUnit 14 = .ok (.return_, 1) := by decide +kernel
theorem dX5_unitOf_0 : decode cX5_unitOf 0 = .ok (.aload_n 1, 1) := by decide +kernel
theorem dX5_unitOf_1 : decode cX5_unitOf 1 = .ok (.getfield 188, 3) := by decide +kernel
theorem dX5_unitOf_4 : decode cX5_unitOf 4 = .ok (.sipush 512, 3) := by decide +kernel
theorem dX5_unitOf_7 : decode cX5_unitOf 7 = .ok (.imul, 1) := by decide +kernel
theorem dX5_unitOf_8 : decode cX5_unitOf 8 = .ok (.iload_n 2, 1) := by decide +kernel
theorem dX5_unitOf_9 : decode cX5_unitOf 9 = .ok (.iadd, 1) := by decide +kernel
theorem dX5_unitOf_10 : decode cX5_unitOf 10 = .ok (.ireturn, 1) := by decide +kernel
theorem dX5_placeOf_0 : decode cX5_placeOf 0 = .ok (.iload_n 1, 1) := by decide +kernel
theorem dX5_placeOf_1 : decode cX5_placeOf 1 = .ok (.sipush 512, 3) := by decide +kernel
theorem dX5_placeOf_4 : decode cX5_placeOf 4 = .ok (.irem, 1) := by decide +kernel
theorem dX5_placeOf_5 : decode cX5_placeOf 5 = .ok (.ireturn, 1) := by decide +kernel
theorem dX5_batchOf_0 : decode cX5_batchOf 0 = .ok (.iload_n 1, 1) := by decide +kernel
theorem dX5_batchOf_1 : decode cX5_batchOf 1 = .ok (.sipush 512, 3) := by decide +kernel
theorem dX5_batchOf_4 : decode cX5_batchOf 4 = .ok (.idiv, 1) := by decide +kernel
theorem dX5_batchOf_5 : decode cX5_batchOf 5 = .ok (.istore_n 2, 1) := by decide +kernel
theorem dX5_batchOf_6 : decode cX5_batchOf 6 = .ok (.iload_n 2, 1) := by decide +kernel
theorem dX5_batchOf_7 : decode cX5_batchOf 7 = .ok (.ifCond .lt 20, 3) := by decide +kernel
theorem dX5_batchOf_10 : decode cX5_batchOf 10 = .ok (.iload_n 2, 1) := by decide +kernel
theorem dX5_batchOf_11 : decode cX5_batchOf 11 = .ok (.aload_n 0, 1) := by decide +kernel
theorem dX5_batchOf_12 : decode cX5_batchOf 12 = .ok (.getfield 50, 3) := by decide +kernel
theorem dX5_batchOf_15 : decode cX5_batchOf 15 = .ok (.if_icmp .ge 12, 3) := by decide +kernel
theorem dX5_batchOf_18 : decode cX5_batchOf 18 = .ok (.aload_n 0, 1) := by decide +kernel
theorem dX5_batchOf_19 : decode cX5_batchOf 19 = .ok (.getfield 23, 3) := by decide +kernel
theorem dX5_batchOf_22 : decode cX5_batchOf 22 = .ok (.iload_n 2, 1) := by decide +kernel
theorem dX5_batchOf_23 : decode cX5_batchOf 23 = .ok (.aaload, 1) := by decide +kernel
theorem dX5_batchOf_24 : decode cX5_batchOf 24 = .ok (.goto 9, 3) := by decide +kernel
theorem dX5_batchOf_27 : decode cX5_batchOf 27 = .ok (.aload_n 0, 1) := by decide +kernel
theorem dX5_batchOf_28 : decode cX5_batchOf 28 = .ok (.getfield 23, 3) := by decide +kernel
theorem dX5_batchOf_31 : decode cX5_batchOf 31 = .ok (.iconst 0, 1) := by decide +kernel
theorem dX5_batchOf_32 : decode cX5_batchOf 32 = .ok (.aaload, 1) := by decide +kernel
theorem dX5_batchOf_33 : decode cX5_batchOf 33 = .ok (.areturn, 1) := by decide +kernel
set_option maxRecDepth 20000 in
theorem ggX5_fillSegments_X2_fill : GoodIn wsX5_fillSegments wsX2_fill := goodIn_r _ [6, 7, 8, 9, 27, 28, 29, 30, 31, 32, 33] (by decide +kernel) (by decide +kernel)
set_option maxRecDepth 20000 in
theorem gX5_fillSegments_X2_fill_n243 : GoodIn wsX5_fillSegments (wsX2_fill) := ggX5_fillSegments_X2_fill
theorem dX5_fillSegments_0 : decode cX5_fillSegments 0 = .ok (.iconst 0, 1) := by decide +kernel
theorem dX5_fillSegments_1 : decode cX5_fillSegments 1 = .ok (.istore_n 2, 1) := by decide +kernel
theorem dX5_fillSegments_2 : decode cX5_fillSegments 2 = .ok (.aload_n 0, 1) := by decide +kernel
theorem dX5_fillSegments_3 : decode cX5_fillSegments 3 = .ok (.getfield 77, 3) := by decide +kernel
theorem dX5_fillSegments_6 : decode cX5_fillSegments 6 = .ok (.iconst 1, 1) := by decide +kernel
theorem dX5_fillSegments_7 : decode cX5_fillSegments 7 = .ok (.isub, 1) := by decide +kernel
theorem dX5_fillSegments_8 : decode cX5_fillSegments 8 = .ok (.istore_n 3, 1) := by decide +kernel
theorem dX5_fillSegments_9 : decode cX5_fillSegments 9 = .ok (.iload_n 3, 1) := by decide +kernel
theorem dX5_fillSegments_10 : decode cX5_fillSegments 10 = .ok (.ifCond .lt 32, 3) := by decide +kernel
theorem dX5_fillSegments_13 : decode cX5_fillSegments 13 = .ok (.aload_n 0, 1) := by decide +kernel
theorem dX5_fillSegments_14 : decode cX5_fillSegments 14 = .ok (.getfield 11, 3) := by decide +kernel
theorem dX5_fillSegments_17 : decode cX5_fillSegments 17 = .ok (.iload_n 3, 1) := by decide +kernel
theorem dX5_fillSegments_18 : decode cX5_fillSegments 18 = .ok (.aaload, 1) := by decide +kernel
theorem dX5_fillSegments_19 : decode cX5_fillSegments 19 = .ok (.iload_n 2, 1) := by decide +kernel
theorem dX5_fillSegments_20 : decode cX5_fillSegments 20 = .ok (.iload_n 1, 1) := by decide +kernel
theorem dX5_fillSegments_21 : decode cX5_fillSegments 21 = .ok (.invokevirtual 243, 3) := by decide +kernel
theorem dX5_fillSegments_24 : decode cX5_fillSegments 24 = .ok (.iload_n 2, 1) := by decide +kernel
theorem dX5_fillSegments_25 : decode cX5_fillSegments 25 = .ok (.aload_n 0, 1) := by decide +kernel
theorem dX5_fillSegments_26 : decode cX5_fillSegments 26 = .ok (.getfield 11, 3) := by decide +kernel
theorem dX5_fillSegments_29 : decode cX5_fillSegments 29 = .ok (.iload_n 3, 1) := by decide +kernel
theorem dX5_fillSegments_30 : decode cX5_fillSegments 30 = .ok (.aaload, 1) := by decide +kernel
theorem dX5_fillSegments_31 : decode cX5_fillSegments 31 = .ok (.getfield 178, 3) := by decide +kernel
theorem dX5_fillSegments_34 : decode cX5_fillSegments 34 = .ok (.iadd, 1) := by decide +kernel
theorem dX5_fillSegments_35 : decode cX5_fillSegments 35 = .ok (.istore_n 2, 1) := by decide +kernel
theorem dX5_fillSegments_36 : decode cX5_fillSegments 36 = .ok (.iinc 3 (-1), 3) := by decide +kernel
theorem dX5_fillSegments_39 : decode cX5_fillSegments 39 = .ok (.goto (-30), 3) := by decide +kernel
theorem dX5_fillSegments_42 : decode cX5_fillSegments 42 = .ok (.iload_n 2, 1) := by decide +kernel
theorem dX5_fillSegments_43 : decode cX5_fillSegments 43 = .ok (.ireturn, 1) := by decide +kernel
set_option maxRecDepth 20000 in
theorem ggX5_passOne_X5_findRate : GoodIn wsX5_passOne wsX5_findRate := goodIn_r _ [11, 12, 13, 14, 15, 10, 16, 17, 18, 19, 20, 21, 22, 23, 24, 25, 26, 27, 28, 29, 30, 31, 32, 33, 34, 35, 36, 37, 38, 39, 40, 41, 42, 43, 44, 45, 46, 47, 48, 135, 136, 137, 138, 139, 140, 141, 142, 143, 144, 145, 146, 147, 148, 149, 150, 151, 156, 157, 158, 159, 160, 161, 162, 163, 164, 165, 166, 167, 168, 169, 170, 171, 172, 173, 174, 175, 176, 177, 178, 179, 180] (by decide +kernel) (by decide +kernel)
set_option maxRecDepth 20000 in
theorem gX5_passOne_X5_findRate : GoodIn wsX5_passOne (wsV RX5 249 RX5 yX5_findRate wsX5_findRate) := goodIn_app (goodIn_of _ (by decide +kernel)) ggX5_passOne_X5_findRate
set_option maxRecDepth 20000 in
theorem ggX5_passOne_X5_moveOne : GoodIn wsX5_passOne wsX5_moveOne := goodIn_r _ [52, 53, 54, 55, 10, 56, 57, 34, 35, 58, 59, 60, 61, 62, 63, 64, 65, 66, 67, 68, 69, 70, 71, 72, 73, 1, 2, 3, 74, 75, 76, 77, 78, 79, 80, 81, 82, 83, 84, 18, 85, 86, 23, 24, 25, 26, 27, 28, 29, 30, 31, 32, 33, 87, 88, 89, 90, 91, 92, 93, 94, 45, 46, 47, 48, 95, 96, 97, 98, 99, 100, 101, 102, 103, 104, 105, 106, 107, 108, 109, 110, 111, 112, 113, 114, 115, 116, 117, 118, 119, 120, 121, 122, 123, 124, 125, 126, 127, 152, 153, 154, 155, 135, 136, 137, 138, 139, 140, 141, 142, 143, 144, 145, 146, 147, 148, 149, 150, 151, 163, 164, 165, 166, 167, 168, 169, 170, 171, 172, 173, 174, 175, 176, 177, 178, 179, 180, 156, 157, 158, 159, 160, 161, 162, 181, 182, 183, 184] (by decide +kernel) (by decide +kernel)
set_option maxRecDepth 20000 in
theorem gX5_passOne_X5_moveOne : GoodIn wsX5_passOne (wsV RX5 252 RX5 yX5_moveOne wsX5_moveOne) := goodIn_app (goodIn_of _ (by decide +kernel)) ggX5_passOne_X5_moveOne
set_option maxRecDepth 20000 in
theorem ggX5_passOne_X5_soil : GoodIn wsX5_passOne wsX5_soil := goodIn_r _ [131, 17, 18, 132, 133, 47, 134, 135, 136, 137, 138, 139, 140, 141, 142, 143, 144, 145, 146, 147, 148, 149, 150, 151, 156, 157, 158, 159, 160, 161, 162] (by decide +kernel) (by decide +kernel)
set_option maxRecDepth 20000 in
theorem gX5_passOne_X5_soil : GoodIn wsX5_passOne (wsV RX5 256 RX5 yX5_soil wsX5_soil) := goodIn_app (goodIn_of _ (by decide +kernel)) ggX5_passOne_X5_soil
theorem dX5_passOne_0 : decode cX5_passOne 0 = .ok (.aload_n 0, 1) := by decide +kernel
theorem dX5_passOne_1 : decode cX5_passOne 1 = .ok (.getfield 40, 3) := by decide +kernel
theorem dX5_passOne_4 : decode cX5_passOne 4 = .ok (.iconst 0, 1) := by decide +kernel
theorem dX5_passOne_5 : decode cX5_passOne 5 = .ok (.putfield 246, 3) := by decide +kernel
theorem dX5_passOne_8 : decode cX5_passOne 8 = .ok (.aload_n 0, 1) := by decide +kernel
theorem dX5_passOne_9 : decode cX5_passOne 9 = .ok (.getfield 44, 3) := by decide +kernel
theorem dX5_passOne_12 : decode cX5_passOne 12 = .ok (.iconst 0, 1) := by decide +kernel
theorem dX5_passOne_13 : decode cX5_passOne 13 = .ok (.putfield 246, 3) := by decide +kernel
theorem dX5_passOne_16 : decode cX5_passOne 16 = .ok (.aload_n 0, 1) := by decide +kernel
theorem dX5_passOne_17 : decode cX5_passOne 17 = .ok (.getfield 47, 3) := by decide +kernel
theorem dX5_passOne_20 : decode cX5_passOne 20 = .ok (.iconst 0, 1) := by decide +kernel
theorem dX5_passOne_21 : decode cX5_passOne 21 = .ok (.putfield 246, 3) := by decide +kernel
theorem dX5_passOne_24 : decode cX5_passOne 24 = .ok (.aload_n 0, 1) := by decide +kernel
theorem dX5_passOne_25 : decode cX5_passOne 25 = .ok (.aload_n 0, 1) := by decide +kernel
theorem dX5_passOne_26 : decode cX5_passOne 26 = .ok (.invokevirtual 249, 3) := by decide +kernel
theorem dX5_passOne_29 : decode cX5_passOne 29 = .ok (.putfield 214, 3) := by decide +kernel
theorem dX5_passOne_32 : decode cX5_passOne 32 = .ok (.iconst 0, 1) := by decide +kernel
theorem dX5_passOne_33 : decode cX5_passOne 33 = .ok (.istore_n 1, 1) := by decide +kernel
theorem dX5_passOne_34 : decode cX5_passOne 34 = .ok (.iload_n 1, 1) := by decide +kernel
theorem dX5_passOne_35 : decode cX5_passOne 35 = .ok (.aload_n 0, 1) := by decide +kernel
theorem dX5_passOne_36 : decode cX5_passOne 36 = .ok (.getfield 214, 3) := by decide +kernel
theorem dX5_passOne_39 : decode cX5_passOne 39 = .ok (.if_icmp .ge 16, 3) := by decide +kernel
theorem dX5_passOne_42 : decode cX5_passOne 42 = .ok (.aload_n 0, 1) := by decide +kernel
theorem dX5_passOne_43 : decode cX5_passOne 43 = .ok (.invokevirtual 252, 3) := by decide +kernel
theorem dX5_passOne_46 : decode cX5_passOne 46 = .ok (.ifCond .eq 9, 3) := by decide +kernel
theorem dX5_passOne_49 : decode cX5_passOne 49 = .ok (.iinc 1 1, 3) := by decide +kernel
theorem dX5_passOne_52 : decode cX5_passOne 52 = .ok (.goto (-18), 3) := by decide +kernel
theorem dX5_passOne_55 : decode cX5_passOne 55 = .ok (.iload_n 1, 1) := by decide +kernel
theorem dX5_passOne_56 : decode cX5_passOne 56 = .ok (.ifCond .le 7, 3) := by decide +kernel
theorem dX5_passOne_59 : decode cX5_passOne 59 = .ok (.aload_n 0, 1) := by decide +kernel
theorem dX5_passOne_60 : decode cX5_passOne 60 = .ok (.invokevirtual 256, 3) := by decide +kernel
theorem dX5_passOne_63 : decode cX5_passOne 63 = .ok (.aload_n 0, 1) := by decide +kernel
theorem dX5_passOne_64 : decode cX5_passOne 64 = .ok (.getfield 33, 3) := by decide +kernel
theorem dX5_passOne_67 : decode cX5_passOne 67 = .ok (.aload_n 0, 1) := by decide +kernel
theorem dX5_passOne_68 : decode cX5_passOne 68 = .ok (.getfield 136, 3) := by decide +kernel
theorem dX5_passOne_71 : decode cX5_passOne 71 = .ok (.iconst 5, 1) := by decide +kernel
theorem dX5_passOne_72 : decode cX5_passOne 72 = .ok (.irem, 1) := by decide +kernel
theorem dX5_passOne_73 : decode cX5_passOne 73 = .ok (.iload_n 1, 1) := by decide +kernel
theorem dX5_passOne_74 : decode cX5_passOne 74 = .ok (.aload_n 0, 1) := by decide +kernel
theorem dX5_passOne_75 : decode cX5_passOne 75 = .ok (.getfield 47, 3) := by decide +kernel
theorem dX5_passOne_78 : decode cX5_passOne 78 = .ok (.getfield 246, 3) := by decide +kernel
theorem dX5_passOne_81 : decode cX5_passOne 81 = .ok (.isub, 1) := by decide +kernel
theorem dX5_passOne_82 : decode cX5_passOne 82 = .ok (.aload_n 0, 1) := by decide +kernel
theorem dX5_passOne_83 : decode cX5_passOne 83 = .ok (.getfield 44, 3) := by decide +kernel
theorem dX5_passOne_86 : decode cX5_passOne 86 = .ok (.getfield 246, 3) := by decide +kernel
theorem dX5_passOne_89 : decode cX5_passOne 89 = .ok (.isub, 1) := by decide +kernel
theorem dX5_passOne_90 : decode cX5_passOne 90 = .ok (.iastore, 1) := by decide +kernel
theorem dX5_passOne_91 : decode cX5_passOne 91 = .ok (.aload_n 0, 1) := by decide +kernel
theorem dX5_passOne_92 : decode cX5_passOne 92 = .ok (.dup, 1) := by decide +kernel
theorem dX5_passOne_93 : decode cX5_passOne 93 = .ok (.getfield 136, 3) := by decide +kernel
theorem dX5_passOne_96 : decode cX5_passOne 96 = .ok (.iconst 1, 1) := by decide +kernel
theorem dX5_passOne_97 : decode cX5_passOne 97 = .ok (.iadd, 1) := by decide +kernel
theorem dX5_passOne_98 : decode cX5_passOne 98 = .ok (.putfield 136, 3) := by decide +kernel
theorem dX5_passOne_101 : decode cX5_passOne 101 = .ok (.iload_n 1, 1) := by decide +kernel
theorem dX5_passOne_102 : decode cX5_passOne 102 = .ok (.ireturn, 1) := by decide +kernel
set_option maxRecDepth 20000 in
theorem ggX5_findRate_X5_noneAbove : GoodIn wsX5_findRate wsX5_noneAbove := goodIn_r _ [6, 7, 8, 9, 10, 11, 5, 12, 13, 14, 15, 16, 17, 18, 19, 20, 21, 22, 23, 24, 25, 26, 27, 28, 29, 30, 31, 32, 33, 34, 35, 36, 37, 38, 39, 40, 41, 42, 43, 44, 45, 46, 47, 48, 49, 50, 51, 52, 53, 54, 55, 56, 57, 58, 59, 60, 61, 62, 63, 64, 65, 66, 67, 68, 69, 70, 71, 72, 73, 74, 75, 76, 77, 78, 79, 80] (by decide +kernel) (by decide +kernel)
set_option maxRecDepth 20000 in
theorem gX5_findRate_X5_noneAbove : GoodIn wsX5_findRate (wsV RX5 259 RX5 yX5_noneAbove wsX5_noneAbove) := goodIn_app (goodIn_of _ (by decide +kernel)) ggX5_findRate_X5_noneAbove
theorem dX5_findRate_0 : decode cX5_findRate 0 = .ok (.aload_n 0, 1) := by decide +kernel
theorem dX5_findRate_1 : decode cX5_findRate 1 = .ok (.getfield 120, 3) := by decide +kernel
theorem dX5_findRate_4 : decode cX5_findRate 4 = .ok (.istore_n 1, 1) := by decide +kernel
theorem dX5_findRate_5 : decode cX5_findRate 5 = .ok (.iload_n 1, 1) := by decide +kernel
theorem dX5_findRate_6 : decode cX5_findRate 6 = .ok (.ifCond .le 19, 3) := by decide +kernel
theorem dX5_findRate_9 : decode cX5_findRate 9 = .ok (.aload_n 0, 1) := by decide +kernel
theorem dX5_findRate_10 : decode cX5_findRate 10 = .ok (.iload_n 1, 1) := by decide +kernel
theorem dX5_findRate_11 : decode cX5_findRate 11 = .ok (.invokevirtual 259, 3) := by decide +kernel
theorem dX5_findRate_14 : decode cX5_findRate 14 = .ok (.ifCond .eq 5, 3) := by decide +kernel
theorem dX5_findRate_17 : decode cX5_findRate 17 = .ok (.iload_n 1, 1) := by decide +kernel
theorem dX5_findRate_18 : decode cX5_findRate 18 = .ok (.ireturn, 1) := by decide +kernel
theorem dX5_findRate_19 : decode cX5_findRate 19 = .ok (.iinc 1 (-1), 3) := by decide +kernel
theorem dX5_findRate_22 : decode cX5_findRate 22 = .ok (.goto (-17), 3) := by decide +kernel
theorem dX5_findRate_25 : decode cX5_findRate 25 = .ok (.iconst 0, 1) := by decide +kernel
theorem dX5_findRate_26 : decode cX5_findRate 26 = .ok (.ireturn, 1) := by decide +kernel
set_option maxRecDepth 20000 in
theorem ggX5_noneAbove_X5_headAt : GoodIn wsX5_noneAbove wsX5_headAt := goodIn_r _ [7, 1, 2, 8, 9, 10, 11, 12, 13, 14, 15, 16, 17, 6, 18, 19, 20, 34, 35, 36, 37, 38, 39, 40, 41, 42, 43, 44, 45, 46, 47, 48, 49, 50, 58, 59, 60, 61, 62, 63, 64, 65, 66, 67, 68, 69, 70, 71, 72, 73, 74, 75, 51, 52, 53, 54, 55, 56, 57] (by decide +kernel) (by decide +kernel)
set_option maxRecDepth 20000 in
theorem gX5_noneAbove_X5_headAt : GoodIn wsX5_noneAbove (wsV RX5 194 RX5 yX5_headAt wsX5_headAt) := goodIn_app (goodIn_of _ (by decide +kernel)) ggX5_noneAbove_X5_headAt
set_option maxRecDepth 20000 in
theorem ggX5_noneAbove_X5_friction : GoodIn wsX5_noneAbove wsX5_friction := goodIn_r _ [24, 25, 51, 52, 53, 54, 55, 56, 57, 34, 35, 36, 37, 38, 39, 40, 41, 42, 43, 44, 45, 46, 47, 48, 49, 50, 71, 72, 73, 74, 75] (by decide +kernel) (by decide +kernel)
set_option maxRecDepth 20000 in
theorem gX5_noneAbove_X5_friction : GoodIn wsX5_noneAbove (wsV RX5 197 RX5 yX5_friction wsX5_friction) := goodIn_app (goodIn_of _ (by decide +kernel)) ggX5_noneAbove_X5_friction
set_option maxRecDepth 20000 in
theorem ggX5_noneAbove_X5_atBeginning : GoodIn wsX5_noneAbove wsX5_atBeginning := goodIn_r _ [29, 30, 31, 32, 33, 3, 4, 5, 6, 7, 1, 2, 8, 9, 10, 11, 12, 13, 14, 15, 16, 17, 18, 19, 20, 34, 35, 36, 37, 38, 39, 40, 41, 42, 43, 44, 45, 46, 47, 48, 49, 50, 58, 59, 60, 61, 62, 63, 64, 65, 66, 67, 68, 69, 70, 71, 72, 73, 74, 75, 51, 52, 53, 54, 55, 56, 57] (by decide +kernel) (by decide +kernel)
set_option maxRecDepth 20000 in
theorem gX5_noneAbove_X5_atBeginning : GoodIn wsX5_noneAbove (wsV RX5 201 RX5 yX5_atBeginning wsX5_atBeginning) := goodIn_app (goodIn_of _ (by decide +kernel)) ggX5_noneAbove_X5_atBeginning
theorem dX5_noneAbove_0 : decode cX5_noneAbove 0 = .ok (.aload_n 0, 1) := by decide +kernel
theorem dX5_noneAbove_1 : decode cX5_noneAbove 1 = .ok (.aload_n 0, 1) := by decide +kernel
theorem dX5_noneAbove_2 : decode cX5_noneAbove 2 = .ok (.getfield 77, 3) := by decide +kernel
theorem dX5_noneAbove_5 : decode cX5_noneAbove 5 = .ok (.iconst 1, 1) := by decide +kernel
theorem dX5_noneAbove_6 : decode cX5_noneAbove 6 = .ok (.isub, 1) := by decide +kernel
theorem dX5_noneAbove_7 : decode cX5_noneAbove 7 = .ok (.invokevirtual 194, 3) := by decide +kernel
theorem dX5_noneAbove_10 : decode cX5_noneAbove 10 = .ok (.istore_n 2, 1) := by decide +kernel
theorem dX5_noneAbove_11 : decode cX5_noneAbove 11 = .ok (.aload_n 0, 1) := by decide +kernel
theorem dX5_noneAbove_12 : decode cX5_noneAbove 12 = .ok (.getfield 77, 3) := by decide +kernel
theorem dX5_noneAbove_15 : decode cX5_noneAbove 15 = .ok (.iconst 1, 1) := by decide +kernel
theorem dX5_noneAbove_16 : decode cX5_noneAbove 16 = .ok (.isub, 1) := by decide +kernel
theorem dX5_noneAbove_17 : decode cX5_noneAbove 17 = .ok (.istore_n 3, 1) := by decide +kernel
theorem dX5_noneAbove_18 : decode cX5_noneAbove 18 = .ok (.iload_n 3, 1) := by decide +kernel
theorem dX5_noneAbove_19 : decode cX5_noneAbove 19 = .ok (.ifCond .lt 43, 3) := by decide +kernel
theorem dX5_noneAbove_22 : decode cX5_noneAbove 22 = .ok (.iload_n 2, 1) := by decide +kernel
theorem dX5_noneAbove_23 : decode cX5_noneAbove 23 = .ok (.aload_n 0, 1) := by decide +kernel
theorem dX5_noneAbove_24 : decode cX5_noneAbove 24 = .ok (.aload_n 0, 1) := by decide +kernel
theorem dX5_noneAbove_25 : decode cX5_noneAbove 25 = .ok (.getfield 11, 3) := by decide +kernel
theorem dX5_noneAbove_28 : decode cX5_noneAbove 28 = .ok (.iload_n 3, 1) := by decide +kernel
theorem dX5_noneAbove_29 : decode cX5_noneAbove 29 = .ok (.aaload, 1) := by decide +kernel
theorem dX5_noneAbove_30 : decode cX5_noneAbove 30 = .ok (.iload_n 1, 1) := by decide +kernel
theorem dX5_noneAbove_31 : decode cX5_noneAbove 31 = .ok (.invokevirtual 197, 3) := by decide +kernel
theorem dX5_noneAbove_34 : decode cX5_noneAbove 34 = .ok (.iadd, 1) := by decide +kernel
theorem dX5_noneAbove_35 : decode cX5_noneAbove 35 = .ok (.istore_n 2, 1) := by decide +kernel
theorem dX5_noneAbove_36 : decode cX5_noneAbove 36 = .ok (.aload_n 0, 1) := by decide +kernel
theorem dX5_noneAbove_37 : decode cX5_noneAbove 37 = .ok (.iload_n 3, 1) := by decide +kernel
theorem dX5_noneAbove_38 : decode cX5_noneAbove 38 = .ok (.iload_n 2, 1) := by decide +kernel
theorem dX5_noneAbove_39 : decode cX5_noneAbove 39 = .ok (.invokevirtual 201, 3) := by decide +kernel
theorem dX5_noneAbove_42 : decode cX5_noneAbove 42 = .ok (.aload_n 0, 1) := by decide +kernel
theorem dX5_noneAbove_43 : decode cX5_noneAbove 43 = .ok (.getfield 11, 3) := by decide +kernel
theorem dX5_noneAbove_46 : decode cX5_noneAbove 46 = .ok (.iload_n 3, 1) := by decide +kernel
theorem dX5_noneAbove_47 : decode cX5_noneAbove 47 = .ok (.aaload, 1) := by decide +kernel
theorem dX5_noneAbove_48 : decode cX5_noneAbove 48 = .ok (.getfield 263, 3) := by decide +kernel
theorem dX5_noneAbove_51 : decode cX5_noneAbove 51 = .ok (.if_icmp .le 5, 3) := by decide +kernel
theorem dX5_noneAbove_54 : decode cX5_noneAbove 54 = .ok (.iconst 0, 1) := by decide +kernel
theorem dX5_noneAbove_55 : decode cX5_noneAbove 55 = .ok (.ireturn, 1) := by decide +kernel
theorem dX5_noneAbove_56 : decode cX5_noneAbove 56 = .ok (.iinc 3 (-1), 3) := by decide +kernel
theorem dX5_noneAbove_59 : decode cX5_noneAbove 59 = .ok (.goto (-41), 3) := by decide +kernel
theorem dX5_noneAbove_62 : decode cX5_noneAbove 62 = .ok (.iconst 1, 1) := by decide +kernel
theorem dX5_noneAbove_63 : decode cX5_noneAbove 63 = .ok (.ireturn, 1) := by decide +kernel
set_option maxRecDepth 20000 in
theorem ggX5_atBeginning_X5_headAt : GoodIn wsX5_atBeginning wsX5_headAt := goodIn_r _ [9, 10, 11, 12, 13, 14, 15, 16, 17, 18, 19, 20, 21, 8, 22, 23, 24, 25, 26, 27, 28, 29, 30, 31, 32, 33, 34, 35, 36, 37, 38, 39, 40, 41, 42, 43, 44, 45, 46, 47, 48, 49, 50, 51, 52, 53, 54, 55, 56, 57, 58, 59, 60, 61, 62, 63, 64, 65, 66] (by decide +kernel) (by decide +kernel)
set_option maxRecDepth 20000 in
theorem gX5_atBeginning_X5_headAt : GoodIn wsX5_atBeginning (wsV RX5 194 RX5 yX5_headAt wsX5_headAt) := goodIn_app (goodIn_of _ (by decide +kernel)) ggX5_atBeginning_X5_headAt
theorem dX5_atBeginning_0 : decode cX5_atBeginning 0 = .ok (.iconst 0, 1) := by decide +kernel
theorem dX5_atBeginning_1 : decode cX5_atBeginning 1 = .ok (.iload_n 2, 1) := by decide +kernel
theorem dX5_atBeginning_2 : decode cX5_atBeginning 2 = .ok (.aload_n 0, 1) := by decide +kernel
theorem dX5_atBeginning_3 : decode cX5_atBeginning 3 = .ok (.iload_n 1, 1) := by decide +kernel
theorem dX5_atBeginning_4 : decode cX5_atBeginning 4 = .ok (.iconst 1, 1) := by decide +kernel
theorem dX5_atBeginning_5 : decode cX5_atBeginning 5 = .ok (.isub, 1) := by decide +kernel
theorem dX5_atBeginning_6 : decode cX5_atBeginning 6 = .ok (.invokevirtual 194, 3) := by decide +kernel
theorem dX5_atBeginning_9 : decode cX5_atBeginning 9 = .ok (.isub, 1) := by decide +kernel
theorem dX5_atBeginning_10 : decode cX5_atBeginning 10 = .ok (.invokestatic 266, 3) := by decide +kernel
theorem dX5_atBeginning_13 : decode cX5_atBeginning 13 = .ok (.ireturn, 1) := by decide +kernel
set_option maxRecDepth 20000 in
theorem ggX5_headAt_X2_fromEnd : GoodIn wsX5_headAt wsX2_fromEnd := goodIn_r _ [6, 7, 8, 9, 52, 53, 54, 55, 56, 57, 58] (by decide +kernel) (by decide +kernel)
set_option maxRecDepth 20000 in
theorem gX5_headAt_X2_fromEnd_n181 : GoodIn wsX5_headAt (wsX2_fromEnd) := ggX5_headAt_X2_fromEnd
set_option maxRecDepth 20000 in
theorem ggX5_headAt_X5_batchOf : GoodIn wsX5_headAt wsX5_batchOf := goodIn_r _ [14, 15, 16, 17, 18, 19, 20, 21, 22, 23, 24, 25, 26, 27, 28, 29, 30, 31, 32, 33] (by decide +kernel) (by decide +kernel)
set_option maxRecDepth 20000 in
theorem gX5_headAt_X5_batchOf : GoodIn wsX5_headAt (wsV RX5 184 RX5 yX5_batchOf wsX5_batchOf) := goodIn_app (goodIn_of _ (by decide +kernel)) ggX5_headAt_X5_batchOf
theorem dX5_headAt_0 : decode cX5_headAt 0 = .ok (.iload_n 1, 1) := by decide +kernel
theorem dX5_headAt_1 : decode cX5_headAt 1 = .ok (.ifCond .lt 11, 3) := by decide +kernel
theorem dX5_headAt_4 : decode cX5_headAt 4 = .ok (.iload_n 1, 1) := by decide +kernel
theorem dX5_headAt_5 : decode cX5_headAt 5 = .ok (.aload_n 0, 1) := by decide +kernel
theorem dX5_headAt_6 : decode cX5_headAt 6 = .ok (.getfield 77, 3) := by decide +kernel
theorem dX5_headAt_9 : decode cX5_headAt 9 = .ok (.if_icmp .lt 5, 3) := by decide +kernel
theorem dX5_headAt_12 : decode cX5_headAt 12 = .ok (.iconst 0, 1) := by decide +kernel
theorem dX5_headAt_13 : decode cX5_headAt 13 = .ok (.ireturn, 1) := by decide +kernel
theorem dX5_headAt_14 : decode cX5_headAt 14 = .ok (.aload_n 0, 1) := by decide +kernel
theorem dX5_headAt_15 : decode cX5_headAt 15 = .ok (.aload_n 0, 1) := by decide +kernel
theorem dX5_headAt_16 : decode cX5_headAt 16 = .ok (.getfield 11, 3) := by decide +kernel
theorem dX5_headAt_19 : decode cX5_headAt 19 = .ok (.iload_n 1, 1) := by decide +kernel
theorem dX5_headAt_20 : decode cX5_headAt 20 = .ok (.aaload, 1) := by decide +kernel
theorem dX5_headAt_21 : decode cX5_headAt 21 = .ok (.iconst 0, 1) := by decide +kernel
theorem dX5_headAt_22 : decode cX5_headAt 22 = .ok (.invokevirtual 181, 3) := by decide +kernel
theorem dX5_headAt_25 : decode cX5_headAt 25 = .ok (.invokevirtual 184, 3) := by decide +kernel
theorem dX5_headAt_28 : decode cX5_headAt 28 = .ok (.getfield 168, 3) := by decide +kernel
theorem dX5_headAt_31 : decode cX5_headAt 31 = .ok (.getfield 269, 3) := by decide +kernel
theorem dX5_headAt_34 : decode cX5_headAt 34 = .ok (.aload_n 0, 1) := by decide +kernel
theorem dX5_headAt_35 : decode cX5_headAt 35 = .ok (.getfield 11, 3) := by decide +kernel
theorem dX5_headAt_38 : decode cX5_headAt 38 = .ok (.iload_n 1, 1) := by decide +kernel
theorem dX5_headAt_39 : decode cX5_headAt 39 = .ok (.aaload, 1) := by decide +kernel
theorem dX5_headAt_40 : decode cX5_headAt 40 = .ok (.getfield 272, 3) := by decide +kernel
theorem dX5_headAt_43 : decode cX5_headAt 43 = .ok (.imul, 1) := by decide +kernel
theorem dX5_headAt_44 : decode cX5_headAt 44 = .ok (.ireturn, 1) := by decide +kernel
theorem dX5_friction_0 : decode cX5_friction 0 = .ok (.aload_n 1, 1) := by decide +kernel
theorem dX5_friction_1 : decode cX5_friction 1 = .ok (.getfield 223, 3) := by decide +kernel
theorem dX5_friction_4 : decode cX5_friction 4 = .ok (.istore_n 3, 1) := by decide +kernel
theorem dX5_friction_5 : decode cX5_friction 5 = .ok (.iconst 0, 1) := by decide +kernel
theorem dX5_friction_6 : decode cX5_friction 6 = .ok (.istore 4, 2) := by decide +kernel
theorem dX5_friction_8 : decode cX5_friction 8 = .ok (.iload 4, 2) := by decide +kernel
theorem dX5_friction_10 : decode cX5_friction 10 = .ok (.bipush 6, 2) := by decide +kernel
theorem dX5_friction_12 : decode cX5_friction 12 = .ok (.if_icmp .ge 30, 3) := by decide +kernel
theorem dX5_friction_15 : decode cX5_friction 15 = .ok (.iload_n 3, 1) := by decide +kernel
theorem dX5_friction_16 : decode cX5_friction 16 = .ok (.aload_n 1, 1) := by decide +kernel
theorem dX5_friction_17 : decode cX5_friction 17 = .ok (.getfield 275, 3) := by decide +kernel
theorem dX5_friction_20 : decode cX5_friction 20 = .ok (.iload 4, 2) := by decide +kernel
theorem dX5_friction_22 : decode cX5_friction 22 = .ok (.iaload, 1) := by decide +kernel
theorem dX5_friction_23 : decode cX5_friction 23 = .ok (.aload_n 0, 1) := by decide +kernel
theorem dX5_friction_24 : decode cX5_friction 24 = .ok (.getfield 17, 3) := by decide +kernel
theorem dX5_friction_27 : decode cX5_friction 27 = .ok (.iload 4, 2) := by decide +kernel
theorem dX5_friction_29 : decode cX5_friction 29 = .ok (.aaload, 1) := by decide +kernel
theorem dX5_friction_30 : decode cX5_friction 30 = .ok (.getfield 278, 3) := by decide +kernel
theorem dX5_friction_33 : decode cX5_friction 33 = .ok (.imul, 1) := by decide +kernel
theorem dX5_friction_34 : decode cX5_friction 34 = .ok (.iadd, 1) := by decide +kernel
theorem dX5_friction_35 : decode cX5_friction 35 = .ok (.istore_n 3, 1) := by decide +kernel
theorem dX5_friction_36 : decode cX5_friction 36 = .ok (.iinc 4 1, 3) := by decide +kernel
theorem dX5_friction_39 : decode cX5_friction 39 = .ok (.goto (-31), 3) := by decide +kernel
theorem dX5_friction_42 : decode cX5_friction 42 = .ok (.iload_n 2, 1) := by decide +kernel
theorem dX5_friction_43 : decode cX5_friction 43 = .ok (.iload_n 3, 1) := by decide +kernel
theorem dX5_friction_44 : decode cX5_friction 44 = .ok (.imul, 1) := by decide +kernel
theorem dX5_friction_45 : decode cX5_friction 45 = .ok (.bipush 99, 2) := by decide +kernel
theorem dX5_friction_47 : decode cX5_friction 47 = .ok (.iadd, 1) := by decide +kernel
theorem dX5_friction_48 : decode cX5_friction 48 = .ok (.bipush 100, 2) := by decide +kernel
theorem dX5_friction_50 : decode cX5_friction 50 = .ok (.idiv, 1) := by decide +kernel
theorem dX5_friction_51 : decode cX5_friction 51 = .ok (.ireturn, 1) := by decide +kernel
set_option maxRecDepth 20000 in
theorem ggX5_moveOne_X5_nextBatch : GoodIn wsX5_moveOne wsX5_nextBatch := goodIn_r _ [5, 6, 7, 8, 9, 10, 11, 12, 13, 14, 15, 16, 17, 18, 19, 20, 102, 103, 104, 105, 106, 107, 108, 109, 110, 111, 112, 113, 114, 115, 116, 117, 118, 119, 120, 121, 122, 123, 124, 125, 126, 127, 128, 129, 130, 131, 132, 133, 134, 135, 136] (by decide +kernel) (by decide +kernel)
set_option maxRecDepth 20000 in
theorem gX5_moveOne_X5_nextBatch : GoodIn wsX5_moveOne (wsV RX5 281 RX5 yX5_nextBatch wsX5_nextBatch) := goodIn_app (goodIn_of _ (by decide +kernel)) ggX5_moveOne_X5_nextBatch
set_option maxRecDepth 20000 in
theorem ggX5_moveOne_X5_nextTap : GoodIn wsX5_moveOne wsX5_nextTap := goodIn_r _ [24, 25, 26, 27, 28, 29, 30, 31, 32, 33, 34, 102, 103, 104, 105, 106, 107, 108, 109, 110, 111, 112, 113, 114, 115, 116, 117, 118, 98, 99, 100, 101] (by decide +kernel) (by decide +kernel)
set_option maxRecDepth 20000 in
theorem gX5_moveOne_X5_nextTap : GoodIn wsX5_moveOne (wsV RX5 285 RX5 yX5_nextTap wsX5_nextTap) := goodIn_app (goodIn_of _ (by decide +kernel)) ggX5_moveOne_X5_nextTap
set_option maxRecDepth 20000 in
theorem ggX5_moveOne_X5_sendOff : GoodIn wsX5_moveOne wsX5_sendOff := goodIn_r _ [38, 39, 25, 26, 40, 41, 42, 43, 44, 45, 46, 47, 48, 49, 50, 51, 4, 52, 7, 8, 53, 54, 55, 56, 57, 58, 59, 60, 61, 62, 63, 64, 65, 66, 67, 68, 69, 70, 71, 72, 73, 74, 75, 76, 77, 78, 79, 80, 81, 82, 83, 84, 85, 86, 102, 103, 104, 105, 106, 107, 108, 109, 110, 111, 112, 113, 114, 115, 116, 117, 118, 98, 99, 100, 101, 119, 120, 121, 122, 123, 124, 125, 126, 127, 128, 129, 130, 131, 137, 138, 139, 140, 141, 142, 143, 132, 133, 134, 135, 136, 144, 145, 146, 147] (by decide +kernel) (by decide +kernel)
set_option maxRecDepth 20000 in
theorem gX5_moveOne_X5_sendOff : GoodIn wsX5_moveOne (wsV RX5 289 RX5 yX5_sendOff wsX5_sendOff) := goodIn_app (goodIn_of _ (by decide +kernel)) ggX5_moveOne_X5_sendOff
set_option maxRecDepth 20000 in
theorem ggX5_moveOne_X5_bringIn : GoodIn wsX5_moveOne wsX5_bringIn := goodIn_r _ [90, 6, 69, 39, 91, 92, 93, 4, 94, 42, 43, 44, 45, 46, 47, 48, 49, 50, 51, 52, 7, 8, 95, 96, 97, 102, 103, 104, 105, 106, 107, 108, 109, 110, 111, 112, 113, 114, 115, 116, 117, 118, 119, 120, 121, 122, 123, 124, 125, 126, 127, 128, 129, 130, 131, 137, 138, 139, 140, 141, 142, 143, 132, 133, 134, 135, 136] (by decide +kernel) (by decide +kernel)
set_option maxRecDepth 20000 in
theorem gX5_moveOne_X5_bringIn : GoodIn wsX5_moveOne (wsV RX5 296 RX5 yX5_bringIn wsX5_bringIn) := goodIn_app (goodIn_of _ (by decide +kernel)) ggX5_moveOne_X5_bringIn
theorem dX5_moveOne_0 : decode cX5_moveOne 0 = .ok (.aload_n 0, 1) := by decide +kernel
theorem dX5_moveOne_1 : decode cX5_moveOne 1 = .ok (.invokevirtual 281, 3) := by decide +kernel
theorem dX5_moveOne_4 : decode cX5_moveOne 4 = .ok (.astore_n 1, 1) := by decide +kernel
theorem dX5_moveOne_5 : decode cX5_moveOne 5 = .ok (.aload_n 1, 1) := by decide +kernel
theorem dX5_moveOne_6 : decode cX5_moveOne 6 = .ok (.ifnonnull 5, 3) := by decide +kernel
theorem dX5_moveOne_9 : decode cX5_moveOne 9 = .ok (.iconst 0, 1) := by decide +kernel
theorem dX5_moveOne_10 : decode cX5_moveOne 10 = .ok (.ireturn, 1) := by decide +kernel
theorem dX5_moveOne_11 : decode cX5_moveOne 11 = .ok (.aload_n 0, 1) := by decide +kernel
theorem dX5_moveOne_12 : decode cX5_moveOne 12 = .ok (.invokevirtual 285, 3) := by decide +kernel
theorem dX5_moveOne_15 : decode cX5_moveOne 15 = .ok (.astore_n 2, 1) := by decide +kernel
theorem dX5_moveOne_16 : decode cX5_moveOne 16 = .ok (.aload_n 0, 1) := by decide +kernel
theorem dX5_moveOne_17 : decode cX5_moveOne 17 = .ok (.aload_n 2, 1) := by decide +kernel
theorem dX5_moveOne_18 : decode cX5_moveOne 18 = .ok (.invokevirtual 289, 3) := by decide +kernel
theorem dX5_moveOne_21 : decode cX5_moveOne 21 = .ok (.aload_n 0, 1) := by decide +kernel
theorem dX5_moveOne_22 : decode cX5_moveOne 22 = .ok (.aload_n 1, 1) := by decide +kernel
theorem dX5_moveOne_23 : decode cX5_moveOne 23 = .ok (.aload_n 2, 1) := by decide +kernel
theorem dX5_moveOne_24 : decode cX5_moveOne 24 = .ok (.getfield 293, 3) := by decide +kernel
theorem dX5_moveOne_27 : decode cX5_moveOne 27 = .ok (.invokevirtual 296, 3) := by decide +kernel
theorem dX5_moveOne_30 : decode cX5_moveOne 30 = .ok (.iconst 1, 1) := by decide +kernel
theorem dX5_moveOne_31 : decode cX5_moveOne 31 = .ok (.ireturn, 1) := by decide +kernel
set_option maxRecDepth 20000 in
theorem ggX5_nextBatch_X0_waiting : GoodIn wsX5_nextBatch wsX0_waiting := goodIn_r _ [7, 8, 9, 33, 34, 35, 36, 37, 38, 39, 40, 41, 42, 43, 44, 45] (by decide +kernel) (by decide +kernel)
set_option maxRecDepth 20000 in
theorem gX5_nextBatch_X0_waiting_n161 : GoodIn wsX5_nextBatch (wsX0_waiting) := ggX5_nextBatch_X0_waiting
set_option maxRecDepth 20000 in
theorem ggX5_nextBatch_X1_bears : GoodIn wsX5_nextBatch wsX1_bears := goodIn_r _ [13, 14, 15, 46, 47, 48, 49, 50] (by decide +kernel) (by decide +kernel)
set_option maxRecDepth 20000 in
theorem gX5_nextBatch_X1_bears_n300 : GoodIn wsX5_nextBatch (wsX1_bears) := ggX5_nextBatch_X1_bears
theorem dX5_nextBatch_0 : decode cX5_nextBatch 0 = .ok (.aload_n 0, 1) := by decide +kernel
theorem dX5_nextBatch_1 : decode cX5_nextBatch 1 = .ok (.getfield 65, 3) := by decide +kernel
theorem dX5_nextBatch_4 : decode cX5_nextBatch 4 = .ok (.invokevirtual 161, 3) := by decide +kernel
theorem dX5_nextBatch_7 : decode cX5_nextBatch 7 = .ok (.ifCond .le 8, 3) := by decide +kernel
theorem dX5_nextBatch_10 : decode cX5_nextBatch 10 = .ok (.aload_n 0, 1) := by decide +kernel
theorem dX5_nextBatch_11 : decode cX5_nextBatch 11 = .ok (.getfield 65, 3) := by decide +kernel
theorem dX5_nextBatch_14 : decode cX5_nextBatch 14 = .ok (.areturn, 1) := by decide +kernel
theorem dX5_nextBatch_15 : decode cX5_nextBatch 15 = .ok (.iconst 1, 1) := by decide +kernel
theorem dX5_nextBatch_16 : decode cX5_nextBatch 16 = .ok (.istore_n 1, 1) := by decide +kernel
theorem dX5_nextBatch_17 : decode cX5_nextBatch 17 = .ok (.iload_n 1, 1) := by decide +kernel
theorem dX5_nextBatch_18 : decode cX5_nextBatch 18 = .ok (.aload_n 0, 1) := by decide +kernel
theorem dX5_nextBatch_19 : decode cX5_nextBatch 19 = .ok (.getfield 50, 3) := by decide +kernel
theorem dX5_nextBatch_22 : decode cX5_nextBatch 22 = .ok (.if_icmp .ge 50, 3) := by decide +kernel
theorem dX5_nextBatch_25 : decode cX5_nextBatch 25 = .ok (.aload_n 0, 1) := by decide +kernel
theorem dX5_nextBatch_26 : decode cX5_nextBatch 26 = .ok (.getfield 23, 3) := by decide +kernel
theorem dX5_nextBatch_29 : decode cX5_nextBatch 29 = .ok (.iload_n 1, 1) := by decide +kernel
theorem dX5_nextBatch_30 : decode cX5_nextBatch 30 = .ok (.aaload, 1) := by decide +kernel
theorem dX5_nextBatch_31 : decode cX5_nextBatch 31 = .ok (.getfield 111, 3) := by decide +kernel
theorem dX5_nextBatch_34 : decode cX5_nextBatch 34 = .ok (.ifCond .ne 32, 3) := by decide +kernel
theorem dX5_nextBatch_37 : decode cX5_nextBatch 37 = .ok (.aload_n 0, 1) := by decide +kernel
theorem dX5_nextBatch_38 : decode cX5_nextBatch 38 = .ok (.getfield 23, 3) := by decide +kernel
theorem dX5_nextBatch_41 : decode cX5_nextBatch 41 = .ok (.iload_n 1, 1) := by decide +kernel
theorem dX5_nextBatch_42 : decode cX5_nextBatch 42 = .ok (.aaload, 1) := by decide +kernel
theorem dX5_nextBatch_43 : decode cX5_nextBatch 43 = .ok (.getfield 168, 3) := by decide +kernel
theorem dX5_nextBatch_46 : decode cX5_nextBatch 46 = .ok (.aload_n 0, 1) := by decide +kernel
theorem dX5_nextBatch_47 : decode cX5_nextBatch 47 = .ok (.getfield 65, 3) := by decide +kernel
theorem dX5_nextBatch_50 : decode cX5_nextBatch 50 = .ok (.getfield 168, 3) := by decide +kernel
theorem dX5_nextBatch_53 : decode cX5_nextBatch 53 = .ok (.invokevirtual 300, 3) := by decide +kernel
theorem dX5_nextBatch_56 : decode cX5_nextBatch 56 = .ok (.ifCond .eq 10, 3) := by decide +kernel
theorem dX5_nextBatch_59 : decode cX5_nextBatch 59 = .ok (.aload_n 0, 1) := by decide +kernel
theorem dX5_nextBatch_60 : decode cX5_nextBatch 60 = .ok (.getfield 23, 3) := by decide +kernel
theorem dX5_nextBatch_63 : decode cX5_nextBatch 63 = .ok (.iload_n 1, 1) := by decide +kernel
theorem dX5_nextBatch_64 : decode cX5_nextBatch 64 = .ok (.aaload, 1) := by decide +kernel
theorem dX5_nextBatch_65 : decode cX5_nextBatch 65 = .ok (.areturn, 1) := by decide +kernel
theorem dX5_nextBatch_66 : decode cX5_nextBatch 66 = .ok (.iinc 1 1, 3) := by decide +kernel
theorem dX5_nextBatch_69 : decode cX5_nextBatch 69 = .ok (.goto (-52), 3) := by decide +kernel
theorem dX5_nextBatch_72 : decode cX5_nextBatch 72 = .ok (.aconst_null, 1) := by decide +kernel
theorem dX5_nextBatch_73 : decode cX5_nextBatch 73 = .ok (.areturn, 1) := by decide +kernel
set_option maxRecDepth 20000 in
theorem ggX5_nextTap_X4_takesMore : GoodIn wsX5_nextTap wsX4_takesMore := goodIn_r _ [7, 8, 9, 10, 28, 29, 30, 31] (by decide +kernel) (by decide +kernel)
set_option maxRecDepth 20000 in
theorem gX5_nextTap_X4_takesMore_n304 : GoodIn wsX5_nextTap (wsX4_takesMore) := ggX5_nextTap_X4_takesMore
theorem dX5_nextTap_0 : decode cX5_nextTap 0 = .ok (.aload_n 0, 1) := by decide +kernel
theorem dX5_nextTap_1 : decode cX5_nextTap 1 = .ok (.getfield 40, 3) := by decide +kernel
theorem dX5_nextTap_4 : decode cX5_nextTap 4 = .ok (.invokevirtual 304, 3) := by decide +kernel
theorem dX5_nextTap_7 : decode cX5_nextTap 7 = .ok (.ifCond .eq 8, 3) := by decide +kernel
theorem dX5_nextTap_10 : decode cX5_nextTap 10 = .ok (.aload_n 0, 1) := by decide +kernel
theorem dX5_nextTap_11 : decode cX5_nextTap 11 = .ok (.getfield 40, 3) := by decide +kernel
theorem dX5_nextTap_14 : decode cX5_nextTap 14 = .ok (.areturn, 1) := by decide +kernel
theorem dX5_nextTap_15 : decode cX5_nextTap 15 = .ok (.aload_n 0, 1) := by decide +kernel
theorem dX5_nextTap_16 : decode cX5_nextTap 16 = .ok (.getfield 44, 3) := by decide +kernel
theorem dX5_nextTap_19 : decode cX5_nextTap 19 = .ok (.invokevirtual 304, 3) := by decide +kernel
theorem dX5_nextTap_22 : decode cX5_nextTap 22 = .ok (.ifCond .eq 10, 3) := by decide +kernel
theorem dX5_nextTap_25 : decode cX5_nextTap 25 = .ok (.aload_n 0, 1) := by decide +kernel
theorem dX5_nextTap_26 : decode cX5_nextTap 26 = .ok (.getfield 44, 3) := by decide +kernel
theorem dX5_nextTap_29 : decode cX5_nextTap 29 = .ok (.goto 7, 3) := by decide +kernel
theorem dX5_nextTap_32 : decode cX5_nextTap 32 = .ok (.aload_n 0, 1) := by decide +kernel
theorem dX5_nextTap_33 : decode cX5_nextTap 33 = .ok (.getfield 47, 3) := by decide +kernel
theorem dX5_nextTap_36 : decode cX5_nextTap 36 = .ok (.areturn, 1) := by decide +kernel
set_option maxRecDepth 20000 in
theorem ggX5_sendOff_X2_fromEnd : GoodIn wsX5_sendOff wsX2_fromEnd := goodIn_r _ [9, 10, 11, 12, 88, 89, 90, 91, 92, 93, 94] (by decide +kernel) (by decide +kernel)
set_option maxRecDepth 20000 in
theorem gX5_sendOff_X2_fromEnd_n181 : GoodIn wsX5_sendOff (wsX2_fromEnd) := ggX5_sendOff_X2_fromEnd
set_option maxRecDepth 20000 in
theorem ggX5_sendOff_X5_batchOf : GoodIn wsX5_sendOff wsX5_batchOf := goodIn_r _ [17, 18, 19, 54, 55, 56, 57, 58, 59, 60, 61, 62, 63, 64, 65, 66, 67, 68, 69, 70] (by decide +kernel) (by decide +kernel)
set_option maxRecDepth 20000 in
theorem gX5_sendOff_X5_batchOf : GoodIn wsX5_sendOff (wsV RX5 184 RX5 yX5_batchOf wsX5_batchOf) := goodIn_app (goodIn_of _ (by decide +kernel)) ggX5_sendOff_X5_batchOf
set_option maxRecDepth 20000 in
theorem ggX5_sendOff_X5_placeOf : GoodIn wsX5_sendOff wsX5_placeOf := goodIn_r _ [23] (by decide +kernel) (by decide +kernel)
set_option maxRecDepth 20000 in
theorem gX5_sendOff_X5_placeOf : GoodIn wsX5_sendOff (wsV RX5 307 RX5 yX5_placeOf wsX5_placeOf) := goodIn_app (goodIn_of _ (by decide +kernel)) ggX5_sendOff_X5_placeOf
set_option maxRecDepth 20000 in
theorem ggX5_sendOff_X5_pour : GoodIn wsX5_sendOff wsX5_pour := goodIn_r _ [27, 28, 29, 30, 31, 32, 33, 34, 16, 35, 36, 37, 38, 39, 40, 41, 42, 43, 44, 45, 46, 47, 48, 49, 75, 76, 77, 78, 79, 80, 81, 82, 83, 84, 85, 86, 87, 95, 96, 97, 98, 99, 54, 55, 56, 57, 58, 59, 60, 61, 62, 63, 64, 65, 66, 67, 68, 69, 70, 100, 101, 102, 103] (by decide +kernel) (by decide +kernel)
set_option maxRecDepth 20000 in
theorem gX5_sendOff_X5_pour : GoodIn wsX5_sendOff (wsV RX5 310 RX5 yX5_pour wsX5_pour) := goodIn_app (goodIn_of _ (by decide +kernel)) ggX5_sendOff_X5_pour
set_option maxRecDepth 20000 in
theorem ggX5_sendOff_X5_mixOf : GoodIn wsX5_sendOff wsX5_mixOf := goodIn_r _ [35, 36, 37, 38, 39, 16, 40, 75, 76, 77, 78, 79, 80, 81, 82, 83, 84, 85, 86, 87, 54, 55, 56, 57, 58, 59, 60, 61, 62, 63, 64, 65, 66, 67, 68, 69, 70] (by decide +kernel) (by decide +kernel)
set_option maxRecDepth 20000 in
theorem gX5_sendOff_X5_mixOf : GoodIn wsX5_sendOff (wsV RX5 164 RX5 yX5_mixOf wsX5_mixOf) := goodIn_app (goodIn_of _ (by decide +kernel)) ggX5_sendOff_X5_mixOf
set_option maxRecDepth 20000 in
theorem ggX5_sendOff_X5_cleanUpTo : GoodIn wsX5_sendOff wsX5_cleanUpTo := goodIn_r _ [53, 1, 54, 55, 56, 57, 58, 59, 60, 61, 62, 63, 64, 65, 66, 67, 68, 69, 70, 88, 89, 90, 91, 92, 93, 94] (by decide +kernel) (by decide +kernel)
set_option maxRecDepth 20000 in
theorem gX5_sendOff_X5_cleanUpTo : GoodIn wsX5_sendOff (wsV RX5 320 RX5 yX5_cleanUpTo wsX5_cleanUpTo) := goodIn_app (goodIn_of _ (by decide +kernel)) ggX5_sendOff_X5_cleanUpTo
theorem dX5_sendOff_0 : decode cX5_sendOff 0 = .ok (.aload_n 0, 1) := by decide +kernel
theorem dX5_sendOff_1 : decode cX5_sendOff 1 = .ok (.getfield 11, 3) := by decide +kernel
theorem dX5_sendOff_4 : decode cX5_sendOff 4 = .ok (.aload_n 1, 1) := by decide +kernel
theorem dX5_sendOff_5 : decode cX5_sendOff 5 = .ok (.getfield 293, 3) := by decide +kernel
theorem dX5_sendOff_8 : decode cX5_sendOff 8 = .ok (.aaload, 1) := by decide +kernel
theorem dX5_sendOff_9 : decode cX5_sendOff 9 = .ok (.iconst 0, 1) := by decide +kernel
theorem dX5_sendOff_10 : decode cX5_sendOff 10 = .ok (.invokevirtual 181, 3) := by decide +kernel
theorem dX5_sendOff_13 : decode cX5_sendOff 13 = .ok (.istore_n 2, 1) := by decide +kernel
theorem dX5_sendOff_14 : decode cX5_sendOff 14 = .ok (.aload_n 0, 1) := by decide +kernel
theorem dX5_sendOff_15 : decode cX5_sendOff 15 = .ok (.iload_n 2, 1) := by decide +kernel
theorem dX5_sendOff_16 : decode cX5_sendOff 16 = .ok (.invokevirtual 184, 3) := by decide +kernel
theorem dX5_sendOff_19 : decode cX5_sendOff 19 = .ok (.astore_n 3, 1) := by decide +kernel
theorem dX5_sendOff_20 : decode cX5_sendOff 20 = .ok (.aload_n 0, 1) := by decide +kernel
theorem dX5_sendOff_21 : decode cX5_sendOff 21 = .ok (.iload_n 2, 1) := by decide +kernel
theorem dX5_sendOff_22 : decode cX5_sendOff 22 = .ok (.invokevirtual 307, 3) := by decide +kernel
theorem dX5_sendOff_25 : decode cX5_sendOff 25 = .ok (.istore 4, 2) := by decide +kernel
theorem dX5_sendOff_27 : decode cX5_sendOff 27 = .ok (.aload_n 1, 1) := by decide +kernel
theorem dX5_sendOff_28 : decode cX5_sendOff 28 = .ok (.dup, 1) := by decide +kernel
theorem dX5_sendOff_29 : decode cX5_sendOff 29 = .ok (.getfield 246, 3) := by decide +kernel
theorem dX5_sendOff_32 : decode cX5_sendOff 32 = .ok (.iconst 1, 1) := by decide +kernel
theorem dX5_sendOff_33 : decode cX5_sendOff 33 = .ok (.iadd, 1) := by decide +kernel
theorem dX5_sendOff_34 : decode cX5_sendOff 34 = .ok (.putfield 246, 3) := by decide +kernel
theorem dX5_sendOff_37 : decode cX5_sendOff 37 = .ok (.aload_n 1, 1) := by decide +kernel
theorem dX5_sendOff_38 : decode cX5_sendOff 38 = .ok (.aload_n 0, 1) := by decide +kernel
theorem dX5_sendOff_39 : decode cX5_sendOff 39 = .ok (.getfield 40, 3) := by decide +kernel
theorem dX5_sendOff_42 : decode cX5_sendOff 42 = .ok (.if_acmp .ne 16, 3) := by decide +kernel
theorem dX5_sendOff_45 : decode cX5_sendOff 45 = .ok (.aload_n 3, 1) := by decide +kernel
theorem dX5_sendOff_46 : decode cX5_sendOff 46 = .ok (.dup, 1) := by decide +kernel
theorem dX5_sendOff_47 : decode cX5_sendOff 47 = .ok (.getfield 158, 3) := by decide +kernel
theorem dX5_sendOff_50 : decode cX5_sendOff 50 = .ok (.iconst 1, 1) := by decide +kernel
theorem dX5_sendOff_51 : decode cX5_sendOff 51 = .ok (.iadd, 1) := by decide +kernel
theorem dX5_sendOff_52 : decode cX5_sendOff 52 = .ok (.putfield 158, 3) := by decide +kernel
theorem dX5_sendOff_55 : decode cX5_sendOff 55 = .ok (.goto 66, 3) := by decide +kernel
theorem dX5_sendOff_58 : decode cX5_sendOff 58 = .ok (.aload_n 1, 1) := by decide +kernel
theorem dX5_sendOff_59 : decode cX5_sendOff 59 = .ok (.aload_n 0, 1) := by decide +kernel
theorem dX5_sendOff_60 : decode cX5_sendOff 60 = .ok (.getfield 44, 3) := by decide +kernel
theorem dX5_sendOff_63 : decode cX5_sendOff 63 = .ok (.if_acmp .ne 32, 3) := by decide +kernel
theorem dX5_sendOff_66 : decode cX5_sendOff 66 = .ok (.aload_n 3, 1) := by decide +kernel
theorem dX5_sendOff_67 : decode cX5_sendOff 67 = .ok (.dup, 1) := by decide +kernel
theorem dX5_sendOff_68 : decode cX5_sendOff 68 = .ok (.getfield 155, 3) := by decide +kernel
theorem dX5_sendOff_71 : decode cX5_sendOff 71 = .ok (.iconst 1, 1) := by decide +kernel
theorem dX5_sendOff_72 : decode cX5_sendOff 72 = .ok (.iadd, 1) := by decide +kernel
theorem dX5_sendOff_73 : decode cX5_sendOff 73 = .ok (.putfield 155, 3) := by decide +kernel
theorem dX5_sendOff_76 : decode cX5_sendOff 76 = .ok (.aload_n 0, 1) := by decide +kernel
theorem dX5_sendOff_77 : decode cX5_sendOff 77 = .ok (.aload_n 3, 1) := by decide +kernel
theorem dX5_sendOff_78 : decode cX5_sendOff 78 = .ok (.iload 4, 2) := by decide +kernel
theorem dX5_sendOff_80 : decode cX5_sendOff 80 = .ok (.aload_n 0, 1) := by decide +kernel
theorem dX5_sendOff_81 : decode cX5_sendOff 81 = .ok (.getfield 29, 3) := by decide +kernel
theorem dX5_sendOff_84 : decode cX5_sendOff 84 = .ok (.aload_n 1, 1) := by decide +kernel
theorem dX5_sendOff_85 : decode cX5_sendOff 85 = .ok (.getfield 114, 3) := by decide +kernel
theorem dX5_sendOff_88 : decode cX5_sendOff 88 = .ok (.aaload, 1) := by decide +kernel
theorem dX5_sendOff_89 : decode cX5_sendOff 89 = .ok (.invokevirtual 310, 3) := by decide +kernel
theorem dX5_sendOff_92 : decode cX5_sendOff 92 = .ok (.goto 29, 3) := by decide +kernel
theorem dX5_sendOff_95 : decode cX5_sendOff 95 = .ok (.aload_n 3, 1) := by decide +kernel
theorem dX5_sendOff_96 : decode cX5_sendOff 96 = .ok (.dup, 1) := by decide +kernel
theorem dX5_sendOff_97 : decode cX5_sendOff 97 = .ok (.getfield 152, 3) := by decide +kernel
theorem dX5_sendOff_100 : decode cX5_sendOff 100 = .ok (.iconst 1, 1) := by decide +kernel
theorem dX5_sendOff_101 : decode cX5_sendOff 101 = .ok (.iadd, 1) := by decide +kernel
theorem dX5_sendOff_102 : decode cX5_sendOff 102 = .ok (.putfield 152, 3) := by decide +kernel
theorem dX5_sendOff_105 : decode cX5_sendOff 105 = .ok (.aload_n 0, 1) := by decide +kernel
theorem dX5_sendOff_106 : decode cX5_sendOff 106 = .ok (.aload_n 3, 1) := by decide +kernel
theorem dX5_sendOff_107 : decode cX5_sendOff 107 = .ok (.iload 4, 2) := by decide +kernel
theorem dX5_sendOff_109 : decode cX5_sendOff 109 = .ok (.aload_n 0, 1) := by decide +kernel
theorem dX5_sendOff_110 : decode cX5_sendOff 110 = .ok (.getfield 29, 3) := by decide +kernel
theorem dX5_sendOff_113 : decode cX5_sendOff 113 = .ok (.aload_n 1, 1) := by decide +kernel
theorem dX5_sendOff_114 : decode cX5_sendOff 114 = .ok (.getfield 114, 3) := by decide +kernel
theorem dX5_sendOff_117 : decode cX5_sendOff 117 = .ok (.aaload, 1) := by decide +kernel
theorem dX5_sendOff_118 : decode cX5_sendOff 118 = .ok (.invokevirtual 310, 3) := by decide +kernel
theorem dX5_sendOff_121 : decode cX5_sendOff 121 = .ok (.iload 4, 2) := by decide +kernel
theorem dX5_sendOff_123 : decode cX5_sendOff 123 = .ok (.ifCond .ne 17, 3) := by decide +kernel
theorem dX5_sendOff_126 : decode cX5_sendOff 126 = .ok (.aload_n 3, 1) := by decide +kernel
theorem dX5_sendOff_127 : decode cX5_sendOff 127 = .ok (.aload_n 0, 1) := by decide +kernel
theorem dX5_sendOff_128 : decode cX5_sendOff 128 = .ok (.aload_n 3, 1) := by decide +kernel
theorem dX5_sendOff_129 : decode cX5_sendOff 129 = .ok (.invokevirtual 164, 3) := by decide +kernel
theorem dX5_sendOff_132 : decode cX5_sendOff 132 = .ok (.putfield 314, 3) := by decide +kernel
theorem dX5_sendOff_135 : decode cX5_sendOff 135 = .ok (.aload_n 3, 1) := by decide +kernel
theorem dX5_sendOff_136 : decode cX5_sendOff 136 = .ok (.iconst 1, 1) := by decide +kernel
theorem dX5_sendOff_137 : decode cX5_sendOff 137 = .ok (.putfield 317, 3) := by decide +kernel
theorem dX5_sendOff_140 : decode cX5_sendOff 140 = .ok (.iload_n 2, 1) := by decide +kernel
theorem dX5_sendOff_141 : decode cX5_sendOff 141 = .ok (.aload_n 0, 1) := by decide +kernel
theorem dX5_sendOff_142 : decode cX5_sendOff 142 = .ok (.getfield 54, 3) := by decide +kernel
theorem dX5_sendOff_145 : decode cX5_sendOff 145 = .ok (.if_icmp .ne 16, 3) := by decide +kernel
theorem dX5_sendOff_148 : decode cX5_sendOff 148 = .ok (.aload_n 0, 1) := by decide +kernel
theorem dX5_sendOff_149 : decode cX5_sendOff 149 = .ok (.iconst (-1), 1) := by decide +kernel
theorem dX5_sendOff_150 : decode cX5_sendOff 150 = .ok (.putfield 54, 3) := by decide +kernel
theorem dX5_sendOff_153 : decode cX5_sendOff 153 = .ok (.aload_n 0, 1) := by decide +kernel
theorem dX5_sendOff_154 : decode cX5_sendOff 154 = .ok (.aload_n 1, 1) := by decide +kernel
theorem dX5_sendOff_155 : decode cX5_sendOff 155 = .ok (.getfield 293, 3) := by decide +kernel
theorem dX5_sendOff_158 : decode cX5_sendOff 158 = .ok (.invokevirtual 320, 3) := by decide +kernel
theorem dX5_sendOff_161 : decode cX5_sendOff 161 = .ok (.return_, 1) := by decide +kernel
set_option maxRecDepth 20000 in
theorem ggX5_bringIn_X5_unitOf : GoodIn wsX5_bringIn wsX5_unitOf := goodIn_r _ [8, 42, 43, 44, 45, 46, 47, 48, 49, 50, 51, 52, 53, 54] (by decide +kernel) (by decide +kernel)
set_option maxRecDepth 20000 in
theorem gX5_bringIn_X5_unitOf : GoodIn wsX5_bringIn (wsV RX5 132 RX5 yX5_unitOf wsX5_unitOf) := goodIn_app (goodIn_of _ (by decide +kernel)) ggX5_bringIn_X5_unitOf
set_option maxRecDepth 20000 in
theorem ggX5_bringIn_X2_fromEnd : GoodIn wsX5_bringIn wsX2_fromEnd := goodIn_r _ [12, 13, 14, 15, 55, 56, 57, 58, 59, 60, 61] (by decide +kernel) (by decide +kernel)
set_option maxRecDepth 20000 in
theorem gX5_bringIn_X2_fromEnd_n181 : GoodIn wsX5_bringIn (wsX2_fromEnd) := ggX5_bringIn_X2_fromEnd
set_option maxRecDepth 20000 in
theorem ggX5_bringIn_X5_batchOf : GoodIn wsX5_bringIn wsX5_batchOf := goodIn_r _ [19, 20, 21, 25, 26, 27, 28, 29, 30, 31, 32, 33, 34, 35, 36, 37, 38, 39, 40, 41] (by decide +kernel) (by decide +kernel)
set_option maxRecDepth 20000 in
theorem gX5_bringIn_X5_batchOf : GoodIn wsX5_bringIn (wsV RX5 184 RX5 yX5_batchOf wsX5_batchOf) := goodIn_app (goodIn_of _ (by decide +kernel)) ggX5_bringIn_X5_batchOf
set_option maxRecDepth 20000 in
theorem ggX5_bringIn_X2_moveOn : GoodIn wsX5_bringIn wsX2_moveOn := goodIn_r _ [24, 15, 13, 14, 55, 56, 57, 58, 59, 60, 61] (by decide +kernel) (by decide +kernel)
set_option maxRecDepth 20000 in
theorem gX5_bringIn_X2_moveOn_n332 : GoodIn wsX5_bringIn (wsX2_moveOn) := ggX5_bringIn_X2_moveOn
theorem dX5_bringIn_0 : decode cX5_bringIn 0 = .ok (.aload_n 1, 1) := by decide +kernel
theorem dX5_bringIn_1 : decode cX5_bringIn 1 = .ok (.aload_n 0, 1) := by decide +kernel
theorem dX5_bringIn_2 : decode cX5_bringIn 2 = .ok (.getfield 65, 3) := by decide +kernel
theorem dX5_bringIn_5 : decode cX5_bringIn 5 = .ok (.if_acmp .eq 32, 3) := by decide +kernel
theorem dX5_bringIn_8 : decode cX5_bringIn 8 = .ok (.aload_n 1, 1) := by decide +kernel
theorem dX5_bringIn_9 : decode cX5_bringIn 9 = .ok (.aload_n 0, 1) := by decide +kernel
theorem dX5_bringIn_10 : decode cX5_bringIn 10 = .ok (.getfield 65, 3) := by decide +kernel
theorem dX5_bringIn_13 : decode cX5_bringIn 13 = .ok (.putfield 323, 3) := by decide +kernel
theorem dX5_bringIn_16 : decode cX5_bringIn 16 = .ok (.aload_n 0, 1) := by decide +kernel
theorem dX5_bringIn_17 : decode cX5_bringIn 17 = .ok (.getfield 65, 3) := by decide +kernel
theorem dX5_bringIn_20 : decode cX5_bringIn 20 = .ok (.aload_n 1, 1) := by decide +kernel
theorem dX5_bringIn_21 : decode cX5_bringIn 21 = .ok (.putfield 189, 3) := by decide +kernel
theorem dX5_bringIn_24 : decode cX5_bringIn 24 = .ok (.aload_n 1, 1) := by decide +kernel
theorem dX5_bringIn_25 : decode cX5_bringIn 25 = .ok (.aload_n 0, 1) := by decide +kernel
theorem dX5_bringIn_26 : decode cX5_bringIn 26 = .ok (.getfield 326, 3) := by decide +kernel
theorem dX5_bringIn_29 : decode cX5_bringIn 29 = .ok (.putfield 329, 3) := by decide +kernel
theorem dX5_bringIn_32 : decode cX5_bringIn 32 = .ok (.aload_n 0, 1) := by decide +kernel
theorem dX5_bringIn_33 : decode cX5_bringIn 33 = .ok (.aload_n 1, 1) := by decide +kernel
theorem dX5_bringIn_34 : decode cX5_bringIn 34 = .ok (.putfield 65, 3) := by decide +kernel
theorem dX5_bringIn_37 : decode cX5_bringIn 37 = .ok (.aload_n 0, 1) := by decide +kernel
theorem dX5_bringIn_38 : decode cX5_bringIn 38 = .ok (.aload_n 1, 1) := by decide +kernel
theorem dX5_bringIn_39 : decode cX5_bringIn 39 = .ok (.aload_n 1, 1) := by decide +kernel
theorem dX5_bringIn_40 : decode cX5_bringIn 40 = .ok (.getfield 111, 3) := by decide +kernel
theorem dX5_bringIn_43 : decode cX5_bringIn 43 = .ok (.invokevirtual 132, 3) := by decide +kernel
theorem dX5_bringIn_46 : decode cX5_bringIn 46 = .ok (.istore_n 3, 1) := by decide +kernel
theorem dX5_bringIn_47 : decode cX5_bringIn 47 = .ok (.aload_n 1, 1) := by decide +kernel
theorem dX5_bringIn_48 : decode cX5_bringIn 48 = .ok (.dup, 1) := by decide +kernel
theorem dX5_bringIn_49 : decode cX5_bringIn 49 = .ok (.getfield 111, 3) := by decide +kernel
theorem dX5_bringIn_52 : decode cX5_bringIn 52 = .ok (.iconst 1, 1) := by decide +kernel
theorem dX5_bringIn_53 : decode cX5_bringIn 53 = .ok (.iadd, 1) := by decide +kernel
theorem dX5_bringIn_54 : decode cX5_bringIn 54 = .ok (.putfield 111, 3) := by decide +kernel
theorem dX5_bringIn_57 : decode cX5_bringIn 57 = .ok (.aload_n 0, 1) := by decide +kernel
theorem dX5_bringIn_58 : decode cX5_bringIn 58 = .ok (.dup, 1) := by decide +kernel
theorem dX5_bringIn_59 : decode cX5_bringIn 59 = .ok (.getfield 326, 3) := by decide +kernel
theorem dX5_bringIn_62 : decode cX5_bringIn 62 = .ok (.iconst 1, 1) := by decide +kernel
theorem dX5_bringIn_63 : decode cX5_bringIn 63 = .ok (.iadd, 1) := by decide +kernel
theorem dX5_bringIn_64 : decode cX5_bringIn 64 = .ok (.putfield 326, 3) := by decide +kernel
theorem dX5_bringIn_67 : decode cX5_bringIn 67 = .ok (.iconst 0, 1) := by decide +kernel
theorem dX5_bringIn_68 : decode cX5_bringIn 68 = .ok (.istore 4, 2) := by decide +kernel
theorem dX5_bringIn_70 : decode cX5_bringIn 70 = .ok (.iload 4, 2) := by decide +kernel
theorem dX5_bringIn_72 : decode cX5_bringIn 72 = .ok (.iload_n 2, 1) := by decide +kernel
theorem dX5_bringIn_73 : decode cX5_bringIn 73 = .ok (.if_icmp .gt 89, 3) := by decide +kernel
theorem dX5_bringIn_76 : decode cX5_bringIn 76 = .ok (.aload_n 0, 1) := by decide +kernel
theorem dX5_bringIn_77 : decode cX5_bringIn 77 = .ok (.getfield 11, 3) := by decide +kernel
theorem dX5_bringIn_80 : decode cX5_bringIn 80 = .ok (.iload 4, 2) := by decide +kernel
theorem dX5_bringIn_82 : decode cX5_bringIn 82 = .ok (.aaload, 1) := by decide +kernel
theorem dX5_bringIn_83 : decode cX5_bringIn 83 = .ok (.iconst 0, 1) := by decide +kernel
theorem dX5_bringIn_84 : decode cX5_bringIn 84 = .ok (.invokevirtual 181, 3) := by decide +kernel
theorem dX5_bringIn_87 : decode cX5_bringIn 87 = .ok (.istore 5, 2) := by decide +kernel
theorem dX5_bringIn_89 : decode cX5_bringIn 89 = .ok (.aload_n 0, 1) := by decide +kernel
theorem dX5_bringIn_90 : decode cX5_bringIn 90 = .ok (.getfield 11, 3) := by decide +kernel
theorem dX5_bringIn_93 : decode cX5_bringIn 93 = .ok (.iload 4, 2) := by decide +kernel
theorem dX5_bringIn_95 : decode cX5_bringIn 95 = .ok (.aaload, 1) := by decide +kernel
theorem dX5_bringIn_96 : decode cX5_bringIn 96 = .ok (.getfield 275, 3) := by decide +kernel
theorem dX5_bringIn_99 : decode cX5_bringIn 99 = .ok (.aload_n 0, 1) := by decide +kernel
theorem dX5_bringIn_100 : decode cX5_bringIn 100 = .ok (.iload_n 3, 1) := by decide +kernel
theorem dX5_bringIn_101 : decode cX5_bringIn 101 = .ok (.invokevirtual 184, 3) := by decide +kernel
theorem dX5_bringIn_104 : decode cX5_bringIn 104 = .ok (.getfield 168, 3) := by decide +kernel
theorem dX5_bringIn_107 : decode cX5_bringIn 107 = .ok (.getfield 172, 3) := by decide +kernel
theorem dX5_bringIn_110 : decode cX5_bringIn 110 = .ok (.dup2, 1) := by decide +kernel
theorem dX5_bringIn_111 : decode cX5_bringIn 111 = .ok (.iaload, 1) := by decide +kernel
theorem dX5_bringIn_112 : decode cX5_bringIn 112 = .ok (.iconst 1, 1) := by decide +kernel
theorem dX5_bringIn_113 : decode cX5_bringIn 113 = .ok (.iadd, 1) := by decide +kernel
theorem dX5_bringIn_114 : decode cX5_bringIn 114 = .ok (.iastore, 1) := by decide +kernel
theorem dX5_bringIn_115 : decode cX5_bringIn 115 = .ok (.aload_n 0, 1) := by decide +kernel
theorem dX5_bringIn_116 : decode cX5_bringIn 116 = .ok (.getfield 11, 3) := by decide +kernel
theorem dX5_bringIn_119 : decode cX5_bringIn 119 = .ok (.iload 4, 2) := by decide +kernel
theorem dX5_bringIn_121 : decode cX5_bringIn 121 = .ok (.aaload, 1) := by decide +kernel
theorem dX5_bringIn_122 : decode cX5_bringIn 122 = .ok (.getfield 275, 3) := by decide +kernel
theorem dX5_bringIn_125 : decode cX5_bringIn 125 = .ok (.aload_n 0, 1) := by decide +kernel
theorem dX5_bringIn_126 : decode cX5_bringIn 126 = .ok (.iload 5, 2) := by decide +kernel
theorem dX5_bringIn_128 : decode cX5_bringIn 128 = .ok (.invokevirtual 184, 3) := by decide +kernel
theorem dX5_bringIn_131 : decode cX5_bringIn 131 = .ok (.getfield 168, 3) := by decide +kernel
theorem dX5_bringIn_134 : decode cX5_bringIn 134 = .ok (.getfield 172, 3) := by decide +kernel
theorem dX5_bringIn_137 : decode cX5_bringIn 137 = .ok (.dup2, 1) := by decide +kernel
theorem dX5_bringIn_138 : decode cX5_bringIn 138 = .ok (.iaload, 1) := by decide +kernel
theorem dX5_bringIn_139 : decode cX5_bringIn 139 = .ok (.iconst 1, 1) := by decide +kernel
theorem dX5_bringIn_140 : decode cX5_bringIn 140 = .ok (.isub, 1) := by decide +kernel
theorem dX5_bringIn_141 : decode cX5_bringIn 141 = .ok (.iastore, 1) := by decide +kernel
theorem dX5_bringIn_142 : decode cX5_bringIn 142 = .ok (.aload_n 0, 1) := by decide +kernel
theorem dX5_bringIn_143 : decode cX5_bringIn 143 = .ok (.getfield 11, 3) := by decide +kernel
theorem dX5_bringIn_146 : decode cX5_bringIn 146 = .ok (.iload 4, 2) := by decide +kernel
theorem dX5_bringIn_148 : decode cX5_bringIn 148 = .ok (.aaload, 1) := by decide +kernel
theorem dX5_bringIn_149 : decode cX5_bringIn 149 = .ok (.iload_n 3, 1) := by decide +kernel
theorem dX5_bringIn_150 : decode cX5_bringIn 150 = .ok (.invokevirtual 332, 3) := by decide +kernel
theorem dX5_bringIn_153 : decode cX5_bringIn 153 = .ok (.iload 5, 2) := by decide +kernel
theorem dX5_bringIn_155 : decode cX5_bringIn 155 = .ok (.istore_n 3, 1) := by decide +kernel
theorem dX5_bringIn_156 : decode cX5_bringIn 156 = .ok (.iinc 4 1, 3) := by decide +kernel
theorem dX5_bringIn_159 : decode cX5_bringIn 159 = .ok (.goto (-89), 3) := by decide +kernel
theorem dX5_bringIn_162 : decode cX5_bringIn 162 = .ok (.return_, 1) := by decide +kernel
theorem dX5_soil_0 : decode cX5_soil 0 = .ok (.iconst 0, 1) := by decide +kernel
theorem dX5_soil_1 : decode cX5_soil 1 = .ok (.istore_n 1, 1) := by decide +kernel
theorem dX5_soil_2 : decode cX5_soil 2 = .ok (.iload_n 1, 1) := by decide +kernel
theorem dX5_soil_3 : decode cX5_soil 3 = .ok (.aload_n 0, 1) := by decide +kernel
theorem dX5_soil_4 : decode cX5_soil 4 = .ok (.getfield 77, 3) := by decide +kernel
theorem dX5_soil_7 : decode cX5_soil 7 = .ok (.if_icmp .ge 35, 3) := by decide +kernel
theorem dX5_soil_10 : decode cX5_soil 10 = .ok (.aload_n 0, 1) := by decide +kernel
theorem dX5_soil_11 : decode cX5_soil 11 = .ok (.getfield 11, 3) := by decide +kernel
theorem dX5_soil_14 : decode cX5_soil 14 = .ok (.iload_n 1, 1) := by decide +kernel
theorem dX5_soil_15 : decode cX5_soil 15 = .ok (.aaload, 1) := by decide +kernel
theorem dX5_soil_16 : decode cX5_soil 16 = .ok (.sipush 200, 3) := by decide +kernel
theorem dX5_soil_19 : decode cX5_soil 19 = .ok (.aload_n 0, 1) := by decide +kernel
theorem dX5_soil_20 : decode cX5_soil 20 = .ok (.getfield 11, 3) := by decide +kernel
theorem dX5_soil_23 : decode cX5_soil 23 = .ok (.iload_n 1, 1) := by decide +kernel
theorem dX5_soil_24 : decode cX5_soil 24 = .ok (.aaload, 1) := by decide +kernel
theorem dX5_soil_25 : decode cX5_soil 25 = .ok (.getfield 223, 3) := by decide +kernel
theorem dX5_soil_28 : decode cX5_soil 28 = .ok (.iconst 1, 1) := by decide +kernel
theorem dX5_soil_29 : decode cX5_soil 29 = .ok (.iadd, 1) := by decide +kernel
theorem dX5_soil_30 : decode cX5_soil 30 = .ok (.invokestatic 232, 3) := by decide +kernel
theorem dX5_soil_33 : decode cX5_soil 33 = .ok (.putfield 223, 3) := by decide +kernel
theorem dX5_soil_36 : decode cX5_soil 36 = .ok (.iinc 1 1, 3) := by decide +kernel
theorem dX5_soil_39 : decode cX5_soil 39 = .ok (.goto (-37), 3) := by decide +kernel
theorem dX5_soil_42 : decode cX5_soil 42 = .ok (.return_, 1) := by decide +kernel
theorem dX5_cleanUpTo_0 : decode cX5_cleanUpTo 0 = .ok (.iconst 0, 1) := by decide +kernel
theorem dX5_cleanUpTo_1 : decode cX5_cleanUpTo 1 = .ok (.istore_n 2, 1) := by decide +kernel
theorem dX5_cleanUpTo_2 : decode cX5_cleanUpTo 2 = .ok (.iload_n 2, 1) := by decide +kernel
theorem dX5_cleanUpTo_3 : decode cX5_cleanUpTo 3 = .ok (.iload_n 1, 1) := by decide +kernel
theorem dX5_cleanUpTo_4 : decode cX5_cleanUpTo 4 = .ok (.if_icmp .gt 19, 3) := by decide +kernel
theorem dX5_cleanUpTo_7 : decode cX5_cleanUpTo 7 = .ok (.aload_n 0, 1) := by decide +kernel
theorem dX5_cleanUpTo_8 : decode cX5_cleanUpTo 8 = .ok (.getfield 11, 3) := by decide +kernel
theorem dX5_cleanUpTo_11 : decode cX5_cleanUpTo 11 = .ok (.iload_n 2, 1) := by decide +kernel
theorem dX5_cleanUpTo_12 : decode cX5_cleanUpTo 12 = .ok (.aaload, 1) := by decide +kernel
theorem dX5_cleanUpTo_13 : decode cX5_cleanUpTo 13 = .ok (.iconst 0, 1) := by decide +kernel
theorem dX5_cleanUpTo_14 : decode cX5_cleanUpTo 14 = .ok (.putfield 223, 3) := by decide +kernel
theorem dX5_cleanUpTo_17 : decode cX5_cleanUpTo 17 = .ok (.iinc 2 1, 3) := by decide +kernel
theorem dX5_cleanUpTo_20 : decode cX5_cleanUpTo 20 = .ok (.goto (-18), 3) := by decide +kernel
theorem dX5_cleanUpTo_23 : decode cX5_cleanUpTo 23 = .ok (.return_, 1) := by decide +kernel
set_option maxRecDepth 20000 in
theorem ggX5_mixOf_X5_wholeRoot : GoodIn wsX5_mixOf wsX5_wholeRoot := goodIn_r _ [6] (by decide +kernel) (by decide +kernel)
set_option maxRecDepth 20000 in
theorem gX5_mixOf_X5_wholeRoot : GoodIn wsX5_mixOf (wsV RX5 335 RX5 yX5_wholeRoot wsX5_wholeRoot) := goodIn_app (goodIn_of _ (by decide +kernel)) ggX5_mixOf_X5_wholeRoot
theorem dX5_mixOf_0 : decode cX5_mixOf 0 = .ok (.aload_n 1, 1) := by decide +kernel
theorem dX5_mixOf_1 : decode cX5_mixOf 1 = .ok (.getfield 323, 3) := by decide +kernel
theorem dX5_mixOf_4 : decode cX5_mixOf 4 = .ok (.ifnull 17, 3) := by decide +kernel
theorem dX5_mixOf_7 : decode cX5_mixOf 7 = .ok (.aload_n 1, 1) := by decide +kernel
theorem dX5_mixOf_8 : decode cX5_mixOf 8 = .ok (.getfield 323, 3) := by decide +kernel
theorem dX5_mixOf_11 : decode cX5_mixOf 11 = .ok (.getfield 168, 3) := by decide +kernel
theorem dX5_mixOf_14 : decode cX5_mixOf 14 = .ok (.aload_n 1, 1) := by decide +kernel
theorem dX5_mixOf_15 : decode cX5_mixOf 15 = .ok (.getfield 168, 3) := by decide +kernel
theorem dX5_mixOf_18 : decode cX5_mixOf 18 = .ok (.if_acmp .ne 5, 3) := by decide +kernel
theorem dX5_mixOf_21 : decode cX5_mixOf 21 = .ok (.iconst 0, 1) := by decide +kernel
theorem dX5_mixOf_22 : decode cX5_mixOf 22 = .ok (.ireturn, 1) := by decide +kernel
theorem dX5_mixOf_23 : decode cX5_mixOf 23 = .ok (.aload_n 1, 1) := by decide +kernel
theorem dX5_mixOf_24 : decode cX5_mixOf 24 = .ok (.getfield 317, 3) := by decide +kernel
theorem dX5_mixOf_27 : decode cX5_mixOf 27 = .ok (.ifCond .eq 10, 3) := by decide +kernel
theorem dX5_mixOf_30 : decode cX5_mixOf 30 = .ok (.aload_n 1, 1) := by decide +kernel
theorem dX5_mixOf_31 : decode cX5_mixOf 31 = .ok (.getfield 314, 3) := by decide +kernel
theorem dX5_mixOf_34 : decode cX5_mixOf 34 = .ok (.goto 16, 3) := by decide +kernel
theorem dX5_mixOf_37 : decode cX5_mixOf 37 = .ok (.aload_n 0, 1) := by decide +kernel
theorem dX5_mixOf_38 : decode cX5_mixOf 38 = .ok (.aload_n 0, 1) := by decide +kernel
theorem dX5_mixOf_39 : decode cX5_mixOf 39 = .ok (.getfield 326, 3) := by decide +kernel
theorem dX5_mixOf_42 : decode cX5_mixOf 42 = .ok (.aload_n 1, 1) := by decide +kernel
theorem dX5_mixOf_43 : decode cX5_mixOf 43 = .ok (.getfield 329, 3) := by decide +kernel
theorem dX5_mixOf_46 : decode cX5_mixOf 46 = .ok (.isub, 1) := by decide +kernel
theorem dX5_mixOf_47 : decode cX5_mixOf 47 = .ok (.invokevirtual 335, 3) := by decide +kernel
theorem dX5_mixOf_50 : decode cX5_mixOf 50 = .ok (.ireturn, 1) := by decide +kernel
theorem dX5_wholeRoot_0 : decode cX5_wholeRoot 0 = .ok (.iconst 0, 1) := by decide +kernel
theorem dX5_wholeRoot_1 : decode cX5_wholeRoot 1 = .ok (.istore_n 2, 1) := by decide +kernel
theorem dX5_wholeRoot_2 : decode cX5_wholeRoot 2 = .ok (.sipush 128, 3) := by decide +kernel
theorem dX5_wholeRoot_5 : decode cX5_wholeRoot 5 = .ok (.istore_n 3, 1) := by decide +kernel
theorem dX5_wholeRoot_6 : decode cX5_wholeRoot 6 = .ok (.iload_n 3, 1) := by decide +kernel
theorem dX5_wholeRoot_7 : decode cX5_wholeRoot 7 = .ok (.ifCond .le 25, 3) := by decide +kernel
theorem dX5_wholeRoot_10 : decode cX5_wholeRoot 10 = .ok (.iload_n 2, 1) := by decide +kernel
theorem dX5_wholeRoot_11 : decode cX5_wholeRoot 11 = .ok (.iload_n 3, 1) := by decide +kernel
theorem dX5_wholeRoot_12 : decode cX5_wholeRoot 12 = .ok (.iadd, 1) := by decide +kernel
theorem dX5_wholeRoot_13 : decode cX5_wholeRoot 13 = .ok (.iload_n 2, 1) := by decide +kernel
theorem dX5_wholeRoot_14 : decode cX5_wholeRoot 14 = .ok (.iload_n 3, 1) := by decide +kernel
theorem dX5_wholeRoot_15 : decode cX5_wholeRoot 15 = .ok (.iadd, 1) := by decide +kernel
theorem dX5_wholeRoot_16 : decode cX5_wholeRoot 16 = .ok (.imul, 1) := by decide +kernel
theorem dX5_wholeRoot_17 : decode cX5_wholeRoot 17 = .ok (.iload_n 1, 1) := by decide +kernel
theorem dX5_wholeRoot_18 : decode cX5_wholeRoot 18 = .ok (.if_icmp .gt 7, 3) := by decide +kernel
theorem dX5_wholeRoot_21 : decode cX5_wholeRoot 21 = .ok (.iload_n 2, 1) := by decide +kernel
theorem dX5_wholeRoot_22 : decode cX5_wholeRoot 22 = .ok (.iload_n 3, 1) := by decide +kernel
theorem dX5_wholeRoot_23 : decode cX5_wholeRoot 23 = .ok (.iadd, 1) := by decide +kernel
theorem dX5_wholeRoot_24 : decode cX5_wholeRoot 24 = .ok (.istore_n 2, 1) := by decide +kernel
theorem dX5_wholeRoot_25 : decode cX5_wholeRoot 25 = .ok (.iload_n 3, 1) := by decide +kernel
theorem dX5_wholeRoot_26 : decode cX5_wholeRoot 26 = .ok (.iconst 2, 1) := by decide +kernel
theorem dX5_wholeRoot_27 : decode cX5_wholeRoot 27 = .ok (.idiv, 1) := by decide +kernel
theorem dX5_wholeRoot_28 : decode cX5_wholeRoot 28 = .ok (.istore_n 3, 1) := by decide +kernel
theorem dX5_wholeRoot_29 : decode cX5_wholeRoot 29 = .ok (.goto (-23), 3) := by decide +kernel
theorem dX5_wholeRoot_32 : decode cX5_wholeRoot 32 = .ok (.iload_n 2, 1) := by decide +kernel
theorem dX5_wholeRoot_33 : decode cX5_wholeRoot 33 = .ok (.ireturn, 1) := by decide +kernel
set_option maxRecDepth 20000 in
theorem ggX5_pour_X5_mixOf : GoodIn wsX5_pour wsX5_mixOf := goodIn_r _ [9, 10, 11, 12, 13, 8, 14, 24, 25, 26, 27, 28, 29, 30, 31, 32, 33, 34, 35, 36, 42, 43, 44, 45, 46, 47, 48, 49, 50, 51, 52, 53, 54, 55, 56, 57, 58] (by decide +kernel) (by decide +kernel)
set_option maxRecDepth 20000 in
theorem gX5_pour_X5_mixOf : GoodIn wsX5_pour (wsV RX5 164 RX5 yX5_mixOf wsX5_mixOf) := goodIn_app (goodIn_of _ (by decide +kernel)) ggX5_pour_X5_mixOf
set_option maxRecDepth 20000 in
theorem ggX5_pour_X3_take : GoodIn wsX5_pour wsX3_take := goodIn_r _ [18, 19, 20, 21, 22, 2, 3, 4, 23, 59, 60, 61, 62] (by decide +kernel) (by decide +kernel)
set_option maxRecDepth 20000 in
theorem gX5_pour_X3_take_n339 : GoodIn wsX5_pour (wsX3_take) := ggX5_pour_X3_take
theorem dX5_pour_0 : decode cX5_pour 0 = .ok (.aload_n 1, 1) := by decide +kernel
theorem dX5_pour_1 : decode cX5_pour 1 = .ok (.getfield 168, 3) := by decide +kernel
theorem dX5_pour_4 : decode cX5_pour 4 = .ok (.getfield 338, 3) := by decide +kernel
theorem dX5_pour_7 : decode cX5_pour 7 = .ok (.istore 4, 2) := by decide +kernel
theorem dX5_pour_9 : decode cX5_pour 9 = .ok (.iconst 0, 1) := by decide +kernel
theorem dX5_pour_10 : decode cX5_pour 10 = .ok (.istore 5, 2) := by decide +kernel
theorem dX5_pour_12 : decode cX5_pour 12 = .ok (.aload_n 1, 1) := by decide +kernel
theorem dX5_pour_13 : decode cX5_pour 13 = .ok (.getfield 323, 3) := by decide +kernel
theorem dX5_pour_16 : decode cX5_pour 16 = .ok (.ifnull 34, 3) := by decide +kernel
theorem dX5_pour_19 : decode cX5_pour 19 = .ok (.iload_n 2, 1) := by decide +kernel
theorem dX5_pour_20 : decode cX5_pour 20 = .ok (.iconst 2, 1) := by decide +kernel
theorem dX5_pour_21 : decode cX5_pour 21 = .ok (.imul, 1) := by decide +kernel
theorem dX5_pour_22 : decode cX5_pour 22 = .ok (.aload_n 0, 1) := by decide +kernel
theorem dX5_pour_23 : decode cX5_pour 23 = .ok (.aload_n 1, 1) := by decide +kernel
theorem dX5_pour_24 : decode cX5_pour 24 = .ok (.invokevirtual 164, 3) := by decide +kernel
theorem dX5_pour_27 : decode cX5_pour 27 = .ok (.if_icmp .ge 23, 3) := by decide +kernel
theorem dX5_pour_30 : decode cX5_pour 30 = .ok (.iconst 1, 1) := by decide +kernel
theorem dX5_pour_31 : decode cX5_pour 31 = .ok (.istore 5, 2) := by decide +kernel
theorem dX5_pour_33 : decode cX5_pour 33 = .ok (.iload 4, 2) := by decide +kernel
theorem dX5_pour_35 : decode cX5_pour 35 = .ok (.aload_n 1, 1) := by decide +kernel
theorem dX5_pour_36 : decode cX5_pour 36 = .ok (.getfield 323, 3) := by decide +kernel
theorem dX5_pour_39 : decode cX5_pour 39 = .ok (.getfield 168, 3) := by decide +kernel
theorem dX5_pour_42 : decode cX5_pour 42 = .ok (.getfield 338, 3) := by decide +kernel
theorem dX5_pour_45 : decode cX5_pour 45 = .ok (.invokestatic 266, 3) := by decide +kernel
theorem dX5_pour_48 : decode cX5_pour 48 = .ok (.istore 4, 2) := by decide +kernel
theorem dX5_pour_50 : decode cX5_pour 50 = .ok (.aload_n 1, 1) := by decide +kernel
theorem dX5_pour_51 : decode cX5_pour 51 = .ok (.getfield 189, 3) := by decide +kernel
theorem dX5_pour_54 : decode cX5_pour 54 = .ok (.ifnull 44, 3) := by decide +kernel
theorem dX5_pour_57 : decode cX5_pour 57 = .ok (.aload_n 1, 1) := by decide +kernel
theorem dX5_pour_58 : decode cX5_pour 58 = .ok (.getfield 111, 3) := by decide +kernel
theorem dX5_pour_61 : decode cX5_pour 61 = .ok (.iconst 1, 1) := by decide +kernel
theorem dX5_pour_62 : decode cX5_pour 62 = .ok (.isub, 1) := by decide +kernel
theorem dX5_pour_63 : decode cX5_pour 63 = .ok (.iload_n 2, 1) := by decide +kernel
theorem dX5_pour_64 : decode cX5_pour 64 = .ok (.isub, 1) := by decide +kernel
theorem dX5_pour_65 : decode cX5_pour 65 = .ok (.iconst 2, 1) := by decide +kernel
theorem dX5_pour_66 : decode cX5_pour 66 = .ok (.imul, 1) := by decide +kernel
theorem dX5_pour_67 : decode cX5_pour 67 = .ok (.aload_n 0, 1) := by decide +kernel
theorem dX5_pour_68 : decode cX5_pour 68 = .ok (.aload_n 1, 1) := by decide +kernel
theorem dX5_pour_69 : decode cX5_pour 69 = .ok (.getfield 189, 3) := by decide +kernel
theorem dX5_pour_72 : decode cX5_pour 72 = .ok (.invokevirtual 164, 3) := by decide +kernel
theorem dX5_pour_75 : decode cX5_pour 75 = .ok (.if_icmp .ge 23, 3) := by decide +kernel
theorem dX5_pour_78 : decode cX5_pour 78 = .ok (.iconst 1, 1) := by decide +kernel
theorem dX5_pour_79 : decode cX5_pour 79 = .ok (.istore 5, 2) := by decide +kernel
theorem dX5_pour_81 : decode cX5_pour 81 = .ok (.iload 4, 2) := by decide +kernel
theorem dX5_pour_83 : decode cX5_pour 83 = .ok (.aload_n 1, 1) := by decide +kernel
theorem dX5_pour_84 : decode cX5_pour 84 = .ok (.getfield 189, 3) := by decide +kernel
theorem dX5_pour_87 : decode cX5_pour 87 = .ok (.getfield 168, 3) := by decide +kernel
theorem dX5_pour_90 : decode cX5_pour 90 = .ok (.getfield 338, 3) := by decide +kernel
theorem dX5_pour_93 : decode cX5_pour 93 = .ok (.invokestatic 266, 3) := by decide +kernel
theorem dX5_pour_96 : decode cX5_pour 96 = .ok (.istore 4, 2) := by decide +kernel
theorem dX5_pour_98 : decode cX5_pour 98 = .ok (.aload_n 3, 1) := by decide +kernel
theorem dX5_pour_99 : decode cX5_pour 99 = .ok (.iload 4, 2) := by decide +kernel
theorem dX5_pour_101 : decode cX5_pour 101 = .ok (.iload 5, 2) := by decide +kernel
theorem dX5_pour_103 : decode cX5_pour 103 = .ok (.invokevirtual 339, 3) := by decide +kernel
theorem dX5_pour_106 : decode cX5_pour 106 = .ok (.return_, 1) := by decide +kernel
theorem dX5_spilledInAll_0 : decode cX5_spilledInAll 0 = .ok (.iconst 0, 1) := by decide +kernel
theorem dX5_spilledInAll_1 : decode cX5_spilledInAll 1 = .ok (.istore_n 1, 1) := by decide +kernel
theorem dX5_spilledInAll_2 : decode cX5_spilledInAll 2 = .ok (.iconst 0, 1) := by decide +kernel
theorem dX5_spilledInAll_3 : decode cX5_spilledInAll 3 = .ok (.istore_n 2, 1) := by decide +kernel
theorem dX5_spilledInAll_4 : decode cX5_spilledInAll 4 = .ok (.iload_n 2, 1) := by decide +kernel
theorem dX5_spilledInAll_5 : decode cX5_spilledInAll 5 = .ok (.iconst 4, 1) := by decide +kernel
theorem dX5_spilledInAll_6 : decode cX5_spilledInAll 6 = .ok (.if_icmp .ge 21, 3) := by decide +kernel
theorem dX5_spilledInAll_9 : decode cX5_spilledInAll 9 = .ok (.iload_n 1, 1) := by decide +kernel
theorem dX5_spilledInAll_10 : decode cX5_spilledInAll 10 = .ok (.aload_n 0, 1) := by decide +kernel
theorem dX5_spilledInAll_11 : decode cX5_spilledInAll 11 = .ok (.getfield 29, 3) := by decide +kernel
theorem dX5_spilledInAll_14 : decode cX5_spilledInAll 14 = .ok (.iload_n 2, 1) := by decide +kernel
theorem dX5_spilledInAll_15 : decode cX5_spilledInAll 15 = .ok (.aaload, 1) := by decide +kernel
theorem dX5_spilledInAll_16 : decode cX5_spilledInAll 16 = .ok (.getfield 343, 3) := by decide +kernel
theorem dX5_spilledInAll_19 : decode cX5_spilledInAll 19 = .ok (.iadd, 1) := by decide +kernel
theorem dX5_spilledInAll_20 : decode cX5_spilledInAll 20 = .ok (.istore_n 1, 1) := by decide +kernel
theorem dX5_spilledInAll_21 : decode cX5_spilledInAll 21 = .ok (.iinc 2 1, 3) := by decide +kernel
theorem dX5_spilledInAll_24 : decode cX5_spilledInAll 24 = .ok (.goto (-20), 3) := by decide +kernel
theorem dX5_spilledInAll_27 : decode cX5_spilledInAll 27 = .ok (.iload_n 1, 1) := by decide +kernel
theorem dX5_spilledInAll_28 : decode cX5_spilledInAll 28 = .ok (.ireturn, 1) := by decide +kernel
theorem dX5_latestBalance_0 : decode cX5_latestBalance 0 = .ok (.iconst 0, 1) := by decide +kernel
theorem dX5_latestBalance_1 : decode cX5_latestBalance 1 = .ok (.istore_n 1, 1) := by decide +kernel
theorem dX5_latestBalance_2 : decode cX5_latestBalance 2 = .ok (.iconst 0, 1) := by decide +kernel
theorem dX5_latestBalance_3 : decode cX5_latestBalance 3 = .ok (.istore_n 2, 1) := by decide +kernel
theorem dX5_latestBalance_4 : decode cX5_latestBalance 4 = .ok (.iload_n 2, 1) := by decide +kernel
theorem dX5_latestBalance_5 : decode cX5_latestBalance 5 = .ok (.iconst 5, 1) := by decide +kernel
theorem dX5_latestBalance_6 : decode cX5_latestBalance 6 = .ok (.if_icmp .ge 18, 3) := by decide +kernel
theorem dX5_latestBalance_9 : decode cX5_latestBalance 9 = .ok (.iload_n 1, 1) := by decide +kernel
theorem dX5_latestBalance_10 : decode cX5_latestBalance 10 = .ok (.aload_n 0, 1) := by decide +kernel
theorem dX5_latestBalance_11 : decode cX5_latestBalance 11 = .ok (.getfield 33, 3) := by decide +kernel
theorem dX5_latestBalance_14 : decode cX5_latestBalance 14 = .ok (.iload_n 2, 1) := by decide +kernel
theorem dX5_latestBalance_15 : decode cX5_latestBalance 15 = .ok (.iaload, 1) := by decide +kernel
theorem dX5_latestBalance_16 : decode cX5_latestBalance 16 = .ok (.iadd, 1) := by decide +kernel
theorem dX5_latestBalance_17 : decode cX5_latestBalance 17 = .ok (.istore_n 1, 1) := by decide +kernel
theorem dX5_latestBalance_18 : decode cX5_latestBalance 18 = .ok (.iinc 2 1, 3) := by decide +kernel
theorem dX5_latestBalance_21 : decode cX5_latestBalance 21 = .ok (.goto (-17), 3) := by decide +kernel
theorem dX5_latestBalance_24 : decode cX5_latestBalance 24 = .ok (.iload_n 1, 1) := by decide +kernel
theorem dX5_latestBalance_25 : decode cX5_latestBalance 25 = .ok (.ireturn, 1) := by decide +kernel
set_option maxRecDepth 20000 in
theorem ggX5_waitingFor_X0_waiting : GoodIn wsX5_waitingFor wsX0_waiting := goodIn_r _ [6, 7, 8, 26, 27, 28, 29, 30, 31, 32, 33, 34, 35, 36, 37, 38] (by decide +kernel) (by decide +kernel)
set_option maxRecDepth 20000 in
theorem gX5_waitingFor_X0_waiting_n161 : GoodIn wsX5_waitingFor (wsX0_waiting) := ggX5_waitingFor_X0_waiting
theorem dX5_waitingFor_0 : decode cX5_waitingFor 0 = .ok (.iconst 0, 1) := by decide +kernel
theorem dX5_waitingFor_1 : decode cX5_waitingFor 1 = .ok (.istore_n 2, 1) := by decide +kernel
theorem dX5_waitingFor_2 : decode cX5_waitingFor 2 = .ok (.iconst 1, 1) := by decide +kernel
theorem dX5_waitingFor_3 : decode cX5_waitingFor 3 = .ok (.istore_n 3, 1) := by decide +kernel
theorem dX5_waitingFor_4 : decode cX5_waitingFor 4 = .ok (.iload_n 3, 1) := by decide +kernel
theorem dX5_waitingFor_5 : decode cX5_waitingFor 5 = .ok (.aload_n 0, 1) := by decide +kernel
theorem dX5_waitingFor_6 : decode cX5_waitingFor 6 = .ok (.getfield 50, 3) := by decide +kernel
theorem dX5_waitingFor_9 : decode cX5_waitingFor 9 = .ok (.if_icmp .ge 38, 3) := by decide +kernel
theorem dX5_waitingFor_12 : decode cX5_waitingFor 12 = .ok (.iload_n 2, 1) := by decide +kernel
theorem dX5_waitingFor_13 : decode cX5_waitingFor 13 = .ok (.aload_n 0, 1) := by decide +kernel
theorem dX5_waitingFor_14 : decode cX5_waitingFor 14 = .ok (.getfield 23, 3) := by decide +kernel
theorem dX5_waitingFor_17 : decode cX5_waitingFor 17 = .ok (.iload_n 3, 1) := by decide +kernel
theorem dX5_waitingFor_18 : decode cX5_waitingFor 18 = .ok (.aaload, 1) := by decide +kernel
theorem dX5_waitingFor_19 : decode cX5_waitingFor 19 = .ok (.getfield 346, 3) := by decide +kernel
theorem dX5_waitingFor_22 : decode cX5_waitingFor 22 = .ok (.iload_n 1, 1) := by decide +kernel
theorem dX5_waitingFor_23 : decode cX5_waitingFor 23 = .ok (.if_icmp .ne 15, 3) := by decide +kernel
theorem dX5_waitingFor_26 : decode cX5_waitingFor 26 = .ok (.aload_n 0, 1) := by decide +kernel
theorem dX5_waitingFor_27 : decode cX5_waitingFor 27 = .ok (.getfield 23, 3) := by decide +kernel
theorem dX5_waitingFor_30 : decode cX5_waitingFor 30 = .ok (.iload_n 3, 1) := by decide +kernel
theorem dX5_waitingFor_31 : decode cX5_waitingFor 31 = .ok (.aaload, 1) := by decide +kernel
theorem dX5_waitingFor_32 : decode cX5_waitingFor 32 = .ok (.invokevirtual 161, 3) := by decide +kernel
theorem dX5_waitingFor_35 : decode cX5_waitingFor 35 = .ok (.goto 4, 3) := by decide +kernel
theorem dX5_waitingFor_38 : decode cX5_waitingFor 38 = .ok (.iconst 0, 1) := by decide +kernel
theorem dX5_waitingFor_39 : decode cX5_waitingFor 39 = .ok (.iadd, 1) := by decide +kernel
theorem dX5_waitingFor_40 : decode cX5_waitingFor 40 = .ok (.istore_n 2, 1) := by decide +kernel
theorem dX5_waitingFor_41 : decode cX5_waitingFor 41 = .ok (.iinc 3 1, 3) := by decide +kernel
theorem dX5_waitingFor_44 : decode cX5_waitingFor 44 = .ok (.goto (-40), 3) := by decide +kernel
theorem dX5_waitingFor_47 : decode cX5_waitingFor 47 = .ok (.iload_n 2, 1) := by decide +kernel
theorem dX5_waitingFor_48 : decode cX5_waitingFor 48 = .ok (.ireturn, 1) := by decide +kernel
theorem dX5_claimOf_0 : decode cX5_claimOf 0 = .ok (.iconst 1, 1) := by decide +kernel
theorem dX5_claimOf_1 : decode cX5_claimOf 1 = .ok (.istore_n 2, 1) := by decide +kernel
theorem dX5_claimOf_2 : decode cX5_claimOf 2 = .ok (.iconst 1, 1) := by decide +kernel
theorem dX5_claimOf_3 : decode cX5_claimOf 3 = .ok (.istore_n 3, 1) := by decide +kernel
theorem dX5_claimOf_4 : decode cX5_claimOf 4 = .ok (.iload_n 3, 1) := by decide +kernel
theorem dX5_claimOf_5 : decode cX5_claimOf 5 = .ok (.aload_n 0, 1) := by decide +kernel
theorem dX5_claimOf_6 : decode cX5_claimOf 6 = .ok (.getfield 50, 3) := by decide +kernel
theorem dX5_claimOf_9 : decode cX5_claimOf 9 = .ok (.if_icmp .ge 38, 3) := by decide +kernel
theorem dX5_claimOf_12 : decode cX5_claimOf 12 = .ok (.iload_n 2, 1) := by decide +kernel
theorem dX5_claimOf_13 : decode cX5_claimOf 13 = .ok (.aload_n 0, 1) := by decide +kernel
theorem dX5_claimOf_14 : decode cX5_claimOf 14 = .ok (.getfield 23, 3) := by decide +kernel
theorem dX5_claimOf_17 : decode cX5_claimOf 17 = .ok (.iload_n 3, 1) := by decide +kernel
theorem dX5_claimOf_18 : decode cX5_claimOf 18 = .ok (.aaload, 1) := by decide +kernel
theorem dX5_claimOf_19 : decode cX5_claimOf 19 = .ok (.getfield 346, 3) := by decide +kernel
theorem dX5_claimOf_22 : decode cX5_claimOf 22 = .ok (.iload_n 1, 1) := by decide +kernel
theorem dX5_claimOf_23 : decode cX5_claimOf 23 = .ok (.if_icmp .ne 15, 3) := by decide +kernel
theorem dX5_claimOf_26 : decode cX5_claimOf 26 = .ok (.aload_n 0, 1) := by decide +kernel
theorem dX5_claimOf_27 : decode cX5_claimOf 27 = .ok (.getfield 23, 3) := by decide +kernel
theorem dX5_claimOf_30 : decode cX5_claimOf 30 = .ok (.iload_n 3, 1) := by decide +kernel
theorem dX5_claimOf_31 : decode cX5_claimOf 31 = .ok (.aaload, 1) := by decide +kernel
theorem dX5_claimOf_32 : decode cX5_claimOf 32 = .ok (.getfield 111, 3) := by decide +kernel
theorem dX5_claimOf_35 : decode cX5_claimOf 35 = .ok (.goto 4, 3) := by decide +kernel
theorem dX5_claimOf_38 : decode cX5_claimOf 38 = .ok (.iconst 0, 1) := by decide +kernel
theorem dX5_claimOf_39 : decode cX5_claimOf 39 = .ok (.iadd, 1) := by decide +kernel
theorem dX5_claimOf_40 : decode cX5_claimOf 40 = .ok (.istore_n 2, 1) := by decide +kernel
theorem dX5_claimOf_41 : decode cX5_claimOf 41 = .ok (.iinc 3 1, 3) := by decide +kernel
theorem dX5_claimOf_44 : decode cX5_claimOf 44 = .ok (.goto (-40), 3) := by decide +kernel
theorem dX5_claimOf_47 : decode cX5_claimOf 47 = .ok (.iload_n 2, 1) := by decide +kernel
theorem dX5_claimOf_48 : decode cX5_claimOf 48 = .ok (.ireturn, 1) := by decide +kernel
end
section
theorem dX6_init_0 : decode cX6_init 0 = .ok (.aload_n 0, 1) := by decide +kernel
theorem dX6_init_1 : decode cX6_init 1 = .ok (.invokespecial 1, 3) := by decide +kernel
theorem dX6_init_4 : decode cX6_init 4 = .ok (.aload_n 0, 1) := by decide +kernel
theorem dX6_init_5 : decode cX6_init 5 = .ok (.bipush 6, 2) := by decide +kernel
theorem dX6_init_7 : decode cX6_init 7 = .ok (.newarray .int, 2) := by decide +kernel
theorem dX6_init_9 : decode cX6_init 9 = .ok (.putfield 7, 3) := by decide +kernel
theorem dX6_init_12 : decode cX6_init 12 = .ok (.aload_n 0, 1) := by decide +kernel
theorem dX6_init_13 : decode cX6_init 13 = .ok (.bipush 6, 2) := by decide +kernel
theorem dX6_init_15 : decode cX6_init 15 = .ok (.newarray .int, 2) := by decide +kernel
theorem dX6_init_17 : decode cX6_init 17 = .ok (.putfield 13, 3) := by decide +kernel
theorem dX6_init_20 : decode cX6_init 20 = .ok (.aload_n 0, 1) := by decide +kernel
theorem dX6_init_21 : decode cX6_init 21 = .ok (.bipush 6, 2) := by decide +kernel
theorem dX6_init_23 : decode cX6_init 23 = .ok (.newarray .int, 2) := by decide +kernel
theorem dX6_init_25 : decode cX6_init 25 = .ok (.putfield 16, 3) := by decide +kernel
theorem dX6_init_28 : decode cX6_init 28 = .ok (.aload_n 0, 1) := by decide +kernel
theorem dX6_init_29 : decode cX6_init 29 = .ok (.bipush 6, 2) := by decide +kernel
theorem dX6_init_31 : decode cX6_init 31 = .ok (.newarray .int, 2) := by decide +kernel
theorem dX6_init_33 : decode cX6_init 33 = .ok (.putfield 19, 3) := by decide +kernel
theorem dX6_init_36 : decode cX6_init 36 = .ok (.aload_n 0, 1) := by decide +kernel
theorem dX6_init_37 : decode cX6_init 37 = .ok (.bipush 6, 2) := by decide +kernel
theorem dX6_init_39 : decode cX6_init 39 = .ok (.newarray .int, 2) := by decide +kernel
theorem dX6_init_41 : decode cX6_init 41 = .ok (.putfield 22, 3) := by decide +kernel
theorem dX6_init_44 : decode cX6_init 44 = .ok (.aload_n 0, 1) := by decide +kernel
theorem dX6_init_45 : decode cX6_init 45 = .ok (.bipush 6, 2) := by decide +kernel
theorem dX6_init_47 : decode cX6_init 47 = .ok (.newarray .int, 2) := by decide +kernel
theorem dX6_init_49 : decode cX6_init 49 = .ok (.putfield 25, 3) := by decide +kernel
theorem dX6_init_52 : decode cX6_init 52 = .ok (.aload_n 0, 1) := by decide +kernel
theorem dX6_init_53 : decode cX6_init 53 = .ok (.bipush 6, 2) := by decide +kernel
theorem dX6_init_55 : decode cX6_init 55 = .ok (.newarray .int, 2) := by decide +kernel
theorem dX6_init_57 : decode cX6_init 57 = .ok (.putfield 28, 3) := by decide +kernel
theorem dX6_init_60 : decode cX6_init 60 = .ok (.aload_n 0, 1) := by decide +kernel
theorem dX6_init_61 : decode cX6_init 61 = .ok (.bipush 6, 2) := by decide +kernel
theorem dX6_init_63 : decode cX6_init 63 = .ok (.newarray .int, 2) := by decide +kernel
theorem dX6_init_65 : decode cX6_init 65 = .ok (.putfield 31, 3) := by decide +kernel
theorem dX6_init_68 : decode cX6_init 68 = .ok (.aload_n 0, 1) := by decide +kernel
theorem dX6_init_69 : decode cX6_init 69 = .ok (.iconst 1, 1) := by decide +kernel
theorem dX6_init_70 : decode cX6_init 70 = .ok (.putfield 34, 3) := by decide +kernel
theorem dX6_init_73 : decode cX6_init 73 = .ok (.aload_n 0, 1) := by decide +kernel
theorem dX6_init_74 : decode cX6_init 74 = .ok (.bipush 40, 2) := by decide +kernel
theorem dX6_init_76 : decode cX6_init 76 = .ok (.newarray .int, 2) := by decide +kernel
theorem dX6_init_78 : decode cX6_init 78 = .ok (.putfield 38, 3) := by decide +kernel
theorem dX6_init_81 : decode cX6_init 81 = .ok (.aload_n 0, 1) := by decide +kernel
theorem dX6_init_82 : decode cX6_init 82 = .ok (.bipush 40, 2) := by decide +kernel
theorem dX6_init_84 : decode cX6_init 84 = .ok (.newarray .int, 2) := by decide +kernel
theorem dX6_init_86 : decode cX6_init 86 = .ok (.putfield 41, 3) := by decide +kernel
theorem dX6_init_89 : decode cX6_init 89 = .ok (.aload_n 0, 1) := by decide +kernel
theorem dX6_init_90 : decode cX6_init 90 = .ok (.bipush 40, 2) := by decide +kernel
theorem dX6_init_92 : decode cX6_init 92 = .ok (.newarray .int, 2) := by decide +kernel
theorem dX6_init_94 : decode cX6_init 94 = .ok (.putfield 44, 3) := by decide +kernel
theorem dX6_init_97 : decode cX6_init 97 = .ok (.aload_n 0, 1) := by decide +kernel
theorem dX6_init_98 : decode cX6_init 98 = .ok (.bipush 40, 2) := by decide +kernel
theorem dX6_init_100 : decode cX6_init 100 = .ok (.newarray .int, 2) := by decide +kernel
theorem dX6_init_102 : decode cX6_init 102 = .ok (.putfield 47, 3) := by decide +kernel
theorem dX6_init_105 : decode cX6_init 105 = .ok (.aload_n 0, 1) := by decide +kernel
theorem dX6_init_106 : decode cX6_init 106 = .ok (.bipush 40, 2) := by decide +kernel
theorem dX6_init_108 : decode cX6_init 108 = .ok (.newarray .int, 2) := by decide +kernel
theorem dX6_init_110 : decode cX6_init 110 = .ok (.putfield 50, 3) := by decide +kernel
theorem dX6_init_113 : decode cX6_init 113 = .ok (.aload_n 0, 1) := by decide +kernel
theorem dX6_init_114 : decode cX6_init 114 = .ok (.bipush 40, 2) := by decide +kernel
theorem dX6_init_116 : decode cX6_init 116 = .ok (.newarray .int, 2) := by decide +kernel
theorem dX6_init_118 : decode cX6_init 118 = .ok (.putfield 53, 3) := by decide +kernel
theorem dX6_init_121 : decode cX6_init 121 = .ok (.aload_n 0, 1) := by decide +kernel
theorem dX6_init_122 : decode cX6_init 122 = .ok (.bipush 40, 2) := by decide +kernel
theorem dX6_init_124 : decode cX6_init 124 = .ok (.newarray .int, 2) := by decide +kernel
theorem dX6_init_126 : decode cX6_init 126 = .ok (.putfield 56, 3) := by decide +kernel
theorem dX6_init_129 : decode cX6_init 129 = .ok (.aload_n 0, 1) := by decide +kernel
theorem dX6_init_130 : decode cX6_init 130 = .ok (.bipush 40, 2) := by decide +kernel
theorem dX6_init_132 : decode cX6_init 132 = .ok (.newarray .int, 2) := by decide +kernel
theorem dX6_init_134 : decode cX6_init 134 = .ok (.putfield 59, 3) := by decide +kernel
theorem dX6_init_137 : decode cX6_init 137 = .ok (.aload_n 0, 1) := by decide +kernel
theorem dX6_init_138 : decode cX6_init 138 = .ok (.bipush 40, 2) := by decide +kernel
theorem dX6_init_140 : decode cX6_init 140 = .ok (.newarray .int, 2) := by decide +kernel
theorem dX6_init_142 : decode cX6_init 142 = .ok (.putfield 62, 3) := by decide +kernel
theorem dX6_init_145 : decode cX6_init 145 = .ok (.aload_n 0, 1) := by decide +kernel
theorem dX6_init_146 : decode cX6_init 146 = .ok (.bipush 40, 2) := by decide +kernel
theorem dX6_init_148 : decode cX6_init 148 = .ok (.newarray .int, 2) := by decide +kernel
theorem dX6_init_150 : decode cX6_init 150 = .ok (.putfield 65, 3) := by decide +kernel
theorem dX6_init_153 : decode cX6_init 153 = .ok (.aload_n 0, 1) := by decide +kernel
theorem dX6_init_154 : decode cX6_init 154 = .ok (.bipush 40, 2) := by decide +kernel
theorem dX6_init_156 : decode cX6_init 156 = .ok (.newarray .int, 2) := by decide +kernel
theorem dX6_init_158 : decode cX6_init 158 = .ok (.putfield 68, 3) := by decide +kernel
theorem dX6_init_161 : decode cX6_init 161 = .ok (.aload_n 0, 1) := by decide +kernel
theorem dX6_init_162 : decode cX6_init 162 = .ok (.sipush 360, 3) := by decide +kernel
theorem dX6_init_165 : decode cX6_init 165 = .ok (.newarray .int, 2) := by decide +kernel
theorem dX6_init_167 : decode cX6_init 167 = .ok (.putfield 71, 3) := by decide +kernel
theorem dX6_init_170 : decode cX6_init 170 = .ok (.aload_n 0, 1) := by decide +kernel
theorem dX6_init_171 : decode cX6_init 171 = .ok (.sipush 360, 3) := by decide +kernel
theorem dX6_init_174 : decode cX6_init 174 = .ok (.newarray .int, 2) := by decide +kernel
theorem dX6_init_176 : decode cX6_init 176 = .ok (.putfield 74, 3) := by decide +kernel
theorem dX6_init_179 : decode cX6_init 179 = .ok (.aload_n 0, 1) := by decide +kernel
theorem dX6_init_180 : decode cX6_init 180 = .ok (.iconst (-1), 1) := by decide +kernel
theorem dX6_init_181 : decode cX6_init 181 = .ok (.putfield 77, 3) := by decide +kernel
theorem dX6_init_184 : decode cX6_init 184 = .ok (.aload_n 0, 1) := by decide +kernel
theorem dX6_init_185 : decode cX6_init 185 = .ok (.iconst (-1), 1) := by decide +kernel
theorem dX6_init_186 : decode cX6_init 186 = .ok (.putfield 80, 3) := by decide +kernel
theorem dX6_init_189 : decode cX6_init 189 = .ok (.aload_n 0, 1) := by decide +kernel
theorem dX6_init_190 : decode cX6_init 190 = .ok (.iconst 4, 1) := by decide +kernel
theorem dX6_init_191 : decode cX6_init 191 = .ok (.newarray .int, 2) := by decide +kernel
theorem dX6_init_193 : decode cX6_init 193 = .ok (.putfield 83, 3) := by decide +kernel
theorem dX6_init_196 : decode cX6_init 196 = .ok (.aload_n 0, 1) := by decide +kernel
theorem dX6_init_197 : decode cX6_init 197 = .ok (.iconst 4, 1) := by decide +kernel
theorem dX6_init_198 : decode cX6_init 198 = .ok (.newarray .int, 2) := by decide +kernel
theorem dX6_init_200 : decode cX6_init 200 = .ok (.putfield 86, 3) := by decide +kernel
theorem dX6_init_203 : decode cX6_init 203 = .ok (.aload_n 0, 1) := by decide +kernel
theorem dX6_init_204 : decode cX6_init 204 = .ok (.iconst 4, 1) := by decide +kernel
theorem dX6_init_205 : decode cX6_init 205 = .ok (.newarray .int, 2) := by decide +kernel
theorem dX6_init_207 : decode cX6_init 207 = .ok (.putfield 89, 3) := by decide +kernel
theorem dX6_init_210 : decode cX6_init 210 = .ok (.aload_n 0, 1) := by decide +kernel
theorem dX6_init_211 : decode cX6_init 211 = .ok (.iconst 5, 1) := by decide +kernel
theorem dX6_init_212 : decode cX6_init 212 = .ok (.newarray .int, 2) := by decide +kernel
theorem dX6_init_214 : decode cX6_init 214 = .ok (.putfield 92, 3) := by decide +kernel
theorem dX6_init_217 : decode cX6_init 217 = .ok (.iconst 0, 1) := by decide +kernel
theorem dX6_init_218 : decode cX6_init 218 = .ok (.istore_n 1, 1) := by decide +kernel
theorem dX6_init_219 : decode cX6_init 219 = .ok (.iload_n 1, 1) := by decide +kernel
theorem dX6_init_220 : decode cX6_init 220 = .ok (.bipush 6, 2) := by decide +kernel
theorem dX6_init_222 : decode cX6_init 222 = .ok (.if_icmp .ge 31, 3) := by decide +kernel
theorem dX6_init_225 : decode cX6_init 225 = .ok (.aload_n 0, 1) := by decide +kernel
theorem dX6_init_226 : decode cX6_init 226 = .ok (.getfield 22, 3) := by decide +kernel
theorem dX6_init_229 : decode cX6_init 229 = .ok (.iload_n 1, 1) := by decide +kernel
theorem dX6_init_230 : decode cX6_init 230 = .ok (.bipush 8, 2) := by decide +kernel
theorem dX6_init_232 : decode cX6_init 232 = .ok (.iastore, 1) := by decide +kernel
theorem dX6_init_233 : decode cX6_init 233 = .ok (.aload_n 0, 1) := by decide +kernel
theorem dX6_init_234 : decode cX6_init 234 = .ok (.getfield 25, 3) := by decide +kernel
theorem dX6_init_237 : decode cX6_init 237 = .ok (.iload_n 1, 1) := by decide +kernel
theorem dX6_init_238 : decode cX6_init 238 = .ok (.iconst 3, 1) := by decide +kernel
theorem dX6_init_239 : decode cX6_init 239 = .ok (.iastore, 1) := by decide +kernel
theorem dX6_init_240 : decode cX6_init 240 = .ok (.aload_n 0, 1) := by decide +kernel
theorem dX6_init_241 : decode cX6_init 241 = .ok (.getfield 28, 3) := by decide +kernel
theorem dX6_init_244 : decode cX6_init 244 = .ok (.iload_n 1, 1) := by decide +kernel
theorem dX6_init_245 : decode cX6_init 245 = .ok (.iload_n 1, 1) := by decide +kernel
theorem dX6_init_246 : decode cX6_init 246 = .ok (.iastore, 1) := by decide +kernel
theorem dX6_init_247 : decode cX6_init 247 = .ok (.iinc 1 1, 3) := by decide +kernel
theorem dX6_init_250 : decode cX6_init 250 = .ok (.goto (-31), 3) := by decide +kernel
theorem dX6_init_253 : decode cX6_init 253 = .ok (.iconst 0, 1) := by decide +kernel
theorem dX6_init_254 : decode cX6_init 254 = .ok (.istore_n 1, 1) := by decide +kernel
theorem dX6_init_255 : decode cX6_init 255 = .ok (.iload_n 1, 1) := by decide +kernel
theorem dX6_init_256 : decode cX6_init 256 = .ok (.bipush 40, 2) := by decide +kernel
theorem dX6_init_258 : decode cX6_init 258 = .ok (.if_icmp .ge 30, 3) := by decide +kernel
theorem dX6_init_261 : decode cX6_init 261 = .ok (.aload_n 0, 1) := by decide +kernel
theorem dX6_init_262 : decode cX6_init 262 = .ok (.getfield 59, 3) := by decide +kernel
theorem dX6_init_265 : decode cX6_init 265 = .ok (.iload_n 1, 1) := by decide +kernel
theorem dX6_init_266 : decode cX6_init 266 = .ok (.iconst (-1), 1) := by decide +kernel
theorem dX6_init_267 : decode cX6_init 267 = .ok (.iastore, 1) := by decide +kernel
theorem dX6_init_268 : decode cX6_init 268 = .ok (.aload_n 0, 1) := by decide +kernel
theorem dX6_init_269 : decode cX6_init 269 = .ok (.getfield 62, 3) := by decide +kernel
theorem dX6_init_272 : decode cX6_init 272 = .ok (.iload_n 1, 1) := by decide +kernel
theorem dX6_init_273 : decode cX6_init 273 = .ok (.iconst (-1), 1) := by decide +kernel
theorem dX6_init_274 : decode cX6_init 274 = .ok (.iastore, 1) := by decide +kernel
theorem dX6_init_275 : decode cX6_init 275 = .ok (.aload_n 0, 1) := by decide +kernel
theorem dX6_init_276 : decode cX6_init 276 = .ok (.getfield 68, 3) := by decide +kernel
theorem dX6_init_279 : decode cX6_init 279 = .ok (.iload_n 1, 1) := by decide +kernel
theorem dX6_init_280 : decode cX6_init 280 = .ok (.iconst (-1), 1) := by decide +kernel
theorem dX6_init_281 : decode cX6_init 281 = .ok (.iastore, 1) := by decide +kernel
theorem dX6_init_282 : decode cX6_init 282 = .ok (.iinc 1 1, 3) := by decide +kernel
theorem dX6_init_285 : decode cX6_init 285 = .ok (.goto (-30), 3) := by decide +kernel
theorem dX6_init_288 : decode cX6_init 288 = .ok (.return_, 1) := by decide +kernel
theorem dX6_thrown_0 : decode cX6_thrown 0 = .ok (.aload_n 0, 1) := by decide +kernel
theorem dX6_thrown_1 : decode cX6_thrown 1 = .ok (.getfield 95, 3) := by decide +kernel
theorem dX6_thrown_4 : decode cX6_thrown 4 = .ok (.ireturn, 1) := by decide +kernel
theorem dX6_goes_0 : decode cX6_goes 0 = .ok (.aload_n 0, 1) := by decide +kernel
theorem dX6_goes_1 : decode cX6_goes 1 = .ok (.iload_n 1, 1) := by decide +kernel
theorem dX6_goes_2 : decode cX6_goes 2 = .ok (.ifCond .ne 7, 3) := by decide +kernel
theorem dX6_goes_5 : decode cX6_goes 5 = .ok (.iconst 1, 1) := by decide +kernel
theorem dX6_goes_6 : decode cX6_goes 6 = .ok (.goto 20, 3) := by decide +kernel
theorem dX6_goes_9 : decode cX6_goes 9 = .ok (.iload_n 2, 1) := by decide +kernel
theorem dX6_goes_10 : decode cX6_goes 10 = .ok (.ifCond .ne 7, 3) := by decide +kernel
theorem dX6_goes_13 : decode cX6_goes 13 = .ok (.iconst 2, 1) := by decide +kernel
theorem dX6_goes_14 : decode cX6_goes 14 = .ok (.goto 12, 3) := by decide +kernel
theorem dX6_goes_17 : decode cX6_goes 17 = .ok (.iload_n 3, 1) := by decide +kernel
theorem dX6_goes_18 : decode cX6_goes 18 = .ok (.ifCond .ne 7, 3) := by decide +kernel
theorem dX6_goes_21 : decode cX6_goes 21 = .ok (.iconst 3, 1) := by decide +kernel
theorem dX6_goes_22 : decode cX6_goes 22 = .ok (.goto 4, 3) := by decide +kernel
theorem dX6_goes_25 : decode cX6_goes 25 = .ok (.iconst 0, 1) := by decide +kernel
theorem dX6_goes_26 : decode cX6_goes 26 = .ok (.putfield 95, 3) := by decide +kernel
theorem dX6_goes_29 : decode cX6_goes 29 = .ok (.aload_n 0, 1) := by decide +kernel
theorem dX6_goes_30 : decode cX6_goes 30 = .ok (.getfield 95, 3) := by decide +kernel
theorem dX6_goes_33 : decode cX6_goes 33 = .ok (.ifCond .ne 7, 3) := by decide +kernel
theorem dX6_goes_36 : decode cX6_goes 36 = .ok (.iconst 1, 1) := by decide +kernel
theorem dX6_goes_37 : decode cX6_goes 37 = .ok (.goto 4, 3) := by decide +kernel
theorem dX6_goes_40 : decode cX6_goes 40 = .ok (.iconst 0, 1) := by decide +kernel
theorem dX6_goes_41 : decode cX6_goes 41 = .ok (.ireturn, 1) := by decide +kernel
theorem dX6_isBetween_0 : decode cX6_isBetween 0 = .ok (.iload_n 0, 1) := by decide +kernel
theorem dX6_isBetween_1 : decode cX6_isBetween 1 = .ok (.iload_n 1, 1) := by decide +kernel
theorem dX6_isBetween_2 : decode cX6_isBetween 2 = .ok (.if_icmp .lt 12, 3) := by decide +kernel
theorem dX6_isBetween_5 : decode cX6_isBetween 5 = .ok (.iload_n 0, 1) := by decide +kernel
theorem dX6_isBetween_6 : decode cX6_isBetween 6 = .ok (.iload_n 2, 1) := by decide +kernel
theorem dX6_isBetween_7 : decode cX6_isBetween 7 = .ok (.if_icmp .gt 7, 3) := by decide +kernel
theorem dX6_isBetween_10 : decode cX6_isBetween 10 = .ok (.iconst 1, 1) := by decide +kernel
theorem dX6_isBetween_11 : decode cX6_isBetween 11 = .ok (.goto 4, 3) := by decide +kernel
theorem dX6_isBetween_14 : decode cX6_isBetween 14 = .ok (.iconst 0, 1) := by decide +kernel
theorem dX6_isBetween_15 : decode cX6_isBetween 15 = .ok (.ireturn, 1) := by decide +kernel
set_option maxRecDepth 20000 in
theorem ggX6_isProduct_X6_isBetween : GoodIn wsX6_isProduct wsX6_isBetween := goodIn_r _ [4] (by decide +kernel) (by decide +kernel)
set_option maxRecDepth 20000 in
theorem gX6_isProduct_X6_isBetween : GoodIn wsX6_isProduct (va_wsS RX6 98 yX6_isBetween wsX6_isBetween) := goodIn_app (goodIn_of _ (by decide +kernel)) ggX6_isProduct_X6_isBetween
theorem dX6_isProduct_0 : decode cX6_isProduct 0 = .ok (.iload_n 0, 1) := by decide +kernel
theorem dX6_isProduct_1 : decode cX6_isProduct 1 = .ok (.iconst 0, 1) := by decide +kernel
theorem dX6_isProduct_2 : decode cX6_isProduct 2 = .ok (.iconst 5, 1) := by decide +kernel
theorem dX6_isProduct_3 : decode cX6_isProduct 3 = .ok (.invokestatic 98, 3) := by decide +kernel
theorem dX6_isProduct_6 : decode cX6_isProduct 6 = .ok (.ireturn, 1) := by decide +kernel
set_option maxRecDepth 20000 in
theorem ggX6_isTank_X6_isBetween : GoodIn wsX6_isTank wsX6_isBetween := goodIn_r _ [4] (by decide +kernel) (by decide +kernel)
set_option maxRecDepth 20000 in
theorem gX6_isTank_X6_isBetween : GoodIn wsX6_isTank (va_wsS RX6 98 yX6_isBetween wsX6_isBetween) := goodIn_app (goodIn_of _ (by decide +kernel)) ggX6_isTank_X6_isBetween
theorem dX6_isTank_0 : decode cX6_isTank 0 = .ok (.iload_n 0, 1) := by decide +kernel
theorem dX6_isTank_1 : decode cX6_isTank 1 = .ok (.iconst 0, 1) := by decide +kernel
theorem dX6_isTank_2 : decode cX6_isTank 2 = .ok (.iconst 3, 1) := by decide +kernel
theorem dX6_isTank_3 : decode cX6_isTank 3 = .ok (.invokestatic 98, 3) := by decide +kernel
theorem dX6_isTank_6 : decode cX6_isTank 6 = .ok (.ireturn, 1) := by decide +kernel
set_option maxRecDepth 20000 in
theorem ggX6_isShipper_X6_isBetween : GoodIn wsX6_isShipper wsX6_isBetween := goodIn_r _ [4] (by decide +kernel) (by decide +kernel)
set_option maxRecDepth 20000 in
theorem gX6_isShipper_X6_isBetween : GoodIn wsX6_isShipper (va_wsS RX6 98 yX6_isBetween wsX6_isBetween) := goodIn_app (goodIn_of _ (by decide +kernel)) ggX6_isShipper_X6_isBetween
theorem dX6_isShipper_0 : decode cX6_isShipper 0 = .ok (.iload_n 0, 1) := by decide +kernel
theorem dX6_isShipper_1 : decode cX6_isShipper 1 = .ok (.iconst 0, 1) := by decide +kernel
theorem dX6_isShipper_2 : decode cX6_isShipper 2 = .ok (.iconst 3, 1) := by decide +kernel
theorem dX6_isShipper_3 : decode cX6_isShipper 3 = .ok (.invokestatic 98, 3) := by decide +kernel
theorem dX6_isShipper_6 : decode cX6_isShipper 6 = .ok (.ireturn, 1) := by decide +kernel
set_option maxRecDepth 20000 in
theorem ggX6_isSegment_X6_isBetween : GoodIn wsX6_isSegment wsX6_isBetween := goodIn_r _ [5] (by decide +kernel) (by decide +kernel)
set_option maxRecDepth 20000 in
theorem gX6_isSegment_X6_isBetween : GoodIn wsX6_isSegment (va_wsS RX6 98 yX6_isBetween wsX6_isBetween) := goodIn_app (goodIn_of _ (by decide +kernel)) ggX6_isSegment_X6_isBetween
theorem dX6_isSegment_0 : decode cX6_isSegment 0 = .ok (.iload_n 1, 1) := by decide +kernel
theorem dX6_isSegment_1 : decode cX6_isSegment 1 = .ok (.iconst 0, 1) := by decide +kernel
theorem dX6_isSegment_2 : decode cX6_isSegment 2 = .ok (.aload_n 0, 1) := by decide +kernel
theorem dX6_isSegment_3 : decode cX6_isSegment 3 = .ok (.getfield 102, 3) := by decide +kernel
theorem dX6_isSegment_6 : decode cX6_isSegment 6 = .ok (.iconst 1, 1) := by decide +kernel
theorem dX6_isSegment_7 : decode cX6_isSegment 7 = .ok (.isub, 1) := by decide +kernel
theorem dX6_isSegment_8 : decode cX6_isSegment 8 = .ok (.invokestatic 98, 3) := by decide +kernel
theorem dX6_isSegment_11 : decode cX6_isSegment 11 = .ok (.ireturn, 1) := by decide +kernel
set_option maxRecDepth 20000 in
theorem ggX6_isPlace_X6_isBetween : GoodIn wsX6_isPlace wsX6_isBetween := goodIn_r _ [5] (by decide +kernel) (by decide +kernel)
set_option maxRecDepth 20000 in
theorem gX6_isPlace_X6_isBetween : GoodIn wsX6_isPlace (va_wsS RX6 98 yX6_isBetween wsX6_isBetween) := goodIn_app (goodIn_of _ (by decide +kernel)) ggX6_isPlace_X6_isBetween
theorem dX6_isPlace_0 : decode cX6_isPlace 0 = .ok (.iload_n 1, 1) := by decide +kernel
theorem dX6_isPlace_1 : decode cX6_isPlace 1 = .ok (.iconst (-1), 1) := by decide +kernel
theorem dX6_isPlace_2 : decode cX6_isPlace 2 = .ok (.if_icmp .eq 17, 3) := by decide +kernel
theorem dX6_isPlace_5 : decode cX6_isPlace 5 = .ok (.iload_n 1, 1) := by decide +kernel
theorem dX6_isPlace_6 : decode cX6_isPlace 6 = .ok (.iconst 0, 1) := by decide +kernel
theorem dX6_isPlace_7 : decode cX6_isPlace 7 = .ok (.aload_n 0, 1) := by decide +kernel
theorem dX6_isPlace_8 : decode cX6_isPlace 8 = .ok (.getfield 102, 3) := by decide +kernel
theorem dX6_isPlace_11 : decode cX6_isPlace 11 = .ok (.iconst 2, 1) := by decide +kernel
theorem dX6_isPlace_12 : decode cX6_isPlace 12 = .ok (.isub, 1) := by decide +kernel
theorem dX6_isPlace_13 : decode cX6_isPlace 13 = .ok (.invokestatic 98, 3) := by decide +kernel
theorem dX6_isPlace_16 : decode cX6_isPlace 16 = .ok (.ifCond .eq 7, 3) := by decide +kernel
theorem dX6_isPlace_19 : decode cX6_isPlace 19 = .ok (.iconst 1, 1) := by decide +kernel
theorem dX6_isPlace_20 : decode cX6_isPlace 20 = .ok (.goto 4, 3) := by decide +kernel
theorem dX6_isPlace_23 : decode cX6_isPlace 23 = .ok (.iconst 0, 1) := by decide +kernel
theorem dX6_isPlace_24 : decode cX6_isPlace 24 = .ok (.ireturn, 1) := by decide +kernel
set_option maxRecDepth 20000 in
theorem ggX6_segment_X6_isBetween : GoodIn wsX6_segment wsX6_isBetween := goodIn_r _ [9] (by decide +kernel) (by decide +kernel)
set_option maxRecDepth 20000 in
theorem gX6_segment_X6_isBetween : GoodIn wsX6_segment (va_wsS RX6 98 yX6_isBetween wsX6_isBetween) := goodIn_app (goodIn_of _ (by decide +kernel)) ggX6_segment_X6_isBetween
set_option maxRecDepth 20000 in
theorem ggX6_segment_X6_goes : GoodIn wsX6_segment wsX6_goes := goodIn_r _ [13, 14, 15, 16, 17, 18, 19, 20, 21, 22, 23, 24, 25, 26, 27, 28, 29, 30, 31, 32, 33, 34, 35, 36, 37, 38, 39, 40, 41, 42, 43, 44, 45, 46, 47, 48, 49, 50, 51, 52, 53, 54, 55, 56, 57, 58, 59] (by decide +kernel) (by decide +kernel)
set_option maxRecDepth 20000 in
theorem gX6_segment_X6_goes : GoodIn wsX6_segment (wsV RX6 109 RX6 yX6_goes wsX6_goes) := goodIn_app (goodIn_of _ (by decide +kernel)) ggX6_segment_X6_goes
theorem dX6_segment_0 : decode cX6_segment 0 = .ok (.aload_n 0, 1) := by decide +kernel
theorem dX6_segment_1 : decode cX6_segment 1 = .ok (.iload_n 1, 1) := by decide +kernel
theorem dX6_segment_2 : decode cX6_segment 2 = .ok (.iconst 5, 1) := by decide +kernel
theorem dX6_segment_3 : decode cX6_segment 3 = .ok (.bipush 60, 2) := by decide +kernel
theorem dX6_segment_5 : decode cX6_segment 5 = .ok (.invokestatic 98, 3) := by decide +kernel
theorem dX6_segment_8 : decode cX6_segment 8 = .ok (.ifCond .eq 29, 3) := by decide +kernel
theorem dX6_segment_11 : decode cX6_segment 11 = .ok (.iload_n 2, 1) := by decide +kernel
theorem dX6_segment_12 : decode cX6_segment 12 = .ok (.iconst 0, 1) := by decide +kernel
theorem dX6_segment_13 : decode cX6_segment 13 = .ok (.bipush 50, 2) := by decide +kernel
theorem dX6_segment_15 : decode cX6_segment 15 = .ok (.invokestatic 98, 3) := by decide +kernel
theorem dX6_segment_18 : decode cX6_segment 18 = .ok (.ifCond .eq 19, 3) := by decide +kernel
theorem dX6_segment_21 : decode cX6_segment 21 = .ok (.iload_n 3, 1) := by decide +kernel
theorem dX6_segment_22 : decode cX6_segment 22 = .ok (.bipush 10, 2) := by decide +kernel
theorem dX6_segment_24 : decode cX6_segment 24 = .ok (.sipush 500, 3) := by decide +kernel
theorem dX6_segment_27 : decode cX6_segment 27 = .ok (.invokestatic 98, 3) := by decide +kernel
theorem dX6_segment_30 : decode cX6_segment 30 = .ok (.ifCond .eq 7, 3) := by decide +kernel
theorem dX6_segment_33 : decode cX6_segment 33 = .ok (.iconst 1, 1) := by decide +kernel
theorem dX6_segment_34 : decode cX6_segment 34 = .ok (.goto 4, 3) := by decide +kernel
theorem dX6_segment_37 : decode cX6_segment 37 = .ok (.iconst 0, 1) := by decide +kernel
theorem dX6_segment_38 : decode cX6_segment 38 = .ok (.aload_n 0, 1) := by decide +kernel
theorem dX6_segment_39 : decode cX6_segment 39 = .ok (.getfield 102, 3) := by decide +kernel
theorem dX6_segment_42 : decode cX6_segment 42 = .ok (.bipush 6, 2) := by decide +kernel
theorem dX6_segment_44 : decode cX6_segment 44 = .ok (.if_icmp .ge 14, 3) := by decide +kernel
theorem dX6_segment_47 : decode cX6_segment 47 = .ok (.aload_n 0, 1) := by decide +kernel
theorem dX6_segment_48 : decode cX6_segment 48 = .ok (.getfield 105, 3) := by decide +kernel
theorem dX6_segment_51 : decode cX6_segment 51 = .ok (.ifCond .ne 7, 3) := by decide +kernel
theorem dX6_segment_54 : decode cX6_segment 54 = .ok (.iconst 1, 1) := by decide +kernel
theorem dX6_segment_55 : decode cX6_segment 55 = .ok (.goto 4, 3) := by decide +kernel
theorem dX6_segment_58 : decode cX6_segment 58 = .ok (.iconst 0, 1) := by decide +kernel
theorem dX6_segment_59 : decode cX6_segment 59 = .ok (.iconst 1, 1) := by decide +kernel
theorem dX6_segment_60 : decode cX6_segment 60 = .ok (.invokevirtual 109, 3) := by decide +kernel
theorem dX6_segment_63 : decode cX6_segment 63 = .ok (.ifCond .ne 5, 3) := by decide +kernel
theorem dX6_segment_66 : decode cX6_segment 66 = .ok (.iconst 0, 1) := by decide +kernel
theorem dX6_segment_67 : decode cX6_segment 67 = .ok (.ireturn, 1) := by decide +kernel
theorem dX6_segment_68 : decode cX6_segment 68 = .ok (.aload_n 0, 1) := by decide +kernel
theorem dX6_segment_69 : decode cX6_segment 69 = .ok (.getfield 7, 3) := by decide +kernel
theorem dX6_segment_72 : decode cX6_segment 72 = .ok (.aload_n 0, 1) := by decide +kernel
theorem dX6_segment_73 : decode cX6_segment 73 = .ok (.getfield 102, 3) := by decide +kernel
theorem dX6_segment_76 : decode cX6_segment 76 = .ok (.iload_n 1, 1) := by decide +kernel
theorem dX6_segment_77 : decode cX6_segment 77 = .ok (.iastore, 1) := by decide +kernel
theorem dX6_segment_78 : decode cX6_segment 78 = .ok (.aload_n 0, 1) := by decide +kernel
theorem dX6_segment_79 : decode cX6_segment 79 = .ok (.getfield 13, 3) := by decide +kernel
theorem dX6_segment_82 : decode cX6_segment 82 = .ok (.aload_n 0, 1) := by decide +kernel
theorem dX6_segment_83 : decode cX6_segment 83 = .ok (.getfield 102, 3) := by decide +kernel
theorem dX6_segment_86 : decode cX6_segment 86 = .ok (.iload_n 2, 1) := by decide +kernel
theorem dX6_segment_87 : decode cX6_segment 87 = .ok (.iastore, 1) := by decide +kernel
theorem dX6_segment_88 : decode cX6_segment 88 = .ok (.aload_n 0, 1) := by decide +kernel
theorem dX6_segment_89 : decode cX6_segment 89 = .ok (.getfield 16, 3) := by decide +kernel
theorem dX6_segment_92 : decode cX6_segment 92 = .ok (.aload_n 0, 1) := by decide +kernel
theorem dX6_segment_93 : decode cX6_segment 93 = .ok (.getfield 102, 3) := by decide +kernel
theorem dX6_segment_96 : decode cX6_segment 96 = .ok (.iload_n 3, 1) := by decide +kernel
theorem dX6_segment_97 : decode cX6_segment 97 = .ok (.iastore, 1) := by decide +kernel
theorem dX6_segment_98 : decode cX6_segment 98 = .ok (.aload_n 0, 1) := by decide +kernel
theorem dX6_segment_99 : decode cX6_segment 99 = .ok (.dup, 1) := by decide +kernel
theorem dX6_segment_100 : decode cX6_segment 100 = .ok (.getfield 102, 3) := by decide +kernel
theorem dX6_segment_103 : decode cX6_segment 103 = .ok (.iconst 1, 1) := by decide +kernel
theorem dX6_segment_104 : decode cX6_segment 104 = .ok (.iadd, 1) := by decide +kernel
theorem dX6_segment_105 : decode cX6_segment 105 = .ok (.putfield 102, 3) := by decide +kernel
theorem dX6_segment_108 : decode cX6_segment 108 = .ok (.aload_n 0, 1) := by decide +kernel
theorem dX6_segment_109 : decode cX6_segment 109 = .ok (.getfield 102, 3) := by decide +kernel
theorem dX6_segment_112 : decode cX6_segment 112 = .ok (.iconst 1, 1) := by decide +kernel
theorem dX6_segment_113 : decode cX6_segment 113 = .ok (.isub, 1) := by decide +kernel
theorem dX6_segment_114 : decode cX6_segment 114 = .ok (.ireturn, 1) := by decide +kernel
set_option maxRecDepth 20000 in
theorem ggX6_product_X6_isProduct : GoodIn wsX6_product wsX6_isProduct := goodIn_r _ [8, 9, 10, 7, 11] (by decide +kernel) (by decide +kernel)
set_option maxRecDepth 20000 in
theorem gX6_product_X6_isProduct : GoodIn wsX6_product (va_wsS RX6 113 yX6_isProduct wsX6_isProduct) := goodIn_app (goodIn_of _ (by decide +kernel)) ggX6_product_X6_isProduct
set_option maxRecDepth 20000 in
theorem ggX6_product_X6_isBetween : GoodIn wsX6_product wsX6_isBetween := goodIn_r _ [11] (by decide +kernel) (by decide +kernel)
set_option maxRecDepth 20000 in
theorem gX6_product_X6_isBetween : GoodIn wsX6_product (va_wsS RX6 98 yX6_isBetween wsX6_isBetween) := goodIn_app (goodIn_of _ (by decide +kernel)) ggX6_product_X6_isBetween
set_option maxRecDepth 20000 in
theorem ggX6_product_X6_goes : GoodIn wsX6_product wsX6_goes := goodIn_r _ [15, 16, 17, 18, 19, 20, 21, 22, 23, 24, 25, 26, 27, 28, 29, 30, 31, 32, 33, 34, 35, 36, 37, 38, 39, 40, 41, 42, 43, 44, 45, 46, 47, 48, 49, 50, 51, 52, 53, 54, 55, 56, 57, 58, 59, 60, 61] (by decide +kernel) (by decide +kernel)
set_option maxRecDepth 20000 in
theorem gX6_product_X6_goes : GoodIn wsX6_product (wsV RX6 109 RX6 yX6_goes wsX6_goes) := goodIn_app (goodIn_of _ (by decide +kernel)) ggX6_product_X6_goes
theorem dX6_product_0 : decode cX6_product 0 = .ok (.iload_n 1, 1) := by decide +kernel
theorem dX6_product_1 : decode cX6_product 1 = .ok (.invokestatic 113, 3) := by decide +kernel
theorem dX6_product_4 : decode cX6_product 4 = .ok (.istore 6, 2) := by decide +kernel
theorem dX6_product_6 : decode cX6_product 6 = .ok (.iload_n 2, 1) := by decide +kernel
theorem dX6_product_7 : decode cX6_product 7 = .ok (.iconst 1, 1) := by decide +kernel
theorem dX6_product_8 : decode cX6_product 8 = .ok (.bipush 10, 2) := by decide +kernel
theorem dX6_product_10 : decode cX6_product 10 = .ok (.invokestatic 98, 3) := by decide +kernel
theorem dX6_product_13 : decode cX6_product 13 = .ok (.ifCond .eq 39, 3) := by decide +kernel
theorem dX6_product_16 : decode cX6_product 16 = .ok (.iload_n 3, 1) := by decide +kernel
theorem dX6_product_17 : decode cX6_product 17 = .ok (.iconst 1, 1) := by decide +kernel
theorem dX6_product_18 : decode cX6_product 18 = .ok (.bipush 10, 2) := by decide +kernel
theorem dX6_product_20 : decode cX6_product 20 = .ok (.invokestatic 98, 3) := by decide +kernel
theorem dX6_product_23 : decode cX6_product 23 = .ok (.ifCond .eq 29, 3) := by decide +kernel
theorem dX6_product_26 : decode cX6_product 26 = .ok (.iload 4, 2) := by decide +kernel
theorem dX6_product_28 : decode cX6_product 28 = .ok (.iconst 0, 1) := by decide +kernel
theorem dX6_product_29 : decode cX6_product 29 = .ok (.bipush 9, 2) := by decide +kernel
theorem dX6_product_31 : decode cX6_product 31 = .ok (.invokestatic 98, 3) := by decide +kernel
theorem dX6_product_34 : decode cX6_product 34 = .ok (.ifCond .eq 18, 3) := by decide +kernel
theorem dX6_product_37 : decode cX6_product 37 = .ok (.iload 5, 2) := by decide +kernel
theorem dX6_product_39 : decode cX6_product 39 = .ok (.iconst 0, 1) := by decide +kernel
theorem dX6_product_40 : decode cX6_product 40 = .ok (.bipush 63, 2) := by decide +kernel
theorem dX6_product_42 : decode cX6_product 42 = .ok (.invokestatic 98, 3) := by decide +kernel
theorem dX6_product_45 : decode cX6_product 45 = .ok (.ifCond .eq 7, 3) := by decide +kernel
theorem dX6_product_48 : decode cX6_product 48 = .ok (.iconst 1, 1) := by decide +kernel
theorem dX6_product_49 : decode cX6_product 49 = .ok (.goto 4, 3) := by decide +kernel
theorem dX6_product_52 : decode cX6_product 52 = .ok (.iconst 0, 1) := by decide +kernel
theorem dX6_product_53 : decode cX6_product 53 = .ok (.istore 7, 2) := by decide +kernel
theorem dX6_product_55 : decode cX6_product 55 = .ok (.aload_n 0, 1) := by decide +kernel
theorem dX6_product_56 : decode cX6_product 56 = .ok (.iload 6, 2) := by decide +kernel
theorem dX6_product_58 : decode cX6_product 58 = .ok (.iload 7, 2) := by decide +kernel
theorem dX6_product_60 : decode cX6_product 60 = .ok (.ifCond .eq 25, 3) := by decide +kernel
theorem dX6_product_63 : decode cX6_product 63 = .ok (.iload 5, 2) := by decide +kernel
theorem dX6_product_65 : decode cX6_product 65 = .ok (.iload 6, 2) := by decide +kernel
theorem dX6_product_67 : decode cX6_product 67 = .ok (.ifCond .eq 7, 3) := by decide +kernel
theorem dX6_product_70 : decode cX6_product 70 = .ok (.iload_n 1, 1) := by decide +kernel
theorem dX6_product_71 : decode cX6_product 71 = .ok (.goto 4, 3) := by decide +kernel
theorem dX6_product_74 : decode cX6_product 74 = .ok (.iconst 0, 1) := by decide +kernel
theorem dX6_product_75 : decode cX6_product 75 = .ok (.ishr, 1) := by decide +kernel
theorem dX6_product_76 : decode cX6_product 76 = .ok (.iconst 1, 1) := by decide +kernel
theorem dX6_product_77 : decode cX6_product 77 = .ok (.iand, 1) := by decide +kernel
theorem dX6_product_78 : decode cX6_product 78 = .ok (.ifCond .ne 7, 3) := by decide +kernel
theorem dX6_product_81 : decode cX6_product 81 = .ok (.iconst 1, 1) := by decide +kernel
theorem dX6_product_82 : decode cX6_product 82 = .ok (.goto 4, 3) := by decide +kernel
theorem dX6_product_85 : decode cX6_product 85 = .ok (.iconst 0, 1) := by decide +kernel
theorem dX6_product_86 : decode cX6_product 86 = .ok (.iconst 1, 1) := by decide +kernel
theorem dX6_product_87 : decode cX6_product 87 = .ok (.invokevirtual 109, 3) := by decide +kernel
theorem dX6_product_90 : decode cX6_product 90 = .ok (.ifCond .ne 4, 3) := by decide +kernel
theorem dX6_product_93 : decode cX6_product 93 = .ok (.return_, 1) := by decide +kernel
theorem dX6_product_94 : decode cX6_product 94 = .ok (.aload_n 0, 1) := by decide +kernel
theorem dX6_product_95 : decode cX6_product 95 = .ok (.getfield 22, 3) := by decide +kernel
theorem dX6_product_98 : decode cX6_product 98 = .ok (.iload_n 1, 1) := by decide +kernel
theorem dX6_product_99 : decode cX6_product 99 = .ok (.iload_n 2, 1) := by decide +kernel
theorem dX6_product_100 : decode cX6_product 100 = .ok (.iastore, 1) := by decide +kernel
theorem dX6_product_101 : decode cX6_product 101 = .ok (.aload_n 0, 1) := by decide +kernel
theorem dX6_product_102 : decode cX6_product 102 = .ok (.getfield 25, 3) := by decide +kernel
theorem dX6_product_105 : decode cX6_product 105 = .ok (.iload_n 1, 1) := by decide +kernel
theorem dX6_product_106 : decode cX6_product 106 = .ok (.iload_n 3, 1) := by decide +kernel
theorem dX6_product_107 : decode cX6_product 107 = .ok (.iastore, 1) := by decide +kernel
theorem dX6_product_108 : decode cX6_product 108 = .ok (.aload_n 0, 1) := by decide +kernel
theorem dX6_product_109 : decode cX6_product 109 = .ok (.getfield 28, 3) := by decide +kernel
theorem dX6_product_112 : decode cX6_product 112 = .ok (.iload_n 1, 1) := by decide +kernel
theorem dX6_product_113 : decode cX6_product 113 = .ok (.iload 4, 2) := by decide +kernel
theorem dX6_product_115 : decode cX6_product 115 = .ok (.iastore, 1) := by decide +kernel
theorem dX6_product_116 : decode cX6_product 116 = .ok (.aload_n 0, 1) := by decide +kernel
theorem dX6_product_117 : decode cX6_product 117 = .ok (.getfield 31, 3) := by decide +kernel
theorem dX6_product_120 : decode cX6_product 120 = .ok (.iload_n 1, 1) := by decide +kernel
theorem dX6_product_121 : decode cX6_product 121 = .ok (.iload 5, 2) := by decide +kernel
theorem dX6_product_123 : decode cX6_product 123 = .ok (.iastore, 1) := by decide +kernel
theorem dX6_product_124 : decode cX6_product 124 = .ok (.return_, 1) := by decide +kernel
set_option maxRecDepth 20000 in
theorem ggX6_open_X6_isProduct : GoodIn wsX6_open wsX6_isProduct := goodIn_r _ [14, 15, 16, 13, 17] (by decide +kernel) (by decide +kernel)
set_option maxRecDepth 20000 in
theorem gX6_open_X6_isProduct : GoodIn wsX6_open (va_wsS RX6 113 yX6_isProduct wsX6_isProduct) := goodIn_app (goodIn_of _ (by decide +kernel)) ggX6_open_X6_isProduct
set_option maxRecDepth 20000 in
theorem ggX6_open_X6_goes : GoodIn wsX6_open wsX6_goes := goodIn_r _ [21, 22, 23, 24, 25, 26, 27, 28, 29, 30, 31, 32, 33, 34, 35, 36, 37, 38, 39, 40, 41, 42, 43, 44, 45, 46, 47, 48, 49, 50, 51, 52, 53, 54, 55, 56, 57, 58, 59, 60, 61, 62, 63, 64, 65, 66, 67] (by decide +kernel) (by decide +kernel)
set_option maxRecDepth 20000 in
theorem gX6_open_X6_goes : GoodIn wsX6_open (wsV RX6 109 RX6 yX6_goes wsX6_goes) := goodIn_app (goodIn_of _ (by decide +kernel)) ggX6_open_X6_goes
theorem dX6_open_0 : decode cX6_open 0 = .ok (.aload_n 0, 1) := by decide +kernel
theorem dX6_open_1 : decode cX6_open 1 = .ok (.iload_n 1, 1) := by decide +kernel
theorem dX6_open_2 : decode cX6_open 2 = .ok (.invokestatic 113, 3) := by decide +kernel
theorem dX6_open_5 : decode cX6_open 5 = .ok (.aload_n 0, 1) := by decide +kernel
theorem dX6_open_6 : decode cX6_open 6 = .ok (.getfield 105, 3) := by decide +kernel
theorem dX6_open_9 : decode cX6_open 9 = .ok (.ifCond .ne 14, 3) := by decide +kernel
theorem dX6_open_12 : decode cX6_open 12 = .ok (.aload_n 0, 1) := by decide +kernel
theorem dX6_open_13 : decode cX6_open 13 = .ok (.getfield 102, 3) := by decide +kernel
theorem dX6_open_16 : decode cX6_open 16 = .ok (.ifCond .le 7, 3) := by decide +kernel
theorem dX6_open_19 : decode cX6_open 19 = .ok (.iconst 1, 1) := by decide +kernel
theorem dX6_open_20 : decode cX6_open 20 = .ok (.goto 4, 3) := by decide +kernel
theorem dX6_open_23 : decode cX6_open 23 = .ok (.iconst 0, 1) := by decide +kernel
theorem dX6_open_24 : decode cX6_open 24 = .ok (.iconst 1, 1) := by decide +kernel
theorem dX6_open_25 : decode cX6_open 25 = .ok (.invokevirtual 109, 3) := by decide +kernel
theorem dX6_open_28 : decode cX6_open 28 = .ok (.ifCond .ne 5, 3) := by decide +kernel
theorem dX6_open_31 : decode cX6_open 31 = .ok (.iconst 0, 1) := by decide +kernel
theorem dX6_open_32 : decode cX6_open 32 = .ok (.ireturn, 1) := by decide +kernel
theorem dX6_open_33 : decode cX6_open 33 = .ok (.aload_n 0, 1) := by decide +kernel
theorem dX6_open_34 : decode cX6_open 34 = .ok (.iconst 1, 1) := by decide +kernel
theorem dX6_open_35 : decode cX6_open 35 = .ok (.putfield 105, 3) := by decide +kernel
theorem dX6_open_38 : decode cX6_open 38 = .ok (.iconst 0, 1) := by decide +kernel
theorem dX6_open_39 : decode cX6_open 39 = .ok (.istore_n 2, 1) := by decide +kernel
theorem dX6_open_40 : decode cX6_open 40 = .ok (.iload_n 2, 1) := by decide +kernel
theorem dX6_open_41 : decode cX6_open 41 = .ok (.aload_n 0, 1) := by decide +kernel
theorem dX6_open_42 : decode cX6_open 42 = .ok (.getfield 102, 3) := by decide +kernel
theorem dX6_open_45 : decode cX6_open 45 = .ok (.if_icmp .ge 24, 3) := by decide +kernel
theorem dX6_open_48 : decode cX6_open 48 = .ok (.aload_n 0, 1) := by decide +kernel
theorem dX6_open_49 : decode cX6_open 49 = .ok (.dup, 1) := by decide +kernel
theorem dX6_open_50 : decode cX6_open 50 = .ok (.getfield 117, 3) := by decide +kernel
theorem dX6_open_53 : decode cX6_open 53 = .ok (.aload_n 0, 1) := by decide +kernel
theorem dX6_open_54 : decode cX6_open 54 = .ok (.getfield 7, 3) := by decide +kernel
theorem dX6_open_57 : decode cX6_open 57 = .ok (.iload_n 2, 1) := by decide +kernel
theorem dX6_open_58 : decode cX6_open 58 = .ok (.iaload, 1) := by decide +kernel
theorem dX6_open_59 : decode cX6_open 59 = .ok (.iadd, 1) := by decide +kernel
theorem dX6_open_60 : decode cX6_open 60 = .ok (.putfield 117, 3) := by decide +kernel
theorem dX6_open_63 : decode cX6_open 63 = .ok (.iinc 2 1, 3) := by decide +kernel
theorem dX6_open_66 : decode cX6_open 66 = .ok (.goto (-26), 3) := by decide +kernel
theorem dX6_open_69 : decode cX6_open 69 = .ok (.aload_n 0, 1) := by decide +kernel
theorem dX6_open_70 : decode cX6_open 70 = .ok (.getfield 41, 3) := by decide +kernel
theorem dX6_open_73 : decode cX6_open 73 = .ok (.iconst 0, 1) := by decide +kernel
theorem dX6_open_74 : decode cX6_open 74 = .ok (.iload_n 1, 1) := by decide +kernel
theorem dX6_open_75 : decode cX6_open 75 = .ok (.iastore, 1) := by decide +kernel
theorem dX6_open_76 : decode cX6_open 76 = .ok (.aload_n 0, 1) := by decide +kernel
theorem dX6_open_77 : decode cX6_open 77 = .ok (.getfield 44, 3) := by decide +kernel
theorem dX6_open_80 : decode cX6_open 80 = .ok (.iconst 0, 1) := by decide +kernel
theorem dX6_open_81 : decode cX6_open 81 = .ok (.aload_n 0, 1) := by decide +kernel
theorem dX6_open_82 : decode cX6_open 82 = .ok (.getfield 117, 3) := by decide +kernel
theorem dX6_open_85 : decode cX6_open 85 = .ok (.iastore, 1) := by decide +kernel
theorem dX6_open_86 : decode cX6_open 86 = .ok (.aload_n 0, 1) := by decide +kernel
theorem dX6_open_87 : decode cX6_open 87 = .ok (.getfield 47, 3) := by decide +kernel
theorem dX6_open_90 : decode cX6_open 90 = .ok (.iconst 0, 1) := by decide +kernel
theorem dX6_open_91 : decode cX6_open 91 = .ok (.aload_n 0, 1) := by decide +kernel
theorem dX6_open_92 : decode cX6_open 92 = .ok (.getfield 117, 3) := by decide +kernel
theorem dX6_open_95 : decode cX6_open 95 = .ok (.iastore, 1) := by decide +kernel
theorem dX6_open_96 : decode cX6_open 96 = .ok (.aload_n 0, 1) := by decide +kernel
theorem dX6_open_97 : decode cX6_open 97 = .ok (.aload_n 0, 1) := by decide +kernel
theorem dX6_open_98 : decode cX6_open 98 = .ok (.getfield 117, 3) := by decide +kernel
theorem dX6_open_101 : decode cX6_open 101 = .ok (.putfield 120, 3) := by decide +kernel
theorem dX6_open_104 : decode cX6_open 104 = .ok (.iconst 0, 1) := by decide +kernel
theorem dX6_open_105 : decode cX6_open 105 = .ok (.istore_n 2, 1) := by decide +kernel
theorem dX6_open_106 : decode cX6_open 106 = .ok (.iload_n 2, 1) := by decide +kernel
theorem dX6_open_107 : decode cX6_open 107 = .ok (.aload_n 0, 1) := by decide +kernel
theorem dX6_open_108 : decode cX6_open 108 = .ok (.getfield 117, 3) := by decide +kernel
theorem dX6_open_111 : decode cX6_open 111 = .ok (.if_icmp .ge 23, 3) := by decide +kernel
theorem dX6_open_114 : decode cX6_open 114 = .ok (.aload_n 0, 1) := by decide +kernel
theorem dX6_open_115 : decode cX6_open 115 = .ok (.getfield 71, 3) := by decide +kernel
theorem dX6_open_118 : decode cX6_open 118 = .ok (.iload_n 2, 1) := by decide +kernel
theorem dX6_open_119 : decode cX6_open 119 = .ok (.iconst 0, 1) := by decide +kernel
theorem dX6_open_120 : decode cX6_open 120 = .ok (.iastore, 1) := by decide +kernel
theorem dX6_open_121 : decode cX6_open 121 = .ok (.aload_n 0, 1) := by decide +kernel
theorem dX6_open_122 : decode cX6_open 122 = .ok (.getfield 74, 3) := by decide +kernel
theorem dX6_open_125 : decode cX6_open 125 = .ok (.iload_n 2, 1) := by decide +kernel
theorem dX6_open_126 : decode cX6_open 126 = .ok (.iload_n 2, 1) := by decide +kernel
theorem dX6_open_127 : decode cX6_open 127 = .ok (.iastore, 1) := by decide +kernel
theorem dX6_open_128 : decode cX6_open 128 = .ok (.iinc 2 1, 3) := by decide +kernel
theorem dX6_open_131 : decode cX6_open 131 = .ok (.goto (-25), 3) := by decide +kernel
theorem dX6_open_134 : decode cX6_open 134 = .ok (.aload_n 0, 1) := by decide +kernel
theorem dX6_open_135 : decode cX6_open 135 = .ok (.getfield 117, 3) := by decide +kernel
theorem dX6_open_138 : decode cX6_open 138 = .ok (.ireturn, 1) := by decide +kernel
set_option maxRecDepth 20000 in
theorem ggX6_order_X6_isShipper : GoodIn wsX6_order wsX6_isShipper := goodIn_r _ [8, 9, 10, 7, 11] (by decide +kernel) (by decide +kernel)
set_option maxRecDepth 20000 in
theorem gX6_order_X6_isShipper : GoodIn wsX6_order (va_wsS RX6 123 yX6_isShipper wsX6_isShipper) := goodIn_app (goodIn_of _ (by decide +kernel)) ggX6_order_X6_isShipper
set_option maxRecDepth 20000 in
theorem ggX6_order_X6_isProduct : GoodIn wsX6_order wsX6_isProduct := goodIn_r _ [14, 9, 10, 7, 11] (by decide +kernel) (by decide +kernel)
set_option maxRecDepth 20000 in
theorem gX6_order_X6_isProduct : GoodIn wsX6_order (va_wsS RX6 113 yX6_isProduct wsX6_isProduct) := goodIn_app (goodIn_of _ (by decide +kernel)) ggX6_order_X6_isProduct
set_option maxRecDepth 20000 in
theorem ggX6_order_X6_isBetween : GoodIn wsX6_order wsX6_isBetween := goodIn_r _ [11] (by decide +kernel) (by decide +kernel)
set_option maxRecDepth 20000 in
theorem gX6_order_X6_isBetween : GoodIn wsX6_order (va_wsS RX6 98 yX6_isBetween wsX6_isBetween) := goodIn_app (goodIn_of _ (by decide +kernel)) ggX6_order_X6_isBetween
set_option maxRecDepth 20000 in
theorem ggX6_order_X6_goes : GoodIn wsX6_order wsX6_goes := goodIn_r _ [18, 19, 20, 21, 22, 23, 24, 25, 26, 27, 28, 29, 30, 31, 32, 33, 34, 35, 36, 37, 38, 39, 40, 41, 42, 43, 44, 45, 46, 47, 48, 49, 50, 51, 52, 53, 54, 55, 56, 57, 58, 59, 60, 61, 62, 63, 64] (by decide +kernel) (by decide +kernel)
set_option maxRecDepth 20000 in
theorem gX6_order_X6_goes : GoodIn wsX6_order (wsV RX6 109 RX6 yX6_goes wsX6_goes) := goodIn_app (goodIn_of _ (by decide +kernel)) ggX6_order_X6_goes
theorem dX6_order_0 : decode cX6_order 0 = .ok (.aload_n 0, 1) := by decide +kernel
theorem dX6_order_1 : decode cX6_order 1 = .ok (.iload_n 1, 1) := by decide +kernel
theorem dX6_order_2 : decode cX6_order 2 = .ok (.invokestatic 123, 3) := by decide +kernel
theorem dX6_order_5 : decode cX6_order 5 = .ok (.ifCond .eq 14, 3) := by decide +kernel
theorem dX6_order_8 : decode cX6_order 8 = .ok (.iload_n 2, 1) := by decide +kernel
theorem dX6_order_9 : decode cX6_order 9 = .ok (.invokestatic 113, 3) := by decide +kernel
theorem dX6_order_12 : decode cX6_order 12 = .ok (.ifCond .eq 7, 3) := by decide +kernel
theorem dX6_order_15 : decode cX6_order 15 = .ok (.iconst 1, 1) := by decide +kernel
theorem dX6_order_16 : decode cX6_order 16 = .ok (.goto 4, 3) := by decide +kernel
theorem dX6_order_19 : decode cX6_order 19 = .ok (.iconst 0, 1) := by decide +kernel
theorem dX6_order_20 : decode cX6_order 20 = .ok (.iload_n 3, 1) := by decide +kernel
theorem dX6_order_21 : decode cX6_order 21 = .ok (.iconst 1, 1) := by decide +kernel
theorem dX6_order_22 : decode cX6_order 22 = .ok (.sipush 200, 3) := by decide +kernel
theorem dX6_order_25 : decode cX6_order 25 = .ok (.invokestatic 98, 3) := by decide +kernel
theorem dX6_order_28 : decode cX6_order 28 = .ok (.aload_n 0, 1) := by decide +kernel
theorem dX6_order_29 : decode cX6_order 29 = .ok (.getfield 34, 3) := by decide +kernel
theorem dX6_order_32 : decode cX6_order 32 = .ok (.bipush 40, 2) := by decide +kernel
theorem dX6_order_34 : decode cX6_order 34 = .ok (.if_icmp .ge 7, 3) := by decide +kernel
theorem dX6_order_37 : decode cX6_order 37 = .ok (.iconst 1, 1) := by decide +kernel
theorem dX6_order_38 : decode cX6_order 38 = .ok (.goto 4, 3) := by decide +kernel
theorem dX6_order_41 : decode cX6_order 41 = .ok (.iconst 0, 1) := by decide +kernel
theorem dX6_order_42 : decode cX6_order 42 = .ok (.invokevirtual 109, 3) := by decide +kernel
theorem dX6_order_45 : decode cX6_order 45 = .ok (.ifCond .ne 5, 3) := by decide +kernel
theorem dX6_order_48 : decode cX6_order 48 = .ok (.iconst 0, 1) := by decide +kernel
theorem dX6_order_49 : decode cX6_order 49 = .ok (.ireturn, 1) := by decide +kernel
theorem dX6_order_50 : decode cX6_order 50 = .ok (.aload_n 0, 1) := by decide +kernel
theorem dX6_order_51 : decode cX6_order 51 = .ok (.getfield 38, 3) := by decide +kernel
theorem dX6_order_54 : decode cX6_order 54 = .ok (.aload_n 0, 1) := by decide +kernel
theorem dX6_order_55 : decode cX6_order 55 = .ok (.getfield 34, 3) := by decide +kernel
theorem dX6_order_58 : decode cX6_order 58 = .ok (.iload_n 1, 1) := by decide +kernel
theorem dX6_order_59 : decode cX6_order 59 = .ok (.iastore, 1) := by decide +kernel
theorem dX6_order_60 : decode cX6_order 60 = .ok (.aload_n 0, 1) := by decide +kernel
theorem dX6_order_61 : decode cX6_order 61 = .ok (.getfield 41, 3) := by decide +kernel
theorem dX6_order_64 : decode cX6_order 64 = .ok (.aload_n 0, 1) := by decide +kernel
theorem dX6_order_65 : decode cX6_order 65 = .ok (.getfield 34, 3) := by decide +kernel
theorem dX6_order_68 : decode cX6_order 68 = .ok (.iload_n 2, 1) := by decide +kernel
theorem dX6_order_69 : decode cX6_order 69 = .ok (.iastore, 1) := by decide +kernel
theorem dX6_order_70 : decode cX6_order 70 = .ok (.aload_n 0, 1) := by decide +kernel
theorem dX6_order_71 : decode cX6_order 71 = .ok (.getfield 44, 3) := by decide +kernel
theorem dX6_order_74 : decode cX6_order 74 = .ok (.aload_n 0, 1) := by decide +kernel
theorem dX6_order_75 : decode cX6_order 75 = .ok (.getfield 34, 3) := by decide +kernel
theorem dX6_order_78 : decode cX6_order 78 = .ok (.iload_n 3, 1) := by decide +kernel
theorem dX6_order_79 : decode cX6_order 79 = .ok (.iastore, 1) := by decide +kernel
theorem dX6_order_80 : decode cX6_order 80 = .ok (.aload_n 0, 1) := by decide +kernel
theorem dX6_order_81 : decode cX6_order 81 = .ok (.dup, 1) := by decide +kernel
theorem dX6_order_82 : decode cX6_order 82 = .ok (.getfield 34, 3) := by decide +kernel
theorem dX6_order_85 : decode cX6_order 85 = .ok (.iconst 1, 1) := by decide +kernel
theorem dX6_order_86 : decode cX6_order 86 = .ok (.iadd, 1) := by decide +kernel
theorem dX6_order_87 : decode cX6_order 87 = .ok (.putfield 34, 3) := by decide +kernel
theorem dX6_order_90 : decode cX6_order 90 = .ok (.aload_n 0, 1) := by decide +kernel
theorem dX6_order_91 : decode cX6_order 91 = .ok (.getfield 34, 3) := by decide +kernel
theorem dX6_order_94 : decode cX6_order 94 = .ok (.iconst 1, 1) := by decide +kernel
theorem dX6_order_95 : decode cX6_order 95 = .ok (.isub, 1) := by decide +kernel
theorem dX6_order_96 : decode cX6_order 96 = .ok (.ireturn, 1) := by decide +kernel
set_option maxRecDepth 20000 in
theorem ggX6_rate_X6_isBetween : GoodIn wsX6_rate wsX6_isBetween := goodIn_r _ [5] (by decide +kernel) (by decide +kernel)
set_option maxRecDepth 20000 in
theorem gX6_rate_X6_isBetween : GoodIn wsX6_rate (va_wsS RX6 98 yX6_isBetween wsX6_isBetween) := goodIn_app (goodIn_of _ (by decide +kernel)) ggX6_rate_X6_isBetween
set_option maxRecDepth 20000 in
theorem ggX6_rate_X6_goes : GoodIn wsX6_rate wsX6_goes := goodIn_r _ [9, 10, 11, 12, 13, 14, 15, 16, 17, 18, 19, 20, 21, 22, 23, 24, 25, 26, 27, 28, 29, 30, 31, 32, 33, 34, 35, 36, 37, 38, 39, 40, 41, 42, 43, 44, 45, 46, 47, 48, 49, 50, 51, 52, 53, 54, 55] (by decide +kernel) (by decide +kernel)
set_option maxRecDepth 20000 in
theorem gX6_rate_X6_goes : GoodIn wsX6_rate (wsV RX6 109 RX6 yX6_goes wsX6_goes) := goodIn_app (goodIn_of _ (by decide +kernel)) ggX6_rate_X6_goes
theorem dX6_rate_0 : decode cX6_rate 0 = .ok (.aload_n 0, 1) := by decide +kernel
theorem dX6_rate_1 : decode cX6_rate 1 = .ok (.iload_n 1, 1) := by decide +kernel
theorem dX6_rate_2 : decode cX6_rate 2 = .ok (.iconst 0, 1) := by decide +kernel
theorem dX6_rate_3 : decode cX6_rate 3 = .ok (.bipush 10, 2) := by decide +kernel
theorem dX6_rate_5 : decode cX6_rate 5 = .ok (.invokestatic 98, 3) := by decide +kernel
theorem dX6_rate_8 : decode cX6_rate 8 = .ok (.iconst 1, 1) := by decide +kernel
theorem dX6_rate_9 : decode cX6_rate 9 = .ok (.iconst 1, 1) := by decide +kernel
theorem dX6_rate_10 : decode cX6_rate 10 = .ok (.invokevirtual 109, 3) := by decide +kernel
theorem dX6_rate_13 : decode cX6_rate 13 = .ok (.ifCond .ne 5, 3) := by decide +kernel
theorem dX6_rate_16 : decode cX6_rate 16 = .ok (.iconst 0, 1) := by decide +kernel
theorem dX6_rate_17 : decode cX6_rate 17 = .ok (.ireturn, 1) := by decide +kernel
theorem dX6_rate_18 : decode cX6_rate 18 = .ok (.aload_n 0, 1) := by decide +kernel
theorem dX6_rate_19 : decode cX6_rate 19 = .ok (.getfield 126, 3) := by decide +kernel
theorem dX6_rate_22 : decode cX6_rate 22 = .ok (.istore_n 2, 1) := by decide +kernel
theorem dX6_rate_23 : decode cX6_rate 23 = .ok (.aload_n 0, 1) := by decide +kernel
theorem dX6_rate_24 : decode cX6_rate 24 = .ok (.iload_n 1, 1) := by decide +kernel
theorem dX6_rate_25 : decode cX6_rate 25 = .ok (.putfield 126, 3) := by decide +kernel
theorem dX6_rate_28 : decode cX6_rate 28 = .ok (.iload_n 2, 1) := by decide +kernel
theorem dX6_rate_29 : decode cX6_rate 29 = .ok (.ireturn, 1) := by decide +kernel
set_option maxRecDepth 20000 in
theorem ggX6_drop_X6_isPlace : GoodIn wsX6_drop wsX6_isPlace := goodIn_r _ [8, 9, 10, 11, 7, 12, 21, 22, 23, 24, 25, 26, 27, 28, 29, 30, 31, 32, 33, 34, 35, 36, 37, 38, 39, 40, 41, 42, 43, 44, 45, 46, 47, 48, 49, 50, 51, 52, 53, 54, 55, 56, 57, 58, 59, 60, 61, 62, 63, 64, 65] (by decide +kernel) (by decide +kernel)
set_option maxRecDepth 20000 in
theorem gX6_drop_X6_isPlace : GoodIn wsX6_drop (wsV RX6 129 RX6 yX6_isPlace wsX6_isPlace) := goodIn_app (goodIn_of _ (by decide +kernel)) ggX6_drop_X6_isPlace
set_option maxRecDepth 20000 in
theorem ggX6_drop_X6_isTank : GoodIn wsX6_drop wsX6_isTank := goodIn_r _ [15, 10, 11, 7, 12] (by decide +kernel) (by decide +kernel)
set_option maxRecDepth 20000 in
theorem gX6_drop_X6_isTank : GoodIn wsX6_drop (va_wsS RX6 132 yX6_isTank wsX6_isTank) := goodIn_app (goodIn_of _ (by decide +kernel)) ggX6_drop_X6_isTank
set_option maxRecDepth 20000 in
theorem ggX6_drop_X6_isBetween : GoodIn wsX6_drop wsX6_isBetween := goodIn_r _ [12] (by decide +kernel) (by decide +kernel)
set_option maxRecDepth 20000 in
theorem gX6_drop_X6_isBetween : GoodIn wsX6_drop (va_wsS RX6 98 yX6_isBetween wsX6_isBetween) := goodIn_app (goodIn_of _ (by decide +kernel)) ggX6_drop_X6_isBetween
set_option maxRecDepth 20000 in
theorem ggX6_drop_X6_goes : GoodIn wsX6_drop wsX6_goes := goodIn_r _ [19, 20, 21, 22, 23, 24, 25, 26, 27, 28, 29, 30, 31, 32, 33, 34, 35, 36, 37, 38, 39, 40, 41, 42, 43, 44, 45, 46, 47, 48, 49, 50, 51, 52, 53, 54, 55, 56, 57, 58, 59, 60, 61, 62, 63, 64, 65] (by decide +kernel) (by decide +kernel)
set_option maxRecDepth 20000 in
theorem gX6_drop_X6_goes : GoodIn wsX6_drop (wsV RX6 109 RX6 yX6_goes wsX6_goes) := goodIn_app (goodIn_of _ (by decide +kernel)) ggX6_drop_X6_goes
theorem dX6_drop_0 : decode cX6_drop 0 = .ok (.aload_n 0, 1) := by decide +kernel
theorem dX6_drop_1 : decode cX6_drop 1 = .ok (.aload_n 0, 1) := by decide +kernel
theorem dX6_drop_2 : decode cX6_drop 2 = .ok (.iload_n 1, 1) := by decide +kernel
theorem dX6_drop_3 : decode cX6_drop 3 = .ok (.invokevirtual 129, 3) := by decide +kernel
theorem dX6_drop_6 : decode cX6_drop 6 = .ok (.ifCond .eq 14, 3) := by decide +kernel
theorem dX6_drop_9 : decode cX6_drop 9 = .ok (.iload_n 3, 1) := by decide +kernel
theorem dX6_drop_10 : decode cX6_drop 10 = .ok (.invokestatic 132, 3) := by decide +kernel
theorem dX6_drop_13 : decode cX6_drop 13 = .ok (.ifCond .eq 7, 3) := by decide +kernel
theorem dX6_drop_16 : decode cX6_drop 16 = .ok (.iconst 1, 1) := by decide +kernel
theorem dX6_drop_17 : decode cX6_drop 17 = .ok (.goto 4, 3) := by decide +kernel
theorem dX6_drop_20 : decode cX6_drop 20 = .ok (.iconst 0, 1) := by decide +kernel
theorem dX6_drop_21 : decode cX6_drop 21 = .ok (.iload_n 2, 1) := by decide +kernel
theorem dX6_drop_22 : decode cX6_drop 22 = .ok (.iconst 1, 1) := by decide +kernel
theorem dX6_drop_23 : decode cX6_drop 23 = .ok (.bipush 10, 2) := by decide +kernel
theorem dX6_drop_25 : decode cX6_drop 25 = .ok (.invokestatic 98, 3) := by decide +kernel
theorem dX6_drop_28 : decode cX6_drop 28 = .ok (.iconst 1, 1) := by decide +kernel
theorem dX6_drop_29 : decode cX6_drop 29 = .ok (.invokevirtual 109, 3) := by decide +kernel
theorem dX6_drop_32 : decode cX6_drop 32 = .ok (.ifCond .ne 4, 3) := by decide +kernel
theorem dX6_drop_35 : decode cX6_drop 35 = .ok (.return_, 1) := by decide +kernel
theorem dX6_drop_36 : decode cX6_drop 36 = .ok (.aload_n 0, 1) := by decide +kernel
theorem dX6_drop_37 : decode cX6_drop 37 = .ok (.iload_n 1, 1) := by decide +kernel
theorem dX6_drop_38 : decode cX6_drop 38 = .ok (.putfield 77, 3) := by decide +kernel
theorem dX6_drop_41 : decode cX6_drop 41 = .ok (.aload_n 0, 1) := by decide +kernel
theorem dX6_drop_42 : decode cX6_drop 42 = .ok (.iload_n 2, 1) := by decide +kernel
theorem dX6_drop_43 : decode cX6_drop 43 = .ok (.putfield 135, 3) := by decide +kernel
theorem dX6_drop_46 : decode cX6_drop 46 = .ok (.aload_n 0, 1) := by decide +kernel
theorem dX6_drop_47 : decode cX6_drop 47 = .ok (.iload_n 3, 1) := by decide +kernel
theorem dX6_drop_48 : decode cX6_drop 48 = .ok (.putfield 138, 3) := by decide +kernel
theorem dX6_drop_51 : decode cX6_drop 51 = .ok (.return_, 1) := by decide +kernel
set_option maxRecDepth 20000 in
theorem ggX6_leak_X6_isPlace : GoodIn wsX6_leak wsX6_isPlace := goodIn_r _ [7, 8, 9, 10, 6, 11, 17, 18, 19, 20, 21, 22, 23, 24, 25, 26, 27, 28, 29, 30, 31, 32, 33, 34, 35, 36, 37, 38, 39, 40, 41, 42, 43, 44, 45, 46, 47, 48, 49, 50, 51, 52, 53, 54, 55, 56, 57, 58, 59, 60, 61] (by decide +kernel) (by decide +kernel)
set_option maxRecDepth 20000 in
theorem gX6_leak_X6_isPlace : GoodIn wsX6_leak (wsV RX6 129 RX6 yX6_isPlace wsX6_isPlace) := goodIn_app (goodIn_of _ (by decide +kernel)) ggX6_leak_X6_isPlace
set_option maxRecDepth 20000 in
theorem ggX6_leak_X6_isBetween : GoodIn wsX6_leak wsX6_isBetween := goodIn_r _ [11] (by decide +kernel) (by decide +kernel)
set_option maxRecDepth 20000 in
theorem gX6_leak_X6_isBetween : GoodIn wsX6_leak (va_wsS RX6 98 yX6_isBetween wsX6_isBetween) := goodIn_app (goodIn_of _ (by decide +kernel)) ggX6_leak_X6_isBetween
set_option maxRecDepth 20000 in
theorem ggX6_leak_X6_goes : GoodIn wsX6_leak wsX6_goes := goodIn_r _ [15, 16, 17, 18, 19, 20, 21, 22, 23, 24, 25, 26, 27, 28, 29, 30, 31, 32, 33, 34, 35, 36, 37, 38, 39, 40, 41, 42, 43, 44, 45, 46, 47, 48, 49, 50, 51, 52, 53, 54, 55, 56, 57, 58, 59, 60, 61] (by decide +kernel) (by decide +kernel)
set_option maxRecDepth 20000 in
theorem gX6_leak_X6_goes : GoodIn wsX6_leak (wsV RX6 109 RX6 yX6_goes wsX6_goes) := goodIn_app (goodIn_of _ (by decide +kernel)) ggX6_leak_X6_goes
theorem dX6_leak_0 : decode cX6_leak 0 = .ok (.aload_n 0, 1) := by decide +kernel
theorem dX6_leak_1 : decode cX6_leak 1 = .ok (.aload_n 0, 1) := by decide +kernel
theorem dX6_leak_2 : decode cX6_leak 2 = .ok (.iload_n 1, 1) := by decide +kernel
theorem dX6_leak_3 : decode cX6_leak 3 = .ok (.invokevirtual 129, 3) := by decide +kernel
theorem dX6_leak_6 : decode cX6_leak 6 = .ok (.iload_n 2, 1) := by decide +kernel
theorem dX6_leak_7 : decode cX6_leak 7 = .ok (.iconst 1, 1) := by decide +kernel
theorem dX6_leak_8 : decode cX6_leak 8 = .ok (.bipush 10, 2) := by decide +kernel
theorem dX6_leak_10 : decode cX6_leak 10 = .ok (.invokestatic 98, 3) := by decide +kernel
theorem dX6_leak_13 : decode cX6_leak 13 = .ok (.iconst 1, 1) := by decide +kernel
theorem dX6_leak_14 : decode cX6_leak 14 = .ok (.invokevirtual 109, 3) := by decide +kernel
theorem dX6_leak_17 : decode cX6_leak 17 = .ok (.ifCond .ne 4, 3) := by decide +kernel
theorem dX6_leak_20 : decode cX6_leak 20 = .ok (.return_, 1) := by decide +kernel
theorem dX6_leak_21 : decode cX6_leak 21 = .ok (.aload_n 0, 1) := by decide +kernel
theorem dX6_leak_22 : decode cX6_leak 22 = .ok (.iload_n 1, 1) := by decide +kernel
theorem dX6_leak_23 : decode cX6_leak 23 = .ok (.putfield 80, 3) := by decide +kernel
theorem dX6_leak_26 : decode cX6_leak 26 = .ok (.aload_n 0, 1) := by decide +kernel
theorem dX6_leak_27 : decode cX6_leak 27 = .ok (.iload_n 2, 1) := by decide +kernel
theorem dX6_leak_28 : decode cX6_leak 28 = .ok (.putfield 141, 3) := by decide +kernel
theorem dX6_leak_31 : decode cX6_leak 31 = .ok (.return_, 1) := by decide +kernel
set_option maxRecDepth 20000 in
theorem ggX6_receive_X6_isTank : GoodIn wsX6_receive wsX6_isTank := goodIn_r _ [5, 6, 7, 4, 8] (by decide +kernel) (by decide +kernel)
set_option maxRecDepth 20000 in
theorem gX6_receive_X6_isTank : GoodIn wsX6_receive (va_wsS RX6 132 yX6_isTank wsX6_isTank) := goodIn_app (goodIn_of _ (by decide +kernel)) ggX6_receive_X6_isTank
set_option maxRecDepth 20000 in
theorem ggX6_receive_X6_goes : GoodIn wsX6_receive wsX6_goes := goodIn_r _ [12, 13, 14, 15, 16, 17, 18, 19, 20, 21, 22, 23, 24, 25, 26, 27, 28, 29, 30, 31, 32, 33, 34, 35, 36, 37, 38, 39, 40, 41, 42, 43, 44, 45, 46, 47, 48, 49, 50, 51, 52, 53, 54, 55, 56, 57, 58] (by decide +kernel) (by decide +kernel)
set_option maxRecDepth 20000 in
theorem gX6_receive_X6_goes : GoodIn wsX6_receive (wsV RX6 109 RX6 yX6_goes wsX6_goes) := goodIn_app (goodIn_of _ (by decide +kernel)) ggX6_receive_X6_goes
theorem dX6_receive_0 : decode cX6_receive 0 = .ok (.aload_n 0, 1) := by decide +kernel
theorem dX6_receive_1 : decode cX6_receive 1 = .ok (.iload_n 1, 1) := by decide +kernel
theorem dX6_receive_2 : decode cX6_receive 2 = .ok (.invokestatic 132, 3) := by decide +kernel
theorem dX6_receive_5 : decode cX6_receive 5 = .ok (.iconst 1, 1) := by decide +kernel
theorem dX6_receive_6 : decode cX6_receive 6 = .ok (.iconst 1, 1) := by decide +kernel
theorem dX6_receive_7 : decode cX6_receive 7 = .ok (.invokevirtual 109, 3) := by decide +kernel
theorem dX6_receive_10 : decode cX6_receive 10 = .ok (.ifCond .ne 5, 3) := by decide +kernel
theorem dX6_receive_13 : decode cX6_receive 13 = .ok (.iconst 0, 1) := by decide +kernel
theorem dX6_receive_14 : decode cX6_receive 14 = .ok (.ireturn, 1) := by decide +kernel
theorem dX6_receive_15 : decode cX6_receive 15 = .ok (.aload_n 0, 1) := by decide +kernel
theorem dX6_receive_16 : decode cX6_receive 16 = .ok (.getfield 144, 3) := by decide +kernel
theorem dX6_receive_19 : decode cX6_receive 19 = .ok (.istore_n 2, 1) := by decide +kernel
theorem dX6_receive_20 : decode cX6_receive 20 = .ok (.aload_n 0, 1) := by decide +kernel
theorem dX6_receive_21 : decode cX6_receive 21 = .ok (.iload_n 1, 1) := by decide +kernel
theorem dX6_receive_22 : decode cX6_receive 22 = .ok (.putfield 144, 3) := by decide +kernel
theorem dX6_receive_25 : decode cX6_receive 25 = .ok (.iload_n 2, 1) := by decide +kernel
theorem dX6_receive_26 : decode cX6_receive 26 = .ok (.ireturn, 1) := by decide +kernel
set_option maxRecDepth 20000 in
theorem ggX6_empty_X6_isTank : GoodIn wsX6_empty wsX6_isTank := goodIn_r _ [7, 8, 9, 6, 10] (by decide +kernel) (by decide +kernel)
set_option maxRecDepth 20000 in
theorem gX6_empty_X6_isTank : GoodIn wsX6_empty (va_wsS RX6 132 yX6_isTank wsX6_isTank) := goodIn_app (goodIn_of _ (by decide +kernel)) ggX6_empty_X6_isTank
set_option maxRecDepth 20000 in
theorem ggX6_empty_X6_goes : GoodIn wsX6_empty wsX6_goes := goodIn_r _ [14, 15, 16, 17, 18, 19, 20, 21, 22, 23, 24, 25, 26, 27, 28, 29, 30, 31, 32, 33, 34, 35, 36, 37, 38, 39, 40, 41, 42, 43, 44, 45, 46, 47, 48, 49, 50, 51, 52, 53, 54, 55, 56, 57, 58, 59, 60] (by decide +kernel) (by decide +kernel)
set_option maxRecDepth 20000 in
theorem gX6_empty_X6_goes : GoodIn wsX6_empty (wsV RX6 109 RX6 yX6_goes wsX6_goes) := goodIn_app (goodIn_of _ (by decide +kernel)) ggX6_empty_X6_goes
theorem dX6_empty_0 : decode cX6_empty 0 = .ok (.aload_n 0, 1) := by decide +kernel
theorem dX6_empty_1 : decode cX6_empty 1 = .ok (.iload_n 1, 1) := by decide +kernel
theorem dX6_empty_2 : decode cX6_empty 2 = .ok (.invokestatic 132, 3) := by decide +kernel
theorem dX6_empty_5 : decode cX6_empty 5 = .ok (.iconst 1, 1) := by decide +kernel
theorem dX6_empty_6 : decode cX6_empty 6 = .ok (.iconst 1, 1) := by decide +kernel
theorem dX6_empty_7 : decode cX6_empty 7 = .ok (.invokevirtual 109, 3) := by decide +kernel
theorem dX6_empty_10 : decode cX6_empty 10 = .ok (.ifCond .ne 5, 3) := by decide +kernel
theorem dX6_empty_13 : decode cX6_empty 13 = .ok (.iconst 0, 1) := by decide +kernel
theorem dX6_empty_14 : decode cX6_empty 14 = .ok (.ireturn, 1) := by decide +kernel
theorem dX6_empty_15 : decode cX6_empty 15 = .ok (.aload_n 0, 1) := by decide +kernel
theorem dX6_empty_16 : decode cX6_empty 16 = .ok (.getfield 83, 3) := by decide +kernel
theorem dX6_empty_19 : decode cX6_empty 19 = .ok (.iload_n 1, 1) := by decide +kernel
theorem dX6_empty_20 : decode cX6_empty 20 = .ok (.iaload, 1) := by decide +kernel
theorem dX6_empty_21 : decode cX6_empty 21 = .ok (.istore_n 2, 1) := by decide +kernel
theorem dX6_empty_22 : decode cX6_empty 22 = .ok (.aload_n 0, 1) := by decide +kernel
theorem dX6_empty_23 : decode cX6_empty 23 = .ok (.getfield 83, 3) := by decide +kernel
theorem dX6_empty_26 : decode cX6_empty 26 = .ok (.iload_n 1, 1) := by decide +kernel
theorem dX6_empty_27 : decode cX6_empty 27 = .ok (.iconst 0, 1) := by decide +kernel
theorem dX6_empty_28 : decode cX6_empty 28 = .ok (.iastore, 1) := by decide +kernel
theorem dX6_empty_29 : decode cX6_empty 29 = .ok (.aload_n 0, 1) := by decide +kernel
theorem dX6_empty_30 : decode cX6_empty 30 = .ok (.getfield 89, 3) := by decide +kernel
theorem dX6_empty_33 : decode cX6_empty 33 = .ok (.iload_n 1, 1) := by decide +kernel
theorem dX6_empty_34 : decode cX6_empty 34 = .ok (.iconst 0, 1) := by decide +kernel
theorem dX6_empty_35 : decode cX6_empty 35 = .ok (.iastore, 1) := by decide +kernel
theorem dX6_empty_36 : decode cX6_empty 36 = .ok (.aload_n 0, 1) := by decide +kernel
theorem dX6_empty_37 : decode cX6_empty 37 = .ok (.getfield 86, 3) := by decide +kernel
theorem dX6_empty_40 : decode cX6_empty 40 = .ok (.iload_n 1, 1) := by decide +kernel
theorem dX6_empty_41 : decode cX6_empty 41 = .ok (.iconst 0, 1) := by decide +kernel
theorem dX6_empty_42 : decode cX6_empty 42 = .ok (.iastore, 1) := by decide +kernel
theorem dX6_empty_43 : decode cX6_empty 43 = .ok (.iload_n 2, 1) := by decide +kernel
theorem dX6_empty_44 : decode cX6_empty 44 = .ok (.ireturn, 1) := by decide +kernel
set_option maxRecDepth 20000 in
theorem ggX6_launch_X6_goes : GoodIn wsX6_launch wsX6_goes := goodIn_r _ [12, 13, 14, 15, 16, 17, 18, 19, 20, 21, 22, 23, 24, 25, 26, 27, 28, 29, 30, 31, 32, 33, 34, 35, 36, 37, 38, 39, 40, 41, 42, 43, 44, 45, 46, 47, 48, 49, 50, 51, 52, 53, 54, 55, 56, 57, 58] (by decide +kernel) (by decide +kernel)
set_option maxRecDepth 20000 in
theorem gX6_launch_X6_goes : GoodIn wsX6_launch (wsV RX6 109 RX6 yX6_goes wsX6_goes) := goodIn_app (goodIn_of _ (by decide +kernel)) ggX6_launch_X6_goes
theorem dX6_launch_0 : decode cX6_launch 0 = .ok (.aload_n 0, 1) := by decide +kernel
theorem dX6_launch_1 : decode cX6_launch 1 = .ok (.aload_n 0, 1) := by decide +kernel
theorem dX6_launch_2 : decode cX6_launch 2 = .ok (.getfield 105, 3) := by decide +kernel
theorem dX6_launch_5 : decode cX6_launch 5 = .ok (.ifCond .eq 14, 3) := by decide +kernel
theorem dX6_launch_8 : decode cX6_launch 8 = .ok (.aload_n 0, 1) := by decide +kernel
theorem dX6_launch_9 : decode cX6_launch 9 = .ok (.getfield 147, 3) := by decide +kernel
theorem dX6_launch_12 : decode cX6_launch 12 = .ok (.ifCond .ne 7, 3) := by decide +kernel
theorem dX6_launch_15 : decode cX6_launch 15 = .ok (.iconst 1, 1) := by decide +kernel
theorem dX6_launch_16 : decode cX6_launch 16 = .ok (.goto 4, 3) := by decide +kernel
theorem dX6_launch_19 : decode cX6_launch 19 = .ok (.iconst 0, 1) := by decide +kernel
theorem dX6_launch_20 : decode cX6_launch 20 = .ok (.iconst 1, 1) := by decide +kernel
theorem dX6_launch_21 : decode cX6_launch 21 = .ok (.iconst 1, 1) := by decide +kernel
theorem dX6_launch_22 : decode cX6_launch 22 = .ok (.invokevirtual 109, 3) := by decide +kernel
theorem dX6_launch_25 : decode cX6_launch 25 = .ok (.ifCond .ne 4, 3) := by decide +kernel
theorem dX6_launch_28 : decode cX6_launch 28 = .ok (.return_, 1) := by decide +kernel
theorem dX6_launch_29 : decode cX6_launch 29 = .ok (.aload_n 0, 1) := by decide +kernel
theorem dX6_launch_30 : decode cX6_launch 30 = .ok (.iconst 1, 1) := by decide +kernel
theorem dX6_launch_31 : decode cX6_launch 31 = .ok (.putfield 147, 3) := by decide +kernel
theorem dX6_launch_34 : decode cX6_launch 34 = .ok (.aload_n 0, 1) := by decide +kernel
theorem dX6_launch_35 : decode cX6_launch 35 = .ok (.aload_n 0, 1) := by decide +kernel
theorem dX6_launch_36 : decode cX6_launch 36 = .ok (.getfield 71, 3) := by decide +kernel
theorem dX6_launch_39 : decode cX6_launch 39 = .ok (.aload_n 0, 1) := by decide +kernel
theorem dX6_launch_40 : decode cX6_launch 40 = .ok (.getfield 117, 3) := by decide +kernel
theorem dX6_launch_43 : decode cX6_launch 43 = .ok (.iconst 1, 1) := by decide +kernel
theorem dX6_launch_44 : decode cX6_launch 44 = .ok (.isub, 1) := by decide +kernel
theorem dX6_launch_45 : decode cX6_launch 45 = .ok (.iaload, 1) := by decide +kernel
theorem dX6_launch_46 : decode cX6_launch 46 = .ok (.putfield 150, 3) := by decide +kernel
theorem dX6_launch_49 : decode cX6_launch 49 = .ok (.aload_n 0, 1) := by decide +kernel
theorem dX6_launch_50 : decode cX6_launch 50 = .ok (.aload_n 0, 1) := by decide +kernel
theorem dX6_launch_51 : decode cX6_launch 51 = .ok (.getfield 74, 3) := by decide +kernel
theorem dX6_launch_54 : decode cX6_launch 54 = .ok (.aload_n 0, 1) := by decide +kernel
theorem dX6_launch_55 : decode cX6_launch 55 = .ok (.getfield 117, 3) := by decide +kernel
theorem dX6_launch_58 : decode cX6_launch 58 = .ok (.iconst 1, 1) := by decide +kernel
theorem dX6_launch_59 : decode cX6_launch 59 = .ok (.isub, 1) := by decide +kernel
theorem dX6_launch_60 : decode cX6_launch 60 = .ok (.iaload, 1) := by decide +kernel
theorem dX6_launch_61 : decode cX6_launch 61 = .ok (.putfield 153, 3) := by decide +kernel
theorem dX6_launch_64 : decode cX6_launch 64 = .ok (.return_, 1) := by decide +kernel
theorem dX6_lastOf_0 : decode cX6_lastOf 0 = .ok (.iconst 0, 1) := by decide +kernel
theorem dX6_lastOf_1 : decode cX6_lastOf 1 = .ok (.istore_n 2, 1) := by decide +kernel
theorem dX6_lastOf_2 : decode cX6_lastOf 2 = .ok (.iload_n 1, 1) := by decide +kernel
theorem dX6_lastOf_3 : decode cX6_lastOf 3 = .ok (.iconst 1, 1) := by decide +kernel
theorem dX6_lastOf_4 : decode cX6_lastOf 4 = .ok (.iadd, 1) := by decide +kernel
theorem dX6_lastOf_5 : decode cX6_lastOf 5 = .ok (.istore_n 3, 1) := by decide +kernel
theorem dX6_lastOf_6 : decode cX6_lastOf 6 = .ok (.iload_n 3, 1) := by decide +kernel
theorem dX6_lastOf_7 : decode cX6_lastOf 7 = .ok (.aload_n 0, 1) := by decide +kernel
theorem dX6_lastOf_8 : decode cX6_lastOf 8 = .ok (.getfield 102, 3) := by decide +kernel
theorem dX6_lastOf_11 : decode cX6_lastOf 11 = .ok (.if_icmp .ge 18, 3) := by decide +kernel
theorem dX6_lastOf_14 : decode cX6_lastOf 14 = .ok (.iload_n 2, 1) := by decide +kernel
theorem dX6_lastOf_15 : decode cX6_lastOf 15 = .ok (.aload_n 0, 1) := by decide +kernel
theorem dX6_lastOf_16 : decode cX6_lastOf 16 = .ok (.getfield 7, 3) := by decide +kernel
theorem dX6_lastOf_19 : decode cX6_lastOf 19 = .ok (.iload_n 3, 1) := by decide +kernel
theorem dX6_lastOf_20 : decode cX6_lastOf 20 = .ok (.iaload, 1) := by decide +kernel
theorem dX6_lastOf_21 : decode cX6_lastOf 21 = .ok (.iadd, 1) := by decide +kernel
theorem dX6_lastOf_22 : decode cX6_lastOf 22 = .ok (.istore_n 2, 1) := by decide +kernel
theorem dX6_lastOf_23 : decode cX6_lastOf 23 = .ok (.iinc 3 1, 3) := by decide +kernel
theorem dX6_lastOf_26 : decode cX6_lastOf 26 = .ok (.goto (-20), 3) := by decide +kernel
theorem dX6_lastOf_29 : decode cX6_lastOf 29 = .ok (.iload_n 2, 1) := by decide +kernel
theorem dX6_lastOf_30 : decode cX6_lastOf 30 = .ok (.ireturn, 1) := by decide +kernel
set_option maxRecDepth 20000 in
theorem ggX6_pressureOf_X6_lastOf : GoodIn wsX6_pressureOf wsX6_lastOf := goodIn_r _ [13, 1, 2, 14, 15, 16, 17, 18, 19, 20, 21, 22, 23, 24, 25, 26, 27, 28, 29, 30, 31, 32, 33, 34, 35, 36, 37, 38, 39, 40, 41, 42, 43, 44, 45, 46, 47, 48, 49, 50, 51, 52, 53, 54, 55, 56, 57, 58] (by decide +kernel) (by decide +kernel)
set_option maxRecDepth 20000 in
theorem gX6_pressureOf_X6_lastOf : GoodIn wsX6_pressureOf (wsV RX6 156 RX6 yX6_lastOf wsX6_lastOf) := goodIn_app (goodIn_of _ (by decide +kernel)) ggX6_pressureOf_X6_lastOf
theorem dX6_pressureOf_0 : decode cX6_pressureOf 0 = .ok (.iconst 0, 1) := by decide +kernel
theorem dX6_pressureOf_1 : decode cX6_pressureOf 1 = .ok (.istore_n 3, 1) := by decide +kernel
theorem dX6_pressureOf_2 : decode cX6_pressureOf 2 = .ok (.iload_n 1, 1) := by decide +kernel
theorem dX6_pressureOf_3 : decode cX6_pressureOf 3 = .ok (.istore 4, 2) := by decide +kernel
theorem dX6_pressureOf_5 : decode cX6_pressureOf 5 = .ok (.iload 4, 2) := by decide +kernel
theorem dX6_pressureOf_7 : decode cX6_pressureOf 7 = .ok (.aload_n 0, 1) := by decide +kernel
theorem dX6_pressureOf_8 : decode cX6_pressureOf 8 = .ok (.getfield 102, 3) := by decide +kernel
theorem dX6_pressureOf_11 : decode cX6_pressureOf 11 = .ok (.if_icmp .ge 88, 3) := by decide +kernel
theorem dX6_pressureOf_14 : decode cX6_pressureOf 14 = .ok (.aload_n 0, 1) := by decide +kernel
theorem dX6_pressureOf_15 : decode cX6_pressureOf 15 = .ok (.iload 4, 2) := by decide +kernel
theorem dX6_pressureOf_17 : decode cX6_pressureOf 17 = .ok (.invokevirtual 156, 3) := by decide +kernel
theorem dX6_pressureOf_20 : decode cX6_pressureOf 20 = .ok (.istore 5, 2) := by decide +kernel
theorem dX6_pressureOf_22 : decode cX6_pressureOf 22 = .ok (.iconst 0, 1) := by decide +kernel
theorem dX6_pressureOf_23 : decode cX6_pressureOf 23 = .ok (.istore 6, 2) := by decide +kernel
theorem dX6_pressureOf_25 : decode cX6_pressureOf 25 = .ok (.iload 5, 2) := by decide +kernel
theorem dX6_pressureOf_27 : decode cX6_pressureOf 27 = .ok (.istore 7, 2) := by decide +kernel
theorem dX6_pressureOf_29 : decode cX6_pressureOf 29 = .ok (.iload 7, 2) := by decide +kernel
theorem dX6_pressureOf_31 : decode cX6_pressureOf 31 = .ok (.iload 5, 2) := by decide +kernel
theorem dX6_pressureOf_33 : decode cX6_pressureOf 33 = .ok (.aload_n 0, 1) := by decide +kernel
theorem dX6_pressureOf_34 : decode cX6_pressureOf 34 = .ok (.getfield 7, 3) := by decide +kernel
theorem dX6_pressureOf_37 : decode cX6_pressureOf 37 = .ok (.iload 4, 2) := by decide +kernel
theorem dX6_pressureOf_39 : decode cX6_pressureOf 39 = .ok (.iaload, 1) := by decide +kernel
theorem dX6_pressureOf_40 : decode cX6_pressureOf 40 = .ok (.iadd, 1) := by decide +kernel
theorem dX6_pressureOf_41 : decode cX6_pressureOf 41 = .ok (.if_icmp .ge 31, 3) := by decide +kernel
theorem dX6_pressureOf_44 : decode cX6_pressureOf 44 = .ok (.iload 6, 2) := by decide +kernel
theorem dX6_pressureOf_46 : decode cX6_pressureOf 46 = .ok (.aload_n 0, 1) := by decide +kernel
theorem dX6_pressureOf_47 : decode cX6_pressureOf 47 = .ok (.getfield 25, 3) := by decide +kernel
theorem dX6_pressureOf_50 : decode cX6_pressureOf 50 = .ok (.aload_n 0, 1) := by decide +kernel
theorem dX6_pressureOf_51 : decode cX6_pressureOf 51 = .ok (.getfield 41, 3) := by decide +kernel
theorem dX6_pressureOf_54 : decode cX6_pressureOf 54 = .ok (.aload_n 0, 1) := by decide +kernel
theorem dX6_pressureOf_55 : decode cX6_pressureOf 55 = .ok (.getfield 71, 3) := by decide +kernel
theorem dX6_pressureOf_58 : decode cX6_pressureOf 58 = .ok (.iload 7, 2) := by decide +kernel
theorem dX6_pressureOf_60 : decode cX6_pressureOf 60 = .ok (.iaload, 1) := by decide +kernel
theorem dX6_pressureOf_61 : decode cX6_pressureOf 61 = .ok (.iaload, 1) := by decide +kernel
theorem dX6_pressureOf_62 : decode cX6_pressureOf 62 = .ok (.iaload, 1) := by decide +kernel
theorem dX6_pressureOf_63 : decode cX6_pressureOf 63 = .ok (.iadd, 1) := by decide +kernel
theorem dX6_pressureOf_64 : decode cX6_pressureOf 64 = .ok (.istore 6, 2) := by decide +kernel
theorem dX6_pressureOf_66 : decode cX6_pressureOf 66 = .ok (.iinc 7 1, 3) := by decide +kernel
theorem dX6_pressureOf_69 : decode cX6_pressureOf 69 = .ok (.goto (-40), 3) := by decide +kernel
theorem dX6_pressureOf_72 : decode cX6_pressureOf 72 = .ok (.iload_n 3, 1) := by decide +kernel
theorem dX6_pressureOf_73 : decode cX6_pressureOf 73 = .ok (.iload_n 2, 1) := by decide +kernel
theorem dX6_pressureOf_74 : decode cX6_pressureOf 74 = .ok (.iload 6, 2) := by decide +kernel
theorem dX6_pressureOf_76 : decode cX6_pressureOf 76 = .ok (.aload_n 0, 1) := by decide +kernel
theorem dX6_pressureOf_77 : decode cX6_pressureOf 77 = .ok (.getfield 19, 3) := by decide +kernel
theorem dX6_pressureOf_80 : decode cX6_pressureOf 80 = .ok (.iload 4, 2) := by decide +kernel
theorem dX6_pressureOf_82 : decode cX6_pressureOf 82 = .ok (.iaload, 1) := by decide +kernel
theorem dX6_pressureOf_83 : decode cX6_pressureOf 83 = .ok (.iadd, 1) := by decide +kernel
theorem dX6_pressureOf_84 : decode cX6_pressureOf 84 = .ok (.imul, 1) := by decide +kernel
theorem dX6_pressureOf_85 : decode cX6_pressureOf 85 = .ok (.bipush 99, 2) := by decide +kernel
theorem dX6_pressureOf_87 : decode cX6_pressureOf 87 = .ok (.iadd, 1) := by decide +kernel
theorem dX6_pressureOf_88 : decode cX6_pressureOf 88 = .ok (.bipush 100, 2) := by decide +kernel
theorem dX6_pressureOf_90 : decode cX6_pressureOf 90 = .ok (.idiv, 1) := by decide +kernel
theorem dX6_pressureOf_91 : decode cX6_pressureOf 91 = .ok (.iadd, 1) := by decide +kernel
theorem dX6_pressureOf_92 : decode cX6_pressureOf 92 = .ok (.istore_n 3, 1) := by decide +kernel
theorem dX6_pressureOf_93 : decode cX6_pressureOf 93 = .ok (.iinc 4 1, 3) := by decide +kernel
theorem dX6_pressureOf_96 : decode cX6_pressureOf 96 = .ok (.goto (-91), 3) := by decide +kernel
theorem dX6_pressureOf_99 : decode cX6_pressureOf 99 = .ok (.iload_n 3, 1) := by decide +kernel
theorem dX6_pressureOf_100 : decode cX6_pressureOf 100 = .ok (.aload_n 0, 1) := by decide +kernel
theorem dX6_pressureOf_101 : decode cX6_pressureOf 101 = .ok (.getfield 22, 3) := by decide +kernel
theorem dX6_pressureOf_104 : decode cX6_pressureOf 104 = .ok (.aload_n 0, 1) := by decide +kernel
theorem dX6_pressureOf_105 : decode cX6_pressureOf 105 = .ok (.getfield 41, 3) := by decide +kernel
theorem dX6_pressureOf_108 : decode cX6_pressureOf 108 = .ok (.aload_n 0, 1) := by decide +kernel
theorem dX6_pressureOf_109 : decode cX6_pressureOf 109 = .ok (.getfield 71, 3) := by decide +kernel
theorem dX6_pressureOf_112 : decode cX6_pressureOf 112 = .ok (.iconst 0, 1) := by decide +kernel
theorem dX6_pressureOf_113 : decode cX6_pressureOf 113 = .ok (.iaload, 1) := by decide +kernel
theorem dX6_pressureOf_114 : decode cX6_pressureOf 114 = .ok (.iaload, 1) := by decide +kernel
theorem dX6_pressureOf_115 : decode cX6_pressureOf 115 = .ok (.iaload, 1) := by decide +kernel
theorem dX6_pressureOf_116 : decode cX6_pressureOf 116 = .ok (.aload_n 0, 1) := by decide +kernel
theorem dX6_pressureOf_117 : decode cX6_pressureOf 117 = .ok (.getfield 13, 3) := by decide +kernel
theorem dX6_pressureOf_120 : decode cX6_pressureOf 120 = .ok (.aload_n 0, 1) := by decide +kernel
theorem dX6_pressureOf_121 : decode cX6_pressureOf 121 = .ok (.getfield 102, 3) := by decide +kernel
theorem dX6_pressureOf_124 : decode cX6_pressureOf 124 = .ok (.iconst 1, 1) := by decide +kernel
theorem dX6_pressureOf_125 : decode cX6_pressureOf 125 = .ok (.isub, 1) := by decide +kernel
theorem dX6_pressureOf_126 : decode cX6_pressureOf 126 = .ok (.iaload, 1) := by decide +kernel
theorem dX6_pressureOf_127 : decode cX6_pressureOf 127 = .ok (.imul, 1) := by decide +kernel
theorem dX6_pressureOf_128 : decode cX6_pressureOf 128 = .ok (.iadd, 1) := by decide +kernel
theorem dX6_pressureOf_129 : decode cX6_pressureOf 129 = .ok (.istore_n 3, 1) := by decide +kernel
theorem dX6_pressureOf_130 : decode cX6_pressureOf 130 = .ok (.iload_n 1, 1) := by decide +kernel
theorem dX6_pressureOf_131 : decode cX6_pressureOf 131 = .ok (.ifCond .le 37, 3) := by decide +kernel
theorem dX6_pressureOf_134 : decode cX6_pressureOf 134 = .ok (.iload_n 3, 1) := by decide +kernel
theorem dX6_pressureOf_135 : decode cX6_pressureOf 135 = .ok (.aload_n 0, 1) := by decide +kernel
theorem dX6_pressureOf_136 : decode cX6_pressureOf 136 = .ok (.getfield 22, 3) := by decide +kernel
theorem dX6_pressureOf_139 : decode cX6_pressureOf 139 = .ok (.aload_n 0, 1) := by decide +kernel
theorem dX6_pressureOf_140 : decode cX6_pressureOf 140 = .ok (.getfield 41, 3) := by decide +kernel
theorem dX6_pressureOf_143 : decode cX6_pressureOf 143 = .ok (.aload_n 0, 1) := by decide +kernel
theorem dX6_pressureOf_144 : decode cX6_pressureOf 144 = .ok (.getfield 71, 3) := by decide +kernel
theorem dX6_pressureOf_147 : decode cX6_pressureOf 147 = .ok (.aload_n 0, 1) := by decide +kernel
theorem dX6_pressureOf_148 : decode cX6_pressureOf 148 = .ok (.iload_n 1, 1) := by decide +kernel
theorem dX6_pressureOf_149 : decode cX6_pressureOf 149 = .ok (.iconst 1, 1) := by decide +kernel
theorem dX6_pressureOf_150 : decode cX6_pressureOf 150 = .ok (.isub, 1) := by decide +kernel
theorem dX6_pressureOf_151 : decode cX6_pressureOf 151 = .ok (.invokevirtual 156, 3) := by decide +kernel
theorem dX6_pressureOf_154 : decode cX6_pressureOf 154 = .ok (.iaload, 1) := by decide +kernel
theorem dX6_pressureOf_155 : decode cX6_pressureOf 155 = .ok (.iaload, 1) := by decide +kernel
theorem dX6_pressureOf_156 : decode cX6_pressureOf 156 = .ok (.iaload, 1) := by decide +kernel
theorem dX6_pressureOf_157 : decode cX6_pressureOf 157 = .ok (.aload_n 0, 1) := by decide +kernel
theorem dX6_pressureOf_158 : decode cX6_pressureOf 158 = .ok (.getfield 13, 3) := by decide +kernel
theorem dX6_pressureOf_161 : decode cX6_pressureOf 161 = .ok (.iload_n 1, 1) := by decide +kernel
theorem dX6_pressureOf_162 : decode cX6_pressureOf 162 = .ok (.iconst 1, 1) := by decide +kernel
theorem dX6_pressureOf_163 : decode cX6_pressureOf 163 = .ok (.isub, 1) := by decide +kernel
theorem dX6_pressureOf_164 : decode cX6_pressureOf 164 = .ok (.iaload, 1) := by decide +kernel
theorem dX6_pressureOf_165 : decode cX6_pressureOf 165 = .ok (.imul, 1) := by decide +kernel
theorem dX6_pressureOf_166 : decode cX6_pressureOf 166 = .ok (.isub, 1) := by decide +kernel
theorem dX6_pressureOf_167 : decode cX6_pressureOf 167 = .ok (.istore_n 3, 1) := by decide +kernel
theorem dX6_pressureOf_168 : decode cX6_pressureOf 168 = .ok (.iload_n 3, 1) := by decide +kernel
theorem dX6_pressureOf_169 : decode cX6_pressureOf 169 = .ok (.ifCond .ge 7, 3) := by decide +kernel
theorem dX6_pressureOf_172 : decode cX6_pressureOf 172 = .ok (.iconst 0, 1) := by decide +kernel
theorem dX6_pressureOf_173 : decode cX6_pressureOf 173 = .ok (.goto 4, 3) := by decide +kernel
theorem dX6_pressureOf_176 : decode cX6_pressureOf 176 = .ok (.iload_n 3, 1) := by decide +kernel
theorem dX6_pressureOf_177 : decode cX6_pressureOf 177 = .ok (.ireturn, 1) := by decide +kernel
set_option maxRecDepth 20000 in
theorem ggX6_rateThatGoes_X6_pressureOf : GoodIn wsX6_rateThatGoes wsX6_pressureOf := goodIn_r _ [8, 2, 9, 10, 11, 12, 13, 14, 15, 16, 17, 18, 7, 19, 20, 21, 22, 23, 24, 25, 26, 27, 28, 29, 30, 31, 32, 33, 34, 35, 36, 37, 38, 39, 40, 41, 42, 43, 44, 45, 46, 47, 48, 49, 50, 51, 52, 53, 54, 55, 56, 57, 58, 59, 60, 61, 62, 63, 64] (by decide +kernel) (by decide +kernel)
set_option maxRecDepth 20000 in
theorem gX6_rateThatGoes_X6_pressureOf : GoodIn wsX6_rateThatGoes (wsV RX6 160 RX6 yX6_pressureOf wsX6_pressureOf) := goodIn_app (goodIn_of _ (by decide +kernel)) ggX6_rateThatGoes_X6_pressureOf
theorem dX6_rateThatGoes_0 : decode cX6_rateThatGoes 0 = .ok (.aload_n 0, 1) := by decide +kernel
theorem dX6_rateThatGoes_1 : decode cX6_rateThatGoes 1 = .ok (.getfield 126, 3) := by decide +kernel
theorem dX6_rateThatGoes_4 : decode cX6_rateThatGoes 4 = .ok (.istore_n 1, 1) := by decide +kernel
theorem dX6_rateThatGoes_5 : decode cX6_rateThatGoes 5 = .ok (.iload_n 1, 1) := by decide +kernel
theorem dX6_rateThatGoes_6 : decode cX6_rateThatGoes 6 = .ok (.ifCond .le 58, 3) := by decide +kernel
theorem dX6_rateThatGoes_9 : decode cX6_rateThatGoes 9 = .ok (.iconst 1, 1) := by decide +kernel
theorem dX6_rateThatGoes_10 : decode cX6_rateThatGoes 10 = .ok (.istore_n 2, 1) := by decide +kernel
theorem dX6_rateThatGoes_11 : decode cX6_rateThatGoes 11 = .ok (.iconst 0, 1) := by decide +kernel
theorem dX6_rateThatGoes_12 : decode cX6_rateThatGoes 12 = .ok (.istore_n 3, 1) := by decide +kernel
theorem dX6_rateThatGoes_13 : decode cX6_rateThatGoes 13 = .ok (.iload_n 3, 1) := by decide +kernel
theorem dX6_rateThatGoes_14 : decode cX6_rateThatGoes 14 = .ok (.aload_n 0, 1) := by decide +kernel
theorem dX6_rateThatGoes_15 : decode cX6_rateThatGoes 15 = .ok (.getfield 102, 3) := by decide +kernel
theorem dX6_rateThatGoes_18 : decode cX6_rateThatGoes 18 = .ok (.if_icmp .ge 34, 3) := by decide +kernel
theorem dX6_rateThatGoes_21 : decode cX6_rateThatGoes 21 = .ok (.iload_n 2, 1) := by decide +kernel
theorem dX6_rateThatGoes_22 : decode cX6_rateThatGoes 22 = .ok (.ifCond .eq 30, 3) := by decide +kernel
theorem dX6_rateThatGoes_25 : decode cX6_rateThatGoes 25 = .ok (.aload_n 0, 1) := by decide +kernel
theorem dX6_rateThatGoes_26 : decode cX6_rateThatGoes 26 = .ok (.iload_n 3, 1) := by decide +kernel
theorem dX6_rateThatGoes_27 : decode cX6_rateThatGoes 27 = .ok (.iload_n 1, 1) := by decide +kernel
theorem dX6_rateThatGoes_28 : decode cX6_rateThatGoes 28 = .ok (.invokevirtual 160, 3) := by decide +kernel
theorem dX6_rateThatGoes_31 : decode cX6_rateThatGoes 31 = .ok (.aload_n 0, 1) := by decide +kernel
theorem dX6_rateThatGoes_32 : decode cX6_rateThatGoes 32 = .ok (.getfield 16, 3) := by decide +kernel
theorem dX6_rateThatGoes_35 : decode cX6_rateThatGoes 35 = .ok (.iload_n 3, 1) := by decide +kernel
theorem dX6_rateThatGoes_36 : decode cX6_rateThatGoes 36 = .ok (.iaload, 1) := by decide +kernel
theorem dX6_rateThatGoes_37 : decode cX6_rateThatGoes 37 = .ok (.if_icmp .gt 7, 3) := by decide +kernel
theorem dX6_rateThatGoes_40 : decode cX6_rateThatGoes 40 = .ok (.iconst 1, 1) := by decide +kernel
theorem dX6_rateThatGoes_41 : decode cX6_rateThatGoes 41 = .ok (.goto 4, 3) := by decide +kernel
theorem dX6_rateThatGoes_44 : decode cX6_rateThatGoes 44 = .ok (.iconst 0, 1) := by decide +kernel
theorem dX6_rateThatGoes_45 : decode cX6_rateThatGoes 45 = .ok (.istore_n 2, 1) := by decide +kernel
theorem dX6_rateThatGoes_46 : decode cX6_rateThatGoes 46 = .ok (.iinc 3 1, 3) := by decide +kernel
theorem dX6_rateThatGoes_49 : decode cX6_rateThatGoes 49 = .ok (.goto (-36), 3) := by decide +kernel
theorem dX6_rateThatGoes_52 : decode cX6_rateThatGoes 52 = .ok (.iload_n 2, 1) := by decide +kernel
theorem dX6_rateThatGoes_53 : decode cX6_rateThatGoes 53 = .ok (.ifCond .eq 5, 3) := by decide +kernel
theorem dX6_rateThatGoes_56 : decode cX6_rateThatGoes 56 = .ok (.iload_n 1, 1) := by decide +kernel
theorem dX6_rateThatGoes_57 : decode cX6_rateThatGoes 57 = .ok (.ireturn, 1) := by decide +kernel
theorem dX6_rateThatGoes_58 : decode cX6_rateThatGoes 58 = .ok (.iinc 1 (-1), 3) := by decide +kernel
theorem dX6_rateThatGoes_61 : decode cX6_rateThatGoes 61 = .ok (.goto (-56), 3) := by decide +kernel
theorem dX6_rateThatGoes_64 : decode cX6_rateThatGoes 64 = .ok (.iconst 0, 1) := by decide +kernel
theorem dX6_rateThatGoes_65 : decode cX6_rateThatGoes 65 = .ok (.ireturn, 1) := by decide +kernel
theorem dX6_root_0 : decode cX6_root 0 = .ok (.iconst 0, 1) := by decide +kernel
theorem dX6_root_1 : decode cX6_root 1 = .ok (.istore_n 1, 1) := by decide +kernel
theorem dX6_root_2 : decode cX6_root 2 = .ok (.iload_n 1, 1) := by decide +kernel
theorem dX6_root_3 : decode cX6_root 3 = .ok (.iconst 1, 1) := by decide +kernel
theorem dX6_root_4 : decode cX6_root 4 = .ok (.iadd, 1) := by decide +kernel
theorem dX6_root_5 : decode cX6_root 5 = .ok (.iload_n 1, 1) := by decide +kernel
theorem dX6_root_6 : decode cX6_root 6 = .ok (.iconst 1, 1) := by decide +kernel
theorem dX6_root_7 : decode cX6_root 7 = .ok (.iadd, 1) := by decide +kernel
theorem dX6_root_8 : decode cX6_root 8 = .ok (.imul, 1) := by decide +kernel
theorem dX6_root_9 : decode cX6_root 9 = .ok (.iload_n 0, 1) := by decide +kernel
theorem dX6_root_10 : decode cX6_root 10 = .ok (.if_icmp .gt 9, 3) := by decide +kernel
theorem dX6_root_13 : decode cX6_root 13 = .ok (.iinc 1 1, 3) := by decide +kernel
theorem dX6_root_16 : decode cX6_root 16 = .ok (.goto (-14), 3) := by decide +kernel
theorem dX6_root_19 : decode cX6_root 19 = .ok (.iload_n 1, 1) := by decide +kernel
theorem dX6_root_20 : decode cX6_root 20 = .ok (.ireturn, 1) := by decide +kernel
set_option maxRecDepth 20000 in
theorem ggX6_mixOf_X6_root : GoodIn wsX6_mixOf wsX6_root := goodIn_r _ [10] (by decide +kernel) (by decide +kernel)
set_option maxRecDepth 20000 in
theorem gX6_mixOf_X6_root : GoodIn wsX6_mixOf (va_wsS RX6 164 yX6_root wsX6_root) := goodIn_app (goodIn_of _ (by decide +kernel)) ggX6_mixOf_X6_root
theorem dX6_mixOf_0 : decode cX6_mixOf 0 = .ok (.iload_n 1, 1) := by decide +kernel
theorem dX6_mixOf_1 : decode cX6_mixOf 1 = .ok (.iconst 1, 1) := by decide +kernel
theorem dX6_mixOf_2 : decode cX6_mixOf 2 = .ok (.if_icmp .lt 32, 3) := by decide +kernel
theorem dX6_mixOf_5 : decode cX6_mixOf 5 = .ok (.aload_n 0, 1) := by decide +kernel
theorem dX6_mixOf_6 : decode cX6_mixOf 6 = .ok (.getfield 47, 3) := by decide +kernel
theorem dX6_mixOf_9 : decode cX6_mixOf 9 = .ok (.iload_n 1, 1) := by decide +kernel
theorem dX6_mixOf_10 : decode cX6_mixOf 10 = .ok (.iaload, 1) := by decide +kernel
theorem dX6_mixOf_11 : decode cX6_mixOf 11 = .ok (.ifCond .eq 23, 3) := by decide +kernel
theorem dX6_mixOf_14 : decode cX6_mixOf 14 = .ok (.aload_n 0, 1) := by decide +kernel
theorem dX6_mixOf_15 : decode cX6_mixOf 15 = .ok (.getfield 41, 3) := by decide +kernel
theorem dX6_mixOf_18 : decode cX6_mixOf 18 = .ok (.iload_n 1, 1) := by decide +kernel
theorem dX6_mixOf_19 : decode cX6_mixOf 19 = .ok (.iaload, 1) := by decide +kernel
theorem dX6_mixOf_20 : decode cX6_mixOf 20 = .ok (.aload_n 0, 1) := by decide +kernel
theorem dX6_mixOf_21 : decode cX6_mixOf 21 = .ok (.getfield 41, 3) := by decide +kernel
theorem dX6_mixOf_24 : decode cX6_mixOf 24 = .ok (.aload_n 0, 1) := by decide +kernel
theorem dX6_mixOf_25 : decode cX6_mixOf 25 = .ok (.getfield 59, 3) := by decide +kernel
theorem dX6_mixOf_28 : decode cX6_mixOf 28 = .ok (.iload_n 1, 1) := by decide +kernel
theorem dX6_mixOf_29 : decode cX6_mixOf 29 = .ok (.iaload, 1) := by decide +kernel
theorem dX6_mixOf_30 : decode cX6_mixOf 30 = .ok (.iaload, 1) := by decide +kernel
theorem dX6_mixOf_31 : decode cX6_mixOf 31 = .ok (.if_icmp .ne 5, 3) := by decide +kernel
theorem dX6_mixOf_34 : decode cX6_mixOf 34 = .ok (.iconst 0, 1) := by decide +kernel
theorem dX6_mixOf_35 : decode cX6_mixOf 35 = .ok (.ireturn, 1) := by decide +kernel
theorem dX6_mixOf_36 : decode cX6_mixOf 36 = .ok (.aload_n 0, 1) := by decide +kernel
theorem dX6_mixOf_37 : decode cX6_mixOf 37 = .ok (.getfield 68, 3) := by decide +kernel
theorem dX6_mixOf_40 : decode cX6_mixOf 40 = .ok (.iload_n 1, 1) := by decide +kernel
theorem dX6_mixOf_41 : decode cX6_mixOf 41 = .ok (.iaload, 1) := by decide +kernel
theorem dX6_mixOf_42 : decode cX6_mixOf 42 = .ok (.iconst (-1), 1) := by decide +kernel
theorem dX6_mixOf_43 : decode cX6_mixOf 43 = .ok (.if_icmp .eq 12, 3) := by decide +kernel
theorem dX6_mixOf_46 : decode cX6_mixOf 46 = .ok (.aload_n 0, 1) := by decide +kernel
theorem dX6_mixOf_47 : decode cX6_mixOf 47 = .ok (.getfield 68, 3) := by decide +kernel
theorem dX6_mixOf_50 : decode cX6_mixOf 50 = .ok (.iload_n 1, 1) := by decide +kernel
theorem dX6_mixOf_51 : decode cX6_mixOf 51 = .ok (.iaload, 1) := by decide +kernel
theorem dX6_mixOf_52 : decode cX6_mixOf 52 = .ok (.goto 17, 3) := by decide +kernel
theorem dX6_mixOf_55 : decode cX6_mixOf 55 = .ok (.aload_n 0, 1) := by decide +kernel
theorem dX6_mixOf_56 : decode cX6_mixOf 56 = .ok (.getfield 120, 3) := by decide +kernel
theorem dX6_mixOf_59 : decode cX6_mixOf 59 = .ok (.aload_n 0, 1) := by decide +kernel
theorem dX6_mixOf_60 : decode cX6_mixOf 60 = .ok (.getfield 65, 3) := by decide +kernel
theorem dX6_mixOf_63 : decode cX6_mixOf 63 = .ok (.iload_n 1, 1) := by decide +kernel
theorem dX6_mixOf_64 : decode cX6_mixOf 64 = .ok (.iaload, 1) := by decide +kernel
theorem dX6_mixOf_65 : decode cX6_mixOf 65 = .ok (.isub, 1) := by decide +kernel
theorem dX6_mixOf_66 : decode cX6_mixOf 66 = .ok (.invokestatic 164, 3) := by decide +kernel
theorem dX6_mixOf_69 : decode cX6_mixOf 69 = .ok (.ireturn, 1) := by decide +kernel
set_option maxRecDepth 20000 in
theorem ggX6_isMixedAhead_X6_mixOf : GoodIn wsX6_isMixedAhead wsX6_mixOf := goodIn_r _ [5, 6, 7, 8, 9, 10, 11, 12, 13, 4, 14, 15, 16, 17, 18, 19, 20, 21, 22, 23, 24, 25, 26, 27, 28, 29, 30, 31, 32, 33, 34, 35, 36, 37, 38, 39, 40, 41, 42, 43, 44, 45, 46, 47, 48, 49, 50, 51, 52, 53, 54, 55, 56, 57, 58, 59] (by decide +kernel) (by decide +kernel)
set_option maxRecDepth 20000 in
theorem gX6_isMixedAhead_X6_mixOf : GoodIn wsX6_isMixedAhead (wsV RX6 167 RX6 yX6_mixOf wsX6_mixOf) := goodIn_app (goodIn_of _ (by decide +kernel)) ggX6_isMixedAhead_X6_mixOf
theorem dX6_isMixedAhead_0 : decode cX6_isMixedAhead 0 = .ok (.iload_n 2, 1) := by decide +kernel
theorem dX6_isMixedAhead_1 : decode cX6_isMixedAhead 1 = .ok (.aload_n 0, 1) := by decide +kernel
theorem dX6_isMixedAhead_2 : decode cX6_isMixedAhead 2 = .ok (.iload_n 1, 1) := by decide +kernel
theorem dX6_isMixedAhead_3 : decode cX6_isMixedAhead 3 = .ok (.invokevirtual 167, 3) := by decide +kernel
theorem dX6_isMixedAhead_6 : decode cX6_isMixedAhead 6 = .ok (.iconst 1, 1) := by decide +kernel
theorem dX6_isMixedAhead_7 : decode cX6_isMixedAhead 7 = .ok (.iadd, 1) := by decide +kernel
theorem dX6_isMixedAhead_8 : decode cX6_isMixedAhead 8 = .ok (.iconst 2, 1) := by decide +kernel
theorem dX6_isMixedAhead_9 : decode cX6_isMixedAhead 9 = .ok (.idiv, 1) := by decide +kernel
theorem dX6_isMixedAhead_10 : decode cX6_isMixedAhead 10 = .ok (.if_icmp .ge 7, 3) := by decide +kernel
theorem dX6_isMixedAhead_13 : decode cX6_isMixedAhead 13 = .ok (.iconst 1, 1) := by decide +kernel
theorem dX6_isMixedAhead_14 : decode cX6_isMixedAhead 14 = .ok (.goto 4, 3) := by decide +kernel
theorem dX6_isMixedAhead_17 : decode cX6_isMixedAhead 17 = .ok (.iconst 0, 1) := by decide +kernel
theorem dX6_isMixedAhead_18 : decode cX6_isMixedAhead 18 = .ok (.ireturn, 1) := by decide +kernel
set_option maxRecDepth 20000 in
theorem ggX6_isMixedBehind_X6_mixOf : GoodIn wsX6_isMixedBehind wsX6_mixOf := goodIn_r _ [7, 2, 8, 9, 10, 11, 12, 13, 14, 6, 15, 16, 17, 18, 19, 20, 21, 22, 23, 24, 25, 26, 27, 28, 29, 30, 31, 32, 33, 34, 35, 36, 37, 38, 39, 40, 41, 42, 43, 44, 45, 46, 47, 48, 49, 50, 51, 52, 53, 54, 55, 56, 57, 58, 59, 60] (by decide +kernel) (by decide +kernel)
set_option maxRecDepth 20000 in
theorem gX6_isMixedBehind_X6_mixOf : GoodIn wsX6_isMixedBehind (wsV RX6 167 RX6 yX6_mixOf wsX6_mixOf) := goodIn_app (goodIn_of _ (by decide +kernel)) ggX6_isMixedBehind_X6_mixOf
theorem dX6_isMixedBehind_0 : decode cX6_isMixedBehind 0 = .ok (.aload_n 0, 1) := by decide +kernel
theorem dX6_isMixedBehind_1 : decode cX6_isMixedBehind 1 = .ok (.getfield 62, 3) := by decide +kernel
theorem dX6_isMixedBehind_4 : decode cX6_isMixedBehind 4 = .ok (.iload_n 1, 1) := by decide +kernel
theorem dX6_isMixedBehind_5 : decode cX6_isMixedBehind 5 = .ok (.iaload, 1) := by decide +kernel
theorem dX6_isMixedBehind_6 : decode cX6_isMixedBehind 6 = .ok (.istore_n 3, 1) := by decide +kernel
theorem dX6_isMixedBehind_7 : decode cX6_isMixedBehind 7 = .ok (.iload_n 3, 1) := by decide +kernel
theorem dX6_isMixedBehind_8 : decode cX6_isMixedBehind 8 = .ok (.iconst (-1), 1) := by decide +kernel
theorem dX6_isMixedBehind_9 : decode cX6_isMixedBehind 9 = .ok (.if_icmp .eq 37, 3) := by decide +kernel
theorem dX6_isMixedBehind_12 : decode cX6_isMixedBehind 12 = .ok (.aload_n 0, 1) := by decide +kernel
theorem dX6_isMixedBehind_13 : decode cX6_isMixedBehind 13 = .ok (.getfield 47, 3) := by decide +kernel
theorem dX6_isMixedBehind_16 : decode cX6_isMixedBehind 16 = .ok (.iload_n 1, 1) := by decide +kernel
theorem dX6_isMixedBehind_17 : decode cX6_isMixedBehind 17 = .ok (.iaload, 1) := by decide +kernel
theorem dX6_isMixedBehind_18 : decode cX6_isMixedBehind 18 = .ok (.iconst 1, 1) := by decide +kernel
theorem dX6_isMixedBehind_19 : decode cX6_isMixedBehind 19 = .ok (.isub, 1) := by decide +kernel
theorem dX6_isMixedBehind_20 : decode cX6_isMixedBehind 20 = .ok (.iload_n 2, 1) := by decide +kernel
theorem dX6_isMixedBehind_21 : decode cX6_isMixedBehind 21 = .ok (.isub, 1) := by decide +kernel
theorem dX6_isMixedBehind_22 : decode cX6_isMixedBehind 22 = .ok (.aload_n 0, 1) := by decide +kernel
theorem dX6_isMixedBehind_23 : decode cX6_isMixedBehind 23 = .ok (.iload_n 3, 1) := by decide +kernel
theorem dX6_isMixedBehind_24 : decode cX6_isMixedBehind 24 = .ok (.ifCond .ge 7, 3) := by decide +kernel
theorem dX6_isMixedBehind_27 : decode cX6_isMixedBehind 27 = .ok (.iconst 0, 1) := by decide +kernel
theorem dX6_isMixedBehind_28 : decode cX6_isMixedBehind 28 = .ok (.goto 4, 3) := by decide +kernel
theorem dX6_isMixedBehind_31 : decode cX6_isMixedBehind 31 = .ok (.iload_n 3, 1) := by decide +kernel
theorem dX6_isMixedBehind_32 : decode cX6_isMixedBehind 32 = .ok (.invokevirtual 167, 3) := by decide +kernel
theorem dX6_isMixedBehind_35 : decode cX6_isMixedBehind 35 = .ok (.iconst 1, 1) := by decide +kernel
theorem dX6_isMixedBehind_36 : decode cX6_isMixedBehind 36 = .ok (.iadd, 1) := by decide +kernel
theorem dX6_isMixedBehind_37 : decode cX6_isMixedBehind 37 = .ok (.iconst 2, 1) := by decide +kernel
theorem dX6_isMixedBehind_38 : decode cX6_isMixedBehind 38 = .ok (.idiv, 1) := by decide +kernel
theorem dX6_isMixedBehind_39 : decode cX6_isMixedBehind 39 = .ok (.if_icmp .ge 7, 3) := by decide +kernel
theorem dX6_isMixedBehind_42 : decode cX6_isMixedBehind 42 = .ok (.iconst 1, 1) := by decide +kernel
theorem dX6_isMixedBehind_43 : decode cX6_isMixedBehind 43 = .ok (.goto 4, 3) := by decide +kernel
theorem dX6_isMixedBehind_46 : decode cX6_isMixedBehind 46 = .ok (.iconst 0, 1) := by decide +kernel
theorem dX6_isMixedBehind_47 : decode cX6_isMixedBehind 47 = .ok (.ireturn, 1) := by decide +kernel
set_option maxRecDepth 20000 in
theorem ggX6_comesInto_X6_isMixedAhead : GoodIn wsX6_comesInto wsX6_isMixedAhead := goodIn_r _ [13, 14, 15, 16, 12, 17, 18, 4, 5, 19, 20, 21, 22, 23, 24, 29, 30, 31, 32, 33, 34, 35, 36, 37, 38, 39, 40, 41, 42, 43, 44, 45, 46, 47, 48, 49, 50, 51, 52, 53, 54, 55, 56, 57, 58, 59, 60, 61, 62, 63, 64, 65, 66, 67, 68, 69, 70, 71, 72, 73] (by decide +kernel) (by decide +kernel)
set_option maxRecDepth 20000 in
theorem gX6_comesInto_X6_isMixedAhead : GoodIn wsX6_comesInto (wsV RX6 173 RX6 yX6_isMixedAhead wsX6_isMixedAhead) := goodIn_app (goodIn_of _ (by decide +kernel)) ggX6_comesInto_X6_isMixedAhead
set_option maxRecDepth 20000 in
theorem ggX6_comesInto_X6_isMixedBehind : GoodIn wsX6_comesInto wsX6_isMixedBehind := goodIn_r _ [28, 6, 18, 14, 15, 16, 12, 17, 4, 5, 19, 20, 21, 22, 23, 24, 29, 30, 31, 32, 33, 34, 35, 36, 37, 38, 39, 40, 41, 42, 43, 44, 45, 46, 47, 48, 49, 50, 51, 52, 53, 54, 55, 56, 57, 58, 59, 60, 61, 62, 63, 64, 65, 66, 67, 68, 69, 70, 71, 72, 73] (by decide +kernel) (by decide +kernel)
set_option maxRecDepth 20000 in
theorem gX6_comesInto_X6_isMixedBehind : GoodIn wsX6_comesInto (wsV RX6 177 RX6 yX6_isMixedBehind wsX6_isMixedBehind) := goodIn_app (goodIn_of _ (by decide +kernel)) ggX6_comesInto_X6_isMixedBehind
theorem dX6_comesInto_0 : decode cX6_comesInto 0 = .ok (.aload_n 0, 1) := by decide +kernel
theorem dX6_comesInto_1 : decode cX6_comesInto 1 = .ok (.getfield 83, 3) := by decide +kernel
theorem dX6_comesInto_4 : decode cX6_comesInto 4 = .ok (.iload_n 1, 1) := by decide +kernel
theorem dX6_comesInto_5 : decode cX6_comesInto 5 = .ok (.iaload, 1) := by decide +kernel
theorem dX6_comesInto_6 : decode cX6_comesInto 6 = .ok (.bipush 100, 2) := by decide +kernel
theorem dX6_comesInto_8 : decode cX6_comesInto 8 = .ok (.if_icmp .ne 14, 3) := by decide +kernel
theorem dX6_comesInto_11 : decode cX6_comesInto 11 = .ok (.aload_n 0, 1) := by decide +kernel
theorem dX6_comesInto_12 : decode cX6_comesInto 12 = .ok (.dup, 1) := by decide +kernel
theorem dX6_comesInto_13 : decode cX6_comesInto 13 = .ok (.getfield 170, 3) := by decide +kernel
theorem dX6_comesInto_16 : decode cX6_comesInto 16 = .ok (.iconst 1, 1) := by decide +kernel
theorem dX6_comesInto_17 : decode cX6_comesInto 17 = .ok (.iadd, 1) := by decide +kernel
theorem dX6_comesInto_18 : decode cX6_comesInto 18 = .ok (.putfield 170, 3) := by decide +kernel
theorem dX6_comesInto_21 : decode cX6_comesInto 21 = .ok (.return_, 1) := by decide +kernel
theorem dX6_comesInto_22 : decode cX6_comesInto 22 = .ok (.aload_n 0, 1) := by decide +kernel
theorem dX6_comesInto_23 : decode cX6_comesInto 23 = .ok (.getfield 28, 3) := by decide +kernel
theorem dX6_comesInto_26 : decode cX6_comesInto 26 = .ok (.aload_n 0, 1) := by decide +kernel
theorem dX6_comesInto_27 : decode cX6_comesInto 27 = .ok (.getfield 41, 3) := by decide +kernel
theorem dX6_comesInto_30 : decode cX6_comesInto 30 = .ok (.iload_n 2, 1) := by decide +kernel
theorem dX6_comesInto_31 : decode cX6_comesInto 31 = .ok (.iaload, 1) := by decide +kernel
theorem dX6_comesInto_32 : decode cX6_comesInto 32 = .ok (.iaload, 1) := by decide +kernel
theorem dX6_comesInto_33 : decode cX6_comesInto 33 = .ok (.istore 4, 2) := by decide +kernel
theorem dX6_comesInto_35 : decode cX6_comesInto 35 = .ok (.aload_n 0, 1) := by decide +kernel
theorem dX6_comesInto_36 : decode cX6_comesInto 36 = .ok (.iload_n 2, 1) := by decide +kernel
theorem dX6_comesInto_37 : decode cX6_comesInto 37 = .ok (.iload_n 3, 1) := by decide +kernel
theorem dX6_comesInto_38 : decode cX6_comesInto 38 = .ok (.invokevirtual 173, 3) := by decide +kernel
theorem dX6_comesInto_41 : decode cX6_comesInto 41 = .ok (.istore 5, 2) := by decide +kernel
theorem dX6_comesInto_43 : decode cX6_comesInto 43 = .ok (.aload_n 0, 1) := by decide +kernel
theorem dX6_comesInto_44 : decode cX6_comesInto 44 = .ok (.iload_n 2, 1) := by decide +kernel
theorem dX6_comesInto_45 : decode cX6_comesInto 45 = .ok (.iload_n 3, 1) := by decide +kernel
theorem dX6_comesInto_46 : decode cX6_comesInto 46 = .ok (.invokevirtual 177, 3) := by decide +kernel
theorem dX6_comesInto_49 : decode cX6_comesInto 49 = .ok (.istore 6, 2) := by decide +kernel
theorem dX6_comesInto_51 : decode cX6_comesInto 51 = .ok (.iload 5, 2) := by decide +kernel
theorem dX6_comesInto_53 : decode cX6_comesInto 53 = .ok (.ifCond .eq 42, 3) := by decide +kernel
theorem dX6_comesInto_56 : decode cX6_comesInto 56 = .ok (.aload_n 0, 1) := by decide +kernel
theorem dX6_comesInto_57 : decode cX6_comesInto 57 = .ok (.getfield 28, 3) := by decide +kernel
theorem dX6_comesInto_60 : decode cX6_comesInto 60 = .ok (.aload_n 0, 1) := by decide +kernel
theorem dX6_comesInto_61 : decode cX6_comesInto 61 = .ok (.getfield 41, 3) := by decide +kernel
theorem dX6_comesInto_64 : decode cX6_comesInto 64 = .ok (.aload_n 0, 1) := by decide +kernel
theorem dX6_comesInto_65 : decode cX6_comesInto 65 = .ok (.getfield 59, 3) := by decide +kernel
theorem dX6_comesInto_68 : decode cX6_comesInto 68 = .ok (.iload_n 2, 1) := by decide +kernel
theorem dX6_comesInto_69 : decode cX6_comesInto 69 = .ok (.iaload, 1) := by decide +kernel
theorem dX6_comesInto_70 : decode cX6_comesInto 70 = .ok (.iaload, 1) := by decide +kernel
theorem dX6_comesInto_71 : decode cX6_comesInto 71 = .ok (.iaload, 1) := by decide +kernel
theorem dX6_comesInto_72 : decode cX6_comesInto 72 = .ok (.iload 4, 2) := by decide +kernel
theorem dX6_comesInto_74 : decode cX6_comesInto 74 = .ok (.if_icmp .le 21, 3) := by decide +kernel
theorem dX6_comesInto_77 : decode cX6_comesInto 77 = .ok (.aload_n 0, 1) := by decide +kernel
theorem dX6_comesInto_78 : decode cX6_comesInto 78 = .ok (.getfield 28, 3) := by decide +kernel
theorem dX6_comesInto_81 : decode cX6_comesInto 81 = .ok (.aload_n 0, 1) := by decide +kernel
theorem dX6_comesInto_82 : decode cX6_comesInto 82 = .ok (.getfield 41, 3) := by decide +kernel
theorem dX6_comesInto_85 : decode cX6_comesInto 85 = .ok (.aload_n 0, 1) := by decide +kernel
theorem dX6_comesInto_86 : decode cX6_comesInto 86 = .ok (.getfield 59, 3) := by decide +kernel
theorem dX6_comesInto_89 : decode cX6_comesInto 89 = .ok (.iload_n 2, 1) := by decide +kernel
theorem dX6_comesInto_90 : decode cX6_comesInto 90 = .ok (.iaload, 1) := by decide +kernel
theorem dX6_comesInto_91 : decode cX6_comesInto 91 = .ok (.iaload, 1) := by decide +kernel
theorem dX6_comesInto_92 : decode cX6_comesInto 92 = .ok (.iaload, 1) := by decide +kernel
theorem dX6_comesInto_93 : decode cX6_comesInto 93 = .ok (.istore 4, 2) := by decide +kernel
theorem dX6_comesInto_95 : decode cX6_comesInto 95 = .ok (.iload 6, 2) := by decide +kernel
theorem dX6_comesInto_97 : decode cX6_comesInto 97 = .ok (.ifCond .eq 42, 3) := by decide +kernel
theorem dX6_comesInto_100 : decode cX6_comesInto 100 = .ok (.aload_n 0, 1) := by decide +kernel
theorem dX6_comesInto_101 : decode cX6_comesInto 101 = .ok (.getfield 28, 3) := by decide +kernel
theorem dX6_comesInto_104 : decode cX6_comesInto 104 = .ok (.aload_n 0, 1) := by decide +kernel
theorem dX6_comesInto_105 : decode cX6_comesInto 105 = .ok (.getfield 41, 3) := by decide +kernel
theorem dX6_comesInto_108 : decode cX6_comesInto 108 = .ok (.aload_n 0, 1) := by decide +kernel
theorem dX6_comesInto_109 : decode cX6_comesInto 109 = .ok (.getfield 62, 3) := by decide +kernel
theorem dX6_comesInto_112 : decode cX6_comesInto 112 = .ok (.iload_n 2, 1) := by decide +kernel
theorem dX6_comesInto_113 : decode cX6_comesInto 113 = .ok (.iaload, 1) := by decide +kernel
theorem dX6_comesInto_114 : decode cX6_comesInto 114 = .ok (.iaload, 1) := by decide +kernel
theorem dX6_comesInto_115 : decode cX6_comesInto 115 = .ok (.iaload, 1) := by decide +kernel
theorem dX6_comesInto_116 : decode cX6_comesInto 116 = .ok (.iload 4, 2) := by decide +kernel
theorem dX6_comesInto_118 : decode cX6_comesInto 118 = .ok (.if_icmp .le 21, 3) := by decide +kernel
theorem dX6_comesInto_121 : decode cX6_comesInto 121 = .ok (.aload_n 0, 1) := by decide +kernel
theorem dX6_comesInto_122 : decode cX6_comesInto 122 = .ok (.getfield 28, 3) := by decide +kernel
theorem dX6_comesInto_125 : decode cX6_comesInto 125 = .ok (.aload_n 0, 1) := by decide +kernel
theorem dX6_comesInto_126 : decode cX6_comesInto 126 = .ok (.getfield 41, 3) := by decide +kernel
theorem dX6_comesInto_129 : decode cX6_comesInto 129 = .ok (.aload_n 0, 1) := by decide +kernel
theorem dX6_comesInto_130 : decode cX6_comesInto 130 = .ok (.getfield 62, 3) := by decide +kernel
theorem dX6_comesInto_133 : decode cX6_comesInto 133 = .ok (.iload_n 2, 1) := by decide +kernel
theorem dX6_comesInto_134 : decode cX6_comesInto 134 = .ok (.iaload, 1) := by decide +kernel
theorem dX6_comesInto_135 : decode cX6_comesInto 135 = .ok (.iaload, 1) := by decide +kernel
theorem dX6_comesInto_136 : decode cX6_comesInto 136 = .ok (.iaload, 1) := by decide +kernel
theorem dX6_comesInto_137 : decode cX6_comesInto 137 = .ok (.istore 4, 2) := by decide +kernel
theorem dX6_comesInto_139 : decode cX6_comesInto 139 = .ok (.aload_n 0, 1) := by decide +kernel
theorem dX6_comesInto_140 : decode cX6_comesInto 140 = .ok (.getfield 86, 3) := by decide +kernel
theorem dX6_comesInto_143 : decode cX6_comesInto 143 = .ok (.iload_n 1, 1) := by decide +kernel
theorem dX6_comesInto_144 : decode cX6_comesInto 144 = .ok (.aload_n 0, 1) := by decide +kernel
theorem dX6_comesInto_145 : decode cX6_comesInto 145 = .ok (.getfield 83, 3) := by decide +kernel
theorem dX6_comesInto_148 : decode cX6_comesInto 148 = .ok (.iload_n 1, 1) := by decide +kernel
theorem dX6_comesInto_149 : decode cX6_comesInto 149 = .ok (.iaload, 1) := by decide +kernel
theorem dX6_comesInto_150 : decode cX6_comesInto 150 = .ok (.ifCond .eq 14, 3) := by decide +kernel
theorem dX6_comesInto_153 : decode cX6_comesInto 153 = .ok (.iload 4, 2) := by decide +kernel
theorem dX6_comesInto_155 : decode cX6_comesInto 155 = .ok (.aload_n 0, 1) := by decide +kernel
theorem dX6_comesInto_156 : decode cX6_comesInto 156 = .ok (.getfield 86, 3) := by decide +kernel
theorem dX6_comesInto_159 : decode cX6_comesInto 159 = .ok (.iload_n 1, 1) := by decide +kernel
theorem dX6_comesInto_160 : decode cX6_comesInto 160 = .ok (.iaload, 1) := by decide +kernel
theorem dX6_comesInto_161 : decode cX6_comesInto 161 = .ok (.if_icmp .le 8, 3) := by decide +kernel
theorem dX6_comesInto_164 : decode cX6_comesInto 164 = .ok (.iload 4, 2) := by decide +kernel
theorem dX6_comesInto_166 : decode cX6_comesInto 166 = .ok (.goto 9, 3) := by decide +kernel
theorem dX6_comesInto_169 : decode cX6_comesInto 169 = .ok (.aload_n 0, 1) := by decide +kernel
theorem dX6_comesInto_170 : decode cX6_comesInto 170 = .ok (.getfield 86, 3) := by decide +kernel
theorem dX6_comesInto_173 : decode cX6_comesInto 173 = .ok (.iload_n 1, 1) := by decide +kernel
theorem dX6_comesInto_174 : decode cX6_comesInto 174 = .ok (.iaload, 1) := by decide +kernel
theorem dX6_comesInto_175 : decode cX6_comesInto 175 = .ok (.iastore, 1) := by decide +kernel
theorem dX6_comesInto_176 : decode cX6_comesInto 176 = .ok (.aload_n 0, 1) := by decide +kernel
theorem dX6_comesInto_177 : decode cX6_comesInto 177 = .ok (.getfield 83, 3) := by decide +kernel
theorem dX6_comesInto_180 : decode cX6_comesInto 180 = .ok (.iload_n 1, 1) := by decide +kernel
theorem dX6_comesInto_181 : decode cX6_comesInto 181 = .ok (.dup2, 1) := by decide +kernel
theorem dX6_comesInto_182 : decode cX6_comesInto 182 = .ok (.iaload, 1) := by decide +kernel
theorem dX6_comesInto_183 : decode cX6_comesInto 183 = .ok (.iconst 1, 1) := by decide +kernel
theorem dX6_comesInto_184 : decode cX6_comesInto 184 = .ok (.iadd, 1) := by decide +kernel
theorem dX6_comesInto_185 : decode cX6_comesInto 185 = .ok (.iastore, 1) := by decide +kernel
theorem dX6_comesInto_186 : decode cX6_comesInto 186 = .ok (.aload_n 0, 1) := by decide +kernel
theorem dX6_comesInto_187 : decode cX6_comesInto 187 = .ok (.getfield 89, 3) := by decide +kernel
theorem dX6_comesInto_190 : decode cX6_comesInto 190 = .ok (.iload_n 1, 1) := by decide +kernel
theorem dX6_comesInto_191 : decode cX6_comesInto 191 = .ok (.dup2, 1) := by decide +kernel
theorem dX6_comesInto_192 : decode cX6_comesInto 192 = .ok (.iaload, 1) := by decide +kernel
theorem dX6_comesInto_193 : decode cX6_comesInto 193 = .ok (.iload 5, 2) := by decide +kernel
theorem dX6_comesInto_195 : decode cX6_comesInto 195 = .ok (.ifCond .ne 8, 3) := by decide +kernel
theorem dX6_comesInto_198 : decode cX6_comesInto 198 = .ok (.iload 6, 2) := by decide +kernel
theorem dX6_comesInto_200 : decode cX6_comesInto 200 = .ok (.ifCond .eq 7, 3) := by decide +kernel
theorem dX6_comesInto_203 : decode cX6_comesInto 203 = .ok (.iconst 1, 1) := by decide +kernel
theorem dX6_comesInto_204 : decode cX6_comesInto 204 = .ok (.goto 4, 3) := by decide +kernel
theorem dX6_comesInto_207 : decode cX6_comesInto 207 = .ok (.iconst 0, 1) := by decide +kernel
theorem dX6_comesInto_208 : decode cX6_comesInto 208 = .ok (.iadd, 1) := by decide +kernel
theorem dX6_comesInto_209 : decode cX6_comesInto 209 = .ok (.iastore, 1) := by decide +kernel
theorem dX6_comesInto_210 : decode cX6_comesInto 210 = .ok (.return_, 1) := by decide +kernel
theorem dX6_isIn_0 : decode cX6_isIn 0 = .ok (.iload_n 1, 1) := by decide +kernel
theorem dX6_isIn_1 : decode cX6_isIn 1 = .ok (.iload_n 0, 1) := by decide +kernel
theorem dX6_isIn_2 : decode cX6_isIn 2 = .ok (.ishr, 1) := by decide +kernel
theorem dX6_isIn_3 : decode cX6_isIn 3 = .ok (.iconst 1, 1) := by decide +kernel
theorem dX6_isIn_4 : decode cX6_isIn 4 = .ok (.iand, 1) := by decide +kernel
theorem dX6_isIn_5 : decode cX6_isIn 5 = .ok (.iconst 1, 1) := by decide +kernel
theorem dX6_isIn_6 : decode cX6_isIn 6 = .ok (.if_icmp .ne 7, 3) := by decide +kernel
theorem dX6_isIn_9 : decode cX6_isIn 9 = .ok (.iconst 1, 1) := by decide +kernel
theorem dX6_isIn_10 : decode cX6_isIn 10 = .ok (.goto 4, 3) := by decide +kernel
theorem dX6_isIn_13 : decode cX6_isIn 13 = .ok (.iconst 0, 1) := by decide +kernel
theorem dX6_isIn_14 : decode cX6_isIn 14 = .ok (.ireturn, 1) := by decide +kernel
set_option maxRecDepth 20000 in
theorem ggX6_entering_X6_isIn : GoodIn wsX6_entering wsX6_isIn := goodIn_r _ [11] (by decide +kernel) (by decide +kernel)
set_option maxRecDepth 20000 in
theorem gX6_entering_X6_isIn : GoodIn wsX6_entering (va_wsS RX6 180 yX6_isIn wsX6_isIn) := goodIn_app (goodIn_of _ (by decide +kernel)) ggX6_entering_X6_isIn
theorem dX6_entering_0 : decode cX6_entering 0 = .ok (.iconst 1, 1) := by decide +kernel
theorem dX6_entering_1 : decode cX6_entering 1 = .ok (.istore_n 1, 1) := by decide +kernel
theorem dX6_entering_2 : decode cX6_entering 2 = .ok (.iload_n 1, 1) := by decide +kernel
theorem dX6_entering_3 : decode cX6_entering 3 = .ok (.aload_n 0, 1) := by decide +kernel
theorem dX6_entering_4 : decode cX6_entering 4 = .ok (.getfield 34, 3) := by decide +kernel
theorem dX6_entering_7 : decode cX6_entering 7 = .ok (.if_icmp .ge 35, 3) := by decide +kernel
theorem dX6_entering_10 : decode cX6_entering 10 = .ok (.aload_n 0, 1) := by decide +kernel
theorem dX6_entering_11 : decode cX6_entering 11 = .ok (.getfield 47, 3) := by decide +kernel
theorem dX6_entering_14 : decode cX6_entering 14 = .ok (.iload_n 1, 1) := by decide +kernel
theorem dX6_entering_15 : decode cX6_entering 15 = .ok (.iaload, 1) := by decide +kernel
theorem dX6_entering_16 : decode cX6_entering 16 = .ok (.ifCond .le 20, 3) := by decide +kernel
theorem dX6_entering_19 : decode cX6_entering 19 = .ok (.aload_n 0, 1) := by decide +kernel
theorem dX6_entering_20 : decode cX6_entering 20 = .ok (.getfield 47, 3) := by decide +kernel
theorem dX6_entering_23 : decode cX6_entering 23 = .ok (.iload_n 1, 1) := by decide +kernel
theorem dX6_entering_24 : decode cX6_entering 24 = .ok (.iaload, 1) := by decide +kernel
theorem dX6_entering_25 : decode cX6_entering 25 = .ok (.aload_n 0, 1) := by decide +kernel
theorem dX6_entering_26 : decode cX6_entering 26 = .ok (.getfield 44, 3) := by decide +kernel
theorem dX6_entering_29 : decode cX6_entering 29 = .ok (.iload_n 1, 1) := by decide +kernel
theorem dX6_entering_30 : decode cX6_entering 30 = .ok (.iaload, 1) := by decide +kernel
theorem dX6_entering_31 : decode cX6_entering 31 = .ok (.if_icmp .ge 5, 3) := by decide +kernel
theorem dX6_entering_34 : decode cX6_entering 34 = .ok (.iload_n 1, 1) := by decide +kernel
theorem dX6_entering_35 : decode cX6_entering 35 = .ok (.ireturn, 1) := by decide +kernel
theorem dX6_entering_36 : decode cX6_entering 36 = .ok (.iinc 1 1, 3) := by decide +kernel
theorem dX6_entering_39 : decode cX6_entering 39 = .ok (.goto (-37), 3) := by decide +kernel
theorem dX6_entering_42 : decode cX6_entering 42 = .ok (.aload_n 0, 1) := by decide +kernel
theorem dX6_entering_43 : decode cX6_entering 43 = .ok (.getfield 41, 3) := by decide +kernel
theorem dX6_entering_46 : decode cX6_entering 46 = .ok (.aload_n 0, 1) := by decide +kernel
theorem dX6_entering_47 : decode cX6_entering 47 = .ok (.getfield 71, 3) := by decide +kernel
theorem dX6_entering_50 : decode cX6_entering 50 = .ok (.aload_n 0, 1) := by decide +kernel
theorem dX6_entering_51 : decode cX6_entering 51 = .ok (.getfield 117, 3) := by decide +kernel
theorem dX6_entering_54 : decode cX6_entering 54 = .ok (.iconst 1, 1) := by decide +kernel
theorem dX6_entering_55 : decode cX6_entering 55 = .ok (.isub, 1) := by decide +kernel
theorem dX6_entering_56 : decode cX6_entering 56 = .ok (.iaload, 1) := by decide +kernel
theorem dX6_entering_57 : decode cX6_entering 57 = .ok (.iaload, 1) := by decide +kernel
theorem dX6_entering_58 : decode cX6_entering 58 = .ok (.istore_n 1, 1) := by decide +kernel
theorem dX6_entering_59 : decode cX6_entering 59 = .ok (.iconst 1, 1) := by decide +kernel
theorem dX6_entering_60 : decode cX6_entering 60 = .ok (.istore_n 2, 1) := by decide +kernel
theorem dX6_entering_61 : decode cX6_entering 61 = .ok (.iload_n 2, 1) := by decide +kernel
theorem dX6_entering_62 : decode cX6_entering 62 = .ok (.aload_n 0, 1) := by decide +kernel
theorem dX6_entering_63 : decode cX6_entering 63 = .ok (.getfield 34, 3) := by decide +kernel
theorem dX6_entering_66 : decode cX6_entering 66 = .ok (.if_icmp .ge 56, 3) := by decide +kernel
theorem dX6_entering_69 : decode cX6_entering 69 = .ok (.aload_n 0, 1) := by decide +kernel
theorem dX6_entering_70 : decode cX6_entering 70 = .ok (.getfield 47, 3) := by decide +kernel
theorem dX6_entering_73 : decode cX6_entering 73 = .ok (.iload_n 2, 1) := by decide +kernel
theorem dX6_entering_74 : decode cX6_entering 74 = .ok (.iaload, 1) := by decide +kernel
theorem dX6_entering_75 : decode cX6_entering 75 = .ok (.ifCond .ne 41, 3) := by decide +kernel
theorem dX6_entering_78 : decode cX6_entering 78 = .ok (.aload_n 0, 1) := by decide +kernel
theorem dX6_entering_79 : decode cX6_entering 79 = .ok (.getfield 41, 3) := by decide +kernel
theorem dX6_entering_82 : decode cX6_entering 82 = .ok (.iload_n 2, 1) := by decide +kernel
theorem dX6_entering_83 : decode cX6_entering 83 = .ok (.iaload, 1) := by decide +kernel
theorem dX6_entering_84 : decode cX6_entering 84 = .ok (.aload_n 0, 1) := by decide +kernel
theorem dX6_entering_85 : decode cX6_entering 85 = .ok (.getfield 31, 3) := by decide +kernel
theorem dX6_entering_88 : decode cX6_entering 88 = .ok (.iload_n 1, 1) := by decide +kernel
theorem dX6_entering_89 : decode cX6_entering 89 = .ok (.iaload, 1) := by decide +kernel
theorem dX6_entering_90 : decode cX6_entering 90 = .ok (.invokestatic 180, 3) := by decide +kernel
theorem dX6_entering_93 : decode cX6_entering 93 = .ok (.ifCond .ne 23, 3) := by decide +kernel
theorem dX6_entering_96 : decode cX6_entering 96 = .ok (.iload_n 1, 1) := by decide +kernel
theorem dX6_entering_97 : decode cX6_entering 97 = .ok (.aload_n 0, 1) := by decide +kernel
theorem dX6_entering_98 : decode cX6_entering 98 = .ok (.getfield 31, 3) := by decide +kernel
theorem dX6_entering_101 : decode cX6_entering 101 = .ok (.aload_n 0, 1) := by decide +kernel
theorem dX6_entering_102 : decode cX6_entering 102 = .ok (.getfield 41, 3) := by decide +kernel
theorem dX6_entering_105 : decode cX6_entering 105 = .ok (.iload_n 2, 1) := by decide +kernel
theorem dX6_entering_106 : decode cX6_entering 106 = .ok (.iaload, 1) := by decide +kernel
theorem dX6_entering_107 : decode cX6_entering 107 = .ok (.iaload, 1) := by decide +kernel
theorem dX6_entering_108 : decode cX6_entering 108 = .ok (.invokestatic 180, 3) := by decide +kernel
theorem dX6_entering_111 : decode cX6_entering 111 = .ok (.ifCond .ne 5, 3) := by decide +kernel
theorem dX6_entering_114 : decode cX6_entering 114 = .ok (.iload_n 2, 1) := by decide +kernel
theorem dX6_entering_115 : decode cX6_entering 115 = .ok (.ireturn, 1) := by decide +kernel
theorem dX6_entering_116 : decode cX6_entering 116 = .ok (.iinc 2 1, 3) := by decide +kernel
theorem dX6_entering_119 : decode cX6_entering 119 = .ok (.goto (-58), 3) := by decide +kernel
theorem dX6_entering_122 : decode cX6_entering 122 = .ok (.iconst (-1), 1) := by decide +kernel
theorem dX6_entering_123 : decode cX6_entering 123 = .ok (.ireturn, 1) := by decide +kernel
theorem dX6_clean_0 : decode cX6_clean 0 = .ok (.iconst 0, 1) := by decide +kernel
theorem dX6_clean_1 : decode cX6_clean 1 = .ok (.istore_n 2, 1) := by decide +kernel
theorem dX6_clean_2 : decode cX6_clean 2 = .ok (.iload_n 2, 1) := by decide +kernel
theorem dX6_clean_3 : decode cX6_clean 3 = .ok (.iload_n 1, 1) := by decide +kernel
theorem dX6_clean_4 : decode cX6_clean 4 = .ok (.if_icmp .gt 16, 3) := by decide +kernel
theorem dX6_clean_7 : decode cX6_clean 7 = .ok (.aload_n 0, 1) := by decide +kernel
theorem dX6_clean_8 : decode cX6_clean 8 = .ok (.getfield 19, 3) := by decide +kernel
theorem dX6_clean_11 : decode cX6_clean 11 = .ok (.iload_n 2, 1) := by decide +kernel
theorem dX6_clean_12 : decode cX6_clean 12 = .ok (.iconst 0, 1) := by decide +kernel
theorem dX6_clean_13 : decode cX6_clean 13 = .ok (.iastore, 1) := by decide +kernel
theorem dX6_clean_14 : decode cX6_clean 14 = .ok (.iinc 2 1, 3) := by decide +kernel
theorem dX6_clean_17 : decode cX6_clean 17 = .ok (.goto (-15), 3) := by decide +kernel
theorem dX6_clean_20 : decode cX6_clean 20 = .ok (.aload_n 0, 1) := by decide +kernel
theorem dX6_clean_21 : decode cX6_clean 21 = .ok (.iconst 0, 1) := by decide +kernel
theorem dX6_clean_22 : decode cX6_clean 22 = .ok (.putfield 147, 3) := by decide +kernel
theorem dX6_clean_25 : decode cX6_clean 25 = .ok (.return_, 1) := by decide +kernel
set_option maxRecDepth 20000 in
theorem ggX6_goesAway_X6_clean : GoodIn wsX6_goesAway wsX6_clean := goodIn_r _ [18, 19, 1, 48, 49, 50, 51, 52, 53, 54, 55, 56, 57, 58, 59, 60, 61, 62, 63, 64, 65, 66, 67, 68, 69, 70, 71, 72, 73, 74, 75, 76, 77, 78, 79, 80, 81, 82, 83, 84, 85, 86, 87, 88, 89, 90, 91, 92] (by decide +kernel) (by decide +kernel)
set_option maxRecDepth 20000 in
theorem gX6_goesAway_X6_clean : GoodIn wsX6_goesAway (wsV RX6 183 RX6 yX6_clean wsX6_clean) := goodIn_app (goodIn_of _ (by decide +kernel)) ggX6_goesAway_X6_clean
set_option maxRecDepth 20000 in
theorem ggX6_goesAway_X6_comesInto : GoodIn wsX6_goesAway wsX6_comesInto := goodIn_r _ [23, 24, 25, 26, 27, 28, 29, 30, 31, 32, 33, 34, 17, 35, 36, 37, 38, 39, 40, 11, 12, 13, 41, 42, 43, 44, 45, 46, 47, 48, 49, 50, 51, 52, 53, 54, 55, 56, 57, 58, 59, 60, 61, 62, 63, 64, 65, 66, 67, 68, 69, 70, 71, 72, 73, 74, 75, 76, 77, 78, 79, 80, 81, 82, 83, 84, 85, 86, 87, 88, 89, 90, 91, 92] (by decide +kernel) (by decide +kernel)
set_option maxRecDepth 20000 in
theorem gX6_goesAway_X6_comesInto : GoodIn wsX6_goesAway (wsV RX6 187 RX6 yX6_comesInto wsX6_comesInto) := goodIn_app (goodIn_of _ (by decide +kernel)) ggX6_goesAway_X6_comesInto
set_option maxRecDepth 20000 in
theorem ggX6_goesAway_X6_root : GoodIn wsX6_goesAway wsX6_root := goodIn_r _ [43] (by decide +kernel) (by decide +kernel)
set_option maxRecDepth 20000 in
theorem gX6_goesAway_X6_root : GoodIn wsX6_goesAway (va_wsS RX6 164 yX6_root wsX6_root) := goodIn_app (goodIn_of _ (by decide +kernel)) ggX6_goesAway_X6_root
theorem dX6_goesAway_0 : decode cX6_goesAway 0 = .ok (.aload_n 0, 1) := by decide +kernel
theorem dX6_goesAway_1 : decode cX6_goesAway 1 = .ok (.getfield 147, 3) := by decide +kernel
theorem dX6_goesAway_4 : decode cX6_goesAway 4 = .ok (.ifCond .eq 24, 3) := by decide +kernel
theorem dX6_goesAway_7 : decode cX6_goesAway 7 = .ok (.iload_n 1, 1) := by decide +kernel
theorem dX6_goesAway_8 : decode cX6_goesAway 8 = .ok (.aload_n 0, 1) := by decide +kernel
theorem dX6_goesAway_9 : decode cX6_goesAway 9 = .ok (.getfield 150, 3) := by decide +kernel
theorem dX6_goesAway_12 : decode cX6_goesAway 12 = .ok (.if_icmp .ne 16, 3) := by decide +kernel
theorem dX6_goesAway_15 : decode cX6_goesAway 15 = .ok (.iload_n 2, 1) := by decide +kernel
theorem dX6_goesAway_16 : decode cX6_goesAway 16 = .ok (.aload_n 0, 1) := by decide +kernel
theorem dX6_goesAway_17 : decode cX6_goesAway 17 = .ok (.getfield 153, 3) := by decide +kernel
theorem dX6_goesAway_20 : decode cX6_goesAway 20 = .ok (.if_icmp .ne 8, 3) := by decide +kernel
theorem dX6_goesAway_23 : decode cX6_goesAway 23 = .ok (.aload_n 0, 1) := by decide +kernel
theorem dX6_goesAway_24 : decode cX6_goesAway 24 = .ok (.iload_n 3, 1) := by decide +kernel
theorem dX6_goesAway_25 : decode cX6_goesAway 25 = .ok (.invokevirtual 183, 3) := by decide +kernel
theorem dX6_goesAway_28 : decode cX6_goesAway 28 = .ok (.iload_n 3, 1) := by decide +kernel
theorem dX6_goesAway_29 : decode cX6_goesAway 29 = .ok (.aload_n 0, 1) := by decide +kernel
theorem dX6_goesAway_30 : decode cX6_goesAway 30 = .ok (.getfield 102, 3) := by decide +kernel
theorem dX6_goesAway_33 : decode cX6_goesAway 33 = .ok (.iconst 1, 1) := by decide +kernel
theorem dX6_goesAway_34 : decode cX6_goesAway 34 = .ok (.isub, 1) := by decide +kernel
theorem dX6_goesAway_35 : decode cX6_goesAway 35 = .ok (.if_icmp .ne 26, 3) := by decide +kernel
theorem dX6_goesAway_38 : decode cX6_goesAway 38 = .ok (.aload_n 0, 1) := by decide +kernel
theorem dX6_goesAway_39 : decode cX6_goesAway 39 = .ok (.getfield 50, 3) := by decide +kernel
theorem dX6_goesAway_42 : decode cX6_goesAway 42 = .ok (.iload_n 1, 1) := by decide +kernel
theorem dX6_goesAway_43 : decode cX6_goesAway 43 = .ok (.dup2, 1) := by decide +kernel
theorem dX6_goesAway_44 : decode cX6_goesAway 44 = .ok (.iaload, 1) := by decide +kernel
theorem dX6_goesAway_45 : decode cX6_goesAway 45 = .ok (.iconst 1, 1) := by decide +kernel
theorem dX6_goesAway_46 : decode cX6_goesAway 46 = .ok (.iadd, 1) := by decide +kernel
theorem dX6_goesAway_47 : decode cX6_goesAway 47 = .ok (.iastore, 1) := by decide +kernel
theorem dX6_goesAway_48 : decode cX6_goesAway 48 = .ok (.aload_n 0, 1) := by decide +kernel
theorem dX6_goesAway_49 : decode cX6_goesAway 49 = .ok (.aload_n 0, 1) := by decide +kernel
theorem dX6_goesAway_50 : decode cX6_goesAway 50 = .ok (.getfield 144, 3) := by decide +kernel
theorem dX6_goesAway_53 : decode cX6_goesAway 53 = .ok (.iload_n 1, 1) := by decide +kernel
theorem dX6_goesAway_54 : decode cX6_goesAway 54 = .ok (.iload_n 2, 1) := by decide +kernel
theorem dX6_goesAway_55 : decode cX6_goesAway 55 = .ok (.invokevirtual 187, 3) := by decide +kernel
theorem dX6_goesAway_58 : decode cX6_goesAway 58 = .ok (.goto 43, 3) := by decide +kernel
theorem dX6_goesAway_61 : decode cX6_goesAway 61 = .ok (.aload_n 0, 1) := by decide +kernel
theorem dX6_goesAway_62 : decode cX6_goesAway 62 = .ok (.getfield 191, 3) := by decide +kernel
theorem dX6_goesAway_65 : decode cX6_goesAway 65 = .ok (.ifCond .eq 16, 3) := by decide +kernel
theorem dX6_goesAway_68 : decode cX6_goesAway 68 = .ok (.aload_n 0, 1) := by decide +kernel
theorem dX6_goesAway_69 : decode cX6_goesAway 69 = .ok (.getfield 56, 3) := by decide +kernel
theorem dX6_goesAway_72 : decode cX6_goesAway 72 = .ok (.iload_n 1, 1) := by decide +kernel
theorem dX6_goesAway_73 : decode cX6_goesAway 73 = .ok (.dup2, 1) := by decide +kernel
theorem dX6_goesAway_74 : decode cX6_goesAway 74 = .ok (.iaload, 1) := by decide +kernel
theorem dX6_goesAway_75 : decode cX6_goesAway 75 = .ok (.iconst 1, 1) := by decide +kernel
theorem dX6_goesAway_76 : decode cX6_goesAway 76 = .ok (.iadd, 1) := by decide +kernel
theorem dX6_goesAway_77 : decode cX6_goesAway 77 = .ok (.iastore, 1) := by decide +kernel
theorem dX6_goesAway_78 : decode cX6_goesAway 78 = .ok (.goto 23, 3) := by decide +kernel
theorem dX6_goesAway_81 : decode cX6_goesAway 81 = .ok (.aload_n 0, 1) := by decide +kernel
theorem dX6_goesAway_82 : decode cX6_goesAway 82 = .ok (.getfield 53, 3) := by decide +kernel
theorem dX6_goesAway_85 : decode cX6_goesAway 85 = .ok (.iload_n 1, 1) := by decide +kernel
theorem dX6_goesAway_86 : decode cX6_goesAway 86 = .ok (.dup2, 1) := by decide +kernel
theorem dX6_goesAway_87 : decode cX6_goesAway 87 = .ok (.iaload, 1) := by decide +kernel
theorem dX6_goesAway_88 : decode cX6_goesAway 88 = .ok (.iconst 1, 1) := by decide +kernel
theorem dX6_goesAway_89 : decode cX6_goesAway 89 = .ok (.iadd, 1) := by decide +kernel
theorem dX6_goesAway_90 : decode cX6_goesAway 90 = .ok (.iastore, 1) := by decide +kernel
theorem dX6_goesAway_91 : decode cX6_goesAway 91 = .ok (.aload_n 0, 1) := by decide +kernel
theorem dX6_goesAway_92 : decode cX6_goesAway 92 = .ok (.aload_n 0, 1) := by decide +kernel
theorem dX6_goesAway_93 : decode cX6_goesAway 93 = .ok (.getfield 138, 3) := by decide +kernel
theorem dX6_goesAway_96 : decode cX6_goesAway 96 = .ok (.iload_n 1, 1) := by decide +kernel
theorem dX6_goesAway_97 : decode cX6_goesAway 97 = .ok (.iload_n 2, 1) := by decide +kernel
theorem dX6_goesAway_98 : decode cX6_goesAway 98 = .ok (.invokevirtual 187, 3) := by decide +kernel
theorem dX6_goesAway_101 : decode cX6_goesAway 101 = .ok (.iload_n 2, 1) := by decide +kernel
theorem dX6_goesAway_102 : decode cX6_goesAway 102 = .ok (.ifCond .ne 27, 3) := by decide +kernel
theorem dX6_goesAway_105 : decode cX6_goesAway 105 = .ok (.iload_n 1, 1) := by decide +kernel
theorem dX6_goesAway_106 : decode cX6_goesAway 106 = .ok (.ifCond .le 23, 3) := by decide +kernel
theorem dX6_goesAway_109 : decode cX6_goesAway 109 = .ok (.aload_n 0, 1) := by decide +kernel
theorem dX6_goesAway_110 : decode cX6_goesAway 110 = .ok (.getfield 68, 3) := by decide +kernel
theorem dX6_goesAway_113 : decode cX6_goesAway 113 = .ok (.iload_n 1, 1) := by decide +kernel
theorem dX6_goesAway_114 : decode cX6_goesAway 114 = .ok (.aload_n 0, 1) := by decide +kernel
theorem dX6_goesAway_115 : decode cX6_goesAway 115 = .ok (.getfield 120, 3) := by decide +kernel
theorem dX6_goesAway_118 : decode cX6_goesAway 118 = .ok (.aload_n 0, 1) := by decide +kernel
theorem dX6_goesAway_119 : decode cX6_goesAway 119 = .ok (.getfield 65, 3) := by decide +kernel
theorem dX6_goesAway_122 : decode cX6_goesAway 122 = .ok (.iload_n 1, 1) := by decide +kernel
theorem dX6_goesAway_123 : decode cX6_goesAway 123 = .ok (.iaload, 1) := by decide +kernel
theorem dX6_goesAway_124 : decode cX6_goesAway 124 = .ok (.isub, 1) := by decide +kernel
theorem dX6_goesAway_125 : decode cX6_goesAway 125 = .ok (.invokestatic 164, 3) := by decide +kernel
theorem dX6_goesAway_128 : decode cX6_goesAway 128 = .ok (.iastore, 1) := by decide +kernel
theorem dX6_goesAway_129 : decode cX6_goesAway 129 = .ok (.return_, 1) := by decide +kernel
set_option maxRecDepth 20000 in
theorem ggX6_moves_X6_goesAway : GoodIn wsX6_moves wsX6_goesAway := goodIn_r _ [13, 14, 15, 16, 17, 18, 19, 20, 21, 22, 23, 24, 8, 7, 25, 26, 27, 12, 28, 29, 30, 31, 32, 33, 34, 35, 36, 37, 5, 6, 38, 39, 40, 41, 42, 43, 44, 45, 46, 47, 3, 48, 49, 50, 51, 52, 53, 54, 55, 56, 57, 58, 59, 60, 61, 62, 63, 64, 65, 66, 67, 68, 69, 70, 71, 72, 73, 74, 75, 76, 77, 78, 79, 80, 81, 82, 83, 84, 85, 86, 87, 88, 89, 90, 91, 92, 93, 94, 95, 96, 97, 98, 99] (by decide +kernel) (by decide +kernel)
set_option maxRecDepth 20000 in
theorem gX6_moves_X6_goesAway : GoodIn wsX6_moves (wsV RX6 194 RX6 yX6_goesAway wsX6_goesAway) := goodIn_app (goodIn_of _ (by decide +kernel)) ggX6_moves_X6_goesAway
theorem dX6_moves_0 : decode cX6_moves 0 = .ok (.aload_n 0, 1) := by decide +kernel
theorem dX6_moves_1 : decode cX6_moves 1 = .ok (.aload_n 0, 1) := by decide +kernel
theorem dX6_moves_2 : decode cX6_moves 2 = .ok (.getfield 71, 3) := by decide +kernel
theorem dX6_moves_5 : decode cX6_moves 5 = .ok (.iload_n 2, 1) := by decide +kernel
theorem dX6_moves_6 : decode cX6_moves 6 = .ok (.iaload, 1) := by decide +kernel
theorem dX6_moves_7 : decode cX6_moves 7 = .ok (.aload_n 0, 1) := by decide +kernel
theorem dX6_moves_8 : decode cX6_moves 8 = .ok (.getfield 74, 3) := by decide +kernel
theorem dX6_moves_11 : decode cX6_moves 11 = .ok (.iload_n 2, 1) := by decide +kernel
theorem dX6_moves_12 : decode cX6_moves 12 = .ok (.iaload, 1) := by decide +kernel
theorem dX6_moves_13 : decode cX6_moves 13 = .ok (.iload_n 3, 1) := by decide +kernel
theorem dX6_moves_14 : decode cX6_moves 14 = .ok (.invokevirtual 194, 3) := by decide +kernel
theorem dX6_moves_17 : decode cX6_moves 17 = .ok (.aload_n 0, 1) := by decide +kernel
theorem dX6_moves_18 : decode cX6_moves 18 = .ok (.getfield 47, 3) := by decide +kernel
theorem dX6_moves_21 : decode cX6_moves 21 = .ok (.iload_n 1, 1) := by decide +kernel
theorem dX6_moves_22 : decode cX6_moves 22 = .ok (.iaload, 1) := by decide +kernel
theorem dX6_moves_23 : decode cX6_moves 23 = .ok (.ifCond .ne 42, 3) := by decide +kernel
theorem dX6_moves_26 : decode cX6_moves 26 = .ok (.aload_n 0, 1) := by decide +kernel
theorem dX6_moves_27 : decode cX6_moves 27 = .ok (.getfield 71, 3) := by decide +kernel
theorem dX6_moves_30 : decode cX6_moves 30 = .ok (.aload_n 0, 1) := by decide +kernel
theorem dX6_moves_31 : decode cX6_moves 31 = .ok (.getfield 117, 3) := by decide +kernel
theorem dX6_moves_34 : decode cX6_moves 34 = .ok (.iconst 1, 1) := by decide +kernel
theorem dX6_moves_35 : decode cX6_moves 35 = .ok (.isub, 1) := by decide +kernel
theorem dX6_moves_36 : decode cX6_moves 36 = .ok (.iaload, 1) := by decide +kernel
theorem dX6_moves_37 : decode cX6_moves 37 = .ok (.istore 4, 2) := by decide +kernel
theorem dX6_moves_39 : decode cX6_moves 39 = .ok (.aload_n 0, 1) := by decide +kernel
theorem dX6_moves_40 : decode cX6_moves 40 = .ok (.getfield 59, 3) := by decide +kernel
theorem dX6_moves_43 : decode cX6_moves 43 = .ok (.iload_n 1, 1) := by decide +kernel
theorem dX6_moves_44 : decode cX6_moves 44 = .ok (.iload 4, 2) := by decide +kernel
theorem dX6_moves_46 : decode cX6_moves 46 = .ok (.iastore, 1) := by decide +kernel
theorem dX6_moves_47 : decode cX6_moves 47 = .ok (.aload_n 0, 1) := by decide +kernel
theorem dX6_moves_48 : decode cX6_moves 48 = .ok (.getfield 62, 3) := by decide +kernel
theorem dX6_moves_51 : decode cX6_moves 51 = .ok (.iload 4, 2) := by decide +kernel
theorem dX6_moves_53 : decode cX6_moves 53 = .ok (.iload_n 1, 1) := by decide +kernel
theorem dX6_moves_54 : decode cX6_moves 54 = .ok (.iastore, 1) := by decide +kernel
theorem dX6_moves_55 : decode cX6_moves 55 = .ok (.aload_n 0, 1) := by decide +kernel
theorem dX6_moves_56 : decode cX6_moves 56 = .ok (.getfield 65, 3) := by decide +kernel
theorem dX6_moves_59 : decode cX6_moves 59 = .ok (.iload_n 1, 1) := by decide +kernel
theorem dX6_moves_60 : decode cX6_moves 60 = .ok (.aload_n 0, 1) := by decide +kernel
theorem dX6_moves_61 : decode cX6_moves 61 = .ok (.getfield 120, 3) := by decide +kernel
theorem dX6_moves_64 : decode cX6_moves 64 = .ok (.iastore, 1) := by decide +kernel
theorem dX6_moves_65 : decode cX6_moves 65 = .ok (.iload_n 2, 1) := by decide +kernel
theorem dX6_moves_66 : decode cX6_moves 66 = .ok (.istore 4, 2) := by decide +kernel
theorem dX6_moves_68 : decode cX6_moves 68 = .ok (.iload 4, 2) := by decide +kernel
theorem dX6_moves_70 : decode cX6_moves 70 = .ok (.aload_n 0, 1) := by decide +kernel
theorem dX6_moves_71 : decode cX6_moves 71 = .ok (.getfield 117, 3) := by decide +kernel
theorem dX6_moves_74 : decode cX6_moves 74 = .ok (.iconst 1, 1) := by decide +kernel
theorem dX6_moves_75 : decode cX6_moves 75 = .ok (.isub, 1) := by decide +kernel
theorem dX6_moves_76 : decode cX6_moves 76 = .ok (.if_icmp .ge 41, 3) := by decide +kernel
theorem dX6_moves_79 : decode cX6_moves 79 = .ok (.aload_n 0, 1) := by decide +kernel
theorem dX6_moves_80 : decode cX6_moves 80 = .ok (.getfield 71, 3) := by decide +kernel
theorem dX6_moves_83 : decode cX6_moves 83 = .ok (.iload 4, 2) := by decide +kernel
theorem dX6_moves_85 : decode cX6_moves 85 = .ok (.aload_n 0, 1) := by decide +kernel
theorem dX6_moves_86 : decode cX6_moves 86 = .ok (.getfield 71, 3) := by decide +kernel
theorem dX6_moves_89 : decode cX6_moves 89 = .ok (.iload 4, 2) := by decide +kernel
theorem dX6_moves_91 : decode cX6_moves 91 = .ok (.iconst 1, 1) := by decide +kernel
theorem dX6_moves_92 : decode cX6_moves 92 = .ok (.iadd, 1) := by decide +kernel
theorem dX6_moves_93 : decode cX6_moves 93 = .ok (.iaload, 1) := by decide +kernel
theorem dX6_moves_94 : decode cX6_moves 94 = .ok (.iastore, 1) := by decide +kernel
theorem dX6_moves_95 : decode cX6_moves 95 = .ok (.aload_n 0, 1) := by decide +kernel
theorem dX6_moves_96 : decode cX6_moves 96 = .ok (.getfield 74, 3) := by decide +kernel
theorem dX6_moves_99 : decode cX6_moves 99 = .ok (.iload 4, 2) := by decide +kernel
theorem dX6_moves_101 : decode cX6_moves 101 = .ok (.aload_n 0, 1) := by decide +kernel
theorem dX6_moves_102 : decode cX6_moves 102 = .ok (.getfield 74, 3) := by decide +kernel
theorem dX6_moves_105 : decode cX6_moves 105 = .ok (.iload 4, 2) := by decide +kernel
theorem dX6_moves_107 : decode cX6_moves 107 = .ok (.iconst 1, 1) := by decide +kernel
theorem dX6_moves_108 : decode cX6_moves 108 = .ok (.iadd, 1) := by decide +kernel
theorem dX6_moves_109 : decode cX6_moves 109 = .ok (.iaload, 1) := by decide +kernel
theorem dX6_moves_110 : decode cX6_moves 110 = .ok (.iastore, 1) := by decide +kernel
theorem dX6_moves_111 : decode cX6_moves 111 = .ok (.iinc 4 1, 3) := by decide +kernel
theorem dX6_moves_114 : decode cX6_moves 114 = .ok (.goto (-46), 3) := by decide +kernel
theorem dX6_moves_117 : decode cX6_moves 117 = .ok (.aload_n 0, 1) := by decide +kernel
theorem dX6_moves_118 : decode cX6_moves 118 = .ok (.getfield 71, 3) := by decide +kernel
theorem dX6_moves_121 : decode cX6_moves 121 = .ok (.aload_n 0, 1) := by decide +kernel
theorem dX6_moves_122 : decode cX6_moves 122 = .ok (.getfield 117, 3) := by decide +kernel
theorem dX6_moves_125 : decode cX6_moves 125 = .ok (.iconst 1, 1) := by decide +kernel
theorem dX6_moves_126 : decode cX6_moves 126 = .ok (.isub, 1) := by decide +kernel
theorem dX6_moves_127 : decode cX6_moves 127 = .ok (.iload_n 1, 1) := by decide +kernel
theorem dX6_moves_128 : decode cX6_moves 128 = .ok (.iastore, 1) := by decide +kernel
theorem dX6_moves_129 : decode cX6_moves 129 = .ok (.aload_n 0, 1) := by decide +kernel
theorem dX6_moves_130 : decode cX6_moves 130 = .ok (.getfield 74, 3) := by decide +kernel
theorem dX6_moves_133 : decode cX6_moves 133 = .ok (.aload_n 0, 1) := by decide +kernel
theorem dX6_moves_134 : decode cX6_moves 134 = .ok (.getfield 117, 3) := by decide +kernel
theorem dX6_moves_137 : decode cX6_moves 137 = .ok (.iconst 1, 1) := by decide +kernel
theorem dX6_moves_138 : decode cX6_moves 138 = .ok (.isub, 1) := by decide +kernel
theorem dX6_moves_139 : decode cX6_moves 139 = .ok (.aload_n 0, 1) := by decide +kernel
theorem dX6_moves_140 : decode cX6_moves 140 = .ok (.getfield 47, 3) := by decide +kernel
theorem dX6_moves_143 : decode cX6_moves 143 = .ok (.iload_n 1, 1) := by decide +kernel
theorem dX6_moves_144 : decode cX6_moves 144 = .ok (.iaload, 1) := by decide +kernel
theorem dX6_moves_145 : decode cX6_moves 145 = .ok (.iastore, 1) := by decide +kernel
theorem dX6_moves_146 : decode cX6_moves 146 = .ok (.aload_n 0, 1) := by decide +kernel
theorem dX6_moves_147 : decode cX6_moves 147 = .ok (.getfield 47, 3) := by decide +kernel
theorem dX6_moves_150 : decode cX6_moves 150 = .ok (.iload_n 1, 1) := by decide +kernel
theorem dX6_moves_151 : decode cX6_moves 151 = .ok (.dup2, 1) := by decide +kernel
theorem dX6_moves_152 : decode cX6_moves 152 = .ok (.iaload, 1) := by decide +kernel
theorem dX6_moves_153 : decode cX6_moves 153 = .ok (.iconst 1, 1) := by decide +kernel
theorem dX6_moves_154 : decode cX6_moves 154 = .ok (.iadd, 1) := by decide +kernel
theorem dX6_moves_155 : decode cX6_moves 155 = .ok (.iastore, 1) := by decide +kernel
theorem dX6_moves_156 : decode cX6_moves 156 = .ok (.aload_n 0, 1) := by decide +kernel
theorem dX6_moves_157 : decode cX6_moves 157 = .ok (.dup, 1) := by decide +kernel
theorem dX6_moves_158 : decode cX6_moves 158 = .ok (.getfield 120, 3) := by decide +kernel
theorem dX6_moves_161 : decode cX6_moves 161 = .ok (.iconst 1, 1) := by decide +kernel
theorem dX6_moves_162 : decode cX6_moves 162 = .ok (.iadd, 1) := by decide +kernel
theorem dX6_moves_163 : decode cX6_moves 163 = .ok (.putfield 120, 3) := by decide +kernel
theorem dX6_moves_166 : decode cX6_moves 166 = .ok (.return_, 1) := by decide +kernel
set_option maxRecDepth 20000 in
theorem ggX6_passesMinute_X6_rateThatGoes : GoodIn wsX6_passesMinute wsX6_rateThatGoes := goodIn_r _ [15, 16, 8, 17, 18, 19, 20, 14, 21, 22, 23, 24, 25, 9, 26, 27, 28, 29, 30, 31, 94, 95, 96, 97, 98, 99, 100, 101, 102, 103, 104, 105, 106, 107, 108, 109, 110, 111, 112, 113, 114, 115, 116, 117, 118, 119, 120, 121, 122, 123, 124, 125, 126, 127, 128, 129, 130, 131, 132, 133, 134, 135, 136, 137, 138] (by decide +kernel) (by decide +kernel)
set_option maxRecDepth 20000 in
theorem gX6_passesMinute_X6_rateThatGoes : GoodIn wsX6_passesMinute (wsV RX6 200 RX6 yX6_rateThatGoes wsX6_rateThatGoes) := goodIn_app (goodIn_of _ (by decide +kernel)) ggX6_passesMinute_X6_rateThatGoes
set_option maxRecDepth 20000 in
theorem ggX6_passesMinute_X6_entering : GoodIn wsX6_passesMinute wsX6_entering := goodIn_r _ [35, 36, 37, 38, 24, 25, 39, 40, 41, 42, 14, 43, 94, 95, 96, 97, 98, 99, 100, 101, 102, 103, 104, 105, 106, 107, 108, 109, 110, 111, 112, 113, 114, 115, 116, 117, 118, 119, 120, 121, 122, 123, 124, 125, 126, 127, 128, 129, 130, 131, 132, 133, 134, 135, 136, 137, 138] (by decide +kernel) (by decide +kernel)
set_option maxRecDepth 20000 in
theorem gX6_passesMinute_X6_entering : GoodIn wsX6_passesMinute (wsV RX6 207 RX6 yX6_entering wsX6_entering) := goodIn_app (goodIn_of _ (by decide +kernel)) ggX6_passesMinute_X6_entering
set_option maxRecDepth 20000 in
theorem ggX6_passesMinute_X6_lastOf : GoodIn wsX6_passesMinute wsX6_lastOf := goodIn_r _ [31, 8, 22, 94, 95, 96, 97, 98, 99, 100, 101, 102, 103, 104, 105, 106, 107, 108, 109, 110, 111, 112, 113, 114, 115, 116, 117, 118, 119, 120, 121, 122, 123, 124, 125, 126, 127, 128, 129, 130, 131, 132, 133, 134, 135, 136, 137, 138] (by decide +kernel) (by decide +kernel)
set_option maxRecDepth 20000 in
theorem gX6_passesMinute_X6_lastOf : GoodIn wsX6_passesMinute (wsV RX6 156 RX6 yX6_lastOf wsX6_lastOf) := goodIn_app (goodIn_of _ (by decide +kernel)) ggX6_passesMinute_X6_lastOf
set_option maxRecDepth 20000 in
theorem ggX6_passesMinute_X6_moves : GoodIn wsX6_passesMinute wsX6_moves := goodIn_r _ [47, 25, 48, 37, 39, 49, 50, 51, 52, 53, 54, 55, 14, 56, 57, 58, 59, 8, 60, 61, 5, 62, 63, 64, 65, 66, 67, 68, 69, 9, 70, 71, 72, 73, 74, 75, 76, 24, 77, 78, 79, 80, 81, 82, 83, 84, 85, 86, 87, 88, 89, 90, 91, 92, 93, 94, 95, 96, 97, 98, 99, 100, 101, 102, 103, 104, 105, 106, 107, 108, 109, 110, 111, 112, 113, 114, 115, 116, 117, 118, 119, 120, 121, 122, 123, 124, 125, 126, 127, 128, 129, 130, 131, 132, 133, 134, 135, 136, 137, 138] (by decide +kernel) (by decide +kernel)
set_option maxRecDepth 20000 in
theorem gX6_passesMinute_X6_moves : GoodIn wsX6_passesMinute (wsV RX6 210 RX6 yX6_moves wsX6_moves) := goodIn_app (goodIn_of _ (by decide +kernel)) ggX6_passesMinute_X6_moves
theorem dX6_passesMinute_0 : decode cX6_passesMinute 0 = .ok (.aload_n 0, 1) := by decide +kernel
theorem dX6_passesMinute_1 : decode cX6_passesMinute 1 = .ok (.dup, 1) := by decide +kernel
theorem dX6_passesMinute_2 : decode cX6_passesMinute 2 = .ok (.getfield 197, 3) := by decide +kernel
theorem dX6_passesMinute_5 : decode cX6_passesMinute 5 = .ok (.iconst 1, 1) := by decide +kernel
theorem dX6_passesMinute_6 : decode cX6_passesMinute 6 = .ok (.iadd, 1) := by decide +kernel
theorem dX6_passesMinute_7 : decode cX6_passesMinute 7 = .ok (.putfield 197, 3) := by decide +kernel
theorem dX6_passesMinute_10 : decode cX6_passesMinute 10 = .ok (.aload_n 0, 1) := by decide +kernel
theorem dX6_passesMinute_11 : decode cX6_passesMinute 11 = .ok (.aload_n 0, 1) := by decide +kernel
theorem dX6_passesMinute_12 : decode cX6_passesMinute 12 = .ok (.invokevirtual 200, 3) := by decide +kernel
theorem dX6_passesMinute_15 : decode cX6_passesMinute 15 = .ok (.putfield 204, 3) := by decide +kernel
theorem dX6_passesMinute_18 : decode cX6_passesMinute 18 = .ok (.iconst 0, 1) := by decide +kernel
theorem dX6_passesMinute_19 : decode cX6_passesMinute 19 = .ok (.istore_n 1, 1) := by decide +kernel
theorem dX6_passesMinute_20 : decode cX6_passesMinute 20 = .ok (.iconst 0, 1) := by decide +kernel
theorem dX6_passesMinute_21 : decode cX6_passesMinute 21 = .ok (.istore_n 2, 1) := by decide +kernel
theorem dX6_passesMinute_22 : decode cX6_passesMinute 22 = .ok (.iconst 0, 1) := by decide +kernel
theorem dX6_passesMinute_23 : decode cX6_passesMinute 23 = .ok (.istore_n 3, 1) := by decide +kernel
theorem dX6_passesMinute_24 : decode cX6_passesMinute 24 = .ok (.iconst 1, 1) := by decide +kernel
theorem dX6_passesMinute_25 : decode cX6_passesMinute 25 = .ok (.istore 4, 2) := by decide +kernel
theorem dX6_passesMinute_27 : decode cX6_passesMinute 27 = .ok (.iconst 0, 1) := by decide +kernel
theorem dX6_passesMinute_28 : decode cX6_passesMinute 28 = .ok (.istore 5, 2) := by decide +kernel
theorem dX6_passesMinute_30 : decode cX6_passesMinute 30 = .ok (.iload 5, 2) := by decide +kernel
theorem dX6_passesMinute_32 : decode cX6_passesMinute 32 = .ok (.aload_n 0, 1) := by decide +kernel
theorem dX6_passesMinute_33 : decode cX6_passesMinute 33 = .ok (.getfield 204, 3) := by decide +kernel
theorem dX6_passesMinute_36 : decode cX6_passesMinute 36 = .ok (.if_icmp .ge 172, 3) := by decide +kernel
theorem dX6_passesMinute_39 : decode cX6_passesMinute 39 = .ok (.iload 4, 2) := by decide +kernel
theorem dX6_passesMinute_41 : decode cX6_passesMinute 41 = .ok (.ifCond .eq 167, 3) := by decide +kernel
theorem dX6_passesMinute_44 : decode cX6_passesMinute 44 = .ok (.aload_n 0, 1) := by decide +kernel
theorem dX6_passesMinute_45 : decode cX6_passesMinute 45 = .ok (.invokevirtual 207, 3) := by decide +kernel
theorem dX6_passesMinute_48 : decode cX6_passesMinute 48 = .ok (.istore 6, 2) := by decide +kernel
theorem dX6_passesMinute_50 : decode cX6_passesMinute 50 = .ok (.iload 6, 2) := by decide +kernel
theorem dX6_passesMinute_52 : decode cX6_passesMinute 52 = .ok (.iconst (-1), 1) := by decide +kernel
theorem dX6_passesMinute_53 : decode cX6_passesMinute 53 = .ok (.if_icmp .eq 7, 3) := by decide +kernel
theorem dX6_passesMinute_56 : decode cX6_passesMinute 56 = .ok (.iconst 1, 1) := by decide +kernel
theorem dX6_passesMinute_57 : decode cX6_passesMinute 57 = .ok (.goto 4, 3) := by decide +kernel
theorem dX6_passesMinute_60 : decode cX6_passesMinute 60 = .ok (.iconst 0, 1) := by decide +kernel
theorem dX6_passesMinute_61 : decode cX6_passesMinute 61 = .ok (.istore 4, 2) := by decide +kernel
theorem dX6_passesMinute_63 : decode cX6_passesMinute 63 = .ok (.iload 4, 2) := by decide +kernel
theorem dX6_passesMinute_65 : decode cX6_passesMinute 65 = .ok (.ifCond .eq 137, 3) := by decide +kernel
theorem dX6_passesMinute_68 : decode cX6_passesMinute 68 = .ok (.aload_n 0, 1) := by decide +kernel
theorem dX6_passesMinute_69 : decode cX6_passesMinute 69 = .ok (.aload_n 0, 1) := by decide +kernel
theorem dX6_passesMinute_70 : decode cX6_passesMinute 70 = .ok (.getfield 80, 3) := by decide +kernel
theorem dX6_passesMinute_73 : decode cX6_passesMinute 73 = .ok (.iconst (-1), 1) := by decide +kernel
theorem dX6_passesMinute_74 : decode cX6_passesMinute 74 = .ok (.if_icmp .eq 15, 3) := by decide +kernel
theorem dX6_passesMinute_77 : decode cX6_passesMinute 77 = .ok (.iload_n 2, 1) := by decide +kernel
theorem dX6_passesMinute_78 : decode cX6_passesMinute 78 = .ok (.aload_n 0, 1) := by decide +kernel
theorem dX6_passesMinute_79 : decode cX6_passesMinute 79 = .ok (.getfield 141, 3) := by decide +kernel
theorem dX6_passesMinute_82 : decode cX6_passesMinute 82 = .ok (.if_icmp .ge 7, 3) := by decide +kernel
theorem dX6_passesMinute_85 : decode cX6_passesMinute 85 = .ok (.iconst 1, 1) := by decide +kernel
theorem dX6_passesMinute_86 : decode cX6_passesMinute 86 = .ok (.goto 4, 3) := by decide +kernel
theorem dX6_passesMinute_89 : decode cX6_passesMinute 89 = .ok (.iconst 0, 1) := by decide +kernel
theorem dX6_passesMinute_90 : decode cX6_passesMinute 90 = .ok (.putfield 191, 3) := by decide +kernel
theorem dX6_passesMinute_93 : decode cX6_passesMinute 93 = .ok (.aload_n 0, 1) := by decide +kernel
theorem dX6_passesMinute_94 : decode cX6_passesMinute 94 = .ok (.getfield 191, 3) := by decide +kernel
theorem dX6_passesMinute_97 : decode cX6_passesMinute 97 = .ok (.ifCond .ne 23, 3) := by decide +kernel
theorem dX6_passesMinute_100 : decode cX6_passesMinute 100 = .ok (.aload_n 0, 1) := by decide +kernel
theorem dX6_passesMinute_101 : decode cX6_passesMinute 101 = .ok (.getfield 77, 3) := by decide +kernel
theorem dX6_passesMinute_104 : decode cX6_passesMinute 104 = .ok (.iconst (-1), 1) := by decide +kernel
theorem dX6_passesMinute_105 : decode cX6_passesMinute 105 = .ok (.if_icmp .eq 15, 3) := by decide +kernel
theorem dX6_passesMinute_108 : decode cX6_passesMinute 108 = .ok (.iload_n 3, 1) := by decide +kernel
theorem dX6_passesMinute_109 : decode cX6_passesMinute 109 = .ok (.aload_n 0, 1) := by decide +kernel
theorem dX6_passesMinute_110 : decode cX6_passesMinute 110 = .ok (.getfield 135, 3) := by decide +kernel
theorem dX6_passesMinute_113 : decode cX6_passesMinute 113 = .ok (.if_icmp .ge 7, 3) := by decide +kernel
theorem dX6_passesMinute_116 : decode cX6_passesMinute 116 = .ok (.iconst 1, 1) := by decide +kernel
theorem dX6_passesMinute_117 : decode cX6_passesMinute 117 = .ok (.goto 4, 3) := by decide +kernel
theorem dX6_passesMinute_120 : decode cX6_passesMinute 120 = .ok (.iconst 0, 1) := by decide +kernel
theorem dX6_passesMinute_121 : decode cX6_passesMinute 121 = .ok (.istore 7, 2) := by decide +kernel
theorem dX6_passesMinute_123 : decode cX6_passesMinute 123 = .ok (.aload_n 0, 1) := by decide +kernel
theorem dX6_passesMinute_124 : decode cX6_passesMinute 124 = .ok (.getfield 191, 3) := by decide +kernel
theorem dX6_passesMinute_127 : decode cX6_passesMinute 127 = .ok (.ifCond .eq 10, 3) := by decide +kernel
theorem dX6_passesMinute_130 : decode cX6_passesMinute 130 = .ok (.aload_n 0, 1) := by decide +kernel
theorem dX6_passesMinute_131 : decode cX6_passesMinute 131 = .ok (.getfield 80, 3) := by decide +kernel
theorem dX6_passesMinute_134 : decode cX6_passesMinute 134 = .ok (.goto 21, 3) := by decide +kernel
theorem dX6_passesMinute_137 : decode cX6_passesMinute 137 = .ok (.iload 7, 2) := by decide +kernel
theorem dX6_passesMinute_139 : decode cX6_passesMinute 139 = .ok (.ifCond .eq 10, 3) := by decide +kernel
theorem dX6_passesMinute_142 : decode cX6_passesMinute 142 = .ok (.aload_n 0, 1) := by decide +kernel
theorem dX6_passesMinute_143 : decode cX6_passesMinute 143 = .ok (.getfield 77, 3) := by decide +kernel
theorem dX6_passesMinute_146 : decode cX6_passesMinute 146 = .ok (.goto 9, 3) := by decide +kernel
theorem dX6_passesMinute_149 : decode cX6_passesMinute 149 = .ok (.aload_n 0, 1) := by decide +kernel
theorem dX6_passesMinute_150 : decode cX6_passesMinute 150 = .ok (.getfield 102, 3) := by decide +kernel
theorem dX6_passesMinute_153 : decode cX6_passesMinute 153 = .ok (.iconst 1, 1) := by decide +kernel
theorem dX6_passesMinute_154 : decode cX6_passesMinute 154 = .ok (.isub, 1) := by decide +kernel
theorem dX6_passesMinute_155 : decode cX6_passesMinute 155 = .ok (.istore 8, 2) := by decide +kernel
theorem dX6_passesMinute_157 : decode cX6_passesMinute 157 = .ok (.iload_n 2, 1) := by decide +kernel
theorem dX6_passesMinute_158 : decode cX6_passesMinute 158 = .ok (.aload_n 0, 1) := by decide +kernel
theorem dX6_passesMinute_159 : decode cX6_passesMinute 159 = .ok (.getfield 191, 3) := by decide +kernel
theorem dX6_passesMinute_162 : decode cX6_passesMinute 162 = .ok (.ifCond .eq 7, 3) := by decide +kernel
theorem dX6_passesMinute_165 : decode cX6_passesMinute 165 = .ok (.iconst 1, 1) := by decide +kernel
theorem dX6_passesMinute_166 : decode cX6_passesMinute 166 = .ok (.goto 4, 3) := by decide +kernel
theorem dX6_passesMinute_169 : decode cX6_passesMinute 169 = .ok (.iconst 0, 1) := by decide +kernel
theorem dX6_passesMinute_170 : decode cX6_passesMinute 170 = .ok (.iadd, 1) := by decide +kernel
theorem dX6_passesMinute_171 : decode cX6_passesMinute 171 = .ok (.istore_n 2, 1) := by decide +kernel
theorem dX6_passesMinute_172 : decode cX6_passesMinute 172 = .ok (.iload_n 3, 1) := by decide +kernel
theorem dX6_passesMinute_173 : decode cX6_passesMinute 173 = .ok (.iload 7, 2) := by decide +kernel
theorem dX6_passesMinute_175 : decode cX6_passesMinute 175 = .ok (.ifCond .eq 7, 3) := by decide +kernel
theorem dX6_passesMinute_178 : decode cX6_passesMinute 178 = .ok (.iconst 1, 1) := by decide +kernel
theorem dX6_passesMinute_179 : decode cX6_passesMinute 179 = .ok (.goto 4, 3) := by decide +kernel
theorem dX6_passesMinute_182 : decode cX6_passesMinute 182 = .ok (.iconst 0, 1) := by decide +kernel
theorem dX6_passesMinute_183 : decode cX6_passesMinute 183 = .ok (.iadd, 1) := by decide +kernel
theorem dX6_passesMinute_184 : decode cX6_passesMinute 184 = .ok (.istore_n 3, 1) := by decide +kernel
theorem dX6_passesMinute_185 : decode cX6_passesMinute 185 = .ok (.iinc 1 1, 3) := by decide +kernel
theorem dX6_passesMinute_188 : decode cX6_passesMinute 188 = .ok (.aload_n 0, 1) := by decide +kernel
theorem dX6_passesMinute_189 : decode cX6_passesMinute 189 = .ok (.iload 6, 2) := by decide +kernel
theorem dX6_passesMinute_191 : decode cX6_passesMinute 191 = .ok (.aload_n 0, 1) := by decide +kernel
theorem dX6_passesMinute_192 : decode cX6_passesMinute 192 = .ok (.iload 8, 2) := by decide +kernel
theorem dX6_passesMinute_194 : decode cX6_passesMinute 194 = .ok (.invokevirtual 156, 3) := by decide +kernel
theorem dX6_passesMinute_197 : decode cX6_passesMinute 197 = .ok (.iload 8, 2) := by decide +kernel
theorem dX6_passesMinute_199 : decode cX6_passesMinute 199 = .ok (.invokevirtual 210, 3) := by decide +kernel
theorem dX6_passesMinute_202 : decode cX6_passesMinute 202 = .ok (.iinc 5 1, 3) := by decide +kernel
theorem dX6_passesMinute_205 : decode cX6_passesMinute 205 = .ok (.goto (-175), 3) := by decide +kernel
theorem dX6_passesMinute_208 : decode cX6_passesMinute 208 = .ok (.iconst 0, 1) := by decide +kernel
theorem dX6_passesMinute_209 : decode cX6_passesMinute 209 = .ok (.istore 5, 2) := by decide +kernel
theorem dX6_passesMinute_211 : decode cX6_passesMinute 211 = .ok (.iload 5, 2) := by decide +kernel
theorem dX6_passesMinute_213 : decode cX6_passesMinute 213 = .ok (.aload_n 0, 1) := by decide +kernel
theorem dX6_passesMinute_214 : decode cX6_passesMinute 214 = .ok (.getfield 102, 3) := by decide +kernel
theorem dX6_passesMinute_217 : decode cX6_passesMinute 217 = .ok (.if_icmp .ge 41, 3) := by decide +kernel
theorem dX6_passesMinute_220 : decode cX6_passesMinute 220 = .ok (.iload_n 1, 1) := by decide +kernel
theorem dX6_passesMinute_221 : decode cX6_passesMinute 221 = .ok (.ifCond .le 37, 3) := by decide +kernel
theorem dX6_passesMinute_224 : decode cX6_passesMinute 224 = .ok (.aload_n 0, 1) := by decide +kernel
theorem dX6_passesMinute_225 : decode cX6_passesMinute 225 = .ok (.getfield 19, 3) := by decide +kernel
theorem dX6_passesMinute_228 : decode cX6_passesMinute 228 = .ok (.iload 5, 2) := by decide +kernel
theorem dX6_passesMinute_230 : decode cX6_passesMinute 230 = .ok (.dup2, 1) := by decide +kernel
theorem dX6_passesMinute_231 : decode cX6_passesMinute 231 = .ok (.iaload, 1) := by decide +kernel
theorem dX6_passesMinute_232 : decode cX6_passesMinute 232 = .ok (.aload_n 0, 1) := by decide +kernel
theorem dX6_passesMinute_233 : decode cX6_passesMinute 233 = .ok (.getfield 19, 3) := by decide +kernel
theorem dX6_passesMinute_236 : decode cX6_passesMinute 236 = .ok (.iload 5, 2) := by decide +kernel
theorem dX6_passesMinute_238 : decode cX6_passesMinute 238 = .ok (.iaload, 1) := by decide +kernel
theorem dX6_passesMinute_239 : decode cX6_passesMinute 239 = .ok (.sipush 200, 3) := by decide +kernel
theorem dX6_passesMinute_242 : decode cX6_passesMinute 242 = .ok (.if_icmp .ge 7, 3) := by decide +kernel
theorem dX6_passesMinute_245 : decode cX6_passesMinute 245 = .ok (.iconst 1, 1) := by decide +kernel
theorem dX6_passesMinute_246 : decode cX6_passesMinute 246 = .ok (.goto 4, 3) := by decide +kernel
theorem dX6_passesMinute_249 : decode cX6_passesMinute 249 = .ok (.iconst 0, 1) := by decide +kernel
theorem dX6_passesMinute_250 : decode cX6_passesMinute 250 = .ok (.iadd, 1) := by decide +kernel
theorem dX6_passesMinute_251 : decode cX6_passesMinute 251 = .ok (.iastore, 1) := by decide +kernel
theorem dX6_passesMinute_252 : decode cX6_passesMinute 252 = .ok (.iinc 5 1, 3) := by decide +kernel
theorem dX6_passesMinute_255 : decode cX6_passesMinute 255 = .ok (.goto (-44), 3) := by decide +kernel
theorem dX6_passesMinute_258 : decode cX6_passesMinute 258 = .ok (.aload_n 0, 1) := by decide +kernel
theorem dX6_passesMinute_259 : decode cX6_passesMinute 259 = .ok (.getfield 92, 3) := by decide +kernel
theorem dX6_passesMinute_262 : decode cX6_passesMinute 262 = .ok (.aload_n 0, 1) := by decide +kernel
theorem dX6_passesMinute_263 : decode cX6_passesMinute 263 = .ok (.getfield 197, 3) := by decide +kernel
theorem dX6_passesMinute_266 : decode cX6_passesMinute 266 = .ok (.iconst 5, 1) := by decide +kernel
theorem dX6_passesMinute_267 : decode cX6_passesMinute 267 = .ok (.irem, 1) := by decide +kernel
theorem dX6_passesMinute_268 : decode cX6_passesMinute 268 = .ok (.iload_n 2, 1) := by decide +kernel
theorem dX6_passesMinute_269 : decode cX6_passesMinute 269 = .ok (.iastore, 1) := by decide +kernel
theorem dX6_passesMinute_270 : decode cX6_passesMinute 270 = .ok (.iload_n 1, 1) := by decide +kernel
theorem dX6_passesMinute_271 : decode cX6_passesMinute 271 = .ok (.ireturn, 1) := by decide +kernel
set_option maxRecDepth 20000 in
theorem ggX6_pass_X6_isBetween : GoodIn wsX6_pass wsX6_isBetween := goodIn_r _ [6] (by decide +kernel) (by decide +kernel)
set_option maxRecDepth 20000 in
theorem gX6_pass_X6_isBetween : GoodIn wsX6_pass (va_wsS RX6 98 yX6_isBetween wsX6_isBetween) := goodIn_app (goodIn_of _ (by decide +kernel)) ggX6_pass_X6_isBetween
set_option maxRecDepth 20000 in
theorem ggX6_pass_X6_goes : GoodIn wsX6_pass wsX6_goes := goodIn_r _ [10, 11, 107, 108, 109, 110, 111, 112, 113, 114, 115, 116, 117, 118, 119, 120, 121, 122, 123, 124, 125, 126, 127, 128, 129, 130, 131, 132, 133, 134, 135, 136, 137, 138, 139, 140, 141, 142, 143, 144, 145, 146, 147, 148, 149, 150, 151] (by decide +kernel) (by decide +kernel)
set_option maxRecDepth 20000 in
theorem gX6_pass_X6_goes : GoodIn wsX6_pass (wsV RX6 109 RX6 yX6_goes wsX6_goes) := goodIn_app (goodIn_of _ (by decide +kernel)) ggX6_pass_X6_goes
set_option maxRecDepth 20000 in
theorem ggX6_pass_X6_passesMinute : GoodIn wsX6_pass wsX6_passesMinute := goodIn_r _ [15, 2, 16, 17, 18, 19, 20, 21, 22, 23, 24, 25, 26, 27, 5, 28, 29, 30, 31, 32, 33, 34, 35, 36, 37, 38, 39, 40, 41, 42, 43, 44, 45, 46, 47, 48, 49, 50, 51, 52, 53, 54, 55, 56, 57, 58, 59, 60, 61, 62, 63, 64, 65, 66, 67, 68, 69, 70, 71, 72, 73, 74, 75, 76, 77, 78, 79, 80, 81, 82, 83, 84, 85, 86, 87, 88, 89, 90, 91, 92, 93, 94, 95, 96, 97, 98, 99, 100, 101, 102, 103, 104, 105, 106, 107, 108, 109, 110, 111, 112, 113, 114, 115, 116, 117, 118, 119, 120, 121, 122, 123, 124, 125, 126, 127, 128, 129, 130, 131, 132, 133, 134, 135, 136, 137, 138, 139, 140, 141, 142, 143, 144, 145, 146, 147, 148, 149, 150, 151] (by decide +kernel) (by decide +kernel)
set_option maxRecDepth 20000 in
theorem gX6_pass_X6_passesMinute : GoodIn wsX6_pass (wsV RX6 213 RX6 yX6_passesMinute wsX6_passesMinute) := goodIn_app (goodIn_of _ (by decide +kernel)) ggX6_pass_X6_passesMinute
theorem dX6_pass_0 : decode cX6_pass 0 = .ok (.aload_n 0, 1) := by decide +kernel
theorem dX6_pass_1 : decode cX6_pass 1 = .ok (.iload_n 1, 1) := by decide +kernel
theorem dX6_pass_2 : decode cX6_pass 2 = .ok (.iconst 1, 1) := by decide +kernel
theorem dX6_pass_3 : decode cX6_pass 3 = .ok (.bipush 60, 2) := by decide +kernel
theorem dX6_pass_5 : decode cX6_pass 5 = .ok (.invokestatic 98, 3) := by decide +kernel
theorem dX6_pass_8 : decode cX6_pass 8 = .ok (.aload_n 0, 1) := by decide +kernel
theorem dX6_pass_9 : decode cX6_pass 9 = .ok (.getfield 105, 3) := by decide +kernel
theorem dX6_pass_12 : decode cX6_pass 12 = .ok (.ifCond .eq 19, 3) := by decide +kernel
theorem dX6_pass_15 : decode cX6_pass 15 = .ok (.aload_n 0, 1) := by decide +kernel
theorem dX6_pass_16 : decode cX6_pass 16 = .ok (.getfield 197, 3) := by decide +kernel
theorem dX6_pass_19 : decode cX6_pass 19 = .ok (.iload_n 1, 1) := by decide +kernel
theorem dX6_pass_20 : decode cX6_pass 20 = .ok (.iadd, 1) := by decide +kernel
theorem dX6_pass_21 : decode cX6_pass 21 = .ok (.sipush 9999, 3) := by decide +kernel
theorem dX6_pass_24 : decode cX6_pass 24 = .ok (.if_icmp .gt 7, 3) := by decide +kernel
theorem dX6_pass_27 : decode cX6_pass 27 = .ok (.iconst 1, 1) := by decide +kernel
theorem dX6_pass_28 : decode cX6_pass 28 = .ok (.goto 4, 3) := by decide +kernel
theorem dX6_pass_31 : decode cX6_pass 31 = .ok (.iconst 0, 1) := by decide +kernel
theorem dX6_pass_32 : decode cX6_pass 32 = .ok (.iconst 1, 1) := by decide +kernel
theorem dX6_pass_33 : decode cX6_pass 33 = .ok (.invokevirtual 109, 3) := by decide +kernel
theorem dX6_pass_36 : decode cX6_pass 36 = .ok (.ifCond .ne 5, 3) := by decide +kernel
theorem dX6_pass_39 : decode cX6_pass 39 = .ok (.iconst 0, 1) := by decide +kernel
theorem dX6_pass_40 : decode cX6_pass 40 = .ok (.ireturn, 1) := by decide +kernel
theorem dX6_pass_41 : decode cX6_pass 41 = .ok (.iconst 0, 1) := by decide +kernel
theorem dX6_pass_42 : decode cX6_pass 42 = .ok (.istore_n 2, 1) := by decide +kernel
theorem dX6_pass_43 : decode cX6_pass 43 = .ok (.iconst 0, 1) := by decide +kernel
theorem dX6_pass_44 : decode cX6_pass 44 = .ok (.istore_n 3, 1) := by decide +kernel
theorem dX6_pass_45 : decode cX6_pass 45 = .ok (.iload_n 3, 1) := by decide +kernel
theorem dX6_pass_46 : decode cX6_pass 46 = .ok (.iload_n 1, 1) := by decide +kernel
theorem dX6_pass_47 : decode cX6_pass 47 = .ok (.if_icmp .ge 16, 3) := by decide +kernel
theorem dX6_pass_50 : decode cX6_pass 50 = .ok (.iload_n 2, 1) := by decide +kernel
theorem dX6_pass_51 : decode cX6_pass 51 = .ok (.aload_n 0, 1) := by decide +kernel
theorem dX6_pass_52 : decode cX6_pass 52 = .ok (.invokevirtual 213, 3) := by decide +kernel
theorem dX6_pass_55 : decode cX6_pass 55 = .ok (.iadd, 1) := by decide +kernel
theorem dX6_pass_56 : decode cX6_pass 56 = .ok (.istore_n 2, 1) := by decide +kernel
theorem dX6_pass_57 : decode cX6_pass 57 = .ok (.iinc 3 1, 3) := by decide +kernel
theorem dX6_pass_60 : decode cX6_pass 60 = .ok (.goto (-15), 3) := by decide +kernel
theorem dX6_pass_63 : decode cX6_pass 63 = .ok (.iload_n 2, 1) := by decide +kernel
theorem dX6_pass_64 : decode cX6_pass 64 = .ok (.ireturn, 1) := by decide +kernel
set_option maxRecDepth 20000 in
theorem ggX6_isBatch_X6_isBetween : GoodIn wsX6_isBatch wsX6_isBetween := goodIn_r _ [6] (by decide +kernel) (by decide +kernel)
set_option maxRecDepth 20000 in
theorem gX6_isBatch_X6_isBetween : GoodIn wsX6_isBatch (va_wsS RX6 98 yX6_isBetween wsX6_isBetween) := goodIn_app (goodIn_of _ (by decide +kernel)) ggX6_isBatch_X6_isBetween
theorem dX6_isBatch_0 : decode cX6_isBatch 0 = .ok (.iload_n 1, 1) := by decide +kernel
theorem dX6_isBatch_1 : decode cX6_isBatch 1 = .ok (.aload_n 0, 1) := by decide +kernel
theorem dX6_isBatch_2 : decode cX6_isBatch 2 = .ok (.getfield 105, 3) := by decide +kernel
theorem dX6_isBatch_5 : decode cX6_isBatch 5 = .ok (.ifCond .eq 7, 3) := by decide +kernel
theorem dX6_isBatch_8 : decode cX6_isBatch 8 = .ok (.iconst 0, 1) := by decide +kernel
theorem dX6_isBatch_9 : decode cX6_isBatch 9 = .ok (.goto 4, 3) := by decide +kernel
theorem dX6_isBatch_12 : decode cX6_isBatch 12 = .ok (.iconst 1, 1) := by decide +kernel
theorem dX6_isBatch_13 : decode cX6_isBatch 13 = .ok (.aload_n 0, 1) := by decide +kernel
theorem dX6_isBatch_14 : decode cX6_isBatch 14 = .ok (.getfield 34, 3) := by decide +kernel
theorem dX6_isBatch_17 : decode cX6_isBatch 17 = .ok (.iconst 1, 1) := by decide +kernel
theorem dX6_isBatch_18 : decode cX6_isBatch 18 = .ok (.isub, 1) := by decide +kernel
theorem dX6_isBatch_19 : decode cX6_isBatch 19 = .ok (.invokestatic 98, 3) := by decide +kernel
theorem dX6_isBatch_22 : decode cX6_isBatch 22 = .ok (.ireturn, 1) := by decide +kernel
set_option maxRecDepth 20000 in
theorem ggX6_batch_X6_isBatch : GoodIn wsX6_batch wsX6_isBatch := goodIn_r _ [11, 12, 13, 14, 15, 10, 16, 33, 34, 35, 36, 37, 38, 39, 40, 41, 42, 43, 44, 45, 46, 47, 48, 49, 50, 51, 52, 53, 54, 55, 56, 57, 58, 59, 60, 61, 62, 63, 64, 65, 66, 67, 68, 69, 70, 71, 72, 73, 74, 75, 76, 77] (by decide +kernel) (by decide +kernel)
set_option maxRecDepth 20000 in
theorem gX6_batch_X6_isBatch : GoodIn wsX6_batch (wsV RX6 216 RX6 yX6_isBatch wsX6_isBatch) := goodIn_app (goodIn_of _ (by decide +kernel)) ggX6_batch_X6_isBatch
set_option maxRecDepth 20000 in
theorem ggX6_batch_X6_isBetween : GoodIn wsX6_batch wsX6_isBetween := goodIn_r _ [16] (by decide +kernel) (by decide +kernel)
set_option maxRecDepth 20000 in
theorem gX6_batch_X6_isBetween : GoodIn wsX6_batch (va_wsS RX6 98 yX6_isBetween wsX6_isBetween) := goodIn_app (goodIn_of _ (by decide +kernel)) ggX6_batch_X6_isBetween
set_option maxRecDepth 20000 in
theorem ggX6_batch_X6_goes : GoodIn wsX6_batch wsX6_goes := goodIn_r _ [20, 21, 33, 34, 35, 36, 37, 38, 39, 40, 41, 42, 43, 44, 45, 46, 47, 48, 49, 50, 51, 52, 53, 54, 55, 56, 57, 58, 59, 60, 61, 62, 63, 64, 65, 66, 67, 68, 69, 70, 71, 72, 73, 74, 75, 76, 77] (by decide +kernel) (by decide +kernel)
set_option maxRecDepth 20000 in
theorem gX6_batch_X6_goes : GoodIn wsX6_batch (wsV RX6 109 RX6 yX6_goes wsX6_goes) := goodIn_app (goodIn_of _ (by decide +kernel)) ggX6_batch_X6_goes
set_option maxRecDepth 20000 in
theorem ggX6_batch_X6_mixOf : GoodIn wsX6_batch wsX6_mixOf := goodIn_r _ [25, 1, 6, 26, 27, 28, 29, 30, 31, 10, 32, 33, 34, 35, 36, 37, 38, 39, 40, 41, 42, 43, 44, 45, 46, 47, 48, 49, 50, 51, 52, 53, 54, 55, 56, 57, 58, 59, 60, 61, 62, 63, 64, 65, 66, 67, 68, 69, 70, 71, 72, 73, 74, 75, 76, 77] (by decide +kernel) (by decide +kernel)
set_option maxRecDepth 20000 in
theorem gX6_batch_X6_mixOf : GoodIn wsX6_batch (wsV RX6 167 RX6 yX6_mixOf wsX6_mixOf) := goodIn_app (goodIn_of _ (by decide +kernel)) ggX6_batch_X6_mixOf
theorem dX6_batch_0 : decode cX6_batch 0 = .ok (.aload_n 0, 1) := by decide +kernel
theorem dX6_batch_1 : decode cX6_batch 1 = .ok (.aload_n 0, 1) := by decide +kernel
theorem dX6_batch_2 : decode cX6_batch 2 = .ok (.iload_n 1, 1) := by decide +kernel
theorem dX6_batch_3 : decode cX6_batch 3 = .ok (.invokevirtual 216, 3) := by decide +kernel
theorem dX6_batch_6 : decode cX6_batch 6 = .ok (.iload_n 2, 1) := by decide +kernel
theorem dX6_batch_7 : decode cX6_batch 7 = .ok (.iconst 0, 1) := by decide +kernel
theorem dX6_batch_8 : decode cX6_batch 8 = .ok (.bipush 7, 2) := by decide +kernel
theorem dX6_batch_10 : decode cX6_batch 10 = .ok (.invokestatic 98, 3) := by decide +kernel
theorem dX6_batch_13 : decode cX6_batch 13 = .ok (.iconst 1, 1) := by decide +kernel
theorem dX6_batch_14 : decode cX6_batch 14 = .ok (.invokevirtual 109, 3) := by decide +kernel
theorem dX6_batch_17 : decode cX6_batch 17 = .ok (.ifCond .ne 5, 3) := by decide +kernel
theorem dX6_batch_20 : decode cX6_batch 20 = .ok (.iconst 0, 1) := by decide +kernel
theorem dX6_batch_21 : decode cX6_batch 21 = .ok (.ireturn, 1) := by decide +kernel
theorem dX6_batch_22 : decode cX6_batch 22 = .ok (.iload_n 2, 1) := by decide +kernel
theorem dX6_batch_23 : decode cX6_batch 23 = .ok (.tableswitch 117 0 6 #[41, 69, 76, 83, 90, 97, 111], 41) := by decide +kernel
theorem dX6_batch_64 : decode cX6_batch 64 = .ok (.aload_n 0, 1) := by decide +kernel
theorem dX6_batch_65 : decode cX6_batch 65 = .ok (.getfield 47, 3) := by decide +kernel
theorem dX6_batch_68 : decode cX6_batch 68 = .ok (.iload_n 1, 1) := by decide +kernel
theorem dX6_batch_69 : decode cX6_batch 69 = .ok (.iaload, 1) := by decide +kernel
theorem dX6_batch_70 : decode cX6_batch 70 = .ok (.aload_n 0, 1) := by decide +kernel
theorem dX6_batch_71 : decode cX6_batch 71 = .ok (.getfield 50, 3) := by decide +kernel
theorem dX6_batch_74 : decode cX6_batch 74 = .ok (.iload_n 1, 1) := by decide +kernel
theorem dX6_batch_75 : decode cX6_batch 75 = .ok (.iaload, 1) := by decide +kernel
theorem dX6_batch_76 : decode cX6_batch 76 = .ok (.isub, 1) := by decide +kernel
theorem dX6_batch_77 : decode cX6_batch 77 = .ok (.aload_n 0, 1) := by decide +kernel
theorem dX6_batch_78 : decode cX6_batch 78 = .ok (.getfield 53, 3) := by decide +kernel
theorem dX6_batch_81 : decode cX6_batch 81 = .ok (.iload_n 1, 1) := by decide +kernel
theorem dX6_batch_82 : decode cX6_batch 82 = .ok (.iaload, 1) := by decide +kernel
theorem dX6_batch_83 : decode cX6_batch 83 = .ok (.isub, 1) := by decide +kernel
theorem dX6_batch_84 : decode cX6_batch 84 = .ok (.aload_n 0, 1) := by decide +kernel
theorem dX6_batch_85 : decode cX6_batch 85 = .ok (.getfield 56, 3) := by decide +kernel
theorem dX6_batch_88 : decode cX6_batch 88 = .ok (.iload_n 1, 1) := by decide +kernel
theorem dX6_batch_89 : decode cX6_batch 89 = .ok (.iaload, 1) := by decide +kernel
theorem dX6_batch_90 : decode cX6_batch 90 = .ok (.isub, 1) := by decide +kernel
theorem dX6_batch_91 : decode cX6_batch 91 = .ok (.ireturn, 1) := by decide +kernel
theorem dX6_batch_92 : decode cX6_batch 92 = .ok (.aload_n 0, 1) := by decide +kernel
theorem dX6_batch_93 : decode cX6_batch 93 = .ok (.getfield 47, 3) := by decide +kernel
theorem dX6_batch_96 : decode cX6_batch 96 = .ok (.iload_n 1, 1) := by decide +kernel
theorem dX6_batch_97 : decode cX6_batch 97 = .ok (.iaload, 1) := by decide +kernel
theorem dX6_batch_98 : decode cX6_batch 98 = .ok (.ireturn, 1) := by decide +kernel
theorem dX6_batch_99 : decode cX6_batch 99 = .ok (.aload_n 0, 1) := by decide +kernel
theorem dX6_batch_100 : decode cX6_batch 100 = .ok (.getfield 50, 3) := by decide +kernel
theorem dX6_batch_103 : decode cX6_batch 103 = .ok (.iload_n 1, 1) := by decide +kernel
theorem dX6_batch_104 : decode cX6_batch 104 = .ok (.iaload, 1) := by decide +kernel
theorem dX6_batch_105 : decode cX6_batch 105 = .ok (.ireturn, 1) := by decide +kernel
theorem dX6_batch_106 : decode cX6_batch 106 = .ok (.aload_n 0, 1) := by decide +kernel
theorem dX6_batch_107 : decode cX6_batch 107 = .ok (.getfield 53, 3) := by decide +kernel
theorem dX6_batch_110 : decode cX6_batch 110 = .ok (.iload_n 1, 1) := by decide +kernel
theorem dX6_batch_111 : decode cX6_batch 111 = .ok (.iaload, 1) := by decide +kernel
theorem dX6_batch_112 : decode cX6_batch 112 = .ok (.ireturn, 1) := by decide +kernel
theorem dX6_batch_113 : decode cX6_batch 113 = .ok (.aload_n 0, 1) := by decide +kernel
theorem dX6_batch_114 : decode cX6_batch 114 = .ok (.getfield 56, 3) := by decide +kernel
theorem dX6_batch_117 : decode cX6_batch 117 = .ok (.iload_n 1, 1) := by decide +kernel
theorem dX6_batch_118 : decode cX6_batch 118 = .ok (.iaload, 1) := by decide +kernel
theorem dX6_batch_119 : decode cX6_batch 119 = .ok (.ireturn, 1) := by decide +kernel
theorem dX6_batch_120 : decode cX6_batch 120 = .ok (.aload_n 0, 1) := by decide +kernel
theorem dX6_batch_121 : decode cX6_batch 121 = .ok (.getfield 44, 3) := by decide +kernel
theorem dX6_batch_124 : decode cX6_batch 124 = .ok (.iload_n 1, 1) := by decide +kernel
theorem dX6_batch_125 : decode cX6_batch 125 = .ok (.iaload, 1) := by decide +kernel
theorem dX6_batch_126 : decode cX6_batch 126 = .ok (.aload_n 0, 1) := by decide +kernel
theorem dX6_batch_127 : decode cX6_batch 127 = .ok (.getfield 47, 3) := by decide +kernel
theorem dX6_batch_130 : decode cX6_batch 130 = .ok (.iload_n 1, 1) := by decide +kernel
theorem dX6_batch_131 : decode cX6_batch 131 = .ok (.iaload, 1) := by decide +kernel
theorem dX6_batch_132 : decode cX6_batch 132 = .ok (.isub, 1) := by decide +kernel
theorem dX6_batch_133 : decode cX6_batch 133 = .ok (.ireturn, 1) := by decide +kernel
theorem dX6_batch_134 : decode cX6_batch 134 = .ok (.aload_n 0, 1) := by decide +kernel
theorem dX6_batch_135 : decode cX6_batch 135 = .ok (.iload_n 1, 1) := by decide +kernel
theorem dX6_batch_136 : decode cX6_batch 136 = .ok (.invokevirtual 167, 3) := by decide +kernel
theorem dX6_batch_139 : decode cX6_batch 139 = .ok (.ireturn, 1) := by decide +kernel
theorem dX6_batch_140 : decode cX6_batch 140 = .ok (.aload_n 0, 1) := by decide +kernel
theorem dX6_batch_141 : decode cX6_batch 141 = .ok (.getfield 41, 3) := by decide +kernel
theorem dX6_batch_144 : decode cX6_batch 144 = .ok (.iload_n 1, 1) := by decide +kernel
theorem dX6_batch_145 : decode cX6_batch 145 = .ok (.iaload, 1) := by decide +kernel
theorem dX6_batch_146 : decode cX6_batch 146 = .ok (.ireturn, 1) := by decide +kernel
set_option maxRecDepth 20000 in
theorem ggX6_unit_X6_goes : GoodIn wsX6_unit wsX6_goes := goodIn_r _ [8, 9, 10, 11, 12, 13, 14, 15, 16, 17, 18, 19, 20, 21, 22, 23, 24, 25, 26, 27, 28, 29, 30, 31, 32, 33, 34, 35, 36, 37, 38, 39, 40, 41, 42, 43, 44, 45, 46, 47, 48, 49, 50, 51, 52, 53, 54] (by decide +kernel) (by decide +kernel)
set_option maxRecDepth 20000 in
theorem gX6_unit_X6_goes : GoodIn wsX6_unit (wsV RX6 109 RX6 yX6_goes wsX6_goes) := goodIn_app (goodIn_of _ (by decide +kernel)) ggX6_unit_X6_goes
theorem dX6_unit_0 : decode cX6_unit 0 = .ok (.aload_n 0, 1) := by decide +kernel
theorem dX6_unit_1 : decode cX6_unit 1 = .ok (.iload_n 1, 1) := by decide +kernel
theorem dX6_unit_2 : decode cX6_unit 2 = .ok (.ifCond .lt 7, 3) := by decide +kernel
theorem dX6_unit_5 : decode cX6_unit 5 = .ok (.iconst 1, 1) := by decide +kernel
theorem dX6_unit_6 : decode cX6_unit 6 = .ok (.goto 4, 3) := by decide +kernel
theorem dX6_unit_9 : decode cX6_unit 9 = .ok (.iconst 0, 1) := by decide +kernel
theorem dX6_unit_10 : decode cX6_unit 10 = .ok (.iconst 1, 1) := by decide +kernel
theorem dX6_unit_11 : decode cX6_unit 11 = .ok (.iconst 1, 1) := by decide +kernel
theorem dX6_unit_12 : decode cX6_unit 12 = .ok (.invokevirtual 109, 3) := by decide +kernel
theorem dX6_unit_15 : decode cX6_unit 15 = .ok (.ifCond .ne 5, 3) := by decide +kernel
theorem dX6_unit_18 : decode cX6_unit 18 = .ok (.iconst 0, 1) := by decide +kernel
theorem dX6_unit_19 : decode cX6_unit 19 = .ok (.ireturn, 1) := by decide +kernel
theorem dX6_unit_20 : decode cX6_unit 20 = .ok (.aload_n 0, 1) := by decide +kernel
theorem dX6_unit_21 : decode cX6_unit 21 = .ok (.getfield 105, 3) := by decide +kernel
theorem dX6_unit_24 : decode cX6_unit 24 = .ok (.ifCond .eq 20, 3) := by decide +kernel
theorem dX6_unit_27 : decode cX6_unit 27 = .ok (.iload_n 1, 1) := by decide +kernel
theorem dX6_unit_28 : decode cX6_unit 28 = .ok (.aload_n 0, 1) := by decide +kernel
theorem dX6_unit_29 : decode cX6_unit 29 = .ok (.getfield 117, 3) := by decide +kernel
theorem dX6_unit_32 : decode cX6_unit 32 = .ok (.if_icmp .ge 12, 3) := by decide +kernel
theorem dX6_unit_35 : decode cX6_unit 35 = .ok (.aload_n 0, 1) := by decide +kernel
theorem dX6_unit_36 : decode cX6_unit 36 = .ok (.getfield 71, 3) := by decide +kernel
theorem dX6_unit_39 : decode cX6_unit 39 = .ok (.iload_n 1, 1) := by decide +kernel
theorem dX6_unit_40 : decode cX6_unit 40 = .ok (.iaload, 1) := by decide +kernel
theorem dX6_unit_41 : decode cX6_unit 41 = .ok (.goto 4, 3) := by decide +kernel
theorem dX6_unit_44 : decode cX6_unit 44 = .ok (.iconst (-1), 1) := by decide +kernel
theorem dX6_unit_45 : decode cX6_unit 45 = .ok (.ireturn, 1) := by decide +kernel
set_option maxRecDepth 20000 in
theorem ggX6_unitAnew_X6_unit : GoodIn wsX6_unitAnew wsX6_unit := goodIn_r _ [5, 6, 7, 8, 9, 10, 11, 4, 12, 13, 14, 15, 16, 17, 18, 19, 20, 21, 22, 23, 24, 25, 26, 27, 28, 29, 30, 31, 32, 33, 34, 35, 36, 37, 38, 39, 40, 41, 42, 43, 44, 45, 46, 47, 48, 49, 50, 51, 52, 53, 54, 55, 56, 57, 58] (by decide +kernel) (by decide +kernel)
set_option maxRecDepth 20000 in
theorem gX6_unitAnew_X6_unit : GoodIn wsX6_unitAnew (wsV RX6 219 RX6 yX6_unit wsX6_unit) := goodIn_app (goodIn_of _ (by decide +kernel)) ggX6_unitAnew_X6_unit
theorem dX6_unitAnew_0 : decode cX6_unitAnew 0 = .ok (.aload_n 0, 1) := by decide +kernel
theorem dX6_unitAnew_1 : decode cX6_unitAnew 1 = .ok (.iload_n 1, 1) := by decide +kernel
theorem dX6_unitAnew_2 : decode cX6_unitAnew 2 = .ok (.invokevirtual 219, 3) := by decide +kernel
theorem dX6_unitAnew_5 : decode cX6_unitAnew 5 = .ok (.ireturn, 1) := by decide +kernel
set_option maxRecDepth 20000 in
theorem ggX6_pressure_X6_isSegment : GoodIn wsX6_pressure wsX6_isSegment := goodIn_r _ [6, 7, 8, 9, 5, 10, 31, 32, 33, 34, 35, 36, 37, 38, 39, 40, 41, 42, 43, 44, 45, 46, 47, 48, 49, 50, 51, 52, 53, 54, 55, 56, 57, 58, 59, 60, 61, 62, 63, 64, 65, 66, 67, 68, 69, 70, 71, 72, 73, 74, 75] (by decide +kernel) (by decide +kernel)
set_option maxRecDepth 20000 in
theorem gX6_pressure_X6_isSegment : GoodIn wsX6_pressure (wsV RX6 222 RX6 yX6_isSegment wsX6_isSegment) := goodIn_app (goodIn_of _ (by decide +kernel)) ggX6_pressure_X6_isSegment
set_option maxRecDepth 20000 in
theorem ggX6_pressure_X6_isBetween : GoodIn wsX6_pressure wsX6_isBetween := goodIn_r _ [10] (by decide +kernel) (by decide +kernel)
set_option maxRecDepth 20000 in
theorem gX6_pressure_X6_isBetween : GoodIn wsX6_pressure (va_wsS RX6 98 yX6_isBetween wsX6_isBetween) := goodIn_app (goodIn_of _ (by decide +kernel)) ggX6_pressure_X6_isBetween
set_option maxRecDepth 20000 in
theorem ggX6_pressure_X6_goes : GoodIn wsX6_pressure wsX6_goes := goodIn_r _ [14, 15, 31, 32, 33, 34, 35, 36, 37, 38, 39, 40, 41, 42, 43, 44, 45, 46, 47, 48, 49, 50, 51, 52, 53, 54, 55, 56, 57, 58, 59, 60, 61, 62, 63, 64, 65, 66, 67, 68, 69, 70, 71, 72, 73, 74, 75] (by decide +kernel) (by decide +kernel)
set_option maxRecDepth 20000 in
theorem gX6_pressure_X6_goes : GoodIn wsX6_pressure (wsV RX6 109 RX6 yX6_goes wsX6_goes) := goodIn_app (goodIn_of _ (by decide +kernel)) ggX6_pressure_X6_goes
set_option maxRecDepth 20000 in
theorem ggX6_pressure_X6_pressureOf : GoodIn wsX6_pressure wsX6_pressureOf := goodIn_r _ [19, 7, 20, 21, 22, 23, 24, 25, 26, 27, 28, 29, 5, 30, 31, 32, 33, 34, 35, 36, 37, 38, 39, 40, 41, 42, 43, 44, 45, 46, 47, 48, 49, 50, 51, 52, 53, 54, 55, 56, 57, 58, 59, 60, 61, 62, 63, 64, 65, 66, 67, 68, 69, 70, 71, 72, 73, 74, 75] (by decide +kernel) (by decide +kernel)
set_option maxRecDepth 20000 in
theorem gX6_pressure_X6_pressureOf : GoodIn wsX6_pressure (wsV RX6 160 RX6 yX6_pressureOf wsX6_pressureOf) := goodIn_app (goodIn_of _ (by decide +kernel)) ggX6_pressure_X6_pressureOf
theorem dX6_pressure_0 : decode cX6_pressure 0 = .ok (.aload_n 0, 1) := by decide +kernel
theorem dX6_pressure_1 : decode cX6_pressure 1 = .ok (.aload_n 0, 1) := by decide +kernel
theorem dX6_pressure_2 : decode cX6_pressure 2 = .ok (.iload_n 1, 1) := by decide +kernel
theorem dX6_pressure_3 : decode cX6_pressure 3 = .ok (.invokevirtual 222, 3) := by decide +kernel
theorem dX6_pressure_6 : decode cX6_pressure 6 = .ok (.iload_n 2, 1) := by decide +kernel
theorem dX6_pressure_7 : decode cX6_pressure 7 = .ok (.iconst 0, 1) := by decide +kernel
theorem dX6_pressure_8 : decode cX6_pressure 8 = .ok (.bipush 10, 2) := by decide +kernel
theorem dX6_pressure_10 : decode cX6_pressure 10 = .ok (.invokestatic 98, 3) := by decide +kernel
theorem dX6_pressure_13 : decode cX6_pressure 13 = .ok (.aload_n 0, 1) := by decide +kernel
theorem dX6_pressure_14 : decode cX6_pressure 14 = .ok (.getfield 105, 3) := by decide +kernel
theorem dX6_pressure_17 : decode cX6_pressure 17 = .ok (.invokevirtual 109, 3) := by decide +kernel
theorem dX6_pressure_20 : decode cX6_pressure 20 = .ok (.ifCond .ne 5, 3) := by decide +kernel
theorem dX6_pressure_23 : decode cX6_pressure 23 = .ok (.iconst 0, 1) := by decide +kernel
theorem dX6_pressure_24 : decode cX6_pressure 24 = .ok (.ireturn, 1) := by decide +kernel
theorem dX6_pressure_25 : decode cX6_pressure 25 = .ok (.aload_n 0, 1) := by decide +kernel
theorem dX6_pressure_26 : decode cX6_pressure 26 = .ok (.iload_n 1, 1) := by decide +kernel
theorem dX6_pressure_27 : decode cX6_pressure 27 = .ok (.iload_n 2, 1) := by decide +kernel
theorem dX6_pressure_28 : decode cX6_pressure 28 = .ok (.invokevirtual 160, 3) := by decide +kernel
theorem dX6_pressure_31 : decode cX6_pressure 31 = .ok (.ireturn, 1) := by decide +kernel
set_option maxRecDepth 20000 in
theorem ggX6_tank_X6_isTank : GoodIn wsX6_tank wsX6_isTank := goodIn_r _ [7, 8, 9, 6, 10] (by decide +kernel) (by decide +kernel)
set_option maxRecDepth 20000 in
theorem gX6_tank_X6_isTank : GoodIn wsX6_tank (va_wsS RX6 132 yX6_isTank wsX6_isTank) := goodIn_app (goodIn_of _ (by decide +kernel)) ggX6_tank_X6_isTank
set_option maxRecDepth 20000 in
theorem ggX6_tank_X6_isBetween : GoodIn wsX6_tank wsX6_isBetween := goodIn_r _ [10] (by decide +kernel) (by decide +kernel)
set_option maxRecDepth 20000 in
theorem gX6_tank_X6_isBetween : GoodIn wsX6_tank (va_wsS RX6 98 yX6_isBetween wsX6_isBetween) := goodIn_app (goodIn_of _ (by decide +kernel)) ggX6_tank_X6_isBetween
set_option maxRecDepth 20000 in
theorem ggX6_tank_X6_goes : GoodIn wsX6_tank wsX6_goes := goodIn_r _ [14, 15, 16, 17, 18, 19, 20, 21, 22, 23, 24, 25, 26, 27, 28, 29, 30, 31, 32, 33, 34, 35, 36, 37, 38, 39, 40, 41, 42, 43, 44, 45, 46, 47, 48, 49, 50, 51, 52, 53, 54, 55, 56, 57, 58, 59, 60] (by decide +kernel) (by decide +kernel)
set_option maxRecDepth 20000 in
theorem gX6_tank_X6_goes : GoodIn wsX6_tank (wsV RX6 109 RX6 yX6_goes wsX6_goes) := goodIn_app (goodIn_of _ (by decide +kernel)) ggX6_tank_X6_goes
theorem dX6_tank_0 : decode cX6_tank 0 = .ok (.aload_n 0, 1) := by decide +kernel
theorem dX6_tank_1 : decode cX6_tank 1 = .ok (.iload_n 1, 1) := by decide +kernel
theorem dX6_tank_2 : decode cX6_tank 2 = .ok (.invokestatic 132, 3) := by decide +kernel
theorem dX6_tank_5 : decode cX6_tank 5 = .ok (.iload_n 2, 1) := by decide +kernel
theorem dX6_tank_6 : decode cX6_tank 6 = .ok (.iconst 0, 1) := by decide +kernel
theorem dX6_tank_7 : decode cX6_tank 7 = .ok (.iconst 2, 1) := by decide +kernel
theorem dX6_tank_8 : decode cX6_tank 8 = .ok (.invokestatic 98, 3) := by decide +kernel
theorem dX6_tank_11 : decode cX6_tank 11 = .ok (.iconst 1, 1) := by decide +kernel
theorem dX6_tank_12 : decode cX6_tank 12 = .ok (.invokevirtual 109, 3) := by decide +kernel
theorem dX6_tank_15 : decode cX6_tank 15 = .ok (.ifCond .ne 5, 3) := by decide +kernel
theorem dX6_tank_18 : decode cX6_tank 18 = .ok (.iconst 0, 1) := by decide +kernel
theorem dX6_tank_19 : decode cX6_tank 19 = .ok (.ireturn, 1) := by decide +kernel
theorem dX6_tank_20 : decode cX6_tank 20 = .ok (.iload_n 2, 1) := by decide +kernel
theorem dX6_tank_21 : decode cX6_tank 21 = .ok (.ifCond .ne 12, 3) := by decide +kernel
theorem dX6_tank_24 : decode cX6_tank 24 = .ok (.aload_n 0, 1) := by decide +kernel
theorem dX6_tank_25 : decode cX6_tank 25 = .ok (.getfield 83, 3) := by decide +kernel
theorem dX6_tank_28 : decode cX6_tank 28 = .ok (.iload_n 1, 1) := by decide +kernel
theorem dX6_tank_29 : decode cX6_tank 29 = .ok (.iaload, 1) := by decide +kernel
theorem dX6_tank_30 : decode cX6_tank 30 = .ok (.goto 36, 3) := by decide +kernel
theorem dX6_tank_33 : decode cX6_tank 33 = .ok (.iload_n 2, 1) := by decide +kernel
theorem dX6_tank_34 : decode cX6_tank 34 = .ok (.iconst 2, 1) := by decide +kernel
theorem dX6_tank_35 : decode cX6_tank 35 = .ok (.if_icmp .ne 12, 3) := by decide +kernel
theorem dX6_tank_38 : decode cX6_tank 38 = .ok (.aload_n 0, 1) := by decide +kernel
theorem dX6_tank_39 : decode cX6_tank 39 = .ok (.getfield 89, 3) := by decide +kernel
theorem dX6_tank_42 : decode cX6_tank 42 = .ok (.iload_n 1, 1) := by decide +kernel
theorem dX6_tank_43 : decode cX6_tank 43 = .ok (.iaload, 1) := by decide +kernel
theorem dX6_tank_44 : decode cX6_tank 44 = .ok (.goto 22, 3) := by decide +kernel
theorem dX6_tank_47 : decode cX6_tank 47 = .ok (.aload_n 0, 1) := by decide +kernel
theorem dX6_tank_48 : decode cX6_tank 48 = .ok (.getfield 83, 3) := by decide +kernel
theorem dX6_tank_51 : decode cX6_tank 51 = .ok (.iload_n 1, 1) := by decide +kernel
theorem dX6_tank_52 : decode cX6_tank 52 = .ok (.iaload, 1) := by decide +kernel
theorem dX6_tank_53 : decode cX6_tank 53 = .ok (.ifCond .ne 7, 3) := by decide +kernel
theorem dX6_tank_56 : decode cX6_tank 56 = .ok (.iconst (-1), 1) := by decide +kernel
theorem dX6_tank_57 : decode cX6_tank 57 = .ok (.goto 9, 3) := by decide +kernel
theorem dX6_tank_60 : decode cX6_tank 60 = .ok (.aload_n 0, 1) := by decide +kernel
theorem dX6_tank_61 : decode cX6_tank 61 = .ok (.getfield 86, 3) := by decide +kernel
theorem dX6_tank_64 : decode cX6_tank 64 = .ok (.iload_n 1, 1) := by decide +kernel
theorem dX6_tank_65 : decode cX6_tank 65 = .ok (.iaload, 1) := by decide +kernel
theorem dX6_tank_66 : decode cX6_tank 66 = .ok (.ireturn, 1) := by decide +kernel
theorem dX6_balance_0 : decode cX6_balance 0 = .ok (.iconst 0, 1) := by decide +kernel
theorem dX6_balance_1 : decode cX6_balance 1 = .ok (.istore_n 1, 1) := by decide +kernel
theorem dX6_balance_2 : decode cX6_balance 2 = .ok (.iconst 0, 1) := by decide +kernel
theorem dX6_balance_3 : decode cX6_balance 3 = .ok (.istore_n 2, 1) := by decide +kernel
theorem dX6_balance_4 : decode cX6_balance 4 = .ok (.iload_n 2, 1) := by decide +kernel
theorem dX6_balance_5 : decode cX6_balance 5 = .ok (.iconst 5, 1) := by decide +kernel
theorem dX6_balance_6 : decode cX6_balance 6 = .ok (.if_icmp .ge 18, 3) := by decide +kernel
theorem dX6_balance_9 : decode cX6_balance 9 = .ok (.iload_n 1, 1) := by decide +kernel
theorem dX6_balance_10 : decode cX6_balance 10 = .ok (.aload_n 0, 1) := by decide +kernel
theorem dX6_balance_11 : decode cX6_balance 11 = .ok (.getfield 92, 3) := by decide +kernel
theorem dX6_balance_14 : decode cX6_balance 14 = .ok (.iload_n 2, 1) := by decide +kernel
theorem dX6_balance_15 : decode cX6_balance 15 = .ok (.iaload, 1) := by decide +kernel
theorem dX6_balance_16 : decode cX6_balance 16 = .ok (.iadd, 1) := by decide +kernel
theorem dX6_balance_17 : decode cX6_balance 17 = .ok (.istore_n 1, 1) := by decide +kernel
theorem dX6_balance_18 : decode cX6_balance 18 = .ok (.iinc 2 1, 3) := by decide +kernel
theorem dX6_balance_21 : decode cX6_balance 21 = .ok (.goto (-17), 3) := by decide +kernel
theorem dX6_balance_24 : decode cX6_balance 24 = .ok (.iload_n 1, 1) := by decide +kernel
theorem dX6_balance_25 : decode cX6_balance 25 = .ok (.ireturn, 1) := by decide +kernel
set_option maxRecDepth 20000 in
theorem ggX6_pipe_X6_isBetween : GoodIn wsX6_pipe wsX6_isBetween := goodIn_r _ [8] (by decide +kernel) (by decide +kernel)
set_option maxRecDepth 20000 in
theorem gX6_pipe_X6_isBetween : GoodIn wsX6_pipe (va_wsS RX6 98 yX6_isBetween wsX6_isBetween) := goodIn_app (goodIn_of _ (by decide +kernel)) ggX6_pipe_X6_isBetween
set_option maxRecDepth 20000 in
theorem ggX6_pipe_X6_goes : GoodIn wsX6_pipe wsX6_goes := goodIn_r _ [12, 13, 19, 20, 21, 22, 23, 24, 25, 26, 27, 28, 29, 30, 31, 32, 33, 34, 35, 36, 37, 38, 39, 40, 41, 42, 43, 44, 45, 46, 47, 48, 49, 50, 51, 52, 53, 54, 55, 56, 57, 58, 59, 60, 61, 62, 63] (by decide +kernel) (by decide +kernel)
set_option maxRecDepth 20000 in
theorem gX6_pipe_X6_goes : GoodIn wsX6_pipe (wsV RX6 109 RX6 yX6_goes wsX6_goes) := goodIn_app (goodIn_of _ (by decide +kernel)) ggX6_pipe_X6_goes
set_option maxRecDepth 20000 in
theorem ggX6_pipe_X6_balance : GoodIn wsX6_pipe wsX6_balance := goodIn_r _ [17, 18, 19, 20, 21, 22, 23, 24, 25, 26, 27, 28, 29, 30, 31, 32, 33, 34, 35, 36, 37, 38, 39, 40, 41, 42, 43, 44, 45, 46, 47, 48, 49, 50, 51, 52, 53, 54, 55, 56, 57, 58, 59, 60, 61, 62, 63] (by decide +kernel) (by decide +kernel)
set_option maxRecDepth 20000 in
theorem gX6_pipe_X6_balance : GoodIn wsX6_pipe (wsV RX6 225 RX6 yX6_balance wsX6_balance) := goodIn_app (goodIn_of _ (by decide +kernel)) ggX6_pipe_X6_balance
theorem dX6_pipe_0 : decode cX6_pipe 0 = .ok (.aload_n 0, 1) := by decide +kernel
theorem dX6_pipe_1 : decode cX6_pipe 1 = .ok (.iload_n 1, 1) := by decide +kernel
theorem dX6_pipe_2 : decode cX6_pipe 2 = .ok (.iconst 0, 1) := by decide +kernel
theorem dX6_pipe_3 : decode cX6_pipe 3 = .ok (.iconst 5, 1) := by decide +kernel
theorem dX6_pipe_4 : decode cX6_pipe 4 = .ok (.invokestatic 98, 3) := by decide +kernel
theorem dX6_pipe_7 : decode cX6_pipe 7 = .ok (.iconst 1, 1) := by decide +kernel
theorem dX6_pipe_8 : decode cX6_pipe 8 = .ok (.iconst 1, 1) := by decide +kernel
theorem dX6_pipe_9 : decode cX6_pipe 9 = .ok (.invokevirtual 109, 3) := by decide +kernel
theorem dX6_pipe_12 : decode cX6_pipe 12 = .ok (.ifCond .ne 5, 3) := by decide +kernel
theorem dX6_pipe_15 : decode cX6_pipe 15 = .ok (.iconst 0, 1) := by decide +kernel
theorem dX6_pipe_16 : decode cX6_pipe 16 = .ok (.ireturn, 1) := by decide +kernel
theorem dX6_pipe_17 : decode cX6_pipe 17 = .ok (.iload_n 1, 1) := by decide +kernel
theorem dX6_pipe_18 : decode cX6_pipe 18 = .ok (.ifCond .ne 10, 3) := by decide +kernel
theorem dX6_pipe_21 : decode cX6_pipe 21 = .ok (.aload_n 0, 1) := by decide +kernel
theorem dX6_pipe_22 : decode cX6_pipe 22 = .ok (.getfield 204, 3) := by decide +kernel
theorem dX6_pipe_25 : decode cX6_pipe 25 = .ok (.goto 72, 3) := by decide +kernel
theorem dX6_pipe_28 : decode cX6_pipe 28 = .ok (.iload_n 1, 1) := by decide +kernel
theorem dX6_pipe_29 : decode cX6_pipe 29 = .ok (.iconst 1, 1) := by decide +kernel
theorem dX6_pipe_30 : decode cX6_pipe 30 = .ok (.if_icmp .ne 10, 3) := by decide +kernel
theorem dX6_pipe_33 : decode cX6_pipe 33 = .ok (.aload_n 0, 1) := by decide +kernel
theorem dX6_pipe_34 : decode cX6_pipe 34 = .ok (.invokevirtual 225, 3) := by decide +kernel
theorem dX6_pipe_37 : decode cX6_pipe 37 = .ok (.goto 60, 3) := by decide +kernel
theorem dX6_pipe_40 : decode cX6_pipe 40 = .ok (.iload_n 1, 1) := by decide +kernel
theorem dX6_pipe_41 : decode cX6_pipe 41 = .ok (.iconst 2, 1) := by decide +kernel
theorem dX6_pipe_42 : decode cX6_pipe 42 = .ok (.if_icmp .ne 19, 3) := by decide +kernel
theorem dX6_pipe_45 : decode cX6_pipe 45 = .ok (.aload_n 0, 1) := by decide +kernel
theorem dX6_pipe_46 : decode cX6_pipe 46 = .ok (.invokevirtual 225, 3) := by decide +kernel
theorem dX6_pipe_49 : decode cX6_pipe 49 = .ok (.iconst 3, 1) := by decide +kernel
theorem dX6_pipe_50 : decode cX6_pipe 50 = .ok (.if_icmp .lt 7, 3) := by decide +kernel
theorem dX6_pipe_53 : decode cX6_pipe 53 = .ok (.iconst 1, 1) := by decide +kernel
theorem dX6_pipe_54 : decode cX6_pipe 54 = .ok (.goto 43, 3) := by decide +kernel
theorem dX6_pipe_57 : decode cX6_pipe 57 = .ok (.iconst 0, 1) := by decide +kernel
theorem dX6_pipe_58 : decode cX6_pipe 58 = .ok (.goto 39, 3) := by decide +kernel
theorem dX6_pipe_61 : decode cX6_pipe 61 = .ok (.iload_n 1, 1) := by decide +kernel
theorem dX6_pipe_62 : decode cX6_pipe 62 = .ok (.iconst 3, 1) := by decide +kernel
theorem dX6_pipe_63 : decode cX6_pipe 63 = .ok (.if_icmp .ne 10, 3) := by decide +kernel
theorem dX6_pipe_66 : decode cX6_pipe 66 = .ok (.aload_n 0, 1) := by decide +kernel
theorem dX6_pipe_67 : decode cX6_pipe 67 = .ok (.getfield 170, 3) := by decide +kernel
theorem dX6_pipe_70 : decode cX6_pipe 70 = .ok (.goto 27, 3) := by decide +kernel
theorem dX6_pipe_73 : decode cX6_pipe 73 = .ok (.iload_n 1, 1) := by decide +kernel
theorem dX6_pipe_74 : decode cX6_pipe 74 = .ok (.iconst 4, 1) := by decide +kernel
theorem dX6_pipe_75 : decode cX6_pipe 75 = .ok (.if_icmp .ne 18, 3) := by decide +kernel
theorem dX6_pipe_78 : decode cX6_pipe 78 = .ok (.aload_n 0, 1) := by decide +kernel
theorem dX6_pipe_79 : decode cX6_pipe 79 = .ok (.getfield 147, 3) := by decide +kernel
theorem dX6_pipe_82 : decode cX6_pipe 82 = .ok (.ifCond .eq 7, 3) := by decide +kernel
theorem dX6_pipe_85 : decode cX6_pipe 85 = .ok (.iconst 1, 1) := by decide +kernel
theorem dX6_pipe_86 : decode cX6_pipe 86 = .ok (.goto 11, 3) := by decide +kernel
theorem dX6_pipe_89 : decode cX6_pipe 89 = .ok (.iconst 0, 1) := by decide +kernel
theorem dX6_pipe_90 : decode cX6_pipe 90 = .ok (.goto 7, 3) := by decide +kernel
theorem dX6_pipe_93 : decode cX6_pipe 93 = .ok (.aload_n 0, 1) := by decide +kernel
theorem dX6_pipe_94 : decode cX6_pipe 94 = .ok (.getfield 197, 3) := by decide +kernel
theorem dX6_pipe_97 : decode cX6_pipe 97 = .ok (.ireturn, 1) := by decide +kernel
set_option maxRecDepth 20000 in
theorem ggX6_dirt_X6_isSegment : GoodIn wsX6_dirt wsX6_isSegment := goodIn_r _ [6, 7, 8, 9, 5, 10, 16, 17, 18, 19, 20, 21, 22, 23, 24, 25, 26, 27, 28, 29, 30, 31, 32, 33, 34, 35, 36, 37, 38, 39, 40, 41, 42, 43, 44, 45, 46, 47, 48, 49, 50, 51, 52, 53, 54, 55, 56, 57, 58, 59, 60] (by decide +kernel) (by decide +kernel)
set_option maxRecDepth 20000 in
theorem gX6_dirt_X6_isSegment : GoodIn wsX6_dirt (wsV RX6 222 RX6 yX6_isSegment wsX6_isSegment) := goodIn_app (goodIn_of _ (by decide +kernel)) ggX6_dirt_X6_isSegment
set_option maxRecDepth 20000 in
theorem ggX6_dirt_X6_goes : GoodIn wsX6_dirt wsX6_goes := goodIn_r _ [14, 15, 16, 17, 18, 19, 20, 21, 22, 23, 24, 25, 26, 27, 28, 29, 30, 31, 32, 33, 34, 35, 36, 37, 38, 39, 40, 41, 42, 43, 44, 45, 46, 47, 48, 49, 50, 51, 52, 53, 54, 55, 56, 57, 58, 59, 60] (by decide +kernel) (by decide +kernel)
set_option maxRecDepth 20000 in
theorem gX6_dirt_X6_goes : GoodIn wsX6_dirt (wsV RX6 109 RX6 yX6_goes wsX6_goes) := goodIn_app (goodIn_of _ (by decide +kernel)) ggX6_dirt_X6_goes
theorem dX6_dirt_0 : decode cX6_dirt 0 = .ok (.aload_n 0, 1) := by decide +kernel
theorem dX6_dirt_1 : decode cX6_dirt 1 = .ok (.aload_n 0, 1) := by decide +kernel
theorem dX6_dirt_2 : decode cX6_dirt 2 = .ok (.iload_n 1, 1) := by decide +kernel
theorem dX6_dirt_3 : decode cX6_dirt 3 = .ok (.invokevirtual 222, 3) := by decide +kernel
theorem dX6_dirt_6 : decode cX6_dirt 6 = .ok (.iconst 1, 1) := by decide +kernel
theorem dX6_dirt_7 : decode cX6_dirt 7 = .ok (.iconst 1, 1) := by decide +kernel
theorem dX6_dirt_8 : decode cX6_dirt 8 = .ok (.invokevirtual 109, 3) := by decide +kernel
theorem dX6_dirt_11 : decode cX6_dirt 11 = .ok (.ifCond .ne 5, 3) := by decide +kernel
theorem dX6_dirt_14 : decode cX6_dirt 14 = .ok (.iconst 0, 1) := by decide +kernel
theorem dX6_dirt_15 : decode cX6_dirt 15 = .ok (.ireturn, 1) := by decide +kernel
theorem dX6_dirt_16 : decode cX6_dirt 16 = .ok (.aload_n 0, 1) := by decide +kernel
theorem dX6_dirt_17 : decode cX6_dirt 17 = .ok (.getfield 19, 3) := by decide +kernel
theorem dX6_dirt_20 : decode cX6_dirt 20 = .ok (.iload_n 1, 1) := by decide +kernel
theorem dX6_dirt_21 : decode cX6_dirt 21 = .ok (.iaload, 1) := by decide +kernel
theorem dX6_dirt_22 : decode cX6_dirt 22 = .ok (.ireturn, 1) := by decide +kernel
theorem dX6_waits_0 : decode cX6_waits 0 = .ok (.iconst 0, 1) := by decide +kernel
theorem dX6_waits_1 : decode cX6_waits 1 = .ok (.istore_n 2, 1) := by decide +kernel
theorem dX6_waits_2 : decode cX6_waits 2 = .ok (.iconst 1, 1) := by decide +kernel
theorem dX6_waits_3 : decode cX6_waits 3 = .ok (.istore_n 3, 1) := by decide +kernel
theorem dX6_waits_4 : decode cX6_waits 4 = .ok (.iload_n 3, 1) := by decide +kernel
theorem dX6_waits_5 : decode cX6_waits 5 = .ok (.aload_n 0, 1) := by decide +kernel
theorem dX6_waits_6 : decode cX6_waits 6 = .ok (.getfield 34, 3) := by decide +kernel
theorem dX6_waits_9 : decode cX6_waits 9 = .ok (.if_icmp .ge 39, 3) := by decide +kernel
theorem dX6_waits_12 : decode cX6_waits 12 = .ok (.iload_n 2, 1) := by decide +kernel
theorem dX6_waits_13 : decode cX6_waits 13 = .ok (.aload_n 0, 1) := by decide +kernel
theorem dX6_waits_14 : decode cX6_waits 14 = .ok (.getfield 38, 3) := by decide +kernel
theorem dX6_waits_17 : decode cX6_waits 17 = .ok (.iload_n 3, 1) := by decide +kernel
theorem dX6_waits_18 : decode cX6_waits 18 = .ok (.iaload, 1) := by decide +kernel
theorem dX6_waits_19 : decode cX6_waits 19 = .ok (.iload_n 1, 1) := by decide +kernel
theorem dX6_waits_20 : decode cX6_waits 20 = .ok (.if_icmp .ne 19, 3) := by decide +kernel
theorem dX6_waits_23 : decode cX6_waits 23 = .ok (.aload_n 0, 1) := by decide +kernel
theorem dX6_waits_24 : decode cX6_waits 24 = .ok (.getfield 44, 3) := by decide +kernel
theorem dX6_waits_27 : decode cX6_waits 27 = .ok (.iload_n 3, 1) := by decide +kernel
theorem dX6_waits_28 : decode cX6_waits 28 = .ok (.iaload, 1) := by decide +kernel
theorem dX6_waits_29 : decode cX6_waits 29 = .ok (.aload_n 0, 1) := by decide +kernel
theorem dX6_waits_30 : decode cX6_waits 30 = .ok (.getfield 47, 3) := by decide +kernel
theorem dX6_waits_33 : decode cX6_waits 33 = .ok (.iload_n 3, 1) := by decide +kernel
theorem dX6_waits_34 : decode cX6_waits 34 = .ok (.iaload, 1) := by decide +kernel
theorem dX6_waits_35 : decode cX6_waits 35 = .ok (.isub, 1) := by decide +kernel
theorem dX6_waits_36 : decode cX6_waits 36 = .ok (.goto 4, 3) := by decide +kernel
theorem dX6_waits_39 : decode cX6_waits 39 = .ok (.iconst 0, 1) := by decide +kernel
theorem dX6_waits_40 : decode cX6_waits 40 = .ok (.iadd, 1) := by decide +kernel
theorem dX6_waits_41 : decode cX6_waits 41 = .ok (.istore_n 2, 1) := by decide +kernel
theorem dX6_waits_42 : decode cX6_waits 42 = .ok (.iinc 3 1, 3) := by decide +kernel
theorem dX6_waits_45 : decode cX6_waits 45 = .ok (.goto (-41), 3) := by decide +kernel
theorem dX6_waits_48 : decode cX6_waits 48 = .ok (.iload_n 2, 1) := by decide +kernel
theorem dX6_waits_49 : decode cX6_waits 49 = .ok (.ireturn, 1) := by decide +kernel
theorem dX6_enteredOf_0 : decode cX6_enteredOf 0 = .ok (.iconst 0, 1) := by decide +kernel
theorem dX6_enteredOf_1 : decode cX6_enteredOf 1 = .ok (.istore_n 2, 1) := by decide +kernel
theorem dX6_enteredOf_2 : decode cX6_enteredOf 2 = .ok (.iconst 1, 1) := by decide +kernel
theorem dX6_enteredOf_3 : decode cX6_enteredOf 3 = .ok (.istore_n 3, 1) := by decide +kernel
theorem dX6_enteredOf_4 : decode cX6_enteredOf 4 = .ok (.iload_n 3, 1) := by decide +kernel
theorem dX6_enteredOf_5 : decode cX6_enteredOf 5 = .ok (.aload_n 0, 1) := by decide +kernel
theorem dX6_enteredOf_6 : decode cX6_enteredOf 6 = .ok (.getfield 34, 3) := by decide +kernel
theorem dX6_enteredOf_9 : decode cX6_enteredOf 9 = .ok (.if_icmp .ge 32, 3) := by decide +kernel
theorem dX6_enteredOf_12 : decode cX6_enteredOf 12 = .ok (.iload_n 2, 1) := by decide +kernel
theorem dX6_enteredOf_13 : decode cX6_enteredOf 13 = .ok (.aload_n 0, 1) := by decide +kernel
theorem dX6_enteredOf_14 : decode cX6_enteredOf 14 = .ok (.getfield 38, 3) := by decide +kernel
theorem dX6_enteredOf_17 : decode cX6_enteredOf 17 = .ok (.iload_n 3, 1) := by decide +kernel
theorem dX6_enteredOf_18 : decode cX6_enteredOf 18 = .ok (.iaload, 1) := by decide +kernel
theorem dX6_enteredOf_19 : decode cX6_enteredOf 19 = .ok (.iload_n 1, 1) := by decide +kernel
theorem dX6_enteredOf_20 : decode cX6_enteredOf 20 = .ok (.if_icmp .ne 12, 3) := by decide +kernel
theorem dX6_enteredOf_23 : decode cX6_enteredOf 23 = .ok (.aload_n 0, 1) := by decide +kernel
theorem dX6_enteredOf_24 : decode cX6_enteredOf 24 = .ok (.getfield 47, 3) := by decide +kernel
theorem dX6_enteredOf_27 : decode cX6_enteredOf 27 = .ok (.iload_n 3, 1) := by decide +kernel
theorem dX6_enteredOf_28 : decode cX6_enteredOf 28 = .ok (.iaload, 1) := by decide +kernel
theorem dX6_enteredOf_29 : decode cX6_enteredOf 29 = .ok (.goto 4, 3) := by decide +kernel
theorem dX6_enteredOf_32 : decode cX6_enteredOf 32 = .ok (.iconst 0, 1) := by decide +kernel
theorem dX6_enteredOf_33 : decode cX6_enteredOf 33 = .ok (.iadd, 1) := by decide +kernel
theorem dX6_enteredOf_34 : decode cX6_enteredOf 34 = .ok (.istore_n 2, 1) := by decide +kernel
theorem dX6_enteredOf_35 : decode cX6_enteredOf 35 = .ok (.iinc 3 1, 3) := by decide +kernel
theorem dX6_enteredOf_38 : decode cX6_enteredOf 38 = .ok (.goto (-34), 3) := by decide +kernel
theorem dX6_enteredOf_41 : decode cX6_enteredOf 41 = .ok (.iload_n 2, 1) := by decide +kernel
theorem dX6_enteredOf_42 : decode cX6_enteredOf 42 = .ok (.ireturn, 1) := by decide +kernel
set_option maxRecDepth 20000 in
theorem ggX6_share_X6_isShipper : GoodIn wsX6_share wsX6_isShipper := goodIn_r _ [4, 5, 6, 3, 7] (by decide +kernel) (by decide +kernel)
set_option maxRecDepth 20000 in
theorem gX6_share_X6_isShipper : GoodIn wsX6_share (va_wsS RX6 123 yX6_isShipper wsX6_isShipper) := goodIn_app (goodIn_of _ (by decide +kernel)) ggX6_share_X6_isShipper
set_option maxRecDepth 20000 in
theorem ggX6_share_X6_isBetween : GoodIn wsX6_share wsX6_isBetween := goodIn_r _ [7] (by decide +kernel) (by decide +kernel)
set_option maxRecDepth 20000 in
theorem gX6_share_X6_isBetween : GoodIn wsX6_share (va_wsS RX6 98 yX6_isBetween wsX6_isBetween) := goodIn_app (goodIn_of _ (by decide +kernel)) ggX6_share_X6_isBetween
set_option maxRecDepth 20000 in
theorem ggX6_share_X6_goes : GoodIn wsX6_share wsX6_goes := goodIn_r _ [11, 12, 25, 26, 27, 28, 29, 30, 31, 32, 33, 34, 35, 36, 37, 38, 39, 40, 41, 42, 43, 44, 45, 46, 47, 48, 49, 50, 51, 52, 53, 54, 55, 56, 57, 58, 59, 60, 61, 62, 63, 64, 65, 66, 67, 68, 69] (by decide +kernel) (by decide +kernel)
set_option maxRecDepth 20000 in
theorem gX6_share_X6_goes : GoodIn wsX6_share (wsV RX6 109 RX6 yX6_goes wsX6_goes) := goodIn_app (goodIn_of _ (by decide +kernel)) ggX6_share_X6_goes
set_option maxRecDepth 20000 in
theorem ggX6_share_X6_waits : GoodIn wsX6_share wsX6_waits := goodIn_r _ [16, 17, 18, 19, 20, 25, 26, 27, 28, 29, 30, 31, 32, 33, 34, 35, 36, 37, 38, 39, 40, 41, 42, 43, 44, 45, 46, 47, 48, 49, 50, 51, 52, 53, 54, 55, 56, 57, 58, 59, 60, 61, 62, 63, 64, 65, 66, 67, 68, 69] (by decide +kernel) (by decide +kernel)
set_option maxRecDepth 20000 in
theorem gX6_share_X6_waits : GoodIn wsX6_share (wsV RX6 228 RX6 yX6_waits wsX6_waits) := goodIn_app (goodIn_of _ (by decide +kernel)) ggX6_share_X6_waits
set_option maxRecDepth 20000 in
theorem ggX6_share_X6_enteredOf : GoodIn wsX6_share wsX6_enteredOf := goodIn_r _ [24, 17, 18, 20, 25, 26, 27, 28, 29, 30, 31, 32, 33, 34, 35, 36, 37, 38, 39, 40, 41, 42, 43, 44, 45, 46, 47, 48, 49, 50, 51, 52, 53, 54, 55, 56, 57, 58, 59, 60, 61, 62, 63, 64, 65, 66, 67, 68, 69] (by decide +kernel) (by decide +kernel)
set_option maxRecDepth 20000 in
theorem gX6_share_X6_enteredOf : GoodIn wsX6_share (wsV RX6 231 RX6 yX6_enteredOf wsX6_enteredOf) := goodIn_app (goodIn_of _ (by decide +kernel)) ggX6_share_X6_enteredOf
theorem dX6_share_0 : decode cX6_share 0 = .ok (.aload_n 0, 1) := by decide +kernel
theorem dX6_share_1 : decode cX6_share 1 = .ok (.iload_n 1, 1) := by decide +kernel
theorem dX6_share_2 : decode cX6_share 2 = .ok (.invokestatic 123, 3) := by decide +kernel
theorem dX6_share_5 : decode cX6_share 5 = .ok (.iload_n 2, 1) := by decide +kernel
theorem dX6_share_6 : decode cX6_share 6 = .ok (.iconst 0, 1) := by decide +kernel
theorem dX6_share_7 : decode cX6_share 7 = .ok (.sipush 9999, 3) := by decide +kernel
theorem dX6_share_10 : decode cX6_share 10 = .ok (.invokestatic 98, 3) := by decide +kernel
theorem dX6_share_13 : decode cX6_share 13 = .ok (.iconst 1, 1) := by decide +kernel
theorem dX6_share_14 : decode cX6_share 14 = .ok (.invokevirtual 109, 3) := by decide +kernel
theorem dX6_share_17 : decode cX6_share 17 = .ok (.ifCond .ne 5, 3) := by decide +kernel
theorem dX6_share_20 : decode cX6_share 20 = .ok (.iconst 0, 1) := by decide +kernel
theorem dX6_share_21 : decode cX6_share 21 = .ok (.ireturn, 1) := by decide +kernel
theorem dX6_share_22 : decode cX6_share 22 = .ok (.iconst 0, 1) := by decide +kernel
theorem dX6_share_23 : decode cX6_share 23 = .ok (.istore_n 3, 1) := by decide +kernel
theorem dX6_share_24 : decode cX6_share 24 = .ok (.iconst 0, 1) := by decide +kernel
theorem dX6_share_25 : decode cX6_share 25 = .ok (.istore 4, 2) := by decide +kernel
theorem dX6_share_27 : decode cX6_share 27 = .ok (.iconst 0, 1) := by decide +kernel
theorem dX6_share_28 : decode cX6_share 28 = .ok (.istore 5, 2) := by decide +kernel
theorem dX6_share_30 : decode cX6_share 30 = .ok (.iload 5, 2) := by decide +kernel
theorem dX6_share_32 : decode cX6_share 32 = .ok (.iconst 4, 1) := by decide +kernel
theorem dX6_share_33 : decode cX6_share 33 = .ok (.if_icmp .ge 31, 3) := by decide +kernel
theorem dX6_share_36 : decode cX6_share 36 = .ok (.iload_n 3, 1) := by decide +kernel
theorem dX6_share_37 : decode cX6_share 37 = .ok (.aload_n 0, 1) := by decide +kernel
theorem dX6_share_38 : decode cX6_share 38 = .ok (.iload 5, 2) := by decide +kernel
theorem dX6_share_40 : decode cX6_share 40 = .ok (.invokevirtual 228, 3) := by decide +kernel
theorem dX6_share_43 : decode cX6_share 43 = .ok (.iadd, 1) := by decide +kernel
theorem dX6_share_44 : decode cX6_share 44 = .ok (.istore_n 3, 1) := by decide +kernel
theorem dX6_share_45 : decode cX6_share 45 = .ok (.iload 4, 2) := by decide +kernel
theorem dX6_share_47 : decode cX6_share 47 = .ok (.aload_n 0, 1) := by decide +kernel
theorem dX6_share_48 : decode cX6_share 48 = .ok (.iload 5, 2) := by decide +kernel
theorem dX6_share_50 : decode cX6_share 50 = .ok (.invokevirtual 231, 3) := by decide +kernel
theorem dX6_share_53 : decode cX6_share 53 = .ok (.iconst 1, 1) := by decide +kernel
theorem dX6_share_54 : decode cX6_share 54 = .ok (.iadd, 1) := by decide +kernel
theorem dX6_share_55 : decode cX6_share 55 = .ok (.iadd, 1) := by decide +kernel
theorem dX6_share_56 : decode cX6_share 56 = .ok (.istore 4, 2) := by decide +kernel
theorem dX6_share_58 : decode cX6_share 58 = .ok (.iinc 5 1, 3) := by decide +kernel
theorem dX6_share_61 : decode cX6_share 61 = .ok (.goto (-31), 3) := by decide +kernel
theorem dX6_share_64 : decode cX6_share 64 = .ok (.iload_n 2, 1) := by decide +kernel
theorem dX6_share_65 : decode cX6_share 65 = .ok (.aload_n 0, 1) := by decide +kernel
theorem dX6_share_66 : decode cX6_share 66 = .ok (.iload_n 1, 1) := by decide +kernel
theorem dX6_share_67 : decode cX6_share 67 = .ok (.invokevirtual 231, 3) := by decide +kernel
theorem dX6_share_70 : decode cX6_share 70 = .ok (.iconst 1, 1) := by decide +kernel
theorem dX6_share_71 : decode cX6_share 71 = .ok (.iadd, 1) := by decide +kernel
theorem dX6_share_72 : decode cX6_share 72 = .ok (.imul, 1) := by decide +kernel
theorem dX6_share_73 : decode cX6_share 73 = .ok (.iload 4, 2) := by decide +kernel
theorem dX6_share_75 : decode cX6_share 75 = .ok (.idiv, 1) := by decide +kernel
theorem dX6_share_76 : decode cX6_share 76 = .ok (.istore 5, 2) := by decide +kernel
theorem dX6_share_78 : decode cX6_share 78 = .ok (.iload_n 3, 1) := by decide +kernel
theorem dX6_share_79 : decode cX6_share 79 = .ok (.iload_n 2, 1) := by decide +kernel
theorem dX6_share_80 : decode cX6_share 80 = .ok (.if_icmp .le 13, 3) := by decide +kernel
theorem dX6_share_83 : decode cX6_share 83 = .ok (.iload 5, 2) := by decide +kernel
theorem dX6_share_85 : decode cX6_share 85 = .ok (.aload_n 0, 1) := by decide +kernel
theorem dX6_share_86 : decode cX6_share 86 = .ok (.iload_n 1, 1) := by decide +kernel
theorem dX6_share_87 : decode cX6_share 87 = .ok (.invokevirtual 228, 3) := by decide +kernel
theorem dX6_share_90 : decode cX6_share 90 = .ok (.if_icmp .le 11, 3) := by decide +kernel
theorem dX6_share_93 : decode cX6_share 93 = .ok (.aload_n 0, 1) := by decide +kernel
theorem dX6_share_94 : decode cX6_share 94 = .ok (.iload_n 1, 1) := by decide +kernel
theorem dX6_share_95 : decode cX6_share 95 = .ok (.invokevirtual 228, 3) := by decide +kernel
theorem dX6_share_98 : decode cX6_share 98 = .ok (.goto 5, 3) := by decide +kernel
theorem dX6_share_101 : decode cX6_share 101 = .ok (.iload 5, 2) := by decide +kernel
theorem dX6_share_103 : decode cX6_share 103 = .ok (.ireturn, 1) := by decide +kernel
theorem dJ9_max_7cf53_0 : decode cJ9_max_7cf53 0 = .ok (.iload_n 0, 1) := by decide +kernel
theorem dJ9_max_7cf53_1 : decode cJ9_max_7cf53 1 = .ok (.iload_n 1, 1) := by decide +kernel
theorem dJ9_max_7cf53_2 : decode cJ9_max_7cf53 2 = .ok (.if_icmp .lt 7, 3) := by decide +kernel
theorem dJ9_max_7cf53_5 : decode cJ9_max_7cf53 5 = .ok (.iload_n 0, 1) := by decide +kernel
theorem dJ9_max_7cf53_6 : decode cJ9_max_7cf53 6 = .ok (.goto 4, 3) := by decide +kernel
theorem dJ9_max_7cf53_9 : decode cJ9_max_7cf53 9 = .ok (.iload_n 1, 1) := by decide +kernel
theorem dJ9_max_7cf53_10 : decode cJ9_max_7cf53 10 = .ok (.ireturn, 1) := by decide +kernel
theorem dJ9_min_7cf53_0 : decode cJ9_min_7cf53 0 = .ok (.iload_n 0, 1) := by decide +kernel
theorem dJ9_min_7cf53_1 : decode cJ9_min_7cf53 1 = .ok (.iload_n 1, 1) := by decide +kernel
theorem dJ9_min_7cf53_2 : decode cJ9_min_7cf53 2 = .ok (.if_icmp .gt 7, 3) := by decide +kernel
theorem dJ9_min_7cf53_5 : decode cJ9_min_7cf53 5 = .ok (.iload_n 0, 1) := by decide +kernel
theorem dJ9_min_7cf53_6 : decode cJ9_min_7cf53 6 = .ok (.goto 4, 3) := by decide +kernel
theorem dJ9_min_7cf53_9 : decode cJ9_min_7cf53 9 = .ok (.iload_n 1, 1) := by decide +kernel
theorem dJ9_min_7cf53_10 : decode cJ9_min_7cf53 10 = .ok (.ireturn, 1) := by decide +kernel
set_option maxRecDepth 20000 in
theorem ggL_segment_X5_segment : GoodIn wsL_segment wsX5_segment := goodIn_ca (goodIn_ca (goodIn_r _ [7, 8, 9, 10, 11, 12, 13, 14, 15, 6, 16, 17, 18, 19, 20, 21, 22, 23, 24, 25, 26, 27, 28, 29, 30, 31, 32, 33, 34, 35, 36, 37, 38, 39, 40, 41, 42, 43, 44, 45, 46, 47, 48, 49] (by decide +kernel) (by decide +kernel)) (goodIn_sub (fun _ h => List.mem_cons_of_mem _ (List.mem_append_left _ (List.mem_append_right _ h))) (by decide +kernel))) (goodIn_sub (fun _ h => List.mem_cons_of_mem _ (List.mem_append_right _ h)) (by decide +kernel))
set_option maxRecDepth 20000 in
theorem gL_segment_X5_segment : GoodIn wsL_segment (wsV RL 7 RX5 yX5_segment wsX5_segment) := goodIn_app (goodIn_of _ (by decide +kernel)) ggL_segment_X5_segment
theorem dL_segment_0 : decode cL_segment 0 = .ok (.aload 4, 2) := by decide +kernel
theorem dL_segment_2 : decode cL_segment 2 = .ok (.iconst 0, 1) := by decide +kernel
theorem dL_segment_3 : decode cL_segment 3 = .ok (.aload_n 0, 1) := by decide +kernel
theorem dL_segment_4 : decode cL_segment 4 = .ok (.iload_n 1, 1) := by decide +kernel
theorem dL_segment_5 : decode cL_segment 5 = .ok (.iload_n 2, 1) := by decide +kernel
theorem dL_segment_6 : decode cL_segment 6 = .ok (.iload_n 3, 1) := by decide +kernel
theorem dL_segment_7 : decode cL_segment 7 = .ok (.invokevirtual 7, 3) := by decide +kernel
theorem dL_segment_10 : decode cL_segment 10 = .ok (.i2l, 1) := by decide +kernel
theorem dL_segment_11 : decode cL_segment 11 = .ok (.lastore, 1) := by decide +kernel
theorem dL_segment_12 : decode cL_segment 12 = .ok (.goto 11, 3) := by decide +kernel
theorem dL_segment_15 : decode cL_segment 15 = .ok (.astore 5, 2) := by decide +kernel
theorem dL_segment_17 : decode cL_segment 17 = .ok (.iconst 1, 1) := by decide +kernel
theorem dL_segment_18 : decode cL_segment 18 = .ok (.ireturn, 1) := by decide +kernel
theorem dL_segment_19 : decode cL_segment 19 = .ok (.astore 5, 2) := by decide +kernel
theorem dL_segment_21 : decode cL_segment 21 = .ok (.iconst 2, 1) := by decide +kernel
theorem dL_segment_22 : decode cL_segment 22 = .ok (.ireturn, 1) := by decide +kernel
theorem dL_segment_23 : decode cL_segment 23 = .ok (.iconst 0, 1) := by decide +kernel
theorem dL_segment_24 : decode cL_segment 24 = .ok (.ireturn, 1) := by decide +kernel
set_option maxRecDepth 20000 in
theorem ggL_product_X5_product : GoodIn wsL_product wsX5_product := goodIn_ca (goodIn_ca (goodIn_r _ [7, 8, 9, 10, 11, 12, 13, 6, 14, 15, 16, 17, 18, 19, 20, 21, 22, 23, 24, 25, 26, 27, 28, 29, 30, 31, 32, 33, 34, 35, 36, 37, 38, 39, 40, 41, 42, 43, 44, 45, 46, 47, 48, 49, 50] (by decide +kernel) (by decide +kernel)) (goodIn_sub (fun _ h => List.mem_cons_of_mem _ (List.mem_append_left _ (List.mem_append_right _ h))) (by decide +kernel))) (goodIn_sub (fun _ h => List.mem_cons_of_mem _ (List.mem_append_right _ h)) (by decide +kernel))
set_option maxRecDepth 20000 in
theorem gL_product_X5_product : GoodIn wsL_product (wsV RL 17 RX5 yX5_product wsX5_product) := goodIn_app (goodIn_of _ (by decide +kernel)) ggL_product_X5_product
theorem dL_product_0 : decode cL_product 0 = .ok (.aload_n 0, 1) := by decide +kernel
theorem dL_product_1 : decode cL_product 1 = .ok (.iload_n 1, 1) := by decide +kernel
theorem dL_product_2 : decode cL_product 2 = .ok (.iload_n 2, 1) := by decide +kernel
theorem dL_product_3 : decode cL_product 3 = .ok (.iload_n 3, 1) := by decide +kernel
theorem dL_product_4 : decode cL_product 4 = .ok (.iload 4, 2) := by decide +kernel
theorem dL_product_6 : decode cL_product 6 = .ok (.iload 5, 2) := by decide +kernel
theorem dL_product_8 : decode cL_product 8 = .ok (.invokevirtual 17, 3) := by decide +kernel
theorem dL_product_11 : decode cL_product 11 = .ok (.goto 11, 3) := by decide +kernel
theorem dL_product_14 : decode cL_product 14 = .ok (.astore 6, 2) := by decide +kernel
theorem dL_product_16 : decode cL_product 16 = .ok (.iconst 1, 1) := by decide +kernel
theorem dL_product_17 : decode cL_product 17 = .ok (.ireturn, 1) := by decide +kernel
theorem dL_product_18 : decode cL_product 18 = .ok (.astore 6, 2) := by decide +kernel
theorem dL_product_20 : decode cL_product 20 = .ok (.iconst 2, 1) := by decide +kernel
theorem dL_product_21 : decode cL_product 21 = .ok (.ireturn, 1) := by decide +kernel
theorem dL_product_22 : decode cL_product 22 = .ok (.iconst 0, 1) := by decide +kernel
theorem dL_product_23 : decode cL_product 23 = .ok (.ireturn, 1) := by decide +kernel
set_option maxRecDepth 20000 in
theorem ggL_open_X5_open : GoodIn wsL_open wsX5_open := goodIn_ca (goodIn_ca (goodIn_r _ [7, 8, 9, 10, 11, 12, 13, 14, 15, 16, 17, 6, 18, 19, 20, 21, 22, 23, 24, 25, 26, 27, 28, 29, 30, 31, 32, 33, 34, 35, 36, 37, 38, 39, 40, 41, 42, 43, 44, 45, 46, 47, 48, 49, 50, 51, 52, 53, 54, 55, 56, 57, 58, 59, 60, 61, 62, 63, 64, 65, 66, 67, 68, 69, 70, 71, 72, 73, 74, 75, 76, 77, 78, 79, 80, 81, 82, 83, 84, 85, 86, 87] (by decide +kernel) (by decide +kernel)) (goodIn_sub (fun _ h => List.mem_cons_of_mem _ (List.mem_append_left _ (List.mem_append_right _ h))) (by decide +kernel))) (goodIn_sub (fun _ h => List.mem_cons_of_mem _ (List.mem_append_right _ h)) (by decide +kernel))
set_option maxRecDepth 20000 in
theorem gL_open_X5_open : GoodIn wsL_open (wsV RL 23 RX5 yX5_open wsX5_open) := goodIn_app (goodIn_of _ (by decide +kernel)) ggL_open_X5_open
theorem dL_open_0 : decode cL_open 0 = .ok (.aload_n 2, 1) := by decide +kernel
theorem dL_open_1 : decode cL_open 1 = .ok (.iconst 0, 1) := by decide +kernel
theorem dL_open_2 : decode cL_open 2 = .ok (.aload_n 0, 1) := by decide +kernel
theorem dL_open_3 : decode cL_open 3 = .ok (.iload_n 1, 1) := by decide +kernel
theorem dL_open_4 : decode cL_open 4 = .ok (.invokevirtual 23, 3) := by decide +kernel
theorem dL_open_7 : decode cL_open 7 = .ok (.i2l, 1) := by decide +kernel
theorem dL_open_8 : decode cL_open 8 = .ok (.lastore, 1) := by decide +kernel
theorem dL_open_9 : decode cL_open 9 = .ok (.goto 9, 3) := by decide +kernel
theorem dL_open_12 : decode cL_open 12 = .ok (.astore_n 3, 1) := by decide +kernel
theorem dL_open_13 : decode cL_open 13 = .ok (.iconst 1, 1) := by decide +kernel
theorem dL_open_14 : decode cL_open 14 = .ok (.ireturn, 1) := by decide +kernel
theorem dL_open_15 : decode cL_open 15 = .ok (.astore_n 3, 1) := by decide +kernel
theorem dL_open_16 : decode cL_open 16 = .ok (.iconst 2, 1) := by decide +kernel
theorem dL_open_17 : decode cL_open 17 = .ok (.ireturn, 1) := by decide +kernel
theorem dL_open_18 : decode cL_open 18 = .ok (.iconst 0, 1) := by decide +kernel
theorem dL_open_19 : decode cL_open 19 = .ok (.ireturn, 1) := by decide +kernel
set_option maxRecDepth 20000 in
theorem ggL_order_X5_order : GoodIn wsL_order wsX5_order := goodIn_ca (goodIn_ca (goodIn_ca (goodIn_r _ [8, 9, 10, 11, 12, 13, 14, 15, 16, 7, 17, 18, 19, 20, 21, 22, 23, 24, 25, 26, 27, 28, 29, 30, 31, 32, 33, 34, 35, 36, 37, 38, 39, 40, 41, 42, 43, 44, 45, 46, 47, 48, 49, 50, 51, 52, 53, 54, 55, 56, 57, 58, 59, 60, 61, 62] (by decide +kernel) (by decide +kernel)) (goodIn_sub (fun _ h => List.mem_cons_of_mem _ (List.mem_append_left _ (List.mem_append_left _ (List.mem_append_right _ h)))) (by decide +kernel))) (goodIn_sub (fun _ h => List.mem_cons_of_mem _ (List.mem_append_left _ (List.mem_append_right _ h))) (by decide +kernel))) (goodIn_sub (fun _ h => List.mem_cons_of_mem _ (List.mem_append_right _ h)) (by decide +kernel))
set_option maxRecDepth 20000 in
theorem gL_order_X5_order : GoodIn wsL_order (wsV RL 27 RX5 yX5_order wsX5_order) := goodIn_app (goodIn_of _ (by decide +kernel)) ggL_order_X5_order
theorem dL_order_0 : decode cL_order 0 = .ok (.aload 4, 2) := by decide +kernel
theorem dL_order_2 : decode cL_order 2 = .ok (.iconst 0, 1) := by decide +kernel
theorem dL_order_3 : decode cL_order 3 = .ok (.aload_n 0, 1) := by decide +kernel
theorem dL_order_4 : decode cL_order 4 = .ok (.iload_n 1, 1) := by decide +kernel
theorem dL_order_5 : decode cL_order 5 = .ok (.iload_n 2, 1) := by decide +kernel
theorem dL_order_6 : decode cL_order 6 = .ok (.iload_n 3, 1) := by decide +kernel
theorem dL_order_7 : decode cL_order 7 = .ok (.invokevirtual 27, 3) := by decide +kernel
theorem dL_order_10 : decode cL_order 10 = .ok (.i2l, 1) := by decide +kernel
theorem dL_order_11 : decode cL_order 11 = .ok (.lastore, 1) := by decide +kernel
theorem dL_order_12 : decode cL_order 12 = .ok (.goto 15, 3) := by decide +kernel
theorem dL_order_15 : decode cL_order 15 = .ok (.astore 5, 2) := by decide +kernel
theorem dL_order_17 : decode cL_order 17 = .ok (.iconst 1, 1) := by decide +kernel
theorem dL_order_18 : decode cL_order 18 = .ok (.ireturn, 1) := by decide +kernel
theorem dL_order_19 : decode cL_order 19 = .ok (.astore 5, 2) := by decide +kernel
theorem dL_order_21 : decode cL_order 21 = .ok (.iconst 2, 1) := by decide +kernel
theorem dL_order_22 : decode cL_order 22 = .ok (.ireturn, 1) := by decide +kernel
theorem dL_order_23 : decode cL_order 23 = .ok (.astore 5, 2) := by decide +kernel
theorem dL_order_25 : decode cL_order 25 = .ok (.iconst 3, 1) := by decide +kernel
theorem dL_order_26 : decode cL_order 26 = .ok (.ireturn, 1) := by decide +kernel
theorem dL_order_27 : decode cL_order 27 = .ok (.iconst 0, 1) := by decide +kernel
theorem dL_order_28 : decode cL_order 28 = .ok (.ireturn, 1) := by decide +kernel
set_option maxRecDepth 20000 in
theorem ggL_rate_X5_rate : GoodIn wsL_rate wsX5_rate := goodIn_ca (goodIn_r _ [6, 7, 8, 9, 10, 5, 11, 12, 13, 14, 15, 16, 17, 18, 19, 20, 21, 22, 23, 24, 25, 26, 27, 28, 29, 30] (by decide +kernel) (by decide +kernel)) (goodIn_sub (fun _ h => List.mem_cons_of_mem _ (List.mem_append_right _ h)) (by decide +kernel))
set_option maxRecDepth 20000 in
theorem gL_rate_X5_rate : GoodIn wsL_rate (wsV RL 30 RX5 yX5_rate wsX5_rate) := goodIn_app (goodIn_of _ (by decide +kernel)) ggL_rate_X5_rate
theorem dL_rate_0 : decode cL_rate 0 = .ok (.aload_n 2, 1) := by decide +kernel
theorem dL_rate_1 : decode cL_rate 1 = .ok (.iconst 0, 1) := by decide +kernel
theorem dL_rate_2 : decode cL_rate 2 = .ok (.aload_n 0, 1) := by decide +kernel
theorem dL_rate_3 : decode cL_rate 3 = .ok (.iload_n 1, 1) := by decide +kernel
theorem dL_rate_4 : decode cL_rate 4 = .ok (.invokevirtual 30, 3) := by decide +kernel
theorem dL_rate_7 : decode cL_rate 7 = .ok (.i2l, 1) := by decide +kernel
theorem dL_rate_8 : decode cL_rate 8 = .ok (.lastore, 1) := by decide +kernel
theorem dL_rate_9 : decode cL_rate 9 = .ok (.goto 6, 3) := by decide +kernel
theorem dL_rate_12 : decode cL_rate 12 = .ok (.astore_n 3, 1) := by decide +kernel
theorem dL_rate_13 : decode cL_rate 13 = .ok (.iconst 1, 1) := by decide +kernel
theorem dL_rate_14 : decode cL_rate 14 = .ok (.ireturn, 1) := by decide +kernel
theorem dL_rate_15 : decode cL_rate 15 = .ok (.iconst 0, 1) := by decide +kernel
theorem dL_rate_16 : decode cL_rate 16 = .ok (.ireturn, 1) := by decide +kernel
set_option maxRecDepth 20000 in
theorem ggL_drop_X5_drop : GoodIn wsL_drop wsX5_drop := goodIn_ca (goodIn_ca (goodIn_r _ [7, 8, 9, 10, 11, 6, 12, 13, 14, 15, 16, 17, 18, 19, 20, 21, 22, 23, 24, 25, 26, 27, 28, 29, 30, 31, 32, 33, 34, 35, 36, 37, 38, 39, 40, 41, 42, 43, 44, 45, 46, 47, 48, 49, 50, 51, 52, 53] (by decide +kernel) (by decide +kernel)) (goodIn_sub (fun _ h => List.mem_cons_of_mem _ (List.mem_append_left _ (List.mem_append_right _ h))) (by decide +kernel))) (goodIn_sub (fun _ h => List.mem_cons_of_mem _ (List.mem_append_right _ h)) (by decide +kernel))
set_option maxRecDepth 20000 in
theorem gL_drop_X5_drop : GoodIn wsL_drop (wsV RL 33 RX5 yX5_drop wsX5_drop) := goodIn_app (goodIn_of _ (by decide +kernel)) ggL_drop_X5_drop
theorem dL_drop_0 : decode cL_drop 0 = .ok (.aload_n 0, 1) := by decide +kernel
theorem dL_drop_1 : decode cL_drop 1 = .ok (.iload_n 1, 1) := by decide +kernel
theorem dL_drop_2 : decode cL_drop 2 = .ok (.iload_n 2, 1) := by decide +kernel
theorem dL_drop_3 : decode cL_drop 3 = .ok (.iload_n 3, 1) := by decide +kernel
theorem dL_drop_4 : decode cL_drop 4 = .ok (.invokevirtual 33, 3) := by decide +kernel
theorem dL_drop_7 : decode cL_drop 7 = .ok (.goto 11, 3) := by decide +kernel
theorem dL_drop_10 : decode cL_drop 10 = .ok (.astore 4, 2) := by decide +kernel
theorem dL_drop_12 : decode cL_drop 12 = .ok (.iconst 1, 1) := by decide +kernel
theorem dL_drop_13 : decode cL_drop 13 = .ok (.ireturn, 1) := by decide +kernel
theorem dL_drop_14 : decode cL_drop 14 = .ok (.astore 4, 2) := by decide +kernel
theorem dL_drop_16 : decode cL_drop 16 = .ok (.iconst 2, 1) := by decide +kernel
theorem dL_drop_17 : decode cL_drop 17 = .ok (.ireturn, 1) := by decide +kernel
theorem dL_drop_18 : decode cL_drop 18 = .ok (.iconst 0, 1) := by decide +kernel
theorem dL_drop_19 : decode cL_drop 19 = .ok (.ireturn, 1) := by decide +kernel
set_option maxRecDepth 20000 in
theorem ggL_leak_X5_leak : GoodIn wsL_leak wsX5_leak := goodIn_ca (goodIn_ca (goodIn_r _ [7, 8, 9, 10, 11, 6, 12, 13, 14, 15, 16, 17, 18, 19, 20, 21, 22, 23, 24, 25, 26, 27, 28, 29, 30, 31, 32, 33, 34, 35, 36, 37, 38, 39, 40, 41, 42, 43, 44, 45, 46, 47, 48, 49, 50, 51, 52, 53] (by decide +kernel) (by decide +kernel)) (goodIn_sub (fun _ h => List.mem_cons_of_mem _ (List.mem_append_left _ (List.mem_append_right _ h))) (by decide +kernel))) (goodIn_sub (fun _ h => List.mem_cons_of_mem _ (List.mem_append_right _ h)) (by decide +kernel))
set_option maxRecDepth 20000 in
theorem gL_leak_X5_leak : GoodIn wsL_leak (wsV RL 37 RX5 yX5_leak wsX5_leak) := goodIn_app (goodIn_of _ (by decide +kernel)) ggL_leak_X5_leak
theorem dL_leak_0 : decode cL_leak 0 = .ok (.aload_n 0, 1) := by decide +kernel
theorem dL_leak_1 : decode cL_leak 1 = .ok (.iload_n 1, 1) := by decide +kernel
theorem dL_leak_2 : decode cL_leak 2 = .ok (.iload_n 2, 1) := by decide +kernel
theorem dL_leak_3 : decode cL_leak 3 = .ok (.invokevirtual 37, 3) := by decide +kernel
theorem dL_leak_6 : decode cL_leak 6 = .ok (.goto 9, 3) := by decide +kernel
theorem dL_leak_9 : decode cL_leak 9 = .ok (.astore_n 3, 1) := by decide +kernel
theorem dL_leak_10 : decode cL_leak 10 = .ok (.iconst 1, 1) := by decide +kernel
theorem dL_leak_11 : decode cL_leak 11 = .ok (.ireturn, 1) := by decide +kernel
theorem dL_leak_12 : decode cL_leak 12 = .ok (.astore_n 3, 1) := by decide +kernel
theorem dL_leak_13 : decode cL_leak 13 = .ok (.iconst 2, 1) := by decide +kernel
theorem dL_leak_14 : decode cL_leak 14 = .ok (.ireturn, 1) := by decide +kernel
theorem dL_leak_15 : decode cL_leak 15 = .ok (.iconst 0, 1) := by decide +kernel
theorem dL_leak_16 : decode cL_leak 16 = .ok (.ireturn, 1) := by decide +kernel
set_option maxRecDepth 20000 in
theorem ggL_receive_X5_receive : GoodIn wsL_receive wsX5_receive := goodIn_ca (goodIn_r _ [6, 7, 8, 9, 10, 5, 11, 12, 13, 14, 15, 16, 17, 18, 19, 20, 21, 22, 23, 24, 25, 26, 27, 28, 29, 30, 31, 32, 33, 34] (by decide +kernel) (by decide +kernel)) (goodIn_sub (fun _ h => List.mem_cons_of_mem _ (List.mem_append_right _ h)) (by decide +kernel))
set_option maxRecDepth 20000 in
theorem gL_receive_X5_receive : GoodIn wsL_receive (wsV RL 41 RX5 yX5_receive wsX5_receive) := goodIn_app (goodIn_of _ (by decide +kernel)) ggL_receive_X5_receive
theorem dL_receive_0 : decode cL_receive 0 = .ok (.aload_n 2, 1) := by decide +kernel
theorem dL_receive_1 : decode cL_receive 1 = .ok (.iconst 0, 1) := by decide +kernel
theorem dL_receive_2 : decode cL_receive 2 = .ok (.aload_n 0, 1) := by decide +kernel
theorem dL_receive_3 : decode cL_receive 3 = .ok (.iload_n 1, 1) := by decide +kernel
theorem dL_receive_4 : decode cL_receive 4 = .ok (.invokevirtual 41, 3) := by decide +kernel
theorem dL_receive_7 : decode cL_receive 7 = .ok (.i2l, 1) := by decide +kernel
theorem dL_receive_8 : decode cL_receive 8 = .ok (.lastore, 1) := by decide +kernel
theorem dL_receive_9 : decode cL_receive 9 = .ok (.goto 6, 3) := by decide +kernel
theorem dL_receive_12 : decode cL_receive 12 = .ok (.astore_n 3, 1) := by decide +kernel
theorem dL_receive_13 : decode cL_receive 13 = .ok (.iconst 1, 1) := by decide +kernel
theorem dL_receive_14 : decode cL_receive 14 = .ok (.ireturn, 1) := by decide +kernel
theorem dL_receive_15 : decode cL_receive 15 = .ok (.iconst 0, 1) := by decide +kernel
theorem dL_receive_16 : decode cL_receive 16 = .ok (.ireturn, 1) := by decide +kernel
set_option maxRecDepth 20000 in
theorem ggL_empty_X5_empty : GoodIn wsL_empty wsX5_empty := goodIn_ca (goodIn_r _ [6, 7, 8, 9, 10, 5, 11, 12, 13, 14, 15, 16, 17, 18, 19, 20, 21, 22, 23, 24, 25, 26, 27, 28, 29, 30, 31, 32, 33, 34, 35, 36, 37, 38, 39, 40, 41] (by decide +kernel) (by decide +kernel)) (goodIn_sub (fun _ h => List.mem_cons_of_mem _ (List.mem_append_right _ h)) (by decide +kernel))
set_option maxRecDepth 20000 in
theorem gL_empty_X5_empty : GoodIn wsL_empty (wsV RL 44 RX5 yX5_empty wsX5_empty) := goodIn_app (goodIn_of _ (by decide +kernel)) ggL_empty_X5_empty
theorem dL_empty_0 : decode cL_empty 0 = .ok (.aload_n 2, 1) := by decide +kernel
theorem dL_empty_1 : decode cL_empty 1 = .ok (.iconst 0, 1) := by decide +kernel
theorem dL_empty_2 : decode cL_empty 2 = .ok (.aload_n 0, 1) := by decide +kernel
theorem dL_empty_3 : decode cL_empty 3 = .ok (.iload_n 1, 1) := by decide +kernel
theorem dL_empty_4 : decode cL_empty 4 = .ok (.invokevirtual 44, 3) := by decide +kernel
theorem dL_empty_7 : decode cL_empty 7 = .ok (.i2l, 1) := by decide +kernel
theorem dL_empty_8 : decode cL_empty 8 = .ok (.lastore, 1) := by decide +kernel
theorem dL_empty_9 : decode cL_empty 9 = .ok (.goto 6, 3) := by decide +kernel
theorem dL_empty_12 : decode cL_empty 12 = .ok (.astore_n 3, 1) := by decide +kernel
theorem dL_empty_13 : decode cL_empty 13 = .ok (.iconst 1, 1) := by decide +kernel
theorem dL_empty_14 : decode cL_empty 14 = .ok (.ireturn, 1) := by decide +kernel
theorem dL_empty_15 : decode cL_empty 15 = .ok (.iconst 0, 1) := by decide +kernel
theorem dL_empty_16 : decode cL_empty 16 = .ok (.ireturn, 1) := by decide +kernel
set_option maxRecDepth 20000 in
theorem ggL_launch_X5_launch : GoodIn wsL_launch wsX5_launch := goodIn_ca (goodIn_r _ [6, 7, 8, 9, 10, 11, 12, 13, 14, 5, 15, 16, 17, 18, 19, 20, 21, 22, 23, 24, 25, 26, 27, 28, 29, 30, 31, 32, 33, 34, 35, 36, 37, 38, 39, 40, 41, 42, 43, 44, 45] (by decide +kernel) (by decide +kernel)) (goodIn_sub (fun _ h => List.mem_cons_of_mem _ (List.mem_append_right _ h)) (by decide +kernel))
set_option maxRecDepth 20000 in
theorem gL_launch_X5_launch : GoodIn wsL_launch (wsV RL 47 RX5 yX5_launch wsX5_launch) := goodIn_app (goodIn_of _ (by decide +kernel)) ggL_launch_X5_launch
theorem dL_launch_0 : decode cL_launch 0 = .ok (.aload_n 0, 1) := by decide +kernel
theorem dL_launch_1 : decode cL_launch 1 = .ok (.invokevirtual 47, 3) := by decide +kernel
theorem dL_launch_4 : decode cL_launch 4 = .ok (.goto 6, 3) := by decide +kernel
theorem dL_launch_7 : decode cL_launch 7 = .ok (.astore_n 1, 1) := by decide +kernel
theorem dL_launch_8 : decode cL_launch 8 = .ok (.iconst 1, 1) := by decide +kernel
theorem dL_launch_9 : decode cL_launch 9 = .ok (.ireturn, 1) := by decide +kernel
theorem dL_launch_10 : decode cL_launch 10 = .ok (.iconst 0, 1) := by decide +kernel
theorem dL_launch_11 : decode cL_launch 11 = .ok (.ireturn, 1) := by decide +kernel
set_option maxRecDepth 20000 in
theorem ggL_pass_X5_pass : GoodIn wsL_pass wsX5_pass := goodIn_ca (goodIn_ca (goodIn_r _ [7, 8, 9, 10, 11, 12, 13, 14, 6, 15, 16, 17, 18, 19, 20, 21, 22, 23, 24, 25, 26, 27, 28, 29, 30, 31, 32, 33, 34, 35, 36, 37, 38, 39, 40, 41, 42, 43, 44, 45, 46, 47, 48, 49, 50, 51, 52, 53, 54, 55, 56, 57, 58, 59, 60, 61, 62, 63, 64, 65, 66, 67, 68, 69, 70, 71, 72, 73, 74, 75, 76, 77, 78, 79, 80, 81, 82, 83, 84, 85, 86, 87, 88, 89, 90, 91, 92, 93, 94, 95, 96, 97, 98, 99, 100, 101, 102, 103, 104, 105, 106, 107, 108, 109, 110, 111, 112, 113, 114, 115, 116, 117, 118, 119, 120, 121, 122, 123, 124, 125, 126, 127, 128, 129, 130, 131, 132, 133, 134, 135, 136, 137, 138, 139, 140, 141, 142, 143, 144, 145, 146, 147, 148, 149, 150, 151, 152, 153, 154, 155, 156, 157, 158, 159, 160, 161, 162, 163, 164, 165, 166, 167, 168, 169, 170, 171, 172, 173, 174, 175, 176, 177, 178, 179, 180, 181, 182, 183, 184, 185, 186, 187, 188, 189, 190, 191, 192, 193, 194, 195, 196, 197, 198, 199, 200, 201, 202, 203] (by decide +kernel) (by decide +kernel)) (goodIn_sub (fun _ h => List.mem_cons_of_mem _ (List.mem_append_left _ (List.mem_append_right _ h))) (by decide +kernel))) (goodIn_sub (fun _ h => List.mem_cons_of_mem _ (List.mem_append_right _ h)) (by decide +kernel))
set_option maxRecDepth 20000 in
theorem gL_pass_X5_pass : GoodIn wsL_pass (wsV RL 50 RX5 yX5_pass wsX5_pass) := goodIn_app (goodIn_of _ (by decide +kernel)) ggL_pass_X5_pass
theorem dL_pass_0 : decode cL_pass 0 = .ok (.aload_n 2, 1) := by decide +kernel
theorem dL_pass_1 : decode cL_pass 1 = .ok (.iconst 0, 1) := by decide +kernel
theorem dL_pass_2 : decode cL_pass 2 = .ok (.aload_n 0, 1) := by decide +kernel
theorem dL_pass_3 : decode cL_pass 3 = .ok (.iload_n 1, 1) := by decide +kernel
theorem dL_pass_4 : decode cL_pass 4 = .ok (.invokevirtual 50, 3) := by decide +kernel
theorem dL_pass_7 : decode cL_pass 7 = .ok (.i2l, 1) := by decide +kernel
theorem dL_pass_8 : decode cL_pass 8 = .ok (.lastore, 1) := by decide +kernel
theorem dL_pass_9 : decode cL_pass 9 = .ok (.goto 9, 3) := by decide +kernel
theorem dL_pass_12 : decode cL_pass 12 = .ok (.astore_n 3, 1) := by decide +kernel
theorem dL_pass_13 : decode cL_pass 13 = .ok (.iconst 1, 1) := by decide +kernel
theorem dL_pass_14 : decode cL_pass 14 = .ok (.ireturn, 1) := by decide +kernel
theorem dL_pass_15 : decode cL_pass 15 = .ok (.astore_n 3, 1) := by decide +kernel
theorem dL_pass_16 : decode cL_pass 16 = .ok (.iconst 2, 1) := by decide +kernel
theorem dL_pass_17 : decode cL_pass 17 = .ok (.ireturn, 1) := by decide +kernel
theorem dL_pass_18 : decode cL_pass 18 = .ok (.iconst 0, 1) := by decide +kernel
theorem dL_pass_19 : decode cL_pass 19 = .ok (.ireturn, 1) := by decide +kernel
set_option maxRecDepth 20000 in
theorem ggL_batch_X5_batch : GoodIn wsL_batch wsX5_batch := goodIn_ca (goodIn_ca (goodIn_r _ [7, 8, 9, 10, 11, 12, 13, 14, 15, 6, 16, 17, 18, 19, 20, 21, 22, 23, 24, 25, 26, 27, 28, 29, 30, 31, 32, 33, 34, 35, 36, 37, 38, 39, 40, 41, 42, 43, 44, 45, 46, 47, 48, 49, 50, 51, 52, 53, 54, 55, 56, 57, 58, 59, 60, 61, 62, 63, 64, 65, 66, 67, 68, 69, 70, 71, 72, 73, 74, 75, 76, 77, 78] (by decide +kernel) (by decide +kernel)) (goodIn_sub (fun _ h => List.mem_cons_of_mem _ (List.mem_append_left _ (List.mem_append_right _ h))) (by decide +kernel))) (goodIn_sub (fun _ h => List.mem_cons_of_mem _ (List.mem_append_right _ h)) (by decide +kernel))
set_option maxRecDepth 20000 in
theorem gL_batch_X5_batch : GoodIn wsL_batch (wsV RL 53 RX5 yX5_batch wsX5_batch) := goodIn_app (goodIn_of _ (by decide +kernel)) ggL_batch_X5_batch
theorem dL_batch_0 : decode cL_batch 0 = .ok (.aload_n 3, 1) := by decide +kernel
theorem dL_batch_1 : decode cL_batch 1 = .ok (.iconst 0, 1) := by decide +kernel
theorem dL_batch_2 : decode cL_batch 2 = .ok (.aload_n 0, 1) := by decide +kernel
theorem dL_batch_3 : decode cL_batch 3 = .ok (.iload_n 1, 1) := by decide +kernel
theorem dL_batch_4 : decode cL_batch 4 = .ok (.iload_n 2, 1) := by decide +kernel
theorem dL_batch_5 : decode cL_batch 5 = .ok (.invokevirtual 53, 3) := by decide +kernel
theorem dL_batch_8 : decode cL_batch 8 = .ok (.i2l, 1) := by decide +kernel
theorem dL_batch_9 : decode cL_batch 9 = .ok (.lastore, 1) := by decide +kernel
theorem dL_batch_10 : decode cL_batch 10 = .ok (.goto 11, 3) := by decide +kernel
theorem dL_batch_13 : decode cL_batch 13 = .ok (.astore 4, 2) := by decide +kernel
theorem dL_batch_15 : decode cL_batch 15 = .ok (.iconst 1, 1) := by decide +kernel
theorem dL_batch_16 : decode cL_batch 16 = .ok (.ireturn, 1) := by decide +kernel
theorem dL_batch_17 : decode cL_batch 17 = .ok (.astore 4, 2) := by decide +kernel
theorem dL_batch_19 : decode cL_batch 19 = .ok (.iconst 2, 1) := by decide +kernel
theorem dL_batch_20 : decode cL_batch 20 = .ok (.ireturn, 1) := by decide +kernel
theorem dL_batch_21 : decode cL_batch 21 = .ok (.iconst 0, 1) := by decide +kernel
theorem dL_batch_22 : decode cL_batch 22 = .ok (.ireturn, 1) := by decide +kernel
set_option maxRecDepth 20000 in
theorem ggL_unit_X5_unit : GoodIn wsL_unit wsX5_unit := goodIn_ca (goodIn_r _ [6, 7, 8, 9, 10, 11, 12, 5, 13, 14, 15, 16, 17, 18, 19, 20, 21, 22, 23, 24, 25, 26, 27, 28, 29, 30, 31, 32, 33, 34, 35, 36, 37, 38, 39, 40, 41, 42, 43, 44, 45, 46, 47, 48, 49, 50, 51, 52, 53, 54, 55, 56, 57, 58, 59, 60, 61, 62, 63, 64, 65] (by decide +kernel) (by decide +kernel)) (goodIn_sub (fun _ h => List.mem_cons_of_mem _ (List.mem_append_right _ h)) (by decide +kernel))
set_option maxRecDepth 20000 in
theorem gL_unit_X5_unit : GoodIn wsL_unit (wsV RL 57 RX5 yX5_unit wsX5_unit) := goodIn_app (goodIn_of _ (by decide +kernel)) ggL_unit_X5_unit
theorem dL_unit_0 : decode cL_unit 0 = .ok (.aload_n 2, 1) := by decide +kernel
theorem dL_unit_1 : decode cL_unit 1 = .ok (.iconst 0, 1) := by decide +kernel
theorem dL_unit_2 : decode cL_unit 2 = .ok (.aload_n 0, 1) := by decide +kernel
theorem dL_unit_3 : decode cL_unit 3 = .ok (.iload_n 1, 1) := by decide +kernel
theorem dL_unit_4 : decode cL_unit 4 = .ok (.invokevirtual 57, 3) := by decide +kernel
theorem dL_unit_7 : decode cL_unit 7 = .ok (.i2l, 1) := by decide +kernel
theorem dL_unit_8 : decode cL_unit 8 = .ok (.lastore, 1) := by decide +kernel
theorem dL_unit_9 : decode cL_unit 9 = .ok (.goto 6, 3) := by decide +kernel
theorem dL_unit_12 : decode cL_unit 12 = .ok (.astore_n 3, 1) := by decide +kernel
theorem dL_unit_13 : decode cL_unit 13 = .ok (.iconst 1, 1) := by decide +kernel
theorem dL_unit_14 : decode cL_unit 14 = .ok (.ireturn, 1) := by decide +kernel
theorem dL_unit_15 : decode cL_unit 15 = .ok (.iconst 0, 1) := by decide +kernel
theorem dL_unit_16 : decode cL_unit 16 = .ok (.ireturn, 1) := by decide +kernel
set_option maxRecDepth 20000 in
theorem ggL_unitAnew_X5_unitAnew : GoodIn wsL_unitAnew wsX5_unitAnew := goodIn_ca (goodIn_r _ [6, 7, 8, 9, 10, 11, 5, 12, 13, 14, 15, 16, 17, 18, 19, 20, 21, 22, 23, 24, 25, 26, 27, 28, 29, 30, 31, 32, 33, 34, 35, 36, 37, 38, 39, 40, 41, 42, 43, 44, 45, 46, 47, 48, 49, 50, 51, 52] (by decide +kernel) (by decide +kernel)) (goodIn_sub (fun _ h => List.mem_cons_of_mem _ (List.mem_append_right _ h)) (by decide +kernel))
set_option maxRecDepth 20000 in
theorem gL_unitAnew_X5_unitAnew : GoodIn wsL_unitAnew (wsV RL 60 RX5 yX5_unitAnew wsX5_unitAnew) := goodIn_app (goodIn_of _ (by decide +kernel)) ggL_unitAnew_X5_unitAnew
theorem dL_unitAnew_0 : decode cL_unitAnew 0 = .ok (.aload_n 2, 1) := by decide +kernel
theorem dL_unitAnew_1 : decode cL_unitAnew 1 = .ok (.iconst 0, 1) := by decide +kernel
theorem dL_unitAnew_2 : decode cL_unitAnew 2 = .ok (.aload_n 0, 1) := by decide +kernel
theorem dL_unitAnew_3 : decode cL_unitAnew 3 = .ok (.iload_n 1, 1) := by decide +kernel
theorem dL_unitAnew_4 : decode cL_unitAnew 4 = .ok (.invokevirtual 60, 3) := by decide +kernel
theorem dL_unitAnew_7 : decode cL_unitAnew 7 = .ok (.i2l, 1) := by decide +kernel
theorem dL_unitAnew_8 : decode cL_unitAnew 8 = .ok (.lastore, 1) := by decide +kernel
theorem dL_unitAnew_9 : decode cL_unitAnew 9 = .ok (.goto 6, 3) := by decide +kernel
theorem dL_unitAnew_12 : decode cL_unitAnew 12 = .ok (.astore_n 3, 1) := by decide +kernel
theorem dL_unitAnew_13 : decode cL_unitAnew 13 = .ok (.iconst 1, 1) := by decide +kernel
theorem dL_unitAnew_14 : decode cL_unitAnew 14 = .ok (.ireturn, 1) := by decide +kernel
theorem dL_unitAnew_15 : decode cL_unitAnew 15 = .ok (.iconst 0, 1) := by decide +kernel
theorem dL_unitAnew_16 : decode cL_unitAnew 16 = .ok (.ireturn, 1) := by decide +kernel
set_option maxRecDepth 20000 in
theorem ggL_pressure_X5_pressure : GoodIn wsL_pressure wsX5_pressure := goodIn_ca (goodIn_ca (goodIn_ca (goodIn_r _ [8, 9, 10, 11, 12, 13, 14, 15, 16, 7, 17, 18, 19, 20, 21, 22, 23, 24, 25, 26, 27, 28, 29, 30, 31, 32, 33, 34, 35, 36, 37, 38, 39, 40, 41, 42, 43, 44, 45, 46, 47, 48, 49, 50, 51, 52, 53, 54, 55, 56, 57, 58, 59, 60, 61, 62, 63, 64, 65, 66, 67, 68, 69, 70, 71, 72, 73, 74, 75, 76, 77, 78, 79, 80, 81, 82, 83, 84, 85, 86, 87, 88, 89, 90, 91, 92, 93, 94, 95, 96, 97] (by decide +kernel) (by decide +kernel)) (goodIn_sub (fun _ h => List.mem_cons_of_mem _ (List.mem_append_left _ (List.mem_append_left _ (List.mem_append_right _ h)))) (by decide +kernel))) (goodIn_sub (fun _ h => List.mem_cons_of_mem _ (List.mem_append_left _ (List.mem_append_right _ h))) (by decide +kernel))) (goodIn_sub (fun _ h => List.mem_cons_of_mem _ (List.mem_append_right _ h)) (by decide +kernel))
set_option maxRecDepth 20000 in
theorem gL_pressure_X5_pressure : GoodIn wsL_pressure (wsV RL 63 RX5 yX5_pressure wsX5_pressure) := goodIn_app (goodIn_of _ (by decide +kernel)) ggL_pressure_X5_pressure
theorem dL_pressure_0 : decode cL_pressure 0 = .ok (.aload_n 3, 1) := by decide +kernel
theorem dL_pressure_1 : decode cL_pressure 1 = .ok (.iconst 0, 1) := by decide +kernel
theorem dL_pressure_2 : decode cL_pressure 2 = .ok (.aload_n 0, 1) := by decide +kernel
theorem dL_pressure_3 : decode cL_pressure 3 = .ok (.iload_n 1, 1) := by decide +kernel
theorem dL_pressure_4 : decode cL_pressure 4 = .ok (.iload_n 2, 1) := by decide +kernel
theorem dL_pressure_5 : decode cL_pressure 5 = .ok (.invokevirtual 63, 3) := by decide +kernel
theorem dL_pressure_8 : decode cL_pressure 8 = .ok (.i2l, 1) := by decide +kernel
theorem dL_pressure_9 : decode cL_pressure 9 = .ok (.lastore, 1) := by decide +kernel
theorem dL_pressure_10 : decode cL_pressure 10 = .ok (.goto 15, 3) := by decide +kernel
theorem dL_pressure_13 : decode cL_pressure 13 = .ok (.astore 4, 2) := by decide +kernel
theorem dL_pressure_15 : decode cL_pressure 15 = .ok (.iconst 1, 1) := by decide +kernel
theorem dL_pressure_16 : decode cL_pressure 16 = .ok (.ireturn, 1) := by decide +kernel
theorem dL_pressure_17 : decode cL_pressure 17 = .ok (.astore 4, 2) := by decide +kernel
theorem dL_pressure_19 : decode cL_pressure 19 = .ok (.iconst 2, 1) := by decide +kernel
theorem dL_pressure_20 : decode cL_pressure 20 = .ok (.ireturn, 1) := by decide +kernel
theorem dL_pressure_21 : decode cL_pressure 21 = .ok (.astore 4, 2) := by decide +kernel
theorem dL_pressure_23 : decode cL_pressure 23 = .ok (.iconst 3, 1) := by decide +kernel
theorem dL_pressure_24 : decode cL_pressure 24 = .ok (.ireturn, 1) := by decide +kernel
theorem dL_pressure_25 : decode cL_pressure 25 = .ok (.iconst 0, 1) := by decide +kernel
theorem dL_pressure_26 : decode cL_pressure 26 = .ok (.ireturn, 1) := by decide +kernel
set_option maxRecDepth 20000 in
theorem ggL_tank_X5_tank : GoodIn wsL_tank wsX5_tank := goodIn_ca (goodIn_ca (goodIn_r _ [7, 8, 9, 10, 11, 6, 12, 13, 14, 15, 16, 17, 18, 19, 20, 21, 22, 23, 24, 25, 26, 27, 28, 29, 30, 31, 32, 33, 34, 35, 36, 37, 38, 39, 40, 41] (by decide +kernel) (by decide +kernel)) (goodIn_sub (fun _ h => List.mem_cons_of_mem _ (List.mem_append_left _ (List.mem_append_right _ h))) (by decide +kernel))) (goodIn_sub (fun _ h => List.mem_cons_of_mem _ (List.mem_append_right _ h)) (by decide +kernel))
set_option maxRecDepth 20000 in
theorem gL_tank_X5_tank : GoodIn wsL_tank (wsV RL 66 RX5 yX5_tank wsX5_tank) := goodIn_app (goodIn_of _ (by decide +kernel)) ggL_tank_X5_tank
theorem dL_tank_0 : decode cL_tank 0 = .ok (.aload_n 3, 1) := by decide +kernel
theorem dL_tank_1 : decode cL_tank 1 = .ok (.iconst 0, 1) := by decide +kernel
theorem dL_tank_2 : decode cL_tank 2 = .ok (.aload_n 0, 1) := by decide +kernel
theorem dL_tank_3 : decode cL_tank 3 = .ok (.iload_n 1, 1) := by decide +kernel
theorem dL_tank_4 : decode cL_tank 4 = .ok (.iload_n 2, 1) := by decide +kernel
theorem dL_tank_5 : decode cL_tank 5 = .ok (.invokevirtual 66, 3) := by decide +kernel
theorem dL_tank_8 : decode cL_tank 8 = .ok (.i2l, 1) := by decide +kernel
theorem dL_tank_9 : decode cL_tank 9 = .ok (.lastore, 1) := by decide +kernel
theorem dL_tank_10 : decode cL_tank 10 = .ok (.goto 11, 3) := by decide +kernel
theorem dL_tank_13 : decode cL_tank 13 = .ok (.astore 4, 2) := by decide +kernel
theorem dL_tank_15 : decode cL_tank 15 = .ok (.iconst 1, 1) := by decide +kernel
theorem dL_tank_16 : decode cL_tank 16 = .ok (.ireturn, 1) := by decide +kernel
theorem dL_tank_17 : decode cL_tank 17 = .ok (.astore 4, 2) := by decide +kernel
theorem dL_tank_19 : decode cL_tank 19 = .ok (.iconst 2, 1) := by decide +kernel
theorem dL_tank_20 : decode cL_tank 20 = .ok (.ireturn, 1) := by decide +kernel
theorem dL_tank_21 : decode cL_tank 21 = .ok (.iconst 0, 1) := by decide +kernel
theorem dL_tank_22 : decode cL_tank 22 = .ok (.ireturn, 1) := by decide +kernel
set_option maxRecDepth 20000 in
theorem ggL_pipe_X5_pipe : GoodIn wsL_pipe wsX5_pipe := goodIn_ca (goodIn_r _ [6, 7, 8, 9, 10, 11, 12, 5, 13, 14, 15, 16, 17, 18, 19, 20, 21, 22, 23, 24, 25, 26, 27, 28, 29, 30, 31, 32, 33, 34, 35, 36, 37, 38, 39, 40, 41, 42, 43, 44, 45, 46] (by decide +kernel) (by decide +kernel)) (goodIn_sub (fun _ h => List.mem_cons_of_mem _ (List.mem_append_right _ h)) (by decide +kernel))
set_option maxRecDepth 20000 in
theorem gL_pipe_X5_pipe : GoodIn wsL_pipe (wsV RL 69 RX5 yX5_pipe wsX5_pipe) := goodIn_app (goodIn_of _ (by decide +kernel)) ggL_pipe_X5_pipe
theorem dL_pipe_0 : decode cL_pipe 0 = .ok (.aload_n 2, 1) := by decide +kernel
theorem dL_pipe_1 : decode cL_pipe 1 = .ok (.iconst 0, 1) := by decide +kernel
theorem dL_pipe_2 : decode cL_pipe 2 = .ok (.aload_n 0, 1) := by decide +kernel
theorem dL_pipe_3 : decode cL_pipe 3 = .ok (.iload_n 1, 1) := by decide +kernel
theorem dL_pipe_4 : decode cL_pipe 4 = .ok (.invokevirtual 69, 3) := by decide +kernel
theorem dL_pipe_7 : decode cL_pipe 7 = .ok (.i2l, 1) := by decide +kernel
theorem dL_pipe_8 : decode cL_pipe 8 = .ok (.lastore, 1) := by decide +kernel
theorem dL_pipe_9 : decode cL_pipe 9 = .ok (.goto 6, 3) := by decide +kernel
theorem dL_pipe_12 : decode cL_pipe 12 = .ok (.astore_n 3, 1) := by decide +kernel
theorem dL_pipe_13 : decode cL_pipe 13 = .ok (.iconst 1, 1) := by decide +kernel
theorem dL_pipe_14 : decode cL_pipe 14 = .ok (.ireturn, 1) := by decide +kernel
theorem dL_pipe_15 : decode cL_pipe 15 = .ok (.iconst 0, 1) := by decide +kernel
theorem dL_pipe_16 : decode cL_pipe 16 = .ok (.ireturn, 1) := by decide +kernel
set_option maxRecDepth 20000 in
theorem ggL_dirt_X5_dirt : GoodIn wsL_dirt wsX5_dirt := goodIn_ca (goodIn_r _ [6, 7, 8, 9, 10, 11, 5, 12, 13, 14, 15, 16, 17, 18, 19, 20, 21, 22, 23, 24, 25, 26, 27, 28, 29, 30, 31, 32, 33, 34, 35, 36, 37, 38] (by decide +kernel) (by decide +kernel)) (goodIn_sub (fun _ h => List.mem_cons_of_mem _ (List.mem_append_right _ h)) (by decide +kernel))
set_option maxRecDepth 20000 in
theorem gL_dirt_X5_dirt : GoodIn wsL_dirt (wsV RL 72 RX5 yX5_dirt wsX5_dirt) := goodIn_app (goodIn_of _ (by decide +kernel)) ggL_dirt_X5_dirt
theorem dL_dirt_0 : decode cL_dirt 0 = .ok (.aload_n 2, 1) := by decide +kernel
theorem dL_dirt_1 : decode cL_dirt 1 = .ok (.iconst 0, 1) := by decide +kernel
theorem dL_dirt_2 : decode cL_dirt 2 = .ok (.aload_n 0, 1) := by decide +kernel
theorem dL_dirt_3 : decode cL_dirt 3 = .ok (.iload_n 1, 1) := by decide +kernel
theorem dL_dirt_4 : decode cL_dirt 4 = .ok (.invokevirtual 72, 3) := by decide +kernel
theorem dL_dirt_7 : decode cL_dirt 7 = .ok (.i2l, 1) := by decide +kernel
theorem dL_dirt_8 : decode cL_dirt 8 = .ok (.lastore, 1) := by decide +kernel
theorem dL_dirt_9 : decode cL_dirt 9 = .ok (.goto 6, 3) := by decide +kernel
theorem dL_dirt_12 : decode cL_dirt 12 = .ok (.astore_n 3, 1) := by decide +kernel
theorem dL_dirt_13 : decode cL_dirt 13 = .ok (.iconst 1, 1) := by decide +kernel
theorem dL_dirt_14 : decode cL_dirt 14 = .ok (.ireturn, 1) := by decide +kernel
theorem dL_dirt_15 : decode cL_dirt 15 = .ok (.iconst 0, 1) := by decide +kernel
theorem dL_dirt_16 : decode cL_dirt 16 = .ok (.ireturn, 1) := by decide +kernel
set_option maxRecDepth 20000 in
theorem ggL_share_X5_share : GoodIn wsL_share wsX5_share := goodIn_ca (goodIn_ca (goodIn_r _ [7, 8, 9, 10, 11, 12, 13, 14, 6, 15, 16, 17, 18, 19, 20, 21, 22, 23, 24, 25, 26, 27, 28, 29, 30, 31, 32, 33, 34, 35, 36, 37, 38, 39, 40, 41, 42, 43, 44, 45, 46, 47, 48, 49, 50, 51, 52, 53, 54, 55, 56, 57, 58, 59, 60, 61, 62, 63, 64, 65, 66, 67, 68, 69] (by decide +kernel) (by decide +kernel)) (goodIn_sub (fun _ h => List.mem_cons_of_mem _ (List.mem_append_left _ (List.mem_append_right _ h))) (by decide +kernel))) (goodIn_sub (fun _ h => List.mem_cons_of_mem _ (List.mem_append_right _ h)) (by decide +kernel))
set_option maxRecDepth 20000 in
theorem gL_share_X5_share : GoodIn wsL_share (wsV RL 75 RX5 yX5_share wsX5_share) := goodIn_app (goodIn_of _ (by decide +kernel)) ggL_share_X5_share
theorem dL_share_0 : decode cL_share 0 = .ok (.aload_n 3, 1) := by decide +kernel
theorem dL_share_1 : decode cL_share 1 = .ok (.iconst 0, 1) := by decide +kernel
theorem dL_share_2 : decode cL_share 2 = .ok (.aload_n 0, 1) := by decide +kernel
theorem dL_share_3 : decode cL_share 3 = .ok (.iload_n 1, 1) := by decide +kernel
theorem dL_share_4 : decode cL_share 4 = .ok (.iload_n 2, 1) := by decide +kernel
theorem dL_share_5 : decode cL_share 5 = .ok (.invokevirtual 75, 3) := by decide +kernel
theorem dL_share_8 : decode cL_share 8 = .ok (.i2l, 1) := by decide +kernel
theorem dL_share_9 : decode cL_share 9 = .ok (.lastore, 1) := by decide +kernel
theorem dL_share_10 : decode cL_share 10 = .ok (.goto 11, 3) := by decide +kernel
theorem dL_share_13 : decode cL_share 13 = .ok (.astore 4, 2) := by decide +kernel
theorem dL_share_15 : decode cL_share 15 = .ok (.iconst 1, 1) := by decide +kernel
theorem dL_share_16 : decode cL_share 16 = .ok (.ireturn, 1) := by decide +kernel
theorem dL_share_17 : decode cL_share 17 = .ok (.astore 4, 2) := by decide +kernel
theorem dL_share_19 : decode cL_share 19 = .ok (.iconst 2, 1) := by decide +kernel
theorem dL_share_20 : decode cL_share 20 = .ok (.ireturn, 1) := by decide +kernel
theorem dL_share_21 : decode cL_share 21 = .ok (.iconst 0, 1) := by decide +kernel
theorem dL_share_22 : decode cL_share 22 = .ok (.ireturn, 1) := by decide +kernel
end
section
/-! THE STATE: 104 cells in a row from address a on: the class's (0 .. 76), the reference's (77 .. 102), the law's row of one long (103); M.1 k j is the int in place j of cell k, M.2 k j the reference there (the number of a product or of a batch) -/
abbrev Mm : Type := (Nat → Nat → Int32) × (Nat → Nat → Option Nat)
def gi (M : Mm) (k j : Nat) : Int32 := M.1 k j
def gr (M : Mm) (k j : Nat) : Option Nat := M.2 k j
def si (M : Mm) (k j : Nat) (x : Int32) : Mm := (fun i => if i = k then upd (M.1 k) j x else M.1 i, M.2)
def sr (M : Mm) (k j : Nat) (x : Option Nat) : Mm := (M.1, fun i => if i = k then va_up (M.2 k) j x else M.2 i)
def rfo (a base : Nat) (o : Option Nat) : Value := va_rf (o.map (fun i => a + (base + i)))
def eBatch (a : Nat) (r : Nat → Int32) (g : Nat → Option Nat) : List Value := [.int (r 0), rfo a 27 (g 1), .int (r 2), .int (r 3), .int (r 4), .int (r 5), .int (r 6), .int (r 7), rfo a 33 (g 8), rfo a 33 (g 9), .int (r 10), .int (r 11), .int (r 12)]
def eProd (r : Nat → Int32) : List Value := [.int (r 0), .int (r 1), .int (r 2), .int (r 3), .int (r 4)]
def eSeg (a i : Nat) (r : Nat → Int32) : List Value := [.ref (a + (10 + 3 * i)), .ref (a + (11 + 3 * i)), .int (r 2), .int (r 3), .int (r 4), .int (r 5), .int (r 6)]
def eFour (r : Nat → Int32) : List Value := [.int (r 0), .int (r 1), .int (r 2), .int (r 3)]
def ePipe (a : Nat) (r : Nat → Int32) (g : Nat → Option Nat) : List Value := [.ref (a + 1), .ref (a + 2), .ref (a + 3), .ref (a + 4), .ref (a + 5), .ref (a + (6 + 0)), .ref (a + (6 + 1)), .ref (a + (6 + 2)), .int (r 8), .int (r 9), .int (r 10), rfo a 33 (g 11), .int (r 12), .int (r 13), .int (r 14), .int (r 15), .int (r 16)]
def eModel (a : Nat) (r : Nat → Int32) : List Value := [.int (r 0), .int (r 1), .ref (a + 78), .ref (a + 79), .ref (a + 80), .ref (a + 81), .int (r 6), .int (r 7), .ref (a + 82), .ref (a + 83), .ref (a + 84), .ref (a + 85), .int (r 12), .ref (a + 86), .ref (a + 87), .ref (a + 88), .ref (a + 89), .ref (a + 90), .ref (a + 91), .ref (a + 92), .ref (a + 93), .ref (a + 94), .ref (a + 95), .ref (a + 96), .int (r 24), .ref (a + 97), .ref (a + 98), .int (r 27), .int (r 28), .int (r 29), .int (r 30), .int (r 31), .int (r 32), .int (r 33), .int (r 34), .ref (a + 99), .ref (a + 100), .ref (a + 101), .int (r 38), .int (r 39), .int (r 40), .int (r 41), .ref (a + 102), .int (r 43), .int (r 44)]
def mlen (k : Nat) : Nat := if k < 86 then 6 else if k < 97 then 40 else if k < 99 then 360 else if k < 102 then 4 else 5
/-- the entry of cell k -/
def ent (cy : Nat → ClassId) (a : Nat) (r : Nat → Int32) (g : Nat → Option Nat) (k : Nat) : va_E :=
  if k < 9 then (match k with
    | 0 => .inr (5, ePipe a r g)
    | 1 => .inl (cy 2, 6, .inr (.inr (.inr (.inr (fun j => some (a + (9 + 3 * j)))))))
    | 2 => .inl (cy 3, 6, .inr (.inr (.inr (.inr (fun j => some (a + (27 + j)))))))
    | 3 => .inl (cy 4, 40, .inr (.inr (.inr (.inr (fun j => some (a + (33 + j)))))))
    | 4 => .inl (cy 5, 4, .inr (.inr (.inr (.inr (fun j => some (a + (73 + j)))))))
    | 5 => .inl (cy 0, 5, .inl r)
    | _ => .inr (4, eFour r))
  else if k < 27 then (if (k - 9) % 3 = 0 then .inr (2, eSeg a ((k - 9) / 3) r) else if (k - 9) % 3 = 1 then .inl (cy 0, 60, .inl r) else .inl (cy 0, 6, .inl r))
  else if k < 33 then .inr (1, eProd r)
  else if k < 73 then .inr (0, eBatch a r g)
  else if k < 77 then .inr (3, eFour r)
  else if k < 78 then .inr (6, eModel a r)
  else if k < 103 then .inl (cy 0, mlen k, .inl r)
  else .inl (cy 1, 1, .inr (.inl (fun j => (r j).toInt64)))
section Ents
variable {cy : Nat → ClassId} {a : Nat} {r : Nat → Int32} {g : Nat → Option Nat}
theorem en_pipe : ent cy a r g 0 = .inr (5, ePipe a r g) := rfl
theorem en_segs : ent cy a r g 1 = .inl (cy 2, 6, .inr (.inr (.inr (.inr (fun j => some (a + (9 + 3 * j))))))) := rfl
theorem en_prods : ent cy a r g 2 = .inl (cy 3, 6, .inr (.inr (.inr (.inr (fun j => some (a + (27 + j))))))) := rfl
theorem en_bats : ent cy a r g 3 = .inl (cy 4, 40, .inr (.inr (.inr (.inr (fun j => some (a + (33 + j))))))) := rfl
theorem en_tanks : ent cy a r g 4 = .inl (cy 5, 4, .inr (.inr (.inr (.inr (fun j => some (a + (73 + j))))))) := rfl
theorem en_bal : ent cy a r g 5 = .inl (cy 0, 5, .inl r) := rfl
theorem en_tap {t : Nat} (h : t < 3) : ent cy a r g (6 + t) = .inr (4, eFour r) := by
  rcases (show t = 0 ∨ t = 1 ∨ t = 2 by omega) with rfl | rfl | rfl <;> rfl
theorem en_seg {i : Nat} (h : i < 6) : ent cy a r g (9 + 3 * i) = .inr (2, eSeg a i r) := by
  unfold ent
  rw [if_neg (by omega), if_pos (by omega), if_pos (by omega), show (9 + 3 * i - 9) / 3 = i by omega]
theorem en_ring {i : Nat} (h : i < 6) : ent cy a r g (10 + 3 * i) = .inl (cy 0, 60, .inl r) := by
  unfold ent
  rw [if_neg (by omega), if_pos (by omega), if_neg (by omega), if_pos (by omega)]
theorem en_uof {i : Nat} (h : i < 6) : ent cy a r g (11 + 3 * i) = .inl (cy 0, 6, .inl r) := by
  unfold ent
  rw [if_neg (by omega), if_pos (by omega), if_neg (by omega), if_neg (by omega)]
theorem en_prod {i : Nat} (h : i < 6) : ent cy a r g (27 + i) = .inr (1, eProd r) := by
  unfold ent
  rw [if_neg (by omega), if_neg (by omega), if_pos (by omega)]
theorem en_bat {i : Nat} (h : i < 40) : ent cy a r g (33 + i) = .inr (0, eBatch a r g) := by
  unfold ent
  rw [if_neg (by omega), if_neg (by omega), if_neg (by omega), if_pos (by omega)]
theorem en_tank {i : Nat} (h : i < 4) : ent cy a r g (73 + i) = .inr (3, eFour r) := by
  unfold ent
  rw [if_neg (by omega), if_neg (by omega), if_neg (by omega), if_neg (by omega), if_pos (by omega)]
theorem en_model : ent cy a r g 77 = .inr (6, eModel a r) := rfl
theorem en_arr {k : Nat} (h1 : 78 ≤ k) (h2 : k < 103) : ent cy a r g k = .inl (cy 0, mlen k, .inl r) := by
  unfold ent
  rw [if_neg (by omega), if_neg (by omega), if_neg (by omega), if_neg (by omega), if_neg (by omega), if_neg (by omega), if_pos h2]
theorem en_out : ent cy a r g 103 = .inl (cy 1, 1, .inr (.inl (fun j => (r j).toInt64))) := rfl
theorem en_a5 : ent cy a r g 5 = .inl (cy 0, 5, .inl r) := rfl
theorem en_a78 : ent cy a r g 78 = .inl (cy 0, 6, .inl r) := rfl
theorem en_a79 : ent cy a r g 79 = .inl (cy 0, 6, .inl r) := rfl
theorem en_a80 : ent cy a r g 80 = .inl (cy 0, 6, .inl r) := rfl
theorem en_a81 : ent cy a r g 81 = .inl (cy 0, 6, .inl r) := rfl
theorem en_a82 : ent cy a r g 82 = .inl (cy 0, 6, .inl r) := rfl
theorem en_a83 : ent cy a r g 83 = .inl (cy 0, 6, .inl r) := rfl
theorem en_a84 : ent cy a r g 84 = .inl (cy 0, 6, .inl r) := rfl
theorem en_a85 : ent cy a r g 85 = .inl (cy 0, 6, .inl r) := rfl
theorem en_a86 : ent cy a r g 86 = .inl (cy 0, 40, .inl r) := rfl
theorem en_a87 : ent cy a r g 87 = .inl (cy 0, 40, .inl r) := rfl
theorem en_a88 : ent cy a r g 88 = .inl (cy 0, 40, .inl r) := rfl
theorem en_a89 : ent cy a r g 89 = .inl (cy 0, 40, .inl r) := rfl
theorem en_a90 : ent cy a r g 90 = .inl (cy 0, 40, .inl r) := rfl
theorem en_a91 : ent cy a r g 91 = .inl (cy 0, 40, .inl r) := rfl
theorem en_a92 : ent cy a r g 92 = .inl (cy 0, 40, .inl r) := rfl
theorem en_a93 : ent cy a r g 93 = .inl (cy 0, 40, .inl r) := rfl
theorem en_a94 : ent cy a r g 94 = .inl (cy 0, 40, .inl r) := rfl
theorem en_a95 : ent cy a r g 95 = .inl (cy 0, 40, .inl r) := rfl
theorem en_a96 : ent cy a r g 96 = .inl (cy 0, 40, .inl r) := rfl
theorem en_a97 : ent cy a r g 97 = .inl (cy 0, 360, .inl r) := rfl
theorem en_a98 : ent cy a r g 98 = .inl (cy 0, 360, .inl r) := rfl
theorem en_a99 : ent cy a r g 99 = .inl (cy 0, 4, .inl r) := rfl
theorem en_a100 : ent cy a r g 100 = .inl (cy 0, 4, .inl r) := rfl
theorem en_a101 : ent cy a r g 101 = .inl (cy 0, 4, .inl r) := rfl
theorem en_a102 : ent cy a r g 102 = .inl (cy 0, 5, .inl r) := rfl
end Ents
def wl (cy : Nat → ClassId) (a : Nat) (M : Mm) : va_W := (List.range 104).map (fun k => (a + k, ent cy a (M.1 k) (M.2 k) k))
section Wl
variable {cy : Nat → ClassId} {a : Nat} {M : Mm}
theorem wl_at {k : Nat} (h : k < 104) : (wl cy a M)[k]? = some (a + k, ent cy a (M.1 k) (M.2 k) k) := by
  unfold wl
  rw [List.getElem?_map, List.getElem?_range h]
  rfl
theorem wl_len : (wl cy a M).length = 104 := by
  unfold wl
  rw [List.length_map, List.length_range]
theorem wl_in {k : Nat} {q : Nat × va_E} (h : (wl cy a M)[k]? = some q) : k < 104 := by
  have := (List.getElem?_eq_some_iff.mp h).1
  rw [wl_len] at this
  exact this
abbrev Aq (a : Nat) : Nat → Prop := fun q => a ≤ q
theorem wl_D : va_D (Aq a) (wl cy a M) := by
  refine ⟨fun i j p q hi hj e => ?_, fun k q hk => ?_⟩
  · have h1 := wl_in hi
    have h2 := wl_in hj
    rw [wl_at h1] at hi
    rw [wl_at h2] at hj
    cases hi
    cases hj
    dsimp only at e
    omega
  · have h1 := wl_in hk
    rw [wl_at h1] at hk
    cases hk
    exact Nat.le_add_right a k
theorem wl_ext {w : va_W} (h1 : w.length = 104) (h2 : ∀ k, k < 104 → w[k]? = some (a + k, ent cy a (M.1 k) (M.2 k) k)) : w = wl cy a M := by
  apply List.ext_getElem?
  intro k
  rcases Nat.lt_or_ge k 104 with h | h
  · rw [h2 k h, wl_at h]
  · rw [List.getElem?_eq_none (by rw [h1]; exact h), List.getElem?_eq_none (by rw [wl_len]; exact h)]
theorem wl_si {k j : Nat} {x : Int32} {y : va_E} (h : k < 104) (he : ent cy a (upd (M.1 k) j x) (M.2 k) k = y) : (wl cy a M).set k (a + k, y) = wl cy a (si M k j x) := by
  refine wl_ext (by rw [List.length_set, wl_len]) (fun i hi => ?_)
  by_cases e : i = k
  · subst e
    rw [List.getElem?_set_self (by rw [wl_len]; exact hi), ← he]
    simp [si]
  · rw [List.getElem?_set_ne (Ne.symm e), wl_at hi]
    simp [si, e]
theorem wl_sr {k j : Nat} {x : Option Nat} {y : va_E} (h : k < 104) (he : ent cy a (M.1 k) (va_up (M.2 k) j x) k = y) : (wl cy a M).set k (a + k, y) = wl cy a (sr M k j x) := by
  refine wl_ext (by rw [List.length_set, wl_len]) (fun i hi => ?_)
  by_cases e : i = k
  · subst e
    rw [List.getElem?_set_self (by rw [wl_len]; exact hi), ← he]
    simp [sr]
  · rw [List.getElem?_set_ne (Ne.symm e), wl_at hi]
    simp [sr, e]
end Wl
/-- the heap holds the state M from address a on -/
abbrev HP (D : va_G) (cy : Nat → ClassId) (a : Nat) (M : Mm) (H : Heap) : Prop := va_P D vwCl (wl cy a M) H
def tyL (cy : Nat → ClassId) : List (ClassId × FieldType) := [(cy 0, .int), (cy 1, .long), (cy 2, .object "BatchPipe$Segment"), (cy 3, .object "BatchPipe$Product"), (cy 4, .object "BatchPipe$Batch"), (cy 5, .object "BatchPipe$Tank")]
def nwF : List (Nat × String × String × String) := [(293, "BatchPipe$Tap", "segment", "I"), (114, "BatchPipe$Tap", "tank", "I"), (246, "BatchPipe$Tap", "taken", "I"), (275, "BatchPipe$Segment", "unitsOf", "[I"), (178, "BatchPipe$Segment", "holds", "I"), (272, "BatchPipe$Segment", "height", "I"), (263, "BatchPipe$Segment", "limit", "I"), (223, "BatchPipe$Segment", "dirt", "I"), (172, "BatchPipe$Product", "number", "I"), (269, "BatchPipe$Product", "weight", "I"), (278, "BatchPipe$Product", "thickness", "I"), (338, "BatchPipe$Product", "grade", "I"), (188, "BatchPipe$Batch", "number", "I"), (168, "BatchPipe$Batch", "oil", "LBatchPipe$Product;"), (346, "BatchPipe$Batch", "shipper", "I"), (111, "BatchPipe$Batch", "entered", "I"), (152, "BatchPipe$Batch", "left", "I"), (155, "BatchPipe$Batch", "dropped", "I"), (158, "BatchPipe$Batch", "leaked", "I"), (323, "BatchPipe$Batch", "ahead", "LBatchPipe$Batch;"), (189, "BatchPipe$Batch", "behind", "LBatchPipe$Batch;"), (329, "BatchPipe$Batch", "enteredBefore", "I"), (317, "BatchPipe$Batch", "firstGone", "Z"), (314, "BatchPipe$Batch", "mix", "I"), (205, "BatchPipe$Tank", "has", "I"), (208, "BatchPipe$Tank", "grade", "I"), (211, "BatchPipe$Tank", "mixed", "I"), (343, "BatchPipe$Tank", "spilled", "I")]
def nwM : List (Nat × MethodName) := [(39, yX4_init), (57, yX2_init), (58, yX1_init), (61, yX0_init), (64, yX3_init), (87, yX2_tell), (99, yX1_tell), (243, yX2_fill), (108, yX0_tell), (117, yX4_tell), (126, yX3_pourOut), (181, yX2_fromEnd), (161, yX0_waiting), (300, yX1_bears), (304, yX4_takesMore), (339, yX3_take), (332, yX2_moveOn), (149, yX0_inPipe)]
def nwC : List String := ["java/lang/IllegalArgumentException", "java/lang/IllegalStateException", "java/lang/IndexOutOfBoundsException"]
def nwD : List MethodName := [⟨"java/lang/RuntimeException", "<init>", "()V"⟩, ⟨"java/lang/RuntimeException", "<init>", "(Ljava/lang/String;)V"⟩, ⟨"java/lang/Exception", "<init>", "()V"⟩, ⟨"java/lang/Exception", "<init>", "(Ljava/lang/String;)V"⟩, ⟨"java/lang/Throwable", "<init>", "()V"⟩, ⟨"java/lang/Throwable", "<init>", "(Ljava/lang/String;)V"⟩]
def nwS : List (Nat × String) := [(239, "out of range"), (82, "the pipe is open, or has all its segments"), (237, "there is no such one"), (96, "a product bears itself"), (102, "the pipe is open, or has no segments"), (118, "there are all batches"), (130, "the pipe is closed, or a pig is in it"), (139, "the pipe is closed, or the minutes are at their end"), (146, "the batch 0 comes with the opening"), (241, "there is no such unit"), (192, "the pipe is closed")]
theorem nwF_293 : (293, "BatchPipe$Tap", "segment", "I") ∈ nwF := List.mem_of_getElem? (i := 0) rfl
theorem nwF_114 : (114, "BatchPipe$Tap", "tank", "I") ∈ nwF := List.mem_of_getElem? (i := 1) rfl
theorem nwF_246 : (246, "BatchPipe$Tap", "taken", "I") ∈ nwF := List.mem_of_getElem? (i := 2) rfl
theorem nwF_275 : (275, "BatchPipe$Segment", "unitsOf", "[I") ∈ nwF := List.mem_of_getElem? (i := 3) rfl
theorem nwF_178 : (178, "BatchPipe$Segment", "holds", "I") ∈ nwF := List.mem_of_getElem? (i := 4) rfl
theorem nwF_272 : (272, "BatchPipe$Segment", "height", "I") ∈ nwF := List.mem_of_getElem? (i := 5) rfl
theorem nwF_263 : (263, "BatchPipe$Segment", "limit", "I") ∈ nwF := List.mem_of_getElem? (i := 6) rfl
theorem nwF_223 : (223, "BatchPipe$Segment", "dirt", "I") ∈ nwF := List.mem_of_getElem? (i := 7) rfl
theorem nwF_172 : (172, "BatchPipe$Product", "number", "I") ∈ nwF := List.mem_of_getElem? (i := 8) rfl
theorem nwF_269 : (269, "BatchPipe$Product", "weight", "I") ∈ nwF := List.mem_of_getElem? (i := 9) rfl
theorem nwF_278 : (278, "BatchPipe$Product", "thickness", "I") ∈ nwF := List.mem_of_getElem? (i := 10) rfl
theorem nwF_338 : (338, "BatchPipe$Product", "grade", "I") ∈ nwF := List.mem_of_getElem? (i := 11) rfl
theorem nwF_188 : (188, "BatchPipe$Batch", "number", "I") ∈ nwF := List.mem_of_getElem? (i := 12) rfl
theorem nwF_168 : (168, "BatchPipe$Batch", "oil", "LBatchPipe$Product;") ∈ nwF := List.mem_of_getElem? (i := 13) rfl
theorem nwF_346 : (346, "BatchPipe$Batch", "shipper", "I") ∈ nwF := List.mem_of_getElem? (i := 14) rfl
theorem nwF_111 : (111, "BatchPipe$Batch", "entered", "I") ∈ nwF := List.mem_of_getElem? (i := 15) rfl
theorem nwF_152 : (152, "BatchPipe$Batch", "left", "I") ∈ nwF := List.mem_of_getElem? (i := 16) rfl
theorem nwF_155 : (155, "BatchPipe$Batch", "dropped", "I") ∈ nwF := List.mem_of_getElem? (i := 17) rfl
theorem nwF_158 : (158, "BatchPipe$Batch", "leaked", "I") ∈ nwF := List.mem_of_getElem? (i := 18) rfl
theorem nwF_323 : (323, "BatchPipe$Batch", "ahead", "LBatchPipe$Batch;") ∈ nwF := List.mem_of_getElem? (i := 19) rfl
theorem nwF_189 : (189, "BatchPipe$Batch", "behind", "LBatchPipe$Batch;") ∈ nwF := List.mem_of_getElem? (i := 20) rfl
theorem nwF_329 : (329, "BatchPipe$Batch", "enteredBefore", "I") ∈ nwF := List.mem_of_getElem? (i := 21) rfl
theorem nwF_317 : (317, "BatchPipe$Batch", "firstGone", "Z") ∈ nwF := List.mem_of_getElem? (i := 22) rfl
theorem nwF_314 : (314, "BatchPipe$Batch", "mix", "I") ∈ nwF := List.mem_of_getElem? (i := 23) rfl
theorem nwF_205 : (205, "BatchPipe$Tank", "has", "I") ∈ nwF := List.mem_of_getElem? (i := 24) rfl
theorem nwF_208 : (208, "BatchPipe$Tank", "grade", "I") ∈ nwF := List.mem_of_getElem? (i := 25) rfl
theorem nwF_211 : (211, "BatchPipe$Tank", "mixed", "I") ∈ nwF := List.mem_of_getElem? (i := 26) rfl
theorem nwF_343 : (343, "BatchPipe$Tank", "spilled", "I") ∈ nwF := List.mem_of_getElem? (i := 27) rfl
theorem nwM_39 : (39, yX4_init) ∈ nwM := List.mem_of_getElem? (i := 0) rfl
theorem nwM_57 : (57, yX2_init) ∈ nwM := List.mem_of_getElem? (i := 1) rfl
theorem nwM_58 : (58, yX1_init) ∈ nwM := List.mem_of_getElem? (i := 2) rfl
theorem nwM_61 : (61, yX0_init) ∈ nwM := List.mem_of_getElem? (i := 3) rfl
theorem nwM_64 : (64, yX3_init) ∈ nwM := List.mem_of_getElem? (i := 4) rfl
theorem nwM_87 : (87, yX2_tell) ∈ nwM := List.mem_of_getElem? (i := 5) rfl
theorem nwM_99 : (99, yX1_tell) ∈ nwM := List.mem_of_getElem? (i := 6) rfl
theorem nwM_243 : (243, yX2_fill) ∈ nwM := List.mem_of_getElem? (i := 7) rfl
theorem nwM_108 : (108, yX0_tell) ∈ nwM := List.mem_of_getElem? (i := 8) rfl
theorem nwM_117 : (117, yX4_tell) ∈ nwM := List.mem_of_getElem? (i := 9) rfl
theorem nwM_126 : (126, yX3_pourOut) ∈ nwM := List.mem_of_getElem? (i := 10) rfl
theorem nwM_181 : (181, yX2_fromEnd) ∈ nwM := List.mem_of_getElem? (i := 11) rfl
theorem nwM_161 : (161, yX0_waiting) ∈ nwM := List.mem_of_getElem? (i := 12) rfl
theorem nwM_300 : (300, yX1_bears) ∈ nwM := List.mem_of_getElem? (i := 13) rfl
theorem nwM_304 : (304, yX4_takesMore) ∈ nwM := List.mem_of_getElem? (i := 14) rfl
theorem nwM_339 : (339, yX3_take) ∈ nwM := List.mem_of_getElem? (i := 15) rfl
theorem nwM_332 : (332, yX2_moveOn) ∈ nwM := List.mem_of_getElem? (i := 16) rfl
theorem nwM_149 : (149, yX0_inPipe) ∈ nwM := List.mem_of_getElem? (i := 17) rfl
theorem nwS_239 : (239, "out of range") ∈ nwS := List.mem_of_getElem? (i := 0) rfl
theorem nwS_82 : (82, "the pipe is open, or has all its segments") ∈ nwS := List.mem_of_getElem? (i := 1) rfl
theorem nwS_237 : (237, "there is no such one") ∈ nwS := List.mem_of_getElem? (i := 2) rfl
theorem nwS_96 : (96, "a product bears itself") ∈ nwS := List.mem_of_getElem? (i := 3) rfl
theorem nwS_102 : (102, "the pipe is open, or has no segments") ∈ nwS := List.mem_of_getElem? (i := 4) rfl
theorem nwS_118 : (118, "there are all batches") ∈ nwS := List.mem_of_getElem? (i := 5) rfl
theorem nwS_130 : (130, "the pipe is closed, or a pig is in it") ∈ nwS := List.mem_of_getElem? (i := 6) rfl
theorem nwS_139 : (139, "the pipe is closed, or the minutes are at their end") ∈ nwS := List.mem_of_getElem? (i := 7) rfl
theorem nwS_146 : (146, "the batch 0 comes with the opening") ∈ nwS := List.mem_of_getElem? (i := 8) rfl
theorem nwS_241 : (241, "there is no such unit") ∈ nwS := List.mem_of_getElem? (i := 9) rfl
theorem nwS_192 : (192, "the pipe is closed") ∈ nwS := List.mem_of_getElem? (i := 10) rfl
/-- words that the tables alone don't keep: nest mates, casts of exceptions, their constructors, String constants -/
def NW (U : State) : Prop := (∀ q ∈ nwF, va_Nw (.fieldLinkNest RX5 q.1 q.2.1 q.2.2.1 q.2.2.2 RX5) U) ∧ (∀ q ∈ nwM, va_Nw (.methodLinkNest RX5 q.1 q.2 RX5) U) ∧ (∀ q ∈ nwC, va_Nw (.castable q q) U) ∧ (∀ q ∈ nwD, va_Nw (.declares q) U) ∧ (∀ q ∈ nwS, ∃ sa : Nat, vk_R RX5 q.1 q.2 sa U)
theorem NW.warm {s U : State} (hW : s.WarmedH U.vm) (h : NW s) : NW U := ⟨fun q hq => va_Nw.warmF hW (h.1 q hq), fun q hq => va_Nw.warmM hW (h.2.1 q hq), fun q hq => va_Nw.warmC hW (h.2.2.1 q hq), fun q hq => va_Nw.warmD hW (h.2.2.2.1 q hq), fun q hq => by
  obtain ⟨sa, e⟩ := h.2.2.2.2 q hq
  exact ⟨sa, vk_R.warm hW e⟩⟩
theorem NW.same {s U : State} (hv : U.vm = s.vm) (h : NW s) : NW U := ⟨fun q hq => va_Nw.same rfl hv.symm (h.1 q hq), fun q hq => va_Nw.same rfl hv.symm (h.2.1 q hq), fun q hq => va_Nw.same rfl hv.symm (h.2.2.1 q hq), fun q hq => va_Nw.same rfl hv.symm (h.2.2.2.1 q hq), fun q hq => by
  obtain ⟨sa, e⟩ := h.2.2.2.2 q hq
  exact ⟨sa, vk_R.same hv e⟩⟩
def ZZ (a : Nat) (U : State) (H : Heap) : Prop := vx_Zq Bundle.tN "UNASSIGNED_STACK" Bundle.steD (Aq a) U H ∧ vx_Zq Bundle.tN "SUPPRESSED_SENTINEL" Bundle.listD (Aq a) U H
/-- what holds of the tables all the time -/
def KS (D : va_G) (cy : Nat → ClassId) (U : State) : Prop := va_K D vwCl (tyL cy) U ∧ NW U
/-- a method's start -/
def WT (D : va_G) (cy : Nat → ClassId) (a : Nat) (M : Mm) (U : State) : Prop := HP D cy a M U.heap ∧ KS D cy U ∧ ZZ a U U.heap
theorem KS.warm {D : va_G} {cy : Nat → ClassId} {s U : State} (hW : s.WarmedH U.vm) (h : KS D cy s) : KS D cy U := ⟨va_K.moved hW.alike h.1, NW.warm hW h.2⟩
theorem WT.calling {D : va_G} {cy : Nat → ClassId} {a : Nat} {M : Mm} {U : State} {g : JFrame} {mk : MethodId} {av : Array Value} (h : WT D cy a M U) : WT D cy a M (U.calling g mk av) := by
  obtain ⟨h1, h2, h3⟩ := h
  exact ⟨h1, ⟨va_K.moved (u := U) (U := U.calling g mk av) (Vm.Alike.refl U.vm) h2.1, NW.same (s := U) rfl h2.2⟩, ⟨vx_Zq.moved (u := U) (U := U.calling g mk av) (Vm.Alike.refl U.vm) h3.1, vx_Zq.moved (u := U) (U := U.calling g mk av) (Vm.Alike.refl U.vm) h3.2⟩⟩
theorem WT.of {D : va_G} {cy : Nat → ClassId} {a : Nat} {M : Mm} {s U : State} {H : Heap} {locs : List Loc} (hw : HP D cy a M H) (hK : KS D cy s) (hZ : ZZ a s s.heap) (hS : va_S (Aq a) s.heap H locs) (hU : U.heap = H) (hW : s.WarmedH U.vm) : WT D cy a M U := by
  refine ⟨by rw [hU]; exact hw, KS.warm hW hK, ?_, ?_⟩
  · rw [hU]
    exact vx_Zq.moved hW.alike (vx_Zq.kept hZ.1 (fun q h1 h2 => hS.2.1 q h1 h2))
  · rw [hU]
    exact vx_Zq.moved hW.alike (vx_Zq.kept hZ.2 (fun q h1 h2 => hS.2.1 q h1 h2))
abbrev Pre (D : va_G) (cy : Nat → ClassId) (a : Nat) (M : Mm) (av : List Value) : Array Value → State → Prop := va_Pc av (fun U => WT D cy a M U)
abbrev QI (D : va_G) (cy : Nat → ClassId) (a : Nat) (r : Int32) (M : Mm) : Array Value → State → Outcome → State → Prop := va_Qi (fun (x : Int32) (_ : Unit) => x = r) (fun _ t => HP D cy a M t.heap) (Aq a)
abbrev QV (D : va_G) (cy : Nat → ClassId) (a : Nat) (M : Mm) : Array Value → State → Outcome → State → Prop := va_Qv (fun (_ : Unit) => True) (fun _ t => HP D cy a M t.heap) (Aq a)
abbrev QR (D : va_G) (cy : Nat → ClassId) (a base : Nat) (r : Option Nat) (M : Mm) : Array Value → State → Outcome → State → Prop := va_Qq (fun (x : Option Nat) (_ : Unit) => x = r.map (fun i => a + (base + i))) (fun _ t => HP D cy a M t.heap) (Aq a)
/-- the classes of what is thrown, by numbers -/
def exN (n : Nat) : String := match n with
  | 1 => "java/lang/IllegalArgumentException"
  | 2 => "java/lang/IllegalStateException"
  | _ => "java/lang/IndexOutOfBoundsException"
abbrev XT (D : va_G) (cy : Nat → ClassId) (a : Nat) (n : Nat) (M : Mm) : String → State → State → Prop := vx_X (fun (_ : Unit) => n ≠ 0) (fun E _ t => E = exN n ∧ HP D cy a M t.heap) (Aq a)
abbrev QIx (D : va_G) (cy : Nat → ClassId) (a : Nat) (n : Nat) (r : Int32) (M : Mm) : Array Value → State → Outcome → State → Prop := va_Qi (fun (x : Int32) (_ : Unit) => n = 0 ∧ x = r) (fun _ t => HP D cy a M t.heap) (Aq a)
abbrev QVx (D : va_G) (cy : Nat → ClassId) (a : Nat) (n : Nat) (M : Mm) : Array Value → State → Outcome → State → Prop := va_Qv (fun (_ : Unit) => n = 0) (fun _ t => HP D cy a M t.heap) (Aq a)
abbrev QB (D : va_G) (cy : Nat → ClassId) (a : Nat) (r : Int32) (M : Mm) : Array Value → State → Outcome → State → Prop := va_Qi (fun (x : Int32) (_ : Unit) => x = r ∧ narrow .boolean (.int x) = .int x) (fun _ t => HP D cy a M t.heap) (Aq a)
/-! what the pure functions' ends say -/
theorem og {c : Prop} [Decidable c] {α : Type} {x : Option α} {o : α} (h : (if c then x else none) = some o) : c ∧ x = some o := by
  by_cases q : c
  · rw [if_pos q] at h; exact ⟨q, h⟩
  · rw [if_neg q] at h; cases h
theorem ob {α β : Type} {x : Option α} {f : α → Option β} {o : β} (h : x.bind f = some o) : ∃ y, x = some y ∧ f y = some o := by
  cases x with
  | none => cases h
  | some y => exact ⟨y, rfl, h⟩
theorem ip {c : Prop} [Decidable c] {α : Type} {x y : Option α} {o : α} (q : c) (h : (if c then x else y) = some o) : x = some o := by rw [if_pos q] at h; exact h
theorem iq {c : Prop} [Decidable c] {α : Type} {x y : Option α} {o : α} (q : ¬ c) (h : (if c then x else y) = some o) : y = some o := by rw [if_neg q] at h; exact h
theorem vi {i : Int32} {n : Nat} (h : ¬ (i < 0 ∨ n ≤ i.toNatClampNeg)) : i.toNatClampNeg < n := Nat.not_le.mp fun q => h (Or.inr q)
theorem kseg {i : Nat} (h : i < 6) : 9 + 3 * i < 104 := by omega
theorem kring {i : Nat} (h : i < 6) : 10 + 3 * i < 104 := by omega
theorem kuof {i : Nat} (h : i < 6) : 11 + 3 * i < 104 := by omega
theorem kprod {i : Nat} (h : i < 6) : 27 + i < 104 := by omega
theorem kbat {i : Nat} (h : i < 40) : 33 + i < 104 := by omega
theorem ktank {i : Nat} (h : i < 4) : 73 + i < 104 := by omega
theorem ktap {i : Nat} (h : i < 3) : 6 + i < 104 := by omega
theorem bfit {x : Int32} (h : narrow .boolean (.int x) = .int x) : fits .boolean (.int x) = true := by
  have h1 : x &&& 1 = x := Value.int.inj h
  obtain ⟨j, hj, e⟩ := pk_andE x (m := 1) 1 (by decide)
  rw [h1] at e
  rcases (show j = 0 ∨ j = 1 by omega) with rfl | rfl
  · rw [e]; decide
  · rw [e]; decide
theorem swout0_2 {x : Int32} (h0 : ¬ x = (0 : Int32)) (h1 : ¬ x = (1 : Int32)) (h2 : ¬ x = (2 : Int32)) : x.toInt < 0 ∨ 2 < x.toInt := by
  have g0 : ¬ x.toInt = 0 := lv_neT h0 (by decide)
  have g1 : ¬ x.toInt = 1 := lv_neT h1 (by decide)
  have g2 : ¬ x.toInt = 2 := lv_neT h2 (by decide)
  omega
theorem swout0_5 {x : Int32} (h0 : ¬ x = (0 : Int32)) (h1 : ¬ x = (1 : Int32)) (h2 : ¬ x = (2 : Int32)) (h3 : ¬ x = (3 : Int32)) (h4 : ¬ x = (4 : Int32)) (h5 : ¬ x = (5 : Int32)) : x.toInt < 0 ∨ 5 < x.toInt := by
  have g0 : ¬ x.toInt = 0 := lv_neT h0 (by decide)
  have g1 : ¬ x.toInt = 1 := lv_neT h1 (by decide)
  have g2 : ¬ x.toInt = 2 := lv_neT h2 (by decide)
  have g3 : ¬ x.toInt = 3 := lv_neT h3 (by decide)
  have g4 : ¬ x.toInt = 4 := lv_neT h4 (by decide)
  have g5 : ¬ x.toInt = 5 := lv_neT h5 (by decide)
  omega
theorem swout0_7 {x : Int32} (h0 : ¬ x = (0 : Int32)) (h1 : ¬ x = (1 : Int32)) (h2 : ¬ x = (2 : Int32)) (h3 : ¬ x = (3 : Int32)) (h4 : ¬ x = (4 : Int32)) (h5 : ¬ x = (5 : Int32)) (h6 : ¬ x = (6 : Int32)) (h7 : ¬ x = (7 : Int32)) : x.toInt < 0 ∨ 7 < x.toInt := by
  have g0 : ¬ x.toInt = 0 := lv_neT h0 (by decide)
  have g1 : ¬ x.toInt = 1 := lv_neT h1 (by decide)
  have g2 : ¬ x.toInt = 2 := lv_neT h2 (by decide)
  have g3 : ¬ x.toInt = 3 := lv_neT h3 (by decide)
  have g4 : ¬ x.toInt = 4 := lv_neT h4 (by decide)
  have g5 : ¬ x.toInt = 5 := lv_neT h5 (by decide)
  have g6 : ¬ x.toInt = 6 := lv_neT h6 (by decide)
  have g7 : ¬ x.toInt = 7 := lv_neT h7 (by decide)
  omega
theorem swout0_18 {x : Int32} (h0 : ¬ x = (0 : Int32)) (h1 : ¬ x = (1 : Int32)) (h2 : ¬ x = (2 : Int32)) (h3 : ¬ x = (3 : Int32)) (h4 : ¬ x = (4 : Int32)) (h5 : ¬ x = (5 : Int32)) (h6 : ¬ x = (6 : Int32)) (h7 : ¬ x = (7 : Int32)) (h8 : ¬ x = (8 : Int32)) (h9 : ¬ x = (9 : Int32)) (h10 : ¬ x = (10 : Int32)) (h11 : ¬ x = (11 : Int32)) (h12 : ¬ x = (12 : Int32)) (h13 : ¬ x = (13 : Int32)) (h14 : ¬ x = (14 : Int32)) (h15 : ¬ x = (15 : Int32)) (h16 : ¬ x = (16 : Int32)) (h17 : ¬ x = (17 : Int32)) (h18 : ¬ x = (18 : Int32)) : x.toInt < 0 ∨ 18 < x.toInt := by
  have g0 : ¬ x.toInt = 0 := lv_neT h0 (by decide)
  have g1 : ¬ x.toInt = 1 := lv_neT h1 (by decide)
  have g2 : ¬ x.toInt = 2 := lv_neT h2 (by decide)
  have g3 : ¬ x.toInt = 3 := lv_neT h3 (by decide)
  have g4 : ¬ x.toInt = 4 := lv_neT h4 (by decide)
  have g5 : ¬ x.toInt = 5 := lv_neT h5 (by decide)
  have g6 : ¬ x.toInt = 6 := lv_neT h6 (by decide)
  have g7 : ¬ x.toInt = 7 := lv_neT h7 (by decide)
  have g8 : ¬ x.toInt = 8 := lv_neT h8 (by decide)
  have g9 : ¬ x.toInt = 9 := lv_neT h9 (by decide)
  have g10 : ¬ x.toInt = 10 := lv_neT h10 (by decide)
  have g11 : ¬ x.toInt = 11 := lv_neT h11 (by decide)
  have g12 : ¬ x.toInt = 12 := lv_neT h12 (by decide)
  have g13 : ¬ x.toInt = 13 := lv_neT h13 (by decide)
  have g14 : ¬ x.toInt = 14 := lv_neT h14 (by decide)
  have g15 : ¬ x.toInt = 15 := lv_neT h15 (by decide)
  have g16 : ¬ x.toInt = 16 := lv_neT h16 (by decide)
  have g17 : ¬ x.toInt = 17 := lv_neT h17 (by decide)
  have g18 : ¬ x.toInt = 18 := lv_neT h18 (by decide)
  omega
def imax (x y : Int32) : Int32 := if x < y then y else x
def imin (x y : Int32) : Int32 := if y < x then y else x
def irem (x y : Int32) : Int32 := x - x / y * y
def ishl (x y : Int32) : Int32 := x <<< (y &&& 31)
def ishr (x y : Int32) : Int32 := x >>> (y &&& 31)
theorem rfo_nar (C : String) (a b : Nat) (o : Option Nat) : narrow (.object C) (rfo a b o) = rfo a b o := by cases o <;> rfl
theorem rfo_fit (C : String) (a b : Nat) (o : Option Nat) : fits (.object C) (rfo a b o) = true := by cases o <;> rfl
theorem rfo_inj {a b : Nat} {x y : Option Nat} (h : x.map (fun i => a + (b + i)) = y.map (fun i => a + (b + i))) : x = y := by
  cases x <;> cases y
  · rfl
  · cases h
  · cases h
  · rename_i x y
    have h2 : a + (b + x) = a + (b + y) := Option.some.inj h
    rw [show x = y by omega]
section Rw
variable {p : Program} {l : Launch} {e : Env} {R : Room} {s : State} {m : MethodId} {args : Array Value} {below : List Frame} {meth : Method} {c : Code} {H : Heap} {locs : List Loc} {cells slots : Nat} {Q : State → Prop}
variable {cc : ByteArray} {pc : Nat} {ls : Array Slot} {rest : List Value} {D : va_G} {cy : Nat → ClassId} {a : Nat} {M : Mm} {own : String} {Ts : List Cond}
theorem rGet (hx : p.tables.exec = Jvm.exec) (hb : c.code = cc) {ref C : String} {T : u_T} {N ci index : Nat} (hts : ∀ w ∈ Ts, w.before args s = true) (hin : ∀ w ∈ u_ws C T N, w ∈ Ts) (hown : s.vm.findClass own = some m.cls) (hK : KS D cy s) (hw : HP D cy a M H) {k : Nat} (hk : k < 104) {fs : List Value} (he : ent cy a (M.1 k) (M.2 k) k = .inr (ci, fs)) (hc : vwCl[ci]? = some (C, T, N)) (j : Nat) (hj : j < N) (hlink : (Cond.fieldLink own index ref (T j).2.1 (T j).2.2.1).before args s = true) (href : (T j).1 = ref) {v : Value} (hv : fs[j]? = some v) (hdg : decode cc pc = .ok (.getfield index, 3))
    (kk : W p l e R s m args below meth c H locs cells slots Q (F0 m (pc + 3) ls (v :: rest))) : W p l e R s m args below meth c H locs cells slots Q (F0 m pc ls (.ref (a + k) :: rest)) :=
  va_get hx hb hts hin hown hK.1 hw k (by rw [wl_at hk, he]) hc j hj hlink (fun x h => by rw [← href]; exact h) hv hdg kk
theorem rGetN (hx : p.tables.exec = Jvm.exec) (hb : c.code = cc) {ref C : String} {T : u_T} {N ci index : Nat} (hts : ∀ w ∈ Ts, w.before args s = true) (hin : ∀ w ∈ u_ws C T N, w ∈ Ts) (hown : s.vm.findClass RX5 = some m.cls) (hK : KS D cy s) (hw : HP D cy a M H) {k : Nat} (hk : k < 104) {fs : List Value} (he : ent cy a (M.1 k) (M.2 k) k = .inr (ci, fs)) (hc : vwCl[ci]? = some (C, T, N)) (j : Nat) (hj : j < N) (hlink : (index, ref, (T j).2.1, (T j).2.2.1) ∈ nwF) (href : (T j).1 = ref) {v : Value} (hv : fs[j]? = some v) (hdg : decode cc pc = .ok (.getfield index, 3))
    (kk : W p l e R s m args below meth c H locs cells slots Q (F0 m (pc + 3) ls (v :: rest))) : W p l e R s m args below meth c H locs cells slots Q (F0 m pc ls (.ref (a + k) :: rest)) :=
  va_getN hx hb hts hin hown hK.1 hw k (by rw [wl_at hk, he]) hc j hj (va_Nw.use (A := args) rfl (hK.2.1 _ hlink)) (fun x h => by rw [← href]; exact h) hv hdg kk
theorem rGetI (hx : p.tables.exec = Jvm.exec) (hb : c.code = cc) {ref C : String} {T : u_T} {N ci index : Nat} (hts : ∀ w ∈ Ts, w.before args s = true) (hin : ∀ w ∈ u_ws C T N, w ∈ Ts) (hown : s.vm.findClass own = some m.cls) (hK : KS D cy s) (hw : HP D cy a M H) {k : Nat} (hk : k < 104) {fs : List Value} (he : ent cy a (M.1 k) (M.2 k) k = .inr (ci, fs)) (hc : vwCl[ci]? = some (C, T, N)) (j : Nat) (hj : j < N) (hlink : (Cond.fieldLink own index ref (T j).2.1 (T j).2.2.1).before args s = true) (href : (T j).1 = ref) (hv : fs[j]? = some (.int (gi M k j))) (hdg : decode cc pc = .ok (.getfield index, 3))
    (kk : W p l e R s m args below meth c H locs cells slots Q (F0 m (pc + 3) ls (.int (gi M k j) :: rest))) : W p l e R s m args below meth c H locs cells slots Q (F0 m pc ls (.ref (a + k) :: rest)) :=
  rGet hx hb hts hin hown hK hw hk he hc j hj hlink href hv hdg kk
theorem rGetR (hx : p.tables.exec = Jvm.exec) (hb : c.code = cc) {ref C : String} {T : u_T} {N ci index : Nat} (hts : ∀ w ∈ Ts, w.before args s = true) (hin : ∀ w ∈ u_ws C T N, w ∈ Ts) (hown : s.vm.findClass own = some m.cls) (hK : KS D cy s) (hw : HP D cy a M H) {k : Nat} (hk : k < 104) {fs : List Value} (he : ent cy a (M.1 k) (M.2 k) k = .inr (ci, fs)) (hc : vwCl[ci]? = some (C, T, N)) (j : Nat) (hj : j < N) (hlink : (Cond.fieldLink own index ref (T j).2.1 (T j).2.2.1).before args s = true) (href : (T j).1 = ref) {base : Nat} (hv : fs[j]? = some (rfo a base (gr M k j))) (hdg : decode cc pc = .ok (.getfield index, 3))
    (kk : W p l e R s m args below meth c H locs cells slots Q (F0 m (pc + 3) ls (rfo a base (gr M k j) :: rest))) : W p l e R s m args below meth c H locs cells slots Q (F0 m pc ls (.ref (a + k) :: rest)) :=
  rGet hx hb hts hin hown hK hw hk he hc j hj hlink href hv hdg kk
theorem rGetNI (hx : p.tables.exec = Jvm.exec) (hb : c.code = cc) {ref C : String} {T : u_T} {N ci index : Nat} (hts : ∀ w ∈ Ts, w.before args s = true) (hin : ∀ w ∈ u_ws C T N, w ∈ Ts) (hown : s.vm.findClass RX5 = some m.cls) (hK : KS D cy s) (hw : HP D cy a M H) {k : Nat} (hk : k < 104) {fs : List Value} (he : ent cy a (M.1 k) (M.2 k) k = .inr (ci, fs)) (hc : vwCl[ci]? = some (C, T, N)) (j : Nat) (hj : j < N) (hlink : (index, ref, (T j).2.1, (T j).2.2.1) ∈ nwF) (href : (T j).1 = ref) (hv : fs[j]? = some (.int (gi M k j))) (hdg : decode cc pc = .ok (.getfield index, 3))
    (kk : W p l e R s m args below meth c H locs cells slots Q (F0 m (pc + 3) ls (.int (gi M k j) :: rest))) : W p l e R s m args below meth c H locs cells slots Q (F0 m pc ls (.ref (a + k) :: rest)) :=
  rGetN hx hb hts hin hown hK hw hk he hc j hj hlink href hv hdg kk
theorem rGetNR (hx : p.tables.exec = Jvm.exec) (hb : c.code = cc) {ref C : String} {T : u_T} {N ci index : Nat} (hts : ∀ w ∈ Ts, w.before args s = true) (hin : ∀ w ∈ u_ws C T N, w ∈ Ts) (hown : s.vm.findClass RX5 = some m.cls) (hK : KS D cy s) (hw : HP D cy a M H) {k : Nat} (hk : k < 104) {fs : List Value} (he : ent cy a (M.1 k) (M.2 k) k = .inr (ci, fs)) (hc : vwCl[ci]? = some (C, T, N)) (j : Nat) (hj : j < N) (hlink : (index, ref, (T j).2.1, (T j).2.2.1) ∈ nwF) (href : (T j).1 = ref) {base : Nat} (hv : fs[j]? = some (rfo a base (gr M k j))) (hdg : decode cc pc = .ok (.getfield index, 3))
    (kk : W p l e R s m args below meth c H locs cells slots Q (F0 m (pc + 3) ls (rfo a base (gr M k j) :: rest))) : W p l e R s m args below meth c H locs cells slots Q (F0 m pc ls (.ref (a + k) :: rest)) :=
  rGetN hx hb hts hin hown hK hw hk he hc j hj hlink href hv hdg kk
theorem rPut (hx : p.tables.exec = Jvm.exec) (hb : c.code = cc) {ref C : String} {T : u_T} {N ci index : Nat} (hts : ∀ w ∈ Ts, w.before args s = true) (hin : ∀ w ∈ u_ws C T N, w ∈ Ts) (ty0 : Nat → FieldType) (hty : ∀ k, k < N → parseFieldDescriptor (T k).2.2.1 = some (ty0 k)) (hnm : ∀ a, a < N → ∀ b, b < N → a ≠ b → (T a).2.1 ≠ (T b).2.1) (hown : s.vm.findClass own = some m.cls) (hK : KS D cy s) (hw : HP D cy a M H) (hS : va_S (Aq a) s.heap H locs) {k : Nat} (hk : k < 104) {fs : List Value} (he : ent cy a (M.1 k) (M.2 k) k = .inr (ci, fs)) (hc : vwCl[ci]? = some (C, T, N)) (j : Nat) (hj : j < N) (hlink : (Cond.fieldLink own index ref (T j).2.1 (T j).2.2.1).before args s = true) (href : (T j).1 = ref) (hfin : (T j).2.2.2 = false) {x : Int32} (hn : narrow (ty0 j) (.int x) = .int x) (hfit : fits (ty0 j) (.int x) = true) (hl : j < fs.length) (hset : ent cy a (upd (M.1 k) j x) (M.2 k) k = .inr (ci, fs.set j (.int x))) (hdg : decode cc pc = .ok (.putfield index, 3))
    (kk : ∀ (H1 : Heap) (locs1 : List Loc), HP D cy a (si M k j x) H1 → va_S (Aq a) s.heap H1 locs1 → W p l e R s m args below meth c H1 locs1 cells slots Q (F0 m (pc + 3) ls rest)) : W p l e R s m args below meth c H locs cells slots Q (F0 m pc ls (.int x :: .ref (a + k) :: rest)) :=
  va_put hx hb hts hin ty0 hty hnm hown hK.1 hw wl_D hS k (by rw [wl_at hk, he]) hc j hj hlink (fun x h => by rw [← href]; exact h) hfin (hty j hj) hn hfit hl hdg (fun H1 locs1 hP _ hS1 => kk H1 locs1 (by rw [wl_si hk hset] at hP; exact hP) hS1)
theorem rPutN (hx : p.tables.exec = Jvm.exec) (hb : c.code = cc) {ref C : String} {T : u_T} {N ci index : Nat} (hts : ∀ w ∈ Ts, w.before args s = true) (hin : ∀ w ∈ u_ws C T N, w ∈ Ts) (ty0 : Nat → FieldType) (hty : ∀ k, k < N → parseFieldDescriptor (T k).2.2.1 = some (ty0 k)) (hnm : ∀ a, a < N → ∀ b, b < N → a ≠ b → (T a).2.1 ≠ (T b).2.1) (hown : s.vm.findClass RX5 = some m.cls) (hK : KS D cy s) (hw : HP D cy a M H) (hS : va_S (Aq a) s.heap H locs) {k : Nat} (hk : k < 104) {fs : List Value} (he : ent cy a (M.1 k) (M.2 k) k = .inr (ci, fs)) (hc : vwCl[ci]? = some (C, T, N)) (j : Nat) (hj : j < N) (hlink : (index, ref, (T j).2.1, (T j).2.2.1) ∈ nwF) (href : (T j).1 = ref) (hfin : (T j).2.2.2 = false) {x : Int32} (hn : narrow (ty0 j) (.int x) = .int x) (hfit : fits (ty0 j) (.int x) = true) (hl : j < fs.length) (hset : ent cy a (upd (M.1 k) j x) (M.2 k) k = .inr (ci, fs.set j (.int x))) (hdg : decode cc pc = .ok (.putfield index, 3))
    (kk : ∀ (H1 : Heap) (locs1 : List Loc), HP D cy a (si M k j x) H1 → va_S (Aq a) s.heap H1 locs1 → W p l e R s m args below meth c H1 locs1 cells slots Q (F0 m (pc + 3) ls rest)) : W p l e R s m args below meth c H locs cells slots Q (F0 m pc ls (.int x :: .ref (a + k) :: rest)) :=
  va_putN hx hb hts hin ty0 hty hnm hown hK.1 hw wl_D hS k (by rw [wl_at hk, he]) hc j hj (va_Nw.use (A := args) rfl (hK.2.1 _ hlink)) (fun x h => by rw [← href]; exact h) hfin (hty j hj) hn hfit hl hdg (fun H1 locs1 hP _ hS1 => kk H1 locs1 (by rw [wl_si hk hset] at hP; exact hP) hS1)
theorem rPutR (hx : p.tables.exec = Jvm.exec) (hb : c.code = cc) {ref C : String} {T : u_T} {N ci index : Nat} (hts : ∀ w ∈ Ts, w.before args s = true) (hin : ∀ w ∈ u_ws C T N, w ∈ Ts) (ty0 : Nat → FieldType) (hty : ∀ k, k < N → parseFieldDescriptor (T k).2.2.1 = some (ty0 k)) (hnm : ∀ a, a < N → ∀ b, b < N → a ≠ b → (T a).2.1 ≠ (T b).2.1) (hown : s.vm.findClass own = some m.cls) (hK : KS D cy s) (hw : HP D cy a M H) (hS : va_S (Aq a) s.heap H locs) {k : Nat} (hk : k < 104) {fs : List Value} (he : ent cy a (M.1 k) (M.2 k) k = .inr (ci, fs)) (hc : vwCl[ci]? = some (C, T, N)) (j : Nat) (hj : j < N) (hlink : (Cond.fieldLink own index ref (T j).2.1 (T j).2.2.1).before args s = true) (href : (T j).1 = ref) (hfin : (T j).2.2.2 = false) {K : String} (hob : ty0 j = .object K) {base : Nat} {o : Option Nat} (hl : j < fs.length) (hset : ent cy a (M.1 k) (va_up (M.2 k) j o) k = .inr (ci, fs.set j (rfo a base o))) (hdg : decode cc pc = .ok (.putfield index, 3))
    (kk : ∀ (H1 : Heap) (locs1 : List Loc), HP D cy a (sr M k j o) H1 → va_S (Aq a) s.heap H1 locs1 → W p l e R s m args below meth c H1 locs1 cells slots Q (F0 m (pc + 3) ls rest)) : W p l e R s m args below meth c H locs cells slots Q (F0 m pc ls (rfo a base o :: .ref (a + k) :: rest)) :=
  va_put hx hb hts hin ty0 hty hnm hown hK.1 hw wl_D hS k (by rw [wl_at hk, he]) hc j hj hlink (fun x h => by rw [← href]; exact h) hfin (hty j hj) (by rw [hob]; exact rfo_nar K a base o) (by rw [hob]; exact rfo_fit K a base o) hl hdg (fun H1 locs1 hP _ hS1 => kk H1 locs1 (by rw [wl_sr hk hset] at hP; exact hP) hS1)
theorem rPutRN (hx : p.tables.exec = Jvm.exec) (hb : c.code = cc) {ref C : String} {T : u_T} {N ci index : Nat} (hts : ∀ w ∈ Ts, w.before args s = true) (hin : ∀ w ∈ u_ws C T N, w ∈ Ts) (ty0 : Nat → FieldType) (hty : ∀ k, k < N → parseFieldDescriptor (T k).2.2.1 = some (ty0 k)) (hnm : ∀ a, a < N → ∀ b, b < N → a ≠ b → (T a).2.1 ≠ (T b).2.1) (hown : s.vm.findClass RX5 = some m.cls) (hK : KS D cy s) (hw : HP D cy a M H) (hS : va_S (Aq a) s.heap H locs) {k : Nat} (hk : k < 104) {fs : List Value} (he : ent cy a (M.1 k) (M.2 k) k = .inr (ci, fs)) (hc : vwCl[ci]? = some (C, T, N)) (j : Nat) (hj : j < N) (hlink : (index, ref, (T j).2.1, (T j).2.2.1) ∈ nwF) (href : (T j).1 = ref) (hfin : (T j).2.2.2 = false) {K : String} (hob : ty0 j = .object K) {base : Nat} {o : Option Nat} (hl : j < fs.length) (hset : ent cy a (M.1 k) (va_up (M.2 k) j o) k = .inr (ci, fs.set j (rfo a base o))) (hdg : decode cc pc = .ok (.putfield index, 3))
    (kk : ∀ (H1 : Heap) (locs1 : List Loc), HP D cy a (sr M k j o) H1 → va_S (Aq a) s.heap H1 locs1 → W p l e R s m args below meth c H1 locs1 cells slots Q (F0 m (pc + 3) ls rest)) : W p l e R s m args below meth c H locs cells slots Q (F0 m pc ls (rfo a base o :: .ref (a + k) :: rest)) :=
  va_putN hx hb hts hin ty0 hty hnm hown hK.1 hw wl_D hS k (by rw [wl_at hk, he]) hc j hj (va_Nw.use (A := args) rfl (hK.2.1 _ hlink)) (fun x h => by rw [← href]; exact h) hfin (hty j hj) (by rw [hob]; exact rfo_nar K a base o) (by rw [hob]; exact rfo_fit K a base o) hl hdg (fun H1 locs1 hP _ hS1 => kk H1 locs1 (by rw [wl_sr hk hset] at hP; exact hP) hS1)
theorem rIald (hx : p.tables.exec = Jvm.exec) (hb : c.code = cc) (hK : KS D cy s) (hw : HP D cy a M H) {k : Nat} (hk : k < 104) {n : Nat} (he : ent cy a (M.1 k) (M.2 k) k = .inl (cy 0, n, .inl (M.1 k))) {i : Int32} (hin : ¬ (i < 0 ∨ n ≤ i.toNatClampNeg)) (hdg : decode cc pc = .ok (.iaload, 1))
    (kk : W p l e R s m args below meth c H locs cells slots Q (F0 m (pc + 1) ls (.int (gi M k i.toNatClampNeg) :: rest))) : W p l e R s m args below meth c H locs cells slots Q (F0 m pc ls (.int i :: .ref (a + k) :: rest)) :=
  va_iald (f := M.1 k) hx hb hK.1 hw k 0 (by rw [wl_at hk, he]) rfl hin hdg kk
theorem rIast (hx : p.tables.exec = Jvm.exec) (hb : c.code = cc) (hK : KS D cy s) (hw : HP D cy a M H) (hS : va_S (Aq a) s.heap H locs) {k : Nat} (hk : k < 104) {n : Nat} (he : ∀ r : Nat → Int32, ent cy a r (M.2 k) k = .inl (cy 0, n, .inl r)) {i x : Int32} (hin : ¬ (i < 0 ∨ n ≤ i.toNatClampNeg)) (hdg : decode cc pc = .ok (.iastore, 1))
    (kk : ∀ (H1 : Heap) (locs1 : List Loc), HP D cy a (si M k i.toNatClampNeg x) H1 → va_S (Aq a) s.heap H1 locs1 → W p l e R s m args below meth c H1 locs1 cells slots Q (F0 m (pc + 1) ls rest)) : W p l e R s m args below meth c H locs cells slots Q (F0 m pc ls (.int x :: .int i :: .ref (a + k) :: rest)) :=
  va_iast hx hb hK.1 hw wl_D hS k 0 (by rw [wl_at hk, he]) rfl hin hdg (fun H1 locs1 hP _ hS1 => kk H1 locs1 (by rw [wl_si hk (he _)] at hP; exact hP) hS1)
theorem rAald (hx : p.tables.exec = Jvm.exec) (hb : c.code = cc) (hK : KS D cy s) (hw : HP D cy a M H) {k : Nat} (hk : k < 104) (t0 : Nat) {C : String} {n : Nat} {f : Nat → Nat} {cA : ClassId} (he : ent cy a (M.1 k) (M.2 k) k = .inl (cA, n, .inr (.inr (.inr (.inr (fun j => some (f j))))))) (ht : (tyL cy)[t0]? = some (cA, .object C)) {i : Int32} (hin : ¬ (i < 0 ∨ n ≤ i.toNatClampNeg)) (hdg : decode cc pc = .ok (.aaload, 1))
    (kk : W p l e R s m args below meth c H locs cells slots Q (F0 m (pc + 1) ls (.ref (f i.toNatClampNeg) :: rest))) : W p l e R s m args below meth c H locs cells slots Q (F0 m pc ls (.int i :: .ref (a + k) :: rest)) :=
  va_aldq (f := fun j => some (f j)) hx hb hK.1 hw k t0 (by rw [wl_at hk, he]) ht hin hdg kk
theorem rLald (hx : p.tables.exec = Jvm.exec) (hb : c.code = cc) (hK : KS D cy s) (hw : HP D cy a M H) {i : Int32} (hin : ¬ (i < 0 ∨ 1 ≤ i.toNatClampNeg)) (hdg : decode cc pc = .ok (.laload, 1))
    (kk : W p l e R s m args below meth c H locs cells slots Q (F0 m (pc + 1) ls (.long (gi M 103 i.toNatClampNeg).toInt64 :: rest))) : W p l e R s m args below meth c H locs cells slots Q (F0 m pc ls (.int i :: .ref (a + 103) :: rest)) :=
  va_lald hx hb hK.1 hw 103 1 (by rw [wl_at (by decide), en_out]) rfl hin hdg kk
theorem rLast (hx : p.tables.exec = Jvm.exec) (hb : c.code = cc) (hK : KS D cy s) (hw : HP D cy a M H) (hS : va_S (Aq a) s.heap H locs) {i x : Int32} (hin : ¬ (i < 0 ∨ 1 ≤ i.toNatClampNeg)) (hdg : decode cc pc = .ok (.lastore, 1))
    (kk : ∀ (H1 : Heap) (locs1 : List Loc), HP D cy a (si M 103 i.toNatClampNeg x) H1 → va_S (Aq a) s.heap H1 locs1 → W p l e R s m args below meth c H1 locs1 cells slots Q (F0 m (pc + 1) ls rest)) : W p l e R s m args below meth c H locs cells slots Q (F0 m pc ls (.long x.toInt64 :: .int i :: .ref (a + 103) :: rest)) :=
  va_last hx hb hK.1 hw wl_D hS 103 1 (by rw [wl_at (by decide), en_out]) rfl hin hdg (fun H1 locs1 hP _ hS1 => kk H1 locs1 (by
    have e : ent cy a (upd (M.1 103) i.toNatClampNeg x) (M.2 103) 103 = .inl (cy 1, 1, .inr (.inl (vp_updL (fun j => (M.1 103 j).toInt64) i.toNatClampNeg x.toInt64))) := by
      have e2 : (fun j => (upd (M.1 103) i.toNatClampNeg x j).toInt64) = vp_updL (fun j => (M.1 103 j).toInt64) i.toNatClampNeg x.toInt64 := by
        funext j
        unfold upd vp_updL
        split <;> rfl
      rw [en_out, e2]
    rw [wl_si (by decide) e] at hP
    exact hP) hS1)
theorem rDer {base i : Nat} {o : Option Nat} (h : o = some i) (kk : W p l e R s m args below meth c H locs cells slots Q (F0 m pc ls (.ref (a + (base + i)) :: rest))) : W p l e R s m args below meth c H locs cells slots Q (F0 m pc ls (rfo a base o :: rest)) := by
  subst h
  exact kk
theorem rAloadQ_n {base : Nat} {o : Option Nat} (hx : p.tables.exec = Jvm.exec) (hb : c.code = cc) {k : Fin 4} {i : Nat} (hdg : decode cc pc = .ok (.aload_n k, 1)) (hi : (k : Nat) = i) (hl : ls[i]? = some (.val (rfo a base o))) (kk : W p l e R s m args below meth c H locs cells slots Q (F0 m (pc + 1) ls (rfo a base o :: rest))) : W p l e R s m args below meth c H locs cells slots Q (F0 m pc ls rest) := by
  cases o with
  | none => exact lv_aload_nN hx hb hdg hi hl kk
  | some x => exact lv_aload_n hx hb hdg hi hl kk
theorem rAloadQ {base : Nat} {o : Option Nat} (hx : p.tables.exec = Jvm.exec) (hb : c.code = cc) {i : Nat} (hdg : decode cc pc = .ok (.aload i, 2)) (hl : ls[i]? = some (.val (rfo a base o))) (kk : W p l e R s m args below meth c H locs cells slots Q (F0 m (pc + 2) ls (rfo a base o :: rest))) : W p l e R s m args below meth c H locs cells slots Q (F0 m pc ls rest) := by
  cases o with
  | none => exact lv_aloadN hx hb hdg hl kk
  | some x => exact lv_aload hx hb hdg hl kk
theorem rAstoreQ_n {base : Nat} {o : Option Nat} (hx : p.tables.exec = Jvm.exec) (hb : c.code = cc) {k : Fin 4} {i nL : Nat} {lv lv' : List (Nat × Value)} (hdg : decode cc pc = .ok (.astore_n k, 1)) (hi : (k : Nat) = i) (h : lv_has ls nL lv) (hn : i < nL) (hl : (i, rfo a base o) :: lv.filter (fun q => !(q.1 == i) && !(q.1 + 1 == i && q.2.category == 2)) = lv') (kk : ∀ ls' : Array Slot, lv_has ls' nL lv' → W p l e R s m args below meth c H locs cells slots Q (F0 m (pc + 1) ls' rest)) : W p l e R s m args below meth c H locs cells slots Q (F0 m pc ls (rfo a base o :: rest)) := by
  cases o with
  | none => exact lv_astore_nN hx hb hdg hi h hn hl kk
  | some x => exact lv_astore_n hx hb hdg hi h hn hl kk
theorem rAstoreQ {base : Nat} {o : Option Nat} (hx : p.tables.exec = Jvm.exec) (hb : c.code = cc) {i nL : Nat} {lv lv' : List (Nat × Value)} (hdg : decode cc pc = .ok (.astore i, 2)) (h : lv_has ls nL lv) (hn : i < nL) (hl : (i, rfo a base o) :: lv.filter (fun q => !(q.1 == i) && !(q.1 + 1 == i && q.2.category == 2)) = lv') (kk : ∀ ls' : Array Slot, lv_has ls' nL lv' → W p l e R s m args below meth c H locs cells slots Q (F0 m (pc + 2) ls' rest)) : W p l e R s m args below meth c H locs cells slots Q (F0 m pc ls (rfo a base o :: rest)) := by
  cases o with
  | none => exact lv_astoreN hx hb hdg h hn hl kk
  | some x => exact lv_astore hx hb hdg h hn hl kk
theorem rNull {base : Nat} {o : Option Nat} (hx : p.tables.exec = Jvm.exec) (hb : c.code = cc) {off : Int} {tgt : Nat} (hdg : decode cc pc = .ok (.ifnull off, 3)) (ht : (pc : Int) + off = (tgt : Int)) (kt : o = none → W p l e R s m args below meth c H locs cells slots Q (F0 m tgt ls rest)) (kf : ¬ o = none → W p l e R s m args below meth c H locs cells slots Q (F0 m (pc + 3) ls rest)) : W p l e R s m args below meth c H locs cells slots Q (F0 m pc ls (rfo a base o :: rest)) := by
  cases o with
  | none => exact lv_ifnullN hx hb hdg ht (kt rfl)
  | some i => exact lv_ifnull hx hb hdg (kf (fun h => nomatch h))
theorem rNonnull {base : Nat} {o : Option Nat} (hx : p.tables.exec = Jvm.exec) (hb : c.code = cc) {off : Int} {tgt : Nat} (hdg : decode cc pc = .ok (.ifnonnull off, 3)) (ht : (pc : Int) + off = (tgt : Int)) (kt : o = none → W p l e R s m args below meth c H locs cells slots Q (F0 m (pc + 3) ls rest)) (kf : ¬ o = none → W p l e R s m args below meth c H locs cells slots Q (F0 m tgt ls rest)) : W p l e R s m args below meth c H locs cells slots Q (F0 m pc ls (rfo a base o :: rest)) := by
  cases o with
  | none => exact lv_ifnonnullN hx hb hdg (kt rfl)
  | some i => exact lv_ifnonnull hx hb hdg ht (kf (fun h => nomatch h))
theorem rAcmpEq {base : Nat} {x y : Option Nat} (hx : p.tables.exec = Jvm.exec) (hb : c.code = cc) {off : Int} {tgt : Nat} (hdg : decode cc pc = .ok (.if_acmp .eq off, 3)) (ht : (pc : Int) + off = (tgt : Int)) (kt : x = y → W p l e R s m args below meth c H locs cells slots Q (F0 m tgt ls rest)) (kf : ¬ x = y → W p l e R s m args below meth c H locs cells slots Q (F0 m (pc + 3) ls rest)) : W p l e R s m args below meth c H locs cells slots Q (F0 m pc ls (rfo a base y :: rfo a base x :: rest)) :=
  lv_acmp_eq hx hb hdg ht (fun h => kt (rfo_inj h)) (fun h => kf (fun e => h (by rw [e])))
theorem rAcmpNe {base : Nat} {x y : Option Nat} (hx : p.tables.exec = Jvm.exec) (hb : c.code = cc) {off : Int} {tgt : Nat} (hdg : decode cc pc = .ok (.if_acmp .ne off, 3)) (ht : (pc : Int) + off = (tgt : Int)) (kt : x = y → W p l e R s m args below meth c H locs cells slots Q (F0 m (pc + 3) ls rest)) (kf : ¬ x = y → W p l e R s m args below meth c H locs cells slots Q (F0 m tgt ls rest)) : W p l e R s m args below meth c H locs cells slots Q (F0 m pc ls (rfo a base y :: rfo a base x :: rest)) :=
  lv_acmp_ne hx hb hdg ht (fun h => kf (fun e => h (by rw [e]))) (fun h => kt (rfo_inj h))
theorem rRecv (hK : KS D cy s) (hw : HP D cy a M H) {k : Nat} (hk : k < 104) {ci : Nat} {fs : List Value} (he : ent cy a (M.1 k) (M.2 k) k = .inr (ci, fs)) {C : String} {T : u_T} {N : Nat} (hc : vwCl[ci]? = some (C, T, N)) : ∃ cell : Cell, H[a + k]? = some cell ∧ cell.vm.isStatics = false ∧ s.vm.findClass C = some cell.cls :=
  va_recv hK.1 hw hc (q0 := k) (by rw [wl_at hk, he])
theorem pBlind {av : List Value} : FrameBlind (Pre D cy a M av) := fun _ _ _ _ h => ⟨h.1, WT.calling h.2⟩
theorem pV (hK : KS D cy s) (hZ : ZZ a s s.heap) (hw : HP D cy a M H) (hS : va_S (Aq a) s.heap H locs) {b : Addr} {C : String} {As : List Value} (hv : ∃ cell : Cell, H[b]? = some cell ∧ cell.vm.isStatics = false ∧ s.vm.findClass C = some cell.cls) : PreV s H C b (Pre D cy a M (.ref b :: As)) As :=
  ⟨pBlind, hv, fun _ hU hW => ⟨rfl, WT.of hw hK hZ hS hU hW⟩⟩
theorem pS (hK : KS D cy s) (hZ : ZZ a s s.heap) (hw : HP D cy a M H) (hS : va_S (Aq a) s.heap H locs) {As : List Value} : PreS s H (Pre D cy a M As) As :=
  ⟨pBlind, fun _ hU hW => ⟨rfl, WT.of hw hK hZ hS hU hW⟩⟩
variable {mc ms : Nat} {st0 : List Value} {av : Array Value} {M1 : Mm}
theorem rCallI {r : Int32} (hr : va_Run p l e R s m args below meth c H locs cells slots mc ms (F0 m pc ls st0) rest (QI D cy a r M1 av) (Aq a)) (hS : va_S (Aq a) s.heap H locs)
    (kk : ∀ (H1 : Heap) (locs1 : List Loc), HP D cy a M1 H1 → va_S (Aq a) s.heap H1 locs1 → W p l e R s m args below meth c H1 locs1 (cells + mc) (slots + ms) Q (F0 m (pc + 3) ls (.int r :: rest))) : W p l e R s m args below meth c H locs cells slots Q (F0 m pc ls st0) :=
  va_calli hr hS (fun _ _ h => h) (fun _ h => h) (fun x _ t H1 locs1 ht _ hp hB _ _ hS1 => by rw [hp]; exact kk H1 locs1 (by rw [← ht]; exact hB) hS1)
theorem rCallB {r : Int32} (hr : va_Run p l e R s m args below meth c H locs cells slots mc ms (F0 m pc ls st0) rest (QB D cy a r M1 av) (Aq a)) (hS : va_S (Aq a) s.heap H locs)
    (kk : ∀ (H1 : Heap) (locs1 : List Loc), HP D cy a M1 H1 → va_S (Aq a) s.heap H1 locs1 → narrow .boolean (.int r) = .int r → W p l e R s m args below meth c H1 locs1 (cells + mc) (slots + ms) Q (F0 m (pc + 3) ls (.int r :: rest))) : W p l e R s m args below meth c H locs cells slots Q (F0 m pc ls st0) :=
  va_calli hr hS (fun _ _ h => h) (fun _ h => h) (fun x _ t H1 locs1 ht _ hp hB _ _ hS1 => by rw [hp.1]; exact kk H1 locs1 (by rw [← ht]; exact hB) hS1 (by rw [← hp.1]; exact hp.2))
theorem rCallV (hr : va_Run p l e R s m args below meth c H locs cells slots mc ms (F0 m pc ls st0) rest (QV D cy a M1 av) (Aq a)) (hS : va_S (Aq a) s.heap H locs)
    (kk : ∀ (H1 : Heap) (locs1 : List Loc), HP D cy a M1 H1 → va_S (Aq a) s.heap H1 locs1 → W p l e R s m args below meth c H1 locs1 (cells + mc) (slots + ms) Q (F0 m (pc + 3) ls rest)) : W p l e R s m args below meth c H locs cells slots Q (F0 m pc ls st0) :=
  va_callv hr hS (fun _ _ h => h) (fun _ h => h) (fun _ t H1 locs1 ht _ _ hB _ _ hS1 => kk H1 locs1 (by rw [← ht]; exact hB) hS1)
theorem rCallR {base : Nat} {r : Option Nat} (hr : va_Run p l e R s m args below meth c H locs cells slots mc ms (F0 m pc ls st0) rest (QR D cy a base r M1 av) (Aq a)) (hS : va_S (Aq a) s.heap H locs)
    (kk : ∀ (H1 : Heap) (locs1 : List Loc), HP D cy a M1 H1 → va_S (Aq a) s.heap H1 locs1 → W p l e R s m args below meth c H1 locs1 (cells + mc) (slots + ms) Q (F0 m (pc + 3) ls (rfo a base r :: rest))) : W p l e R s m args below meth c H locs cells slots Q (F0 m pc ls st0) :=
  va_callq hr hS (fun _ _ h => h) (fun _ h => h) (fun x _ t H1 locs1 ht _ hp hB _ _ hS1 => by rw [hp]; exact kk H1 locs1 (by rw [← ht]; exact hB) hS1)
/-- what the caller gets of a callee that has thrown -/
abbrev XK (p : Program) (l : Launch) (e : Env) (R : Room) (s : State) (m : MethodId) (args : Array Value) (below : List Frame) (meth : Method) (c : Code) (D : va_G) (cy : Nat → ClassId) (a n : Nat) (M : Mm) (cells slots : Nat) (Q : State → Prop) (g : JFrame) : Prop :=
  ∀ (ce : Cell) (q9 : Addr) (H1 : Heap) (locs1 : List Loc), n ≠ 0 → HP D cy a M H1 → va_S (Aq a) s.heap H1 locs1 → H1[q9]? = some ce → ce.vm = .none → s.vm.findClass (exN n) = some ce.cls → vx_W p l e R s m args below meth c H1 locs1 cells slots Q g q9
theorem rxCallI {n : Nat} {r : Int32} (hr : vx_Run p l e R s m args below meth c H locs cells slots mc ms (F0 m pc ls st0) rest (QIx D cy a n r M1 av) (XT D cy a n M1) (Aq a)) (hS : va_S (Aq a) s.heap H locs)
    (kx : XK p l e R s m args below meth c D cy a n M1 (cells + mc) (slots + ms) Q (F0 m pc ls rest))
    (kk : ∀ (H1 : Heap) (locs1 : List Loc), n = 0 → HP D cy a M1 H1 → va_S (Aq a) s.heap H1 locs1 → W p l e R s m args below meth c H1 locs1 (cells + mc) (slots + ms) Q (F0 m (pc + 3) ls (.int r :: rest))) : W p l e R s m args below meth c H locs cells slots Q (F0 m pc ls st0) :=
  vx_calli hr hS (fun _ _ h => h) (fun _ h => h) (fun _ _ h => h) (fun E ce q9 _ t H1 locs1 ht _ hp hB _ _ hS1 h1 h2 h3 => kx ce q9 H1 locs1 hp (by rw [← ht]; exact hB.2) hS1 h1 h2 (by rw [← hB.1]; exact h3)) (fun x _ t H1 locs1 ht _ hp hB _ _ hS1 => by rw [hp.2]; exact kk H1 locs1 hp.1 (by rw [← ht]; exact hB) hS1)
theorem rxCallV {n : Nat} (hr : vx_Run p l e R s m args below meth c H locs cells slots mc ms (F0 m pc ls st0) rest (QVx D cy a n M1 av) (XT D cy a n M1) (Aq a)) (hS : va_S (Aq a) s.heap H locs)
    (kx : XK p l e R s m args below meth c D cy a n M1 (cells + mc) (slots + ms) Q (F0 m pc ls rest))
    (kk : ∀ (H1 : Heap) (locs1 : List Loc), n = 0 → HP D cy a M1 H1 → va_S (Aq a) s.heap H1 locs1 → W p l e R s m args below meth c H1 locs1 (cells + mc) (slots + ms) Q (F0 m (pc + 3) ls rest)) : W p l e R s m args below meth c H locs cells slots Q (F0 m pc ls st0) :=
  vx_callv hr hS (fun _ _ h => h) (fun _ h => h) (fun _ _ h => h) (fun E ce q9 _ t H1 locs1 ht _ hp hB _ _ hS1 h1 h2 h3 => kx ce q9 H1 locs1 hp (by rw [← ht]; exact hB.2) hS1 h1 h2 (by rw [← hB.1]; exact h3)) (fun _ t H1 locs1 ht _ hp hB _ _ hS1 => kk H1 locs1 hp (by rw [← ht]; exact hB) hS1)
/-- not caught here -/
theorem rOut {Qc : Array Value → State → Outcome → State → Prop} {n : Nat} {ce : Cell} {q : Addr} (htb : ∀ x ∈ c.exceptionTable.toList, False) (hlocks : meth.locks = false) (hn : n ≠ 0) (hw : HP D cy a M H) (hS : va_S (Aq a) s.heap H locs) (hcell : H[q]? = some ce) (hv : ce.vm = .none) (hcl : s.vm.findClass (exN n) = some ce.cls) (hc : cells ≤ mc) (hs : slots ≤ ms) :
    vx_W p l e R s m args below meth c H locs cells slots (vx_MQ below Qc (XT D cy a n M) args s mc ms (Aq a)) (F0 m pc ls rest) q :=
  vx_out (fun x hx => (htb x hx).elim) hlocks hcell hv hcl (fun t ht _ => ⟨(), hn, ⟨rfl, (ht ▸ hw : HP D cy a M t.heap)⟩, hS.F ht⟩) hS.2.2 hc hs
/-- the ends -/
theorem rIret {x : Int32} (hx : p.tables.exec = Jvm.exec) (hb : c.code = cc) (hr : meth.sig.returnType = some .int) (hlocks : meth.locks = false) (hw : HP D cy a M H) (hS : va_S (Aq a) s.heap H locs) (hdg : decode cc pc = .ok (.ireturn, 1)) : W p l e R s m args below meth c H locs cells slots (MQ below (QI D cy a x M) args s cells slots (Aq a)) (F0 m pc ls [.int x]) :=
  W.iret hx hb hr (fun t ht _ => ⟨⟨x, (), rfl, rfl, (ht ▸ hw : HP D cy a M t.heap)⟩, hS.F ht⟩) hS.2.2 hdg hlocks
theorem rBret {x : Int32} (hx : p.tables.exec = Jvm.exec) (hb : c.code = cc) (hr : meth.sig.returnType = some .boolean) (hlocks : meth.locks = false) (hw : HP D cy a M H) (hS : va_S (Aq a) s.heap H locs) (hn : narrow .boolean (.int x) = .int x) (hdg : decode cc pc = .ok (.ireturn, 1)) : W p l e R s m args below meth c H locs cells slots (MQ below (QB D cy a x M) args s cells slots (Aq a)) (F0 m pc ls [.int x]) :=
  W.zret hx hb hr hn (fun t ht _ => ⟨⟨x, (), rfl, ⟨rfl, hn⟩, (ht ▸ hw : HP D cy a M t.heap)⟩, hS.F ht⟩) hS.2.2 hdg hlocks
theorem rVret (hx : p.tables.exec = Jvm.exec) (hb : c.code = cc) (hr : meth.sig.returnType = none) (hlocks : meth.locks = false) (hw : HP D cy a M H) (hS : va_S (Aq a) s.heap H locs) (hdg : decode cc pc = .ok (.return_, 1)) : W p l e R s m args below meth c H locs cells slots (MQ below (QV D cy a M) args s cells slots (Aq a)) (F0 m pc ls []) :=
  W.vret hx hb hr (fun t ht _ => ⟨⟨(), rfl, trivial, (ht ▸ hw : HP D cy a M t.heap)⟩, hS.F ht⟩) hS.2.2 hdg hlocks
theorem rRret {base : Nat} {o : Option Nat} {C : String} (hx : p.tables.exec = Jvm.exec) (hb : c.code = cc) (hr : meth.sig.returnType = some (.object C)) (hlocks : meth.locks = false) (hw : HP D cy a M H) (hS : va_S (Aq a) s.heap H locs) (hdg : decode cc pc = .ok (.areturn, 1)) : W p l e R s m args below meth c H locs cells slots (MQ below (QR D cy a base o M) args s cells slots (Aq a)) (F0 m pc ls [rfo a base o]) :=
  W.aret hx hb hr (Or.inl ⟨C, rfl⟩) (by cases o with
    | none => exact Or.inl rfl
    | some i => exact Or.inr ⟨_, rfl⟩) (fun t ht _ => ⟨⟨_, (), rfl, rfl, (ht ▸ hw : HP D cy a M t.heap)⟩, hS.F ht⟩) hS.2.2 hdg hlocks
theorem rxIret {x : Int32} (hx : p.tables.exec = Jvm.exec) (hb : c.code = cc) (hr : meth.sig.returnType = some .int) (hlocks : meth.locks = false) (hw : HP D cy a M H) (hS : va_S (Aq a) s.heap H locs) {XC : String → State → State → Prop} (hdg : decode cc pc = .ok (.ireturn, 1)) : W p l e R s m args below meth c H locs cells slots (vx_MQ below (QIx D cy a 0 x M) XC args s cells slots (Aq a)) (F0 m pc ls [.int x]) :=
  vx_ret (W.iret hx hb hr (fun t ht _ => ⟨⟨x, (), rfl, ⟨rfl, rfl⟩, (ht ▸ hw : HP D cy a M t.heap)⟩, hS.F ht⟩) hS.2.2 hdg hlocks)
theorem rxVret (hx : p.tables.exec = Jvm.exec) (hb : c.code = cc) (hr : meth.sig.returnType = none) (hlocks : meth.locks = false) (hw : HP D cy a M H) (hS : va_S (Aq a) s.heap H locs) {XC : String → State → State → Prop} (hdg : decode cc pc = .ok (.return_, 1)) : W p l e R s m args below meth c H locs cells slots (vx_MQ below (QVx D cy a 0 M) XC args s cells slots (Aq a)) (F0 m pc ls []) :=
  vx_ret (W.vret hx hb hr (fun t ht _ => ⟨⟨(), rfl, rfl, (ht ▸ hw : HP D cy a M t.heap)⟩, hS.F ht⟩) hS.2.2 hdg hlocks)
theorem rMax (hx : p.tables.exec = Jvm.exec) (hb : c.code = cc) {nL : Nat} {lv : List (Nat × Value)} (hml : c.maxLocals = nL) (hl : lv_has ls nL lv) {index : Nat} (hown : s.vm.findClass own = some m.cls) (hlink : (Cond.methodLink own index Lib.Math.max.name).before args s = true) (hstat : (Cond.static Lib.Math.max.name).before args s = true) (hini : (Cond.initialized "java/lang/Math").before args s = true) (hcode : (Cond.code Lib.Math.max.name Lib.Math.max.code 2 (some .int)).before args s = true)
    (hframes : 1 ≤ R.frames) (hlocals : (rest.map fun v => v.category).sum + 13 ≤ R.locals) (hc : cells ≤ R.cells) (hs : slots ≤ R.slots) {x y : Int32} (hdg : decode cc pc = .ok (.invokestatic index, 3))
    (kk : W p l e R s m args below meth c H locs cells slots Q (F0 m (pc + 3) ls (.int (imax x y) :: rest))) : W p l e R s m args below meth c H locs cells slots Q (F0 m pc ls (.int y :: .int x :: rest)) :=
  va_mmax hx hb (hml.trans hl.1.symm) hown hlink hstat hini hcode hframes hlocals hc hs hdg kk
theorem rMin (hx : p.tables.exec = Jvm.exec) (hb : c.code = cc) {nL : Nat} {lv : List (Nat × Value)} (hml : c.maxLocals = nL) (hl : lv_has ls nL lv) {index : Nat} (hown : s.vm.findClass own = some m.cls) (hlink : (Cond.methodLink own index Lib.Math.min.name).before args s = true) (hstat : (Cond.static Lib.Math.min.name).before args s = true) (hini : (Cond.initialized "java/lang/Math").before args s = true) (hcode : (Cond.code Lib.Math.min.name Lib.Math.min.code 2 (some .int)).before args s = true)
    (hframes : 1 ≤ R.frames) (hlocals : (rest.map fun v => v.category).sum + 13 ≤ R.locals) (hc : cells ≤ R.cells) (hs : slots ≤ R.slots) {x y : Int32} (hdg : decode cc pc = .ok (.invokestatic index, 3))
    (kk : W p l e R s m args below meth c H locs cells slots Q (F0 m (pc + 3) ls (.int (imin x y) :: rest))) : W p l e R s m args below meth c H locs cells slots Q (F0 m pc ls (.int y :: .int x :: rest)) :=
  va_mmin hx hb (hml.trans hl.1.symm) hown hlink hstat hini hcode hframes hlocals hc hs hdg kk
/-- 'throw new E("text")' -/
theorem rThrow {Qc : Array Value → State → Outcome → State → Prop} (hx : p.tables.exec = Jvm.exec) (hb : c.code = cc) (hl : l.stackTraces = false) {text : String} {ik is ic : Nat} (n : Nat) (hn : n ≠ 0) (hfit : Bundle.fit (exN n) = true)
    (hts : ∀ w ∈ Ts, w.before args s = true) (hown : s.vm.findClass RX5 = some m.cls) (hK : KS D cy s) (hZ : ZZ a s s.heap) (hw : HP D cy a M H) (hS : va_S (Aq a) s.heap H locs)
    (hk : Cond.classLink RX5 ik (exN n) ∈ Ts) (hini : Cond.initialized (exN n) ∈ Ts) (hstr : (is, text) ∈ nwS)
    (hg : ∀ w ∈ (vx_atS RX5 ic (exN n) ["java/lang/RuntimeException", "java/lang/Exception"]).filter goodWord, w ∈ Ts)
    (hbad : ∀ w ∈ (vx_atS RX5 ic (exN n) ["java/lang/RuntimeException", "java/lang/Exception"]).filter (fun w => !goodWord w), w ∈ (nwC.map (fun q => Cond.castable q q) ++ nwD.map (fun q => Cond.declares q)))
    (hgood : ∀ w ∈ Cond.classLink RX5 ik (exN n) :: Cond.initialized (exN n) :: vx_atS RX5 ic (exN n) ["java/lang/RuntimeException", "java/lang/Exception"], vx_ot w = true)
    {nL : Nat} {lv : List (Nat × Value)} (hml : c.maxLocals = nL) (hlv : lv_has ls nL lv)
    (d0 : decode cc pc = .ok (.new ik, 3)) (d3 : decode cc (pc + 3) = .ok (.dup, 1)) (d4 : decode cc (pc + 4) = .ok (.ldc is, 2)) (d6 : decode cc (pc + 6) = .ok (.invokespecial ic, 3)) (d9 : decode cc (pc + 9) = .ok (.athrow, 1))
    (htb : ∀ x ∈ c.exceptionTable.toList, False) (hRf : 5 < R.frames) (hRl : (rest.map fun v => v.category).sum + 82 ≤ R.locals) (hRc : cells + 1 ≤ R.cells) (hRs : slots + 6 ≤ R.slots) (hlocks : meth.locks = false) (hc : cells + 1 ≤ mc) (hs : slots + 6 ≤ ms) :
    W p l e R s m args below meth c H locs cells slots (vx_MQ below Qc (XT D cy a n M) args s mc ms (Aq a)) (F0 m pc ls rest) := by
  obtain ⟨sa, hsa⟩ := hK.2.2.2.2.2 _ hstr
  refine vx_throwS (names := ["java/lang/RuntimeException", "java/lang/Exception"]) (A := Aq a) hx hb hl hown hfit (by decide +kernel) (hts _ hk) (hts _ hini) hsa (vx_hat (fun w h => hts w (hg w h)) hbad (fun w h => ?_)) hgood hZ.1 hZ.2 hS (hlv.1.trans hml.symm) d0 d3 d4 d6 d9 (fun x hx => (htb x hx).elim) hRf hRl hRc hRs hlocks (fun t _ h1 h2 => ⟨(), hn, ⟨rfl, va_P.kept hw (fun k q hk => h2 q.1 ((hw k q hk).lt))⟩, ?_⟩) hS.2.2 hc hs
  · rcases List.mem_append.mp h with h | h
    · obtain ⟨q, hq, rfl⟩ := List.mem_map.mp h
      exact va_Nw.use rfl (hK.2.2.2.1 q hq)
    · obtain ⟨q, hq, rfl⟩ := List.mem_map.mp h
      exact va_Nw.use rfl (hK.2.2.2.2.1 q hq)
  · exact ⟨Nat.le_trans hS.1 h1, fun q hq hA => (h2 q (Nat.lt_of_lt_of_le hq hS.1)).trans (hS.2.1 q hq hA)⟩
end Rw
end
section
set_option maxRecDepth 20000 in
theorem xbad_1_98 : ∀ w ∈ (vx_atS RX5 98 (exN 1) ["java/lang/RuntimeException", "java/lang/Exception"]).filter (fun w => !goodWord w), w ∈ (nwC.map (fun q => Cond.castable q q) ++ nwD.map (fun q => Cond.declares q)) := by decide +kernel
set_option maxRecDepth 20000 in
theorem xgood_1_98_94 : ∀ w ∈ Cond.classLink RX5 94 (exN 1) :: Cond.initialized (exN 1) :: vx_atS RX5 98 (exN 1) ["java/lang/RuntimeException", "java/lang/Exception"], vx_ot w = true := by decide +kernel
set_option maxRecDepth 20000 in
theorem xbad_2_84 : ∀ w ∈ (vx_atS RX5 84 (exN 2) ["java/lang/RuntimeException", "java/lang/Exception"]).filter (fun w => !goodWord w), w ∈ (nwC.map (fun q => Cond.castable q q) ++ nwD.map (fun q => Cond.declares q)) := by decide +kernel
set_option maxRecDepth 20000 in
theorem xgood_2_84_80 : ∀ w ∈ Cond.classLink RX5 80 (exN 2) :: Cond.initialized (exN 2) :: vx_atS RX5 84 (exN 2) ["java/lang/RuntimeException", "java/lang/Exception"], vx_ot w = true := by decide +kernel
set_option maxRecDepth 20000 in
theorem xbad_3_148 : ∀ w ∈ (vx_atS RX5 148 (exN 3) ["java/lang/RuntimeException", "java/lang/Exception"]).filter (fun w => !goodWord w), w ∈ (nwC.map (fun q => Cond.castable q q) ++ nwD.map (fun q => Cond.declares q)) := by decide +kernel
set_option maxRecDepth 20000 in
theorem xgood_3_148_144 : ∀ w ∈ Cond.classLink RX5 144 (exN 3) :: Cond.initialized (exN 3) :: vx_atS RX5 148 (exN 3) ["java/lang/RuntimeException", "java/lang/Exception"], vx_ot w = true := by decide +kernel
end
section
def rX0_tell : Room := { frames := 0, cells := 0, slots := 0, locals := 0 }
noncomputable def fX0_tell (i0 : Nat) (x1 : Int32) (i2 : Nat) (x3 : Int32) (M : Mm) : Option (Mm) := (if i0 < 40 then some (si (sr (si M (33 + i0) 2 x1) (33 + i0) 1 (some i2)) (33 + i0) 3 x3) else none)
set_option maxRecDepth 20000 in
theorem iX0_tell_X0 : ∀ w ∈ wsX00, w ∈ wsX0_tell := by decide +kernel
set_option maxRecDepth 20000 in
theorem kX0_tell_0 : Cond.fieldLink RX0 9 "BatchPipe$Batch" "shipper" "I" ∈ wsX0_tell := by decide +kernel
set_option maxRecDepth 20000 in
theorem kX0_tell_1 : Cond.fieldLink RX0 18 "BatchPipe$Batch" "oil" "LBatchPipe$Product;" ∈ wsX0_tell := by decide +kernel
set_option maxRecDepth 20000 in
theorem kX0_tell_2 : Cond.fieldLink RX0 22 "BatchPipe$Batch" "ordered" "I" ∈ wsX0_tell := by decide +kernel
set_option maxRecDepth 100000 in
set_option maxHeartbeats 4000000 in
theorem bX0_tell_0 {p : Program} {l : Launch} {e : Env} {s : State} {m : MethodId} {args : Array Value} {below : List Frame} {meth : Method} {c : Code} {D : va_G} {cy : Nat → ClassId} {a : Nat} (hx : p.tables.exec = Jvm.exec) (hb : c.code = cX0_tell) (hr : meth.sig.returnType = none) (hml : c.maxLocals = 4) (hown : s.vm.findClass RX0 = some m.cls) (hts : ∀ w ∈ wsX0_tell, w.before args s = true) (hlocks : meth.locks = false) (hK : KS D cy s) (hZ : ZZ a s s.heap) {out : Mm} : ∀ (i0 : Nat) (x1 : Int32) (i2 : Nat) (x3 : Int32) (M : Mm) (H : Heap) (locs : List Loc) (ls : Array Slot), HP D cy a M H → va_S (Aq a) s.heap H locs → lv_has ls 4 [(0, .ref (a + (33 + i0))), (1, .int x1), (2, .ref (a + (27 + i2))), (3, .int x3)] → fX0_tell i0 x1 i2 x3 M = some out → W p l e rX0_tell s m args below meth c H locs 0 0 (MQ below (QV D cy a out) args s 0 0 (Aq a)) (F0 m 0 ls []) := by
  intro i0 x1 i2 x3 M H locs ls hw hS hl hf
  unfold fX0_tell at hf
  refine lv_aload_n hx hb dX0_tell_0 rfl (lv_at hl 0 rfl) ?_
  refine lv_iload_n hx hb dX0_tell_1 rfl (lv_at hl 1 rfl) ?_
  obtain ⟨hi1, hf⟩ := og hf
  refine rPut hx hb hts iX0_tell_X0 tyX0 tyX0_ok nmX0 hown hK hw hS (kbat hi1) (en_bat hi1) rfl 2 (by decide) (hts _ kX0_tell_0) rfl rfl rfl rfl (Nat.le_of_ble_eq_true rfl) (by rw [en_bat hi1]; rfl) dX0_tell_2 (fun H locs hw hS => ?_)
  refine lv_aload_n hx hb dX0_tell_5 rfl (lv_at hl 0 rfl) ?_
  refine lv_aload_n hx hb dX0_tell_6 rfl (lv_at hl 2 rfl) ?_
  refine rPutR hx hb hts iX0_tell_X0 tyX0 tyX0_ok nmX0 hown hK hw hS (kbat hi1) (en_bat hi1) rfl 1 (by decide) (hts _ kX0_tell_1) rfl rfl (K := "BatchPipe$Product") rfl (base := 27) (o := (some i2)) (Nat.le_of_ble_eq_true rfl) (by rw [en_bat hi1]; rfl) dX0_tell_7 (fun H locs hw hS => ?_)
  refine lv_aload_n hx hb dX0_tell_10 rfl (lv_at hl 0 rfl) ?_
  refine lv_iload_n hx hb dX0_tell_11 rfl (lv_at hl 3 rfl) ?_
  refine rPut hx hb hts iX0_tell_X0 tyX0 tyX0_ok nmX0 hown hK hw hS (kbat hi1) (en_bat hi1) rfl 3 (by decide) (hts _ kX0_tell_2) rfl rfl rfl rfl (Nat.le_of_ble_eq_true rfl) (by rw [en_bat hi1]; rfl) dX0_tell_12 (fun H locs hw hS => ?_)
  obtain rfl := Option.some.inj hf
  exact rVret hx hb hr hlocks hw hS dX0_tell_15
set_option maxRecDepth 100000 in
set_option maxHeartbeats 4000000 in
theorem ctX0_tell {l : Launch} {D : va_G} {cy : Nat → ClassId} {a : Nat} {i0 : Nat} {x1 : Int32} {i2 : Nat} {x3 : Int32} {M : Mm} {out : Mm} (hf : fX0_tell i0 x1 i2 x3 M = some out) : Met l yX0_tell wsX0_tell rX0_tell (Pre D cy a M [.ref (a + (33 + i0)), .int x1, .ref (a + (27 + i2)), .int x3]) (QV D cy a out) 0 0 (Aq a) := by
  refine Met.ofW (cc := cX0_tell) (maxL := 4) (ret := none) (by decide +kernel) rfl ?_
  intro p e s m args below meth c s₁ B hml hv
  obtain ⟨rfl, hw, hK, hZ⟩ := hv
  have hS : va_S (Aq a) s.heap s.heap [] := va_S.rf
  have hl := lv_entry ([.ref (a + (33 + i0)), .int x1, .ref (a + (27 + i2)), .int x3]) (n := 4) (Nat.le_of_ble_eq_true rfl)
  rw [lg_entry_eq]
  generalize (lg_sl ([.ref (a + (33 + i0)), .int x1, .ref (a + (27 + i2)), .int x3]) ++ List.replicate (4 - (lg_sl ([.ref (a + (33 + i0)), .int x1, .ref (a + (27 + i2)), .int x3])).length) Slot.unset).toArray = ls at hl ⊢
  exact bX0_tell_0 B.exec B.bytes B.returns hml (findClass_of_methodNamed B.named) (atoms_spec (ws := wsX0_tell) B.pre) B.notSynchronized hK hZ _ _ _ _ _ _ _ _ hw hS hl hf
def rX0_inPipe : Room := { frames := 0, cells := 0, slots := 0, locals := 0 }
noncomputable def fX0_inPipe (i0 : Nat) (M : Mm) : Option (Int32) := (if i0 < 40 then some ((((gi M (33 + i0) 4) - (gi M (33 + i0) 5)) - (gi M (33 + i0) 6)) - (gi M (33 + i0) 7)) else none)
set_option maxRecDepth 20000 in
theorem iX0_inPipe_X0 : ∀ w ∈ wsX00, w ∈ wsX0_inPipe := by decide +kernel
set_option maxRecDepth 20000 in
theorem kX0_inPipe_0 : Cond.fieldLink RX0 25 "BatchPipe$Batch" "entered" "I" ∈ wsX0_inPipe := by decide +kernel
set_option maxRecDepth 20000 in
theorem kX0_inPipe_1 : Cond.fieldLink RX0 28 "BatchPipe$Batch" "left" "I" ∈ wsX0_inPipe := by decide +kernel
set_option maxRecDepth 20000 in
theorem kX0_inPipe_2 : Cond.fieldLink RX0 31 "BatchPipe$Batch" "dropped" "I" ∈ wsX0_inPipe := by decide +kernel
set_option maxRecDepth 20000 in
theorem kX0_inPipe_3 : Cond.fieldLink RX0 34 "BatchPipe$Batch" "leaked" "I" ∈ wsX0_inPipe := by decide +kernel
set_option maxRecDepth 100000 in
set_option maxHeartbeats 4000000 in
theorem bX0_inPipe_0 {p : Program} {l : Launch} {e : Env} {s : State} {m : MethodId} {args : Array Value} {below : List Frame} {meth : Method} {c : Code} {D : va_G} {cy : Nat → ClassId} {a : Nat} (hx : p.tables.exec = Jvm.exec) (hb : c.code = cX0_inPipe) (hr : meth.sig.returnType = (some .int)) (hml : c.maxLocals = 1) (hown : s.vm.findClass RX0 = some m.cls) (hts : ∀ w ∈ wsX0_inPipe, w.before args s = true) (hlocks : meth.locks = false) (hK : KS D cy s) (hZ : ZZ a s s.heap) {out : Int32} : ∀ (i0 : Nat) (M : Mm) (H : Heap) (locs : List Loc) (ls : Array Slot), HP D cy a M H → va_S (Aq a) s.heap H locs → lv_has ls 1 [(0, .ref (a + (33 + i0)))] → fX0_inPipe i0 M = some out → W p l e rX0_inPipe s m args below meth c H locs 0 0 (MQ below (QI D cy a out M) args s 0 0 (Aq a)) (F0 m 0 ls []) := by
  intro i0 M H locs ls hw hS hl hf
  unfold fX0_inPipe at hf
  refine lv_aload_n hx hb dX0_inPipe_0 rfl (lv_at hl 0 rfl) ?_
  obtain ⟨hi1, hf⟩ := og hf
  refine rGetI hx hb hts iX0_inPipe_X0 hown hK hw (kbat hi1) (en_bat hi1) rfl 4 (by decide) (hts _ kX0_inPipe_0) rfl rfl dX0_inPipe_1 ?_
  refine lv_aload_n hx hb dX0_inPipe_4 rfl (lv_at hl 0 rfl) ?_
  refine rGetI hx hb hts iX0_inPipe_X0 hown hK hw (kbat hi1) (en_bat hi1) rfl 5 (by decide) (hts _ kX0_inPipe_1) rfl rfl dX0_inPipe_5 ?_
  refine lv_isub hx hb dX0_inPipe_8 ?_
  refine lv_aload_n hx hb dX0_inPipe_9 rfl (lv_at hl 0 rfl) ?_
  refine rGetI hx hb hts iX0_inPipe_X0 hown hK hw (kbat hi1) (en_bat hi1) rfl 6 (by decide) (hts _ kX0_inPipe_2) rfl rfl dX0_inPipe_10 ?_
  refine lv_isub hx hb dX0_inPipe_13 ?_
  refine lv_aload_n hx hb dX0_inPipe_14 rfl (lv_at hl 0 rfl) ?_
  refine rGetI hx hb hts iX0_inPipe_X0 hown hK hw (kbat hi1) (en_bat hi1) rfl 7 (by decide) (hts _ kX0_inPipe_3) rfl rfl dX0_inPipe_15 ?_
  refine lv_isub hx hb dX0_inPipe_18 ?_
  obtain rfl := Option.some.inj hf
  exact rIret hx hb hr hlocks hw hS dX0_inPipe_19
set_option maxRecDepth 100000 in
set_option maxHeartbeats 4000000 in
theorem ctX0_inPipe {l : Launch} {D : va_G} {cy : Nat → ClassId} {a : Nat} {i0 : Nat} {M : Mm} {out : Int32} (hf : fX0_inPipe i0 M = some out) : Met l yX0_inPipe wsX0_inPipe rX0_inPipe (Pre D cy a M [.ref (a + (33 + i0))]) (QI D cy a out M) 0 0 (Aq a) := by
  refine Met.ofW (cc := cX0_inPipe) (maxL := 1) (ret := (some .int)) (by decide +kernel) rfl ?_
  intro p e s m args below meth c s₁ B hml hv
  obtain ⟨rfl, hw, hK, hZ⟩ := hv
  have hS : va_S (Aq a) s.heap s.heap [] := va_S.rf
  have hl := lv_entry ([.ref (a + (33 + i0))]) (n := 1) (Nat.le_of_ble_eq_true rfl)
  rw [lg_entry_eq]
  generalize (lg_sl ([.ref (a + (33 + i0))]) ++ List.replicate (1 - (lg_sl ([.ref (a + (33 + i0))])).length) Slot.unset).toArray = ls at hl ⊢
  exact bX0_inPipe_0 B.exec B.bytes B.returns hml (findClass_of_methodNamed B.named) (atoms_spec (ws := wsX0_inPipe) B.pre) B.notSynchronized hK hZ _ _ _ _ _ hw hS hl hf
def rX0_waiting : Room := { frames := 0, cells := 0, slots := 0, locals := 0 }
noncomputable def fX0_waiting (i0 : Nat) (M : Mm) : Option (Int32) := (if i0 < 40 then some ((gi M (33 + i0) 3) - (gi M (33 + i0) 4)) else none)
set_option maxRecDepth 20000 in
theorem iX0_waiting_X0 : ∀ w ∈ wsX00, w ∈ wsX0_waiting := by decide +kernel
set_option maxRecDepth 20000 in
theorem kX0_waiting_0 : Cond.fieldLink RX0 22 "BatchPipe$Batch" "ordered" "I" ∈ wsX0_waiting := by decide +kernel
set_option maxRecDepth 20000 in
theorem kX0_waiting_1 : Cond.fieldLink RX0 25 "BatchPipe$Batch" "entered" "I" ∈ wsX0_waiting := by decide +kernel
set_option maxRecDepth 100000 in
set_option maxHeartbeats 4000000 in
theorem bX0_waiting_0 {p : Program} {l : Launch} {e : Env} {s : State} {m : MethodId} {args : Array Value} {below : List Frame} {meth : Method} {c : Code} {D : va_G} {cy : Nat → ClassId} {a : Nat} (hx : p.tables.exec = Jvm.exec) (hb : c.code = cX0_waiting) (hr : meth.sig.returnType = (some .int)) (hml : c.maxLocals = 1) (hown : s.vm.findClass RX0 = some m.cls) (hts : ∀ w ∈ wsX0_waiting, w.before args s = true) (hlocks : meth.locks = false) (hK : KS D cy s) (hZ : ZZ a s s.heap) {out : Int32} : ∀ (i0 : Nat) (M : Mm) (H : Heap) (locs : List Loc) (ls : Array Slot), HP D cy a M H → va_S (Aq a) s.heap H locs → lv_has ls 1 [(0, .ref (a + (33 + i0)))] → fX0_waiting i0 M = some out → W p l e rX0_waiting s m args below meth c H locs 0 0 (MQ below (QI D cy a out M) args s 0 0 (Aq a)) (F0 m 0 ls []) := by
  intro i0 M H locs ls hw hS hl hf
  unfold fX0_waiting at hf
  refine lv_aload_n hx hb dX0_waiting_0 rfl (lv_at hl 0 rfl) ?_
  obtain ⟨hi1, hf⟩ := og hf
  refine rGetI hx hb hts iX0_waiting_X0 hown hK hw (kbat hi1) (en_bat hi1) rfl 3 (by decide) (hts _ kX0_waiting_0) rfl rfl dX0_waiting_1 ?_
  refine lv_aload_n hx hb dX0_waiting_4 rfl (lv_at hl 0 rfl) ?_
  refine rGetI hx hb hts iX0_waiting_X0 hown hK hw (kbat hi1) (en_bat hi1) rfl 4 (by decide) (hts _ kX0_waiting_1) rfl rfl dX0_waiting_5 ?_
  refine lv_isub hx hb dX0_waiting_8 ?_
  obtain rfl := Option.some.inj hf
  exact rIret hx hb hr hlocks hw hS dX0_waiting_9
set_option maxRecDepth 100000 in
set_option maxHeartbeats 4000000 in
theorem ctX0_waiting {l : Launch} {D : va_G} {cy : Nat → ClassId} {a : Nat} {i0 : Nat} {M : Mm} {out : Int32} (hf : fX0_waiting i0 M = some out) : Met l yX0_waiting wsX0_waiting rX0_waiting (Pre D cy a M [.ref (a + (33 + i0))]) (QI D cy a out M) 0 0 (Aq a) := by
  refine Met.ofW (cc := cX0_waiting) (maxL := 1) (ret := (some .int)) (by decide +kernel) rfl ?_
  intro p e s m args below meth c s₁ B hml hv
  obtain ⟨rfl, hw, hK, hZ⟩ := hv
  have hS : va_S (Aq a) s.heap s.heap [] := va_S.rf
  have hl := lv_entry ([.ref (a + (33 + i0))]) (n := 1) (Nat.le_of_ble_eq_true rfl)
  rw [lg_entry_eq]
  generalize (lg_sl ([.ref (a + (33 + i0))]) ++ List.replicate (1 - (lg_sl ([.ref (a + (33 + i0))])).length) Slot.unset).toArray = ls at hl ⊢
  exact bX0_waiting_0 B.exec B.bytes B.returns hml (findClass_of_methodNamed B.named) (atoms_spec (ws := wsX0_waiting) B.pre) B.notSynchronized hK hZ _ _ _ _ _ hw hS hl hf
def rX1_tell : Room := { frames := 0, cells := 0, slots := 0, locals := 0 }
noncomputable def fX1_tell (i0 : Nat) (x1 : Int32) (x2 : Int32) (x3 : Int32) (x4 : Int32) (M : Mm) : Option (Mm) := (if i0 < 6 then some (si (si (si (si M (27 + i0) 1 x1) (27 + i0) 2 x2) (27 + i0) 3 x3) (27 + i0) 4 x4) else none)
set_option maxRecDepth 20000 in
theorem iX1_tell_X1 : ∀ w ∈ wsX10, w ∈ wsX1_tell := by decide +kernel
set_option maxRecDepth 20000 in
theorem kX1_tell_0 : Cond.fieldLink RX1 7 "BatchPipe$Product" "weight" "I" ∈ wsX1_tell := by decide +kernel
set_option maxRecDepth 20000 in
theorem kX1_tell_1 : Cond.fieldLink RX1 13 "BatchPipe$Product" "thickness" "I" ∈ wsX1_tell := by decide +kernel
set_option maxRecDepth 20000 in
theorem kX1_tell_2 : Cond.fieldLink RX1 19 "BatchPipe$Product" "grade" "I" ∈ wsX1_tell := by decide +kernel
set_option maxRecDepth 20000 in
theorem kX1_tell_3 : Cond.fieldLink RX1 22 "BatchPipe$Product" "barred" "I" ∈ wsX1_tell := by decide +kernel
set_option maxRecDepth 100000 in
set_option maxHeartbeats 4000000 in
theorem bX1_tell_0 {p : Program} {l : Launch} {e : Env} {s : State} {m : MethodId} {args : Array Value} {below : List Frame} {meth : Method} {c : Code} {D : va_G} {cy : Nat → ClassId} {a : Nat} (hx : p.tables.exec = Jvm.exec) (hb : c.code = cX1_tell) (hr : meth.sig.returnType = none) (hml : c.maxLocals = 5) (hown : s.vm.findClass RX1 = some m.cls) (hts : ∀ w ∈ wsX1_tell, w.before args s = true) (hlocks : meth.locks = false) (hK : KS D cy s) (hZ : ZZ a s s.heap) {out : Mm} : ∀ (i0 : Nat) (x1 : Int32) (x2 : Int32) (x3 : Int32) (x4 : Int32) (M : Mm) (H : Heap) (locs : List Loc) (ls : Array Slot), HP D cy a M H → va_S (Aq a) s.heap H locs → lv_has ls 5 [(0, .ref (a + (27 + i0))), (1, .int x1), (2, .int x2), (3, .int x3), (4, .int x4)] → fX1_tell i0 x1 x2 x3 x4 M = some out → W p l e rX1_tell s m args below meth c H locs 0 0 (MQ below (QV D cy a out) args s 0 0 (Aq a)) (F0 m 0 ls []) := by
  intro i0 x1 x2 x3 x4 M H locs ls hw hS hl hf
  unfold fX1_tell at hf
  refine lv_aload_n hx hb dX1_tell_0 rfl (lv_at hl 0 rfl) ?_
  refine lv_iload_n hx hb dX1_tell_1 rfl (lv_at hl 1 rfl) ?_
  obtain ⟨hi1, hf⟩ := og hf
  refine rPut hx hb hts iX1_tell_X1 tyX1 tyX1_ok nmX1 hown hK hw hS (kprod hi1) (en_prod hi1) rfl 1 (by decide) (hts _ kX1_tell_0) rfl rfl rfl rfl (Nat.le_of_ble_eq_true rfl) (by rw [en_prod hi1]; rfl) dX1_tell_2 (fun H locs hw hS => ?_)
  refine lv_aload_n hx hb dX1_tell_5 rfl (lv_at hl 0 rfl) ?_
  refine lv_iload_n hx hb dX1_tell_6 rfl (lv_at hl 2 rfl) ?_
  refine rPut hx hb hts iX1_tell_X1 tyX1 tyX1_ok nmX1 hown hK hw hS (kprod hi1) (en_prod hi1) rfl 2 (by decide) (hts _ kX1_tell_1) rfl rfl rfl rfl (Nat.le_of_ble_eq_true rfl) (by rw [en_prod hi1]; rfl) dX1_tell_7 (fun H locs hw hS => ?_)
  refine lv_aload_n hx hb dX1_tell_10 rfl (lv_at hl 0 rfl) ?_
  refine lv_iload_n hx hb dX1_tell_11 rfl (lv_at hl 3 rfl) ?_
  refine rPut hx hb hts iX1_tell_X1 tyX1 tyX1_ok nmX1 hown hK hw hS (kprod hi1) (en_prod hi1) rfl 3 (by decide) (hts _ kX1_tell_2) rfl rfl rfl rfl (Nat.le_of_ble_eq_true rfl) (by rw [en_prod hi1]; rfl) dX1_tell_12 (fun H locs hw hS => ?_)
  refine lv_aload_n hx hb dX1_tell_15 rfl (lv_at hl 0 rfl) ?_
  refine lv_iload hx hb dX1_tell_16 (lv_at hl 4 rfl) ?_
  refine rPut hx hb hts iX1_tell_X1 tyX1 tyX1_ok nmX1 hown hK hw hS (kprod hi1) (en_prod hi1) rfl 4 (by decide) (hts _ kX1_tell_3) rfl rfl rfl rfl (Nat.le_of_ble_eq_true rfl) (by rw [en_prod hi1]; rfl) dX1_tell_18 (fun H locs hw hS => ?_)
  obtain rfl := Option.some.inj hf
  exact rVret hx hb hr hlocks hw hS dX1_tell_21
set_option maxRecDepth 100000 in
set_option maxHeartbeats 4000000 in
theorem ctX1_tell {l : Launch} {D : va_G} {cy : Nat → ClassId} {a : Nat} {i0 : Nat} {x1 : Int32} {x2 : Int32} {x3 : Int32} {x4 : Int32} {M : Mm} {out : Mm} (hf : fX1_tell i0 x1 x2 x3 x4 M = some out) : Met l yX1_tell wsX1_tell rX1_tell (Pre D cy a M [.ref (a + (27 + i0)), .int x1, .int x2, .int x3, .int x4]) (QV D cy a out) 0 0 (Aq a) := by
  refine Met.ofW (cc := cX1_tell) (maxL := 5) (ret := none) (by decide +kernel) rfl ?_
  intro p e s m args below meth c s₁ B hml hv
  obtain ⟨rfl, hw, hK, hZ⟩ := hv
  have hS : va_S (Aq a) s.heap s.heap [] := va_S.rf
  have hl := lv_entry ([.ref (a + (27 + i0)), .int x1, .int x2, .int x3, .int x4]) (n := 5) (Nat.le_of_ble_eq_true rfl)
  rw [lg_entry_eq]
  generalize (lg_sl ([.ref (a + (27 + i0)), .int x1, .int x2, .int x3, .int x4]) ++ List.replicate (5 - (lg_sl ([.ref (a + (27 + i0)), .int x1, .int x2, .int x3, .int x4])).length) Slot.unset).toArray = ls at hl ⊢
  exact bX1_tell_0 B.exec B.bytes B.returns hml (findClass_of_methodNamed B.named) (atoms_spec (ws := wsX1_tell) B.pre) B.notSynchronized hK hZ _ _ _ _ _ _ _ _ _ hw hS hl hf
def rX1_bears : Room := { frames := 0, cells := 0, slots := 0, locals := 0 }
noncomputable def fX1_bears (i0 : Nat) (i1 : Nat) (M : Mm) : Option (Int32) := (if i0 < 6 then (if i1 < 6 then (if ((gi M (27 + i0) 4) &&& (ishl (1 : Int32) (gi M (27 + i1) 0))) = 0 then (if ((gi M (27 + i1) 4) &&& (ishl (1 : Int32) (gi M (27 + i0) 0))) = 0 then some ((1 : Int32)) else some ((0 : Int32))) else some ((0 : Int32))) else none) else none)
set_option maxRecDepth 20000 in
theorem iX1_bears_X1 : ∀ w ∈ wsX10, w ∈ wsX1_bears := by decide +kernel
set_option maxRecDepth 20000 in
theorem kX1_bears_0 : Cond.fieldLink RX1 22 "BatchPipe$Product" "barred" "I" ∈ wsX1_bears := by decide +kernel
set_option maxRecDepth 20000 in
theorem kX1_bears_1 : Cond.fieldLink RX1 16 "BatchPipe$Product" "number" "I" ∈ wsX1_bears := by decide +kernel
set_option maxRecDepth 100000 in
set_option maxHeartbeats 4000000 in
theorem bX1_bears_0 {p : Program} {l : Launch} {e : Env} {s : State} {m : MethodId} {args : Array Value} {below : List Frame} {meth : Method} {c : Code} {D : va_G} {cy : Nat → ClassId} {a : Nat} (hx : p.tables.exec = Jvm.exec) (hb : c.code = cX1_bears) (hr : meth.sig.returnType = (some .boolean)) (hml : c.maxLocals = 2) (hown : s.vm.findClass RX1 = some m.cls) (hts : ∀ w ∈ wsX1_bears, w.before args s = true) (hlocks : meth.locks = false) (hK : KS D cy s) (hZ : ZZ a s s.heap) {out : Int32} : ∀ (i0 : Nat) (i1 : Nat) (M : Mm) (H : Heap) (locs : List Loc) (ls : Array Slot), HP D cy a M H → va_S (Aq a) s.heap H locs → lv_has ls 2 [(0, .ref (a + (27 + i0))), (1, .ref (a + (27 + i1)))] → fX1_bears i0 i1 M = some out → W p l e rX1_bears s m args below meth c H locs 0 0 (MQ below (QB D cy a out M) args s 0 0 (Aq a)) (F0 m 0 ls []) := by
  intro i0 i1 M H locs ls hw hS hl hf
  unfold fX1_bears at hf
  refine lv_aload_n hx hb dX1_bears_0 rfl (lv_at hl 0 rfl) ?_
  obtain ⟨hi1, hf⟩ := og hf
  refine rGetI hx hb hts iX1_bears_X1 hown hK hw (kprod hi1) (en_prod hi1) rfl 4 (by decide) (hts _ kX1_bears_0) rfl rfl dX1_bears_1 ?_
  refine lv_iconst (v := (1 : Int32)) hx hb dX1_bears_4 (by decide) ?_
  refine lv_aload_n hx hb dX1_bears_5 rfl (lv_at hl 1 rfl) ?_
  obtain ⟨hi2, hf⟩ := og hf
  refine rGetI hx hb hts iX1_bears_X1 hown hK hw (kprod hi2) (en_prod hi2) rfl 0 (by decide) (hts _ kX1_bears_1) rfl rfl dX1_bears_6 ?_
  refine lv_ishl hx hb dX1_bears_9 ?_
  refine lv_iand hx hb dX1_bears_10 ?_
  refine lv_if_ne (tgt := 32) hx hb dX1_bears_11 (by decide) (fun c3 => ?_) (fun c3 => ?_)
  · have hf := iq c3 hf
    refine lv_iconst (v := (0 : Int32)) hx hb dX1_bears_32 (by decide) ?_
    obtain rfl := Option.some.inj hf
    exact rBret hx hb hr hlocks hw hS rfl dX1_bears_33
  · have hf := ip c3 hf
    refine lv_aload_n hx hb dX1_bears_14 rfl (lv_at hl 1 rfl) ?_
    refine rGetI hx hb hts iX1_bears_X1 hown hK hw (kprod hi2) (en_prod hi2) rfl 4 (by decide) (hts _ kX1_bears_0) rfl rfl dX1_bears_15 ?_
    refine lv_iconst (v := (1 : Int32)) hx hb dX1_bears_18 (by decide) ?_
    refine lv_aload_n hx hb dX1_bears_19 rfl (lv_at hl 0 rfl) ?_
    refine rGetI hx hb hts iX1_bears_X1 hown hK hw (kprod hi1) (en_prod hi1) rfl 0 (by decide) (hts _ kX1_bears_1) rfl rfl dX1_bears_20 ?_
    refine lv_ishl hx hb dX1_bears_23 ?_
    refine lv_iand hx hb dX1_bears_24 ?_
    refine lv_if_ne (tgt := 32) hx hb dX1_bears_25 (by decide) (fun c4 => ?_) (fun c4 => ?_)
    · have hf := iq c4 hf
      refine lv_iconst (v := (0 : Int32)) hx hb dX1_bears_32 (by decide) ?_
      obtain rfl := Option.some.inj hf
      exact rBret hx hb hr hlocks hw hS rfl dX1_bears_33
    · have hf := ip c4 hf
      refine lv_iconst (v := (1 : Int32)) hx hb dX1_bears_28 (by decide) ?_
      refine lv_goto (tgt := 33) hx hb dX1_bears_29 (by decide) ?_
      obtain rfl := Option.some.inj hf
      exact rBret hx hb hr hlocks hw hS rfl dX1_bears_33
set_option maxRecDepth 100000 in
set_option maxHeartbeats 4000000 in
theorem ctX1_bears {l : Launch} {D : va_G} {cy : Nat → ClassId} {a : Nat} {i0 : Nat} {i1 : Nat} {M : Mm} {out : Int32} (hf : fX1_bears i0 i1 M = some out) : Met l yX1_bears wsX1_bears rX1_bears (Pre D cy a M [.ref (a + (27 + i0)), .ref (a + (27 + i1))]) (QB D cy a out M) 0 0 (Aq a) := by
  refine Met.ofW (cc := cX1_bears) (maxL := 2) (ret := (some .boolean)) (by decide +kernel) rfl ?_
  intro p e s m args below meth c s₁ B hml hv
  obtain ⟨rfl, hw, hK, hZ⟩ := hv
  have hS : va_S (Aq a) s.heap s.heap [] := va_S.rf
  have hl := lv_entry ([.ref (a + (27 + i0)), .ref (a + (27 + i1))]) (n := 2) (Nat.le_of_ble_eq_true rfl)
  rw [lg_entry_eq]
  generalize (lg_sl ([.ref (a + (27 + i0)), .ref (a + (27 + i1))]) ++ List.replicate (2 - (lg_sl ([.ref (a + (27 + i0)), .ref (a + (27 + i1))])).length) Slot.unset).toArray = ls at hl ⊢
  exact bX1_bears_0 B.exec B.bytes B.returns hml (findClass_of_methodNamed B.named) (atoms_spec (ws := wsX1_bears) B.pre) B.notSynchronized hK hZ _ _ _ _ _ _ hw hS hl hf
def rX2_tell : Room := { frames := 0, cells := 0, slots := 0, locals := 0 }
noncomputable def fX2_tell (i0 : Nat) (x1 : Int32) (x2 : Int32) (x3 : Int32) (M : Mm) : Option (Mm) := (if i0 < 6 then some (si (si (si M (9 + 3 * i0) 3 x1) (9 + 3 * i0) 4 x2) (9 + 3 * i0) 5 x3) else none)
set_option maxRecDepth 20000 in
theorem iX2_tell_X2 : ∀ w ∈ wsX20, w ∈ wsX2_tell := by decide +kernel
set_option maxRecDepth 20000 in
theorem kX2_tell_0 : Cond.fieldLink RX2 18 "BatchPipe$Segment" "holds" "I" ∈ wsX2_tell := by decide +kernel
set_option maxRecDepth 20000 in
theorem kX2_tell_1 : Cond.fieldLink RX2 22 "BatchPipe$Segment" "height" "I" ∈ wsX2_tell := by decide +kernel
set_option maxRecDepth 20000 in
theorem kX2_tell_2 : Cond.fieldLink RX2 25 "BatchPipe$Segment" "limit" "I" ∈ wsX2_tell := by decide +kernel
set_option maxRecDepth 100000 in
set_option maxHeartbeats 4000000 in
theorem bX2_tell_0 {p : Program} {l : Launch} {e : Env} {s : State} {m : MethodId} {args : Array Value} {below : List Frame} {meth : Method} {c : Code} {D : va_G} {cy : Nat → ClassId} {a : Nat} (hx : p.tables.exec = Jvm.exec) (hb : c.code = cX2_tell) (hr : meth.sig.returnType = none) (hml : c.maxLocals = 4) (hown : s.vm.findClass RX2 = some m.cls) (hts : ∀ w ∈ wsX2_tell, w.before args s = true) (hlocks : meth.locks = false) (hK : KS D cy s) (hZ : ZZ a s s.heap) {out : Mm} : ∀ (i0 : Nat) (x1 : Int32) (x2 : Int32) (x3 : Int32) (M : Mm) (H : Heap) (locs : List Loc) (ls : Array Slot), HP D cy a M H → va_S (Aq a) s.heap H locs → lv_has ls 4 [(0, .ref (a + (9 + 3 * i0))), (1, .int x1), (2, .int x2), (3, .int x3)] → fX2_tell i0 x1 x2 x3 M = some out → W p l e rX2_tell s m args below meth c H locs 0 0 (MQ below (QV D cy a out) args s 0 0 (Aq a)) (F0 m 0 ls []) := by
  intro i0 x1 x2 x3 M H locs ls hw hS hl hf
  unfold fX2_tell at hf
  refine lv_aload_n hx hb dX2_tell_0 rfl (lv_at hl 0 rfl) ?_
  refine lv_iload_n hx hb dX2_tell_1 rfl (lv_at hl 1 rfl) ?_
  obtain ⟨hi1, hf⟩ := og hf
  refine rPut hx hb hts iX2_tell_X2 tyX2 tyX2_ok nmX2 hown hK hw hS (kseg hi1) (en_seg hi1) rfl 3 (by decide) (hts _ kX2_tell_0) rfl rfl rfl rfl (Nat.le_of_ble_eq_true rfl) (by rw [en_seg hi1]; rfl) dX2_tell_2 (fun H locs hw hS => ?_)
  refine lv_aload_n hx hb dX2_tell_5 rfl (lv_at hl 0 rfl) ?_
  refine lv_iload_n hx hb dX2_tell_6 rfl (lv_at hl 2 rfl) ?_
  refine rPut hx hb hts iX2_tell_X2 tyX2 tyX2_ok nmX2 hown hK hw hS (kseg hi1) (en_seg hi1) rfl 4 (by decide) (hts _ kX2_tell_1) rfl rfl rfl rfl (Nat.le_of_ble_eq_true rfl) (by rw [en_seg hi1]; rfl) dX2_tell_7 (fun H locs hw hS => ?_)
  refine lv_aload_n hx hb dX2_tell_10 rfl (lv_at hl 0 rfl) ?_
  refine lv_iload_n hx hb dX2_tell_11 rfl (lv_at hl 3 rfl) ?_
  refine rPut hx hb hts iX2_tell_X2 tyX2 tyX2_ok nmX2 hown hK hw hS (kseg hi1) (en_seg hi1) rfl 5 (by decide) (hts _ kX2_tell_2) rfl rfl rfl rfl (Nat.le_of_ble_eq_true rfl) (by rw [en_seg hi1]; rfl) dX2_tell_12 (fun H locs hw hS => ?_)
  obtain rfl := Option.some.inj hf
  exact rVret hx hb hr hlocks hw hS dX2_tell_15
set_option maxRecDepth 100000 in
set_option maxHeartbeats 4000000 in
theorem ctX2_tell {l : Launch} {D : va_G} {cy : Nat → ClassId} {a : Nat} {i0 : Nat} {x1 : Int32} {x2 : Int32} {x3 : Int32} {M : Mm} {out : Mm} (hf : fX2_tell i0 x1 x2 x3 M = some out) : Met l yX2_tell wsX2_tell rX2_tell (Pre D cy a M [.ref (a + (9 + 3 * i0)), .int x1, .int x2, .int x3]) (QV D cy a out) 0 0 (Aq a) := by
  refine Met.ofW (cc := cX2_tell) (maxL := 4) (ret := none) (by decide +kernel) rfl ?_
  intro p e s m args below meth c s₁ B hml hv
  obtain ⟨rfl, hw, hK, hZ⟩ := hv
  have hS : va_S (Aq a) s.heap s.heap [] := va_S.rf
  have hl := lv_entry ([.ref (a + (9 + 3 * i0)), .int x1, .int x2, .int x3]) (n := 4) (Nat.le_of_ble_eq_true rfl)
  rw [lg_entry_eq]
  generalize (lg_sl ([.ref (a + (9 + 3 * i0)), .int x1, .int x2, .int x3]) ++ List.replicate (4 - (lg_sl ([.ref (a + (9 + 3 * i0)), .int x1, .int x2, .int x3])).length) Slot.unset).toArray = ls at hl ⊢
  exact bX2_tell_0 B.exec B.bytes B.returns hml (findClass_of_methodNamed B.named) (atoms_spec (ws := wsX2_tell) B.pre) B.notSynchronized hK hZ _ _ _ _ _ _ _ _ hw hS hl hf
def rX2_fill : Room := { frames := 0, cells := 0, slots := 0, locals := 0 }
noncomputable def fX2_fill_L2 : Nat → Nat → Int32 → Int32 → Int32 → Mm → Option (Mm)
  | 0 => fun _ _ _ _ _ => none
  | n + 1 => fun i0 x1 x2 x3 M => (if i0 < 6 then (if (gi M (9 + 3 * i0) 3) ≤ x3 then (if ¬ (x2 < 0 ∨ 6 ≤ x2.toNatClampNeg) then some (si M (11 + 3 * i0) x2.toNatClampNeg (gi M (9 + 3 * i0) 3)) else none) else (if ¬ (x3 < 0 ∨ 60 ≤ x3.toNatClampNeg) then (fX2_fill_L2 n) i0 x1 x2 (x3 + (1 : Int32)) (si M (10 + 3 * i0) x3.toNatClampNeg (x1 + x3)) else none)) else none)
noncomputable def fX2_fill (i0 : Nat) (x1 : Int32) (x2 : Int32) (M : Mm) : Option (Mm) := fX2_fill_L2 1000 i0 x1 x2 (0 : Int32) M
set_option maxRecDepth 20000 in
theorem iX2_fill_X2 : ∀ w ∈ wsX20, w ∈ wsX2_fill := by decide +kernel
set_option maxRecDepth 20000 in
theorem kX2_fill_0 : Cond.fieldLink RX2 18 "BatchPipe$Segment" "holds" "I" ∈ wsX2_fill := by decide +kernel
set_option maxRecDepth 20000 in
theorem kX2_fill_1 : Cond.fieldLink RX2 15 "BatchPipe$Segment" "unitsOf" "[I" ∈ wsX2_fill := by decide +kernel
set_option maxRecDepth 20000 in
theorem kX2_fill_2 : Cond.fieldLink RX2 9 "BatchPipe$Segment" "ring" "[I" ∈ wsX2_fill := by decide +kernel
set_option maxRecDepth 100000 in
set_option maxHeartbeats 4000000 in
theorem bX2_fill_2 {p : Program} {l : Launch} {e : Env} {s : State} {m : MethodId} {args : Array Value} {below : List Frame} {meth : Method} {c : Code} {D : va_G} {cy : Nat → ClassId} {a : Nat} (hx : p.tables.exec = Jvm.exec) (hb : c.code = cX2_fill) (hr : meth.sig.returnType = none) (hml : c.maxLocals = 4) (hown : s.vm.findClass RX2 = some m.cls) (hts : ∀ w ∈ wsX2_fill, w.before args s = true) (hlocks : meth.locks = false) (hK : KS D cy s) (hZ : ZZ a s s.heap) {out : Mm} : ∀ (n : Nat), ∀ (i0 : Nat) (x1 : Int32) (x2 : Int32) (x3 : Int32) (M : Mm) (H : Heap) (locs : List Loc) (ls : Array Slot), HP D cy a M H → va_S (Aq a) s.heap H locs → lv_has ls 4 [(0, .ref (a + (9 + 3 * i0))), (1, .int x1), (2, .int x2), (3, .int x3)] → fX2_fill_L2 n i0 x1 x2 x3 M = some out → W p l e rX2_fill s m args below meth c H locs 0 0 (MQ below (QV D cy a out) args s 0 0 (Aq a)) (F0 m 2 ls []) := by
  intro n
  induction n with
  | zero =>
    intro i0 x1 x2 x3 M H locs ls hw hS hl hf
    have hf : (none : Option (Mm)) = some out := hf
    cases hf
  | succ n ih =>
    intro i0 x1 x2 x3 M H locs ls hw hS hl hf
    unfold fX2_fill_L2 at hf
    refine lv_iload_n hx hb dX2_fill_2 rfl (lv_at hl 3 rfl) ?_
    refine lv_aload_n hx hb dX2_fill_3 rfl (lv_at hl 0 rfl) ?_
    obtain ⟨hi1, hf⟩ := og hf
    refine rGetI hx hb hts iX2_fill_X2 hown hK hw (kseg hi1) (en_seg hi1) rfl 3 (by decide) (hts _ kX2_fill_0) rfl rfl dX2_fill_4 ?_
    refine lv_icmp_ge (tgt := 25) hx hb dX2_fill_7 (by decide) (fun c2 => ?_) (fun c2 => ?_)
    · have hf := ip c2 hf
      refine lv_aload_n hx hb dX2_fill_25 rfl (lv_at hl 0 rfl) ?_
      refine rGet hx hb hts iX2_fill_X2 hown hK hw (kseg hi1) (en_seg hi1) rfl 1 (by decide) (hts _ kX2_fill_1) rfl rfl dX2_fill_26 ?_
      refine lv_iload_n hx hb dX2_fill_29 rfl (lv_at hl 2 rfl) ?_
      refine lv_aload_n hx hb dX2_fill_30 rfl (lv_at hl 0 rfl) ?_
      refine rGetI hx hb hts iX2_fill_X2 hown hK hw (kseg hi1) (en_seg hi1) rfl 3 (by decide) (hts _ kX2_fill_0) rfl rfl dX2_fill_31 ?_
      obtain ⟨hg3, hf⟩ := og hf
      refine rIast hx hb hK hw hS (kuof hi1) (fun _ => (en_uof hi1)) hg3 dX2_fill_34 (fun H locs hw hS => ?_)
      obtain rfl := Option.some.inj hf
      exact rVret hx hb hr hlocks hw hS dX2_fill_35
    · have hf := iq c2 hf
      refine lv_aload_n hx hb dX2_fill_10 rfl (lv_at hl 0 rfl) ?_
      refine rGet hx hb hts iX2_fill_X2 hown hK hw (kseg hi1) (en_seg hi1) rfl 0 (by decide) (hts _ kX2_fill_2) rfl rfl dX2_fill_11 ?_
      refine lv_iload_n hx hb dX2_fill_14 rfl (lv_at hl 3 rfl) ?_
      refine lv_iload_n hx hb dX2_fill_15 rfl (lv_at hl 1 rfl) ?_
      refine lv_iload_n hx hb dX2_fill_16 rfl (lv_at hl 3 rfl) ?_
      refine lv_iadd hx hb dX2_fill_17 ?_
      obtain ⟨hg4, hf⟩ := og hf
      refine rIast hx hb hK hw hS (kring hi1) (fun _ => (en_ring hi1)) hg4 dX2_fill_18 (fun H locs hw hS => ?_)
      refine lv_iinc (v := x3 + (1 : Int32)) (lv' := [(3, .int (x3 + (1 : Int32))), (0, .ref (a + (9 + 3 * i0))), (1, .int x1), (2, .int x2)]) hx hb dX2_fill_19 hl (k := 3) rfl rfl (Nat.le_of_ble_eq_true rfl) rfl (fun ls hl => ?_)
      refine lv_goto (tgt := 2) hx hb dX2_fill_22 (by decide) ?_
      exact ih _ _ _ _ _ _ _ _ hw hS (lv_sub hl [1, 2, 3, 0] rfl) hf
set_option maxRecDepth 100000 in
set_option maxHeartbeats 4000000 in
theorem bX2_fill_0 {p : Program} {l : Launch} {e : Env} {s : State} {m : MethodId} {args : Array Value} {below : List Frame} {meth : Method} {c : Code} {D : va_G} {cy : Nat → ClassId} {a : Nat} (hx : p.tables.exec = Jvm.exec) (hb : c.code = cX2_fill) (hr : meth.sig.returnType = none) (hml : c.maxLocals = 4) (hown : s.vm.findClass RX2 = some m.cls) (hts : ∀ w ∈ wsX2_fill, w.before args s = true) (hlocks : meth.locks = false) (hK : KS D cy s) (hZ : ZZ a s s.heap) {out : Mm} : ∀ (i0 : Nat) (x1 : Int32) (x2 : Int32) (M : Mm) (H : Heap) (locs : List Loc) (ls : Array Slot), HP D cy a M H → va_S (Aq a) s.heap H locs → lv_has ls 4 [(0, .ref (a + (9 + 3 * i0))), (1, .int x1), (2, .int x2)] → fX2_fill i0 x1 x2 M = some out → W p l e rX2_fill s m args below meth c H locs 0 0 (MQ below (QV D cy a out) args s 0 0 (Aq a)) (F0 m 0 ls []) := by
  intro i0 x1 x2 M H locs ls hw hS hl hf
  unfold fX2_fill at hf
  refine lv_iconst (v := (0 : Int32)) hx hb dX2_fill_0 (by decide) ?_
  refine lv_istore_n (lv' := [(3, .int (0 : Int32)), (0, .ref (a + (9 + 3 * i0))), (1, .int x1), (2, .int x2)]) hx hb dX2_fill_1 rfl hl (Nat.le_of_ble_eq_true rfl) rfl (fun ls hl => ?_)
  exact bX2_fill_2 hx hb hr hml hown hts hlocks hK hZ 1000 _ _ _ _ _ _ _ _ hw hS (lv_sub hl [1, 2, 3, 0] rfl) hf
set_option maxRecDepth 100000 in
set_option maxHeartbeats 4000000 in
theorem ctX2_fill {l : Launch} {D : va_G} {cy : Nat → ClassId} {a : Nat} {i0 : Nat} {x1 : Int32} {x2 : Int32} {M : Mm} {out : Mm} (hf : fX2_fill i0 x1 x2 M = some out) : Met l yX2_fill wsX2_fill rX2_fill (Pre D cy a M [.ref (a + (9 + 3 * i0)), .int x1, .int x2]) (QV D cy a out) 0 0 (Aq a) := by
  refine Met.ofW (cc := cX2_fill) (maxL := 4) (ret := none) (by decide +kernel) rfl ?_
  intro p e s m args below meth c s₁ B hml hv
  obtain ⟨rfl, hw, hK, hZ⟩ := hv
  have hS : va_S (Aq a) s.heap s.heap [] := va_S.rf
  have hl := lv_entry ([.ref (a + (9 + 3 * i0)), .int x1, .int x2]) (n := 4) (Nat.le_of_ble_eq_true rfl)
  rw [lg_entry_eq]
  generalize (lg_sl ([.ref (a + (9 + 3 * i0)), .int x1, .int x2]) ++ List.replicate (4 - (lg_sl ([.ref (a + (9 + 3 * i0)), .int x1, .int x2])).length) Slot.unset).toArray = ls at hl ⊢
  exact bX2_fill_0 B.exec B.bytes B.returns hml (findClass_of_methodNamed B.named) (atoms_spec (ws := wsX2_fill) B.pre) B.notSynchronized hK hZ _ _ _ _ _ _ _ hw hS hl hf
def rX2_fromEnd : Room := { frames := 0, cells := 0, slots := 0, locals := 0 }
noncomputable def fX2_fromEnd_b22 (i0 : Nat) (x2 : Int32) (M : Mm) : Option (Int32) := (if x2 < 0 then some ((0 : Int32)) else (if i0 < 6 then (if (gi M (9 + 3 * i0) 3) ≤ x2 then some ((0 : Int32)) else (if ¬ (x2 < 0 ∨ 60 ≤ x2.toNatClampNeg) then some (gi M (10 + 3 * i0) x2.toNatClampNeg) else none)) else none))
noncomputable def fX2_fromEnd (i0 : Nat) (x1 : Int32) (M : Mm) : Option (Int32) := (if i0 < 6 then (if ((gi M (9 + 3 * i0) 2) + x1) < (gi M (9 + 3 * i0) 3) then fX2_fromEnd_b22 i0 ((gi M (9 + 3 * i0) 2) + x1) M else fX2_fromEnd_b22 i0 (((gi M (9 + 3 * i0) 2) + x1) - (gi M (9 + 3 * i0) 3)) M) else none)
set_option maxRecDepth 20000 in
theorem iX2_fromEnd_X2 : ∀ w ∈ wsX20, w ∈ wsX2_fromEnd := by decide +kernel
set_option maxRecDepth 20000 in
theorem kX2_fromEnd_0 : Cond.fieldLink RX2 18 "BatchPipe$Segment" "holds" "I" ∈ wsX2_fromEnd := by decide +kernel
set_option maxRecDepth 20000 in
theorem kX2_fromEnd_1 : Cond.fieldLink RX2 9 "BatchPipe$Segment" "ring" "[I" ∈ wsX2_fromEnd := by decide +kernel
set_option maxRecDepth 20000 in
theorem kX2_fromEnd_2 : Cond.fieldLink RX2 28 "BatchPipe$Segment" "last" "I" ∈ wsX2_fromEnd := by decide +kernel
set_option maxRecDepth 100000 in
set_option maxHeartbeats 4000000 in
theorem bX2_fromEnd_22 {p : Program} {l : Launch} {e : Env} {s : State} {m : MethodId} {args : Array Value} {below : List Frame} {meth : Method} {c : Code} {D : va_G} {cy : Nat → ClassId} {a : Nat} (hx : p.tables.exec = Jvm.exec) (hb : c.code = cX2_fromEnd) (hr : meth.sig.returnType = (some .int)) (hml : c.maxLocals = 3) (hown : s.vm.findClass RX2 = some m.cls) (hts : ∀ w ∈ wsX2_fromEnd, w.before args s = true) (hlocks : meth.locks = false) (hK : KS D cy s) (hZ : ZZ a s s.heap) {out : Int32} : ∀ (i0 : Nat) (x2 : Int32) (M : Mm) (H : Heap) (locs : List Loc) (ls : Array Slot), HP D cy a M H → va_S (Aq a) s.heap H locs → lv_has ls 3 [(0, .ref (a + (9 + 3 * i0))), (2, .int x2)] → fX2_fromEnd_b22 i0 x2 M = some out → W p l e rX2_fromEnd s m args below meth c H locs 0 0 (MQ below (QI D cy a out M) args s 0 0 (Aq a)) (F0 m 22 ls []) := by
  intro i0 x2 M H locs ls hw hS hl hf
  unfold fX2_fromEnd_b22 at hf
  refine lv_iload_n hx hb dX2_fromEnd_22 rfl (lv_at hl 1 rfl) ?_
  refine lv_if_lt (tgt := 43) hx hb dX2_fromEnd_23 (by decide) (fun c1 => ?_) (fun c1 => ?_)
  · have hf := ip c1 hf
    refine lv_iconst (v := (0 : Int32)) hx hb dX2_fromEnd_43 (by decide) ?_
    obtain rfl := Option.some.inj hf
    exact rIret hx hb hr hlocks hw hS dX2_fromEnd_44
  · have hf := iq c1 hf
    refine lv_iload_n hx hb dX2_fromEnd_26 rfl (lv_at hl 1 rfl) ?_
    refine lv_aload_n hx hb dX2_fromEnd_27 rfl (lv_at hl 0 rfl) ?_
    obtain ⟨hi2, hf⟩ := og hf
    refine rGetI hx hb hts iX2_fromEnd_X2 hown hK hw (kseg hi2) (en_seg hi2) rfl 3 (by decide) (hts _ kX2_fromEnd_0) rfl rfl dX2_fromEnd_28 ?_
    refine lv_icmp_ge (tgt := 43) hx hb dX2_fromEnd_31 (by decide) (fun c3 => ?_) (fun c3 => ?_)
    · have hf := ip c3 hf
      refine lv_iconst (v := (0 : Int32)) hx hb dX2_fromEnd_43 (by decide) ?_
      obtain rfl := Option.some.inj hf
      exact rIret hx hb hr hlocks hw hS dX2_fromEnd_44
    · have hf := iq c3 hf
      refine lv_aload_n hx hb dX2_fromEnd_34 rfl (lv_at hl 0 rfl) ?_
      refine rGet hx hb hts iX2_fromEnd_X2 hown hK hw (kseg hi2) (en_seg hi2) rfl 0 (by decide) (hts _ kX2_fromEnd_1) rfl rfl dX2_fromEnd_35 ?_
      refine lv_iload_n hx hb dX2_fromEnd_38 rfl (lv_at hl 1 rfl) ?_
      obtain ⟨hg4, hf⟩ := og hf
      refine rIald hx hb hK hw (kring hi2) (en_ring hi2) hg4 dX2_fromEnd_39 ?_
      refine lv_goto (tgt := 44) hx hb dX2_fromEnd_40 (by decide) ?_
      obtain rfl := Option.some.inj hf
      exact rIret hx hb hr hlocks hw hS dX2_fromEnd_44
set_option maxRecDepth 100000 in
set_option maxHeartbeats 4000000 in
theorem bX2_fromEnd_0 {p : Program} {l : Launch} {e : Env} {s : State} {m : MethodId} {args : Array Value} {below : List Frame} {meth : Method} {c : Code} {D : va_G} {cy : Nat → ClassId} {a : Nat} (hx : p.tables.exec = Jvm.exec) (hb : c.code = cX2_fromEnd) (hr : meth.sig.returnType = (some .int)) (hml : c.maxLocals = 3) (hown : s.vm.findClass RX2 = some m.cls) (hts : ∀ w ∈ wsX2_fromEnd, w.before args s = true) (hlocks : meth.locks = false) (hK : KS D cy s) (hZ : ZZ a s s.heap) {out : Int32} : ∀ (i0 : Nat) (x1 : Int32) (M : Mm) (H : Heap) (locs : List Loc) (ls : Array Slot), HP D cy a M H → va_S (Aq a) s.heap H locs → lv_has ls 3 [(0, .ref (a + (9 + 3 * i0))), (1, .int x1)] → fX2_fromEnd i0 x1 M = some out → W p l e rX2_fromEnd s m args below meth c H locs 0 0 (MQ below (QI D cy a out M) args s 0 0 (Aq a)) (F0 m 0 ls []) := by
  intro i0 x1 M H locs ls hw hS hl hf
  unfold fX2_fromEnd at hf
  refine lv_aload_n hx hb dX2_fromEnd_0 rfl (lv_at hl 0 rfl) ?_
  obtain ⟨hi1, hf⟩ := og hf
  refine rGetI hx hb hts iX2_fromEnd_X2 hown hK hw (kseg hi1) (en_seg hi1) rfl 2 (by decide) (hts _ kX2_fromEnd_2) rfl rfl dX2_fromEnd_1 ?_
  refine lv_iload_n hx hb dX2_fromEnd_4 rfl (lv_at hl 1 rfl) ?_
  refine lv_iadd hx hb dX2_fromEnd_5 ?_
  refine lv_istore_n (lv' := [(2, .int ((gi M (9 + 3 * i0) 2) + x1)), (0, .ref (a + (9 + 3 * i0))), (1, .int x1)]) hx hb dX2_fromEnd_6 rfl hl (Nat.le_of_ble_eq_true rfl) rfl (fun ls hl => ?_)
  refine lv_iload_n hx hb dX2_fromEnd_7 rfl (lv_at hl 0 rfl) ?_
  refine lv_aload_n hx hb dX2_fromEnd_8 rfl (lv_at hl 1 rfl) ?_
  refine rGetI hx hb hts iX2_fromEnd_X2 hown hK hw (kseg hi1) (en_seg hi1) rfl 3 (by decide) (hts _ kX2_fromEnd_0) rfl rfl dX2_fromEnd_9 ?_
  refine lv_icmp_lt (tgt := 22) hx hb dX2_fromEnd_12 (by decide) (fun c2 => ?_) (fun c2 => ?_)
  · have hf := ip c2 hf
    exact bX2_fromEnd_22 hx hb hr hml hown hts hlocks hK hZ _ _ _ _ _ _ hw hS (lv_sub hl [1, 0] rfl) hf
  · have hf := iq c2 hf
    refine lv_iload_n hx hb dX2_fromEnd_15 rfl (lv_at hl 0 rfl) ?_
    refine lv_aload_n hx hb dX2_fromEnd_16 rfl (lv_at hl 1 rfl) ?_
    refine rGetI hx hb hts iX2_fromEnd_X2 hown hK hw (kseg hi1) (en_seg hi1) rfl 3 (by decide) (hts _ kX2_fromEnd_0) rfl rfl dX2_fromEnd_17 ?_
    refine lv_isub hx hb dX2_fromEnd_20 ?_
    refine lv_istore_n (lv' := [(2, .int (((gi M (9 + 3 * i0) 2) + x1) - (gi M (9 + 3 * i0) 3))), (0, .ref (a + (9 + 3 * i0))), (1, .int x1)]) hx hb dX2_fromEnd_21 rfl hl (Nat.le_of_ble_eq_true rfl) rfl (fun ls hl => ?_)
    exact bX2_fromEnd_22 hx hb hr hml hown hts hlocks hK hZ _ _ _ _ _ _ hw hS (lv_sub hl [1, 0] rfl) hf
set_option maxRecDepth 100000 in
set_option maxHeartbeats 4000000 in
theorem ctX2_fromEnd {l : Launch} {D : va_G} {cy : Nat → ClassId} {a : Nat} {i0 : Nat} {x1 : Int32} {M : Mm} {out : Int32} (hf : fX2_fromEnd i0 x1 M = some out) : Met l yX2_fromEnd wsX2_fromEnd rX2_fromEnd (Pre D cy a M [.ref (a + (9 + 3 * i0)), .int x1]) (QI D cy a out M) 0 0 (Aq a) := by
  refine Met.ofW (cc := cX2_fromEnd) (maxL := 3) (ret := (some .int)) (by decide +kernel) rfl ?_
  intro p e s m args below meth c s₁ B hml hv
  obtain ⟨rfl, hw, hK, hZ⟩ := hv
  have hS : va_S (Aq a) s.heap s.heap [] := va_S.rf
  have hl := lv_entry ([.ref (a + (9 + 3 * i0)), .int x1]) (n := 3) (Nat.le_of_ble_eq_true rfl)
  rw [lg_entry_eq]
  generalize (lg_sl ([.ref (a + (9 + 3 * i0)), .int x1]) ++ List.replicate (3 - (lg_sl ([.ref (a + (9 + 3 * i0)), .int x1])).length) Slot.unset).toArray = ls at hl ⊢
  exact bX2_fromEnd_0 B.exec B.bytes B.returns hml (findClass_of_methodNamed B.named) (atoms_spec (ws := wsX2_fromEnd) B.pre) B.notSynchronized hK hZ _ _ _ _ _ _ hw hS hl hf
def rX2_moveOn : Room := { frames := 0, cells := 0, slots := 0, locals := 0 }
noncomputable def fX2_moveOn (i0 : Nat) (x1 : Int32) (M : Mm) : Option (Mm) := (if i0 < 6 then (if ¬ ((gi M (9 + 3 * i0) 2) < 0 ∨ 60 ≤ (gi M (9 + 3 * i0) 2).toNatClampNeg) then (if (gi (si M (10 + 3 * i0) (gi M (9 + 3 * i0) 2).toNatClampNeg x1) (9 + 3 * i0) 3) ≤ ((gi (si M (10 + 3 * i0) (gi M (9 + 3 * i0) 2).toNatClampNeg x1) (9 + 3 * i0) 2) + (1 : Int32)) then some (si (si M (10 + 3 * i0) (gi M (9 + 3 * i0) 2).toNatClampNeg x1) (9 + 3 * i0) 2 (0 : Int32)) else some (si (si M (10 + 3 * i0) (gi M (9 + 3 * i0) 2).toNatClampNeg x1) (9 + 3 * i0) 2 ((gi (si M (10 + 3 * i0) (gi M (9 + 3 * i0) 2).toNatClampNeg x1) (9 + 3 * i0) 2) + (1 : Int32)))) else none) else none)
set_option maxRecDepth 20000 in
theorem iX2_moveOn_X2 : ∀ w ∈ wsX20, w ∈ wsX2_moveOn := by decide +kernel
set_option maxRecDepth 20000 in
theorem kX2_moveOn_0 : Cond.fieldLink RX2 9 "BatchPipe$Segment" "ring" "[I" ∈ wsX2_moveOn := by decide +kernel
set_option maxRecDepth 20000 in
theorem kX2_moveOn_1 : Cond.fieldLink RX2 28 "BatchPipe$Segment" "last" "I" ∈ wsX2_moveOn := by decide +kernel
set_option maxRecDepth 20000 in
theorem kX2_moveOn_2 : Cond.fieldLink RX2 18 "BatchPipe$Segment" "holds" "I" ∈ wsX2_moveOn := by decide +kernel
set_option maxRecDepth 100000 in
set_option maxHeartbeats 4000000 in
theorem bX2_moveOn_0 {p : Program} {l : Launch} {e : Env} {s : State} {m : MethodId} {args : Array Value} {below : List Frame} {meth : Method} {c : Code} {D : va_G} {cy : Nat → ClassId} {a : Nat} (hx : p.tables.exec = Jvm.exec) (hb : c.code = cX2_moveOn) (hr : meth.sig.returnType = none) (hml : c.maxLocals = 2) (hown : s.vm.findClass RX2 = some m.cls) (hts : ∀ w ∈ wsX2_moveOn, w.before args s = true) (hlocks : meth.locks = false) (hK : KS D cy s) (hZ : ZZ a s s.heap) {out : Mm} : ∀ (i0 : Nat) (x1 : Int32) (M : Mm) (H : Heap) (locs : List Loc) (ls : Array Slot), HP D cy a M H → va_S (Aq a) s.heap H locs → lv_has ls 2 [(0, .ref (a + (9 + 3 * i0))), (1, .int x1)] → fX2_moveOn i0 x1 M = some out → W p l e rX2_moveOn s m args below meth c H locs 0 0 (MQ below (QV D cy a out) args s 0 0 (Aq a)) (F0 m 0 ls []) := by
  intro i0 x1 M H locs ls hw hS hl hf
  unfold fX2_moveOn at hf
  refine lv_aload_n hx hb dX2_moveOn_0 rfl (lv_at hl 0 rfl) ?_
  obtain ⟨hi1, hf⟩ := og hf
  refine rGet hx hb hts iX2_moveOn_X2 hown hK hw (kseg hi1) (en_seg hi1) rfl 0 (by decide) (hts _ kX2_moveOn_0) rfl rfl dX2_moveOn_1 ?_
  refine lv_aload_n hx hb dX2_moveOn_4 rfl (lv_at hl 0 rfl) ?_
  refine rGetI hx hb hts iX2_moveOn_X2 hown hK hw (kseg hi1) (en_seg hi1) rfl 2 (by decide) (hts _ kX2_moveOn_1) rfl rfl dX2_moveOn_5 ?_
  refine lv_iload_n hx hb dX2_moveOn_8 rfl (lv_at hl 1 rfl) ?_
  obtain ⟨hg2, hf⟩ := og hf
  refine rIast hx hb hK hw hS (kring hi1) (fun _ => (en_ring hi1)) hg2 dX2_moveOn_9 (fun H locs hw hS => ?_)
  refine lv_aload_n hx hb dX2_moveOn_10 rfl (lv_at hl 0 rfl) ?_
  refine lv_aload_n hx hb dX2_moveOn_11 rfl (lv_at hl 0 rfl) ?_
  refine rGetI hx hb hts iX2_moveOn_X2 hown hK hw (kseg hi1) (en_seg hi1) rfl 2 (by decide) (hts _ kX2_moveOn_1) rfl rfl dX2_moveOn_12 ?_
  refine lv_iconst (v := (1 : Int32)) hx hb dX2_moveOn_15 (by decide) ?_
  refine lv_iadd hx hb dX2_moveOn_16 ?_
  refine lv_aload_n hx hb dX2_moveOn_17 rfl (lv_at hl 0 rfl) ?_
  refine rGetI hx hb hts iX2_moveOn_X2 hown hK hw (kseg hi1) (en_seg hi1) rfl 3 (by decide) (hts _ kX2_moveOn_2) rfl rfl dX2_moveOn_18 ?_
  refine lv_icmp_ge (tgt := 33) hx hb dX2_moveOn_21 (by decide) (fun c3 => ?_) (fun c3 => ?_)
  · have hf := ip c3 hf
    refine lv_iconst (v := (0 : Int32)) hx hb dX2_moveOn_33 (by decide) ?_
    refine rPut hx hb hts iX2_moveOn_X2 tyX2 tyX2_ok nmX2 hown hK hw hS (kseg hi1) (en_seg hi1) rfl 2 (by decide) (hts _ kX2_moveOn_1) rfl rfl rfl rfl (Nat.le_of_ble_eq_true rfl) (by rw [en_seg hi1]; rfl) dX2_moveOn_34 (fun H locs hw hS => ?_)
    obtain rfl := Option.some.inj hf
    exact rVret hx hb hr hlocks hw hS dX2_moveOn_37
  · have hf := iq c3 hf
    refine lv_aload_n hx hb dX2_moveOn_24 rfl (lv_at hl 0 rfl) ?_
    refine rGetI hx hb hts iX2_moveOn_X2 hown hK hw (kseg hi1) (en_seg hi1) rfl 2 (by decide) (hts _ kX2_moveOn_1) rfl rfl dX2_moveOn_25 ?_
    refine lv_iconst (v := (1 : Int32)) hx hb dX2_moveOn_28 (by decide) ?_
    refine lv_iadd hx hb dX2_moveOn_29 ?_
    refine lv_goto (tgt := 34) hx hb dX2_moveOn_30 (by decide) ?_
    refine rPut hx hb hts iX2_moveOn_X2 tyX2 tyX2_ok nmX2 hown hK hw hS (kseg hi1) (en_seg hi1) rfl 2 (by decide) (hts _ kX2_moveOn_1) rfl rfl rfl rfl (Nat.le_of_ble_eq_true rfl) (by rw [en_seg hi1]; rfl) dX2_moveOn_34 (fun H locs hw hS => ?_)
    obtain rfl := Option.some.inj hf
    exact rVret hx hb hr hlocks hw hS dX2_moveOn_37
set_option maxRecDepth 100000 in
set_option maxHeartbeats 4000000 in
theorem ctX2_moveOn {l : Launch} {D : va_G} {cy : Nat → ClassId} {a : Nat} {i0 : Nat} {x1 : Int32} {M : Mm} {out : Mm} (hf : fX2_moveOn i0 x1 M = some out) : Met l yX2_moveOn wsX2_moveOn rX2_moveOn (Pre D cy a M [.ref (a + (9 + 3 * i0)), .int x1]) (QV D cy a out) 0 0 (Aq a) := by
  refine Met.ofW (cc := cX2_moveOn) (maxL := 2) (ret := none) (by decide +kernel) rfl ?_
  intro p e s m args below meth c s₁ B hml hv
  obtain ⟨rfl, hw, hK, hZ⟩ := hv
  have hS : va_S (Aq a) s.heap s.heap [] := va_S.rf
  have hl := lv_entry ([.ref (a + (9 + 3 * i0)), .int x1]) (n := 2) (Nat.le_of_ble_eq_true rfl)
  rw [lg_entry_eq]
  generalize (lg_sl ([.ref (a + (9 + 3 * i0)), .int x1]) ++ List.replicate (2 - (lg_sl ([.ref (a + (9 + 3 * i0)), .int x1])).length) Slot.unset).toArray = ls at hl ⊢
  exact bX2_moveOn_0 B.exec B.bytes B.returns hml (findClass_of_methodNamed B.named) (atoms_spec (ws := wsX2_moveOn) B.pre) B.notSynchronized hK hZ _ _ _ _ _ _ hw hS hl hf
def rX3_take : Room := { frames := 1, cells := 0, slots := 0, locals := 21 }
noncomputable def fX3_take (i0 : Nat) (x1 : Int32) (x2 : Int32) (M : Mm) : Option (Mm) := (if i0 < 4 then (if (gi M (73 + i0) 0) < (100 : Int32) then (if x2 = 0 then some (si (si (si M (73 + i0) 0 ((gi M (73 + i0) 0) + (1 : Int32))) (73 + i0) 1 (imax (gi (si M (73 + i0) 0 ((gi M (73 + i0) 0) + (1 : Int32))) (73 + i0) 1) x1)) (73 + i0) 2 ((gi (si (si M (73 + i0) 0 ((gi M (73 + i0) 0) + (1 : Int32))) (73 + i0) 1 (imax (gi (si M (73 + i0) 0 ((gi M (73 + i0) 0) + (1 : Int32))) (73 + i0) 1) x1)) (73 + i0) 2) + (0 : Int32))) else some (si (si (si M (73 + i0) 0 ((gi M (73 + i0) 0) + (1 : Int32))) (73 + i0) 1 (imax (gi (si M (73 + i0) 0 ((gi M (73 + i0) 0) + (1 : Int32))) (73 + i0) 1) x1)) (73 + i0) 2 ((gi (si (si M (73 + i0) 0 ((gi M (73 + i0) 0) + (1 : Int32))) (73 + i0) 1 (imax (gi (si M (73 + i0) 0 ((gi M (73 + i0) 0) + (1 : Int32))) (73 + i0) 1) x1)) (73 + i0) 2) + (1 : Int32)))) else some (si M (73 + i0) 3 ((gi M (73 + i0) 3) + (1 : Int32)))) else none)
set_option maxRecDepth 20000 in
theorem iX3_take_X3 : ∀ w ∈ wsX30, w ∈ wsX3_take := by decide +kernel
set_option maxRecDepth 20000 in
theorem kX3_take_0 : Cond.fieldLink RX3 15 "BatchPipe$Tank" "has" "I" ∈ wsX3_take := by decide +kernel
set_option maxRecDepth 20000 in
theorem kX3_take_1 : Cond.fieldLink RX3 9 "BatchPipe$Tank" "grade" "I" ∈ wsX3_take := by decide +kernel
set_option maxRecDepth 20000 in
theorem kX3_take_2 : Cond.methodLink RX3 21 Lib.Math.max.name ∈ wsX3_take := by decide +kernel
set_option maxRecDepth 20000 in
theorem kX3_take_3 : Cond.static Lib.Math.max.name ∈ wsX3_take := by decide +kernel
set_option maxRecDepth 20000 in
theorem kX3_take_4 : Cond.initialized "java/lang/Math" ∈ wsX3_take := by decide +kernel
set_option maxRecDepth 20000 in
theorem kX3_take_5 : Cond.code Lib.Math.max.name Lib.Math.max.code 2 (some .int) ∈ wsX3_take := by decide +kernel
set_option maxRecDepth 20000 in
theorem kX3_take_6 : Cond.fieldLink RX3 27 "BatchPipe$Tank" "mixed" "I" ∈ wsX3_take := by decide +kernel
set_option maxRecDepth 20000 in
theorem kX3_take_7 : Cond.fieldLink RX3 18 "BatchPipe$Tank" "spilled" "I" ∈ wsX3_take := by decide +kernel
set_option maxRecDepth 100000 in
set_option maxHeartbeats 4000000 in
theorem bX3_take_0 {p : Program} {l : Launch} {e : Env} {s : State} {m : MethodId} {args : Array Value} {below : List Frame} {meth : Method} {c : Code} {D : va_G} {cy : Nat → ClassId} {a : Nat} (hx : p.tables.exec = Jvm.exec) (hb : c.code = cX3_take) (hr : meth.sig.returnType = none) (hml : c.maxLocals = 3) (hown : s.vm.findClass RX3 = some m.cls) (hts : ∀ w ∈ wsX3_take, w.before args s = true) (hlocks : meth.locks = false) (hK : KS D cy s) (hZ : ZZ a s s.heap) {out : Mm} : ∀ (i0 : Nat) (x1 : Int32) (x2 : Int32) (M : Mm) (H : Heap) (locs : List Loc) (ls : Array Slot), HP D cy a M H → va_S (Aq a) s.heap H locs → lv_has ls 3 [(0, .ref (a + (73 + i0))), (1, .int x1), (2, .int x2)] → fX3_take i0 x1 x2 M = some out → W p l e rX3_take s m args below meth c H locs 0 0 (MQ below (QV D cy a out) args s 0 0 (Aq a)) (F0 m 0 ls []) := by
  intro i0 x1 x2 M H locs ls hw hS hl hf
  unfold fX3_take at hf
  refine lv_aload_n hx hb dX3_take_0 rfl (lv_at hl 0 rfl) ?_
  obtain ⟨hi1, hf⟩ := og hf
  refine rGetI hx hb hts iX3_take_X3 hown hK hw (ktank hi1) (en_tank hi1) rfl 0 (by decide) (hts _ kX3_take_0) rfl rfl dX3_take_1 ?_
  refine lv_bipush (v := (100 : Int32)) hx hb dX3_take_4 (by decide) ?_
  refine lv_icmp_lt (tgt := 20) hx hb dX3_take_6 (by decide) (fun c2 => ?_) (fun c2 => ?_)
  · have hf := ip c2 hf
    refine lv_aload_n hx hb dX3_take_20 rfl (lv_at hl 0 rfl) ?_
    refine lv_dup hx hb dX3_take_21 rfl ?_
    refine rGetI hx hb hts iX3_take_X3 hown hK hw (ktank hi1) (en_tank hi1) rfl 0 (by decide) (hts _ kX3_take_0) rfl rfl dX3_take_22 ?_
    refine lv_iconst (v := (1 : Int32)) hx hb dX3_take_25 (by decide) ?_
    refine lv_iadd hx hb dX3_take_26 ?_
    refine rPut hx hb hts iX3_take_X3 tyX3 tyX3_ok nmX3 hown hK hw hS (ktank hi1) (en_tank hi1) rfl 0 (by decide) (hts _ kX3_take_0) rfl rfl rfl rfl (Nat.le_of_ble_eq_true rfl) (by rw [en_tank hi1]; rfl) dX3_take_27 (fun H locs hw hS => ?_)
    refine lv_aload_n hx hb dX3_take_30 rfl (lv_at hl 0 rfl) ?_
    refine lv_aload_n hx hb dX3_take_31 rfl (lv_at hl 0 rfl) ?_
    refine rGetI hx hb hts iX3_take_X3 hown hK hw (ktank hi1) (en_tank hi1) rfl 1 (by decide) (hts _ kX3_take_1) rfl rfl dX3_take_32 ?_
    refine lv_iload_n hx hb dX3_take_35 rfl (lv_at hl 1 rfl) ?_
    refine rMax hx hb hml hl hown (hts _ kX3_take_2) (hts _ kX3_take_3) (hts _ kX3_take_4) (hts _ kX3_take_5) (Nat.le_of_ble_eq_true rfl) (Nat.le_of_ble_eq_true rfl) (Nat.le_of_ble_eq_true rfl) (Nat.le_of_ble_eq_true rfl) dX3_take_36 ?_
    refine rPut hx hb hts iX3_take_X3 tyX3 tyX3_ok nmX3 hown hK hw hS (ktank hi1) (en_tank hi1) rfl 1 (by decide) (hts _ kX3_take_1) rfl rfl rfl rfl (Nat.le_of_ble_eq_true rfl) (by rw [en_tank hi1]; rfl) dX3_take_39 (fun H locs hw hS => ?_)
    refine lv_aload_n hx hb dX3_take_42 rfl (lv_at hl 0 rfl) ?_
    refine lv_dup hx hb dX3_take_43 rfl ?_
    refine rGetI hx hb hts iX3_take_X3 hown hK hw (ktank hi1) (en_tank hi1) rfl 2 (by decide) (hts _ kX3_take_6) rfl rfl dX3_take_44 ?_
    refine lv_iload_n hx hb dX3_take_47 rfl (lv_at hl 2 rfl) ?_
    refine lv_if_eq (tgt := 55) hx hb dX3_take_48 (by decide) (fun c3 => ?_) (fun c3 => ?_)
    · have hf := ip c3 hf
      refine lv_iconst (v := (0 : Int32)) hx hb dX3_take_55 (by decide) ?_
      refine lv_iadd hx hb dX3_take_56 ?_
      refine rPut hx hb hts iX3_take_X3 tyX3 tyX3_ok nmX3 hown hK hw hS (ktank hi1) (en_tank hi1) rfl 2 (by decide) (hts _ kX3_take_6) rfl rfl rfl rfl (Nat.le_of_ble_eq_true rfl) (by rw [en_tank hi1]; rfl) dX3_take_57 (fun H locs hw hS => ?_)
      obtain rfl := Option.some.inj hf
      exact rVret hx hb hr hlocks hw hS dX3_take_60
    · have hf := iq c3 hf
      refine lv_iconst (v := (1 : Int32)) hx hb dX3_take_51 (by decide) ?_
      refine lv_goto (tgt := 56) hx hb dX3_take_52 (by decide) ?_
      refine lv_iadd hx hb dX3_take_56 ?_
      refine rPut hx hb hts iX3_take_X3 tyX3 tyX3_ok nmX3 hown hK hw hS (ktank hi1) (en_tank hi1) rfl 2 (by decide) (hts _ kX3_take_6) rfl rfl rfl rfl (Nat.le_of_ble_eq_true rfl) (by rw [en_tank hi1]; rfl) dX3_take_57 (fun H locs hw hS => ?_)
      obtain rfl := Option.some.inj hf
      exact rVret hx hb hr hlocks hw hS dX3_take_60
  · have hf := iq c2 hf
    refine lv_aload_n hx hb dX3_take_9 rfl (lv_at hl 0 rfl) ?_
    refine lv_dup hx hb dX3_take_10 rfl ?_
    refine rGetI hx hb hts iX3_take_X3 hown hK hw (ktank hi1) (en_tank hi1) rfl 3 (by decide) (hts _ kX3_take_7) rfl rfl dX3_take_11 ?_
    refine lv_iconst (v := (1 : Int32)) hx hb dX3_take_14 (by decide) ?_
    refine lv_iadd hx hb dX3_take_15 ?_
    refine rPut hx hb hts iX3_take_X3 tyX3 tyX3_ok nmX3 hown hK hw hS (ktank hi1) (en_tank hi1) rfl 3 (by decide) (hts _ kX3_take_7) rfl rfl rfl rfl (Nat.le_of_ble_eq_true rfl) (by rw [en_tank hi1]; rfl) dX3_take_16 (fun H locs hw hS => ?_)
    obtain rfl := Option.some.inj hf
    exact rVret hx hb hr hlocks hw hS dX3_take_19
set_option maxRecDepth 100000 in
set_option maxHeartbeats 4000000 in
theorem ctX3_take {l : Launch} {D : va_G} {cy : Nat → ClassId} {a : Nat} {i0 : Nat} {x1 : Int32} {x2 : Int32} {M : Mm} {out : Mm} (hf : fX3_take i0 x1 x2 M = some out) : Met l yX3_take wsX3_take rX3_take (Pre D cy a M [.ref (a + (73 + i0)), .int x1, .int x2]) (QV D cy a out) 0 0 (Aq a) := by
  refine Met.ofW (cc := cX3_take) (maxL := 3) (ret := none) (by decide +kernel) rfl ?_
  intro p e s m args below meth c s₁ B hml hv
  obtain ⟨rfl, hw, hK, hZ⟩ := hv
  have hS : va_S (Aq a) s.heap s.heap [] := va_S.rf
  have hl := lv_entry ([.ref (a + (73 + i0)), .int x1, .int x2]) (n := 3) (Nat.le_of_ble_eq_true rfl)
  rw [lg_entry_eq]
  generalize (lg_sl ([.ref (a + (73 + i0)), .int x1, .int x2]) ++ List.replicate (3 - (lg_sl ([.ref (a + (73 + i0)), .int x1, .int x2])).length) Slot.unset).toArray = ls at hl ⊢
  exact bX3_take_0 B.exec B.bytes B.returns hml (findClass_of_methodNamed B.named) (atoms_spec (ws := wsX3_take) B.pre) B.notSynchronized hK hZ _ _ _ _ _ _ _ hw hS hl hf
def rX3_pourOut : Room := { frames := 0, cells := 0, slots := 0, locals := 0 }
noncomputable def fX3_pourOut (i0 : Nat) (M : Mm) : Option (Int32 × Mm) := (if i0 < 4 then some (gi M (73 + i0) 0, si (si (si M (73 + i0) 0 (0 : Int32)) (73 + i0) 1 (-1 : Int32)) (73 + i0) 2 (0 : Int32)) else none)
set_option maxRecDepth 20000 in
theorem iX3_pourOut_X3 : ∀ w ∈ wsX30, w ∈ wsX3_pourOut := by decide +kernel
set_option maxRecDepth 20000 in
theorem kX3_pourOut_0 : Cond.fieldLink RX3 15 "BatchPipe$Tank" "has" "I" ∈ wsX3_pourOut := by decide +kernel
set_option maxRecDepth 20000 in
theorem kX3_pourOut_1 : Cond.fieldLink RX3 9 "BatchPipe$Tank" "grade" "I" ∈ wsX3_pourOut := by decide +kernel
set_option maxRecDepth 20000 in
theorem kX3_pourOut_2 : Cond.fieldLink RX3 27 "BatchPipe$Tank" "mixed" "I" ∈ wsX3_pourOut := by decide +kernel
set_option maxRecDepth 100000 in
set_option maxHeartbeats 4000000 in
theorem bX3_pourOut_0 {p : Program} {l : Launch} {e : Env} {s : State} {m : MethodId} {args : Array Value} {below : List Frame} {meth : Method} {c : Code} {D : va_G} {cy : Nat → ClassId} {a : Nat} (hx : p.tables.exec = Jvm.exec) (hb : c.code = cX3_pourOut) (hr : meth.sig.returnType = (some .int)) (hml : c.maxLocals = 2) (hown : s.vm.findClass RX3 = some m.cls) (hts : ∀ w ∈ wsX3_pourOut, w.before args s = true) (hlocks : meth.locks = false) (hK : KS D cy s) (hZ : ZZ a s s.heap) {out : Int32 × Mm} : ∀ (i0 : Nat) (M : Mm) (H : Heap) (locs : List Loc) (ls : Array Slot), HP D cy a M H → va_S (Aq a) s.heap H locs → lv_has ls 2 [(0, .ref (a + (73 + i0)))] → fX3_pourOut i0 M = some out → W p l e rX3_pourOut s m args below meth c H locs 0 0 (MQ below (QI D cy a out.1 out.2) args s 0 0 (Aq a)) (F0 m 0 ls []) := by
  intro i0 M H locs ls hw hS hl hf
  unfold fX3_pourOut at hf
  refine lv_aload_n hx hb dX3_pourOut_0 rfl (lv_at hl 0 rfl) ?_
  obtain ⟨hi1, hf⟩ := og hf
  refine rGetI hx hb hts iX3_pourOut_X3 hown hK hw (ktank hi1) (en_tank hi1) rfl 0 (by decide) (hts _ kX3_pourOut_0) rfl rfl dX3_pourOut_1 ?_
  refine lv_istore_n (lv' := [(1, .int (gi M (73 + i0) 0)), (0, .ref (a + (73 + i0)))]) hx hb dX3_pourOut_4 rfl hl (Nat.le_of_ble_eq_true rfl) rfl (fun ls hl => ?_)
  refine lv_aload_n hx hb dX3_pourOut_5 rfl (lv_at hl 1 rfl) ?_
  refine lv_iconst (v := (0 : Int32)) hx hb dX3_pourOut_6 (by decide) ?_
  refine rPut hx hb hts iX3_pourOut_X3 tyX3 tyX3_ok nmX3 hown hK hw hS (ktank hi1) (en_tank hi1) rfl 0 (by decide) (hts _ kX3_pourOut_0) rfl rfl rfl rfl (Nat.le_of_ble_eq_true rfl) (by rw [en_tank hi1]; rfl) dX3_pourOut_7 (fun H locs hw hS => ?_)
  refine lv_aload_n hx hb dX3_pourOut_10 rfl (lv_at hl 1 rfl) ?_
  refine lv_iconst (v := (-1 : Int32)) hx hb dX3_pourOut_11 (by decide) ?_
  refine rPut hx hb hts iX3_pourOut_X3 tyX3 tyX3_ok nmX3 hown hK hw hS (ktank hi1) (en_tank hi1) rfl 1 (by decide) (hts _ kX3_pourOut_1) rfl rfl rfl rfl (Nat.le_of_ble_eq_true rfl) (by rw [en_tank hi1]; rfl) dX3_pourOut_12 (fun H locs hw hS => ?_)
  refine lv_aload_n hx hb dX3_pourOut_15 rfl (lv_at hl 1 rfl) ?_
  refine lv_iconst (v := (0 : Int32)) hx hb dX3_pourOut_16 (by decide) ?_
  refine rPut hx hb hts iX3_pourOut_X3 tyX3 tyX3_ok nmX3 hown hK hw hS (ktank hi1) (en_tank hi1) rfl 2 (by decide) (hts _ kX3_pourOut_2) rfl rfl rfl rfl (Nat.le_of_ble_eq_true rfl) (by rw [en_tank hi1]; rfl) dX3_pourOut_17 (fun H locs hw hS => ?_)
  refine lv_iload_n hx hb dX3_pourOut_20 rfl (lv_at hl 0 rfl) ?_
  obtain rfl := Option.some.inj hf
  exact rIret hx hb hr hlocks hw hS dX3_pourOut_21
set_option maxRecDepth 100000 in
set_option maxHeartbeats 4000000 in
theorem ctX3_pourOut {l : Launch} {D : va_G} {cy : Nat → ClassId} {a : Nat} {i0 : Nat} {M : Mm} {out : Int32 × Mm} (hf : fX3_pourOut i0 M = some out) : Met l yX3_pourOut wsX3_pourOut rX3_pourOut (Pre D cy a M [.ref (a + (73 + i0))]) (QI D cy a out.1 out.2) 0 0 (Aq a) := by
  refine Met.ofW (cc := cX3_pourOut) (maxL := 2) (ret := (some .int)) (by decide +kernel) rfl ?_
  intro p e s m args below meth c s₁ B hml hv
  obtain ⟨rfl, hw, hK, hZ⟩ := hv
  have hS : va_S (Aq a) s.heap s.heap [] := va_S.rf
  have hl := lv_entry ([.ref (a + (73 + i0))]) (n := 2) (Nat.le_of_ble_eq_true rfl)
  rw [lg_entry_eq]
  generalize (lg_sl ([.ref (a + (73 + i0))]) ++ List.replicate (2 - (lg_sl ([.ref (a + (73 + i0))])).length) Slot.unset).toArray = ls at hl ⊢
  exact bX3_pourOut_0 B.exec B.bytes B.returns hml (findClass_of_methodNamed B.named) (atoms_spec (ws := wsX3_pourOut) B.pre) B.notSynchronized hK hZ _ _ _ _ _ hw hS hl hf
def rX4_tell : Room := { frames := 0, cells := 0, slots := 0, locals := 0 }
noncomputable def fX4_tell (i0 : Nat) (x1 : Int32) (x2 : Int32) (x3 : Int32) (M : Mm) : Option (Mm) := (if i0 < 3 then some (si (si (si M (6 + i0) 0 x1) (6 + i0) 1 x2) (6 + i0) 2 x3) else none)
set_option maxRecDepth 20000 in
theorem iX4_tell_X4 : ∀ w ∈ wsX40, w ∈ wsX4_tell := by decide +kernel
set_option maxRecDepth 20000 in
theorem kX4_tell_0 : Cond.fieldLink RX4 9 "BatchPipe$Tap" "segment" "I" ∈ wsX4_tell := by decide +kernel
set_option maxRecDepth 20000 in
theorem kX4_tell_1 : Cond.fieldLink RX4 15 "BatchPipe$Tap" "units" "I" ∈ wsX4_tell := by decide +kernel
set_option maxRecDepth 20000 in
theorem kX4_tell_2 : Cond.fieldLink RX4 18 "BatchPipe$Tap" "tank" "I" ∈ wsX4_tell := by decide +kernel
set_option maxRecDepth 100000 in
set_option maxHeartbeats 4000000 in
theorem bX4_tell_0 {p : Program} {l : Launch} {e : Env} {s : State} {m : MethodId} {args : Array Value} {below : List Frame} {meth : Method} {c : Code} {D : va_G} {cy : Nat → ClassId} {a : Nat} (hx : p.tables.exec = Jvm.exec) (hb : c.code = cX4_tell) (hr : meth.sig.returnType = none) (hml : c.maxLocals = 4) (hown : s.vm.findClass RX4 = some m.cls) (hts : ∀ w ∈ wsX4_tell, w.before args s = true) (hlocks : meth.locks = false) (hK : KS D cy s) (hZ : ZZ a s s.heap) {out : Mm} : ∀ (i0 : Nat) (x1 : Int32) (x2 : Int32) (x3 : Int32) (M : Mm) (H : Heap) (locs : List Loc) (ls : Array Slot), HP D cy a M H → va_S (Aq a) s.heap H locs → lv_has ls 4 [(0, .ref (a + (6 + i0))), (1, .int x1), (2, .int x2), (3, .int x3)] → fX4_tell i0 x1 x2 x3 M = some out → W p l e rX4_tell s m args below meth c H locs 0 0 (MQ below (QV D cy a out) args s 0 0 (Aq a)) (F0 m 0 ls []) := by
  intro i0 x1 x2 x3 M H locs ls hw hS hl hf
  unfold fX4_tell at hf
  refine lv_aload_n hx hb dX4_tell_0 rfl (lv_at hl 0 rfl) ?_
  refine lv_iload_n hx hb dX4_tell_1 rfl (lv_at hl 1 rfl) ?_
  obtain ⟨hi1, hf⟩ := og hf
  refine rPut hx hb hts iX4_tell_X4 tyX4 tyX4_ok nmX4 hown hK hw hS (ktap hi1) (en_tap hi1) rfl 0 (by decide) (hts _ kX4_tell_0) rfl rfl rfl rfl (Nat.le_of_ble_eq_true rfl) (by rw [en_tap hi1]; rfl) dX4_tell_2 (fun H locs hw hS => ?_)
  refine lv_aload_n hx hb dX4_tell_5 rfl (lv_at hl 0 rfl) ?_
  refine lv_iload_n hx hb dX4_tell_6 rfl (lv_at hl 2 rfl) ?_
  refine rPut hx hb hts iX4_tell_X4 tyX4 tyX4_ok nmX4 hown hK hw hS (ktap hi1) (en_tap hi1) rfl 1 (by decide) (hts _ kX4_tell_1) rfl rfl rfl rfl (Nat.le_of_ble_eq_true rfl) (by rw [en_tap hi1]; rfl) dX4_tell_7 (fun H locs hw hS => ?_)
  refine lv_aload_n hx hb dX4_tell_10 rfl (lv_at hl 0 rfl) ?_
  refine lv_iload_n hx hb dX4_tell_11 rfl (lv_at hl 3 rfl) ?_
  refine rPut hx hb hts iX4_tell_X4 tyX4 tyX4_ok nmX4 hown hK hw hS (ktap hi1) (en_tap hi1) rfl 2 (by decide) (hts _ kX4_tell_2) rfl rfl rfl rfl (Nat.le_of_ble_eq_true rfl) (by rw [en_tap hi1]; rfl) dX4_tell_12 (fun H locs hw hS => ?_)
  obtain rfl := Option.some.inj hf
  exact rVret hx hb hr hlocks hw hS dX4_tell_15
set_option maxRecDepth 100000 in
set_option maxHeartbeats 4000000 in
theorem ctX4_tell {l : Launch} {D : va_G} {cy : Nat → ClassId} {a : Nat} {i0 : Nat} {x1 : Int32} {x2 : Int32} {x3 : Int32} {M : Mm} {out : Mm} (hf : fX4_tell i0 x1 x2 x3 M = some out) : Met l yX4_tell wsX4_tell rX4_tell (Pre D cy a M [.ref (a + (6 + i0)), .int x1, .int x2, .int x3]) (QV D cy a out) 0 0 (Aq a) := by
  refine Met.ofW (cc := cX4_tell) (maxL := 4) (ret := none) (by decide +kernel) rfl ?_
  intro p e s m args below meth c s₁ B hml hv
  obtain ⟨rfl, hw, hK, hZ⟩ := hv
  have hS : va_S (Aq a) s.heap s.heap [] := va_S.rf
  have hl := lv_entry ([.ref (a + (6 + i0)), .int x1, .int x2, .int x3]) (n := 4) (Nat.le_of_ble_eq_true rfl)
  rw [lg_entry_eq]
  generalize (lg_sl ([.ref (a + (6 + i0)), .int x1, .int x2, .int x3]) ++ List.replicate (4 - (lg_sl ([.ref (a + (6 + i0)), .int x1, .int x2, .int x3])).length) Slot.unset).toArray = ls at hl ⊢
  exact bX4_tell_0 B.exec B.bytes B.returns hml (findClass_of_methodNamed B.named) (atoms_spec (ws := wsX4_tell) B.pre) B.notSynchronized hK hZ _ _ _ _ _ _ _ _ hw hS hl hf
def rX4_takesMore : Room := { frames := 0, cells := 0, slots := 0, locals := 0 }
noncomputable def fX4_takesMore (i0 : Nat) (M : Mm) : Option (Int32) := (if i0 < 3 then (if (gi M (6 + i0) 0) = (-1 : Int32) then some ((0 : Int32)) else (if (gi M (6 + i0) 1) ≤ (gi M (6 + i0) 3) then some ((0 : Int32)) else some ((1 : Int32)))) else none)
set_option maxRecDepth 20000 in
theorem iX4_takesMore_X4 : ∀ w ∈ wsX40, w ∈ wsX4_takesMore := by decide +kernel
set_option maxRecDepth 20000 in
theorem kX4_takesMore_0 : Cond.fieldLink RX4 9 "BatchPipe$Tap" "segment" "I" ∈ wsX4_takesMore := by decide +kernel
set_option maxRecDepth 20000 in
theorem kX4_takesMore_1 : Cond.fieldLink RX4 21 "BatchPipe$Tap" "taken" "I" ∈ wsX4_takesMore := by decide +kernel
set_option maxRecDepth 20000 in
theorem kX4_takesMore_2 : Cond.fieldLink RX4 15 "BatchPipe$Tap" "units" "I" ∈ wsX4_takesMore := by decide +kernel
set_option maxRecDepth 100000 in
set_option maxHeartbeats 4000000 in
theorem bX4_takesMore_0 {p : Program} {l : Launch} {e : Env} {s : State} {m : MethodId} {args : Array Value} {below : List Frame} {meth : Method} {c : Code} {D : va_G} {cy : Nat → ClassId} {a : Nat} (hx : p.tables.exec = Jvm.exec) (hb : c.code = cX4_takesMore) (hr : meth.sig.returnType = (some .boolean)) (hml : c.maxLocals = 1) (hown : s.vm.findClass RX4 = some m.cls) (hts : ∀ w ∈ wsX4_takesMore, w.before args s = true) (hlocks : meth.locks = false) (hK : KS D cy s) (hZ : ZZ a s s.heap) {out : Int32} : ∀ (i0 : Nat) (M : Mm) (H : Heap) (locs : List Loc) (ls : Array Slot), HP D cy a M H → va_S (Aq a) s.heap H locs → lv_has ls 1 [(0, .ref (a + (6 + i0)))] → fX4_takesMore i0 M = some out → W p l e rX4_takesMore s m args below meth c H locs 0 0 (MQ below (QB D cy a out M) args s 0 0 (Aq a)) (F0 m 0 ls []) := by
  intro i0 M H locs ls hw hS hl hf
  unfold fX4_takesMore at hf
  refine lv_aload_n hx hb dX4_takesMore_0 rfl (lv_at hl 0 rfl) ?_
  obtain ⟨hi1, hf⟩ := og hf
  refine rGetI hx hb hts iX4_takesMore_X4 hown hK hw (ktap hi1) (en_tap hi1) rfl 0 (by decide) (hts _ kX4_takesMore_0) rfl rfl dX4_takesMore_1 ?_
  refine lv_iconst (v := (-1 : Int32)) hx hb dX4_takesMore_4 (by decide) ?_
  refine lv_icmp_eq (tgt := 23) hx hb dX4_takesMore_5 (by decide) (fun c2 => ?_) (fun c2 => ?_)
  · have hf := ip c2 hf
    refine lv_iconst (v := (0 : Int32)) hx hb dX4_takesMore_23 (by decide) ?_
    obtain rfl := Option.some.inj hf
    exact rBret hx hb hr hlocks hw hS rfl dX4_takesMore_24
  · have hf := iq c2 hf
    refine lv_aload_n hx hb dX4_takesMore_8 rfl (lv_at hl 0 rfl) ?_
    refine rGetI hx hb hts iX4_takesMore_X4 hown hK hw (ktap hi1) (en_tap hi1) rfl 3 (by decide) (hts _ kX4_takesMore_1) rfl rfl dX4_takesMore_9 ?_
    refine lv_aload_n hx hb dX4_takesMore_12 rfl (lv_at hl 0 rfl) ?_
    refine rGetI hx hb hts iX4_takesMore_X4 hown hK hw (ktap hi1) (en_tap hi1) rfl 1 (by decide) (hts _ kX4_takesMore_2) rfl rfl dX4_takesMore_13 ?_
    refine lv_icmp_ge (tgt := 23) hx hb dX4_takesMore_16 (by decide) (fun c3 => ?_) (fun c3 => ?_)
    · have hf := ip c3 hf
      refine lv_iconst (v := (0 : Int32)) hx hb dX4_takesMore_23 (by decide) ?_
      obtain rfl := Option.some.inj hf
      exact rBret hx hb hr hlocks hw hS rfl dX4_takesMore_24
    · have hf := iq c3 hf
      refine lv_iconst (v := (1 : Int32)) hx hb dX4_takesMore_19 (by decide) ?_
      refine lv_goto (tgt := 24) hx hb dX4_takesMore_20 (by decide) ?_
      obtain rfl := Option.some.inj hf
      exact rBret hx hb hr hlocks hw hS rfl dX4_takesMore_24
set_option maxRecDepth 100000 in
set_option maxHeartbeats 4000000 in
theorem ctX4_takesMore {l : Launch} {D : va_G} {cy : Nat → ClassId} {a : Nat} {i0 : Nat} {M : Mm} {out : Int32} (hf : fX4_takesMore i0 M = some out) : Met l yX4_takesMore wsX4_takesMore rX4_takesMore (Pre D cy a M [.ref (a + (6 + i0))]) (QB D cy a out M) 0 0 (Aq a) := by
  refine Met.ofW (cc := cX4_takesMore) (maxL := 1) (ret := (some .boolean)) (by decide +kernel) rfl ?_
  intro p e s m args below meth c s₁ B hml hv
  obtain ⟨rfl, hw, hK, hZ⟩ := hv
  have hS : va_S (Aq a) s.heap s.heap [] := va_S.rf
  have hl := lv_entry ([.ref (a + (6 + i0))]) (n := 1) (Nat.le_of_ble_eq_true rfl)
  rw [lg_entry_eq]
  generalize (lg_sl ([.ref (a + (6 + i0))]) ++ List.replicate (1 - (lg_sl ([.ref (a + (6 + i0))])).length) Slot.unset).toArray = ls at hl ⊢
  exact bX4_takesMore_0 B.exec B.bytes B.returns hml (findClass_of_methodNamed B.named) (atoms_spec (ws := wsX4_takesMore) B.pre) B.notSynchronized hK hZ _ _ _ _ _ hw hS hl hf
def rX5_checkRange : Room := { frames := 6, cells := 1, slots := 6, locals := 90 }
noncomputable def fX5_checkRange (x1 : Int32) (x2 : Int32) (x3 : Int32) (M : Mm) : Option (Nat) := (if x1 < x2 then some (1) else (if x1 ≤ x3 then some (0) else some (1)))
set_option maxRecDepth 20000 in
theorem kX5_checkRange_0 : Cond.classLink RX5 94 "java/lang/IllegalArgumentException" ∈ wsX5_checkRange := by decide +kernel
set_option maxRecDepth 20000 in
theorem kX5_checkRange_1 : Cond.initialized "java/lang/IllegalArgumentException" ∈ wsX5_checkRange := by decide +kernel
set_option maxRecDepth 20000 in
theorem xX5_checkRange_1 : ∀ w ∈ (vx_atS RX5 98 (exN 1) ["java/lang/RuntimeException", "java/lang/Exception"]).filter goodWord, w ∈ wsX5_checkRange := by decide +kernel
set_option maxRecDepth 100000 in
set_option maxHeartbeats 4000000 in
theorem bX5_checkRange_0 {p : Program} {l : Launch} {e : Env} {s : State} {m : MethodId} {args : Array Value} {below : List Frame} {meth : Method} {c : Code} {D : va_G} {cy : Nat → ClassId} {a : Nat} (hx : p.tables.exec = Jvm.exec) (hb : c.code = cX5_checkRange) (hr : meth.sig.returnType = none) (hml : c.maxLocals = 4) (hown : s.vm.findClass RX5 = some m.cls) (hts : ∀ w ∈ wsX5_checkRange, w.before args s = true) (hlocks : meth.locks = false) (hK : KS D cy s) (hZ : ZZ a s s.heap) (htb : ∀ x ∈ c.exceptionTable.toList, False) (hfl : l.stackTraces = false) {out : Nat} : ∀ (x1 : Int32) (x2 : Int32) (x3 : Int32) (M : Mm) (H : Heap) (locs : List Loc) (ls : Array Slot), HP D cy a M H → va_S (Aq a) s.heap H locs → lv_has ls 4 [(0, .ref (a + 0)), (1, .int x1), (2, .int x2), (3, .int x3)] → fX5_checkRange x1 x2 x3 M = some out → W p l e rX5_checkRange s m args below meth c H locs 0 0 (vx_MQ below (QVx D cy a out M) (XT D cy a out M) args s 1 6 (Aq a)) (F0 m 0 ls []) := by
  intro x1 x2 x3 M H locs ls hw hS hl hf
  unfold fX5_checkRange at hf
  refine lv_iload_n hx hb dX5_checkRange_0 rfl (lv_at hl 1 rfl) ?_
  refine lv_iload_n hx hb dX5_checkRange_1 rfl (lv_at hl 2 rfl) ?_
  refine lv_icmp_lt (tgt := 10) hx hb dX5_checkRange_2 (by decide) (fun c1 => ?_) (fun c1 => ?_)
  · have hf := ip c1 hf
    obtain rfl := Option.some.inj hf
    exact rThrow hx hb hfl 1 (by decide) (by decide +kernel) hts hown hK hZ hw hS kX5_checkRange_0 kX5_checkRange_1 nwS_239 xX5_checkRange_1 xbad_1_98 xgood_1_98_94 hml hl dX5_checkRange_10 dX5_checkRange_13 dX5_checkRange_14 dX5_checkRange_16 dX5_checkRange_19 htb (Nat.le_of_ble_eq_true rfl) (Nat.le_of_ble_eq_true rfl) (Nat.le_of_ble_eq_true rfl) (Nat.le_of_ble_eq_true rfl) hlocks (Nat.le_of_ble_eq_true rfl) (Nat.le_of_ble_eq_true rfl)
  · have hf := iq c1 hf
    refine lv_iload_n hx hb dX5_checkRange_5 rfl (lv_at hl 1 rfl) ?_
    refine lv_iload_n hx hb dX5_checkRange_6 rfl (lv_at hl 3 rfl) ?_
    refine lv_icmp_le (tgt := 20) hx hb dX5_checkRange_7 (by decide) (fun c2 => ?_) (fun c2 => ?_)
    · have hf := ip c2 hf
      obtain rfl := Option.some.inj hf
      refine W.widen (k := 1) (n := 6) (Nat.le_of_ble_eq_true rfl) (Nat.le_of_ble_eq_true rfl) ?_
      exact rxVret hx hb hr hlocks hw hS dX5_checkRange_20
    · have hf := iq c2 hf
      obtain rfl := Option.some.inj hf
      exact rThrow hx hb hfl 1 (by decide) (by decide +kernel) hts hown hK hZ hw hS kX5_checkRange_0 kX5_checkRange_1 nwS_239 xX5_checkRange_1 xbad_1_98 xgood_1_98_94 hml hl dX5_checkRange_10 dX5_checkRange_13 dX5_checkRange_14 dX5_checkRange_16 dX5_checkRange_19 htb (Nat.le_of_ble_eq_true rfl) (Nat.le_of_ble_eq_true rfl) (Nat.le_of_ble_eq_true rfl) (Nat.le_of_ble_eq_true rfl) hlocks (Nat.le_of_ble_eq_true rfl) (Nat.le_of_ble_eq_true rfl)
set_option maxRecDepth 100000 in
set_option maxHeartbeats 4000000 in
theorem ctX5_checkRange {l : Launch} {D : va_G} {cy : Nat → ClassId} {a : Nat} (hfl : l.stackTraces = false) {x1 : Int32} {x2 : Int32} {x3 : Int32} {M : Mm} {out : Nat} (hf : fX5_checkRange x1 x2 x3 M = some out) : vx_Met l yX5_checkRange wsX5_checkRange rX5_checkRange (Pre D cy a M [.ref (a + 0), .int x1, .int x2, .int x3]) (QVx D cy a out M) (XT D cy a out M) 1 6 (Aq a) := by
  refine vx_ofW (cc := cX5_checkRange) (maxL := 4) (ret := none) (by decide +kernel) rfl ?_
  intro p e s m args below meth c s₁ B hml htb hv
  obtain ⟨rfl, hw, hK, hZ⟩ := hv
  have hS : va_S (Aq a) s.heap s.heap [] := va_S.rf
  have hl := lv_entry ([.ref (a + 0), .int x1, .int x2, .int x3]) (n := 4) (Nat.le_of_ble_eq_true rfl)
  rw [lg_entry_eq]
  generalize (lg_sl ([.ref (a + 0), .int x1, .int x2, .int x3]) ++ List.replicate (4 - (lg_sl ([.ref (a + 0), .int x1, .int x2, .int x3])).length) Slot.unset).toArray = ls at hl ⊢
  exact bX5_checkRange_0 B.exec B.bytes B.returns hml (findClass_of_methodNamed B.named) (atoms_spec (ws := wsX5_checkRange) B.pre) B.notSynchronized hK hZ htb hfl _ _ _ _ _ _ _ hw hS hl hf
def rX5_segment : Room := { frames := 7, cells := 4, slots := 24, locals := 113 }
noncomputable def fX5_segment (x1 : Int32) (x2 : Int32) (x3 : Int32) (M : Mm) : Option (Nat × Int32 × Mm) := ((fX5_checkRange x1 (5 : Int32) (60 : Int32) M).bind fun o1 => if o1 = 0 then ((fX5_checkRange x2 (0 : Int32) (50 : Int32) M).bind fun o2 => if o2 = 0 then ((fX5_checkRange x3 (10 : Int32) (500 : Int32) M).bind fun o3 => if o3 = 0 then (if (gi M 0 10) = 0 then (if (gi M 0 8) < (6 : Int32) then (if ¬ ((gi M 0 8) < 0 ∨ 6 ≤ (gi M 0 8).toNatClampNeg) then ((fX2_tell ((gi M 0 8).toNatClampNeg) x1 x2 x3 M).bind fun o7 => some (0, (gi (si o7 0 8 ((gi o7 0 8) + (1 : Int32))) 0 8) - (1 : Int32), si o7 0 8 ((gi o7 0 8) + (1 : Int32)))) else none) else some (2, 0, M)) else some (2, 0, M)) else some (o3, 0, M)) else some (o2, 0, M)) else some (o1, 0, M))
set_option maxRecDepth 20000 in
theorem iX5_segment_X5 : ∀ w ∈ wsX50, w ∈ wsX5_segment := by decide +kernel
set_option maxRecDepth 20000 in
theorem kX5_segment_0 : Cond.fieldLink RX5 73 "BatchPipe" "isOpen" "Z" ∈ wsX5_segment := by decide +kernel
set_option maxRecDepth 20000 in
theorem kX5_segment_1 : Cond.classLink RX5 80 "java/lang/IllegalStateException" ∈ wsX5_segment := by decide +kernel
set_option maxRecDepth 20000 in
theorem kX5_segment_2 : Cond.initialized "java/lang/IllegalStateException" ∈ wsX5_segment := by decide +kernel
set_option maxRecDepth 20000 in
theorem kX5_segment_3 : Cond.fieldLink RX5 77 "BatchPipe" "segmentCount" "I" ∈ wsX5_segment := by decide +kernel
set_option maxRecDepth 20000 in
theorem kX5_segment_4 : Cond.fieldLink RX5 11 "BatchPipe" "segments" "[LBatchPipe$Segment;" ∈ wsX5_segment := by decide +kernel
set_option maxRecDepth 20000 in
theorem kX5_segment_5 : Cond.initialized RX2 ∈ wsX5_segment := by decide +kernel
set_option maxRecDepth 20000 in
theorem kX5_segment_6 : Cond.instanceMethod yX2_tell ∈ wsX5_segment := by decide +kernel
set_option maxRecDepth 20000 in
theorem kX5_segment_7 : Cond.selects RX2 yX2_tell yX2_tell ∈ wsX5_segment := by decide +kernel
set_option maxRecDepth 20000 in
theorem xX5_segment_2 : ∀ w ∈ (vx_atS RX5 84 (exN 2) ["java/lang/RuntimeException", "java/lang/Exception"]).filter goodWord, w ∈ wsX5_segment := by decide +kernel
set_option maxRecDepth 100000 in
set_option maxHeartbeats 4000000 in
theorem bX5_segment_0 {p : Program} {l : Launch} {e : Env} {s : State} {m : MethodId} {args : Array Value} {below : List Frame} {meth : Method} {c : Code} {D : va_G} {cy : Nat → ClassId} {a : Nat} (hx : p.tables.exec = Jvm.exec) (hb : c.code = cX5_segment) (hr : meth.sig.returnType = (some .int)) (hml : c.maxLocals = 4) (hown : s.vm.findClass RX5 = some m.cls) (hts : ∀ w ∈ wsX5_segment, w.before args s = true) (hlocks : meth.locks = false) (hK : KS D cy s) (hZ : ZZ a s s.heap) (htb : ∀ x ∈ c.exceptionTable.toList, False) (hfl : l.stackTraces = false) {out : Nat × Int32 × Mm} : ∀ (x1 : Int32) (x2 : Int32) (x3 : Int32) (M : Mm) (H : Heap) (locs : List Loc) (ls : Array Slot), HP D cy a M H → va_S (Aq a) s.heap H locs → lv_has ls 4 [(0, .ref (a + 0)), (1, .int x1), (2, .int x2), (3, .int x3)] → fX5_segment x1 x2 x3 M = some out → W p l e rX5_segment s m args below meth c H locs 0 0 (vx_MQ below (QIx D cy a out.1 out.2.1 out.2.2) (XT D cy a out.1 out.2.2) args s 4 24 (Aq a)) (F0 m 0 ls []) := by
  intro x1 x2 x3 M H locs ls hw hS hl hf
  unfold fX5_segment at hf
  refine lv_aload_n hx hb dX5_segment_0 rfl (lv_at hl 0 rfl) ?_
  refine lv_iload_n hx hb dX5_segment_1 rfl (lv_at hl 1 rfl) ?_
  refine lv_iconst (v := (5 : Int32)) hx hb dX5_segment_2 (by decide) ?_
  refine lv_bipush (v := (60 : Int32)) hx hb dX5_segment_3 (by decide) ?_
  obtain ⟨o1, ho1, hf⟩ := ob hf
  refine rxCallV (vx_runV (As := [.int x1, .int (5 : Int32), .int (60 : Int32)]) (rest := []) ⟨hx, hb, hml, hown, hts⟩ (ctX5_checkRange (l := l) (D := D) (cy := cy) (a := a) hfl ho1) (cwV 3 hts gX5_segment_X5_checkRange rfl rfl rfl (by decide +kernel) ⟨Nat.le_of_ble_eq_true rfl, Nat.le_of_ble_eq_true rfl⟩) (pV hK hZ hw hS (rRecv hK hw (Nat.le_of_ble_eq_true rfl) en_pipe rfl)) rfl rfl hl.1 rfl (lv_room (Nat.le_of_ble_eq_true rfl)) dX5_segment_5 ⟨Nat.le_of_ble_eq_true rfl, Nat.le_of_ble_eq_true rfl⟩) hS (fun ce q9 H locs hn hw hS h1 h2 h3 => ?_) (fun H locs hn hw hS => ?_)
  · have hf := iq hn hf
    obtain rfl := Option.some.inj hf
    exact rOut htb hlocks hn hw hS h1 h2 h3 (Nat.le_of_ble_eq_true rfl) (Nat.le_of_ble_eq_true rfl)
  · have hf := ip hn hf
    refine lv_aload_n hx hb dX5_segment_8 rfl (lv_at hl 0 rfl) ?_
    refine lv_iload_n hx hb dX5_segment_9 rfl (lv_at hl 2 rfl) ?_
    refine lv_iconst (v := (0 : Int32)) hx hb dX5_segment_10 (by decide) ?_
    refine lv_bipush (v := (50 : Int32)) hx hb dX5_segment_11 (by decide) ?_
    obtain ⟨o2, ho2, hf⟩ := ob hf
    refine rxCallV (vx_runV (As := [.int x2, .int (0 : Int32), .int (50 : Int32)]) (rest := []) ⟨hx, hb, hml, hown, hts⟩ (ctX5_checkRange (l := l) (D := D) (cy := cy) (a := a) hfl ho2) (cwV 3 hts gX5_segment_X5_checkRange rfl rfl rfl (by decide +kernel) ⟨Nat.le_of_ble_eq_true rfl, Nat.le_of_ble_eq_true rfl⟩) (pV hK hZ hw hS (rRecv hK hw (Nat.le_of_ble_eq_true rfl) en_pipe rfl)) rfl rfl hl.1 rfl (lv_room (Nat.le_of_ble_eq_true rfl)) dX5_segment_13 ⟨Nat.le_of_ble_eq_true rfl, Nat.le_of_ble_eq_true rfl⟩) hS (fun ce q9 H locs hn hw hS h1 h2 h3 => ?_) (fun H locs hn hw hS => ?_)
    · have hf := iq hn hf
      obtain rfl := Option.some.inj hf
      exact rOut htb hlocks hn hw hS h1 h2 h3 (Nat.le_of_ble_eq_true rfl) (Nat.le_of_ble_eq_true rfl)
    · have hf := ip hn hf
      refine lv_aload_n hx hb dX5_segment_16 rfl (lv_at hl 0 rfl) ?_
      refine lv_iload_n hx hb dX5_segment_17 rfl (lv_at hl 3 rfl) ?_
      refine lv_bipush (v := (10 : Int32)) hx hb dX5_segment_18 (by decide) ?_
      refine lv_sipush (v := (500 : Int32)) hx hb dX5_segment_20 (by decide) ?_
      obtain ⟨o3, ho3, hf⟩ := ob hf
      refine rxCallV (vx_runV (As := [.int x3, .int (10 : Int32), .int (500 : Int32)]) (rest := []) ⟨hx, hb, hml, hown, hts⟩ (ctX5_checkRange (l := l) (D := D) (cy := cy) (a := a) hfl ho3) (cwV 3 hts gX5_segment_X5_checkRange rfl rfl rfl (by decide +kernel) ⟨Nat.le_of_ble_eq_true rfl, Nat.le_of_ble_eq_true rfl⟩) (pV hK hZ hw hS (rRecv hK hw (Nat.le_of_ble_eq_true rfl) en_pipe rfl)) rfl rfl hl.1 rfl (lv_room (Nat.le_of_ble_eq_true rfl)) dX5_segment_23 ⟨Nat.le_of_ble_eq_true rfl, Nat.le_of_ble_eq_true rfl⟩) hS (fun ce q9 H locs hn hw hS h1 h2 h3 => ?_) (fun H locs hn hw hS => ?_)
      · have hf := iq hn hf
        obtain rfl := Option.some.inj hf
        exact rOut htb hlocks hn hw hS h1 h2 h3 (Nat.le_of_ble_eq_true rfl) (Nat.le_of_ble_eq_true rfl)
      · have hf := ip hn hf
        refine lv_aload_n hx hb dX5_segment_26 rfl (lv_at hl 0 rfl) ?_
        refine rGetI hx hb hts iX5_segment_X5 hown hK hw (Nat.le_of_ble_eq_true rfl) en_pipe rfl 10 (by decide) (hts _ kX5_segment_0) rfl rfl dX5_segment_27 ?_
        refine lv_if_ne (tgt := 42) hx hb dX5_segment_30 (by decide) (fun c4 => ?_) (fun c4 => ?_)
        · have hf := iq c4 hf
          obtain rfl := Option.some.inj hf
          exact rThrow hx hb hfl 2 (by decide) (by decide +kernel) hts hown hK hZ hw hS kX5_segment_1 kX5_segment_2 nwS_82 xX5_segment_2 xbad_2_84 xgood_2_84_80 hml hl dX5_segment_42 dX5_segment_45 dX5_segment_46 dX5_segment_48 dX5_segment_51 htb (Nat.le_of_ble_eq_true rfl) (Nat.le_of_ble_eq_true rfl) (Nat.le_of_ble_eq_true rfl) (Nat.le_of_ble_eq_true rfl) hlocks (Nat.le_of_ble_eq_true rfl) (Nat.le_of_ble_eq_true rfl)
        · have hf := ip c4 hf
          refine lv_aload_n hx hb dX5_segment_33 rfl (lv_at hl 0 rfl) ?_
          refine rGetI hx hb hts iX5_segment_X5 hown hK hw (Nat.le_of_ble_eq_true rfl) en_pipe rfl 8 (by decide) (hts _ kX5_segment_3) rfl rfl dX5_segment_34 ?_
          refine lv_bipush (v := (6 : Int32)) hx hb dX5_segment_37 (by decide) ?_
          refine lv_icmp_lt (tgt := 52) hx hb dX5_segment_39 (by decide) (fun c5 => ?_) (fun c5 => ?_)
          · have hf := ip c5 hf
            refine lv_aload_n hx hb dX5_segment_52 rfl (lv_at hl 0 rfl) ?_
            refine rGet hx hb hts iX5_segment_X5 hown hK hw (Nat.le_of_ble_eq_true rfl) en_pipe rfl 0 (by decide) (hts _ kX5_segment_4) rfl rfl dX5_segment_53 ?_
            refine lv_aload_n hx hb dX5_segment_56 rfl (lv_at hl 0 rfl) ?_
            refine rGetI hx hb hts iX5_segment_X5 hown hK hw (Nat.le_of_ble_eq_true rfl) en_pipe rfl 8 (by decide) (hts _ kX5_segment_3) rfl rfl dX5_segment_57 ?_
            obtain ⟨hg6, hf⟩ := og hf
            refine rAald hx hb hK hw (k := 1) (Nat.le_of_ble_eq_true rfl) 2 en_segs rfl hg6 dX5_segment_60 ?_
            refine lv_iload_n hx hb dX5_segment_61 rfl (lv_at hl 1 rfl) ?_
            refine lv_iload_n hx hb dX5_segment_62 rfl (lv_at hl 2 rfl) ?_
            refine lv_iload_n hx hb dX5_segment_63 rfl (lv_at hl 3 rfl) ?_
            obtain ⟨o7, ho7, hf⟩ := ob hf
            refine rCallV (va_runVN (As := [.int x1, .int x2, .int x3]) (rest := []) ⟨hx, hb, hml, hown, hts⟩ (ctX2_tell (l := l) (D := D) (cy := cy) (a := a) ho7) ⟨va_cnB 3 hts gX5_segment_X2_tell_n87 rfl rfl rfl (hK.2.2.1 _ nwM_87) (hts _ kX5_segment_5) (by decide +kernel) ⟨Nat.le_of_ble_eq_true rfl, Nat.le_of_ble_eq_true rfl⟩, (hts _ kX5_segment_6), (hts _ kX5_segment_7)⟩ (pV hK hZ hw hS (rRecv hK hw (kseg (vi hg6)) (en_seg (vi hg6)) rfl)) rfl rfl hl.1 rfl (lv_room (Nat.le_of_ble_eq_true rfl)) dX5_segment_64 ⟨Nat.le_of_ble_eq_true rfl, Nat.le_of_ble_eq_true rfl⟩) hS (fun H locs hw hS => ?_)
            refine lv_aload_n hx hb dX5_segment_67 rfl (lv_at hl 0 rfl) ?_
            refine lv_dup hx hb dX5_segment_68 rfl ?_
            refine rGetI hx hb hts iX5_segment_X5 hown hK hw (Nat.le_of_ble_eq_true rfl) en_pipe rfl 8 (by decide) (hts _ kX5_segment_3) rfl rfl dX5_segment_69 ?_
            refine lv_iconst (v := (1 : Int32)) hx hb dX5_segment_72 (by decide) ?_
            refine lv_iadd hx hb dX5_segment_73 ?_
            refine rPut hx hb hts iX5_segment_X5 tyX5 tyX5_ok nmX5 hown hK hw hS (Nat.le_of_ble_eq_true rfl) en_pipe rfl 8 (by decide) (hts _ kX5_segment_3) rfl rfl rfl rfl (Nat.le_of_ble_eq_true rfl) rfl dX5_segment_74 (fun H locs hw hS => ?_)
            refine lv_aload_n hx hb dX5_segment_77 rfl (lv_at hl 0 rfl) ?_
            refine rGetI hx hb hts iX5_segment_X5 hown hK hw (Nat.le_of_ble_eq_true rfl) en_pipe rfl 8 (by decide) (hts _ kX5_segment_3) rfl rfl dX5_segment_78 ?_
            refine lv_iconst (v := (1 : Int32)) hx hb dX5_segment_81 (by decide) ?_
            refine lv_isub hx hb dX5_segment_82 ?_
            obtain rfl := Option.some.inj hf
            refine W.widen (k := 4) (n := 24) (Nat.le_of_ble_eq_true rfl) (Nat.le_of_ble_eq_true rfl) ?_
            exact rxIret hx hb hr hlocks hw hS dX5_segment_83
          · have hf := iq c5 hf
            obtain rfl := Option.some.inj hf
            exact rThrow hx hb hfl 2 (by decide) (by decide +kernel) hts hown hK hZ hw hS kX5_segment_1 kX5_segment_2 nwS_82 xX5_segment_2 xbad_2_84 xgood_2_84_80 hml hl dX5_segment_42 dX5_segment_45 dX5_segment_46 dX5_segment_48 dX5_segment_51 htb (Nat.le_of_ble_eq_true rfl) (Nat.le_of_ble_eq_true rfl) (Nat.le_of_ble_eq_true rfl) (Nat.le_of_ble_eq_true rfl) hlocks (Nat.le_of_ble_eq_true rfl) (Nat.le_of_ble_eq_true rfl)
set_option maxRecDepth 100000 in
set_option maxHeartbeats 4000000 in
theorem ctX5_segment {l : Launch} {D : va_G} {cy : Nat → ClassId} {a : Nat} (hfl : l.stackTraces = false) {x1 : Int32} {x2 : Int32} {x3 : Int32} {M : Mm} {out : Nat × Int32 × Mm} (hf : fX5_segment x1 x2 x3 M = some out) : vx_Met l yX5_segment wsX5_segment rX5_segment (Pre D cy a M [.ref (a + 0), .int x1, .int x2, .int x3]) (QIx D cy a out.1 out.2.1 out.2.2) (XT D cy a out.1 out.2.2) 4 24 (Aq a) := by
  refine vx_ofW (cc := cX5_segment) (maxL := 4) (ret := (some .int)) (by decide +kernel) rfl ?_
  intro p e s m args below meth c s₁ B hml htb hv
  obtain ⟨rfl, hw, hK, hZ⟩ := hv
  have hS : va_S (Aq a) s.heap s.heap [] := va_S.rf
  have hl := lv_entry ([.ref (a + 0), .int x1, .int x2, .int x3]) (n := 4) (Nat.le_of_ble_eq_true rfl)
  rw [lg_entry_eq]
  generalize (lg_sl ([.ref (a + 0), .int x1, .int x2, .int x3]) ++ List.replicate (4 - (lg_sl ([.ref (a + 0), .int x1, .int x2, .int x3])).length) Slot.unset).toArray = ls at hl ⊢
  exact bX5_segment_0 B.exec B.bytes B.returns hml (findClass_of_methodNamed B.named) (atoms_spec (ws := wsX5_segment) B.pre) B.notSynchronized hK hZ htb hfl _ _ _ _ _ _ _ hw hS hl hf
def rX5_checkIndex : Room := { frames := 6, cells := 1, slots := 6, locals := 90 }
noncomputable def fX5_checkIndex (x1 : Int32) (x2 : Int32) (M : Mm) : Option (Nat) := (if x1 < 0 then some (3) else (if x1 < x2 then some (0) else some (3)))
set_option maxRecDepth 20000 in
theorem kX5_checkIndex_0 : Cond.classLink RX5 144 "java/lang/IndexOutOfBoundsException" ∈ wsX5_checkIndex := by decide +kernel
set_option maxRecDepth 20000 in
theorem kX5_checkIndex_1 : Cond.initialized "java/lang/IndexOutOfBoundsException" ∈ wsX5_checkIndex := by decide +kernel
set_option maxRecDepth 20000 in
theorem xX5_checkIndex_3 : ∀ w ∈ (vx_atS RX5 148 (exN 3) ["java/lang/RuntimeException", "java/lang/Exception"]).filter goodWord, w ∈ wsX5_checkIndex := by decide +kernel
set_option maxRecDepth 100000 in
set_option maxHeartbeats 4000000 in
theorem bX5_checkIndex_0 {p : Program} {l : Launch} {e : Env} {s : State} {m : MethodId} {args : Array Value} {below : List Frame} {meth : Method} {c : Code} {D : va_G} {cy : Nat → ClassId} {a : Nat} (hx : p.tables.exec = Jvm.exec) (hb : c.code = cX5_checkIndex) (hr : meth.sig.returnType = none) (hml : c.maxLocals = 3) (hown : s.vm.findClass RX5 = some m.cls) (hts : ∀ w ∈ wsX5_checkIndex, w.before args s = true) (hlocks : meth.locks = false) (hK : KS D cy s) (hZ : ZZ a s s.heap) (htb : ∀ x ∈ c.exceptionTable.toList, False) (hfl : l.stackTraces = false) {out : Nat} : ∀ (x1 : Int32) (x2 : Int32) (M : Mm) (H : Heap) (locs : List Loc) (ls : Array Slot), HP D cy a M H → va_S (Aq a) s.heap H locs → lv_has ls 3 [(0, .ref (a + 0)), (1, .int x1), (2, .int x2)] → fX5_checkIndex x1 x2 M = some out → W p l e rX5_checkIndex s m args below meth c H locs 0 0 (vx_MQ below (QVx D cy a out M) (XT D cy a out M) args s 1 6 (Aq a)) (F0 m 0 ls []) := by
  intro x1 x2 M H locs ls hw hS hl hf
  unfold fX5_checkIndex at hf
  refine lv_iload_n hx hb dX5_checkIndex_0 rfl (lv_at hl 1 rfl) ?_
  refine lv_if_lt (tgt := 9) hx hb dX5_checkIndex_1 (by decide) (fun c1 => ?_) (fun c1 => ?_)
  · have hf := ip c1 hf
    obtain rfl := Option.some.inj hf
    exact rThrow hx hb hfl 3 (by decide) (by decide +kernel) hts hown hK hZ hw hS kX5_checkIndex_0 kX5_checkIndex_1 nwS_237 xX5_checkIndex_3 xbad_3_148 xgood_3_148_144 hml hl dX5_checkIndex_9 dX5_checkIndex_12 dX5_checkIndex_13 dX5_checkIndex_15 dX5_checkIndex_18 htb (Nat.le_of_ble_eq_true rfl) (Nat.le_of_ble_eq_true rfl) (Nat.le_of_ble_eq_true rfl) (Nat.le_of_ble_eq_true rfl) hlocks (Nat.le_of_ble_eq_true rfl) (Nat.le_of_ble_eq_true rfl)
  · have hf := iq c1 hf
    refine lv_iload_n hx hb dX5_checkIndex_4 rfl (lv_at hl 1 rfl) ?_
    refine lv_iload_n hx hb dX5_checkIndex_5 rfl (lv_at hl 2 rfl) ?_
    refine lv_icmp_lt (tgt := 19) hx hb dX5_checkIndex_6 (by decide) (fun c2 => ?_) (fun c2 => ?_)
    · have hf := ip c2 hf
      obtain rfl := Option.some.inj hf
      refine W.widen (k := 1) (n := 6) (Nat.le_of_ble_eq_true rfl) (Nat.le_of_ble_eq_true rfl) ?_
      exact rxVret hx hb hr hlocks hw hS dX5_checkIndex_19
    · have hf := iq c2 hf
      obtain rfl := Option.some.inj hf
      exact rThrow hx hb hfl 3 (by decide) (by decide +kernel) hts hown hK hZ hw hS kX5_checkIndex_0 kX5_checkIndex_1 nwS_237 xX5_checkIndex_3 xbad_3_148 xgood_3_148_144 hml hl dX5_checkIndex_9 dX5_checkIndex_12 dX5_checkIndex_13 dX5_checkIndex_15 dX5_checkIndex_18 htb (Nat.le_of_ble_eq_true rfl) (Nat.le_of_ble_eq_true rfl) (Nat.le_of_ble_eq_true rfl) (Nat.le_of_ble_eq_true rfl) hlocks (Nat.le_of_ble_eq_true rfl) (Nat.le_of_ble_eq_true rfl)
set_option maxRecDepth 100000 in
set_option maxHeartbeats 4000000 in
theorem ctX5_checkIndex {l : Launch} {D : va_G} {cy : Nat → ClassId} {a : Nat} (hfl : l.stackTraces = false) {x1 : Int32} {x2 : Int32} {M : Mm} {out : Nat} (hf : fX5_checkIndex x1 x2 M = some out) : vx_Met l yX5_checkIndex wsX5_checkIndex rX5_checkIndex (Pre D cy a M [.ref (a + 0), .int x1, .int x2]) (QVx D cy a out M) (XT D cy a out M) 1 6 (Aq a) := by
  refine vx_ofW (cc := cX5_checkIndex) (maxL := 3) (ret := none) (by decide +kernel) rfl ?_
  intro p e s m args below meth c s₁ B hml htb hv
  obtain ⟨rfl, hw, hK, hZ⟩ := hv
  have hS : va_S (Aq a) s.heap s.heap [] := va_S.rf
  have hl := lv_entry ([.ref (a + 0), .int x1, .int x2]) (n := 3) (Nat.le_of_ble_eq_true rfl)
  rw [lg_entry_eq]
  generalize (lg_sl ([.ref (a + 0), .int x1, .int x2]) ++ List.replicate (3 - (lg_sl ([.ref (a + 0), .int x1, .int x2])).length) Slot.unset).toArray = ls at hl ⊢
  exact bX5_checkIndex_0 B.exec B.bytes B.returns hml (findClass_of_methodNamed B.named) (atoms_spec (ws := wsX5_checkIndex) B.pre) B.notSynchronized hK hZ htb hfl _ _ _ _ _ _ hw hS hl hf
end
