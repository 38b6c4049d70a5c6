theorem dX0_init_0 : decode cX0_init 0 = .ok (.aload_n 0, 1) := by decide +kernel
theorem dX0_init_1 : decode cX0_init 1 = .ok (.invokespecial 3, 3) := by decide +kernel
theorem dX0_init_4 : decode cX0_init 4 = .ok (.aload_n 0, 1) := by decide +kernel
theorem dX0_init_5 : decode cX0_init 5 = .ok (.new 9, 3) := by decide +kernel
theorem dX0_init_8 : decode cX0_init 8 = .ok (.dup, 1) := by decide +kernel
theorem dX0_init_9 : decode cX0_init 9 = .ok (.bipush 6, 2) := by decide +kernel
theorem dX0_init_11 : decode cX0_init 11 = .ok (.invokespecial 11, 3) := by decide +kernel
theorem dX0_init_14 : decode cX0_init 14 = .ok (.putfield 14, 3) := by decide +kernel
theorem dX0_init_17 : decode cX0_init 17 = .ok (.aload_n 0, 1) := by decide +kernel
theorem dX0_init_18 : decode cX0_init 18 = .ok (.new 9, 3) := by decide +kernel
theorem dX0_init_21 : decode cX0_init 21 = .ok (.dup, 1) := by decide +kernel
theorem dX0_init_22 : decode cX0_init 22 = .ok (.bipush 6, 2) := by decide +kernel
theorem dX0_init_24 : decode cX0_init 24 = .ok (.invokespecial 11, 3) := by decide +kernel
theorem dX0_init_27 : decode cX0_init 27 = .ok (.putfield 20, 3) := by decide +kernel
theorem dX0_init_30 : decode cX0_init 30 = .ok (.aload_n 0, 1) := by decide +kernel
theorem dX0_init_31 : decode cX0_init 31 = .ok (.iconst 0, 1) := by decide +kernel
theorem dX0_init_32 : decode cX0_init 32 = .ok (.putfield 23, 3) := by decide +kernel
theorem dX0_init_35 : decode cX0_init 35 = .ok (.aload_n 0, 1) := by decide +kernel
theorem dX0_init_36 : decode cX0_init 36 = .ok (.iconst 0, 1) := by decide +kernel
theorem dX0_init_37 : decode cX0_init 37 = .ok (.putfield 27, 3) := by decide +kernel
theorem dX0_init_40 : decode cX0_init 40 = .ok (.aload_n 0, 1) := by decide +kernel
theorem dX0_init_41 : decode cX0_init 41 = .ok (.iconst 0, 1) := by decide +kernel
theorem dX0_init_42 : decode cX0_init 42 = .ok (.putfield 30, 3) := by decide +kernel
theorem dX0_init_45 : decode cX0_init 45 = .ok (.return_, 1) := by decide +kernel
theorem dX0_hasRaw_0 : decode cX0_hasRaw 0 = .ok (.iload_n 1, 1) := by decide +kernel
theorem dX0_hasRaw_1 : decode cX0_hasRaw 1 = .ok (.ifCond .lt 15, 3) := by decide +kernel
theorem dX0_hasRaw_4 : decode cX0_hasRaw 4 = .ok (.iload_n 1, 1) := by decide +kernel
theorem dX0_hasRaw_5 : decode cX0_hasRaw 5 = .ok (.aload_n 0, 1) := by decide +kernel
theorem dX0_hasRaw_6 : decode cX0_hasRaw 6 = .ok (.getfield 23, 3) := by decide +kernel
theorem dX0_hasRaw_9 : decode cX0_hasRaw 9 = .ok (.if_icmp .ge 7, 3) := by decide +kernel
theorem dX0_hasRaw_12 : decode cX0_hasRaw 12 = .ok (.iconst 1, 1) := by decide +kernel
theorem dX0_hasRaw_13 : decode cX0_hasRaw 13 = .ok (.goto 4, 3) := by decide +kernel
theorem dX0_hasRaw_16 : decode cX0_hasRaw 16 = .ok (.iconst 0, 1) := by decide +kernel
theorem dX0_hasRaw_17 : decode cX0_hasRaw 17 = .ok (.ireturn, 1) := by decide +kernel
theorem dX0_hasBatch_0 : decode cX0_hasBatch 0 = .ok (.iload_n 1, 1) := by decide +kernel
theorem dX0_hasBatch_1 : decode cX0_hasBatch 1 = .ok (.ifCond .lt 15, 3) := by decide +kernel
theorem dX0_hasBatch_4 : decode cX0_hasBatch 4 = .ok (.iload_n 1, 1) := by decide +kernel
theorem dX0_hasBatch_5 : decode cX0_hasBatch 5 = .ok (.aload_n 0, 1) := by decide +kernel
theorem dX0_hasBatch_6 : decode cX0_hasBatch 6 = .ok (.getfield 30, 3) := by decide +kernel
theorem dX0_hasBatch_9 : decode cX0_hasBatch 9 = .ok (.if_icmp .ge 7, 3) := by decide +kernel
theorem dX0_hasBatch_12 : decode cX0_hasBatch 12 = .ok (.iconst 1, 1) := by decide +kernel
theorem dX0_hasBatch_13 : decode cX0_hasBatch 13 = .ok (.goto 4, 3) := by decide +kernel
theorem dX0_hasBatch_16 : decode cX0_hasBatch 16 = .ok (.iconst 0, 1) := by decide +kernel
theorem dX0_hasBatch_17 : decode cX0_hasBatch 17 = .ok (.ireturn, 1) := by decide +kernel
theorem dX0_hasSet_0 : decode cX0_hasSet 0 = .ok (.iload_n 1, 1) := by decide +kernel
theorem dX0_hasSet_1 : decode cX0_hasSet 1 = .ok (.ifCond .le 16, 3) := by decide +kernel
theorem dX0_hasSet_4 : decode cX0_hasSet 4 = .ok (.iload_n 1, 1) := by decide +kernel
theorem dX0_hasSet_5 : decode cX0_hasSet 5 = .ok (.aload_n 0, 1) := by decide +kernel
theorem dX0_hasSet_6 : decode cX0_hasSet 6 = .ok (.getfield 23, 3) := by decide +kernel
theorem dX0_hasSet_9 : decode cX0_hasSet 9 = .ok (.ishr, 1) := by decide +kernel
theorem dX0_hasSet_10 : decode cX0_hasSet 10 = .ok (.ifCond .ne 7, 3) := by decide +kernel
theorem dX0_hasSet_13 : decode cX0_hasSet 13 = .ok (.iconst 1, 1) := by decide +kernel
theorem dX0_hasSet_14 : decode cX0_hasSet 14 = .ok (.goto 4, 3) := by decide +kernel
theorem dX0_hasSet_17 : decode cX0_hasSet 17 = .ok (.iconst 0, 1) := by decide +kernel
theorem dX0_hasSet_18 : decode cX0_hasSet 18 = .ok (.ireturn, 1) := by decide +kernel
theorem dX0_isRawFaulty_0 : decode cX0_isRawFaulty 0 = .ok (.aload_n 0, 1) := by decide +kernel
theorem dX0_isRawFaulty_1 : decode cX0_isRawFaulty 1 = .ok (.getfield 27, 3) := by decide +kernel
theorem dX0_isRawFaulty_4 : decode cX0_isRawFaulty 4 = .ok (.iload_n 1, 1) := by decide +kernel
theorem dX0_isRawFaulty_5 : decode cX0_isRawFaulty 5 = .ok (.invokestatic 33, 3) := by decide +kernel
theorem dX0_isRawFaulty_8 : decode cX0_isRawFaulty 8 = .ok (.ireturn, 1) := by decide +kernel
theorem dX0_isSpoilt_0 : decode cX0_isSpoilt 0 = .ok (.aload_n 0, 1) := by decide +kernel
theorem dX0_isSpoilt_1 : decode cX0_isSpoilt 1 = .ok (.getfield 14, 3) := by decide +kernel
theorem dX0_isSpoilt_4 : decode cX0_isSpoilt 4 = .ok (.iload_n 1, 1) := by decide +kernel
theorem dX0_isSpoilt_5 : decode cX0_isSpoilt 5 = .ok (.invokevirtual 37, 3) := by decide +kernel
theorem dX0_isSpoilt_8 : decode cX0_isSpoilt 8 = .ok (.aload_n 0, 1) := by decide +kernel
theorem dX0_isSpoilt_9 : decode cX0_isSpoilt 9 = .ok (.getfield 27, 3) := by decide +kernel
theorem dX0_isSpoilt_12 : decode cX0_isSpoilt 12 = .ok (.iand, 1) := by decide +kernel
theorem dX0_isSpoilt_13 : decode cX0_isSpoilt 13 = .ok (.ifCond .eq 7, 3) := by decide +kernel
theorem dX0_isSpoilt_16 : decode cX0_isSpoilt 16 = .ok (.iconst 1, 1) := by decide +kernel
theorem dX0_isSpoilt_17 : decode cX0_isSpoilt 17 = .ok (.goto 4, 3) := by decide +kernel
theorem dX0_isSpoilt_20 : decode cX0_isSpoilt 20 = .ok (.iconst 0, 1) := by decide +kernel
theorem dX0_isSpoilt_21 : decode cX0_isSpoilt 21 = .ok (.ireturn, 1) := by decide +kernel
theorem dX0_addOneRaw_0 : decode cX0_addOneRaw 0 = .ok (.aload_n 0, 1) := by decide +kernel
theorem dX0_addOneRaw_1 : decode cX0_addOneRaw 1 = .ok (.dup, 1) := by decide +kernel
theorem dX0_addOneRaw_2 : decode cX0_addOneRaw 2 = .ok (.getfield 23, 3) := by decide +kernel
theorem dX0_addOneRaw_5 : decode cX0_addOneRaw 5 = .ok (.iconst 1, 1) := by decide +kernel
theorem dX0_addOneRaw_6 : decode cX0_addOneRaw 6 = .ok (.iadd, 1) := by decide +kernel
theorem dX0_addOneRaw_7 : decode cX0_addOneRaw 7 = .ok (.putfield 23, 3) := by decide +kernel
theorem dX0_addOneRaw_10 : decode cX0_addOneRaw 10 = .ok (.aload_n 0, 1) := by decide +kernel
theorem dX0_addOneRaw_11 : decode cX0_addOneRaw 11 = .ok (.getfield 23, 3) := by decide +kernel
theorem dX0_addOneRaw_14 : decode cX0_addOneRaw 14 = .ok (.iconst 1, 1) := by decide +kernel
theorem dX0_addOneRaw_15 : decode cX0_addOneRaw 15 = .ok (.isub, 1) := by decide +kernel
theorem dX0_addOneRaw_16 : decode cX0_addOneRaw 16 = .ok (.ireturn, 1) := by decide +kernel
theorem dX0_addBatch_0 : decode cX0_addBatch 0 = .ok (.aload_n 0, 1) := by decide +kernel
theorem dX0_addBatch_1 : decode cX0_addBatch 1 = .ok (.getfield 14, 3) := by decide +kernel
theorem dX0_addBatch_4 : decode cX0_addBatch 4 = .ok (.aload_n 0, 1) := by decide +kernel
theorem dX0_addBatch_5 : decode cX0_addBatch 5 = .ok (.getfield 30, 3) := by decide +kernel
theorem dX0_addBatch_8 : decode cX0_addBatch 8 = .ok (.iload_n 1, 1) := by decide +kernel
theorem dX0_addBatch_9 : decode cX0_addBatch 9 = .ok (.invokevirtual 41, 3) := by decide +kernel
theorem dX0_addBatch_12 : decode cX0_addBatch 12 = .ok (.aload_n 0, 1) := by decide +kernel
theorem dX0_addBatch_13 : decode cX0_addBatch 13 = .ok (.getfield 20, 3) := by decide +kernel
theorem dX0_addBatch_16 : decode cX0_addBatch 16 = .ok (.aload_n 0, 1) := by decide +kernel
theorem dX0_addBatch_17 : decode cX0_addBatch 17 = .ok (.getfield 30, 3) := by decide +kernel
theorem dX0_addBatch_20 : decode cX0_addBatch 20 = .ok (.iload_n 2, 1) := by decide +kernel
theorem dX0_addBatch_21 : decode cX0_addBatch 21 = .ok (.invokevirtual 41, 3) := by decide +kernel
theorem dX0_addBatch_24 : decode cX0_addBatch 24 = .ok (.aload_n 0, 1) := by decide +kernel
theorem dX0_addBatch_25 : decode cX0_addBatch 25 = .ok (.dup, 1) := by decide +kernel
theorem dX0_addBatch_26 : decode cX0_addBatch 26 = .ok (.getfield 30, 3) := by decide +kernel
theorem dX0_addBatch_29 : decode cX0_addBatch 29 = .ok (.iconst 1, 1) := by decide +kernel
theorem dX0_addBatch_30 : decode cX0_addBatch 30 = .ok (.iadd, 1) := by decide +kernel
theorem dX0_addBatch_31 : decode cX0_addBatch 31 = .ok (.putfield 30, 3) := by decide +kernel
theorem dX0_addBatch_34 : decode cX0_addBatch 34 = .ok (.aload_n 0, 1) := by decide +kernel
theorem dX0_addBatch_35 : decode cX0_addBatch 35 = .ok (.getfield 30, 3) := by decide +kernel
theorem dX0_addBatch_38 : decode cX0_addBatch 38 = .ok (.iconst 1, 1) := by decide +kernel
theorem dX0_addBatch_39 : decode cX0_addBatch 39 = .ok (.isub, 1) := by decide +kernel
theorem dX0_addBatch_40 : decode cX0_addBatch 40 = .ok (.ireturn, 1) := by decide +kernel
theorem dX0_markFaulty_0 : decode cX0_markFaulty 0 = .ok (.aload_n 0, 1) := by decide +kernel
theorem dX0_markFaulty_1 : decode cX0_markFaulty 1 = .ok (.dup, 1) := by decide +kernel
theorem dX0_markFaulty_2 : decode cX0_markFaulty 2 = .ok (.getfield 27, 3) := by decide +kernel
theorem dX0_markFaulty_5 : decode cX0_markFaulty 5 = .ok (.iconst 1, 1) := by decide +kernel
theorem dX0_markFaulty_6 : decode cX0_markFaulty 6 = .ok (.iload_n 1, 1) := by decide +kernel
theorem dX0_markFaulty_7 : decode cX0_markFaulty 7 = .ok (.ishl, 1) := by decide +kernel
theorem dX0_markFaulty_8 : decode cX0_markFaulty 8 = .ok (.ior, 1) := by decide +kernel
theorem dX0_markFaulty_9 : decode cX0_markFaulty 9 = .ok (.putfield 27, 3) := by decide +kernel
theorem dX0_markFaulty_12 : decode cX0_markFaulty 12 = .ok (.return_, 1) := by decide +kernel
theorem dX0_copyFrom_0 : decode cX0_copyFrom 0 = .ok (.aload_n 0, 1) := by decide +kernel
theorem dX0_copyFrom_1 : decode cX0_copyFrom 1 = .ok (.getfield 14, 3) := by decide +kernel
theorem dX0_copyFrom_4 : decode cX0_copyFrom 4 = .ok (.aload_n 1, 1) := by decide +kernel
theorem dX0_copyFrom_5 : decode cX0_copyFrom 5 = .ok (.getfield 14, 3) := by decide +kernel
theorem dX0_copyFrom_8 : decode cX0_copyFrom 8 = .ok (.invokevirtual 45, 3) := by decide +kernel
theorem dX0_copyFrom_11 : decode cX0_copyFrom 11 = .ok (.aload_n 0, 1) := by decide +kernel
theorem dX0_copyFrom_12 : decode cX0_copyFrom 12 = .ok (.getfield 20, 3) := by decide +kernel
theorem dX0_copyFrom_15 : decode cX0_copyFrom 15 = .ok (.aload_n 1, 1) := by decide +kernel
theorem dX0_copyFrom_16 : decode cX0_copyFrom 16 = .ok (.getfield 20, 3) := by decide +kernel
theorem dX0_copyFrom_19 : decode cX0_copyFrom 19 = .ok (.invokevirtual 45, 3) := by decide +kernel
theorem dX0_copyFrom_22 : decode cX0_copyFrom 22 = .ok (.aload_n 0, 1) := by decide +kernel
theorem dX0_copyFrom_23 : decode cX0_copyFrom 23 = .ok (.aload_n 1, 1) := by decide +kernel
theorem dX0_copyFrom_24 : decode cX0_copyFrom 24 = .ok (.getfield 23, 3) := by decide +kernel
theorem dX0_copyFrom_27 : decode cX0_copyFrom 27 = .ok (.putfield 23, 3) := by decide +kernel
theorem dX0_copyFrom_30 : decode cX0_copyFrom 30 = .ok (.aload_n 0, 1) := by decide +kernel
theorem dX0_copyFrom_31 : decode cX0_copyFrom 31 = .ok (.aload_n 1, 1) := by decide +kernel
theorem dX0_copyFrom_32 : decode cX0_copyFrom 32 = .ok (.getfield 27, 3) := by decide +kernel
theorem dX0_copyFrom_35 : decode cX0_copyFrom 35 = .ok (.putfield 27, 3) := by decide +kernel
theorem dX0_copyFrom_38 : decode cX0_copyFrom 38 = .ok (.aload_n 0, 1) := by decide +kernel
theorem dX0_copyFrom_39 : decode cX0_copyFrom 39 = .ok (.aload_n 1, 1) := by decide +kernel
theorem dX0_copyFrom_40 : decode cX0_copyFrom 40 = .ok (.getfield 30, 3) := by decide +kernel
theorem dX0_copyFrom_43 : decode cX0_copyFrom 43 = .ok (.putfield 30, 3) := by decide +kernel
theorem dX0_copyFrom_46 : decode cX0_copyFrom 46 = .ok (.return_, 1) := by decide +kernel
theorem dX1_init_0 : decode cX1_init 0 = .ok (.aload_n 0, 1) := by decide +kernel
theorem dX1_init_1 : decode cX1_init 1 = .ok (.invokespecial 5, 3) := by decide +kernel
theorem dX1_init_4 : decode cX1_init 4 = .ok (.aload_n 0, 1) := by decide +kernel
theorem dX1_init_5 : decode cX1_init 5 = .ok (.new 11, 3) := by decide +kernel
theorem dX1_init_8 : decode cX1_init 8 = .ok (.dup, 1) := by decide +kernel
theorem dX1_init_9 : decode cX1_init 9 = .ok (.bipush 60, 2) := by decide +kernel
theorem dX1_init_11 : decode cX1_init 11 = .ok (.invokespecial 13, 3) := by decide +kernel
theorem dX1_init_14 : decode cX1_init 14 = .ok (.putfield 16, 3) := by decide +kernel
theorem dX1_init_17 : decode cX1_init 17 = .ok (.aload_n 0, 1) := by decide +kernel
theorem dX1_init_18 : decode cX1_init 18 = .ok (.new 20, 3) := by decide +kernel
theorem dX1_init_21 : decode cX1_init 21 = .ok (.dup, 1) := by decide +kernel
theorem dX1_init_22 : decode cX1_init 22 = .ok (.bipush 20, 2) := by decide +kernel
theorem dX1_init_24 : decode cX1_init 24 = .ok (.invokespecial 22, 3) := by decide +kernel
theorem dX1_init_27 : decode cX1_init 27 = .ok (.putfield 23, 3) := by decide +kernel
theorem dX1_init_30 : decode cX1_init 30 = .ok (.aload_n 0, 1) := by decide +kernel
theorem dX1_init_31 : decode cX1_init 31 = .ok (.new 20, 3) := by decide +kernel
theorem dX1_init_34 : decode cX1_init 34 = .ok (.dup, 1) := by decide +kernel
theorem dX1_init_35 : decode cX1_init 35 = .ok (.bipush 80, 2) := by decide +kernel
theorem dX1_init_37 : decode cX1_init 37 = .ok (.invokespecial 22, 3) := by decide +kernel
theorem dX1_init_40 : decode cX1_init 40 = .ok (.putfield 27, 3) := by decide +kernel
theorem dX1_init_43 : decode cX1_init 43 = .ok (.aload_n 0, 1) := by decide +kernel
theorem dX1_init_44 : decode cX1_init 44 = .ok (.iconst 0, 1) := by decide +kernel
theorem dX1_init_45 : decode cX1_init 45 = .ok (.putfield 30, 3) := by decide +kernel
theorem dX1_init_48 : decode cX1_init 48 = .ok (.aload_n 0, 1) := by decide +kernel
theorem dX1_init_49 : decode cX1_init 49 = .ok (.iconst 0, 1) := by decide +kernel
theorem dX1_init_50 : decode cX1_init 50 = .ok (.putfield 34, 3) := by decide +kernel
theorem dX1_init_53 : decode cX1_init 53 = .ok (.aload_n 0, 1) := by decide +kernel
theorem dX1_init_54 : decode cX1_init 54 = .ok (.iconst 0, 1) := by decide +kernel
theorem dX1_init_55 : decode cX1_init 55 = .ok (.putfield 37, 3) := by decide +kernel
theorem dX1_init_58 : decode cX1_init 58 = .ok (.return_, 1) := by decide +kernel
theorem dX1_argument_0 : decode cX1_argument 0 = .ok (.aload_n 0, 1) := by decide +kernel
theorem dX1_argument_1 : decode cX1_argument 1 = .ok (.getfield 27, 3) := by decide +kernel
theorem dX1_argument_4 : decode cX1_argument 4 = .ok (.iload_n 1, 1) := by decide +kernel
theorem dX1_argument_5 : decode cX1_argument 5 = .ok (.iconst 4, 1) := by decide +kernel
theorem dX1_argument_6 : decode cX1_argument 6 = .ok (.imul, 1) := by decide +kernel
theorem dX1_argument_7 : decode cX1_argument 7 = .ok (.iload_n 2, 1) := by decide +kernel
theorem dX1_argument_8 : decode cX1_argument 8 = .ok (.iadd, 1) := by decide +kernel
theorem dX1_argument_9 : decode cX1_argument 9 = .ok (.invokevirtual 40, 3) := by decide +kernel
theorem dX1_argument_12 : decode cX1_argument 12 = .ok (.ireturn, 1) := by decide +kernel
theorem dX1_read_0 : decode cX1_read 0 = .ok (.aload_n 0, 1) := by decide +kernel
theorem dX1_read_1 : decode cX1_read 1 = .ok (.getfield 16, 3) := by decide +kernel
theorem dX1_read_4 : decode cX1_read 4 = .ok (.aload_n 1, 1) := by decide +kernel
theorem dX1_read_5 : decode cX1_read 5 = .ok (.invokevirtual 44, 3) := by decide +kernel
theorem dX1_read_8 : decode cX1_read 8 = .ok (.aload_n 0, 1) := by decide +kernel
theorem dX1_read_9 : decode cX1_read 9 = .ok (.iconst 0, 1) := by decide +kernel
theorem dX1_read_10 : decode cX1_read 10 = .ok (.putfield 37, 3) := by decide +kernel
theorem dX1_read_13 : decode cX1_read 13 = .ok (.iconst 0, 1) := by decide +kernel
theorem dX1_read_14 : decode cX1_read 14 = .ok (.istore_n 2, 1) := by decide +kernel
theorem dX1_read_15 : decode cX1_read 15 = .ok (.iload_n 2, 1) := by decide +kernel
theorem dX1_read_16 : decode cX1_read 16 = .ok (.bipush 20, 2) := by decide +kernel
theorem dX1_read_18 : decode cX1_read 18 = .ok (.if_icmp .ge 76, 3) := by decide +kernel
theorem dX1_read_21 : decode cX1_read 21 = .ok (.aload_n 0, 1) := by decide +kernel
theorem dX1_read_22 : decode cX1_read 22 = .ok (.iload_n 2, 1) := by decide +kernel
theorem dX1_read_23 : decode cX1_read 23 = .ok (.putfield 34, 3) := by decide +kernel
theorem dX1_read_26 : decode cX1_read 26 = .ok (.aload_n 0, 1) := by decide +kernel
theorem dX1_read_27 : decode cX1_read 27 = .ok (.iload_n 2, 1) := by decide +kernel
theorem dX1_read_28 : decode cX1_read 28 = .ok (.iconst 1, 1) := by decide +kernel
theorem dX1_read_29 : decode cX1_read 29 = .ok (.iadd, 1) := by decide +kernel
theorem dX1_read_30 : decode cX1_read 30 = .ok (.putfield 30, 3) := by decide +kernel
theorem dX1_read_33 : decode cX1_read 33 = .ok (.aload_n 0, 1) := by decide +kernel
theorem dX1_read_34 : decode cX1_read 34 = .ok (.invokevirtual 48, 3) := by decide +kernel
theorem dX1_read_37 : decode cX1_read 37 = .ok (.ifCond .ne 5, 3) := by decide +kernel
theorem dX1_read_40 : decode cX1_read 40 = .ok (.iconst 0, 1) := by decide +kernel
theorem dX1_read_41 : decode cX1_read 41 = .ok (.ireturn, 1) := by decide +kernel
theorem dX1_read_42 : decode cX1_read 42 = .ok (.aload_n 0, 1) := by decide +kernel
theorem dX1_read_43 : decode cX1_read 43 = .ok (.getfield 16, 3) := by decide +kernel
theorem dX1_read_46 : decode cX1_read 46 = .ok (.aload_n 0, 1) := by decide +kernel
theorem dX1_read_47 : decode cX1_read 47 = .ok (.getfield 37, 3) := by decide +kernel
theorem dX1_read_50 : decode cX1_read 50 = .ok (.invokevirtual 52, 3) := by decide +kernel
theorem dX1_read_53 : decode cX1_read 53 = .ok (.bipush 59, 2) := by decide +kernel
theorem dX1_read_55 : decode cX1_read 55 = .ok (.if_icmp .eq 23, 3) := by decide +kernel
theorem dX1_read_58 : decode cX1_read 58 = .ok (.aload_n 0, 1) := by decide +kernel
theorem dX1_read_59 : decode cX1_read 59 = .ok (.getfield 37, 3) := by decide +kernel
theorem dX1_read_62 : decode cX1_read 62 = .ok (.aload_n 0, 1) := by decide +kernel
theorem dX1_read_63 : decode cX1_read 63 = .ok (.getfield 16, 3) := by decide +kernel
theorem dX1_read_66 : decode cX1_read 66 = .ok (.getfield 56, 3) := by decide +kernel
theorem dX1_read_69 : decode cX1_read 69 = .ok (.if_icmp .ne 7, 3) := by decide +kernel
theorem dX1_read_72 : decode cX1_read 72 = .ok (.iconst 1, 1) := by decide +kernel
theorem dX1_read_73 : decode cX1_read 73 = .ok (.goto 4, 3) := by decide +kernel
theorem dX1_read_76 : decode cX1_read 76 = .ok (.iconst 0, 1) := by decide +kernel
theorem dX1_read_77 : decode cX1_read 77 = .ok (.ireturn, 1) := by decide +kernel
theorem dX1_read_78 : decode cX1_read 78 = .ok (.aload_n 0, 1) := by decide +kernel
theorem dX1_read_79 : decode cX1_read 79 = .ok (.dup, 1) := by decide +kernel
theorem dX1_read_80 : decode cX1_read 80 = .ok (.getfield 37, 3) := by decide +kernel
theorem dX1_read_83 : decode cX1_read 83 = .ok (.iconst 1, 1) := by decide +kernel
theorem dX1_read_84 : decode cX1_read 84 = .ok (.iadd, 1) := by decide +kernel
theorem dX1_read_85 : decode cX1_read 85 = .ok (.putfield 37, 3) := by decide +kernel
theorem dX1_read_88 : decode cX1_read 88 = .ok (.iinc 2 1, 3) := by decide +kernel
theorem dX1_read_91 : decode cX1_read 91 = .ok (.goto (-76), 3) := by decide +kernel
theorem dX1_read_94 : decode cX1_read 94 = .ok (.iconst 0, 1) := by decide +kernel
theorem dX1_read_95 : decode cX1_read 95 = .ok (.ireturn, 1) := by decide +kernel
theorem dX1_readCommand_0 : decode cX1_readCommand 0 = .ok (.aload_n 0, 1) := by decide +kernel
theorem dX1_readCommand_1 : decode cX1_readCommand 1 = .ok (.invokevirtual 59, 3) := by decide +kernel
theorem dX1_readCommand_4 : decode cX1_readCommand 4 = .ok (.istore_n 1, 1) := by decide +kernel
theorem dX1_readCommand_5 : decode cX1_readCommand 5 = .ok (.aload_n 0, 1) := by decide +kernel
theorem dX1_readCommand_6 : decode cX1_readCommand 6 = .ok (.getfield 23, 3) := by decide +kernel
theorem dX1_readCommand_9 : decode cX1_readCommand 9 = .ok (.aload_n 0, 1) := by decide +kernel
theorem dX1_readCommand_10 : decode cX1_readCommand 10 = .ok (.getfield 34, 3) := by decide +kernel
theorem dX1_readCommand_13 : decode cX1_readCommand 13 = .ok (.iload_n 1, 1) := by decide +kernel
theorem dX1_readCommand_14 : decode cX1_readCommand 14 = .ok (.invokevirtual 63, 3) := by decide +kernel
theorem dX1_readCommand_17 : decode cX1_readCommand 17 = .ok (.iload_n 1, 1) := by decide +kernel
theorem dX1_readCommand_18 : decode cX1_readCommand 18 = .ok (.tableswitch 117 0 5 #[38, 40, 62, 100, 106, 111], 38) := by decide +kernel
theorem dX1_readCommand_56 : decode cX1_readCommand 56 = .ok (.iconst 1, 1) := by decide +kernel
theorem dX1_readCommand_57 : decode cX1_readCommand 57 = .ok (.ireturn, 1) := by decide +kernel
theorem dX1_readCommand_58 : decode cX1_readCommand 58 = .ok (.aload_n 0, 1) := by decide +kernel
theorem dX1_readCommand_59 : decode cX1_readCommand 59 = .ok (.iconst 0, 1) := by decide +kernel
theorem dX1_readCommand_60 : decode cX1_readCommand 60 = .ok (.invokevirtual 67, 3) := by decide +kernel
theorem dX1_readCommand_63 : decode cX1_readCommand 63 = .ok (.ifCond .eq 15, 3) := by decide +kernel
theorem dX1_readCommand_66 : decode cX1_readCommand 66 = .ok (.aload_n 0, 1) := by decide +kernel
theorem dX1_readCommand_67 : decode cX1_readCommand 67 = .ok (.iconst 1, 1) := by decide +kernel
theorem dX1_readCommand_68 : decode cX1_readCommand 68 = .ok (.invokevirtual 67, 3) := by decide +kernel
theorem dX1_readCommand_71 : decode cX1_readCommand 71 = .ok (.ifCond .eq 7, 3) := by decide +kernel
theorem dX1_readCommand_74 : decode cX1_readCommand 74 = .ok (.iconst 1, 1) := by decide +kernel
theorem dX1_readCommand_75 : decode cX1_readCommand 75 = .ok (.goto 4, 3) := by decide +kernel
theorem dX1_readCommand_78 : decode cX1_readCommand 78 = .ok (.iconst 0, 1) := by decide +kernel
theorem dX1_readCommand_79 : decode cX1_readCommand 79 = .ok (.ireturn, 1) := by decide +kernel
theorem dX1_readCommand_80 : decode cX1_readCommand 80 = .ok (.aload_n 0, 1) := by decide +kernel
theorem dX1_readCommand_81 : decode cX1_readCommand 81 = .ok (.iconst 0, 1) := by decide +kernel
theorem dX1_readCommand_82 : decode cX1_readCommand 82 = .ok (.invokevirtual 71, 3) := by decide +kernel
theorem dX1_readCommand_85 : decode cX1_readCommand 85 = .ok (.ifCond .eq 31, 3) := by decide +kernel
theorem dX1_readCommand_88 : decode cX1_readCommand 88 = .ok (.aload_n 0, 1) := by decide +kernel
theorem dX1_readCommand_89 : decode cX1_readCommand 89 = .ok (.iconst 1, 1) := by decide +kernel
theorem dX1_readCommand_90 : decode cX1_readCommand 90 = .ok (.invokevirtual 71, 3) := by decide +kernel
theorem dX1_readCommand_93 : decode cX1_readCommand 93 = .ok (.ifCond .eq 23, 3) := by decide +kernel
theorem dX1_readCommand_96 : decode cX1_readCommand 96 = .ok (.aload_n 0, 1) := by decide +kernel
theorem dX1_readCommand_97 : decode cX1_readCommand 97 = .ok (.iconst 2, 1) := by decide +kernel
theorem dX1_readCommand_98 : decode cX1_readCommand 98 = .ok (.invokevirtual 71, 3) := by decide +kernel
theorem dX1_readCommand_101 : decode cX1_readCommand 101 = .ok (.ifCond .eq 15, 3) := by decide +kernel
theorem dX1_readCommand_104 : decode cX1_readCommand 104 = .ok (.aload_n 0, 1) := by decide +kernel
theorem dX1_readCommand_105 : decode cX1_readCommand 105 = .ok (.iconst 3, 1) := by decide +kernel
theorem dX1_readCommand_106 : decode cX1_readCommand 106 = .ok (.invokevirtual 71, 3) := by decide +kernel
theorem dX1_readCommand_109 : decode cX1_readCommand 109 = .ok (.ifCond .eq 7, 3) := by decide +kernel
theorem dX1_readCommand_112 : decode cX1_readCommand 112 = .ok (.iconst 1, 1) := by decide +kernel
theorem dX1_readCommand_113 : decode cX1_readCommand 113 = .ok (.goto 4, 3) := by decide +kernel
theorem dX1_readCommand_116 : decode cX1_readCommand 116 = .ok (.iconst 0, 1) := by decide +kernel
theorem dX1_readCommand_117 : decode cX1_readCommand 117 = .ok (.ireturn, 1) := by decide +kernel
theorem dX1_readCommand_118 : decode cX1_readCommand 118 = .ok (.aload_n 0, 1) := by decide +kernel
theorem dX1_readCommand_119 : decode cX1_readCommand 119 = .ok (.iconst 0, 1) := by decide +kernel
theorem dX1_readCommand_120 : decode cX1_readCommand 120 = .ok (.invokevirtual 67, 3) := by decide +kernel
theorem dX1_readCommand_123 : decode cX1_readCommand 123 = .ok (.ireturn, 1) := by decide +kernel
theorem dX1_readCommand_124 : decode cX1_readCommand 124 = .ok (.aload_n 0, 1) := by decide +kernel
theorem dX1_readCommand_125 : decode cX1_readCommand 125 = .ok (.invokevirtual 74, 3) := by decide +kernel
theorem dX1_readCommand_128 : decode cX1_readCommand 128 = .ok (.ireturn, 1) := by decide +kernel
theorem dX1_readCommand_129 : decode cX1_readCommand 129 = .ok (.aload_n 0, 1) := by decide +kernel
theorem dX1_readCommand_130 : decode cX1_readCommand 130 = .ok (.iconst 0, 1) := by decide +kernel
theorem dX1_readCommand_131 : decode cX1_readCommand 131 = .ok (.invokevirtual 71, 3) := by decide +kernel
theorem dX1_readCommand_134 : decode cX1_readCommand 134 = .ok (.ireturn, 1) := by decide +kernel
theorem dX1_readCommand_135 : decode cX1_readCommand 135 = .ok (.iconst 0, 1) := by decide +kernel
theorem dX1_readCommand_136 : decode cX1_readCommand 136 = .ok (.ireturn, 1) := by decide +kernel
theorem dX1_readKind_0 : decode cX1_readKind 0 = .ok (.iconst 0, 1) := by decide +kernel
theorem dX1_readKind_1 : decode cX1_readKind 1 = .ok (.istore_n 1, 1) := by decide +kernel
theorem dX1_readKind_2 : decode cX1_readKind 2 = .ok (.iconst 0, 1) := by decide +kernel
theorem dX1_readKind_3 : decode cX1_readKind 3 = .ok (.istore_n 2, 1) := by decide +kernel
theorem dX1_readKind_4 : decode cX1_readKind 4 = .ok (.iload_n 2, 1) := by decide +kernel
theorem dX1_readKind_5 : decode cX1_readKind 5 = .ok (.bipush 6, 2) := by decide +kernel
theorem dX1_readKind_7 : decode cX1_readKind 7 = .ok (.if_icmp .ge 50, 3) := by decide +kernel
theorem dX1_readKind_10 : decode cX1_readKind 10 = .ok (.iload_n 2, 1) := by decide +kernel
theorem dX1_readKind_11 : decode cX1_readKind 11 = .ok (.invokestatic 77, 3) := by decide +kernel
theorem dX1_readKind_14 : decode cX1_readKind 14 = .ok (.astore_n 3, 1) := by decide +kernel
theorem dX1_readKind_15 : decode cX1_readKind 15 = .ok (.aload_n 0, 1) := by decide +kernel
theorem dX1_readKind_16 : decode cX1_readKind 16 = .ok (.aload_n 3, 1) := by decide +kernel
theorem dX1_readKind_17 : decode cX1_readKind 17 = .ok (.invokevirtual 81, 3) := by decide +kernel
theorem dX1_readKind_20 : decode cX1_readKind 20 = .ok (.istore 4, 2) := by decide +kernel
theorem dX1_readKind_22 : decode cX1_readKind 22 = .ok (.iload_n 1, 1) := by decide +kernel
theorem dX1_readKind_23 : decode cX1_readKind 23 = .ok (.iload 4, 2) := by decide +kernel
theorem dX1_readKind_25 : decode cX1_readKind 25 = .ok (.invokestatic 85, 3) := by decide +kernel
theorem dX1_readKind_28 : decode cX1_readKind 28 = .ok (.istore_n 1, 1) := by decide +kernel
theorem dX1_readKind_29 : decode cX1_readKind 29 = .ok (.iload 4, 2) := by decide +kernel
theorem dX1_readKind_31 : decode cX1_readKind 31 = .ok (.aload_n 3, 1) := by decide +kernel
theorem dX1_readKind_32 : decode cX1_readKind 32 = .ok (.invokevirtual 91, 3) := by decide +kernel
theorem dX1_readKind_35 : decode cX1_readKind 35 = .ok (.if_icmp .ne 16, 3) := by decide +kernel
theorem dX1_readKind_38 : decode cX1_readKind 38 = .ok (.aload_n 0, 1) := by decide +kernel
theorem dX1_readKind_39 : decode cX1_readKind 39 = .ok (.dup, 1) := by decide +kernel
theorem dX1_readKind_40 : decode cX1_readKind 40 = .ok (.getfield 37, 3) := by decide +kernel
theorem dX1_readKind_43 : decode cX1_readKind 43 = .ok (.iload 4, 2) := by decide +kernel
theorem dX1_readKind_45 : decode cX1_readKind 45 = .ok (.iadd, 1) := by decide +kernel
theorem dX1_readKind_46 : decode cX1_readKind 46 = .ok (.putfield 37, 3) := by decide +kernel
theorem dX1_readKind_49 : decode cX1_readKind 49 = .ok (.iload_n 2, 1) := by decide +kernel
theorem dX1_readKind_50 : decode cX1_readKind 50 = .ok (.ireturn, 1) := by decide +kernel
theorem dX1_readKind_51 : decode cX1_readKind 51 = .ok (.iinc 2 1, 3) := by decide +kernel
theorem dX1_readKind_54 : decode cX1_readKind 54 = .ok (.goto (-50), 3) := by decide +kernel
theorem dX1_readKind_57 : decode cX1_readKind 57 = .ok (.aload_n 0, 1) := by decide +kernel
theorem dX1_readKind_58 : decode cX1_readKind 58 = .ok (.dup, 1) := by decide +kernel
theorem dX1_readKind_59 : decode cX1_readKind 59 = .ok (.getfield 37, 3) := by decide +kernel
theorem dX1_readKind_62 : decode cX1_readKind 62 = .ok (.iload_n 1, 1) := by decide +kernel
theorem dX1_readKind_63 : decode cX1_readKind 63 = .ok (.iadd, 1) := by decide +kernel
theorem dX1_readKind_64 : decode cX1_readKind 64 = .ok (.putfield 37, 3) := by decide +kernel
theorem dX1_readKind_67 : decode cX1_readKind 67 = .ok (.iconst (-1), 1) := by decide +kernel
theorem dX1_readKind_68 : decode cX1_readKind 68 = .ok (.ireturn, 1) := by decide +kernel
theorem dX1_nameOf_0 : decode cX1_nameOf 0 = .ok (.iload_n 0, 1) := by decide +kernel
theorem dX1_nameOf_1 : decode cX1_nameOf 1 = .ok (.tableswitch 50 0 4 #[35, 38, 41, 44, 47], 35) := by decide +kernel
theorem dX1_nameOf_36 : decode cX1_nameOf 36 = .ok (.ldc 95, 2) := by decide +kernel
theorem dX1_nameOf_38 : decode cX1_nameOf 38 = .ok (.areturn, 1) := by decide +kernel
theorem dX1_nameOf_39 : decode cX1_nameOf 39 = .ok (.ldc 97, 2) := by decide +kernel
theorem dX1_nameOf_41 : decode cX1_nameOf 41 = .ok (.areturn, 1) := by decide +kernel
theorem dX1_nameOf_42 : decode cX1_nameOf 42 = .ok (.ldc 99, 2) := by decide +kernel
theorem dX1_nameOf_44 : decode cX1_nameOf 44 = .ok (.areturn, 1) := by decide +kernel
theorem dX1_nameOf_45 : decode cX1_nameOf 45 = .ok (.ldc 101, 2) := by decide +kernel
theorem dX1_nameOf_47 : decode cX1_nameOf 47 = .ok (.areturn, 1) := by decide +kernel
theorem dX1_nameOf_48 : decode cX1_nameOf 48 = .ok (.ldc 103, 2) := by decide +kernel
theorem dX1_nameOf_50 : decode cX1_nameOf 50 = .ok (.areturn, 1) := by decide +kernel
theorem dX1_nameOf_51 : decode cX1_nameOf 51 = .ok (.ldc 105, 2) := by decide +kernel
theorem dX1_nameOf_53 : decode cX1_nameOf 53 = .ok (.areturn, 1) := by decide +kernel
theorem dX1_sameLetters_0 : decode cX1_sameLetters 0 = .ok (.iconst 0, 1) := by decide +kernel
theorem dX1_sameLetters_1 : decode cX1_sameLetters 1 = .ok (.istore_n 2, 1) := by decide +kernel
theorem dX1_sameLetters_2 : decode cX1_sameLetters 2 = .ok (.iload_n 2, 1) := by decide +kernel
theorem dX1_sameLetters_3 : decode cX1_sameLetters 3 = .ok (.aload_n 1, 1) := by decide +kernel
theorem dX1_sameLetters_4 : decode cX1_sameLetters 4 = .ok (.invokevirtual 91, 3) := by decide +kernel
theorem dX1_sameLetters_7 : decode cX1_sameLetters 7 = .ok (.if_icmp .ge 32, 3) := by decide +kernel
theorem dX1_sameLetters_10 : decode cX1_sameLetters 10 = .ok (.aload_n 0, 1) := by decide +kernel
theorem dX1_sameLetters_11 : decode cX1_sameLetters 11 = .ok (.getfield 16, 3) := by decide +kernel
theorem dX1_sameLetters_14 : decode cX1_sameLetters 14 = .ok (.aload_n 0, 1) := by decide +kernel
theorem dX1_sameLetters_15 : decode cX1_sameLetters 15 = .ok (.getfield 37, 3) := by decide +kernel
theorem dX1_sameLetters_18 : decode cX1_sameLetters 18 = .ok (.iload_n 2, 1) := by decide +kernel
theorem dX1_sameLetters_19 : decode cX1_sameLetters 19 = .ok (.iadd, 1) := by decide +kernel
theorem dX1_sameLetters_20 : decode cX1_sameLetters 20 = .ok (.invokevirtual 52, 3) := by decide +kernel
theorem dX1_sameLetters_23 : decode cX1_sameLetters 23 = .ok (.aload_n 1, 1) := by decide +kernel
theorem dX1_sameLetters_24 : decode cX1_sameLetters 24 = .ok (.iload_n 2, 1) := by decide +kernel
theorem dX1_sameLetters_25 : decode cX1_sameLetters 25 = .ok (.invokevirtual 107, 3) := by decide +kernel
theorem dX1_sameLetters_28 : decode cX1_sameLetters 28 = .ok (.if_icmp .eq 5, 3) := by decide +kernel
theorem dX1_sameLetters_31 : decode cX1_sameLetters 31 = .ok (.iload_n 2, 1) := by decide +kernel
theorem dX1_sameLetters_32 : decode cX1_sameLetters 32 = .ok (.ireturn, 1) := by decide +kernel
theorem dX1_sameLetters_33 : decode cX1_sameLetters 33 = .ok (.iinc 2 1, 3) := by decide +kernel
theorem dX1_sameLetters_36 : decode cX1_sameLetters 36 = .ok (.goto (-34), 3) := by decide +kernel
theorem dX1_sameLetters_39 : decode cX1_sameLetters 39 = .ok (.aload_n 1, 1) := by decide +kernel
theorem dX1_sameLetters_40 : decode cX1_sameLetters 40 = .ok (.invokevirtual 91, 3) := by decide +kernel
theorem dX1_sameLetters_43 : decode cX1_sameLetters 43 = .ok (.ireturn, 1) := by decide +kernel
theorem dX1_readDays_0 : decode cX1_readDays 0 = .ok (.aload_n 0, 1) := by decide +kernel
theorem dX1_readDays_1 : decode cX1_readDays 1 = .ok (.getfield 16, 3) := by decide +kernel
theorem dX1_readDays_4 : decode cX1_readDays 4 = .ok (.aload_n 0, 1) := by decide +kernel
theorem dX1_readDays_5 : decode cX1_readDays 5 = .ok (.getfield 37, 3) := by decide +kernel
theorem dX1_readDays_8 : decode cX1_readDays 8 = .ok (.invokevirtual 52, 3) := by decide +kernel
theorem dX1_readDays_11 : decode cX1_readDays 11 = .ok (.bipush 32, 2) := by decide +kernel
theorem dX1_readDays_13 : decode cX1_readDays 13 = .ok (.if_icmp .ne 9, 3) := by decide +kernel
theorem dX1_readDays_16 : decode cX1_readDays 16 = .ok (.aload_n 0, 1) := by decide +kernel
theorem dX1_readDays_17 : decode cX1_readDays 17 = .ok (.iconst 0, 1) := by decide +kernel
theorem dX1_readDays_18 : decode cX1_readDays 18 = .ok (.invokevirtual 67, 3) := by decide +kernel
theorem dX1_readDays_21 : decode cX1_readDays 21 = .ok (.ireturn, 1) := by decide +kernel
theorem dX1_readDays_22 : decode cX1_readDays 22 = .ok (.aload_n 0, 1) := by decide +kernel
theorem dX1_readDays_23 : decode cX1_readDays 23 = .ok (.iconst 0, 1) := by decide +kernel
theorem dX1_readDays_24 : decode cX1_readDays 24 = .ok (.iconst 1, 1) := by decide +kernel
theorem dX1_readDays_25 : decode cX1_readDays 25 = .ok (.invokevirtual 110, 3) := by decide +kernel
theorem dX1_readDays_28 : decode cX1_readDays 28 = .ok (.iconst 1, 1) := by decide +kernel
theorem dX1_readDays_29 : decode cX1_readDays 29 = .ok (.ireturn, 1) := by decide +kernel
theorem dX1_readNumber_0 : decode cX1_readNumber 0 = .ok (.aload_n 0, 1) := by decide +kernel
theorem dX1_readNumber_1 : decode cX1_readNumber 1 = .ok (.iload_n 1, 1) := by decide +kernel
theorem dX1_readNumber_2 : decode cX1_readNumber 2 = .ok (.invokevirtual 71, 3) := by decide +kernel
theorem dX1_readNumber_5 : decode cX1_readNumber 5 = .ok (.ifCond .ne 5, 3) := by decide +kernel
theorem dX1_readNumber_8 : decode cX1_readNumber 8 = .ok (.iconst 0, 1) := by decide +kernel
theorem dX1_readNumber_9 : decode cX1_readNumber 9 = .ok (.ireturn, 1) := by decide +kernel
theorem dX1_readNumber_10 : decode cX1_readNumber 10 = .ok (.aload_n 0, 1) := by decide +kernel
theorem dX1_readNumber_11 : decode cX1_readNumber 11 = .ok (.getfield 16, 3) := by decide +kernel
theorem dX1_readNumber_14 : decode cX1_readNumber 14 = .ok (.aload_n 0, 1) := by decide +kernel
theorem dX1_readNumber_15 : decode cX1_readNumber 15 = .ok (.getfield 37, 3) := by decide +kernel
theorem dX1_readNumber_18 : decode cX1_readNumber 18 = .ok (.invokevirtual 52, 3) := by decide +kernel
theorem dX1_readNumber_21 : decode cX1_readNumber 21 = .ok (.invokestatic 113, 3) := by decide +kernel
theorem dX1_readNumber_24 : decode cX1_readNumber 24 = .ok (.ifCond .eq 45, 3) := by decide +kernel
theorem dX1_readNumber_27 : decode cX1_readNumber 27 = .ok (.aload_n 0, 1) := by decide +kernel
theorem dX1_readNumber_28 : decode cX1_readNumber 28 = .ok (.iload_n 1, 1) := by decide +kernel
theorem dX1_readNumber_29 : decode cX1_readNumber 29 = .ok (.aload_n 0, 1) := by decide +kernel
theorem dX1_readNumber_30 : decode cX1_readNumber 30 = .ok (.aload_n 0, 1) := by decide +kernel
theorem dX1_readNumber_31 : decode cX1_readNumber 31 = .ok (.getfield 34, 3) := by decide +kernel
theorem dX1_readNumber_34 : decode cX1_readNumber 34 = .ok (.iload_n 1, 1) := by decide +kernel
theorem dX1_readNumber_35 : decode cX1_readNumber 35 = .ok (.invokevirtual 117, 3) := by decide +kernel
theorem dX1_readNumber_38 : decode cX1_readNumber 38 = .ok (.bipush 10, 2) := by decide +kernel
theorem dX1_readNumber_40 : decode cX1_readNumber 40 = .ok (.imul, 1) := by decide +kernel
theorem dX1_readNumber_41 : decode cX1_readNumber 41 = .ok (.aload_n 0, 1) := by decide +kernel
theorem dX1_readNumber_42 : decode cX1_readNumber 42 = .ok (.getfield 16, 3) := by decide +kernel
theorem dX1_readNumber_45 : decode cX1_readNumber 45 = .ok (.aload_n 0, 1) := by decide +kernel
theorem dX1_readNumber_46 : decode cX1_readNumber 46 = .ok (.getfield 37, 3) := by decide +kernel
theorem dX1_readNumber_49 : decode cX1_readNumber 49 = .ok (.invokevirtual 52, 3) := by decide +kernel
theorem dX1_readNumber_52 : decode cX1_readNumber 52 = .ok (.iadd, 1) := by decide +kernel
theorem dX1_readNumber_53 : decode cX1_readNumber 53 = .ok (.bipush 48, 2) := by decide +kernel
theorem dX1_readNumber_55 : decode cX1_readNumber 55 = .ok (.isub, 1) := by decide +kernel
theorem dX1_readNumber_56 : decode cX1_readNumber 56 = .ok (.invokevirtual 110, 3) := by decide +kernel
theorem dX1_readNumber_59 : decode cX1_readNumber 59 = .ok (.aload_n 0, 1) := by decide +kernel
theorem dX1_readNumber_60 : decode cX1_readNumber 60 = .ok (.dup, 1) := by decide +kernel
theorem dX1_readNumber_61 : decode cX1_readNumber 61 = .ok (.getfield 37, 3) := by decide +kernel
theorem dX1_readNumber_64 : decode cX1_readNumber 64 = .ok (.iconst 1, 1) := by decide +kernel
theorem dX1_readNumber_65 : decode cX1_readNumber 65 = .ok (.iadd, 1) := by decide +kernel
theorem dX1_readNumber_66 : decode cX1_readNumber 66 = .ok (.putfield 37, 3) := by decide +kernel
theorem dX1_readNumber_69 : decode cX1_readNumber 69 = .ok (.iconst 1, 1) := by decide +kernel
theorem dX1_readNumber_70 : decode cX1_readNumber 70 = .ok (.ireturn, 1) := by decide +kernel
theorem dX1_readDigit_0 : decode cX1_readDigit 0 = .ok (.aload_n 0, 1) := by decide +kernel
theorem dX1_readDigit_1 : decode cX1_readDigit 1 = .ok (.getfield 16, 3) := by decide +kernel
theorem dX1_readDigit_4 : decode cX1_readDigit 4 = .ok (.aload_n 0, 1) := by decide +kernel
theorem dX1_readDigit_5 : decode cX1_readDigit 5 = .ok (.getfield 37, 3) := by decide +kernel
theorem dX1_readDigit_8 : decode cX1_readDigit 8 = .ok (.invokevirtual 52, 3) := by decide +kernel
theorem dX1_readDigit_11 : decode cX1_readDigit 11 = .ok (.bipush 32, 2) := by decide +kernel
theorem dX1_readDigit_13 : decode cX1_readDigit 13 = .ok (.if_icmp .eq 5, 3) := by decide +kernel
theorem dX1_readDigit_16 : decode cX1_readDigit 16 = .ok (.iconst 0, 1) := by decide +kernel
theorem dX1_readDigit_17 : decode cX1_readDigit 17 = .ok (.ireturn, 1) := by decide +kernel
theorem dX1_readDigit_18 : decode cX1_readDigit 18 = .ok (.aload_n 0, 1) := by decide +kernel
theorem dX1_readDigit_19 : decode cX1_readDigit 19 = .ok (.dup, 1) := by decide +kernel
theorem dX1_readDigit_20 : decode cX1_readDigit 20 = .ok (.getfield 37, 3) := by decide +kernel
theorem dX1_readDigit_23 : decode cX1_readDigit 23 = .ok (.iconst 1, 1) := by decide +kernel
theorem dX1_readDigit_24 : decode cX1_readDigit 24 = .ok (.iadd, 1) := by decide +kernel
theorem dX1_readDigit_25 : decode cX1_readDigit 25 = .ok (.putfield 37, 3) := by decide +kernel
theorem dX1_readDigit_28 : decode cX1_readDigit 28 = .ok (.aload_n 0, 1) := by decide +kernel
theorem dX1_readDigit_29 : decode cX1_readDigit 29 = .ok (.getfield 16, 3) := by decide +kernel
theorem dX1_readDigit_32 : decode cX1_readDigit 32 = .ok (.aload_n 0, 1) := by decide +kernel
theorem dX1_readDigit_33 : decode cX1_readDigit 33 = .ok (.getfield 37, 3) := by decide +kernel
theorem dX1_readDigit_36 : decode cX1_readDigit 36 = .ok (.invokevirtual 52, 3) := by decide +kernel
theorem dX1_readDigit_39 : decode cX1_readDigit 39 = .ok (.invokestatic 113, 3) := by decide +kernel
theorem dX1_readDigit_42 : decode cX1_readDigit 42 = .ok (.ifCond .ne 5, 3) := by decide +kernel
theorem dX1_readDigit_45 : decode cX1_readDigit 45 = .ok (.iconst 0, 1) := by decide +kernel
theorem dX1_readDigit_46 : decode cX1_readDigit 46 = .ok (.ireturn, 1) := by decide +kernel
theorem dX1_readDigit_47 : decode cX1_readDigit 47 = .ok (.aload_n 0, 1) := by decide +kernel
theorem dX1_readDigit_48 : decode cX1_readDigit 48 = .ok (.iload_n 1, 1) := by decide +kernel
theorem dX1_readDigit_49 : decode cX1_readDigit 49 = .ok (.aload_n 0, 1) := by decide +kernel
theorem dX1_readDigit_50 : decode cX1_readDigit 50 = .ok (.getfield 16, 3) := by decide +kernel
theorem dX1_readDigit_53 : decode cX1_readDigit 53 = .ok (.aload_n 0, 1) := by decide +kernel
theorem dX1_readDigit_54 : decode cX1_readDigit 54 = .ok (.getfield 37, 3) := by decide +kernel
theorem dX1_readDigit_57 : decode cX1_readDigit 57 = .ok (.invokevirtual 52, 3) := by decide +kernel
theorem dX1_readDigit_60 : decode cX1_readDigit 60 = .ok (.bipush 48, 2) := by decide +kernel
theorem dX1_readDigit_62 : decode cX1_readDigit 62 = .ok (.isub, 1) := by decide +kernel
theorem dX1_readDigit_63 : decode cX1_readDigit 63 = .ok (.invokevirtual 110, 3) := by decide +kernel
theorem dX1_readDigit_66 : decode cX1_readDigit 66 = .ok (.aload_n 0, 1) := by decide +kernel
theorem dX1_readDigit_67 : decode cX1_readDigit 67 = .ok (.dup, 1) := by decide +kernel
theorem dX1_readDigit_68 : decode cX1_readDigit 68 = .ok (.getfield 37, 3) := by decide +kernel
theorem dX1_readDigit_71 : decode cX1_readDigit 71 = .ok (.iconst 1, 1) := by decide +kernel
theorem dX1_readDigit_72 : decode cX1_readDigit 72 = .ok (.iadd, 1) := by decide +kernel
theorem dX1_readDigit_73 : decode cX1_readDigit 73 = .ok (.putfield 37, 3) := by decide +kernel
theorem dX1_readDigit_76 : decode cX1_readDigit 76 = .ok (.iconst 1, 1) := by decide +kernel
theorem dX1_readDigit_77 : decode cX1_readDigit 77 = .ok (.ireturn, 1) := by decide +kernel
theorem dX1_isDigit_0 : decode cX1_isDigit 0 = .ok (.iload_n 0, 1) := by decide +kernel
theorem dX1_isDigit_1 : decode cX1_isDigit 1 = .ok (.bipush 48, 2) := by decide +kernel
theorem dX1_isDigit_3 : decode cX1_isDigit 3 = .ok (.if_icmp .lt 13, 3) := by decide +kernel
theorem dX1_isDigit_6 : decode cX1_isDigit 6 = .ok (.iload_n 0, 1) := by decide +kernel
theorem dX1_isDigit_7 : decode cX1_isDigit 7 = .ok (.bipush 57, 2) := by decide +kernel
theorem dX1_isDigit_9 : decode cX1_isDigit 9 = .ok (.if_icmp .gt 7, 3) := by decide +kernel
theorem dX1_isDigit_12 : decode cX1_isDigit 12 = .ok (.iconst 1, 1) := by decide +kernel
theorem dX1_isDigit_13 : decode cX1_isDigit 13 = .ok (.goto 4, 3) := by decide +kernel
theorem dX1_isDigit_16 : decode cX1_isDigit 16 = .ok (.iconst 0, 1) := by decide +kernel
theorem dX1_isDigit_17 : decode cX1_isDigit 17 = .ok (.ireturn, 1) := by decide +kernel
theorem dX1_keepArgument_0 : decode cX1_keepArgument 0 = .ok (.aload_n 0, 1) := by decide +kernel
theorem dX1_keepArgument_1 : decode cX1_keepArgument 1 = .ok (.getfield 27, 3) := by decide +kernel
theorem dX1_keepArgument_4 : decode cX1_keepArgument 4 = .ok (.aload_n 0, 1) := by decide +kernel
theorem dX1_keepArgument_5 : decode cX1_keepArgument 5 = .ok (.getfield 34, 3) := by decide +kernel
theorem dX1_keepArgument_8 : decode cX1_keepArgument 8 = .ok (.iconst 4, 1) := by decide +kernel
theorem dX1_keepArgument_9 : decode cX1_keepArgument 9 = .ok (.imul, 1) := by decide +kernel
theorem dX1_keepArgument_10 : decode cX1_keepArgument 10 = .ok (.iload_n 1, 1) := by decide +kernel
theorem dX1_keepArgument_11 : decode cX1_keepArgument 11 = .ok (.iadd, 1) := by decide +kernel
theorem dX1_keepArgument_12 : decode cX1_keepArgument 12 = .ok (.iload_n 2, 1) := by decide +kernel
theorem dX1_keepArgument_13 : decode cX1_keepArgument 13 = .ok (.invokevirtual 63, 3) := by decide +kernel
theorem dX1_keepArgument_16 : decode cX1_keepArgument 16 = .ok (.return_, 1) := by decide +kernel
theorem dX2_init_0 : decode cX2_init 0 = .ok (.aload_n 0, 1) := by decide +kernel
theorem dX2_init_1 : decode cX2_init 1 = .ok (.invokespecial 3, 3) := by decide +kernel
theorem dX2_init_4 : decode cX2_init 4 = .ok (.aload_n 0, 1) := by decide +kernel
theorem dX2_init_5 : decode cX2_init 5 = .ok (.new 9, 3) := by decide +kernel
theorem dX2_init_8 : decode cX2_init 8 = .ok (.dup, 1) := by decide +kernel
theorem dX2_init_9 : decode cX2_init 9 = .ok (.sipush 256, 3) := by decide +kernel
theorem dX2_init_12 : decode cX2_init 12 = .ok (.invokespecial 11, 3) := by decide +kernel
theorem dX2_init_15 : decode cX2_init 15 = .ok (.putfield 14, 3) := by decide +kernel
theorem dX2_init_18 : decode cX2_init 18 = .ok (.aload_n 0, 1) := by decide +kernel
theorem dX2_init_19 : decode cX2_init 19 = .ok (.new 9, 3) := by decide +kernel
theorem dX2_init_22 : decode cX2_init 22 = .ok (.dup, 1) := by decide +kernel
theorem dX2_init_23 : decode cX2_init 23 = .ok (.sipush 256, 3) := by decide +kernel
theorem dX2_init_26 : decode cX2_init 26 = .ok (.invokespecial 11, 3) := by decide +kernel
theorem dX2_init_29 : decode cX2_init 29 = .ok (.putfield 20, 3) := by decide +kernel
theorem dX2_init_32 : decode cX2_init 32 = .ok (.aload_n 0, 1) := by decide +kernel
theorem dX2_init_33 : decode cX2_init 33 = .ok (.new 9, 3) := by decide +kernel
theorem dX2_init_36 : decode cX2_init 36 = .ok (.dup, 1) := by decide +kernel
theorem dX2_init_37 : decode cX2_init 37 = .ok (.bipush 8, 2) := by decide +kernel
theorem dX2_init_39 : decode cX2_init 39 = .ok (.invokespecial 11, 3) := by decide +kernel
theorem dX2_init_42 : decode cX2_init 42 = .ok (.putfield 23, 3) := by decide +kernel
theorem dX2_init_45 : decode cX2_init 45 = .ok (.return_, 1) := by decide +kernel
theorem dX2_leastBySets_0 : decode cX2_leastBySets 0 = .ok (.iconst 1, 1) := by decide +kernel
theorem dX2_leastBySets_1 : decode cX2_leastBySets 1 = .ok (.aload_n 1, 1) := by decide +kernel
theorem dX2_leastBySets_2 : decode cX2_leastBySets 2 = .ok (.getfield 26, 3) := by decide +kernel
theorem dX2_leastBySets_5 : decode cX2_leastBySets 5 = .ok (.ishl, 1) := by decide +kernel
theorem dX2_leastBySets_6 : decode cX2_leastBySets 6 = .ok (.iconst 1, 1) := by decide +kernel
theorem dX2_leastBySets_7 : decode cX2_leastBySets 7 = .ok (.isub, 1) := by decide +kernel
theorem dX2_leastBySets_8 : decode cX2_leastBySets 8 = .ok (.istore_n 3, 1) := by decide +kernel
theorem dX2_leastBySets_9 : decode cX2_leastBySets 9 = .ok (.aload_n 0, 1) := by decide +kernel
theorem dX2_leastBySets_10 : decode cX2_leastBySets 10 = .ok (.getfield 14, 3) := by decide +kernel
theorem dX2_leastBySets_13 : decode cX2_leastBySets 13 = .ok (.iconst 0, 1) := by decide +kernel
theorem dX2_leastBySets_14 : decode cX2_leastBySets 14 = .ok (.iconst 0, 1) := by decide +kernel
theorem dX2_leastBySets_15 : decode cX2_leastBySets 15 = .ok (.invokevirtual 32, 3) := by decide +kernel
theorem dX2_leastBySets_18 : decode cX2_leastBySets 18 = .ok (.aload_n 0, 1) := by decide +kernel
theorem dX2_leastBySets_19 : decode cX2_leastBySets 19 = .ok (.getfield 20, 3) := by decide +kernel
theorem dX2_leastBySets_22 : decode cX2_leastBySets 22 = .ok (.iconst 0, 1) := by decide +kernel
theorem dX2_leastBySets_23 : decode cX2_leastBySets 23 = .ok (.iload_n 2, 1) := by decide +kernel
theorem dX2_leastBySets_24 : decode cX2_leastBySets 24 = .ok (.invokevirtual 32, 3) := by decide +kernel
theorem dX2_leastBySets_27 : decode cX2_leastBySets 27 = .ok (.iconst 1, 1) := by decide +kernel
theorem dX2_leastBySets_28 : decode cX2_leastBySets 28 = .ok (.istore 4, 2) := by decide +kernel
theorem dX2_leastBySets_30 : decode cX2_leastBySets 30 = .ok (.iload 4, 2) := by decide +kernel
theorem dX2_leastBySets_32 : decode cX2_leastBySets 32 = .ok (.iload_n 3, 1) := by decide +kernel
theorem dX2_leastBySets_33 : decode cX2_leastBySets 33 = .ok (.if_icmp .gt 17, 3) := by decide +kernel
theorem dX2_leastBySets_36 : decode cX2_leastBySets 36 = .ok (.aload_n 0, 1) := by decide +kernel
theorem dX2_leastBySets_37 : decode cX2_leastBySets 37 = .ok (.iload 4, 2) := by decide +kernel
theorem dX2_leastBySets_39 : decode cX2_leastBySets 39 = .ok (.aload_n 1, 1) := by decide +kernel
theorem dX2_leastBySets_40 : decode cX2_leastBySets 40 = .ok (.iload_n 2, 1) := by decide +kernel
theorem dX2_leastBySets_41 : decode cX2_leastBySets 41 = .ok (.invokevirtual 36, 3) := by decide +kernel
theorem dX2_leastBySets_44 : decode cX2_leastBySets 44 = .ok (.iinc 4 1, 3) := by decide +kernel
theorem dX2_leastBySets_47 : decode cX2_leastBySets 47 = .ok (.goto (-17), 3) := by decide +kernel
theorem dX2_leastBySets_50 : decode cX2_leastBySets 50 = .ok (.aload_n 0, 1) := by decide +kernel
theorem dX2_leastBySets_51 : decode cX2_leastBySets 51 = .ok (.getfield 14, 3) := by decide +kernel
theorem dX2_leastBySets_54 : decode cX2_leastBySets 54 = .ok (.iload_n 3, 1) := by decide +kernel
theorem dX2_leastBySets_55 : decode cX2_leastBySets 55 = .ok (.invokevirtual 40, 3) := by decide +kernel
theorem dX2_leastBySets_58 : decode cX2_leastBySets 58 = .ok (.ireturn, 1) := by decide +kernel
theorem dX2_findFor_0 : decode cX2_findFor 0 = .ok (.bipush 9, 2) := by decide +kernel
theorem dX2_findFor_2 : decode cX2_findFor 2 = .ok (.istore 4, 2) := by decide +kernel
theorem dX2_findFor_4 : decode cX2_findFor 4 = .ok (.iconst 0, 1) := by decide +kernel
theorem dX2_findFor_5 : decode cX2_findFor 5 = .ok (.istore 5, 2) := by decide +kernel
theorem dX2_findFor_7 : decode cX2_findFor 7 = .ok (.iconst 0, 1) := by decide +kernel
theorem dX2_findFor_8 : decode cX2_findFor 8 = .ok (.istore 6, 2) := by decide +kernel
theorem dX2_findFor_10 : decode cX2_findFor 10 = .ok (.iload 6, 2) := by decide +kernel
theorem dX2_findFor_12 : decode cX2_findFor 12 = .ok (.aload_n 2, 1) := by decide +kernel
theorem dX2_findFor_13 : decode cX2_findFor 13 = .ok (.getfield 26, 3) := by decide +kernel
theorem dX2_findFor_16 : decode cX2_findFor 16 = .ok (.if_icmp .ge 143, 3) := by decide +kernel
theorem dX2_findFor_19 : decode cX2_findFor 19 = .ok (.iload_n 1, 1) := by decide +kernel
theorem dX2_findFor_20 : decode cX2_findFor 20 = .ok (.iload 6, 2) := by decide +kernel
theorem dX2_findFor_22 : decode cX2_findFor 22 = .ok (.invokestatic 44, 3) := by decide +kernel
theorem dX2_findFor_25 : decode cX2_findFor 25 = .ok (.ifCond .eq 128, 3) := by decide +kernel
theorem dX2_findFor_28 : decode cX2_findFor 28 = .ok (.iload_n 1, 1) := by decide +kernel
theorem dX2_findFor_29 : decode cX2_findFor 29 = .ok (.iconst 1, 1) := by decide +kernel
theorem dX2_findFor_30 : decode cX2_findFor 30 = .ok (.iload 6, 2) := by decide +kernel
theorem dX2_findFor_32 : decode cX2_findFor 32 = .ok (.ishl, 1) := by decide +kernel
theorem dX2_findFor_33 : decode cX2_findFor 33 = .ok (.isub, 1) := by decide +kernel
theorem dX2_findFor_34 : decode cX2_findFor 34 = .ok (.istore 7, 2) := by decide +kernel
theorem dX2_findFor_36 : decode cX2_findFor 36 = .ok (.aload_n 2, 1) := by decide +kernel
theorem dX2_findFor_37 : decode cX2_findFor 37 = .ok (.getfield 48, 3) := by decide +kernel
theorem dX2_findFor_40 : decode cX2_findFor 40 = .ok (.iload 6, 2) := by decide +kernel
theorem dX2_findFor_42 : decode cX2_findFor 42 = .ok (.invokevirtual 40, 3) := by decide +kernel
theorem dX2_findFor_45 : decode cX2_findFor 45 = .ok (.istore 8, 2) := by decide +kernel
theorem dX2_findFor_47 : decode cX2_findFor 47 = .ok (.aload_n 0, 1) := by decide +kernel
theorem dX2_findFor_48 : decode cX2_findFor 48 = .ok (.getfield 20, 3) := by decide +kernel
theorem dX2_findFor_51 : decode cX2_findFor 51 = .ok (.iload 7, 2) := by decide +kernel
theorem dX2_findFor_53 : decode cX2_findFor 53 = .ok (.invokevirtual 40, 3) := by decide +kernel
theorem dX2_findFor_56 : decode cX2_findFor 56 = .ok (.iload 8, 2) := by decide +kernel
theorem dX2_findFor_58 : decode cX2_findFor 58 = .ok (.iadd, 1) := by decide +kernel
theorem dX2_findFor_59 : decode cX2_findFor 59 = .ok (.iload_n 3, 1) := by decide +kernel
theorem dX2_findFor_60 : decode cX2_findFor 60 = .ok (.if_icmp .gt 7, 3) := by decide +kernel
theorem dX2_findFor_63 : decode cX2_findFor 63 = .ok (.iconst 1, 1) := by decide +kernel
theorem dX2_findFor_64 : decode cX2_findFor 64 = .ok (.goto 4, 3) := by decide +kernel
theorem dX2_findFor_67 : decode cX2_findFor 67 = .ok (.iconst 0, 1) := by decide +kernel
theorem dX2_findFor_68 : decode cX2_findFor 68 = .ok (.istore 9, 2) := by decide +kernel
theorem dX2_findFor_70 : decode cX2_findFor 70 = .ok (.iload 9, 2) := by decide +kernel
theorem dX2_findFor_72 : decode cX2_findFor 72 = .ok (.ifCond .eq 15, 3) := by decide +kernel
theorem dX2_findFor_75 : decode cX2_findFor 75 = .ok (.aload_n 0, 1) := by decide +kernel
theorem dX2_findFor_76 : decode cX2_findFor 76 = .ok (.getfield 14, 3) := by decide +kernel
theorem dX2_findFor_79 : decode cX2_findFor 79 = .ok (.iload 7, 2) := by decide +kernel
theorem dX2_findFor_81 : decode cX2_findFor 81 = .ok (.invokevirtual 40, 3) := by decide +kernel
theorem dX2_findFor_84 : decode cX2_findFor 84 = .ok (.goto 14, 3) := by decide +kernel
theorem dX2_findFor_87 : decode cX2_findFor 87 = .ok (.aload_n 0, 1) := by decide +kernel
theorem dX2_findFor_88 : decode cX2_findFor 88 = .ok (.getfield 14, 3) := by decide +kernel
theorem dX2_findFor_91 : decode cX2_findFor 91 = .ok (.iload 7, 2) := by decide +kernel
theorem dX2_findFor_93 : decode cX2_findFor 93 = .ok (.invokevirtual 40, 3) := by decide +kernel
theorem dX2_findFor_96 : decode cX2_findFor 96 = .ok (.iconst 1, 1) := by decide +kernel
theorem dX2_findFor_97 : decode cX2_findFor 97 = .ok (.iadd, 1) := by decide +kernel
theorem dX2_findFor_98 : decode cX2_findFor 98 = .ok (.istore 10, 2) := by decide +kernel
theorem dX2_findFor_100 : decode cX2_findFor 100 = .ok (.iload 9, 2) := by decide +kernel
theorem dX2_findFor_102 : decode cX2_findFor 102 = .ok (.ifCond .eq 18, 3) := by decide +kernel
theorem dX2_findFor_105 : decode cX2_findFor 105 = .ok (.aload_n 0, 1) := by decide +kernel
theorem dX2_findFor_106 : decode cX2_findFor 106 = .ok (.getfield 20, 3) := by decide +kernel
theorem dX2_findFor_109 : decode cX2_findFor 109 = .ok (.iload 7, 2) := by decide +kernel
theorem dX2_findFor_111 : decode cX2_findFor 111 = .ok (.invokevirtual 40, 3) := by decide +kernel
theorem dX2_findFor_114 : decode cX2_findFor 114 = .ok (.iload 8, 2) := by decide +kernel
theorem dX2_findFor_116 : decode cX2_findFor 116 = .ok (.iadd, 1) := by decide +kernel
theorem dX2_findFor_117 : decode cX2_findFor 117 = .ok (.goto 5, 3) := by decide +kernel
theorem dX2_findFor_120 : decode cX2_findFor 120 = .ok (.iload 8, 2) := by decide +kernel
theorem dX2_findFor_122 : decode cX2_findFor 122 = .ok (.istore 11, 2) := by decide +kernel
theorem dX2_findFor_124 : decode cX2_findFor 124 = .ok (.iload 10, 2) := by decide +kernel
theorem dX2_findFor_126 : decode cX2_findFor 126 = .ok (.iload 4, 2) := by decide +kernel
theorem dX2_findFor_128 : decode cX2_findFor 128 = .ok (.if_icmp .lt 17, 3) := by decide +kernel
theorem dX2_findFor_131 : decode cX2_findFor 131 = .ok (.iload 10, 2) := by decide +kernel
theorem dX2_findFor_133 : decode cX2_findFor 133 = .ok (.iload 4, 2) := by decide +kernel
theorem dX2_findFor_135 : decode cX2_findFor 135 = .ok (.if_icmp .ne 18, 3) := by decide +kernel
theorem dX2_findFor_138 : decode cX2_findFor 138 = .ok (.iload 11, 2) := by decide +kernel
theorem dX2_findFor_140 : decode cX2_findFor 140 = .ok (.iload 5, 2) := by decide +kernel
theorem dX2_findFor_142 : decode cX2_findFor 142 = .ok (.if_icmp .ge 11, 3) := by decide +kernel
theorem dX2_findFor_145 : decode cX2_findFor 145 = .ok (.iload 10, 2) := by decide +kernel
theorem dX2_findFor_147 : decode cX2_findFor 147 = .ok (.istore 4, 2) := by decide +kernel
theorem dX2_findFor_149 : decode cX2_findFor 149 = .ok (.iload 11, 2) := by decide +kernel
theorem dX2_findFor_151 : decode cX2_findFor 151 = .ok (.istore 5, 2) := by decide +kernel
theorem dX2_findFor_153 : decode cX2_findFor 153 = .ok (.iinc 6 1, 3) := by decide +kernel
theorem dX2_findFor_156 : decode cX2_findFor 156 = .ok (.goto (-146), 3) := by decide +kernel
theorem dX2_findFor_159 : decode cX2_findFor 159 = .ok (.aload_n 0, 1) := by decide +kernel
theorem dX2_findFor_160 : decode cX2_findFor 160 = .ok (.getfield 14, 3) := by decide +kernel
theorem dX2_findFor_163 : decode cX2_findFor 163 = .ok (.iload_n 1, 1) := by decide +kernel
theorem dX2_findFor_164 : decode cX2_findFor 164 = .ok (.iload 4, 2) := by decide +kernel
theorem dX2_findFor_166 : decode cX2_findFor 166 = .ok (.invokevirtual 32, 3) := by decide +kernel
theorem dX2_findFor_169 : decode cX2_findFor 169 = .ok (.aload_n 0, 1) := by decide +kernel
theorem dX2_findFor_170 : decode cX2_findFor 170 = .ok (.getfield 20, 3) := by decide +kernel
theorem dX2_findFor_173 : decode cX2_findFor 173 = .ok (.iload_n 1, 1) := by decide +kernel
theorem dX2_findFor_174 : decode cX2_findFor 174 = .ok (.iload 5, 2) := by decide +kernel
theorem dX2_findFor_176 : decode cX2_findFor 176 = .ok (.invokevirtual 32, 3) := by decide +kernel
theorem dX2_findFor_179 : decode cX2_findFor 179 = .ok (.return_, 1) := by decide +kernel
theorem dX2_leastByTrial_0 : decode cX2_leastByTrial 0 = .ok (.aload_n 0, 1) := by decide +kernel
theorem dX2_leastByTrial_1 : decode cX2_leastByTrial 1 = .ok (.getfield 23, 3) := by decide +kernel
theorem dX2_leastByTrial_4 : decode cX2_leastByTrial 4 = .ok (.aload_n 1, 1) := by decide +kernel
theorem dX2_leastByTrial_5 : decode cX2_leastByTrial 5 = .ok (.iload_n 2, 1) := by decide +kernel
theorem dX2_leastByTrial_6 : decode cX2_leastByTrial 6 = .ok (.iconst 0, 1) := by decide +kernel
theorem dX2_leastByTrial_7 : decode cX2_leastByTrial 7 = .ok (.iconst 0, 1) := by decide +kernel
theorem dX2_leastByTrial_8 : decode cX2_leastByTrial 8 = .ok (.bipush 9, 2) := by decide +kernel
theorem dX2_leastByTrial_10 : decode cX2_leastByTrial 10 = .ok (.invokestatic 51, 3) := by decide +kernel
theorem dX2_leastByTrial_13 : decode cX2_leastByTrial 13 = .ok (.ireturn, 1) := by decide +kernel
theorem dX2_put_0 : decode cX2_put 0 = .ok (.iload 4, 2) := by decide +kernel
theorem dX2_put_2 : decode cX2_put 2 = .ok (.iload 5, 2) := by decide +kernel
theorem dX2_put_4 : decode cX2_put 4 = .ok (.if_icmp .lt 6, 3) := by decide +kernel
theorem dX2_put_7 : decode cX2_put 7 = .ok (.iload 5, 2) := by decide +kernel
theorem dX2_put_9 : decode cX2_put 9 = .ok (.ireturn, 1) := by decide +kernel
theorem dX2_put_10 : decode cX2_put 10 = .ok (.iload_n 3, 1) := by decide +kernel
theorem dX2_put_11 : decode cX2_put 11 = .ok (.aload_n 1, 1) := by decide +kernel
theorem dX2_put_12 : decode cX2_put 12 = .ok (.getfield 26, 3) := by decide +kernel
theorem dX2_put_15 : decode cX2_put 15 = .ok (.if_icmp .ge 9, 3) := by decide +kernel
theorem dX2_put_18 : decode cX2_put 18 = .ok (.iload_n 3, 1) := by decide +kernel
theorem dX2_put_19 : decode cX2_put 19 = .ok (.bipush 8, 2) := by decide +kernel
theorem dX2_put_21 : decode cX2_put 21 = .ok (.if_icmp .lt 6, 3) := by decide +kernel
theorem dX2_put_24 : decode cX2_put 24 = .ok (.iload 4, 2) := by decide +kernel
theorem dX2_put_26 : decode cX2_put 26 = .ok (.ireturn, 1) := by decide +kernel
theorem dX2_put_27 : decode cX2_put 27 = .ok (.aload_n 1, 1) := by decide +kernel
theorem dX2_put_28 : decode cX2_put 28 = .ok (.getfield 48, 3) := by decide +kernel
theorem dX2_put_31 : decode cX2_put 31 = .ok (.iload_n 3, 1) := by decide +kernel
theorem dX2_put_32 : decode cX2_put 32 = .ok (.invokevirtual 40, 3) := by decide +kernel
theorem dX2_put_35 : decode cX2_put 35 = .ok (.istore 6, 2) := by decide +kernel
theorem dX2_put_37 : decode cX2_put 37 = .ok (.iload 5, 2) := by decide +kernel
theorem dX2_put_39 : decode cX2_put 39 = .ok (.istore 7, 2) := by decide +kernel
theorem dX2_put_41 : decode cX2_put 41 = .ok (.iconst 0, 1) := by decide +kernel
theorem dX2_put_42 : decode cX2_put 42 = .ok (.istore 8, 2) := by decide +kernel
theorem dX2_put_44 : decode cX2_put 44 = .ok (.iload 8, 2) := by decide +kernel
theorem dX2_put_46 : decode cX2_put 46 = .ok (.iload 4, 2) := by decide +kernel
theorem dX2_put_48 : decode cX2_put 48 = .ok (.if_icmp .gt 78, 3) := by decide +kernel
theorem dX2_put_51 : decode cX2_put 51 = .ok (.iload 8, 2) := by decide +kernel
theorem dX2_put_53 : decode cX2_put 53 = .ok (.iload 4, 2) := by decide +kernel
theorem dX2_put_55 : decode cX2_put 55 = .ok (.if_icmp .ge 12, 3) := by decide +kernel
theorem dX2_put_58 : decode cX2_put 58 = .ok (.aload_n 0, 1) := by decide +kernel
theorem dX2_put_59 : decode cX2_put 59 = .ok (.iload 8, 2) := by decide +kernel
theorem dX2_put_61 : decode cX2_put 61 = .ok (.invokevirtual 40, 3) := by decide +kernel
theorem dX2_put_64 : decode cX2_put 64 = .ok (.goto 4, 3) := by decide +kernel
theorem dX2_put_67 : decode cX2_put 67 = .ok (.iconst 0, 1) := by decide +kernel
theorem dX2_put_68 : decode cX2_put 68 = .ok (.istore 9, 2) := by decide +kernel
theorem dX2_put_70 : decode cX2_put 70 = .ok (.iload 9, 2) := by decide +kernel
theorem dX2_put_72 : decode cX2_put 72 = .ok (.iload 6, 2) := by decide +kernel
theorem dX2_put_74 : decode cX2_put 74 = .ok (.iadd, 1) := by decide +kernel
theorem dX2_put_75 : decode cX2_put 75 = .ok (.iload_n 2, 1) := by decide +kernel
theorem dX2_put_76 : decode cX2_put 76 = .ok (.if_icmp .gt 44, 3) := by decide +kernel
theorem dX2_put_79 : decode cX2_put 79 = .ok (.aload_n 0, 1) := by decide +kernel
theorem dX2_put_80 : decode cX2_put 80 = .ok (.iload 8, 2) := by decide +kernel
theorem dX2_put_82 : decode cX2_put 82 = .ok (.iload 9, 2) := by decide +kernel
theorem dX2_put_84 : decode cX2_put 84 = .ok (.iload 6, 2) := by decide +kernel
theorem dX2_put_86 : decode cX2_put 86 = .ok (.iadd, 1) := by decide +kernel
theorem dX2_put_87 : decode cX2_put 87 = .ok (.invokevirtual 32, 3) := by decide +kernel
theorem dX2_put_90 : decode cX2_put 90 = .ok (.aload_n 0, 1) := by decide +kernel
theorem dX2_put_91 : decode cX2_put 91 = .ok (.aload_n 1, 1) := by decide +kernel
theorem dX2_put_92 : decode cX2_put 92 = .ok (.iload_n 2, 1) := by decide +kernel
theorem dX2_put_93 : decode cX2_put 93 = .ok (.iload_n 3, 1) := by decide +kernel
theorem dX2_put_94 : decode cX2_put 94 = .ok (.iconst 1, 1) := by decide +kernel
theorem dX2_put_95 : decode cX2_put 95 = .ok (.iadd, 1) := by decide +kernel
theorem dX2_put_96 : decode cX2_put 96 = .ok (.iload 4, 2) := by decide +kernel
theorem dX2_put_98 : decode cX2_put 98 = .ok (.iload 8, 2) := by decide +kernel
theorem dX2_put_100 : decode cX2_put 100 = .ok (.iconst 1, 1) := by decide +kernel
theorem dX2_put_101 : decode cX2_put 101 = .ok (.iadd, 1) := by decide +kernel
theorem dX2_put_102 : decode cX2_put 102 = .ok (.invokestatic 55, 3) := by decide +kernel
theorem dX2_put_105 : decode cX2_put 105 = .ok (.iload 7, 2) := by decide +kernel
theorem dX2_put_107 : decode cX2_put 107 = .ok (.invokestatic 51, 3) := by decide +kernel
theorem dX2_put_110 : decode cX2_put 110 = .ok (.istore 7, 2) := by decide +kernel
theorem dX2_put_112 : decode cX2_put 112 = .ok (.aload_n 0, 1) := by decide +kernel
theorem dX2_put_113 : decode cX2_put 113 = .ok (.iload 8, 2) := by decide +kernel
theorem dX2_put_115 : decode cX2_put 115 = .ok (.iload 9, 2) := by decide +kernel
theorem dX2_put_117 : decode cX2_put 117 = .ok (.invokevirtual 32, 3) := by decide +kernel
theorem dX2_put_120 : decode cX2_put 120 = .ok (.iinc 8 1, 3) := by decide +kernel
theorem dX2_put_123 : decode cX2_put 123 = .ok (.goto (-79), 3) := by decide +kernel
theorem dX2_put_126 : decode cX2_put 126 = .ok (.iload 7, 2) := by decide +kernel
theorem dX2_put_128 : decode cX2_put 128 = .ok (.ireturn, 1) := by decide +kernel
theorem dX3_init_0 : decode cX3_init 0 = .ok (.aload_n 0, 1) := by decide +kernel
theorem dX3_init_1 : decode cX3_init 1 = .ok (.invokespecial 3, 3) := by decide +kernel
theorem dX3_init_4 : decode cX3_init 4 = .ok (.aload_n 0, 1) := by decide +kernel
theorem dX3_init_5 : decode cX3_init 5 = .ok (.new 9, 3) := by decide +kernel
theorem dX3_init_8 : decode cX3_init 8 = .ok (.dup, 1) := by decide +kernel
theorem dX3_init_9 : decode cX3_init 9 = .ok (.bipush 91, 2) := by decide +kernel
theorem dX3_init_11 : decode cX3_init 11 = .ok (.invokespecial 13, 3) := by decide +kernel
theorem dX3_init_14 : decode cX3_init 14 = .ok (.putfield 16, 3) := by decide +kernel
theorem dX3_init_17 : decode cX3_init 17 = .ok (.aload_n 0, 1) := by decide +kernel
theorem dX3_init_18 : decode cX3_init 18 = .ok (.new 9, 3) := by decide +kernel
theorem dX3_init_21 : decode cX3_init 21 = .ok (.dup, 1) := by decide +kernel
theorem dX3_init_22 : decode cX3_init 22 = .ok (.bipush 91, 2) := by decide +kernel
theorem dX3_init_24 : decode cX3_init 24 = .ok (.invokespecial 13, 3) := by decide +kernel
theorem dX3_init_27 : decode cX3_init 27 = .ok (.putfield 20, 3) := by decide +kernel
theorem dX3_init_30 : decode cX3_init 30 = .ok (.return_, 1) := by decide +kernel
theorem dX3_byTable_0 : decode cX3_byTable 0 = .ok (.iconst 0, 1) := by decide +kernel
theorem dX3_byTable_1 : decode cX3_byTable 1 = .ok (.istore_n 3, 1) := by decide +kernel
theorem dX3_byTable_2 : decode cX3_byTable 2 = .ok (.iload_n 3, 1) := by decide +kernel
theorem dX3_byTable_3 : decode cX3_byTable 3 = .ok (.aload_n 1, 1) := by decide +kernel
theorem dX3_byTable_4 : decode cX3_byTable 4 = .ok (.getfield 23, 3) := by decide +kernel
theorem dX3_byTable_7 : decode cX3_byTable 7 = .ok (.if_icmp .gt 50, 3) := by decide +kernel
theorem dX3_byTable_10 : decode cX3_byTable 10 = .ok (.iconst 0, 1) := by decide +kernel
theorem dX3_byTable_11 : decode cX3_byTable 11 = .ok (.istore 4, 2) := by decide +kernel
theorem dX3_byTable_13 : decode cX3_byTable 13 = .ok (.iload 4, 2) := by decide +kernel
theorem dX3_byTable_15 : decode cX3_byTable 15 = .ok (.aload_n 2, 1) := by decide +kernel
theorem dX3_byTable_16 : decode cX3_byTable 16 = .ok (.getfield 23, 3) := by decide +kernel
theorem dX3_byTable_19 : decode cX3_byTable 19 = .ok (.if_icmp .gt 32, 3) := by decide +kernel
theorem dX3_byTable_22 : decode cX3_byTable 22 = .ok (.aload_n 0, 1) := by decide +kernel
theorem dX3_byTable_23 : decode cX3_byTable 23 = .ok (.getfield 16, 3) := by decide +kernel
theorem dX3_byTable_26 : decode cX3_byTable 26 = .ok (.iload_n 3, 1) := by decide +kernel
theorem dX3_byTable_27 : decode cX3_byTable 27 = .ok (.bipush 7, 2) := by decide +kernel
theorem dX3_byTable_29 : decode cX3_byTable 29 = .ok (.imul, 1) := by decide +kernel
theorem dX3_byTable_30 : decode cX3_byTable 30 = .ok (.iload 4, 2) := by decide +kernel
theorem dX3_byTable_32 : decode cX3_byTable 32 = .ok (.iadd, 1) := by decide +kernel
theorem dX3_byTable_33 : decode cX3_byTable 33 = .ok (.aload_n 0, 1) := by decide +kernel
theorem dX3_byTable_34 : decode cX3_byTable 34 = .ok (.aload_n 1, 1) := by decide +kernel
theorem dX3_byTable_35 : decode cX3_byTable 35 = .ok (.aload_n 2, 1) := by decide +kernel
theorem dX3_byTable_36 : decode cX3_byTable 36 = .ok (.iload_n 3, 1) := by decide +kernel
theorem dX3_byTable_37 : decode cX3_byTable 37 = .ok (.iload 4, 2) := by decide +kernel
theorem dX3_byTable_39 : decode cX3_byTable 39 = .ok (.invokevirtual 29, 3) := by decide +kernel
theorem dX3_byTable_42 : decode cX3_byTable 42 = .ok (.invokevirtual 33, 3) := by decide +kernel
theorem dX3_byTable_45 : decode cX3_byTable 45 = .ok (.iinc 4 1, 3) := by decide +kernel
theorem dX3_byTable_48 : decode cX3_byTable 48 = .ok (.goto (-35), 3) := by decide +kernel
theorem dX3_byTable_51 : decode cX3_byTable 51 = .ok (.iinc 3 1, 3) := by decide +kernel
theorem dX3_byTable_54 : decode cX3_byTable 54 = .ok (.goto (-52), 3) := by decide +kernel
theorem dX3_byTable_57 : decode cX3_byTable 57 = .ok (.aload_n 0, 1) := by decide +kernel
theorem dX3_byTable_58 : decode cX3_byTable 58 = .ok (.getfield 16, 3) := by decide +kernel
theorem dX3_byTable_61 : decode cX3_byTable 61 = .ok (.aload_n 1, 1) := by decide +kernel
theorem dX3_byTable_62 : decode cX3_byTable 62 = .ok (.getfield 23, 3) := by decide +kernel
theorem dX3_byTable_65 : decode cX3_byTable 65 = .ok (.bipush 7, 2) := by decide +kernel
theorem dX3_byTable_67 : decode cX3_byTable 67 = .ok (.imul, 1) := by decide +kernel
theorem dX3_byTable_68 : decode cX3_byTable 68 = .ok (.aload_n 2, 1) := by decide +kernel
theorem dX3_byTable_69 : decode cX3_byTable 69 = .ok (.getfield 23, 3) := by decide +kernel
theorem dX3_byTable_72 : decode cX3_byTable 72 = .ok (.iadd, 1) := by decide +kernel
theorem dX3_byTable_73 : decode cX3_byTable 73 = .ok (.invokevirtual 37, 3) := by decide +kernel
theorem dX3_byTable_76 : decode cX3_byTable 76 = .ok (.ireturn, 1) := by decide +kernel
theorem dX3_cell_0 : decode cX3_cell 0 = .ok (.iload_n 3, 1) := by decide +kernel
theorem dX3_cell_1 : decode cX3_cell 1 = .ok (.ifCond .eq 8, 3) := by decide +kernel
theorem dX3_cell_4 : decode cX3_cell 4 = .ok (.iload 4, 2) := by decide +kernel
theorem dX3_cell_6 : decode cX3_cell 6 = .ok (.ifCond .ne 8, 3) := by decide +kernel
theorem dX3_cell_9 : decode cX3_cell 9 = .ok (.iload_n 3, 1) := by decide +kernel
theorem dX3_cell_10 : decode cX3_cell 10 = .ok (.iload 4, 2) := by decide +kernel
theorem dX3_cell_12 : decode cX3_cell 12 = .ok (.iadd, 1) := by decide +kernel
theorem dX3_cell_13 : decode cX3_cell 13 = .ok (.ireturn, 1) := by decide +kernel
theorem dX3_cell_14 : decode cX3_cell 14 = .ok (.iload_n 3, 1) := by decide +kernel
theorem dX3_cell_15 : decode cX3_cell 15 = .ok (.iconst 1, 1) := by decide +kernel
theorem dX3_cell_16 : decode cX3_cell 16 = .ok (.isub, 1) := by decide +kernel
theorem dX3_cell_17 : decode cX3_cell 17 = .ok (.bipush 7, 2) := by decide +kernel
theorem dX3_cell_19 : decode cX3_cell 19 = .ok (.imul, 1) := by decide +kernel
theorem dX3_cell_20 : decode cX3_cell 20 = .ok (.iload 4, 2) := by decide +kernel
theorem dX3_cell_22 : decode cX3_cell 22 = .ok (.iadd, 1) := by decide +kernel
theorem dX3_cell_23 : decode cX3_cell 23 = .ok (.istore 5, 2) := by decide +kernel
theorem dX3_cell_25 : decode cX3_cell 25 = .ok (.iload_n 3, 1) := by decide +kernel
theorem dX3_cell_26 : decode cX3_cell 26 = .ok (.bipush 7, 2) := by decide +kernel
theorem dX3_cell_28 : decode cX3_cell 28 = .ok (.imul, 1) := by decide +kernel
theorem dX3_cell_29 : decode cX3_cell 29 = .ok (.iload 4, 2) := by decide +kernel
theorem dX3_cell_31 : decode cX3_cell 31 = .ok (.iadd, 1) := by decide +kernel
theorem dX3_cell_32 : decode cX3_cell 32 = .ok (.iconst 1, 1) := by decide +kernel
theorem dX3_cell_33 : decode cX3_cell 33 = .ok (.isub, 1) := by decide +kernel
theorem dX3_cell_34 : decode cX3_cell 34 = .ok (.istore 6, 2) := by decide +kernel
theorem dX3_cell_36 : decode cX3_cell 36 = .ok (.aload_n 0, 1) := by decide +kernel
theorem dX3_cell_37 : decode cX3_cell 37 = .ok (.getfield 16, 3) := by decide +kernel
theorem dX3_cell_40 : decode cX3_cell 40 = .ok (.iload 5, 2) := by decide +kernel
theorem dX3_cell_42 : decode cX3_cell 42 = .ok (.iconst 1, 1) := by decide +kernel
theorem dX3_cell_43 : decode cX3_cell 43 = .ok (.isub, 1) := by decide +kernel
theorem dX3_cell_44 : decode cX3_cell 44 = .ok (.invokevirtual 37, 3) := by decide +kernel
theorem dX3_cell_47 : decode cX3_cell 47 = .ok (.aload_n 1, 1) := by decide +kernel
theorem dX3_cell_48 : decode cX3_cell 48 = .ok (.iload_n 3, 1) := by decide +kernel
theorem dX3_cell_49 : decode cX3_cell 49 = .ok (.iconst 1, 1) := by decide +kernel
theorem dX3_cell_50 : decode cX3_cell 50 = .ok (.isub, 1) := by decide +kernel
theorem dX3_cell_51 : decode cX3_cell 51 = .ok (.invokevirtual 41, 3) := by decide +kernel
theorem dX3_cell_54 : decode cX3_cell 54 = .ok (.aload_n 2, 1) := by decide +kernel
theorem dX3_cell_55 : decode cX3_cell 55 = .ok (.iload 4, 2) := by decide +kernel
theorem dX3_cell_57 : decode cX3_cell 57 = .ok (.iconst 1, 1) := by decide +kernel
theorem dX3_cell_58 : decode cX3_cell 58 = .ok (.isub, 1) := by decide +kernel
theorem dX3_cell_59 : decode cX3_cell 59 = .ok (.invokevirtual 41, 3) := by decide +kernel
theorem dX3_cell_62 : decode cX3_cell 62 = .ok (.if_icmp .ne 7, 3) := by decide +kernel
theorem dX3_cell_65 : decode cX3_cell 65 = .ok (.iconst 0, 1) := by decide +kernel
theorem dX3_cell_66 : decode cX3_cell 66 = .ok (.goto 4, 3) := by decide +kernel
theorem dX3_cell_69 : decode cX3_cell 69 = .ok (.iconst 1, 1) := by decide +kernel
theorem dX3_cell_70 : decode cX3_cell 70 = .ok (.iadd, 1) := by decide +kernel
theorem dX3_cell_71 : decode cX3_cell 71 = .ok (.istore 7, 2) := by decide +kernel
theorem dX3_cell_73 : decode cX3_cell 73 = .ok (.iload 7, 2) := by decide +kernel
theorem dX3_cell_75 : decode cX3_cell 75 = .ok (.aload_n 0, 1) := by decide +kernel
theorem dX3_cell_76 : decode cX3_cell 76 = .ok (.getfield 16, 3) := by decide +kernel
theorem dX3_cell_79 : decode cX3_cell 79 = .ok (.iload 5, 2) := by decide +kernel
theorem dX3_cell_81 : decode cX3_cell 81 = .ok (.invokevirtual 37, 3) := by decide +kernel
theorem dX3_cell_84 : decode cX3_cell 84 = .ok (.aload_n 0, 1) := by decide +kernel
theorem dX3_cell_85 : decode cX3_cell 85 = .ok (.getfield 16, 3) := by decide +kernel
theorem dX3_cell_88 : decode cX3_cell 88 = .ok (.iload 6, 2) := by decide +kernel
theorem dX3_cell_90 : decode cX3_cell 90 = .ok (.invokevirtual 37, 3) := by decide +kernel
theorem dX3_cell_93 : decode cX3_cell 93 = .ok (.invokestatic 45, 3) := by decide +kernel
theorem dX3_cell_96 : decode cX3_cell 96 = .ok (.iconst 1, 1) := by decide +kernel
theorem dX3_cell_97 : decode cX3_cell 97 = .ok (.iadd, 1) := by decide +kernel
theorem dX3_cell_98 : decode cX3_cell 98 = .ok (.invokestatic 45, 3) := by decide +kernel
theorem dX3_cell_101 : decode cX3_cell 101 = .ok (.ireturn, 1) := by decide +kernel
theorem dX3_byLetters_0 : decode cX3_byLetters 0 = .ok (.aload_n 0, 1) := by decide +kernel
theorem dX3_byLetters_1 : decode cX3_byLetters 1 = .ok (.getfield 20, 3) := by decide +kernel
theorem dX3_byLetters_4 : decode cX3_byLetters 4 = .ok (.iconst (-1), 1) := by decide +kernel
theorem dX3_byLetters_5 : decode cX3_byLetters 5 = .ok (.invokevirtual 51, 3) := by decide +kernel
theorem dX3_byLetters_8 : decode cX3_byLetters 8 = .ok (.aload_n 0, 1) := by decide +kernel
theorem dX3_byLetters_9 : decode cX3_byLetters 9 = .ok (.getfield 20, 3) := by decide +kernel
theorem dX3_byLetters_12 : decode cX3_byLetters 12 = .ok (.aload_n 1, 1) := by decide +kernel
theorem dX3_byLetters_13 : decode cX3_byLetters 13 = .ok (.aload_n 2, 1) := by decide +kernel
theorem dX3_byLetters_14 : decode cX3_byLetters 14 = .ok (.iconst 0, 1) := by decide +kernel
theorem dX3_byLetters_15 : decode cX3_byLetters 15 = .ok (.iconst 0, 1) := by decide +kernel
theorem dX3_byLetters_16 : decode cX3_byLetters 16 = .ok (.iconst 0, 1) := by decide +kernel
theorem dX3_byLetters_17 : decode cX3_byLetters 17 = .ok (.invokestatic 54, 3) := by decide +kernel
theorem dX3_byLetters_20 : decode cX3_byLetters 20 = .ok (.ireturn, 1) := by decide +kernel
theorem dX3_goOn_0 : decode cX3_goOn 0 = .ok (.aload_n 1, 1) := by decide +kernel
theorem dX3_goOn_1 : decode cX3_goOn 1 = .ok (.getfield 23, 3) := by decide +kernel
theorem dX3_goOn_4 : decode cX3_goOn 4 = .ok (.iload_n 3, 1) := by decide +kernel
theorem dX3_goOn_5 : decode cX3_goOn 5 = .ok (.isub, 1) := by decide +kernel
theorem dX3_goOn_6 : decode cX3_goOn 6 = .ok (.istore 6, 2) := by decide +kernel
theorem dX3_goOn_8 : decode cX3_goOn 8 = .ok (.aload_n 2, 1) := by decide +kernel
theorem dX3_goOn_9 : decode cX3_goOn 9 = .ok (.getfield 23, 3) := by decide +kernel
theorem dX3_goOn_12 : decode cX3_goOn 12 = .ok (.iload 4, 2) := by decide +kernel
theorem dX3_goOn_14 : decode cX3_goOn 14 = .ok (.isub, 1) := by decide +kernel
theorem dX3_goOn_15 : decode cX3_goOn 15 = .ok (.istore 7, 2) := by decide +kernel
theorem dX3_goOn_17 : decode cX3_goOn 17 = .ok (.iload 6, 2) := by decide +kernel
theorem dX3_goOn_19 : decode cX3_goOn 19 = .ok (.ifCond .le 15, 3) := by decide +kernel
theorem dX3_goOn_22 : decode cX3_goOn 22 = .ok (.iload 7, 2) := by decide +kernel
theorem dX3_goOn_24 : decode cX3_goOn 24 = .ok (.ifCond .le 10, 3) := by decide +kernel
theorem dX3_goOn_27 : decode cX3_goOn 27 = .ok (.iload 5, 2) := by decide +kernel
theorem dX3_goOn_29 : decode cX3_goOn 29 = .ok (.bipush 18, 2) := by decide +kernel
theorem dX3_goOn_31 : decode cX3_goOn 31 = .ok (.if_icmp .le 17, 3) := by decide +kernel
theorem dX3_goOn_34 : decode cX3_goOn 34 = .ok (.iload 6, 2) := by decide +kernel
theorem dX3_goOn_36 : decode cX3_goOn 36 = .ok (.iconst 0, 1) := by decide +kernel
theorem dX3_goOn_37 : decode cX3_goOn 37 = .ok (.invokestatic 58, 3) := by decide +kernel
theorem dX3_goOn_40 : decode cX3_goOn 40 = .ok (.iload 7, 2) := by decide +kernel
theorem dX3_goOn_42 : decode cX3_goOn 42 = .ok (.iconst 0, 1) := by decide +kernel
theorem dX3_goOn_43 : decode cX3_goOn 43 = .ok (.invokestatic 58, 3) := by decide +kernel
theorem dX3_goOn_46 : decode cX3_goOn 46 = .ok (.iadd, 1) := by decide +kernel
theorem dX3_goOn_47 : decode cX3_goOn 47 = .ok (.ireturn, 1) := by decide +kernel
theorem dX3_goOn_48 : decode cX3_goOn 48 = .ok (.iload_n 3, 1) := by decide +kernel
theorem dX3_goOn_49 : decode cX3_goOn 49 = .ok (.bipush 7, 2) := by decide +kernel
theorem dX3_goOn_51 : decode cX3_goOn 51 = .ok (.imul, 1) := by decide +kernel
theorem dX3_goOn_52 : decode cX3_goOn 52 = .ok (.iload 4, 2) := by decide +kernel
theorem dX3_goOn_54 : decode cX3_goOn 54 = .ok (.iadd, 1) := by decide +kernel
theorem dX3_goOn_55 : decode cX3_goOn 55 = .ok (.istore 8, 2) := by decide +kernel
theorem dX3_goOn_57 : decode cX3_goOn 57 = .ok (.aload_n 0, 1) := by decide +kernel
theorem dX3_goOn_58 : decode cX3_goOn 58 = .ok (.iload 8, 2) := by decide +kernel
theorem dX3_goOn_60 : decode cX3_goOn 60 = .ok (.invokevirtual 37, 3) := by decide +kernel
theorem dX3_goOn_63 : decode cX3_goOn 63 = .ok (.iconst (-1), 1) := by decide +kernel
theorem dX3_goOn_64 : decode cX3_goOn 64 = .ok (.if_icmp .eq 10, 3) := by decide +kernel
theorem dX3_goOn_67 : decode cX3_goOn 67 = .ok (.aload_n 0, 1) := by decide +kernel
theorem dX3_goOn_68 : decode cX3_goOn 68 = .ok (.iload 8, 2) := by decide +kernel
theorem dX3_goOn_70 : decode cX3_goOn 70 = .ok (.invokevirtual 37, 3) := by decide +kernel
theorem dX3_goOn_73 : decode cX3_goOn 73 = .ok (.ireturn, 1) := by decide +kernel
theorem dX3_goOn_74 : decode cX3_goOn 74 = .ok (.aload_n 0, 1) := by decide +kernel
theorem dX3_goOn_75 : decode cX3_goOn 75 = .ok (.aload_n 1, 1) := by decide +kernel
theorem dX3_goOn_76 : decode cX3_goOn 76 = .ok (.aload_n 2, 1) := by decide +kernel
theorem dX3_goOn_77 : decode cX3_goOn 77 = .ok (.iload_n 3, 1) := by decide +kernel
theorem dX3_goOn_78 : decode cX3_goOn 78 = .ok (.iconst 1, 1) := by decide +kernel
theorem dX3_goOn_79 : decode cX3_goOn 79 = .ok (.iadd, 1) := by decide +kernel
theorem dX3_goOn_80 : decode cX3_goOn 80 = .ok (.iload 4, 2) := by decide +kernel
theorem dX3_goOn_82 : decode cX3_goOn 82 = .ok (.iconst 1, 1) := by decide +kernel
theorem dX3_goOn_83 : decode cX3_goOn 83 = .ok (.iadd, 1) := by decide +kernel
theorem dX3_goOn_84 : decode cX3_goOn 84 = .ok (.iload 5, 2) := by decide +kernel
theorem dX3_goOn_86 : decode cX3_goOn 86 = .ok (.iconst 1, 1) := by decide +kernel
theorem dX3_goOn_87 : decode cX3_goOn 87 = .ok (.iadd, 1) := by decide +kernel
theorem dX3_goOn_88 : decode cX3_goOn 88 = .ok (.invokestatic 54, 3) := by decide +kernel
theorem dX3_goOn_91 : decode cX3_goOn 91 = .ok (.istore 9, 2) := by decide +kernel
theorem dX3_goOn_93 : decode cX3_goOn 93 = .ok (.aload_n 1, 1) := by decide +kernel
theorem dX3_goOn_94 : decode cX3_goOn 94 = .ok (.iload_n 3, 1) := by decide +kernel
theorem dX3_goOn_95 : decode cX3_goOn 95 = .ok (.invokevirtual 41, 3) := by decide +kernel
theorem dX3_goOn_98 : decode cX3_goOn 98 = .ok (.aload_n 2, 1) := by decide +kernel
theorem dX3_goOn_99 : decode cX3_goOn 99 = .ok (.iload 4, 2) := by decide +kernel
theorem dX3_goOn_101 : decode cX3_goOn 101 = .ok (.invokevirtual 41, 3) := by decide +kernel
theorem dX3_goOn_104 : decode cX3_goOn 104 = .ok (.if_icmp .eq 53, 3) := by decide +kernel
theorem dX3_goOn_107 : decode cX3_goOn 107 = .ok (.aload_n 0, 1) := by decide +kernel
theorem dX3_goOn_108 : decode cX3_goOn 108 = .ok (.aload_n 1, 1) := by decide +kernel
theorem dX3_goOn_109 : decode cX3_goOn 109 = .ok (.aload_n 2, 1) := by decide +kernel
theorem dX3_goOn_110 : decode cX3_goOn 110 = .ok (.iload_n 3, 1) := by decide +kernel
theorem dX3_goOn_111 : decode cX3_goOn 111 = .ok (.iconst 1, 1) := by decide +kernel
theorem dX3_goOn_112 : decode cX3_goOn 112 = .ok (.iadd, 1) := by decide +kernel
theorem dX3_goOn_113 : decode cX3_goOn 113 = .ok (.iload 4, 2) := by decide +kernel
theorem dX3_goOn_115 : decode cX3_goOn 115 = .ok (.iload 5, 2) := by decide +kernel
theorem dX3_goOn_117 : decode cX3_goOn 117 = .ok (.iconst 1, 1) := by decide +kernel
theorem dX3_goOn_118 : decode cX3_goOn 118 = .ok (.iadd, 1) := by decide +kernel
theorem dX3_goOn_119 : decode cX3_goOn 119 = .ok (.invokestatic 54, 3) := by decide +kernel
theorem dX3_goOn_122 : decode cX3_goOn 122 = .ok (.istore 10, 2) := by decide +kernel
theorem dX3_goOn_124 : decode cX3_goOn 124 = .ok (.aload_n 0, 1) := by decide +kernel
theorem dX3_goOn_125 : decode cX3_goOn 125 = .ok (.aload_n 1, 1) := by decide +kernel
theorem dX3_goOn_126 : decode cX3_goOn 126 = .ok (.aload_n 2, 1) := by decide +kernel
theorem dX3_goOn_127 : decode cX3_goOn 127 = .ok (.iload_n 3, 1) := by decide +kernel
theorem dX3_goOn_128 : decode cX3_goOn 128 = .ok (.iload 4, 2) := by decide +kernel
theorem dX3_goOn_130 : decode cX3_goOn 130 = .ok (.iconst 1, 1) := by decide +kernel
theorem dX3_goOn_131 : decode cX3_goOn 131 = .ok (.iadd, 1) := by decide +kernel
theorem dX3_goOn_132 : decode cX3_goOn 132 = .ok (.iload 5, 2) := by decide +kernel
theorem dX3_goOn_134 : decode cX3_goOn 134 = .ok (.iconst 1, 1) := by decide +kernel
theorem dX3_goOn_135 : decode cX3_goOn 135 = .ok (.iadd, 1) := by decide +kernel
theorem dX3_goOn_136 : decode cX3_goOn 136 = .ok (.invokestatic 54, 3) := by decide +kernel
theorem dX3_goOn_139 : decode cX3_goOn 139 = .ok (.istore 11, 2) := by decide +kernel
theorem dX3_goOn_141 : decode cX3_goOn 141 = .ok (.iload 9, 2) := by decide +kernel
theorem dX3_goOn_143 : decode cX3_goOn 143 = .ok (.iload 10, 2) := by decide +kernel
theorem dX3_goOn_145 : decode cX3_goOn 145 = .ok (.iload 11, 2) := by decide +kernel
theorem dX3_goOn_147 : decode cX3_goOn 147 = .ok (.invokestatic 45, 3) := by decide +kernel
theorem dX3_goOn_150 : decode cX3_goOn 150 = .ok (.invokestatic 45, 3) := by decide +kernel
theorem dX3_goOn_153 : decode cX3_goOn 153 = .ok (.iconst 1, 1) := by decide +kernel
theorem dX3_goOn_154 : decode cX3_goOn 154 = .ok (.iadd, 1) := by decide +kernel
theorem dX3_goOn_155 : decode cX3_goOn 155 = .ok (.istore 9, 2) := by decide +kernel
theorem dX3_goOn_157 : decode cX3_goOn 157 = .ok (.aload_n 0, 1) := by decide +kernel
theorem dX3_goOn_158 : decode cX3_goOn 158 = .ok (.iload 8, 2) := by decide +kernel
theorem dX3_goOn_160 : decode cX3_goOn 160 = .ok (.iload 9, 2) := by decide +kernel
theorem dX3_goOn_162 : decode cX3_goOn 162 = .ok (.invokevirtual 33, 3) := by decide +kernel
theorem dX3_goOn_165 : decode cX3_goOn 165 = .ok (.iload 9, 2) := by decide +kernel
theorem dX3_goOn_167 : decode cX3_goOn 167 = .ok (.ireturn, 1) := by decide +kernel
theorem dX4_init_0 : decode cX4_init 0 = .ok (.aload_n 0, 1) := by decide +kernel
theorem dX4_init_1 : decode cX4_init 1 = .ok (.invokespecial 3, 3) := by decide +kernel
theorem dX4_init_4 : decode cX4_init 4 = .ok (.aload_n 0, 1) := by decide +kernel
theorem dX4_init_5 : decode cX4_init 5 = .ok (.bipush 8, 2) := by decide +kernel
theorem dX4_init_7 : decode cX4_init 7 = .ok (.anewarray 9, 3) := by decide +kernel
theorem dX4_init_10 : decode cX4_init 10 = .ok (.putfield 11, 3) := by decide +kernel
theorem dX4_init_13 : decode cX4_init 13 = .ok (.aload_n 0, 1) := by decide +kernel
theorem dX4_init_14 : decode cX4_init 14 = .ok (.iconst 0, 1) := by decide +kernel
theorem dX4_init_15 : decode cX4_init 15 = .ok (.putfield 17, 3) := by decide +kernel
theorem dX4_init_18 : decode cX4_init 18 = .ok (.aload_n 0, 1) := by decide +kernel
theorem dX4_init_19 : decode cX4_init 19 = .ok (.iconst 0, 1) := by decide +kernel
theorem dX4_init_20 : decode cX4_init 20 = .ok (.putfield 21, 3) := by decide +kernel
theorem dX4_init_23 : decode cX4_init 23 = .ok (.iconst 0, 1) := by decide +kernel
theorem dX4_init_24 : decode cX4_init 24 = .ok (.istore_n 1, 1) := by decide +kernel
theorem dX4_init_25 : decode cX4_init 25 = .ok (.iload_n 1, 1) := by decide +kernel
theorem dX4_init_26 : decode cX4_init 26 = .ok (.aload_n 0, 1) := by decide +kernel
theorem dX4_init_27 : decode cX4_init 27 = .ok (.getfield 11, 3) := by decide +kernel
theorem dX4_init_30 : decode cX4_init 30 = .ok (.arraylength, 1) := by decide +kernel
theorem dX4_init_31 : decode cX4_init 31 = .ok (.if_icmp .ge 22, 3) := by decide +kernel
theorem dX4_init_34 : decode cX4_init 34 = .ok (.aload_n 0, 1) := by decide +kernel
theorem dX4_init_35 : decode cX4_init 35 = .ok (.getfield 11, 3) := by decide +kernel
theorem dX4_init_38 : decode cX4_init 38 = .ok (.iload_n 1, 1) := by decide +kernel
theorem dX4_init_39 : decode cX4_init 39 = .ok (.new 9, 3) := by decide +kernel
theorem dX4_init_42 : decode cX4_init 42 = .ok (.dup, 1) := by decide +kernel
theorem dX4_init_43 : decode cX4_init 43 = .ok (.invokespecial 24, 3) := by decide +kernel
theorem dX4_init_46 : decode cX4_init 46 = .ok (.aastore, 1) := by decide +kernel
theorem dX4_init_47 : decode cX4_init 47 = .ok (.iinc 1 1, 3) := by decide +kernel
theorem dX4_init_50 : decode cX4_init 50 = .ok (.goto (-25), 3) := by decide +kernel
theorem dX4_init_53 : decode cX4_init 53 = .ok (.return_, 1) := by decide +kernel
theorem dX4_at_0 : decode cX4_at 0 = .ok (.iload_n 1, 1) := by decide +kernel
theorem dX4_at_1 : decode cX4_at 1 = .ok (.ifCond .lt 21, 3) := by decide +kernel
theorem dX4_at_4 : decode cX4_at 4 = .ok (.iload_n 1, 1) := by decide +kernel
theorem dX4_at_5 : decode cX4_at 5 = .ok (.aload_n 0, 1) := by decide +kernel
theorem dX4_at_6 : decode cX4_at 6 = .ok (.getfield 11, 3) := by decide +kernel
theorem dX4_at_9 : decode cX4_at 9 = .ok (.arraylength, 1) := by decide +kernel
theorem dX4_at_10 : decode cX4_at 10 = .ok (.if_icmp .ge 12, 3) := by decide +kernel
theorem dX4_at_13 : decode cX4_at 13 = .ok (.aload_n 0, 1) := by decide +kernel
theorem dX4_at_14 : decode cX4_at 14 = .ok (.getfield 11, 3) := by decide +kernel
theorem dX4_at_17 : decode cX4_at 17 = .ok (.iload_n 1, 1) := by decide +kernel
theorem dX4_at_18 : decode cX4_at 18 = .ok (.aaload, 1) := by decide +kernel
theorem dX4_at_19 : decode cX4_at 19 = .ok (.goto 4, 3) := by decide +kernel
theorem dX4_at_22 : decode cX4_at 22 = .ok (.aconst_null, 1) := by decide +kernel
theorem dX4_at_23 : decode cX4_at 23 = .ok (.areturn, 1) := by decide +kernel
theorem dX4_keep_0 : decode cX4_keep 0 = .ok (.aload_n 0, 1) := by decide +kernel
theorem dX4_keep_1 : decode cX4_keep 1 = .ok (.aload_n 0, 1) := by decide +kernel
theorem dX4_keep_2 : decode cX4_keep 2 = .ok (.getfield 17, 3) := by decide +kernel
theorem dX4_keep_5 : decode cX4_keep 5 = .ok (.invokevirtual 25, 3) := by decide +kernel
theorem dX4_keep_8 : decode cX4_keep 8 = .ok (.astore_n 2, 1) := by decide +kernel
theorem dX4_keep_9 : decode cX4_keep 9 = .ok (.aload_n 2, 1) := by decide +kernel
theorem dX4_keep_10 : decode cX4_keep 10 = .ok (.ifnull 48, 3) := by decide +kernel
theorem dX4_keep_13 : decode cX4_keep 13 = .ok (.aload_n 2, 1) := by decide +kernel
theorem dX4_keep_14 : decode cX4_keep 14 = .ok (.aload_n 1, 1) := by decide +kernel
theorem dX4_keep_15 : decode cX4_keep 15 = .ok (.invokevirtual 29, 3) := by decide +kernel
theorem dX4_keep_18 : decode cX4_keep 18 = .ok (.aload_n 0, 1) := by decide +kernel
theorem dX4_keep_19 : decode cX4_keep 19 = .ok (.aload_n 0, 1) := by decide +kernel
theorem dX4_keep_20 : decode cX4_keep 20 = .ok (.getfield 17, 3) := by decide +kernel
theorem dX4_keep_23 : decode cX4_keep 23 = .ok (.iconst 1, 1) := by decide +kernel
theorem dX4_keep_24 : decode cX4_keep 24 = .ok (.iadd, 1) := by decide +kernel
theorem dX4_keep_25 : decode cX4_keep 25 = .ok (.bipush 8, 2) := by decide +kernel
theorem dX4_keep_27 : decode cX4_keep 27 = .ok (.if_icmp .ge 12, 3) := by decide +kernel
theorem dX4_keep_30 : decode cX4_keep 30 = .ok (.aload_n 0, 1) := by decide +kernel
theorem dX4_keep_31 : decode cX4_keep 31 = .ok (.getfield 17, 3) := by decide +kernel
theorem dX4_keep_34 : decode cX4_keep 34 = .ok (.iconst 1, 1) := by decide +kernel
theorem dX4_keep_35 : decode cX4_keep 35 = .ok (.iadd, 1) := by decide +kernel
theorem dX4_keep_36 : decode cX4_keep 36 = .ok (.goto 4, 3) := by decide +kernel
theorem dX4_keep_39 : decode cX4_keep 39 = .ok (.iconst 0, 1) := by decide +kernel
theorem dX4_keep_40 : decode cX4_keep 40 = .ok (.putfield 17, 3) := by decide +kernel
theorem dX4_keep_43 : decode cX4_keep 43 = .ok (.aload_n 0, 1) := by decide +kernel
theorem dX4_keep_44 : decode cX4_keep 44 = .ok (.aload_n 0, 1) := by decide +kernel
theorem dX4_keep_45 : decode cX4_keep 45 = .ok (.getfield 21, 3) := by decide +kernel
theorem dX4_keep_48 : decode cX4_keep 48 = .ok (.iconst 1, 1) := by decide +kernel
theorem dX4_keep_49 : decode cX4_keep 49 = .ok (.iadd, 1) := by decide +kernel
theorem dX4_keep_50 : decode cX4_keep 50 = .ok (.bipush 8, 2) := by decide +kernel
theorem dX4_keep_52 : decode cX4_keep 52 = .ok (.invokestatic 33, 3) := by decide +kernel
theorem dX4_keep_55 : decode cX4_keep 55 = .ok (.putfield 21, 3) := by decide +kernel
theorem dX4_keep_58 : decode cX4_keep 58 = .ok (.return_, 1) := by decide +kernel
theorem dX4_takeBack_0 : decode cX4_takeBack 0 = .ok (.aload_n 0, 1) := by decide +kernel
theorem dX4_takeBack_1 : decode cX4_takeBack 1 = .ok (.getfield 17, 3) := by decide +kernel
theorem dX4_takeBack_4 : decode cX4_takeBack 4 = .ok (.ifCond .le 12, 3) := by decide +kernel
theorem dX4_takeBack_7 : decode cX4_takeBack 7 = .ok (.aload_n 0, 1) := by decide +kernel
theorem dX4_takeBack_8 : decode cX4_takeBack 8 = .ok (.getfield 17, 3) := by decide +kernel
theorem dX4_takeBack_11 : decode cX4_takeBack 11 = .ok (.iconst 1, 1) := by decide +kernel
theorem dX4_takeBack_12 : decode cX4_takeBack 12 = .ok (.isub, 1) := by decide +kernel
theorem dX4_takeBack_13 : decode cX4_takeBack 13 = .ok (.goto 5, 3) := by decide +kernel
theorem dX4_takeBack_16 : decode cX4_takeBack 16 = .ok (.bipush 7, 2) := by decide +kernel
theorem dX4_takeBack_18 : decode cX4_takeBack 18 = .ok (.istore_n 2, 1) := by decide +kernel
theorem dX4_takeBack_19 : decode cX4_takeBack 19 = .ok (.aload_n 0, 1) := by decide +kernel
theorem dX4_takeBack_20 : decode cX4_takeBack 20 = .ok (.iload_n 2, 1) := by decide +kernel
theorem dX4_takeBack_21 : decode cX4_takeBack 21 = .ok (.invokevirtual 25, 3) := by decide +kernel
theorem dX4_takeBack_24 : decode cX4_takeBack 24 = .ok (.astore_n 3, 1) := by decide +kernel
theorem dX4_takeBack_25 : decode cX4_takeBack 25 = .ok (.aload_n 3, 1) := by decide +kernel
theorem dX4_takeBack_26 : decode cX4_takeBack 26 = .ok (.ifnull 30, 3) := by decide +kernel
theorem dX4_takeBack_29 : decode cX4_takeBack 29 = .ok (.aload_n 0, 1) := by decide +kernel
theorem dX4_takeBack_30 : decode cX4_takeBack 30 = .ok (.getfield 21, 3) := by decide +kernel
theorem dX4_takeBack_33 : decode cX4_takeBack 33 = .ok (.ifCond .le 23, 3) := by decide +kernel
theorem dX4_takeBack_36 : decode cX4_takeBack 36 = .ok (.aload_n 1, 1) := by decide +kernel
theorem dX4_takeBack_37 : decode cX4_takeBack 37 = .ok (.aload_n 3, 1) := by decide +kernel
theorem dX4_takeBack_38 : decode cX4_takeBack 38 = .ok (.invokevirtual 29, 3) := by decide +kernel
theorem dX4_takeBack_41 : decode cX4_takeBack 41 = .ok (.aload_n 0, 1) := by decide +kernel
theorem dX4_takeBack_42 : decode cX4_takeBack 42 = .ok (.iload_n 2, 1) := by decide +kernel
theorem dX4_takeBack_43 : decode cX4_takeBack 43 = .ok (.putfield 17, 3) := by decide +kernel
theorem dX4_takeBack_46 : decode cX4_takeBack 46 = .ok (.aload_n 0, 1) := by decide +kernel
theorem dX4_takeBack_47 : decode cX4_takeBack 47 = .ok (.dup, 1) := by decide +kernel
theorem dX4_takeBack_48 : decode cX4_takeBack 48 = .ok (.getfield 21, 3) := by decide +kernel
theorem dX4_takeBack_51 : decode cX4_takeBack 51 = .ok (.iconst 1, 1) := by decide +kernel
theorem dX4_takeBack_52 : decode cX4_takeBack 52 = .ok (.isub, 1) := by decide +kernel
theorem dX4_takeBack_53 : decode cX4_takeBack 53 = .ok (.putfield 21, 3) := by decide +kernel
theorem dX4_takeBack_56 : decode cX4_takeBack 56 = .ok (.return_, 1) := by decide +kernel
theorem dX4_forget_0 : decode cX4_forget 0 = .ok (.aload_n 0, 1) := by decide +kernel
theorem dX4_forget_1 : decode cX4_forget 1 = .ok (.iconst 0, 1) := by decide +kernel
theorem dX4_forget_2 : decode cX4_forget 2 = .ok (.putfield 21, 3) := by decide +kernel
theorem dX4_forget_5 : decode cX4_forget 5 = .ok (.return_, 1) := by decide +kernel
theorem dX5_init_0 : decode cX5_init 0 = .ok (.aload_n 0, 1) := by decide +kernel
theorem dX5_init_1 : decode cX5_init 1 = .ok (.invokespecial 3, 3) := by decide +kernel
theorem dX5_init_4 : decode cX5_init 4 = .ok (.aload_n 0, 1) := by decide +kernel
theorem dX5_init_5 : decode cX5_init 5 = .ok (.new 9, 3) := by decide +kernel
theorem dX5_init_8 : decode cX5_init 8 = .ok (.dup, 1) := by decide +kernel
theorem dX5_init_9 : decode cX5_init 9 = .ok (.bipush 8, 2) := by decide +kernel
theorem dX5_init_11 : decode cX5_init 11 = .ok (.invokespecial 11, 3) := by decide +kernel
theorem dX5_init_14 : decode cX5_init 14 = .ok (.putfield 14, 3) := by decide +kernel
theorem dX5_init_17 : decode cX5_init 17 = .ok (.aload_n 0, 1) := by decide +kernel
theorem dX5_init_18 : decode cX5_init 18 = .ok (.new 9, 3) := by decide +kernel
theorem dX5_init_21 : decode cX5_init 21 = .ok (.dup, 1) := by decide +kernel
theorem dX5_init_22 : decode cX5_init 22 = .ok (.bipush 8, 2) := by decide +kernel
theorem dX5_init_24 : decode cX5_init 24 = .ok (.invokespecial 11, 3) := by decide +kernel
theorem dX5_init_27 : decode cX5_init 27 = .ok (.putfield 20, 3) := by decide +kernel
theorem dX5_init_30 : decode cX5_init 30 = .ok (.aload_n 0, 1) := by decide +kernel
theorem dX5_init_31 : decode cX5_init 31 = .ok (.new 9, 3) := by decide +kernel
theorem dX5_init_34 : decode cX5_init 34 = .ok (.dup, 1) := by decide +kernel
theorem dX5_init_35 : decode cX5_init 35 = .ok (.bipush 8, 2) := by decide +kernel
theorem dX5_init_37 : decode cX5_init 37 = .ok (.invokespecial 11, 3) := by decide +kernel
theorem dX5_init_40 : decode cX5_init 40 = .ok (.putfield 23, 3) := by decide +kernel
theorem dX5_init_43 : decode cX5_init 43 = .ok (.aload_n 0, 1) := by decide +kernel
theorem dX5_init_44 : decode cX5_init 44 = .ok (.new 9, 3) := by decide +kernel
theorem dX5_init_47 : decode cX5_init 47 = .ok (.dup, 1) := by decide +kernel
theorem dX5_init_48 : decode cX5_init 48 = .ok (.bipush 8, 2) := by decide +kernel
theorem dX5_init_50 : decode cX5_init 50 = .ok (.invokespecial 11, 3) := by decide +kernel
theorem dX5_init_53 : decode cX5_init 53 = .ok (.putfield 26, 3) := by decide +kernel
theorem dX5_init_56 : decode cX5_init 56 = .ok (.aload_n 0, 1) := by decide +kernel
theorem dX5_init_57 : decode cX5_init 57 = .ok (.new 9, 3) := by decide +kernel
theorem dX5_init_60 : decode cX5_init 60 = .ok (.dup, 1) := by decide +kernel
theorem dX5_init_61 : decode cX5_init 61 = .ok (.bipush 8, 2) := by decide +kernel
theorem dX5_init_63 : decode cX5_init 63 = .ok (.invokespecial 11, 3) := by decide +kernel
theorem dX5_init_66 : decode cX5_init 66 = .ok (.putfield 29, 3) := by decide +kernel
theorem dX5_init_69 : decode cX5_init 69 = .ok (.aload_n 0, 1) := by decide +kernel
theorem dX5_init_70 : decode cX5_init 70 = .ok (.new 9, 3) := by decide +kernel
theorem dX5_init_73 : decode cX5_init 73 = .ok (.dup, 1) := by decide +kernel
theorem dX5_init_74 : decode cX5_init 74 = .ok (.bipush 8, 2) := by decide +kernel
theorem dX5_init_76 : decode cX5_init 76 = .ok (.invokespecial 11, 3) := by decide +kernel
theorem dX5_init_79 : decode cX5_init 79 = .ok (.putfield 32, 3) := by decide +kernel
theorem dX5_init_82 : decode cX5_init 82 = .ok (.aload_n 0, 1) := by decide +kernel
theorem dX5_init_83 : decode cX5_init 83 = .ok (.iconst 0, 1) := by decide +kernel
theorem dX5_init_84 : decode cX5_init 84 = .ok (.putfield 35, 3) := by decide +kernel
theorem dX5_init_87 : decode cX5_init 87 = .ok (.aload_n 0, 1) := by decide +kernel
theorem dX5_init_88 : decode cX5_init 88 = .ok (.iconst 0, 1) := by decide +kernel
theorem dX5_init_89 : decode cX5_init 89 = .ok (.putfield 39, 3) := by decide +kernel
theorem dX5_init_92 : decode cX5_init 92 = .ok (.return_, 1) := by decide +kernel
theorem dX5_positionOf_0 : decode cX5_positionOf 0 = .ok (.iconst 0, 1) := by decide +kernel
theorem dX5_positionOf_1 : decode cX5_positionOf 1 = .ok (.istore_n 2, 1) := by decide +kernel
theorem dX5_positionOf_2 : decode cX5_positionOf 2 = .ok (.iload_n 2, 1) := by decide +kernel
theorem dX5_positionOf_3 : decode cX5_positionOf 3 = .ok (.aload_n 0, 1) := by decide +kernel
theorem dX5_positionOf_4 : decode cX5_positionOf 4 = .ok (.getfield 35, 3) := by decide +kernel
theorem dX5_positionOf_7 : decode cX5_positionOf 7 = .ok (.if_icmp .ge 23, 3) := by decide +kernel
theorem dX5_positionOf_10 : decode cX5_positionOf 10 = .ok (.aload_n 0, 1) := by decide +kernel
theorem dX5_positionOf_11 : decode cX5_positionOf 11 = .ok (.getfield 14, 3) := by decide +kernel
theorem dX5_positionOf_14 : decode cX5_positionOf 14 = .ok (.iload_n 2, 1) := by decide +kernel
theorem dX5_positionOf_15 : decode cX5_positionOf 15 = .ok (.invokevirtual 42, 3) := by decide +kernel
theorem dX5_positionOf_18 : decode cX5_positionOf 18 = .ok (.iload_n 1, 1) := by decide +kernel
theorem dX5_positionOf_19 : decode cX5_positionOf 19 = .ok (.if_icmp .ne 5, 3) := by decide +kernel
theorem dX5_positionOf_22 : decode cX5_positionOf 22 = .ok (.iload_n 2, 1) := by decide +kernel
theorem dX5_positionOf_23 : decode cX5_positionOf 23 = .ok (.ireturn, 1) := by decide +kernel
theorem dX5_positionOf_24 : decode cX5_positionOf 24 = .ok (.iinc 2 1, 3) := by decide +kernel
theorem dX5_positionOf_27 : decode cX5_positionOf 27 = .ok (.goto (-25), 3) := by decide +kernel
theorem dX5_positionOf_30 : decode cX5_positionOf 30 = .ok (.iconst (-1), 1) := by decide +kernel
theorem dX5_positionOf_31 : decode cX5_positionOf 31 = .ok (.ireturn, 1) := by decide +kernel
theorem dX5_positionOfRank_0 : decode cX5_positionOfRank 0 = .ok (.iconst 0, 1) := by decide +kernel
theorem dX5_positionOfRank_1 : decode cX5_positionOfRank 1 = .ok (.istore_n 2, 1) := by decide +kernel
theorem dX5_positionOfRank_2 : decode cX5_positionOfRank 2 = .ok (.iload_n 2, 1) := by decide +kernel
theorem dX5_positionOfRank_3 : decode cX5_positionOfRank 3 = .ok (.aload_n 0, 1) := by decide +kernel
theorem dX5_positionOfRank_4 : decode cX5_positionOfRank 4 = .ok (.getfield 35, 3) := by decide +kernel
theorem dX5_positionOfRank_7 : decode cX5_positionOfRank 7 = .ok (.if_icmp .ge 20, 3) := by decide +kernel
theorem dX5_positionOfRank_10 : decode cX5_positionOfRank 10 = .ok (.aload_n 0, 1) := by decide +kernel
theorem dX5_positionOfRank_11 : decode cX5_positionOfRank 11 = .ok (.iload_n 2, 1) := by decide +kernel
theorem dX5_positionOfRank_12 : decode cX5_positionOfRank 12 = .ok (.invokevirtual 46, 3) := by decide +kernel
theorem dX5_positionOfRank_15 : decode cX5_positionOfRank 15 = .ok (.iload_n 1, 1) := by decide +kernel
theorem dX5_positionOfRank_16 : decode cX5_positionOfRank 16 = .ok (.if_icmp .ne 5, 3) := by decide +kernel
theorem dX5_positionOfRank_19 : decode cX5_positionOfRank 19 = .ok (.iload_n 2, 1) := by decide +kernel
theorem dX5_positionOfRank_20 : decode cX5_positionOfRank 20 = .ok (.ireturn, 1) := by decide +kernel
theorem dX5_positionOfRank_21 : decode cX5_positionOfRank 21 = .ok (.iinc 2 1, 3) := by decide +kernel
theorem dX5_positionOfRank_24 : decode cX5_positionOfRank 24 = .ok (.goto (-22), 3) := by decide +kernel
theorem dX5_positionOfRank_27 : decode cX5_positionOfRank 27 = .ok (.iconst (-1), 1) := by decide +kernel
theorem dX5_positionOfRank_28 : decode cX5_positionOfRank 28 = .ok (.ireturn, 1) := by decide +kernel
theorem dX5_rankOf_0 : decode cX5_rankOf 0 = .ok (.aload_n 0, 1) := by decide +kernel
theorem dX5_rankOf_1 : decode cX5_rankOf 1 = .ok (.getfield 32, 3) := by decide +kernel
theorem dX5_rankOf_4 : decode cX5_rankOf 4 = .ok (.iload_n 1, 1) := by decide +kernel
theorem dX5_rankOf_5 : decode cX5_rankOf 5 = .ok (.invokevirtual 42, 3) := by decide +kernel
theorem dX5_rankOf_8 : decode cX5_rankOf 8 = .ok (.istore_n 2, 1) := by decide +kernel
theorem dX5_rankOf_9 : decode cX5_rankOf 9 = .ok (.iconst 0, 1) := by decide +kernel
theorem dX5_rankOf_10 : decode cX5_rankOf 10 = .ok (.istore_n 3, 1) := by decide +kernel
theorem dX5_rankOf_11 : decode cX5_rankOf 11 = .ok (.iconst 0, 1) := by decide +kernel
theorem dX5_rankOf_12 : decode cX5_rankOf 12 = .ok (.istore 4, 2) := by decide +kernel
theorem dX5_rankOf_14 : decode cX5_rankOf 14 = .ok (.iload 4, 2) := by decide +kernel
theorem dX5_rankOf_16 : decode cX5_rankOf 16 = .ok (.aload_n 0, 1) := by decide +kernel
theorem dX5_rankOf_17 : decode cX5_rankOf 17 = .ok (.getfield 35, 3) := by decide +kernel
theorem dX5_rankOf_20 : decode cX5_rankOf 20 = .ok (.if_icmp .ge 41, 3) := by decide +kernel
theorem dX5_rankOf_23 : decode cX5_rankOf 23 = .ok (.aload_n 0, 1) := by decide +kernel
theorem dX5_rankOf_24 : decode cX5_rankOf 24 = .ok (.getfield 32, 3) := by decide +kernel
theorem dX5_rankOf_27 : decode cX5_rankOf 27 = .ok (.iload 4, 2) := by decide +kernel
theorem dX5_rankOf_29 : decode cX5_rankOf 29 = .ok (.invokevirtual 42, 3) := by decide +kernel
theorem dX5_rankOf_32 : decode cX5_rankOf 32 = .ok (.iload_n 2, 1) := by decide +kernel
theorem dX5_rankOf_33 : decode cX5_rankOf 33 = .ok (.isub, 1) := by decide +kernel
theorem dX5_rankOf_34 : decode cX5_rankOf 34 = .ok (.istore 5, 2) := by decide +kernel
theorem dX5_rankOf_36 : decode cX5_rankOf 36 = .ok (.iload 5, 2) := by decide +kernel
theorem dX5_rankOf_38 : decode cX5_rankOf 38 = .ok (.ifCond .gt 14, 3) := by decide +kernel
theorem dX5_rankOf_41 : decode cX5_rankOf 41 = .ok (.iload 5, 2) := by decide +kernel
theorem dX5_rankOf_43 : decode cX5_rankOf 43 = .ok (.ifCond .ne 12, 3) := by decide +kernel
theorem dX5_rankOf_46 : decode cX5_rankOf 46 = .ok (.iload 4, 2) := by decide +kernel
theorem dX5_rankOf_48 : decode cX5_rankOf 48 = .ok (.iload_n 1, 1) := by decide +kernel
theorem dX5_rankOf_49 : decode cX5_rankOf 49 = .ok (.if_icmp .ge 6, 3) := by decide +kernel
theorem dX5_rankOf_52 : decode cX5_rankOf 52 = .ok (.iinc 3 1, 3) := by decide +kernel
theorem dX5_rankOf_55 : decode cX5_rankOf 55 = .ok (.iinc 4 1, 3) := by decide +kernel
theorem dX5_rankOf_58 : decode cX5_rankOf 58 = .ok (.goto (-44), 3) := by decide +kernel
theorem dX5_rankOf_61 : decode cX5_rankOf 61 = .ok (.iload_n 3, 1) := by decide +kernel
theorem dX5_rankOf_62 : decode cX5_rankOf 62 = .ok (.ireturn, 1) := by decide +kernel
theorem dX5_sumOf_0 : decode cX5_sumOf 0 = .ok (.iconst 0, 1) := by decide +kernel
theorem dX5_sumOf_1 : decode cX5_sumOf 1 = .ok (.istore_n 2, 1) := by decide +kernel
theorem dX5_sumOf_2 : decode cX5_sumOf 2 = .ok (.iconst 0, 1) := by decide +kernel
theorem dX5_sumOf_3 : decode cX5_sumOf 3 = .ok (.istore_n 3, 1) := by decide +kernel
theorem dX5_sumOf_4 : decode cX5_sumOf 4 = .ok (.iload_n 3, 1) := by decide +kernel
theorem dX5_sumOf_5 : decode cX5_sumOf 5 = .ok (.aload_n 0, 1) := by decide +kernel
theorem dX5_sumOf_6 : decode cX5_sumOf 6 = .ok (.getfield 35, 3) := by decide +kernel
theorem dX5_sumOf_9 : decode cX5_sumOf 9 = .ok (.if_icmp .ge 17, 3) := by decide +kernel
theorem dX5_sumOf_12 : decode cX5_sumOf 12 = .ok (.iload_n 2, 1) := by decide +kernel
theorem dX5_sumOf_13 : decode cX5_sumOf 13 = .ok (.aload_n 1, 1) := by decide +kernel
theorem dX5_sumOf_14 : decode cX5_sumOf 14 = .ok (.iload_n 3, 1) := by decide +kernel
theorem dX5_sumOf_15 : decode cX5_sumOf 15 = .ok (.invokevirtual 42, 3) := by decide +kernel
theorem dX5_sumOf_18 : decode cX5_sumOf 18 = .ok (.iadd, 1) := by decide +kernel
theorem dX5_sumOf_19 : decode cX5_sumOf 19 = .ok (.istore_n 2, 1) := by decide +kernel
theorem dX5_sumOf_20 : decode cX5_sumOf 20 = .ok (.iinc 3 1, 3) := by decide +kernel
theorem dX5_sumOf_23 : decode cX5_sumOf 23 = .ok (.goto (-19), 3) := by decide +kernel
theorem dX5_sumOf_26 : decode cX5_sumOf 26 = .ok (.iload_n 2, 1) := by decide +kernel
theorem dX5_sumOf_27 : decode cX5_sumOf 27 = .ok (.ireturn, 1) := by decide +kernel
theorem dX5_add_0 : decode cX5_add 0 = .ok (.aload_n 0, 1) := by decide +kernel
theorem dX5_add_1 : decode cX5_add 1 = .ok (.getfield 14, 3) := by decide +kernel
theorem dX5_add_4 : decode cX5_add 4 = .ok (.aload_n 0, 1) := by decide +kernel
theorem dX5_add_5 : decode cX5_add 5 = .ok (.getfield 35, 3) := by decide +kernel
theorem dX5_add_8 : decode cX5_add 8 = .ok (.aload_n 0, 1) := by decide +kernel
theorem dX5_add_9 : decode cX5_add 9 = .ok (.getfield 39, 3) := by decide +kernel
theorem dX5_add_12 : decode cX5_add 12 = .ok (.invokevirtual 49, 3) := by decide +kernel
theorem dX5_add_15 : decode cX5_add 15 = .ok (.aload_n 0, 1) := by decide +kernel
theorem dX5_add_16 : decode cX5_add 16 = .ok (.getfield 20, 3) := by decide +kernel
theorem dX5_add_19 : decode cX5_add 19 = .ok (.aload_n 0, 1) := by decide +kernel
theorem dX5_add_20 : decode cX5_add 20 = .ok (.getfield 35, 3) := by decide +kernel
theorem dX5_add_23 : decode cX5_add 23 = .ok (.iload_n 1, 1) := by decide +kernel
theorem dX5_add_24 : decode cX5_add 24 = .ok (.invokevirtual 49, 3) := by decide +kernel
theorem dX5_add_27 : decode cX5_add 27 = .ok (.aload_n 0, 1) := by decide +kernel
theorem dX5_add_28 : decode cX5_add 28 = .ok (.getfield 23, 3) := by decide +kernel
theorem dX5_add_31 : decode cX5_add 31 = .ok (.aload_n 0, 1) := by decide +kernel
theorem dX5_add_32 : decode cX5_add 32 = .ok (.getfield 35, 3) := by decide +kernel
theorem dX5_add_35 : decode cX5_add 35 = .ok (.iload_n 2, 1) := by decide +kernel
theorem dX5_add_36 : decode cX5_add 36 = .ok (.invokevirtual 49, 3) := by decide +kernel
theorem dX5_add_39 : decode cX5_add 39 = .ok (.aload_n 0, 1) := by decide +kernel
theorem dX5_add_40 : decode cX5_add 40 = .ok (.getfield 26, 3) := by decide +kernel
theorem dX5_add_43 : decode cX5_add 43 = .ok (.aload_n 0, 1) := by decide +kernel
theorem dX5_add_44 : decode cX5_add 44 = .ok (.getfield 35, 3) := by decide +kernel
theorem dX5_add_47 : decode cX5_add 47 = .ok (.iload_n 3, 1) := by decide +kernel
theorem dX5_add_48 : decode cX5_add 48 = .ok (.invokevirtual 49, 3) := by decide +kernel
theorem dX5_add_51 : decode cX5_add 51 = .ok (.aload_n 0, 1) := by decide +kernel
theorem dX5_add_52 : decode cX5_add 52 = .ok (.getfield 29, 3) := by decide +kernel
theorem dX5_add_55 : decode cX5_add 55 = .ok (.aload_n 0, 1) := by decide +kernel
theorem dX5_add_56 : decode cX5_add 56 = .ok (.getfield 35, 3) := by decide +kernel
theorem dX5_add_59 : decode cX5_add 59 = .ok (.iload 4, 2) := by decide +kernel
theorem dX5_add_61 : decode cX5_add 61 = .ok (.invokevirtual 49, 3) := by decide +kernel
theorem dX5_add_64 : decode cX5_add 64 = .ok (.aload_n 0, 1) := by decide +kernel
theorem dX5_add_65 : decode cX5_add 65 = .ok (.getfield 32, 3) := by decide +kernel
theorem dX5_add_68 : decode cX5_add 68 = .ok (.aload_n 0, 1) := by decide +kernel
theorem dX5_add_69 : decode cX5_add 69 = .ok (.getfield 35, 3) := by decide +kernel
theorem dX5_add_72 : decode cX5_add 72 = .ok (.iconst 0, 1) := by decide +kernel
theorem dX5_add_73 : decode cX5_add 73 = .ok (.invokevirtual 49, 3) := by decide +kernel
theorem dX5_add_76 : decode cX5_add 76 = .ok (.aload_n 0, 1) := by decide +kernel
theorem dX5_add_77 : decode cX5_add 77 = .ok (.dup, 1) := by decide +kernel
theorem dX5_add_78 : decode cX5_add 78 = .ok (.getfield 35, 3) := by decide +kernel
theorem dX5_add_81 : decode cX5_add 81 = .ok (.iconst 1, 1) := by decide +kernel
theorem dX5_add_82 : decode cX5_add 82 = .ok (.iadd, 1) := by decide +kernel
theorem dX5_add_83 : decode cX5_add 83 = .ok (.putfield 35, 3) := by decide +kernel
theorem dX5_add_86 : decode cX5_add 86 = .ok (.aload_n 0, 1) := by decide +kernel
theorem dX5_add_87 : decode cX5_add 87 = .ok (.dup, 1) := by decide +kernel
theorem dX5_add_88 : decode cX5_add 88 = .ok (.getfield 39, 3) := by decide +kernel
theorem dX5_add_91 : decode cX5_add 91 = .ok (.iconst 1, 1) := by decide +kernel
theorem dX5_add_92 : decode cX5_add 92 = .ok (.iadd, 1) := by decide +kernel
theorem dX5_add_93 : decode cX5_add 93 = .ok (.putfield 39, 3) := by decide +kernel
theorem dX5_add_96 : decode cX5_add 96 = .ok (.aload_n 0, 1) := by decide +kernel
theorem dX5_add_97 : decode cX5_add 97 = .ok (.getfield 39, 3) := by decide +kernel
theorem dX5_add_100 : decode cX5_add 100 = .ok (.iconst 1, 1) := by decide +kernel
theorem dX5_add_101 : decode cX5_add 101 = .ok (.isub, 1) := by decide +kernel
theorem dX5_add_102 : decode cX5_add 102 = .ok (.ireturn, 1) := by decide +kernel
theorem dX5_remove_0 : decode cX5_remove 0 = .ok (.aload_n 0, 1) := by decide +kernel
theorem dX5_remove_1 : decode cX5_remove 1 = .ok (.getfield 29, 3) := by decide +kernel
theorem dX5_remove_4 : decode cX5_remove 4 = .ok (.iload_n 1, 1) := by decide +kernel
theorem dX5_remove_5 : decode cX5_remove 5 = .ok (.invokevirtual 42, 3) := by decide +kernel
theorem dX5_remove_8 : decode cX5_remove 8 = .ok (.istore_n 2, 1) := by decide +kernel
theorem dX5_remove_9 : decode cX5_remove 9 = .ok (.aload_n 0, 1) := by decide +kernel
theorem dX5_remove_10 : decode cX5_remove 10 = .ok (.getfield 14, 3) := by decide +kernel
theorem dX5_remove_13 : decode cX5_remove 13 = .ok (.iload_n 1, 1) := by decide +kernel
theorem dX5_remove_14 : decode cX5_remove 14 = .ok (.invokevirtual 53, 3) := by decide +kernel
theorem dX5_remove_17 : decode cX5_remove 17 = .ok (.aload_n 0, 1) := by decide +kernel
theorem dX5_remove_18 : decode cX5_remove 18 = .ok (.getfield 20, 3) := by decide +kernel
theorem dX5_remove_21 : decode cX5_remove 21 = .ok (.iload_n 1, 1) := by decide +kernel
theorem dX5_remove_22 : decode cX5_remove 22 = .ok (.invokevirtual 53, 3) := by decide +kernel
theorem dX5_remove_25 : decode cX5_remove 25 = .ok (.aload_n 0, 1) := by decide +kernel
theorem dX5_remove_26 : decode cX5_remove 26 = .ok (.getfield 23, 3) := by decide +kernel
theorem dX5_remove_29 : decode cX5_remove 29 = .ok (.iload_n 1, 1) := by decide +kernel
theorem dX5_remove_30 : decode cX5_remove 30 = .ok (.invokevirtual 53, 3) := by decide +kernel
theorem dX5_remove_33 : decode cX5_remove 33 = .ok (.aload_n 0, 1) := by decide +kernel
theorem dX5_remove_34 : decode cX5_remove 34 = .ok (.getfield 26, 3) := by decide +kernel
theorem dX5_remove_37 : decode cX5_remove 37 = .ok (.iload_n 1, 1) := by decide +kernel
theorem dX5_remove_38 : decode cX5_remove 38 = .ok (.invokevirtual 53, 3) := by decide +kernel
theorem dX5_remove_41 : decode cX5_remove 41 = .ok (.aload_n 0, 1) := by decide +kernel
theorem dX5_remove_42 : decode cX5_remove 42 = .ok (.getfield 29, 3) := by decide +kernel
theorem dX5_remove_45 : decode cX5_remove 45 = .ok (.iload_n 1, 1) := by decide +kernel
theorem dX5_remove_46 : decode cX5_remove 46 = .ok (.invokevirtual 53, 3) := by decide +kernel
theorem dX5_remove_49 : decode cX5_remove 49 = .ok (.aload_n 0, 1) := by decide +kernel
theorem dX5_remove_50 : decode cX5_remove 50 = .ok (.getfield 32, 3) := by decide +kernel
theorem dX5_remove_53 : decode cX5_remove 53 = .ok (.iload_n 1, 1) := by decide +kernel
theorem dX5_remove_54 : decode cX5_remove 54 = .ok (.invokevirtual 53, 3) := by decide +kernel
theorem dX5_remove_57 : decode cX5_remove 57 = .ok (.aload_n 0, 1) := by decide +kernel
theorem dX5_remove_58 : decode cX5_remove 58 = .ok (.dup, 1) := by decide +kernel
theorem dX5_remove_59 : decode cX5_remove 59 = .ok (.getfield 35, 3) := by decide +kernel
theorem dX5_remove_62 : decode cX5_remove 62 = .ok (.iconst 1, 1) := by decide +kernel
theorem dX5_remove_63 : decode cX5_remove 63 = .ok (.isub, 1) := by decide +kernel
theorem dX5_remove_64 : decode cX5_remove 64 = .ok (.putfield 35, 3) := by decide +kernel
theorem dX5_remove_67 : decode cX5_remove 67 = .ok (.iload_n 2, 1) := by decide +kernel
theorem dX5_remove_68 : decode cX5_remove 68 = .ok (.ireturn, 1) := by decide +kernel
theorem dX5_copyFrom_0 : decode cX5_copyFrom 0 = .ok (.aload_n 0, 1) := by decide +kernel
theorem dX5_copyFrom_1 : decode cX5_copyFrom 1 = .ok (.getfield 14, 3) := by decide +kernel
theorem dX5_copyFrom_4 : decode cX5_copyFrom 4 = .ok (.aload_n 1, 1) := by decide +kernel
theorem dX5_copyFrom_5 : decode cX5_copyFrom 5 = .ok (.getfield 14, 3) := by decide +kernel
theorem dX5_copyFrom_8 : decode cX5_copyFrom 8 = .ok (.invokevirtual 56, 3) := by decide +kernel
theorem dX5_copyFrom_11 : decode cX5_copyFrom 11 = .ok (.aload_n 0, 1) := by decide +kernel
theorem dX5_copyFrom_12 : decode cX5_copyFrom 12 = .ok (.getfield 20, 3) := by decide +kernel
theorem dX5_copyFrom_15 : decode cX5_copyFrom 15 = .ok (.aload_n 1, 1) := by decide +kernel
theorem dX5_copyFrom_16 : decode cX5_copyFrom 16 = .ok (.getfield 20, 3) := by decide +kernel
theorem dX5_copyFrom_19 : decode cX5_copyFrom 19 = .ok (.invokevirtual 56, 3) := by decide +kernel
theorem dX5_copyFrom_22 : decode cX5_copyFrom 22 = .ok (.aload_n 0, 1) := by decide +kernel
theorem dX5_copyFrom_23 : decode cX5_copyFrom 23 = .ok (.getfield 23, 3) := by decide +kernel
theorem dX5_copyFrom_26 : decode cX5_copyFrom 26 = .ok (.aload_n 1, 1) := by decide +kernel
theorem dX5_copyFrom_27 : decode cX5_copyFrom 27 = .ok (.getfield 23, 3) := by decide +kernel
theorem dX5_copyFrom_30 : decode cX5_copyFrom 30 = .ok (.invokevirtual 56, 3) := by decide +kernel
theorem dX5_copyFrom_33 : decode cX5_copyFrom 33 = .ok (.aload_n 0, 1) := by decide +kernel
theorem dX5_copyFrom_34 : decode cX5_copyFrom 34 = .ok (.getfield 26, 3) := by decide +kernel
theorem dX5_copyFrom_37 : decode cX5_copyFrom 37 = .ok (.aload_n 1, 1) := by decide +kernel
theorem dX5_copyFrom_38 : decode cX5_copyFrom 38 = .ok (.getfield 26, 3) := by decide +kernel
theorem dX5_copyFrom_41 : decode cX5_copyFrom 41 = .ok (.invokevirtual 56, 3) := by decide +kernel
theorem dX5_copyFrom_44 : decode cX5_copyFrom 44 = .ok (.aload_n 0, 1) := by decide +kernel
theorem dX5_copyFrom_45 : decode cX5_copyFrom 45 = .ok (.getfield 29, 3) := by decide +kernel
theorem dX5_copyFrom_48 : decode cX5_copyFrom 48 = .ok (.aload_n 1, 1) := by decide +kernel
theorem dX5_copyFrom_49 : decode cX5_copyFrom 49 = .ok (.getfield 29, 3) := by decide +kernel
theorem dX5_copyFrom_52 : decode cX5_copyFrom 52 = .ok (.invokevirtual 56, 3) := by decide +kernel
theorem dX5_copyFrom_55 : decode cX5_copyFrom 55 = .ok (.aload_n 0, 1) := by decide +kernel
theorem dX5_copyFrom_56 : decode cX5_copyFrom 56 = .ok (.getfield 32, 3) := by decide +kernel
theorem dX5_copyFrom_59 : decode cX5_copyFrom 59 = .ok (.aload_n 1, 1) := by decide +kernel
theorem dX5_copyFrom_60 : decode cX5_copyFrom 60 = .ok (.getfield 32, 3) := by decide +kernel
theorem dX5_copyFrom_63 : decode cX5_copyFrom 63 = .ok (.invokevirtual 56, 3) := by decide +kernel
theorem dX5_copyFrom_66 : decode cX5_copyFrom 66 = .ok (.aload_n 0, 1) := by decide +kernel
theorem dX5_copyFrom_67 : decode cX5_copyFrom 67 = .ok (.aload_n 1, 1) := by decide +kernel
theorem dX5_copyFrom_68 : decode cX5_copyFrom 68 = .ok (.getfield 35, 3) := by decide +kernel
theorem dX5_copyFrom_71 : decode cX5_copyFrom 71 = .ok (.putfield 35, 3) := by decide +kernel
theorem dX5_copyFrom_74 : decode cX5_copyFrom 74 = .ok (.aload_n 0, 1) := by decide +kernel
