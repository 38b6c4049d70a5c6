theorem dX12_rawCount_9 : decode cX12_rawCount 9 = .ok (.iconst 0, 1) := by decide +kernel
theorem dX12_rawCount_10 : decode cX12_rawCount 10 = .ok (.iaload, 1) := by decide +kernel
theorem dX12_rawCount_11 : decode cX12_rawCount 11 = .ok (.ireturn, 1) := by decide +kernel
theorem dX12_batchCount_0 : decode cX12_batchCount 0 = .ok (.aload_n 0, 1) := by decide +kernel
theorem dX12_batchCount_1 : decode cX12_batchCount 1 = .ok (.iconst 0, 1) := by decide +kernel
theorem dX12_batchCount_2 : decode cX12_batchCount 2 = .ok (.putfield 45, 3) := by decide +kernel
theorem dX12_batchCount_5 : decode cX12_batchCount 5 = .ok (.aload_n 0, 1) := by decide +kernel
theorem dX12_batchCount_6 : decode cX12_batchCount 6 = .ok (.getfield 7, 3) := by decide +kernel
theorem dX12_batchCount_9 : decode cX12_batchCount 9 = .ok (.iconst 1, 1) := by decide +kernel
theorem dX12_batchCount_10 : decode cX12_batchCount 10 = .ok (.iaload, 1) := by decide +kernel
theorem dX12_batchCount_11 : decode cX12_batchCount 11 = .ok (.ireturn, 1) := by decide +kernel
theorem dX12_isFaulty_0 : decode cX12_isFaulty 0 = .ok (.aload_n 0, 1) := by decide +kernel
theorem dX12_isFaulty_1 : decode cX12_isFaulty 1 = .ok (.aload_n 0, 1) := by decide +kernel
theorem dX12_isFaulty_2 : decode cX12_isFaulty 2 = .ok (.iload_n 1, 1) := by decide +kernel
theorem dX12_isFaulty_3 : decode cX12_isFaulty 3 = .ok (.invokevirtual 71, 3) := by decide +kernel
theorem dX12_isFaulty_6 : decode cX12_isFaulty 6 = .ok (.ifCond .eq 7, 3) := by decide +kernel
theorem dX12_isFaulty_9 : decode cX12_isFaulty 9 = .ok (.iconst 0, 1) := by decide +kernel
theorem dX12_isFaulty_10 : decode cX12_isFaulty 10 = .ok (.goto 4, 3) := by decide +kernel
theorem dX12_isFaulty_13 : decode cX12_isFaulty 13 = .ok (.iconst 1, 1) := by decide +kernel
theorem dX12_isFaulty_14 : decode cX12_isFaulty 14 = .ok (.invokevirtual 63, 3) := by decide +kernel
theorem dX12_isFaulty_17 : decode cX12_isFaulty 17 = .ok (.ifCond .ne 22, 3) := by decide +kernel
theorem dX12_isFaulty_20 : decode cX12_isFaulty 20 = .ok (.aload_n 0, 1) := by decide +kernel
theorem dX12_isFaulty_21 : decode cX12_isFaulty 21 = .ok (.getfield 7, 3) := by decide +kernel
theorem dX12_isFaulty_24 : decode cX12_isFaulty 24 = .ok (.bipush 6, 2) := by decide +kernel
theorem dX12_isFaulty_26 : decode cX12_isFaulty 26 = .ok (.iaload, 1) := by decide +kernel
theorem dX12_isFaulty_27 : decode cX12_isFaulty 27 = .ok (.iload_n 1, 1) := by decide +kernel
theorem dX12_isFaulty_28 : decode cX12_isFaulty 28 = .ok (.ishr, 1) := by decide +kernel
theorem dX12_isFaulty_29 : decode cX12_isFaulty 29 = .ok (.iconst 1, 1) := by decide +kernel
theorem dX12_isFaulty_30 : decode cX12_isFaulty 30 = .ok (.iand, 1) := by decide +kernel
theorem dX12_isFaulty_31 : decode cX12_isFaulty 31 = .ok (.iconst 1, 1) := by decide +kernel
theorem dX12_isFaulty_32 : decode cX12_isFaulty 32 = .ok (.if_icmp .ne 7, 3) := by decide +kernel
theorem dX12_isFaulty_35 : decode cX12_isFaulty 35 = .ok (.iconst 1, 1) := by decide +kernel
theorem dX12_isFaulty_36 : decode cX12_isFaulty 36 = .ok (.goto 4, 3) := by decide +kernel
theorem dX12_isFaulty_39 : decode cX12_isFaulty 39 = .ok (.iconst 0, 1) := by decide +kernel
theorem dX12_isFaulty_40 : decode cX12_isFaulty 40 = .ok (.ireturn, 1) := by decide +kernel
theorem dX12_strengthOf_0 : decode cX12_strengthOf 0 = .ok (.aload_n 0, 1) := by decide +kernel
theorem dX12_strengthOf_1 : decode cX12_strengthOf 1 = .ok (.aload_n 0, 1) := by decide +kernel
theorem dX12_strengthOf_2 : decode cX12_strengthOf 2 = .ok (.iload_n 1, 1) := by decide +kernel
theorem dX12_strengthOf_3 : decode cX12_strengthOf 3 = .ok (.invokevirtual 74, 3) := by decide +kernel
theorem dX12_strengthOf_6 : decode cX12_strengthOf 6 = .ok (.ifCond .eq 7, 3) := by decide +kernel
theorem dX12_strengthOf_9 : decode cX12_strengthOf 9 = .ok (.iconst 0, 1) := by decide +kernel
theorem dX12_strengthOf_10 : decode cX12_strengthOf 10 = .ok (.goto 4, 3) := by decide +kernel
theorem dX12_strengthOf_13 : decode cX12_strengthOf 13 = .ok (.iconst 1, 1) := by decide +kernel
theorem dX12_strengthOf_14 : decode cX12_strengthOf 14 = .ok (.invokevirtual 63, 3) := by decide +kernel
theorem dX12_strengthOf_17 : decode cX12_strengthOf 17 = .ok (.ifCond .eq 7, 3) := by decide +kernel
theorem dX12_strengthOf_20 : decode cX12_strengthOf 20 = .ok (.iconst 0, 1) := by decide +kernel
theorem dX12_strengthOf_21 : decode cX12_strengthOf 21 = .ok (.goto 9, 3) := by decide +kernel
theorem dX12_strengthOf_24 : decode cX12_strengthOf 24 = .ok (.aload_n 0, 1) := by decide +kernel
theorem dX12_strengthOf_25 : decode cX12_strengthOf 25 = .ok (.iload_n 1, 1) := by decide +kernel
theorem dX12_strengthOf_26 : decode cX12_strengthOf 26 = .ok (.iconst 0, 1) := by decide +kernel
theorem dX12_strengthOf_27 : decode cX12_strengthOf 27 = .ok (.invokevirtual 77, 3) := by decide +kernel
theorem dX12_strengthOf_30 : decode cX12_strengthOf 30 = .ok (.ireturn, 1) := by decide +kernel
theorem dX12_batchContains_0 : decode cX12_batchContains 0 = .ok (.aload_n 0, 1) := by decide +kernel
theorem dX12_batchContains_1 : decode cX12_batchContains 1 = .ok (.aload_n 0, 1) := by decide +kernel
theorem dX12_batchContains_2 : decode cX12_batchContains 2 = .ok (.iload_n 1, 1) := by decide +kernel
theorem dX12_batchContains_3 : decode cX12_batchContains 3 = .ok (.invokevirtual 74, 3) := by decide +kernel
theorem dX12_batchContains_6 : decode cX12_batchContains 6 = .ok (.ifCond .eq 15, 3) := by decide +kernel
theorem dX12_batchContains_9 : decode cX12_batchContains 9 = .ok (.aload_n 0, 1) := by decide +kernel
theorem dX12_batchContains_10 : decode cX12_batchContains 10 = .ok (.iload_n 2, 1) := by decide +kernel
theorem dX12_batchContains_11 : decode cX12_batchContains 11 = .ok (.invokevirtual 71, 3) := by decide +kernel
theorem dX12_batchContains_14 : decode cX12_batchContains 14 = .ok (.ifCond .eq 7, 3) := by decide +kernel
theorem dX12_batchContains_17 : decode cX12_batchContains 17 = .ok (.iconst 0, 1) := by decide +kernel
theorem dX12_batchContains_18 : decode cX12_batchContains 18 = .ok (.goto 4, 3) := by decide +kernel
theorem dX12_batchContains_21 : decode cX12_batchContains 21 = .ok (.iconst 1, 1) := by decide +kernel
theorem dX12_batchContains_22 : decode cX12_batchContains 22 = .ok (.invokevirtual 63, 3) := by decide +kernel
theorem dX12_batchContains_25 : decode cX12_batchContains 25 = .ok (.ifCond .ne 21, 3) := by decide +kernel
theorem dX12_batchContains_28 : decode cX12_batchContains 28 = .ok (.aload_n 0, 1) := by decide +kernel
theorem dX12_batchContains_29 : decode cX12_batchContains 29 = .ok (.iload_n 1, 1) := by decide +kernel
theorem dX12_batchContains_30 : decode cX12_batchContains 30 = .ok (.iconst 1, 1) := by decide +kernel
theorem dX12_batchContains_31 : decode cX12_batchContains 31 = .ok (.invokevirtual 77, 3) := by decide +kernel
theorem dX12_batchContains_34 : decode cX12_batchContains 34 = .ok (.iload_n 2, 1) := by decide +kernel
theorem dX12_batchContains_35 : decode cX12_batchContains 35 = .ok (.ishr, 1) := by decide +kernel
theorem dX12_batchContains_36 : decode cX12_batchContains 36 = .ok (.iconst 1, 1) := by decide +kernel
theorem dX12_batchContains_37 : decode cX12_batchContains 37 = .ok (.iand, 1) := by decide +kernel
theorem dX12_batchContains_38 : decode cX12_batchContains 38 = .ok (.iconst 1, 1) := by decide +kernel
theorem dX12_batchContains_39 : decode cX12_batchContains 39 = .ok (.if_icmp .ne 7, 3) := by decide +kernel
theorem dX12_batchContains_42 : decode cX12_batchContains 42 = .ok (.iconst 1, 1) := by decide +kernel
theorem dX12_batchContains_43 : decode cX12_batchContains 43 = .ok (.goto 4, 3) := by decide +kernel
theorem dX12_batchContains_46 : decode cX12_batchContains 46 = .ok (.iconst 0, 1) := by decide +kernel
theorem dX12_batchContains_47 : decode cX12_batchContains 47 = .ok (.ireturn, 1) := by decide +kernel
theorem dX12_isLabel_0 : decode cX12_isLabel 0 = .ok (.iload_n 1, 1) := by decide +kernel
theorem dX12_isLabel_1 : decode cX12_isLabel 1 = .ok (.iconst 0, 1) := by decide +kernel
theorem dX12_isLabel_2 : decode cX12_isLabel 2 = .ok (.aload_n 0, 1) := by decide +kernel
theorem dX12_isLabel_3 : decode cX12_isLabel 3 = .ok (.getfield 7, 3) := by decide +kernel
theorem dX12_isLabel_6 : decode cX12_isLabel 6 = .ok (.iconst 2, 1) := by decide +kernel
theorem dX12_isLabel_7 : decode cX12_isLabel 7 = .ok (.iaload, 1) := by decide +kernel
theorem dX12_isLabel_8 : decode cX12_isLabel 8 = .ok (.iconst 1, 1) := by decide +kernel
theorem dX12_isLabel_9 : decode cX12_isLabel 9 = .ok (.isub, 1) := by decide +kernel
theorem dX12_isLabel_10 : decode cX12_isLabel 10 = .ok (.invokestatic 59, 3) := by decide +kernel
theorem dX12_isLabel_13 : decode cX12_isLabel 13 = .ok (.ireturn, 1) := by decide +kernel
theorem dX12_sign_0 : decode cX12_sign 0 = .ok (.aload_n 0, 1) := by decide +kernel
theorem dX12_sign_1 : decode cX12_sign 1 = .ok (.getfield 7, 3) := by decide +kernel
theorem dX12_sign_4 : decode cX12_sign 4 = .ok (.bipush 23, 2) := by decide +kernel
theorem dX12_sign_6 : decode cX12_sign 6 = .ok (.bipush 7, 2) := by decide +kernel
theorem dX12_sign_8 : decode cX12_sign 8 = .ok (.iload_n 1, 1) := by decide +kernel
theorem dX12_sign_9 : decode cX12_sign 9 = .ok (.imul, 1) := by decide +kernel
theorem dX12_sign_10 : decode cX12_sign 10 = .ok (.iadd, 1) := by decide +kernel
theorem dX12_sign_11 : decode cX12_sign 11 = .ok (.iload_n 2, 1) := by decide +kernel
theorem dX12_sign_12 : decode cX12_sign 12 = .ok (.iadd, 1) := by decide +kernel
theorem dX12_sign_13 : decode cX12_sign 13 = .ok (.iaload, 1) := by decide +kernel
theorem dX12_sign_14 : decode cX12_sign 14 = .ok (.ireturn, 1) := by decide +kernel
theorem dX12_isWritten_0 : decode cX12_isWritten 0 = .ok (.iconst 0, 1) := by decide +kernel
theorem dX12_isWritten_1 : decode cX12_isWritten 1 = .ok (.istore_n 2, 1) := by decide +kernel
theorem dX12_isWritten_2 : decode cX12_isWritten 2 = .ok (.iload_n 2, 1) := by decide +kernel
theorem dX12_isWritten_3 : decode cX12_isWritten 3 = .ok (.aload_n 0, 1) := by decide +kernel
theorem dX12_isWritten_4 : decode cX12_isWritten 4 = .ok (.getfield 81, 3) := by decide +kernel
theorem dX12_isWritten_7 : decode cX12_isWritten 7 = .ok (.if_icmp .ge 27, 3) := by decide +kernel
theorem dX12_isWritten_10 : decode cX12_isWritten 10 = .ok (.aload_n 0, 1) := by decide +kernel
theorem dX12_isWritten_11 : decode cX12_isWritten 11 = .ok (.getfield 22, 3) := by decide +kernel
theorem dX12_isWritten_14 : decode cX12_isWritten 14 = .ok (.iload_n 2, 1) := by decide +kernel
theorem dX12_isWritten_15 : decode cX12_isWritten 15 = .ok (.iaload, 1) := by decide +kernel
theorem dX12_isWritten_16 : decode cX12_isWritten 16 = .ok (.bipush 97, 2) := by decide +kernel
theorem dX12_isWritten_18 : decode cX12_isWritten 18 = .ok (.bipush 104, 2) := by decide +kernel
theorem dX12_isWritten_20 : decode cX12_isWritten 20 = .ok (.invokestatic 59, 3) := by decide +kernel
theorem dX12_isWritten_23 : decode cX12_isWritten 23 = .ok (.ifCond .ne 5, 3) := by decide +kernel
theorem dX12_isWritten_26 : decode cX12_isWritten 26 = .ok (.iconst 0, 1) := by decide +kernel
theorem dX12_isWritten_27 : decode cX12_isWritten 27 = .ok (.ireturn, 1) := by decide +kernel
theorem dX12_isWritten_28 : decode cX12_isWritten 28 = .ok (.iinc 2 1, 3) := by decide +kernel
theorem dX12_isWritten_31 : decode cX12_isWritten 31 = .ok (.goto (-29), 3) := by decide +kernel
theorem dX12_isWritten_34 : decode cX12_isWritten 34 = .ok (.aload_n 0, 1) := by decide +kernel
theorem dX12_isWritten_35 : decode cX12_isWritten 35 = .ok (.getfield 81, 3) := by decide +kernel
theorem dX12_isWritten_38 : decode cX12_isWritten 38 = .ok (.iconst 1, 1) := by decide +kernel
theorem dX12_isWritten_39 : decode cX12_isWritten 39 = .ok (.iload_n 1, 1) := by decide +kernel
theorem dX12_isWritten_40 : decode cX12_isWritten 40 = .ok (.invokestatic 59, 3) := by decide +kernel
theorem dX12_isWritten_43 : decode cX12_isWritten 43 = .ok (.ireturn, 1) := by decide +kernel
theorem dX12_isThere_0 : decode cX12_isThere 0 = .ok (.iconst 0, 1) := by decide +kernel
theorem dX12_isThere_1 : decode cX12_isThere 1 = .ok (.istore_n 1, 1) := by decide +kernel
theorem dX12_isThere_2 : decode cX12_isThere 2 = .ok (.iload_n 1, 1) := by decide +kernel
theorem dX12_isThere_3 : decode cX12_isThere 3 = .ok (.aload_n 0, 1) := by decide +kernel
theorem dX12_isThere_4 : decode cX12_isThere 4 = .ok (.getfield 7, 3) := by decide +kernel
theorem dX12_isThere_7 : decode cX12_isThere 7 = .ok (.iconst 2, 1) := by decide +kernel
theorem dX12_isThere_8 : decode cX12_isThere 8 = .ok (.iaload, 1) := by decide +kernel
theorem dX12_isThere_9 : decode cX12_isThere 9 = .ok (.if_icmp .ge 77, 3) := by decide +kernel
theorem dX12_isThere_12 : decode cX12_isThere 12 = .ok (.aload_n 0, 1) := by decide +kernel
theorem dX12_isThere_13 : decode cX12_isThere 13 = .ok (.iload_n 1, 1) := by decide +kernel
theorem dX12_isThere_14 : decode cX12_isThere 14 = .ok (.iconst 0, 1) := by decide +kernel
theorem dX12_isThere_15 : decode cX12_isThere 15 = .ok (.invokevirtual 84, 3) := by decide +kernel
theorem dX12_isThere_18 : decode cX12_isThere 18 = .ok (.aload_n 0, 1) := by decide +kernel
theorem dX12_isThere_19 : decode cX12_isThere 19 = .ok (.getfield 81, 3) := by decide +kernel
theorem dX12_isThere_22 : decode cX12_isThere 22 = .ok (.if_icmp .ne 7, 3) := by decide +kernel
theorem dX12_isThere_25 : decode cX12_isThere 25 = .ok (.iconst 1, 1) := by decide +kernel
theorem dX12_isThere_26 : decode cX12_isThere 26 = .ok (.goto 4, 3) := by decide +kernel
theorem dX12_isThere_29 : decode cX12_isThere 29 = .ok (.iconst 0, 1) := by decide +kernel
theorem dX12_isThere_30 : decode cX12_isThere 30 = .ok (.istore_n 2, 1) := by decide +kernel
theorem dX12_isThere_31 : decode cX12_isThere 31 = .ok (.iconst 0, 1) := by decide +kernel
theorem dX12_isThere_32 : decode cX12_isThere 32 = .ok (.istore_n 3, 1) := by decide +kernel
theorem dX12_isThere_33 : decode cX12_isThere 33 = .ok (.iload_n 3, 1) := by decide +kernel
theorem dX12_isThere_34 : decode cX12_isThere 34 = .ok (.aload_n 0, 1) := by decide +kernel
theorem dX12_isThere_35 : decode cX12_isThere 35 = .ok (.getfield 81, 3) := by decide +kernel
theorem dX12_isThere_38 : decode cX12_isThere 38 = .ok (.if_icmp .ge 36, 3) := by decide +kernel
theorem dX12_isThere_41 : decode cX12_isThere 41 = .ok (.iload_n 2, 1) := by decide +kernel
theorem dX12_isThere_42 : decode cX12_isThere 42 = .ok (.ifCond .eq 32, 3) := by decide +kernel
theorem dX12_isThere_45 : decode cX12_isThere 45 = .ok (.aload_n 0, 1) := by decide +kernel
theorem dX12_isThere_46 : decode cX12_isThere 46 = .ok (.iload_n 1, 1) := by decide +kernel
theorem dX12_isThere_47 : decode cX12_isThere 47 = .ok (.iconst 1, 1) := by decide +kernel
theorem dX12_isThere_48 : decode cX12_isThere 48 = .ok (.iload_n 3, 1) := by decide +kernel
theorem dX12_isThere_49 : decode cX12_isThere 49 = .ok (.iadd, 1) := by decide +kernel
theorem dX12_isThere_50 : decode cX12_isThere 50 = .ok (.invokevirtual 84, 3) := by decide +kernel
theorem dX12_isThere_53 : decode cX12_isThere 53 = .ok (.aload_n 0, 1) := by decide +kernel
theorem dX12_isThere_54 : decode cX12_isThere 54 = .ok (.getfield 22, 3) := by decide +kernel
theorem dX12_isThere_57 : decode cX12_isThere 57 = .ok (.iload_n 3, 1) := by decide +kernel
theorem dX12_isThere_58 : decode cX12_isThere 58 = .ok (.iaload, 1) := by decide +kernel
theorem dX12_isThere_59 : decode cX12_isThere 59 = .ok (.if_icmp .ne 7, 3) := by decide +kernel
theorem dX12_isThere_62 : decode cX12_isThere 62 = .ok (.iconst 1, 1) := by decide +kernel
theorem dX12_isThere_63 : decode cX12_isThere 63 = .ok (.goto 4, 3) := by decide +kernel
theorem dX12_isThere_66 : decode cX12_isThere 66 = .ok (.iconst 0, 1) := by decide +kernel
theorem dX12_isThere_67 : decode cX12_isThere 67 = .ok (.istore_n 2, 1) := by decide +kernel
theorem dX12_isThere_68 : decode cX12_isThere 68 = .ok (.iinc 3 1, 3) := by decide +kernel
theorem dX12_isThere_71 : decode cX12_isThere 71 = .ok (.goto (-38), 3) := by decide +kernel
theorem dX12_isThere_74 : decode cX12_isThere 74 = .ok (.iload_n 2, 1) := by decide +kernel
theorem dX12_isThere_75 : decode cX12_isThere 75 = .ok (.ifCond .eq 5, 3) := by decide +kernel
theorem dX12_isThere_78 : decode cX12_isThere 78 = .ok (.iconst 1, 1) := by decide +kernel
theorem dX12_isThere_79 : decode cX12_isThere 79 = .ok (.ireturn, 1) := by decide +kernel
theorem dX12_isThere_80 : decode cX12_isThere 80 = .ok (.iinc 1 1, 3) := by decide +kernel
theorem dX12_isThere_83 : decode cX12_isThere 83 = .ok (.goto (-81), 3) := by decide +kernel
theorem dX12_isThere_86 : decode cX12_isThere 86 = .ok (.iconst 0, 1) := by decide +kernel
theorem dX12_isThere_87 : decode cX12_isThere 87 = .ok (.ireturn, 1) := by decide +kernel
theorem dX12_addLabel_0 : decode cX12_addLabel 0 = .ok (.aload_n 0, 1) := by decide +kernel
theorem dX12_addLabel_1 : decode cX12_addLabel 1 = .ok (.aload_n 0, 1) := by decide +kernel
theorem dX12_addLabel_2 : decode cX12_addLabel 2 = .ok (.bipush 6, 2) := by decide +kernel
theorem dX12_addLabel_4 : decode cX12_addLabel 4 = .ok (.invokevirtual 87, 3) := by decide +kernel
theorem dX12_addLabel_7 : decode cX12_addLabel 7 = .ok (.ifCond .ne 7, 3) := by decide +kernel
theorem dX12_addLabel_10 : decode cX12_addLabel 10 = .ok (.iconst 1, 1) := by decide +kernel
theorem dX12_addLabel_11 : decode cX12_addLabel 11 = .ok (.goto 26, 3) := by decide +kernel
theorem dX12_addLabel_14 : decode cX12_addLabel 14 = .ok (.aload_n 0, 1) := by decide +kernel
theorem dX12_addLabel_15 : decode cX12_addLabel 15 = .ok (.getfield 7, 3) := by decide +kernel
theorem dX12_addLabel_18 : decode cX12_addLabel 18 = .ok (.iconst 2, 1) := by decide +kernel
theorem dX12_addLabel_19 : decode cX12_addLabel 19 = .ok (.iaload, 1) := by decide +kernel
theorem dX12_addLabel_20 : decode cX12_addLabel 20 = .ok (.bipush 8, 2) := by decide +kernel
theorem dX12_addLabel_22 : decode cX12_addLabel 22 = .ok (.if_icmp .eq 10, 3) := by decide +kernel
theorem dX12_addLabel_25 : decode cX12_addLabel 25 = .ok (.aload_n 0, 1) := by decide +kernel
theorem dX12_addLabel_26 : decode cX12_addLabel 26 = .ok (.invokevirtual 90, 3) := by decide +kernel
theorem dX12_addLabel_29 : decode cX12_addLabel 29 = .ok (.ifCond .eq 7, 3) := by decide +kernel
theorem dX12_addLabel_32 : decode cX12_addLabel 32 = .ok (.iconst 2, 1) := by decide +kernel
theorem dX12_addLabel_33 : decode cX12_addLabel 33 = .ok (.goto 4, 3) := by decide +kernel
theorem dX12_addLabel_36 : decode cX12_addLabel 36 = .ok (.iconst 0, 1) := by decide +kernel
theorem dX12_addLabel_37 : decode cX12_addLabel 37 = .ok (.invokevirtual 63, 3) := by decide +kernel
theorem dX12_addLabel_40 : decode cX12_addLabel 40 = .ok (.ifCond .ne 7, 3) := by decide +kernel
theorem dX12_addLabel_43 : decode cX12_addLabel 43 = .ok (.iconst 1, 1) := by decide +kernel
theorem dX12_addLabel_44 : decode cX12_addLabel 44 = .ok (.goto 4, 3) := by decide +kernel
theorem dX12_addLabel_47 : decode cX12_addLabel 47 = .ok (.iconst 0, 1) := by decide +kernel
theorem dX12_addLabel_48 : decode cX12_addLabel 48 = .ok (.istore_n 1, 1) := by decide +kernel
theorem dX12_addLabel_49 : decode cX12_addLabel 49 = .ok (.aload_n 0, 1) := by decide +kernel
theorem dX12_addLabel_50 : decode cX12_addLabel 50 = .ok (.getfield 81, 3) := by decide +kernel
theorem dX12_addLabel_53 : decode cX12_addLabel 53 = .ok (.istore_n 2, 1) := by decide +kernel
theorem dX12_addLabel_54 : decode cX12_addLabel 54 = .ok (.aload_n 0, 1) := by decide +kernel
theorem dX12_addLabel_55 : decode cX12_addLabel 55 = .ok (.iconst 0, 1) := by decide +kernel
theorem dX12_addLabel_56 : decode cX12_addLabel 56 = .ok (.putfield 81, 3) := by decide +kernel
theorem dX12_addLabel_59 : decode cX12_addLabel 59 = .ok (.iload_n 1, 1) := by decide +kernel
theorem dX12_addLabel_60 : decode cX12_addLabel 60 = .ok (.ifCond .ne 5, 3) := by decide +kernel
theorem dX12_addLabel_63 : decode cX12_addLabel 63 = .ok (.iconst 0, 1) := by decide +kernel
theorem dX12_addLabel_64 : decode cX12_addLabel 64 = .ok (.ireturn, 1) := by decide +kernel
theorem dX12_addLabel_65 : decode cX12_addLabel 65 = .ok (.aload_n 0, 1) := by decide +kernel
theorem dX12_addLabel_66 : decode cX12_addLabel 66 = .ok (.aload_n 0, 1) := by decide +kernel
theorem dX12_addLabel_67 : decode cX12_addLabel 67 = .ok (.getfield 7, 3) := by decide +kernel
theorem dX12_addLabel_70 : decode cX12_addLabel 70 = .ok (.invokevirtual 67, 3) := by decide +kernel
theorem dX12_addLabel_73 : decode cX12_addLabel 73 = .ok (.bipush 23, 2) := by decide +kernel
theorem dX12_addLabel_75 : decode cX12_addLabel 75 = .ok (.bipush 7, 2) := by decide +kernel
theorem dX12_addLabel_77 : decode cX12_addLabel 77 = .ok (.aload_n 0, 1) := by decide +kernel
theorem dX12_addLabel_78 : decode cX12_addLabel 78 = .ok (.getfield 7, 3) := by decide +kernel
theorem dX12_addLabel_81 : decode cX12_addLabel 81 = .ok (.iconst 2, 1) := by decide +kernel
theorem dX12_addLabel_82 : decode cX12_addLabel 82 = .ok (.iaload, 1) := by decide +kernel
theorem dX12_addLabel_83 : decode cX12_addLabel 83 = .ok (.imul, 1) := by decide +kernel
theorem dX12_addLabel_84 : decode cX12_addLabel 84 = .ok (.iadd, 1) := by decide +kernel
theorem dX12_addLabel_85 : decode cX12_addLabel 85 = .ok (.istore_n 3, 1) := by decide +kernel
theorem dX12_addLabel_86 : decode cX12_addLabel 86 = .ok (.iconst 0, 1) := by decide +kernel
theorem dX12_addLabel_87 : decode cX12_addLabel 87 = .ok (.istore 4, 2) := by decide +kernel
theorem dX12_addLabel_89 : decode cX12_addLabel 89 = .ok (.iload 4, 2) := by decide +kernel
theorem dX12_addLabel_91 : decode cX12_addLabel 91 = .ok (.bipush 7, 2) := by decide +kernel
theorem dX12_addLabel_93 : decode cX12_addLabel 93 = .ok (.if_icmp .ge 19, 3) := by decide +kernel
theorem dX12_addLabel_96 : decode cX12_addLabel 96 = .ok (.aload_n 0, 1) := by decide +kernel
theorem dX12_addLabel_97 : decode cX12_addLabel 97 = .ok (.getfield 7, 3) := by decide +kernel
theorem dX12_addLabel_100 : decode cX12_addLabel 100 = .ok (.iload_n 3, 1) := by decide +kernel
theorem dX12_addLabel_101 : decode cX12_addLabel 101 = .ok (.iload 4, 2) := by decide +kernel
theorem dX12_addLabel_103 : decode cX12_addLabel 103 = .ok (.iadd, 1) := by decide +kernel
theorem dX12_addLabel_104 : decode cX12_addLabel 104 = .ok (.iconst 0, 1) := by decide +kernel
theorem dX12_addLabel_105 : decode cX12_addLabel 105 = .ok (.iastore, 1) := by decide +kernel
theorem dX12_addLabel_106 : decode cX12_addLabel 106 = .ok (.iinc 4 1, 3) := by decide +kernel
theorem dX12_addLabel_109 : decode cX12_addLabel 109 = .ok (.goto (-20), 3) := by decide +kernel
theorem dX12_addLabel_112 : decode cX12_addLabel 112 = .ok (.aload_n 0, 1) := by decide +kernel
theorem dX12_addLabel_113 : decode cX12_addLabel 113 = .ok (.getfield 7, 3) := by decide +kernel
theorem dX12_addLabel_116 : decode cX12_addLabel 116 = .ok (.iload_n 3, 1) := by decide +kernel
theorem dX12_addLabel_117 : decode cX12_addLabel 117 = .ok (.iconst 0, 1) := by decide +kernel
theorem dX12_addLabel_118 : decode cX12_addLabel 118 = .ok (.iadd, 1) := by decide +kernel
theorem dX12_addLabel_119 : decode cX12_addLabel 119 = .ok (.iload_n 2, 1) := by decide +kernel
theorem dX12_addLabel_120 : decode cX12_addLabel 120 = .ok (.iastore, 1) := by decide +kernel
theorem dX12_addLabel_121 : decode cX12_addLabel 121 = .ok (.iconst 0, 1) := by decide +kernel
theorem dX12_addLabel_122 : decode cX12_addLabel 122 = .ok (.istore 4, 2) := by decide +kernel
theorem dX12_addLabel_124 : decode cX12_addLabel 124 = .ok (.iload 4, 2) := by decide +kernel
theorem dX12_addLabel_126 : decode cX12_addLabel 126 = .ok (.iload_n 2, 1) := by decide +kernel
theorem dX12_addLabel_127 : decode cX12_addLabel 127 = .ok (.if_icmp .ge 27, 3) := by decide +kernel
theorem dX12_addLabel_130 : decode cX12_addLabel 130 = .ok (.aload_n 0, 1) := by decide +kernel
theorem dX12_addLabel_131 : decode cX12_addLabel 131 = .ok (.getfield 7, 3) := by decide +kernel
theorem dX12_addLabel_134 : decode cX12_addLabel 134 = .ok (.iload_n 3, 1) := by decide +kernel
theorem dX12_addLabel_135 : decode cX12_addLabel 135 = .ok (.iconst 1, 1) := by decide +kernel
theorem dX12_addLabel_136 : decode cX12_addLabel 136 = .ok (.iadd, 1) := by decide +kernel
theorem dX12_addLabel_137 : decode cX12_addLabel 137 = .ok (.iload 4, 2) := by decide +kernel
theorem dX12_addLabel_139 : decode cX12_addLabel 139 = .ok (.iadd, 1) := by decide +kernel
theorem dX12_addLabel_140 : decode cX12_addLabel 140 = .ok (.aload_n 0, 1) := by decide +kernel
theorem dX12_addLabel_141 : decode cX12_addLabel 141 = .ok (.getfield 22, 3) := by decide +kernel
theorem dX12_addLabel_144 : decode cX12_addLabel 144 = .ok (.iload 4, 2) := by decide +kernel
theorem dX12_addLabel_146 : decode cX12_addLabel 146 = .ok (.iaload, 1) := by decide +kernel
theorem dX12_addLabel_147 : decode cX12_addLabel 147 = .ok (.iastore, 1) := by decide +kernel
theorem dX12_addLabel_148 : decode cX12_addLabel 148 = .ok (.iinc 4 1, 3) := by decide +kernel
theorem dX12_addLabel_151 : decode cX12_addLabel 151 = .ok (.goto (-27), 3) := by decide +kernel
theorem dX12_addLabel_154 : decode cX12_addLabel 154 = .ok (.aload_n 0, 1) := by decide +kernel
theorem dX12_addLabel_155 : decode cX12_addLabel 155 = .ok (.getfield 7, 3) := by decide +kernel
theorem dX12_addLabel_158 : decode cX12_addLabel 158 = .ok (.iconst 2, 1) := by decide +kernel
theorem dX12_addLabel_159 : decode cX12_addLabel 159 = .ok (.dup2, 1) := by decide +kernel
theorem dX12_addLabel_160 : decode cX12_addLabel 160 = .ok (.iaload, 1) := by decide +kernel
theorem dX12_addLabel_161 : decode cX12_addLabel 161 = .ok (.iconst 1, 1) := by decide +kernel
theorem dX12_addLabel_162 : decode cX12_addLabel 162 = .ok (.iadd, 1) := by decide +kernel
theorem dX12_addLabel_163 : decode cX12_addLabel 163 = .ok (.iastore, 1) := by decide +kernel
theorem dX12_addLabel_164 : decode cX12_addLabel 164 = .ok (.aload_n 0, 1) := by decide +kernel
theorem dX12_addLabel_165 : decode cX12_addLabel 165 = .ok (.getfield 7, 3) := by decide +kernel
theorem dX12_addLabel_168 : decode cX12_addLabel 168 = .ok (.iconst 2, 1) := by decide +kernel
theorem dX12_addLabel_169 : decode cX12_addLabel 169 = .ok (.iaload, 1) := by decide +kernel
theorem dX12_addLabel_170 : decode cX12_addLabel 170 = .ok (.iconst 1, 1) := by decide +kernel
theorem dX12_addLabel_171 : decode cX12_addLabel 171 = .ok (.isub, 1) := by decide +kernel
theorem dX12_addLabel_172 : decode cX12_addLabel 172 = .ok (.ireturn, 1) := by decide +kernel
theorem dX12_labelCount_0 : decode cX12_labelCount 0 = .ok (.aload_n 0, 1) := by decide +kernel
theorem dX12_labelCount_1 : decode cX12_labelCount 1 = .ok (.iconst 0, 1) := by decide +kernel
theorem dX12_labelCount_2 : decode cX12_labelCount 2 = .ok (.putfield 45, 3) := by decide +kernel
theorem dX12_labelCount_5 : decode cX12_labelCount 5 = .ok (.aload_n 0, 1) := by decide +kernel
theorem dX12_labelCount_6 : decode cX12_labelCount 6 = .ok (.getfield 7, 3) := by decide +kernel
theorem dX12_labelCount_9 : decode cX12_labelCount 9 = .ok (.iconst 2, 1) := by decide +kernel
theorem dX12_labelCount_10 : decode cX12_labelCount 10 = .ok (.iaload, 1) := by decide +kernel
theorem dX12_labelCount_11 : decode cX12_labelCount 11 = .ok (.ireturn, 1) := by decide +kernel
theorem dX12_labelLength_0 : decode cX12_labelLength 0 = .ok (.aload_n 0, 1) := by decide +kernel
theorem dX12_labelLength_1 : decode cX12_labelLength 1 = .ok (.aload_n 0, 1) := by decide +kernel
theorem dX12_labelLength_2 : decode cX12_labelLength 2 = .ok (.iload_n 1, 1) := by decide +kernel
theorem dX12_labelLength_3 : decode cX12_labelLength 3 = .ok (.invokevirtual 94, 3) := by decide +kernel
theorem dX12_labelLength_6 : decode cX12_labelLength 6 = .ok (.ifCond .eq 7, 3) := by decide +kernel
theorem dX12_labelLength_9 : decode cX12_labelLength 9 = .ok (.iconst 0, 1) := by decide +kernel
theorem dX12_labelLength_10 : decode cX12_labelLength 10 = .ok (.goto 4, 3) := by decide +kernel
theorem dX12_labelLength_13 : decode cX12_labelLength 13 = .ok (.iconst 1, 1) := by decide +kernel
theorem dX12_labelLength_14 : decode cX12_labelLength 14 = .ok (.invokevirtual 63, 3) := by decide +kernel
theorem dX12_labelLength_17 : decode cX12_labelLength 17 = .ok (.ifCond .eq 7, 3) := by decide +kernel
theorem dX12_labelLength_20 : decode cX12_labelLength 20 = .ok (.iconst 0, 1) := by decide +kernel
theorem dX12_labelLength_21 : decode cX12_labelLength 21 = .ok (.goto 9, 3) := by decide +kernel
theorem dX12_labelLength_24 : decode cX12_labelLength 24 = .ok (.aload_n 0, 1) := by decide +kernel
theorem dX12_labelLength_25 : decode cX12_labelLength 25 = .ok (.iload_n 1, 1) := by decide +kernel
theorem dX12_labelLength_26 : decode cX12_labelLength 26 = .ok (.iconst 0, 1) := by decide +kernel
theorem dX12_labelLength_27 : decode cX12_labelLength 27 = .ok (.invokevirtual 84, 3) := by decide +kernel
theorem dX12_labelLength_30 : decode cX12_labelLength 30 = .ok (.ireturn, 1) := by decide +kernel
theorem dX12_labelLetter_0 : decode cX12_labelLetter 0 = .ok (.aload_n 0, 1) := by decide +kernel
theorem dX12_labelLetter_1 : decode cX12_labelLetter 1 = .ok (.aload_n 0, 1) := by decide +kernel
theorem dX12_labelLetter_2 : decode cX12_labelLetter 2 = .ok (.iload_n 1, 1) := by decide +kernel
theorem dX12_labelLetter_3 : decode cX12_labelLetter 3 = .ok (.invokevirtual 94, 3) := by decide +kernel
theorem dX12_labelLetter_6 : decode cX12_labelLetter 6 = .ok (.ifCond .eq 23, 3) := by decide +kernel
theorem dX12_labelLetter_9 : decode cX12_labelLetter 9 = .ok (.iload_n 2, 1) := by decide +kernel
theorem dX12_labelLetter_10 : decode cX12_labelLetter 10 = .ok (.iconst 0, 1) := by decide +kernel
theorem dX12_labelLetter_11 : decode cX12_labelLetter 11 = .ok (.aload_n 0, 1) := by decide +kernel
theorem dX12_labelLetter_12 : decode cX12_labelLetter 12 = .ok (.iload_n 1, 1) := by decide +kernel
theorem dX12_labelLetter_13 : decode cX12_labelLetter 13 = .ok (.iconst 0, 1) := by decide +kernel
theorem dX12_labelLetter_14 : decode cX12_labelLetter 14 = .ok (.invokevirtual 84, 3) := by decide +kernel
theorem dX12_labelLetter_17 : decode cX12_labelLetter 17 = .ok (.iconst 1, 1) := by decide +kernel
theorem dX12_labelLetter_18 : decode cX12_labelLetter 18 = .ok (.isub, 1) := by decide +kernel
theorem dX12_labelLetter_19 : decode cX12_labelLetter 19 = .ok (.invokestatic 59, 3) := by decide +kernel
theorem dX12_labelLetter_22 : decode cX12_labelLetter 22 = .ok (.ifCond .eq 7, 3) := by decide +kernel
theorem dX12_labelLetter_25 : decode cX12_labelLetter 25 = .ok (.iconst 0, 1) := by decide +kernel
theorem dX12_labelLetter_26 : decode cX12_labelLetter 26 = .ok (.goto 4, 3) := by decide +kernel
theorem dX12_labelLetter_29 : decode cX12_labelLetter 29 = .ok (.iconst 1, 1) := by decide +kernel
theorem dX12_labelLetter_30 : decode cX12_labelLetter 30 = .ok (.invokevirtual 63, 3) := by decide +kernel
theorem dX12_labelLetter_33 : decode cX12_labelLetter 33 = .ok (.ifCond .eq 8, 3) := by decide +kernel
theorem dX12_labelLetter_36 : decode cX12_labelLetter 36 = .ok (.bipush 32, 2) := by decide +kernel
theorem dX12_labelLetter_38 : decode cX12_labelLetter 38 = .ok (.goto 12, 3) := by decide +kernel
theorem dX12_labelLetter_41 : decode cX12_labelLetter 41 = .ok (.aload_n 0, 1) := by decide +kernel
theorem dX12_labelLetter_42 : decode cX12_labelLetter 42 = .ok (.iload_n 1, 1) := by decide +kernel
theorem dX12_labelLetter_43 : decode cX12_labelLetter 43 = .ok (.iconst 1, 1) := by decide +kernel
theorem dX12_labelLetter_44 : decode cX12_labelLetter 44 = .ok (.iload_n 2, 1) := by decide +kernel
theorem dX12_labelLetter_45 : decode cX12_labelLetter 45 = .ok (.iadd, 1) := by decide +kernel
theorem dX12_labelLetter_46 : decode cX12_labelLetter 46 = .ok (.invokevirtual 84, 3) := by decide +kernel
theorem dX12_labelLetter_49 : decode cX12_labelLetter 49 = .ok (.i2c, 1) := by decide +kernel
theorem dX12_labelLetter_50 : decode cX12_labelLetter 50 = .ok (.ireturn, 1) := by decide +kernel
theorem dX12_apart_0 : decode cX12_apart 0 = .ok (.iconst 0, 1) := by decide +kernel
theorem dX12_apart_1 : decode cX12_apart 1 = .ok (.istore_n 2, 1) := by decide +kernel
theorem dX12_apart_2 : decode cX12_apart 2 = .ok (.iload_n 2, 1) := by decide +kernel
theorem dX12_apart_3 : decode cX12_apart 3 = .ok (.aload_n 0, 1) := by decide +kernel
theorem dX12_apart_4 : decode cX12_apart 4 = .ok (.getfield 81, 3) := by decide +kernel
theorem dX12_apart_7 : decode cX12_apart 7 = .ok (.if_icmp .gt 16, 3) := by decide +kernel
theorem dX12_apart_10 : decode cX12_apart 10 = .ok (.aload_n 0, 1) := by decide +kernel
theorem dX12_apart_11 : decode cX12_apart 11 = .ok (.getfield 36, 3) := by decide +kernel
theorem dX12_apart_14 : decode cX12_apart 14 = .ok (.iload_n 2, 1) := by decide +kernel
theorem dX12_apart_15 : decode cX12_apart 15 = .ok (.iload_n 2, 1) := by decide +kernel
theorem dX12_apart_16 : decode cX12_apart 16 = .ok (.iastore, 1) := by decide +kernel
theorem dX12_apart_17 : decode cX12_apart 17 = .ok (.iinc 2 1, 3) := by decide +kernel
theorem dX12_apart_20 : decode cX12_apart 20 = .ok (.goto (-18), 3) := by decide +kernel
theorem dX12_apart_23 : decode cX12_apart 23 = .ok (.iconst 1, 1) := by decide +kernel
theorem dX12_apart_24 : decode cX12_apart 24 = .ok (.istore_n 2, 1) := by decide +kernel
theorem dX12_apart_25 : decode cX12_apart 25 = .ok (.iload_n 2, 1) := by decide +kernel
theorem dX12_apart_26 : decode cX12_apart 26 = .ok (.aload_n 0, 1) := by decide +kernel
theorem dX12_apart_27 : decode cX12_apart 27 = .ok (.iload_n 1, 1) := by decide +kernel
theorem dX12_apart_28 : decode cX12_apart 28 = .ok (.iconst 0, 1) := by decide +kernel
theorem dX12_apart_29 : decode cX12_apart 29 = .ok (.invokevirtual 84, 3) := by decide +kernel
theorem dX12_apart_32 : decode cX12_apart 32 = .ok (.if_icmp .gt 108, 3) := by decide +kernel
theorem dX12_apart_35 : decode cX12_apart 35 = .ok (.aload_n 0, 1) := by decide +kernel
theorem dX12_apart_36 : decode cX12_apart 36 = .ok (.getfield 36, 3) := by decide +kernel
theorem dX12_apart_39 : decode cX12_apart 39 = .ok (.iconst 0, 1) := by decide +kernel
theorem dX12_apart_40 : decode cX12_apart 40 = .ok (.iaload, 1) := by decide +kernel
theorem dX12_apart_41 : decode cX12_apart 41 = .ok (.istore_n 3, 1) := by decide +kernel
theorem dX12_apart_42 : decode cX12_apart 42 = .ok (.aload_n 0, 1) := by decide +kernel
theorem dX12_apart_43 : decode cX12_apart 43 = .ok (.getfield 36, 3) := by decide +kernel
theorem dX12_apart_46 : decode cX12_apart 46 = .ok (.iconst 0, 1) := by decide +kernel
theorem dX12_apart_47 : decode cX12_apart 47 = .ok (.iload_n 2, 1) := by decide +kernel
theorem dX12_apart_48 : decode cX12_apart 48 = .ok (.iastore, 1) := by decide +kernel
theorem dX12_apart_49 : decode cX12_apart 49 = .ok (.iconst 1, 1) := by decide +kernel
theorem dX12_apart_50 : decode cX12_apart 50 = .ok (.istore 4, 2) := by decide +kernel
theorem dX12_apart_52 : decode cX12_apart 52 = .ok (.iload 4, 2) := by decide +kernel
theorem dX12_apart_54 : decode cX12_apart 54 = .ok (.aload_n 0, 1) := by decide +kernel
theorem dX12_apart_55 : decode cX12_apart 55 = .ok (.getfield 81, 3) := by decide +kernel
theorem dX12_apart_58 : decode cX12_apart 58 = .ok (.if_icmp .gt 76, 3) := by decide +kernel
theorem dX12_apart_61 : decode cX12_apart 61 = .ok (.aload_n 0, 1) := by decide +kernel
theorem dX12_apart_62 : decode cX12_apart 62 = .ok (.getfield 36, 3) := by decide +kernel
theorem dX12_apart_65 : decode cX12_apart 65 = .ok (.iload 4, 2) := by decide +kernel
theorem dX12_apart_67 : decode cX12_apart 67 = .ok (.iaload, 1) := by decide +kernel
theorem dX12_apart_68 : decode cX12_apart 68 = .ok (.istore 5, 2) := by decide +kernel
theorem dX12_apart_70 : decode cX12_apart 70 = .ok (.aload_n 0, 1) := by decide +kernel
theorem dX12_apart_71 : decode cX12_apart 71 = .ok (.iload_n 1, 1) := by decide +kernel
theorem dX12_apart_72 : decode cX12_apart 72 = .ok (.iload_n 2, 1) := by decide +kernel
theorem dX12_apart_73 : decode cX12_apart 73 = .ok (.invokevirtual 84, 3) := by decide +kernel
theorem dX12_apart_76 : decode cX12_apart 76 = .ok (.aload_n 0, 1) := by decide +kernel
theorem dX12_apart_77 : decode cX12_apart 77 = .ok (.getfield 22, 3) := by decide +kernel
theorem dX12_apart_80 : decode cX12_apart 80 = .ok (.iload 4, 2) := by decide +kernel
theorem dX12_apart_82 : decode cX12_apart 82 = .ok (.iconst 1, 1) := by decide +kernel
theorem dX12_apart_83 : decode cX12_apart 83 = .ok (.isub, 1) := by decide +kernel
theorem dX12_apart_84 : decode cX12_apart 84 = .ok (.iaload, 1) := by decide +kernel
theorem dX12_apart_85 : decode cX12_apart 85 = .ok (.if_icmp .ne 7, 3) := by decide +kernel
theorem dX12_apart_88 : decode cX12_apart 88 = .ok (.iconst 0, 1) := by decide +kernel
theorem dX12_apart_89 : decode cX12_apart 89 = .ok (.goto 4, 3) := by decide +kernel
theorem dX12_apart_92 : decode cX12_apart 92 = .ok (.iconst 1, 1) := by decide +kernel
theorem dX12_apart_93 : decode cX12_apart 93 = .ok (.istore 6, 2) := by decide +kernel
theorem dX12_apart_95 : decode cX12_apart 95 = .ok (.aload_n 0, 1) := by decide +kernel
theorem dX12_apart_96 : decode cX12_apart 96 = .ok (.getfield 36, 3) := by decide +kernel
theorem dX12_apart_99 : decode cX12_apart 99 = .ok (.iload 4, 2) := by decide +kernel
theorem dX12_apart_101 : decode cX12_apart 101 = .ok (.iload_n 3, 1) := by decide +kernel
theorem dX12_apart_102 : decode cX12_apart 102 = .ok (.iload 6, 2) := by decide +kernel
theorem dX12_apart_104 : decode cX12_apart 104 = .ok (.iadd, 1) := by decide +kernel
theorem dX12_apart_105 : decode cX12_apart 105 = .ok (.iload 5, 2) := by decide +kernel
theorem dX12_apart_107 : decode cX12_apart 107 = .ok (.aload_n 0, 1) := by decide +kernel
theorem dX12_apart_108 : decode cX12_apart 108 = .ok (.getfield 36, 3) := by decide +kernel
theorem dX12_apart_111 : decode cX12_apart 111 = .ok (.iload 4, 2) := by decide +kernel
theorem dX12_apart_113 : decode cX12_apart 113 = .ok (.iconst 1, 1) := by decide +kernel
theorem dX12_apart_114 : decode cX12_apart 114 = .ok (.isub, 1) := by decide +kernel
theorem dX12_apart_115 : decode cX12_apart 115 = .ok (.iaload, 1) := by decide +kernel
theorem dX12_apart_116 : decode cX12_apart 116 = .ok (.invokestatic 97, 3) := by decide +kernel
theorem dX12_apart_119 : decode cX12_apart 119 = .ok (.iconst 1, 1) := by decide +kernel
theorem dX12_apart_120 : decode cX12_apart 120 = .ok (.iadd, 1) := by decide +kernel
theorem dX12_apart_121 : decode cX12_apart 121 = .ok (.invokestatic 97, 3) := by decide +kernel
theorem dX12_apart_124 : decode cX12_apart 124 = .ok (.iastore, 1) := by decide +kernel
theorem dX12_apart_125 : decode cX12_apart 125 = .ok (.iload 5, 2) := by decide +kernel
theorem dX12_apart_127 : decode cX12_apart 127 = .ok (.istore_n 3, 1) := by decide +kernel
theorem dX12_apart_128 : decode cX12_apart 128 = .ok (.iinc 4 1, 3) := by decide +kernel
theorem dX12_apart_131 : decode cX12_apart 131 = .ok (.goto (-79), 3) := by decide +kernel
theorem dX12_apart_134 : decode cX12_apart 134 = .ok (.iinc 2 1, 3) := by decide +kernel
theorem dX12_apart_137 : decode cX12_apart 137 = .ok (.goto (-112), 3) := by decide +kernel
theorem dX12_apart_140 : decode cX12_apart 140 = .ok (.aload_n 0, 1) := by decide +kernel
theorem dX12_apart_141 : decode cX12_apart 141 = .ok (.getfield 36, 3) := by decide +kernel
theorem dX12_apart_144 : decode cX12_apart 144 = .ok (.aload_n 0, 1) := by decide +kernel
theorem dX12_apart_145 : decode cX12_apart 145 = .ok (.getfield 81, 3) := by decide +kernel
theorem dX12_apart_148 : decode cX12_apart 148 = .ok (.iaload, 1) := by decide +kernel
theorem dX12_apart_149 : decode cX12_apart 149 = .ok (.ireturn, 1) := by decide +kernel
theorem dX12_scan_0 : decode cX12_scan 0 = .ok (.aload_n 0, 1) := by decide +kernel
theorem dX12_scan_1 : decode cX12_scan 1 = .ok (.aload_n 0, 1) := by decide +kernel
theorem dX12_scan_2 : decode cX12_scan 2 = .ok (.bipush 12, 2) := by decide +kernel
theorem dX12_scan_4 : decode cX12_scan 4 = .ok (.invokevirtual 87, 3) := by decide +kernel
theorem dX12_scan_7 : decode cX12_scan 7 = .ok (.ifCond .ne 7, 3) := by decide +kernel
theorem dX12_scan_10 : decode cX12_scan 10 = .ok (.iconst 1, 1) := by decide +kernel
theorem dX12_scan_11 : decode cX12_scan 11 = .ok (.goto 17, 3) := by decide +kernel
theorem dX12_scan_14 : decode cX12_scan 14 = .ok (.aload_n 0, 1) := by decide +kernel
theorem dX12_scan_15 : decode cX12_scan 15 = .ok (.getfield 7, 3) := by decide +kernel
theorem dX12_scan_18 : decode cX12_scan 18 = .ok (.iconst 2, 1) := by decide +kernel
theorem dX12_scan_19 : decode cX12_scan 19 = .ok (.iaload, 1) := by decide +kernel
theorem dX12_scan_20 : decode cX12_scan 20 = .ok (.ifCond .ne 7, 3) := by decide +kernel
theorem dX12_scan_23 : decode cX12_scan 23 = .ok (.iconst 2, 1) := by decide +kernel
theorem dX12_scan_24 : decode cX12_scan 24 = .ok (.goto 4, 3) := by decide +kernel
theorem dX12_scan_27 : decode cX12_scan 27 = .ok (.iconst 0, 1) := by decide +kernel
theorem dX12_scan_28 : decode cX12_scan 28 = .ok (.invokevirtual 63, 3) := by decide +kernel
theorem dX12_scan_31 : decode cX12_scan 31 = .ok (.ifCond .eq 5, 3) := by decide +kernel
theorem dX12_scan_34 : decode cX12_scan 34 = .ok (.iconst 0, 1) := by decide +kernel
theorem dX12_scan_35 : decode cX12_scan 35 = .ok (.ireturn, 1) := by decide +kernel
theorem dX12_scan_36 : decode cX12_scan 36 = .ok (.iconst 0, 1) := by decide +kernel
theorem dX12_scan_37 : decode cX12_scan 37 = .ok (.istore_n 1, 1) := by decide +kernel
theorem dX12_scan_38 : decode cX12_scan 38 = .ok (.iconst 1, 1) := by decide +kernel
theorem dX12_scan_39 : decode cX12_scan 39 = .ok (.istore_n 2, 1) := by decide +kernel
theorem dX12_scan_40 : decode cX12_scan 40 = .ok (.iload_n 2, 1) := by decide +kernel
theorem dX12_scan_41 : decode cX12_scan 41 = .ok (.aload_n 0, 1) := by decide +kernel
theorem dX12_scan_42 : decode cX12_scan 42 = .ok (.getfield 7, 3) := by decide +kernel
theorem dX12_scan_45 : decode cX12_scan 45 = .ok (.iconst 2, 1) := by decide +kernel
theorem dX12_scan_46 : decode cX12_scan 46 = .ok (.iaload, 1) := by decide +kernel
theorem dX12_scan_47 : decode cX12_scan 47 = .ok (.if_icmp .ge 24, 3) := by decide +kernel
theorem dX12_scan_50 : decode cX12_scan 50 = .ok (.aload_n 0, 1) := by decide +kernel
theorem dX12_scan_51 : decode cX12_scan 51 = .ok (.iload_n 2, 1) := by decide +kernel
theorem dX12_scan_52 : decode cX12_scan 52 = .ok (.invokevirtual 100, 3) := by decide +kernel
theorem dX12_scan_55 : decode cX12_scan 55 = .ok (.aload_n 0, 1) := by decide +kernel
theorem dX12_scan_56 : decode cX12_scan 56 = .ok (.iload_n 1, 1) := by decide +kernel
theorem dX12_scan_57 : decode cX12_scan 57 = .ok (.invokevirtual 100, 3) := by decide +kernel
theorem dX12_scan_60 : decode cX12_scan 60 = .ok (.if_icmp .ge 5, 3) := by decide +kernel
theorem dX12_scan_63 : decode cX12_scan 63 = .ok (.iload_n 2, 1) := by decide +kernel
theorem dX12_scan_64 : decode cX12_scan 64 = .ok (.istore_n 1, 1) := by decide +kernel
theorem dX12_scan_65 : decode cX12_scan 65 = .ok (.iinc 2 1, 3) := by decide +kernel
theorem dX12_scan_68 : decode cX12_scan 68 = .ok (.goto (-28), 3) := by decide +kernel
theorem dX12_scan_71 : decode cX12_scan 71 = .ok (.iload_n 1, 1) := by decide +kernel
theorem dX12_scan_72 : decode cX12_scan 72 = .ok (.ireturn, 1) := by decide +kernel
theorem dX12_distance_0 : decode cX12_distance 0 = .ok (.aload_n 0, 1) := by decide +kernel
theorem dX12_distance_1 : decode cX12_distance 1 = .ok (.aload_n 0, 1) := by decide +kernel
theorem dX12_distance_2 : decode cX12_distance 2 = .ok (.iload_n 1, 1) := by decide +kernel
theorem dX12_distance_3 : decode cX12_distance 3 = .ok (.invokevirtual 94, 3) := by decide +kernel
theorem dX12_distance_6 : decode cX12_distance 6 = .ok (.ifCond .ne 7, 3) := by decide +kernel
theorem dX12_distance_9 : decode cX12_distance 9 = .ok (.iconst 1, 1) := by decide +kernel
theorem dX12_distance_10 : decode cX12_distance 10 = .ok (.goto 17, 3) := by decide +kernel
theorem dX12_distance_13 : decode cX12_distance 13 = .ok (.aload_n 0, 1) := by decide +kernel
theorem dX12_distance_14 : decode cX12_distance 14 = .ok (.bipush 12, 2) := by decide +kernel
theorem dX12_distance_16 : decode cX12_distance 16 = .ok (.invokevirtual 87, 3) := by decide +kernel
theorem dX12_distance_19 : decode cX12_distance 19 = .ok (.ifCond .eq 7, 3) := by decide +kernel
theorem dX12_distance_22 : decode cX12_distance 22 = .ok (.iconst 0, 1) := by decide +kernel
theorem dX12_distance_23 : decode cX12_distance 23 = .ok (.goto 4, 3) := by decide +kernel
theorem dX12_distance_26 : decode cX12_distance 26 = .ok (.iconst 2, 1) := by decide +kernel
theorem dX12_distance_27 : decode cX12_distance 27 = .ok (.invokevirtual 63, 3) := by decide +kernel
theorem dX12_distance_30 : decode cX12_distance 30 = .ok (.ifCond .eq 7, 3) := by decide +kernel
theorem dX12_distance_33 : decode cX12_distance 33 = .ok (.iconst 0, 1) := by decide +kernel
theorem dX12_distance_34 : decode cX12_distance 34 = .ok (.goto 8, 3) := by decide +kernel
theorem dX12_distance_37 : decode cX12_distance 37 = .ok (.aload_n 0, 1) := by decide +kernel
theorem dX12_distance_38 : decode cX12_distance 38 = .ok (.iload_n 1, 1) := by decide +kernel
theorem dX12_distance_39 : decode cX12_distance 39 = .ok (.invokevirtual 100, 3) := by decide +kernel
theorem dX12_distance_42 : decode cX12_distance 42 = .ok (.ireturn, 1) := by decide +kernel
theorem dX12_distanceTo_0 : decode cX12_distanceTo 0 = .ok (.aload_n 0, 1) := by decide +kernel
theorem dX12_distanceTo_1 : decode cX12_distanceTo 1 = .ok (.iload_n 1, 1) := by decide +kernel
theorem dX12_distanceTo_2 : decode cX12_distanceTo 2 = .ok (.invokevirtual 104, 3) := by decide +kernel
theorem dX12_distanceTo_5 : decode cX12_distanceTo 5 = .ok (.ireturn, 1) := by decide +kernel
theorem dX12_distanceByLetters_0 : decode cX12_distanceByLetters 0 = .ok (.aload_n 0, 1) := by decide +kernel
theorem dX12_distanceByLetters_1 : decode cX12_distanceByLetters 1 = .ok (.iload_n 1, 1) := by decide +kernel
theorem dX12_distanceByLetters_2 : decode cX12_distanceByLetters 2 = .ok (.invokevirtual 104, 3) := by decide +kernel
theorem dX12_distanceByLetters_5 : decode cX12_distanceByLetters 5 = .ok (.ireturn, 1) := by decide +kernel
theorem dX12_by_0 : decode cX12_by 0 = .ok (.aload_n 0, 1) := by decide +kernel
theorem dX12_by_1 : decode cX12_by 1 = .ok (.getfield 7, 3) := by decide +kernel
theorem dX12_by_4 : decode cX12_by 4 = .ok (.bipush 79, 2) := by decide +kernel
theorem dX12_by_6 : decode cX12_by 6 = .ok (.bipush 6, 2) := by decide +kernel
theorem dX12_by_8 : decode cX12_by 8 = .ok (.iload_n 1, 1) := by decide +kernel
theorem dX12_by_9 : decode cX12_by 9 = .ok (.imul, 1) := by decide +kernel
theorem dX12_by_10 : decode cX12_by 10 = .ok (.iadd, 1) := by decide +kernel
theorem dX12_by_11 : decode cX12_by 11 = .ok (.iload_n 2, 1) := by decide +kernel
theorem dX12_by_12 : decode cX12_by 12 = .ok (.iadd, 1) := by decide +kernel
theorem dX12_by_13 : decode cX12_by 13 = .ok (.iaload, 1) := by decide +kernel
theorem dX12_by_14 : decode cX12_by 14 = .ok (.ireturn, 1) := by decide +kernel
theorem dX12_placeOf_0 : decode cX12_placeOf 0 = .ok (.iconst 0, 1) := by decide +kernel
theorem dX12_placeOf_1 : decode cX12_placeOf 1 = .ok (.istore_n 2, 1) := by decide +kernel
theorem dX12_placeOf_2 : decode cX12_placeOf 2 = .ok (.iload_n 2, 1) := by decide +kernel
theorem dX12_placeOf_3 : decode cX12_placeOf 3 = .ok (.aload_n 0, 1) := by decide +kernel
theorem dX12_placeOf_4 : decode cX12_placeOf 4 = .ok (.getfield 7, 3) := by decide +kernel
theorem dX12_placeOf_7 : decode cX12_placeOf 7 = .ok (.iconst 3, 1) := by decide +kernel
theorem dX12_placeOf_8 : decode cX12_placeOf 8 = .ok (.iaload, 1) := by decide +kernel
theorem dX12_placeOf_9 : decode cX12_placeOf 9 = .ok (.if_icmp .ge 21, 3) := by decide +kernel
theorem dX12_placeOf_12 : decode cX12_placeOf 12 = .ok (.aload_n 0, 1) := by decide +kernel
theorem dX12_placeOf_13 : decode cX12_placeOf 13 = .ok (.iload_n 2, 1) := by decide +kernel
theorem dX12_placeOf_14 : decode cX12_placeOf 14 = .ok (.iconst 0, 1) := by decide +kernel
theorem dX12_placeOf_15 : decode cX12_placeOf 15 = .ok (.invokevirtual 107, 3) := by decide +kernel
theorem dX12_placeOf_18 : decode cX12_placeOf 18 = .ok (.iload_n 1, 1) := by decide +kernel
theorem dX12_placeOf_19 : decode cX12_placeOf 19 = .ok (.if_icmp .ne 5, 3) := by decide +kernel
theorem dX12_placeOf_22 : decode cX12_placeOf 22 = .ok (.iload_n 2, 1) := by decide +kernel
theorem dX12_placeOf_23 : decode cX12_placeOf 23 = .ok (.ireturn, 1) := by decide +kernel
theorem dX12_placeOf_24 : decode cX12_placeOf 24 = .ok (.iinc 2 1, 3) := by decide +kernel
theorem dX12_placeOf_27 : decode cX12_placeOf 27 = .ok (.goto (-25), 3) := by decide +kernel
theorem dX12_placeOf_30 : decode cX12_placeOf 30 = .ok (.iconst (-1), 1) := by decide +kernel
theorem dX12_placeOf_31 : decode cX12_placeOf 31 = .ok (.ireturn, 1) := by decide +kernel
theorem dX12_inside_0 : decode cX12_inside 0 = .ok (.aload_n 0, 1) := by decide +kernel
theorem dX12_inside_1 : decode cX12_inside 1 = .ok (.aload_n 0, 1) := by decide +kernel
theorem dX12_inside_2 : decode cX12_inside 2 = .ok (.iload_n 1, 1) := by decide +kernel
theorem dX12_inside_3 : decode cX12_inside 3 = .ok (.iconst 3, 1) := by decide +kernel
theorem dX12_inside_4 : decode cX12_inside 4 = .ok (.invokevirtual 107, 3) := by decide +kernel
theorem dX12_inside_7 : decode cX12_inside 7 = .ok (.iconst 1, 1) := by decide +kernel
theorem dX12_inside_8 : decode cX12_inside 8 = .ok (.invokevirtual 77, 3) := by decide +kernel
theorem dX12_inside_11 : decode cX12_inside 11 = .ok (.aload_n 0, 1) := by decide +kernel
theorem dX12_inside_12 : decode cX12_inside 12 = .ok (.aload_n 0, 1) := by decide +kernel
theorem dX12_inside_13 : decode cX12_inside 13 = .ok (.iload_n 1, 1) := by decide +kernel
theorem dX12_inside_14 : decode cX12_inside 14 = .ok (.iconst 4, 1) := by decide +kernel
theorem dX12_inside_15 : decode cX12_inside 15 = .ok (.invokevirtual 107, 3) := by decide +kernel
theorem dX12_inside_18 : decode cX12_inside 18 = .ok (.iconst 1, 1) := by decide +kernel
theorem dX12_inside_19 : decode cX12_inside 19 = .ok (.invokevirtual 77, 3) := by decide +kernel
theorem dX12_inside_22 : decode cX12_inside 22 = .ok (.ior, 1) := by decide +kernel
theorem dX12_inside_23 : decode cX12_inside 23 = .ok (.ireturn, 1) := by decide +kernel
theorem dX12_strong_0 : decode cX12_strong 0 = .ok (.aload_n 0, 1) := by decide +kernel
theorem dX12_strong_1 : decode cX12_strong 1 = .ok (.aload_n 0, 1) := by decide +kernel
theorem dX12_strong_2 : decode cX12_strong 2 = .ok (.iload_n 1, 1) := by decide +kernel
theorem dX12_strong_3 : decode cX12_strong 3 = .ok (.iconst 3, 1) := by decide +kernel
theorem dX12_strong_4 : decode cX12_strong 4 = .ok (.invokevirtual 107, 3) := by decide +kernel
theorem dX12_strong_7 : decode cX12_strong 7 = .ok (.iconst 0, 1) := by decide +kernel
theorem dX12_strong_8 : decode cX12_strong 8 = .ok (.invokevirtual 77, 3) := by decide +kernel
theorem dX12_strong_11 : decode cX12_strong 11 = .ok (.aload_n 0, 1) := by decide +kernel
theorem dX12_strong_12 : decode cX12_strong 12 = .ok (.aload_n 0, 1) := by decide +kernel
theorem dX12_strong_13 : decode cX12_strong 13 = .ok (.iload_n 1, 1) := by decide +kernel
theorem dX12_strong_14 : decode cX12_strong 14 = .ok (.iconst 4, 1) := by decide +kernel
theorem dX12_strong_15 : decode cX12_strong 15 = .ok (.invokevirtual 107, 3) := by decide +kernel
theorem dX12_strong_18 : decode cX12_strong 18 = .ok (.iconst 0, 1) := by decide +kernel
theorem dX12_strong_19 : decode cX12_strong 19 = .ok (.invokevirtual 77, 3) := by decide +kernel
theorem dX12_strong_22 : decode cX12_strong 22 = .ok (.iadd, 1) := by decide +kernel
theorem dX12_strong_23 : decode cX12_strong 23 = .ok (.iconst 2, 1) := by decide +kernel
theorem dX12_strong_24 : decode cX12_strong 24 = .ok (.idiv, 1) := by decide +kernel
theorem dX12_strong_25 : decode cX12_strong 25 = .ok (.ireturn, 1) := by decide +kernel
theorem dX12_grows_0 : decode cX12_grows 0 = .ok (.bipush 21, 2) := by decide +kernel
theorem dX12_grows_2 : decode cX12_grows 2 = .ok (.aload_n 0, 1) := by decide +kernel
theorem dX12_grows_3 : decode cX12_grows 3 = .ok (.iload_n 1, 1) := by decide +kernel
theorem dX12_grows_4 : decode cX12_grows 4 = .ok (.invokevirtual 110, 3) := by decide +kernel
theorem dX12_grows_7 : decode cX12_grows 7 = .ok (.isub, 1) := by decide +kernel
theorem dX12_grows_8 : decode cX12_grows 8 = .ok (.ireturn, 1) := by decide +kernel
theorem dX12_goes_0 : decode cX12_goes 0 = .ok (.aload_n 0, 1) := by decide +kernel
theorem dX12_goes_1 : decode cX12_goes 1 = .ok (.iload_n 1, 1) := by decide +kernel
theorem dX12_goes_2 : decode cX12_goes 2 = .ok (.iconst 1, 1) := by decide +kernel
theorem dX12_goes_3 : decode cX12_goes 3 = .ok (.invokevirtual 107, 3) := by decide +kernel
theorem dX12_goes_6 : decode cX12_goes 6 = .ok (.istore_n 2, 1) := by decide +kernel
theorem dX12_goes_7 : decode cX12_goes 7 = .ok (.aload_n 0, 1) := by decide +kernel
theorem dX12_goes_8 : decode cX12_goes 8 = .ok (.getfield 7, 3) := by decide +kernel
theorem dX12_goes_11 : decode cX12_goes 11 = .ok (.iconst 3, 1) := by decide +kernel
theorem dX12_goes_12 : decode cX12_goes 12 = .ok (.dup2, 1) := by decide +kernel
theorem dX12_goes_13 : decode cX12_goes 13 = .ok (.iaload, 1) := by decide +kernel
theorem dX12_goes_14 : decode cX12_goes 14 = .ok (.iconst 1, 1) := by decide +kernel
theorem dX12_goes_15 : decode cX12_goes 15 = .ok (.isub, 1) := by decide +kernel
theorem dX12_goes_16 : decode cX12_goes 16 = .ok (.iastore, 1) := by decide +kernel
theorem dX12_goes_17 : decode cX12_goes 17 = .ok (.bipush 79, 2) := by decide +kernel
theorem dX12_goes_19 : decode cX12_goes 19 = .ok (.bipush 6, 2) := by decide +kernel
theorem dX12_goes_21 : decode cX12_goes 21 = .ok (.iload_n 1, 1) := by decide +kernel
theorem dX12_goes_22 : decode cX12_goes 22 = .ok (.imul, 1) := by decide +kernel
theorem dX12_goes_23 : decode cX12_goes 23 = .ok (.iadd, 1) := by decide +kernel
theorem dX12_goes_24 : decode cX12_goes 24 = .ok (.istore_n 3, 1) := by decide +kernel
theorem dX12_goes_25 : decode cX12_goes 25 = .ok (.iload_n 3, 1) := by decide +kernel
theorem dX12_goes_26 : decode cX12_goes 26 = .ok (.bipush 79, 2) := by decide +kernel
theorem dX12_goes_28 : decode cX12_goes 28 = .ok (.bipush 6, 2) := by decide +kernel
theorem dX12_goes_30 : decode cX12_goes 30 = .ok (.aload_n 0, 1) := by decide +kernel
theorem dX12_goes_31 : decode cX12_goes 31 = .ok (.getfield 7, 3) := by decide +kernel
theorem dX12_goes_34 : decode cX12_goes 34 = .ok (.iconst 3, 1) := by decide +kernel
theorem dX12_goes_35 : decode cX12_goes 35 = .ok (.iaload, 1) := by decide +kernel
theorem dX12_goes_36 : decode cX12_goes 36 = .ok (.imul, 1) := by decide +kernel
theorem dX12_goes_37 : decode cX12_goes 37 = .ok (.iadd, 1) := by decide +kernel
theorem dX12_goes_38 : decode cX12_goes 38 = .ok (.if_icmp .ge 24, 3) := by decide +kernel
theorem dX12_goes_41 : decode cX12_goes 41 = .ok (.aload_n 0, 1) := by decide +kernel
theorem dX12_goes_42 : decode cX12_goes 42 = .ok (.getfield 7, 3) := by decide +kernel
theorem dX12_goes_45 : decode cX12_goes 45 = .ok (.iload_n 3, 1) := by decide +kernel
theorem dX12_goes_46 : decode cX12_goes 46 = .ok (.aload_n 0, 1) := by decide +kernel
theorem dX12_goes_47 : decode cX12_goes 47 = .ok (.getfield 7, 3) := by decide +kernel
theorem dX12_goes_50 : decode cX12_goes 50 = .ok (.iload_n 3, 1) := by decide +kernel
theorem dX12_goes_51 : decode cX12_goes 51 = .ok (.bipush 6, 2) := by decide +kernel
theorem dX12_goes_53 : decode cX12_goes 53 = .ok (.iadd, 1) := by decide +kernel
theorem dX12_goes_54 : decode cX12_goes 54 = .ok (.iaload, 1) := by decide +kernel
theorem dX12_goes_55 : decode cX12_goes 55 = .ok (.iastore, 1) := by decide +kernel
theorem dX12_goes_56 : decode cX12_goes 56 = .ok (.iinc 3 1, 3) := by decide +kernel
theorem dX12_goes_59 : decode cX12_goes 59 = .ok (.goto (-34), 3) := by decide +kernel
theorem dX12_goes_62 : decode cX12_goes 62 = .ok (.iconst 0, 1) := by decide +kernel
theorem dX12_goes_63 : decode cX12_goes 63 = .ok (.istore_n 3, 1) := by decide +kernel
theorem dX12_goes_64 : decode cX12_goes 64 = .ok (.iload_n 3, 1) := by decide +kernel
theorem dX12_goes_65 : decode cX12_goes 65 = .ok (.bipush 6, 2) := by decide +kernel
theorem dX12_goes_67 : decode cX12_goes 67 = .ok (.if_icmp .ge 29, 3) := by decide +kernel
theorem dX12_goes_70 : decode cX12_goes 70 = .ok (.aload_n 0, 1) := by decide +kernel
theorem dX12_goes_71 : decode cX12_goes 71 = .ok (.getfield 7, 3) := by decide +kernel
theorem dX12_goes_74 : decode cX12_goes 74 = .ok (.bipush 79, 2) := by decide +kernel
theorem dX12_goes_76 : decode cX12_goes 76 = .ok (.bipush 6, 2) := by decide +kernel
theorem dX12_goes_78 : decode cX12_goes 78 = .ok (.aload_n 0, 1) := by decide +kernel
theorem dX12_goes_79 : decode cX12_goes 79 = .ok (.getfield 7, 3) := by decide +kernel
theorem dX12_goes_82 : decode cX12_goes 82 = .ok (.iconst 3, 1) := by decide +kernel
theorem dX12_goes_83 : decode cX12_goes 83 = .ok (.iaload, 1) := by decide +kernel
theorem dX12_goes_84 : decode cX12_goes 84 = .ok (.imul, 1) := by decide +kernel
theorem dX12_goes_85 : decode cX12_goes 85 = .ok (.iadd, 1) := by decide +kernel
theorem dX12_goes_86 : decode cX12_goes 86 = .ok (.iload_n 3, 1) := by decide +kernel
theorem dX12_goes_87 : decode cX12_goes 87 = .ok (.iadd, 1) := by decide +kernel
theorem dX12_goes_88 : decode cX12_goes 88 = .ok (.iconst 0, 1) := by decide +kernel
theorem dX12_goes_89 : decode cX12_goes 89 = .ok (.iastore, 1) := by decide +kernel
theorem dX12_goes_90 : decode cX12_goes 90 = .ok (.iinc 3 1, 3) := by decide +kernel
theorem dX12_goes_93 : decode cX12_goes 93 = .ok (.goto (-29), 3) := by decide +kernel
theorem dX12_goes_96 : decode cX12_goes 96 = .ok (.iload_n 2, 1) := by decide +kernel
theorem dX12_goes_97 : decode cX12_goes 97 = .ok (.ireturn, 1) := by decide +kernel
theorem dX12_fill_0 : decode cX12_fill 0 = .ok (.aload_n 0, 1) := by decide +kernel
theorem dX12_fill_1 : decode cX12_fill 1 = .ok (.aload_n 0, 1) := by decide +kernel
theorem dX12_fill_2 : decode cX12_fill 2 = .ok (.iload_n 1, 1) := by decide +kernel
theorem dX12_fill_3 : decode cX12_fill 3 = .ok (.invokevirtual 74, 3) := by decide +kernel
theorem dX12_fill_6 : decode cX12_fill 6 = .ok (.ifCond .eq 19, 3) := by decide +kernel
theorem dX12_fill_9 : decode cX12_fill 9 = .ok (.aload_n 0, 1) := by decide +kernel
theorem dX12_fill_10 : decode cX12_fill 10 = .ok (.iload_n 2, 1) := by decide +kernel
theorem dX12_fill_11 : decode cX12_fill 11 = .ok (.invokevirtual 74, 3) := by decide +kernel
theorem dX12_fill_14 : decode cX12_fill 14 = .ok (.ifCond .eq 11, 3) := by decide +kernel
theorem dX12_fill_17 : decode cX12_fill 17 = .ok (.aload_n 0, 1) := by decide +kernel
theorem dX12_fill_18 : decode cX12_fill 18 = .ok (.iload_n 3, 1) := by decide +kernel
theorem dX12_fill_19 : decode cX12_fill 19 = .ok (.invokevirtual 94, 3) := by decide +kernel
theorem dX12_fill_22 : decode cX12_fill 22 = .ok (.ifCond .ne 7, 3) := by decide +kernel
theorem dX12_fill_25 : decode cX12_fill 25 = .ok (.iconst 1, 1) := by decide +kernel
theorem dX12_fill_26 : decode cX12_fill 26 = .ok (.goto 34, 3) := by decide +kernel
theorem dX12_fill_29 : decode cX12_fill 29 = .ok (.iload 4, 2) := by decide +kernel
theorem dX12_fill_31 : decode cX12_fill 31 = .ok (.iconst 1, 1) := by decide +kernel
theorem dX12_fill_32 : decode cX12_fill 32 = .ok (.bipush 9, 2) := by decide +kernel
theorem dX12_fill_34 : decode cX12_fill 34 = .ok (.invokestatic 59, 3) := by decide +kernel
theorem dX12_fill_37 : decode cX12_fill 37 = .ok (.ifCond .ne 7, 3) := by decide +kernel
theorem dX12_fill_40 : decode cX12_fill 40 = .ok (.iconst 2, 1) := by decide +kernel
theorem dX12_fill_41 : decode cX12_fill 41 = .ok (.goto 19, 3) := by decide +kernel
theorem dX12_fill_44 : decode cX12_fill 44 = .ok (.aload_n 0, 1) := by decide +kernel
theorem dX12_fill_45 : decode cX12_fill 45 = .ok (.getfield 7, 3) := by decide +kernel
theorem dX12_fill_48 : decode cX12_fill 48 = .ok (.iconst 3, 1) := by decide +kernel
theorem dX12_fill_49 : decode cX12_fill 49 = .ok (.iaload, 1) := by decide +kernel
theorem dX12_fill_50 : decode cX12_fill 50 = .ok (.bipush 8, 2) := by decide +kernel
theorem dX12_fill_52 : decode cX12_fill 52 = .ok (.if_icmp .ne 7, 3) := by decide +kernel
theorem dX12_fill_55 : decode cX12_fill 55 = .ok (.iconst 3, 1) := by decide +kernel
theorem dX12_fill_56 : decode cX12_fill 56 = .ok (.goto 4, 3) := by decide +kernel
theorem dX12_fill_59 : decode cX12_fill 59 = .ok (.iconst 0, 1) := by decide +kernel
theorem dX12_fill_60 : decode cX12_fill 60 = .ok (.invokevirtual 63, 3) := by decide +kernel
theorem dX12_fill_63 : decode cX12_fill 63 = .ok (.ifCond .eq 5, 3) := by decide +kernel
theorem dX12_fill_66 : decode cX12_fill 66 = .ok (.iconst 0, 1) := by decide +kernel
theorem dX12_fill_67 : decode cX12_fill 67 = .ok (.ireturn, 1) := by decide +kernel
theorem dX12_fill_68 : decode cX12_fill 68 = .ok (.aload_n 0, 1) := by decide +kernel
theorem dX12_fill_69 : decode cX12_fill 69 = .ok (.aload_n 0, 1) := by decide +kernel
theorem dX12_fill_70 : decode cX12_fill 70 = .ok (.iload_n 1, 1) := by decide +kernel
theorem dX12_fill_71 : decode cX12_fill 71 = .ok (.iconst 1, 1) := by decide +kernel
theorem dX12_fill_72 : decode cX12_fill 72 = .ok (.invokevirtual 77, 3) := by decide +kernel
theorem dX12_fill_75 : decode cX12_fill 75 = .ok (.aload_n 0, 1) := by decide +kernel
theorem dX12_fill_76 : decode cX12_fill 76 = .ok (.iload_n 2, 1) := by decide +kernel
theorem dX12_fill_77 : decode cX12_fill 77 = .ok (.iconst 1, 1) := by decide +kernel
theorem dX12_fill_78 : decode cX12_fill 78 = .ok (.invokevirtual 77, 3) := by decide +kernel
theorem dX12_fill_81 : decode cX12_fill 81 = .ok (.ior, 1) := by decide +kernel
theorem dX12_fill_82 : decode cX12_fill 82 = .ok (.aload_n 0, 1) := by decide +kernel
theorem dX12_fill_83 : decode cX12_fill 83 = .ok (.getfield 7, 3) := by decide +kernel
theorem dX12_fill_86 : decode cX12_fill 86 = .ok (.bipush 6, 2) := by decide +kernel
theorem dX12_fill_88 : decode cX12_fill 88 = .ok (.iaload, 1) := by decide +kernel
theorem dX12_fill_89 : decode cX12_fill 89 = .ok (.iand, 1) := by decide +kernel
theorem dX12_fill_90 : decode cX12_fill 90 = .ok (.ifCond .eq 7, 3) := by decide +kernel
theorem dX12_fill_93 : decode cX12_fill 93 = .ok (.iconst 4, 1) := by decide +kernel
theorem dX12_fill_94 : decode cX12_fill 94 = .ok (.goto 4, 3) := by decide +kernel
theorem dX12_fill_97 : decode cX12_fill 97 = .ok (.iconst 0, 1) := by decide +kernel
theorem dX12_fill_98 : decode cX12_fill 98 = .ok (.invokevirtual 63, 3) := by decide +kernel
theorem dX12_fill_101 : decode cX12_fill 101 = .ok (.ifCond .eq 5, 3) := by decide +kernel
theorem dX12_fill_104 : decode cX12_fill 104 = .ok (.iconst 0, 1) := by decide +kernel
theorem dX12_fill_105 : decode cX12_fill 105 = .ok (.ireturn, 1) := by decide +kernel
theorem dX12_fill_106 : decode cX12_fill 106 = .ok (.aload_n 0, 1) := by decide +kernel
theorem dX12_fill_107 : decode cX12_fill 107 = .ok (.aload_n 0, 1) := by decide +kernel
theorem dX12_fill_108 : decode cX12_fill 108 = .ok (.getfield 7, 3) := by decide +kernel
theorem dX12_fill_111 : decode cX12_fill 111 = .ok (.invokevirtual 67, 3) := by decide +kernel
theorem dX12_fill_114 : decode cX12_fill 114 = .ok (.bipush 79, 2) := by decide +kernel
theorem dX12_fill_116 : decode cX12_fill 116 = .ok (.bipush 6, 2) := by decide +kernel
theorem dX12_fill_118 : decode cX12_fill 118 = .ok (.aload_n 0, 1) := by decide +kernel
theorem dX12_fill_119 : decode cX12_fill 119 = .ok (.getfield 7, 3) := by decide +kernel
theorem dX12_fill_122 : decode cX12_fill 122 = .ok (.iconst 3, 1) := by decide +kernel
theorem dX12_fill_123 : decode cX12_fill 123 = .ok (.iaload, 1) := by decide +kernel
theorem dX12_fill_124 : decode cX12_fill 124 = .ok (.imul, 1) := by decide +kernel
theorem dX12_fill_125 : decode cX12_fill 125 = .ok (.iadd, 1) := by decide +kernel
theorem dX12_fill_126 : decode cX12_fill 126 = .ok (.istore 5, 2) := by decide +kernel
theorem dX12_fill_128 : decode cX12_fill 128 = .ok (.aload_n 0, 1) := by decide +kernel
theorem dX12_fill_129 : decode cX12_fill 129 = .ok (.getfield 7, 3) := by decide +kernel
theorem dX12_fill_132 : decode cX12_fill 132 = .ok (.iload 5, 2) := by decide +kernel
theorem dX12_fill_134 : decode cX12_fill 134 = .ok (.iconst 0, 1) := by decide +kernel
theorem dX12_fill_135 : decode cX12_fill 135 = .ok (.iadd, 1) := by decide +kernel
theorem dX12_fill_136 : decode cX12_fill 136 = .ok (.aload_n 0, 1) := by decide +kernel
theorem dX12_fill_137 : decode cX12_fill 137 = .ok (.getfield 7, 3) := by decide +kernel
theorem dX12_fill_140 : decode cX12_fill 140 = .ok (.iconst 4, 1) := by decide +kernel
theorem dX12_fill_141 : decode cX12_fill 141 = .ok (.iaload, 1) := by decide +kernel
theorem dX12_fill_142 : decode cX12_fill 142 = .ok (.iastore, 1) := by decide +kernel
theorem dX12_fill_143 : decode cX12_fill 143 = .ok (.aload_n 0, 1) := by decide +kernel
theorem dX12_fill_144 : decode cX12_fill 144 = .ok (.getfield 7, 3) := by decide +kernel
theorem dX12_fill_147 : decode cX12_fill 147 = .ok (.iload 5, 2) := by decide +kernel
theorem dX12_fill_149 : decode cX12_fill 149 = .ok (.iconst 1, 1) := by decide +kernel
theorem dX12_fill_150 : decode cX12_fill 150 = .ok (.iadd, 1) := by decide +kernel
theorem dX12_fill_151 : decode cX12_fill 151 = .ok (.iload 4, 2) := by decide +kernel
theorem dX12_fill_153 : decode cX12_fill 153 = .ok (.iastore, 1) := by decide +kernel
theorem dX12_fill_154 : decode cX12_fill 154 = .ok (.aload_n 0, 1) := by decide +kernel
theorem dX12_fill_155 : decode cX12_fill 155 = .ok (.getfield 7, 3) := by decide +kernel
theorem dX12_fill_158 : decode cX12_fill 158 = .ok (.iload 5, 2) := by decide +kernel
theorem dX12_fill_160 : decode cX12_fill 160 = .ok (.iconst 2, 1) := by decide +kernel
theorem dX12_fill_161 : decode cX12_fill 161 = .ok (.iadd, 1) := by decide +kernel
theorem dX12_fill_162 : decode cX12_fill 162 = .ok (.iload_n 3, 1) := by decide +kernel
theorem dX12_fill_163 : decode cX12_fill 163 = .ok (.iastore, 1) := by decide +kernel
theorem dX12_fill_164 : decode cX12_fill 164 = .ok (.aload_n 0, 1) := by decide +kernel
theorem dX12_fill_165 : decode cX12_fill 165 = .ok (.getfield 7, 3) := by decide +kernel
theorem dX12_fill_168 : decode cX12_fill 168 = .ok (.iload 5, 2) := by decide +kernel
theorem dX12_fill_170 : decode cX12_fill 170 = .ok (.iconst 3, 1) := by decide +kernel
theorem dX12_fill_171 : decode cX12_fill 171 = .ok (.iadd, 1) := by decide +kernel
theorem dX12_fill_172 : decode cX12_fill 172 = .ok (.iload_n 1, 1) := by decide +kernel
theorem dX12_fill_173 : decode cX12_fill 173 = .ok (.iastore, 1) := by decide +kernel
theorem dX12_fill_174 : decode cX12_fill 174 = .ok (.aload_n 0, 1) := by decide +kernel
theorem dX12_fill_175 : decode cX12_fill 175 = .ok (.getfield 7, 3) := by decide +kernel
theorem dX12_fill_178 : decode cX12_fill 178 = .ok (.iload 5, 2) := by decide +kernel
theorem dX12_fill_180 : decode cX12_fill 180 = .ok (.iconst 4, 1) := by decide +kernel
theorem dX12_fill_181 : decode cX12_fill 181 = .ok (.iadd, 1) := by decide +kernel
theorem dX12_fill_182 : decode cX12_fill 182 = .ok (.iload_n 2, 1) := by decide +kernel
theorem dX12_fill_183 : decode cX12_fill 183 = .ok (.iastore, 1) := by decide +kernel
theorem dX12_fill_184 : decode cX12_fill 184 = .ok (.aload_n 0, 1) := by decide +kernel
theorem dX12_fill_185 : decode cX12_fill 185 = .ok (.getfield 7, 3) := by decide +kernel
theorem dX12_fill_188 : decode cX12_fill 188 = .ok (.iload 5, 2) := by decide +kernel
theorem dX12_fill_190 : decode cX12_fill 190 = .ok (.iconst 5, 1) := by decide +kernel
theorem dX12_fill_191 : decode cX12_fill 191 = .ok (.iadd, 1) := by decide +kernel
theorem dX12_fill_192 : decode cX12_fill 192 = .ok (.iconst 0, 1) := by decide +kernel
theorem dX12_fill_193 : decode cX12_fill 193 = .ok (.iastore, 1) := by decide +kernel
theorem dX12_fill_194 : decode cX12_fill 194 = .ok (.aload_n 0, 1) := by decide +kernel
theorem dX12_fill_195 : decode cX12_fill 195 = .ok (.getfield 7, 3) := by decide +kernel
theorem dX12_fill_198 : decode cX12_fill 198 = .ok (.iconst 3, 1) := by decide +kernel
theorem dX12_fill_199 : decode cX12_fill 199 = .ok (.dup2, 1) := by decide +kernel
theorem dX12_fill_200 : decode cX12_fill 200 = .ok (.iaload, 1) := by decide +kernel
theorem dX12_fill_201 : decode cX12_fill 201 = .ok (.iconst 1, 1) := by decide +kernel
theorem dX12_fill_202 : decode cX12_fill 202 = .ok (.iadd, 1) := by decide +kernel
theorem dX12_fill_203 : decode cX12_fill 203 = .ok (.iastore, 1) := by decide +kernel
theorem dX12_fill_204 : decode cX12_fill 204 = .ok (.aload_n 0, 1) := by decide +kernel
theorem dX12_fill_205 : decode cX12_fill 205 = .ok (.getfield 7, 3) := by decide +kernel
theorem dX12_fill_208 : decode cX12_fill 208 = .ok (.iconst 4, 1) := by decide +kernel
theorem dX12_fill_209 : decode cX12_fill 209 = .ok (.dup2, 1) := by decide +kernel
theorem dX12_fill_210 : decode cX12_fill 210 = .ok (.iaload, 1) := by decide +kernel
theorem dX12_fill_211 : decode cX12_fill 211 = .ok (.iconst 1, 1) := by decide +kernel
theorem dX12_fill_212 : decode cX12_fill 212 = .ok (.iadd, 1) := by decide +kernel
theorem dX12_fill_213 : decode cX12_fill 213 = .ok (.iastore, 1) := by decide +kernel
theorem dX12_fill_214 : decode cX12_fill 214 = .ok (.aload_n 0, 1) := by decide +kernel
theorem dX12_fill_215 : decode cX12_fill 215 = .ok (.getfield 7, 3) := by decide +kernel
theorem dX12_fill_218 : decode cX12_fill 218 = .ok (.bipush 7, 2) := by decide +kernel
theorem dX12_fill_220 : decode cX12_fill 220 = .ok (.dup2, 1) := by decide +kernel
theorem dX12_fill_221 : decode cX12_fill 221 = .ok (.iaload, 1) := by decide +kernel
theorem dX12_fill_222 : decode cX12_fill 222 = .ok (.iload 4, 2) := by decide +kernel
theorem dX12_fill_224 : decode cX12_fill 224 = .ok (.iadd, 1) := by decide +kernel
theorem dX12_fill_225 : decode cX12_fill 225 = .ok (.iastore, 1) := by decide +kernel
theorem dX12_fill_226 : decode cX12_fill 226 = .ok (.aload_n 0, 1) := by decide +kernel
theorem dX12_fill_227 : decode cX12_fill 227 = .ok (.getfield 7, 3) := by decide +kernel
theorem dX12_fill_230 : decode cX12_fill 230 = .ok (.iconst 4, 1) := by decide +kernel
theorem dX12_fill_231 : decode cX12_fill 231 = .ok (.iaload, 1) := by decide +kernel
theorem dX12_fill_232 : decode cX12_fill 232 = .ok (.iconst 1, 1) := by decide +kernel
theorem dX12_fill_233 : decode cX12_fill 233 = .ok (.isub, 1) := by decide +kernel
theorem dX12_fill_234 : decode cX12_fill 234 = .ok (.ireturn, 1) := by decide +kernel
theorem dX12_ship_0 : decode cX12_ship 0 = .ok (.aload_n 0, 1) := by decide +kernel
theorem dX12_ship_1 : decode cX12_ship 1 = .ok (.iload_n 1, 1) := by decide +kernel
theorem dX12_ship_2 : decode cX12_ship 2 = .ok (.invokevirtual 113, 3) := by decide +kernel
theorem dX12_ship_5 : decode cX12_ship 5 = .ok (.istore_n 2, 1) := by decide +kernel
theorem dX12_ship_6 : decode cX12_ship 6 = .ok (.aload_n 0, 1) := by decide +kernel
theorem dX12_ship_7 : decode cX12_ship 7 = .ok (.iload_n 2, 1) := by decide +kernel
theorem dX12_ship_8 : decode cX12_ship 8 = .ok (.ifCond .ge 7, 3) := by decide +kernel
theorem dX12_ship_11 : decode cX12_ship 11 = .ok (.iconst 1, 1) := by decide +kernel
theorem dX12_ship_12 : decode cX12_ship 12 = .ok (.goto 4, 3) := by decide +kernel
theorem dX12_ship_15 : decode cX12_ship 15 = .ok (.iconst 0, 1) := by decide +kernel
theorem dX12_ship_16 : decode cX12_ship 16 = .ok (.invokevirtual 63, 3) := by decide +kernel
theorem dX12_ship_19 : decode cX12_ship 19 = .ok (.ifCond .eq 5, 3) := by decide +kernel
theorem dX12_ship_22 : decode cX12_ship 22 = .ok (.iconst 0, 1) := by decide +kernel
theorem dX12_ship_23 : decode cX12_ship 23 = .ok (.ireturn, 1) := by decide +kernel
theorem dX12_ship_24 : decode cX12_ship 24 = .ok (.aload_n 0, 1) := by decide +kernel
theorem dX12_ship_25 : decode cX12_ship 25 = .ok (.aload_n 0, 1) := by decide +kernel
theorem dX12_ship_26 : decode cX12_ship 26 = .ok (.getfield 7, 3) := by decide +kernel
theorem dX12_ship_29 : decode cX12_ship 29 = .ok (.invokevirtual 67, 3) := by decide +kernel
theorem dX12_ship_32 : decode cX12_ship 32 = .ok (.aload_n 0, 1) := by decide +kernel
theorem dX12_ship_33 : decode cX12_ship 33 = .ok (.iload_n 2, 1) := by decide +kernel
theorem dX12_ship_34 : decode cX12_ship 34 = .ok (.invokevirtual 116, 3) := by decide +kernel
theorem dX12_ship_37 : decode cX12_ship 37 = .ok (.istore_n 3, 1) := by decide +kernel
theorem dX12_ship_38 : decode cX12_ship 38 = .ok (.aload_n 0, 1) := by decide +kernel
theorem dX12_ship_39 : decode cX12_ship 39 = .ok (.getfield 7, 3) := by decide +kernel
theorem dX12_ship_42 : decode cX12_ship 42 = .ok (.bipush 8, 2) := by decide +kernel
theorem dX12_ship_44 : decode cX12_ship 44 = .ok (.dup2, 1) := by decide +kernel
theorem dX12_ship_45 : decode cX12_ship 45 = .ok (.iaload, 1) := by decide +kernel
theorem dX12_ship_46 : decode cX12_ship 46 = .ok (.iload_n 3, 1) := by decide +kernel
theorem dX12_ship_47 : decode cX12_ship 47 = .ok (.iadd, 1) := by decide +kernel
theorem dX12_ship_48 : decode cX12_ship 48 = .ok (.iastore, 1) := by decide +kernel
theorem dX12_ship_49 : decode cX12_ship 49 = .ok (.iload_n 3, 1) := by decide +kernel
theorem dX12_ship_50 : decode cX12_ship 50 = .ok (.ireturn, 1) := by decide +kernel
theorem dX12_dawns_0 : decode cX12_dawns 0 = .ok (.iconst 0, 1) := by decide +kernel
theorem dX12_dawns_1 : decode cX12_dawns 1 = .ok (.istore_n 1, 1) := by decide +kernel
theorem dX12_dawns_2 : decode cX12_dawns 2 = .ok (.aload_n 0, 1) := by decide +kernel
theorem dX12_dawns_3 : decode cX12_dawns 3 = .ok (.getfield 7, 3) := by decide +kernel
theorem dX12_dawns_6 : decode cX12_dawns 6 = .ok (.iconst 5, 1) := by decide +kernel
theorem dX12_dawns_7 : decode cX12_dawns 7 = .ok (.dup2, 1) := by decide +kernel
theorem dX12_dawns_8 : decode cX12_dawns 8 = .ok (.iaload, 1) := by decide +kernel
theorem dX12_dawns_9 : decode cX12_dawns 9 = .ok (.iconst 1, 1) := by decide +kernel
theorem dX12_dawns_10 : decode cX12_dawns 10 = .ok (.iadd, 1) := by decide +kernel
theorem dX12_dawns_11 : decode cX12_dawns 11 = .ok (.iastore, 1) := by decide +kernel
theorem dX12_dawns_12 : decode cX12_dawns 12 = .ok (.aload_n 0, 1) := by decide +kernel
theorem dX12_dawns_13 : decode cX12_dawns 13 = .ok (.getfield 7, 3) := by decide +kernel
theorem dX12_dawns_16 : decode cX12_dawns 16 = .ok (.iconst 3, 1) := by decide +kernel
theorem dX12_dawns_17 : decode cX12_dawns 17 = .ok (.iaload, 1) := by decide +kernel
theorem dX12_dawns_18 : decode cX12_dawns 18 = .ok (.iconst 1, 1) := by decide +kernel
theorem dX12_dawns_19 : decode cX12_dawns 19 = .ok (.isub, 1) := by decide +kernel
theorem dX12_dawns_20 : decode cX12_dawns 20 = .ok (.istore_n 2, 1) := by decide +kernel
theorem dX12_dawns_21 : decode cX12_dawns 21 = .ok (.iload_n 2, 1) := by decide +kernel
theorem dX12_dawns_22 : decode cX12_dawns 22 = .ok (.ifCond .lt 64, 3) := by decide +kernel
theorem dX12_dawns_25 : decode cX12_dawns 25 = .ok (.aload_n 0, 1) := by decide +kernel
theorem dX12_dawns_26 : decode cX12_dawns 26 = .ok (.iload_n 2, 1) := by decide +kernel
theorem dX12_dawns_27 : decode cX12_dawns 27 = .ok (.iconst 5, 1) := by decide +kernel
theorem dX12_dawns_28 : decode cX12_dawns 28 = .ok (.invokevirtual 107, 3) := by decide +kernel
theorem dX12_dawns_31 : decode cX12_dawns 31 = .ok (.aload_n 0, 1) := by decide +kernel
theorem dX12_dawns_32 : decode cX12_dawns 32 = .ok (.iload_n 2, 1) := by decide +kernel
theorem dX12_dawns_33 : decode cX12_dawns 33 = .ok (.invokevirtual 119, 3) := by decide +kernel
theorem dX12_dawns_36 : decode cX12_dawns 36 = .ok (.iadd, 1) := by decide +kernel
theorem dX12_dawns_37 : decode cX12_dawns 37 = .ok (.istore_n 3, 1) := by decide +kernel
theorem dX12_dawns_38 : decode cX12_dawns 38 = .ok (.aload_n 0, 1) := by decide +kernel
theorem dX12_dawns_39 : decode cX12_dawns 39 = .ok (.getfield 7, 3) := by decide +kernel
theorem dX12_dawns_42 : decode cX12_dawns 42 = .ok (.bipush 79, 2) := by decide +kernel
theorem dX12_dawns_44 : decode cX12_dawns 44 = .ok (.bipush 6, 2) := by decide +kernel
theorem dX12_dawns_46 : decode cX12_dawns 46 = .ok (.iload_n 2, 1) := by decide +kernel
theorem dX12_dawns_47 : decode cX12_dawns 47 = .ok (.imul, 1) := by decide +kernel
theorem dX12_dawns_48 : decode cX12_dawns 48 = .ok (.iadd, 1) := by decide +kernel
theorem dX12_dawns_49 : decode cX12_dawns 49 = .ok (.iconst 5, 1) := by decide +kernel
theorem dX12_dawns_50 : decode cX12_dawns 50 = .ok (.iadd, 1) := by decide +kernel
theorem dX12_dawns_51 : decode cX12_dawns 51 = .ok (.iload_n 3, 1) := by decide +kernel
theorem dX12_dawns_52 : decode cX12_dawns 52 = .ok (.iastore, 1) := by decide +kernel
theorem dX12_dawns_53 : decode cX12_dawns 53 = .ok (.iload_n 3, 1) := by decide +kernel
theorem dX12_dawns_54 : decode cX12_dawns 54 = .ok (.bipush 60, 2) := by decide +kernel
theorem dX12_dawns_56 : decode cX12_dawns 56 = .ok (.if_icmp .ge 6, 3) := by decide +kernel
theorem dX12_dawns_59 : decode cX12_dawns 59 = .ok (.goto 21, 3) := by decide +kernel
theorem dX12_dawns_62 : decode cX12_dawns 62 = .ok (.aload_n 0, 1) := by decide +kernel
theorem dX12_dawns_63 : decode cX12_dawns 63 = .ok (.getfield 7, 3) := by decide +kernel
theorem dX12_dawns_66 : decode cX12_dawns 66 = .ok (.bipush 10, 2) := by decide +kernel
theorem dX12_dawns_68 : decode cX12_dawns 68 = .ok (.dup2, 1) := by decide +kernel
theorem dX12_dawns_69 : decode cX12_dawns 69 = .ok (.iaload, 1) := by decide +kernel
theorem dX12_dawns_70 : decode cX12_dawns 70 = .ok (.aload_n 0, 1) := by decide +kernel
theorem dX12_dawns_71 : decode cX12_dawns 71 = .ok (.iload_n 2, 1) := by decide +kernel
theorem dX12_dawns_72 : decode cX12_dawns 72 = .ok (.invokevirtual 116, 3) := by decide +kernel
theorem dX12_dawns_75 : decode cX12_dawns 75 = .ok (.iadd, 1) := by decide +kernel
theorem dX12_dawns_76 : decode cX12_dawns 76 = .ok (.iastore, 1) := by decide +kernel
theorem dX12_dawns_77 : decode cX12_dawns 77 = .ok (.iinc 1 1, 3) := by decide +kernel
theorem dX12_dawns_80 : decode cX12_dawns 80 = .ok (.iinc 2 (-1), 3) := by decide +kernel
theorem dX12_dawns_83 : decode cX12_dawns 83 = .ok (.goto (-62), 3) := by decide +kernel
theorem dX12_dawns_86 : decode cX12_dawns 86 = .ok (.iload_n 1, 1) := by decide +kernel
theorem dX12_dawns_87 : decode cX12_dawns 87 = .ok (.ireturn, 1) := by decide +kernel
theorem dX12_pass_0 : decode cX12_pass 0 = .ok (.aload_n 0, 1) := by decide +kernel
theorem dX12_pass_1 : decode cX12_pass 1 = .ok (.iload_n 1, 1) := by decide +kernel
theorem dX12_pass_2 : decode cX12_pass 2 = .ok (.iconst 1, 1) := by decide +kernel
theorem dX12_pass_3 : decode cX12_pass 3 = .ok (.bipush 30, 2) := by decide +kernel
theorem dX12_pass_5 : decode cX12_pass 5 = .ok (.invokestatic 59, 3) := by decide +kernel
theorem dX12_pass_8 : decode cX12_pass 8 = .ok (.ifCond .eq 7, 3) := by decide +kernel
theorem dX12_pass_11 : decode cX12_pass 11 = .ok (.iconst 0, 1) := by decide +kernel
theorem dX12_pass_12 : decode cX12_pass 12 = .ok (.goto 4, 3) := by decide +kernel
theorem dX12_pass_15 : decode cX12_pass 15 = .ok (.iconst 1, 1) := by decide +kernel
theorem dX12_pass_16 : decode cX12_pass 16 = .ok (.invokevirtual 63, 3) := by decide +kernel
theorem dX12_pass_19 : decode cX12_pass 19 = .ok (.ifCond .eq 5, 3) := by decide +kernel
theorem dX12_pass_22 : decode cX12_pass 22 = .ok (.iconst 0, 1) := by decide +kernel
theorem dX12_pass_23 : decode cX12_pass 23 = .ok (.ireturn, 1) := by decide +kernel
theorem dX12_pass_24 : decode cX12_pass 24 = .ok (.aload_n 0, 1) := by decide +kernel
theorem dX12_pass_25 : decode cX12_pass 25 = .ok (.aload_n 0, 1) := by decide +kernel
theorem dX12_pass_26 : decode cX12_pass 26 = .ok (.getfield 7, 3) := by decide +kernel
theorem dX12_pass_29 : decode cX12_pass 29 = .ok (.invokevirtual 67, 3) := by decide +kernel
theorem dX12_pass_32 : decode cX12_pass 32 = .ok (.iconst 0, 1) := by decide +kernel
theorem dX12_pass_33 : decode cX12_pass 33 = .ok (.istore_n 2, 1) := by decide +kernel
theorem dX12_pass_34 : decode cX12_pass 34 = .ok (.iconst 0, 1) := by decide +kernel
theorem dX12_pass_35 : decode cX12_pass 35 = .ok (.istore_n 3, 1) := by decide +kernel
theorem dX12_pass_36 : decode cX12_pass 36 = .ok (.iload_n 3, 1) := by decide +kernel
theorem dX12_pass_37 : decode cX12_pass 37 = .ok (.iload_n 1, 1) := by decide +kernel
theorem dX12_pass_38 : decode cX12_pass 38 = .ok (.if_icmp .ge 16, 3) := by decide +kernel
theorem dX12_pass_41 : decode cX12_pass 41 = .ok (.iload_n 2, 1) := by decide +kernel
theorem dX12_pass_42 : decode cX12_pass 42 = .ok (.aload_n 0, 1) := by decide +kernel
theorem dX12_pass_43 : decode cX12_pass 43 = .ok (.invokevirtual 122, 3) := by decide +kernel
theorem dX12_pass_46 : decode cX12_pass 46 = .ok (.iadd, 1) := by decide +kernel
theorem dX12_pass_47 : decode cX12_pass 47 = .ok (.istore_n 2, 1) := by decide +kernel
theorem dX12_pass_48 : decode cX12_pass 48 = .ok (.iinc 3 1, 3) := by decide +kernel
theorem dX12_pass_51 : decode cX12_pass 51 = .ok (.goto (-15), 3) := by decide +kernel
theorem dX12_pass_54 : decode cX12_pass 54 = .ok (.iload_n 2, 1) := by decide +kernel
theorem dX12_pass_55 : decode cX12_pass 55 = .ok (.ireturn, 1) := by decide +kernel
theorem dX12_recall_0 : decode cX12_recall 0 = .ok (.aload_n 0, 1) := by decide +kernel
theorem dX12_recall_1 : decode cX12_recall 1 = .ok (.aload_n 0, 1) := by decide +kernel
theorem dX12_recall_2 : decode cX12_recall 2 = .ok (.iload_n 1, 1) := by decide +kernel
theorem dX12_recall_3 : decode cX12_recall 3 = .ok (.invokevirtual 71, 3) := by decide +kernel
theorem dX12_recall_6 : decode cX12_recall 6 = .ok (.ifCond .ne 7, 3) := by decide +kernel
theorem dX12_recall_9 : decode cX12_recall 9 = .ok (.iconst 1, 1) := by decide +kernel
theorem dX12_recall_10 : decode cX12_recall 10 = .ok (.goto 23, 3) := by decide +kernel
theorem dX12_recall_13 : decode cX12_recall 13 = .ok (.aload_n 0, 1) := by decide +kernel
theorem dX12_recall_14 : decode cX12_recall 14 = .ok (.getfield 7, 3) := by decide +kernel
theorem dX12_recall_17 : decode cX12_recall 17 = .ok (.bipush 6, 2) := by decide +kernel
theorem dX12_recall_19 : decode cX12_recall 19 = .ok (.iaload, 1) := by decide +kernel
theorem dX12_recall_20 : decode cX12_recall 20 = .ok (.iload_n 1, 1) := by decide +kernel
theorem dX12_recall_21 : decode cX12_recall 21 = .ok (.ishr, 1) := by decide +kernel
theorem dX12_recall_22 : decode cX12_recall 22 = .ok (.iconst 1, 1) := by decide +kernel
theorem dX12_recall_23 : decode cX12_recall 23 = .ok (.iand, 1) := by decide +kernel
theorem dX12_recall_24 : decode cX12_recall 24 = .ok (.iconst 1, 1) := by decide +kernel
theorem dX12_recall_25 : decode cX12_recall 25 = .ok (.if_icmp .ne 7, 3) := by decide +kernel
theorem dX12_recall_28 : decode cX12_recall 28 = .ok (.iconst 2, 1) := by decide +kernel
theorem dX12_recall_29 : decode cX12_recall 29 = .ok (.goto 4, 3) := by decide +kernel
theorem dX12_recall_32 : decode cX12_recall 32 = .ok (.iconst 0, 1) := by decide +kernel
theorem dX12_recall_33 : decode cX12_recall 33 = .ok (.invokevirtual 63, 3) := by decide +kernel
theorem dX12_recall_36 : decode cX12_recall 36 = .ok (.ifCond .eq 5, 3) := by decide +kernel
theorem dX12_recall_39 : decode cX12_recall 39 = .ok (.iconst 0, 1) := by decide +kernel
theorem dX12_recall_40 : decode cX12_recall 40 = .ok (.ireturn, 1) := by decide +kernel
theorem dX12_recall_41 : decode cX12_recall 41 = .ok (.aload_n 0, 1) := by decide +kernel
theorem dX12_recall_42 : decode cX12_recall 42 = .ok (.aload_n 0, 1) := by decide +kernel
theorem dX12_recall_43 : decode cX12_recall 43 = .ok (.getfield 7, 3) := by decide +kernel
theorem dX12_recall_46 : decode cX12_recall 46 = .ok (.invokevirtual 67, 3) := by decide +kernel
theorem dX12_recall_49 : decode cX12_recall 49 = .ok (.iconst 0, 1) := by decide +kernel
theorem dX12_recall_50 : decode cX12_recall 50 = .ok (.istore_n 2, 1) := by decide +kernel
theorem dX12_recall_51 : decode cX12_recall 51 = .ok (.aload_n 0, 1) := by decide +kernel
theorem dX12_recall_52 : decode cX12_recall 52 = .ok (.getfield 7, 3) := by decide +kernel
theorem dX12_recall_55 : decode cX12_recall 55 = .ok (.bipush 6, 2) := by decide +kernel
theorem dX12_recall_57 : decode cX12_recall 57 = .ok (.dup2, 1) := by decide +kernel
theorem dX12_recall_58 : decode cX12_recall 58 = .ok (.iaload, 1) := by decide +kernel
theorem dX12_recall_59 : decode cX12_recall 59 = .ok (.iconst 1, 1) := by decide +kernel
theorem dX12_recall_60 : decode cX12_recall 60 = .ok (.iload_n 1, 1) := by decide +kernel
theorem dX12_recall_61 : decode cX12_recall 61 = .ok (.ishl, 1) := by decide +kernel
theorem dX12_recall_62 : decode cX12_recall 62 = .ok (.ior, 1) := by decide +kernel
theorem dX12_recall_63 : decode cX12_recall 63 = .ok (.iastore, 1) := by decide +kernel
theorem dX12_recall_64 : decode cX12_recall 64 = .ok (.aload_n 0, 1) := by decide +kernel
theorem dX12_recall_65 : decode cX12_recall 65 = .ok (.getfield 7, 3) := by decide +kernel
theorem dX12_recall_68 : decode cX12_recall 68 = .ok (.iconst 3, 1) := by decide +kernel
theorem dX12_recall_69 : decode cX12_recall 69 = .ok (.iaload, 1) := by decide +kernel
theorem dX12_recall_70 : decode cX12_recall 70 = .ok (.iconst 1, 1) := by decide +kernel
theorem dX12_recall_71 : decode cX12_recall 71 = .ok (.isub, 1) := by decide +kernel
theorem dX12_recall_72 : decode cX12_recall 72 = .ok (.istore_n 3, 1) := by decide +kernel
theorem dX12_recall_73 : decode cX12_recall 73 = .ok (.iload_n 3, 1) := by decide +kernel
theorem dX12_recall_74 : decode cX12_recall 74 = .ok (.ifCond .lt 42, 3) := by decide +kernel
theorem dX12_recall_77 : decode cX12_recall 77 = .ok (.aload_n 0, 1) := by decide +kernel
theorem dX12_recall_78 : decode cX12_recall 78 = .ok (.iload_n 3, 1) := by decide +kernel
theorem dX12_recall_79 : decode cX12_recall 79 = .ok (.invokevirtual 126, 3) := by decide +kernel
theorem dX12_recall_82 : decode cX12_recall 82 = .ok (.iload_n 1, 1) := by decide +kernel
theorem dX12_recall_83 : decode cX12_recall 83 = .ok (.ishr, 1) := by decide +kernel
theorem dX12_recall_84 : decode cX12_recall 84 = .ok (.iconst 1, 1) := by decide +kernel
theorem dX12_recall_85 : decode cX12_recall 85 = .ok (.iand, 1) := by decide +kernel
theorem dX12_recall_86 : decode cX12_recall 86 = .ok (.ifCond .ne 6, 3) := by decide +kernel
theorem dX12_recall_89 : decode cX12_recall 89 = .ok (.goto 21, 3) := by decide +kernel
theorem dX12_recall_92 : decode cX12_recall 92 = .ok (.aload_n 0, 1) := by decide +kernel
theorem dX12_recall_93 : decode cX12_recall 93 = .ok (.getfield 7, 3) := by decide +kernel
theorem dX12_recall_96 : decode cX12_recall 96 = .ok (.bipush 9, 2) := by decide +kernel
theorem dX12_recall_98 : decode cX12_recall 98 = .ok (.dup2, 1) := by decide +kernel
theorem dX12_recall_99 : decode cX12_recall 99 = .ok (.iaload, 1) := by decide +kernel
theorem dX12_recall_100 : decode cX12_recall 100 = .ok (.aload_n 0, 1) := by decide +kernel
theorem dX12_recall_101 : decode cX12_recall 101 = .ok (.iload_n 3, 1) := by decide +kernel
theorem dX12_recall_102 : decode cX12_recall 102 = .ok (.invokevirtual 116, 3) := by decide +kernel
theorem dX12_recall_105 : decode cX12_recall 105 = .ok (.iadd, 1) := by decide +kernel
theorem dX12_recall_106 : decode cX12_recall 106 = .ok (.iastore, 1) := by decide +kernel
theorem dX12_recall_107 : decode cX12_recall 107 = .ok (.iinc 2 1, 3) := by decide +kernel
theorem dX12_recall_110 : decode cX12_recall 110 = .ok (.iinc 3 (-1), 3) := by decide +kernel
theorem dX12_recall_113 : decode cX12_recall 113 = .ok (.goto (-40), 3) := by decide +kernel
theorem dX12_recall_116 : decode cX12_recall 116 = .ok (.iload_n 2, 1) := by decide +kernel
theorem dX12_recall_117 : decode cX12_recall 117 = .ok (.ireturn, 1) := by decide +kernel
theorem dX12_lotCount_0 : decode cX12_lotCount 0 = .ok (.aload_n 0, 1) := by decide +kernel
theorem dX12_lotCount_1 : decode cX12_lotCount 1 = .ok (.iconst 0, 1) := by decide +kernel
theorem dX12_lotCount_2 : decode cX12_lotCount 2 = .ok (.putfield 45, 3) := by decide +kernel
theorem dX12_lotCount_5 : decode cX12_lotCount 5 = .ok (.aload_n 0, 1) := by decide +kernel
theorem dX12_lotCount_6 : decode cX12_lotCount 6 = .ok (.getfield 7, 3) := by decide +kernel
theorem dX12_lotCount_9 : decode cX12_lotCount 9 = .ok (.iconst 3, 1) := by decide +kernel
theorem dX12_lotCount_10 : decode cX12_lotCount 10 = .ok (.iaload, 1) := by decide +kernel
theorem dX12_lotCount_11 : decode cX12_lotCount 11 = .ok (.ireturn, 1) := by decide +kernel
theorem dX12_lotAt_0 : decode cX12_lotAt 0 = .ok (.aload_n 0, 1) := by decide +kernel
theorem dX12_lotAt_1 : decode cX12_lotAt 1 = .ok (.iload_n 1, 1) := by decide +kernel
theorem dX12_lotAt_2 : decode cX12_lotAt 2 = .ok (.iconst 0, 1) := by decide +kernel
theorem dX12_lotAt_3 : decode cX12_lotAt 3 = .ok (.aload_n 0, 1) := by decide +kernel
theorem dX12_lotAt_4 : decode cX12_lotAt 4 = .ok (.getfield 7, 3) := by decide +kernel
theorem dX12_lotAt_7 : decode cX12_lotAt 7 = .ok (.iconst 3, 1) := by decide +kernel
theorem dX12_lotAt_8 : decode cX12_lotAt 8 = .ok (.iaload, 1) := by decide +kernel
theorem dX12_lotAt_9 : decode cX12_lotAt 9 = .ok (.iconst 1, 1) := by decide +kernel
theorem dX12_lotAt_10 : decode cX12_lotAt 10 = .ok (.isub, 1) := by decide +kernel
theorem dX12_lotAt_11 : decode cX12_lotAt 11 = .ok (.invokestatic 59, 3) := by decide +kernel
theorem dX12_lotAt_14 : decode cX12_lotAt 14 = .ok (.ifCond .eq 7, 3) := by decide +kernel
theorem dX12_lotAt_17 : decode cX12_lotAt 17 = .ok (.iconst 0, 1) := by decide +kernel
theorem dX12_lotAt_18 : decode cX12_lotAt 18 = .ok (.goto 4, 3) := by decide +kernel
theorem dX12_lotAt_21 : decode cX12_lotAt 21 = .ok (.iconst 1, 1) := by decide +kernel
theorem dX12_lotAt_22 : decode cX12_lotAt 22 = .ok (.invokevirtual 63, 3) := by decide +kernel
theorem dX12_lotAt_25 : decode cX12_lotAt 25 = .ok (.ifCond .eq 7, 3) := by decide +kernel
theorem dX12_lotAt_28 : decode cX12_lotAt 28 = .ok (.iconst 0, 1) := by decide +kernel
theorem dX12_lotAt_29 : decode cX12_lotAt 29 = .ok (.goto 9, 3) := by decide +kernel
theorem dX12_lotAt_32 : decode cX12_lotAt 32 = .ok (.aload_n 0, 1) := by decide +kernel
theorem dX12_lotAt_33 : decode cX12_lotAt 33 = .ok (.iload_n 1, 1) := by decide +kernel
theorem dX12_lotAt_34 : decode cX12_lotAt 34 = .ok (.iconst 0, 1) := by decide +kernel
theorem dX12_lotAt_35 : decode cX12_lotAt 35 = .ok (.invokevirtual 107, 3) := by decide +kernel
theorem dX12_lotAt_38 : decode cX12_lotAt 38 = .ok (.ireturn, 1) := by decide +kernel
theorem dX12_isLost_0 : decode cX12_isLost 0 = .ok (.aload_n 0, 1) := by decide +kernel
theorem dX12_isLost_1 : decode cX12_isLost 1 = .ok (.aload_n 0, 1) := by decide +kernel
theorem dX12_isLost_2 : decode cX12_isLost 2 = .ok (.iload_n 1, 1) := by decide +kernel
theorem dX12_isLost_3 : decode cX12_isLost 3 = .ok (.invokevirtual 113, 3) := by decide +kernel
theorem dX12_isLost_6 : decode cX12_isLost 6 = .ok (.ifCond .ge 7, 3) := by decide +kernel
theorem dX12_isLost_9 : decode cX12_isLost 9 = .ok (.iconst 1, 1) := by decide +kernel
theorem dX12_isLost_10 : decode cX12_isLost 10 = .ok (.goto 4, 3) := by decide +kernel
theorem dX12_isLost_13 : decode cX12_isLost 13 = .ok (.iconst 0, 1) := by decide +kernel
theorem dX12_isLost_14 : decode cX12_isLost 14 = .ok (.invokevirtual 63, 3) := by decide +kernel
theorem dX12_isLost_17 : decode cX12_isLost 17 = .ok (.ireturn, 1) := by decide +kernel
theorem dX12_jarsOf_0 : decode cX12_jarsOf 0 = .ok (.aload_n 0, 1) := by decide +kernel
theorem dX12_jarsOf_1 : decode cX12_jarsOf 1 = .ok (.iload_n 1, 1) := by decide +kernel
theorem dX12_jarsOf_2 : decode cX12_jarsOf 2 = .ok (.invokevirtual 129, 3) := by decide +kernel
theorem dX12_jarsOf_5 : decode cX12_jarsOf 5 = .ok (.ifCond .eq 7, 3) := by decide +kernel
theorem dX12_jarsOf_8 : decode cX12_jarsOf 8 = .ok (.iconst 0, 1) := by decide +kernel
theorem dX12_jarsOf_9 : decode cX12_jarsOf 9 = .ok (.goto 13, 3) := by decide +kernel
theorem dX12_jarsOf_12 : decode cX12_jarsOf 12 = .ok (.aload_n 0, 1) := by decide +kernel
theorem dX12_jarsOf_13 : decode cX12_jarsOf 13 = .ok (.aload_n 0, 1) := by decide +kernel
theorem dX12_jarsOf_14 : decode cX12_jarsOf 14 = .ok (.iload_n 1, 1) := by decide +kernel
theorem dX12_jarsOf_15 : decode cX12_jarsOf 15 = .ok (.invokevirtual 113, 3) := by decide +kernel
theorem dX12_jarsOf_18 : decode cX12_jarsOf 18 = .ok (.iconst 1, 1) := by decide +kernel
theorem dX12_jarsOf_19 : decode cX12_jarsOf 19 = .ok (.invokevirtual 107, 3) := by decide +kernel
theorem dX12_jarsOf_22 : decode cX12_jarsOf 22 = .ok (.ireturn, 1) := by decide +kernel
theorem dX12_labelOf_0 : decode cX12_labelOf 0 = .ok (.aload_n 0, 1) := by decide +kernel
theorem dX12_labelOf_1 : decode cX12_labelOf 1 = .ok (.iload_n 1, 1) := by decide +kernel
theorem dX12_labelOf_2 : decode cX12_labelOf 2 = .ok (.invokevirtual 129, 3) := by decide +kernel
theorem dX12_labelOf_5 : decode cX12_labelOf 5 = .ok (.ifCond .eq 7, 3) := by decide +kernel
theorem dX12_labelOf_8 : decode cX12_labelOf 8 = .ok (.iconst 0, 1) := by decide +kernel
theorem dX12_labelOf_9 : decode cX12_labelOf 9 = .ok (.goto 13, 3) := by decide +kernel
theorem dX12_labelOf_12 : decode cX12_labelOf 12 = .ok (.aload_n 0, 1) := by decide +kernel
theorem dX12_labelOf_13 : decode cX12_labelOf 13 = .ok (.aload_n 0, 1) := by decide +kernel
theorem dX12_labelOf_14 : decode cX12_labelOf 14 = .ok (.iload_n 1, 1) := by decide +kernel
theorem dX12_labelOf_15 : decode cX12_labelOf 15 = .ok (.invokevirtual 113, 3) := by decide +kernel
theorem dX12_labelOf_18 : decode cX12_labelOf 18 = .ok (.iconst 2, 1) := by decide +kernel
theorem dX12_labelOf_19 : decode cX12_labelOf 19 = .ok (.invokevirtual 107, 3) := by decide +kernel
theorem dX12_labelOf_22 : decode cX12_labelOf 22 = .ok (.ireturn, 1) := by decide +kernel
theorem dX12_strengthOfLot_0 : decode cX12_strengthOfLot 0 = .ok (.aload_n 0, 1) := by decide +kernel
theorem dX12_strengthOfLot_1 : decode cX12_strengthOfLot 1 = .ok (.iload_n 1, 1) := by decide +kernel
theorem dX12_strengthOfLot_2 : decode cX12_strengthOfLot 2 = .ok (.invokevirtual 129, 3) := by decide +kernel
theorem dX12_strengthOfLot_5 : decode cX12_strengthOfLot 5 = .ok (.ifCond .eq 7, 3) := by decide +kernel
theorem dX12_strengthOfLot_8 : decode cX12_strengthOfLot 8 = .ok (.iconst 0, 1) := by decide +kernel
theorem dX12_strengthOfLot_9 : decode cX12_strengthOfLot 9 = .ok (.goto 12, 3) := by decide +kernel
theorem dX12_strengthOfLot_12 : decode cX12_strengthOfLot 12 = .ok (.aload_n 0, 1) := by decide +kernel
theorem dX12_strengthOfLot_13 : decode cX12_strengthOfLot 13 = .ok (.aload_n 0, 1) := by decide +kernel
theorem dX12_strengthOfLot_14 : decode cX12_strengthOfLot 14 = .ok (.iload_n 1, 1) := by decide +kernel
theorem dX12_strengthOfLot_15 : decode cX12_strengthOfLot 15 = .ok (.invokevirtual 113, 3) := by decide +kernel
theorem dX12_strengthOfLot_18 : decode cX12_strengthOfLot 18 = .ok (.invokevirtual 110, 3) := by decide +kernel
theorem dX12_strengthOfLot_21 : decode cX12_strengthOfLot 21 = .ok (.ireturn, 1) := by decide +kernel
theorem dX12_pressureOf_0 : decode cX12_pressureOf 0 = .ok (.aload_n 0, 1) := by decide +kernel
theorem dX12_pressureOf_1 : decode cX12_pressureOf 1 = .ok (.iload_n 1, 1) := by decide +kernel
theorem dX12_pressureOf_2 : decode cX12_pressureOf 2 = .ok (.invokevirtual 129, 3) := by decide +kernel
theorem dX12_pressureOf_5 : decode cX12_pressureOf 5 = .ok (.ifCond .eq 7, 3) := by decide +kernel
theorem dX12_pressureOf_8 : decode cX12_pressureOf 8 = .ok (.iconst 0, 1) := by decide +kernel
theorem dX12_pressureOf_9 : decode cX12_pressureOf 9 = .ok (.goto 13, 3) := by decide +kernel
theorem dX12_pressureOf_12 : decode cX12_pressureOf 12 = .ok (.aload_n 0, 1) := by decide +kernel
theorem dX12_pressureOf_13 : decode cX12_pressureOf 13 = .ok (.aload_n 0, 1) := by decide +kernel
theorem dX12_pressureOf_14 : decode cX12_pressureOf 14 = .ok (.iload_n 1, 1) := by decide +kernel
theorem dX12_pressureOf_15 : decode cX12_pressureOf 15 = .ok (.invokevirtual 113, 3) := by decide +kernel
theorem dX12_pressureOf_18 : decode cX12_pressureOf 18 = .ok (.iconst 5, 1) := by decide +kernel
theorem dX12_pressureOf_19 : decode cX12_pressureOf 19 = .ok (.invokevirtual 107, 3) := by decide +kernel
theorem dX12_pressureOf_22 : decode cX12_pressureOf 22 = .ok (.ireturn, 1) := by decide +kernel
theorem dX12_lotContains_0 : decode cX12_lotContains 0 = .ok (.aload_n 0, 1) := by decide +kernel
theorem dX12_lotContains_1 : decode cX12_lotContains 1 = .ok (.aload_n 0, 1) := by decide +kernel
theorem dX12_lotContains_2 : decode cX12_lotContains 2 = .ok (.iload_n 1, 1) := by decide +kernel
theorem dX12_lotContains_3 : decode cX12_lotContains 3 = .ok (.invokevirtual 113, 3) := by decide +kernel
theorem dX12_lotContains_6 : decode cX12_lotContains 6 = .ok (.ifCond .ge 7, 3) := by decide +kernel
theorem dX12_lotContains_9 : decode cX12_lotContains 9 = .ok (.iconst 1, 1) := by decide +kernel
theorem dX12_lotContains_10 : decode cX12_lotContains 10 = .ok (.goto 16, 3) := by decide +kernel
theorem dX12_lotContains_13 : decode cX12_lotContains 13 = .ok (.aload_n 0, 1) := by decide +kernel
theorem dX12_lotContains_14 : decode cX12_lotContains 14 = .ok (.iload_n 2, 1) := by decide +kernel
theorem dX12_lotContains_15 : decode cX12_lotContains 15 = .ok (.invokevirtual 71, 3) := by decide +kernel
theorem dX12_lotContains_18 : decode cX12_lotContains 18 = .ok (.ifCond .eq 7, 3) := by decide +kernel
theorem dX12_lotContains_21 : decode cX12_lotContains 21 = .ok (.iconst 0, 1) := by decide +kernel
theorem dX12_lotContains_22 : decode cX12_lotContains 22 = .ok (.goto 4, 3) := by decide +kernel
theorem dX12_lotContains_25 : decode cX12_lotContains 25 = .ok (.iconst 2, 1) := by decide +kernel
theorem dX12_lotContains_26 : decode cX12_lotContains 26 = .ok (.invokevirtual 63, 3) := by decide +kernel
theorem dX12_lotContains_29 : decode cX12_lotContains 29 = .ok (.ifCond .ne 24, 3) := by decide +kernel
theorem dX12_lotContains_32 : decode cX12_lotContains 32 = .ok (.aload_n 0, 1) := by decide +kernel
theorem dX12_lotContains_33 : decode cX12_lotContains 33 = .ok (.aload_n 0, 1) := by decide +kernel
theorem dX12_lotContains_34 : decode cX12_lotContains 34 = .ok (.iload_n 1, 1) := by decide +kernel
theorem dX12_lotContains_35 : decode cX12_lotContains 35 = .ok (.invokevirtual 113, 3) := by decide +kernel
theorem dX12_lotContains_38 : decode cX12_lotContains 38 = .ok (.invokevirtual 126, 3) := by decide +kernel
theorem dX12_lotContains_41 : decode cX12_lotContains 41 = .ok (.iload_n 2, 1) := by decide +kernel
theorem dX12_lotContains_42 : decode cX12_lotContains 42 = .ok (.ishr, 1) := by decide +kernel
theorem dX12_lotContains_43 : decode cX12_lotContains 43 = .ok (.iconst 1, 1) := by decide +kernel
theorem dX12_lotContains_44 : decode cX12_lotContains 44 = .ok (.iand, 1) := by decide +kernel
theorem dX12_lotContains_45 : decode cX12_lotContains 45 = .ok (.iconst 1, 1) := by decide +kernel
theorem dX12_lotContains_46 : decode cX12_lotContains 46 = .ok (.if_icmp .ne 7, 3) := by decide +kernel
theorem dX12_lotContains_49 : decode cX12_lotContains 49 = .ok (.iconst 1, 1) := by decide +kernel
theorem dX12_lotContains_50 : decode cX12_lotContains 50 = .ok (.goto 4, 3) := by decide +kernel
theorem dX12_lotContains_53 : decode cX12_lotContains 53 = .ok (.iconst 0, 1) := by decide +kernel
theorem dX12_lotContains_54 : decode cX12_lotContains 54 = .ok (.ireturn, 1) := by decide +kernel
theorem dX12_toPop_0 : decode cX12_toPop 0 = .ok (.aload_n 0, 1) := by decide +kernel
theorem dX12_toPop_1 : decode cX12_toPop 1 = .ok (.iload_n 1, 1) := by decide +kernel
theorem dX12_toPop_2 : decode cX12_toPop 2 = .ok (.invokevirtual 129, 3) := by decide +kernel
theorem dX12_toPop_5 : decode cX12_toPop 5 = .ok (.ifCond .eq 5, 3) := by decide +kernel
theorem dX12_toPop_8 : decode cX12_toPop 8 = .ok (.iconst 0, 1) := by decide +kernel
theorem dX12_toPop_9 : decode cX12_toPop 9 = .ok (.ireturn, 1) := by decide +kernel
theorem dX12_toPop_10 : decode cX12_toPop 10 = .ok (.aload_n 0, 1) := by decide +kernel
theorem dX12_toPop_11 : decode cX12_toPop 11 = .ok (.iload_n 1, 1) := by decide +kernel
theorem dX12_toPop_12 : decode cX12_toPop 12 = .ok (.invokevirtual 113, 3) := by decide +kernel
theorem dX12_toPop_15 : decode cX12_toPop 15 = .ok (.istore_n 2, 1) := by decide +kernel
theorem dX12_toPop_16 : decode cX12_toPop 16 = .ok (.iconst 0, 1) := by decide +kernel
theorem dX12_toPop_17 : decode cX12_toPop 17 = .ok (.istore_n 3, 1) := by decide +kernel
theorem dX12_toPop_18 : decode cX12_toPop 18 = .ok (.aload_n 0, 1) := by decide +kernel
theorem dX12_toPop_19 : decode cX12_toPop 19 = .ok (.iload_n 2, 1) := by decide +kernel
theorem dX12_toPop_20 : decode cX12_toPop 20 = .ok (.iconst 5, 1) := by decide +kernel
theorem dX12_toPop_21 : decode cX12_toPop 21 = .ok (.invokevirtual 107, 3) := by decide +kernel
theorem dX12_toPop_24 : decode cX12_toPop 24 = .ok (.istore 4, 2) := by decide +kernel
theorem dX12_toPop_26 : decode cX12_toPop 26 = .ok (.iload 4, 2) := by decide +kernel
theorem dX12_toPop_28 : decode cX12_toPop 28 = .ok (.bipush 60, 2) := by decide +kernel
theorem dX12_toPop_30 : decode cX12_toPop 30 = .ok (.if_icmp .ge 19, 3) := by decide +kernel
theorem dX12_toPop_33 : decode cX12_toPop 33 = .ok (.iinc 3 1, 3) := by decide +kernel
theorem dX12_toPop_36 : decode cX12_toPop 36 = .ok (.iload 4, 2) := by decide +kernel
theorem dX12_toPop_38 : decode cX12_toPop 38 = .ok (.aload_n 0, 1) := by decide +kernel
theorem dX12_toPop_39 : decode cX12_toPop 39 = .ok (.iload_n 2, 1) := by decide +kernel
theorem dX12_toPop_40 : decode cX12_toPop 40 = .ok (.invokevirtual 119, 3) := by decide +kernel
theorem dX12_toPop_43 : decode cX12_toPop 43 = .ok (.iadd, 1) := by decide +kernel
theorem dX12_toPop_44 : decode cX12_toPop 44 = .ok (.istore 4, 2) := by decide +kernel
theorem dX12_toPop_46 : decode cX12_toPop 46 = .ok (.goto (-20), 3) := by decide +kernel
theorem dX12_toPop_49 : decode cX12_toPop 49 = .ok (.iload_n 3, 1) := by decide +kernel
theorem dX12_toPop_50 : decode cX12_toPop 50 = .ok (.ireturn, 1) := by decide +kernel
theorem dX12_daysUntilPop_0 : decode cX12_daysUntilPop 0 = .ok (.aload_n 0, 1) := by decide +kernel
theorem dX12_daysUntilPop_1 : decode cX12_daysUntilPop 1 = .ok (.iload_n 1, 1) := by decide +kernel
theorem dX12_daysUntilPop_2 : decode cX12_daysUntilPop 2 = .ok (.invokevirtual 132, 3) := by decide +kernel
theorem dX12_daysUntilPop_5 : decode cX12_daysUntilPop 5 = .ok (.ireturn, 1) := by decide +kernel
theorem dX12_daysByDivision_0 : decode cX12_daysByDivision 0 = .ok (.aload_n 0, 1) := by decide +kernel
theorem dX12_daysByDivision_1 : decode cX12_daysByDivision 1 = .ok (.iload_n 1, 1) := by decide +kernel
theorem dX12_daysByDivision_2 : decode cX12_daysByDivision 2 = .ok (.invokevirtual 132, 3) := by decide +kernel
theorem dX12_daysByDivision_5 : decode cX12_daysByDivision 5 = .ok (.ireturn, 1) := by decide +kernel
theorem dX12_lotByPressure_0 : decode cX12_lotByPressure 0 = .ok (.iconst 0, 1) := by decide +kernel
theorem dX12_lotByPressure_1 : decode cX12_lotByPressure 1 = .ok (.istore_n 2, 1) := by decide +kernel
theorem dX12_lotByPressure_2 : decode cX12_lotByPressure 2 = .ok (.iload_n 2, 1) := by decide +kernel
theorem dX12_lotByPressure_3 : decode cX12_lotByPressure 3 = .ok (.aload_n 0, 1) := by decide +kernel
theorem dX12_lotByPressure_4 : decode cX12_lotByPressure 4 = .ok (.getfield 7, 3) := by decide +kernel
theorem dX12_lotByPressure_7 : decode cX12_lotByPressure 7 = .ok (.iconst 3, 1) := by decide +kernel
theorem dX12_lotByPressure_8 : decode cX12_lotByPressure 8 = .ok (.iaload, 1) := by decide +kernel
theorem dX12_lotByPressure_9 : decode cX12_lotByPressure 9 = .ok (.if_icmp .ge 97, 3) := by decide +kernel
theorem dX12_lotByPressure_12 : decode cX12_lotByPressure 12 = .ok (.iconst 0, 1) := by decide +kernel
theorem dX12_lotByPressure_13 : decode cX12_lotByPressure 13 = .ok (.istore_n 3, 1) := by decide +kernel
theorem dX12_lotByPressure_14 : decode cX12_lotByPressure 14 = .ok (.iconst 0, 1) := by decide +kernel
theorem dX12_lotByPressure_15 : decode cX12_lotByPressure 15 = .ok (.istore 4, 2) := by decide +kernel
theorem dX12_lotByPressure_17 : decode cX12_lotByPressure 17 = .ok (.iload 4, 2) := by decide +kernel
theorem dX12_lotByPressure_19 : decode cX12_lotByPressure 19 = .ok (.aload_n 0, 1) := by decide +kernel
theorem dX12_lotByPressure_20 : decode cX12_lotByPressure 20 = .ok (.getfield 7, 3) := by decide +kernel
theorem dX12_lotByPressure_23 : decode cX12_lotByPressure 23 = .ok (.iconst 3, 1) := by decide +kernel
theorem dX12_lotByPressure_24 : decode cX12_lotByPressure 24 = .ok (.iaload, 1) := by decide +kernel
theorem dX12_lotByPressure_25 : decode cX12_lotByPressure 25 = .ok (.if_icmp .ge 55, 3) := by decide +kernel
theorem dX12_lotByPressure_28 : decode cX12_lotByPressure 28 = .ok (.iload_n 3, 1) := by decide +kernel
theorem dX12_lotByPressure_29 : decode cX12_lotByPressure 29 = .ok (.aload_n 0, 1) := by decide +kernel
theorem dX12_lotByPressure_30 : decode cX12_lotByPressure 30 = .ok (.iload 4, 2) := by decide +kernel
theorem dX12_lotByPressure_32 : decode cX12_lotByPressure 32 = .ok (.iconst 5, 1) := by decide +kernel
theorem dX12_lotByPressure_33 : decode cX12_lotByPressure 33 = .ok (.invokevirtual 107, 3) := by decide +kernel
theorem dX12_lotByPressure_36 : decode cX12_lotByPressure 36 = .ok (.aload_n 0, 1) := by decide +kernel
theorem dX12_lotByPressure_37 : decode cX12_lotByPressure 37 = .ok (.iload_n 2, 1) := by decide +kernel
theorem dX12_lotByPressure_38 : decode cX12_lotByPressure 38 = .ok (.iconst 5, 1) := by decide +kernel
theorem dX12_lotByPressure_39 : decode cX12_lotByPressure 39 = .ok (.invokevirtual 107, 3) := by decide +kernel
theorem dX12_lotByPressure_42 : decode cX12_lotByPressure 42 = .ok (.if_icmp .gt 25, 3) := by decide +kernel
theorem dX12_lotByPressure_45 : decode cX12_lotByPressure 45 = .ok (.aload_n 0, 1) := by decide +kernel
theorem dX12_lotByPressure_46 : decode cX12_lotByPressure 46 = .ok (.iload 4, 2) := by decide +kernel
theorem dX12_lotByPressure_48 : decode cX12_lotByPressure 48 = .ok (.iconst 5, 1) := by decide +kernel
theorem dX12_lotByPressure_49 : decode cX12_lotByPressure 49 = .ok (.invokevirtual 107, 3) := by decide +kernel
theorem dX12_lotByPressure_52 : decode cX12_lotByPressure 52 = .ok (.aload_n 0, 1) := by decide +kernel
theorem dX12_lotByPressure_53 : decode cX12_lotByPressure 53 = .ok (.iload_n 2, 1) := by decide +kernel
theorem dX12_lotByPressure_54 : decode cX12_lotByPressure 54 = .ok (.iconst 5, 1) := by decide +kernel
theorem dX12_lotByPressure_55 : decode cX12_lotByPressure 55 = .ok (.invokevirtual 107, 3) := by decide +kernel
theorem dX12_lotByPressure_58 : decode cX12_lotByPressure 58 = .ok (.if_icmp .ne 13, 3) := by decide +kernel
theorem dX12_lotByPressure_61 : decode cX12_lotByPressure 61 = .ok (.iload 4, 2) := by decide +kernel
theorem dX12_lotByPressure_63 : decode cX12_lotByPressure 63 = .ok (.iload_n 2, 1) := by decide +kernel
theorem dX12_lotByPressure_64 : decode cX12_lotByPressure 64 = .ok (.if_icmp .ge 7, 3) := by decide +kernel
theorem dX12_lotByPressure_67 : decode cX12_lotByPressure 67 = .ok (.iconst 1, 1) := by decide +kernel
theorem dX12_lotByPressure_68 : decode cX12_lotByPressure 68 = .ok (.goto 4, 3) := by decide +kernel
theorem dX12_lotByPressure_71 : decode cX12_lotByPressure 71 = .ok (.iconst 0, 1) := by decide +kernel
theorem dX12_lotByPressure_72 : decode cX12_lotByPressure 72 = .ok (.iadd, 1) := by decide +kernel
theorem dX12_lotByPressure_73 : decode cX12_lotByPressure 73 = .ok (.istore_n 3, 1) := by decide +kernel
theorem dX12_lotByPressure_74 : decode cX12_lotByPressure 74 = .ok (.iinc 4 1, 3) := by decide +kernel
theorem dX12_lotByPressure_77 : decode cX12_lotByPressure 77 = .ok (.goto (-60), 3) := by decide +kernel
theorem dX12_lotByPressure_80 : decode cX12_lotByPressure 80 = .ok (.iload_n 3, 1) := by decide +kernel
theorem dX12_lotByPressure_81 : decode cX12_lotByPressure 81 = .ok (.iload_n 1, 1) := by decide +kernel
theorem dX12_lotByPressure_82 : decode cX12_lotByPressure 82 = .ok (.if_icmp .eq 6, 3) := by decide +kernel
theorem dX12_lotByPressure_85 : decode cX12_lotByPressure 85 = .ok (.goto 15, 3) := by decide +kernel
theorem dX12_lotByPressure_88 : decode cX12_lotByPressure 88 = .ok (.aload_n 0, 1) := by decide +kernel
theorem dX12_lotByPressure_89 : decode cX12_lotByPressure 89 = .ok (.iconst 0, 1) := by decide +kernel
theorem dX12_lotByPressure_90 : decode cX12_lotByPressure 90 = .ok (.putfield 45, 3) := by decide +kernel
theorem dX12_lotByPressure_93 : decode cX12_lotByPressure 93 = .ok (.aload_n 0, 1) := by decide +kernel
theorem dX12_lotByPressure_94 : decode cX12_lotByPressure 94 = .ok (.iload_n 2, 1) := by decide +kernel
theorem dX12_lotByPressure_95 : decode cX12_lotByPressure 95 = .ok (.iconst 0, 1) := by decide +kernel
theorem dX12_lotByPressure_96 : decode cX12_lotByPressure 96 = .ok (.invokevirtual 107, 3) := by decide +kernel
theorem dX12_lotByPressure_99 : decode cX12_lotByPressure 99 = .ok (.ireturn, 1) := by decide +kernel
theorem dX12_lotByPressure_100 : decode cX12_lotByPressure 100 = .ok (.iinc 2 1, 3) := by decide +kernel
theorem dX12_lotByPressure_103 : decode cX12_lotByPressure 103 = .ok (.goto (-101), 3) := by decide +kernel
theorem dX12_lotByPressure_106 : decode cX12_lotByPressure 106 = .ok (.aload_n 0, 1) := by decide +kernel
theorem dX12_lotByPressure_107 : decode cX12_lotByPressure 107 = .ok (.iconst 1, 1) := by decide +kernel
theorem dX12_lotByPressure_108 : decode cX12_lotByPressure 108 = .ok (.putfield 45, 3) := by decide +kernel
theorem dX12_lotByPressure_111 : decode cX12_lotByPressure 111 = .ok (.iconst 0, 1) := by decide +kernel
theorem dX12_lotByPressure_112 : decode cX12_lotByPressure 112 = .ok (.ireturn, 1) := by decide +kernel
theorem dX12_affected_0 : decode cX12_affected 0 = .ok (.aload_n 0, 1) := by decide +kernel
theorem dX12_affected_1 : decode cX12_affected 1 = .ok (.aload_n 0, 1) := by decide +kernel
theorem dX12_affected_2 : decode cX12_affected 2 = .ok (.iload_n 1, 1) := by decide +kernel
theorem dX12_affected_3 : decode cX12_affected 3 = .ok (.invokevirtual 71, 3) := by decide +kernel
theorem dX12_affected_6 : decode cX12_affected 6 = .ok (.ifCond .eq 7, 3) := by decide +kernel
theorem dX12_affected_9 : decode cX12_affected 9 = .ok (.iconst 0, 1) := by decide +kernel
theorem dX12_affected_10 : decode cX12_affected 10 = .ok (.goto 4, 3) := by decide +kernel
theorem dX12_affected_13 : decode cX12_affected 13 = .ok (.iconst 1, 1) := by decide +kernel
theorem dX12_affected_14 : decode cX12_affected 14 = .ok (.invokevirtual 63, 3) := by decide +kernel
theorem dX12_affected_17 : decode cX12_affected 17 = .ok (.ifCond .eq 5, 3) := by decide +kernel
theorem dX12_affected_20 : decode cX12_affected 20 = .ok (.iconst 0, 1) := by decide +kernel
theorem dX12_affected_21 : decode cX12_affected 21 = .ok (.ireturn, 1) := by decide +kernel
theorem dX12_affected_22 : decode cX12_affected 22 = .ok (.iconst 0, 1) := by decide +kernel
theorem dX12_affected_23 : decode cX12_affected 23 = .ok (.istore_n 2, 1) := by decide +kernel
theorem dX12_affected_24 : decode cX12_affected 24 = .ok (.iconst 0, 1) := by decide +kernel
theorem dX12_affected_25 : decode cX12_affected 25 = .ok (.istore_n 3, 1) := by decide +kernel
theorem dX12_affected_26 : decode cX12_affected 26 = .ok (.iload_n 3, 1) := by decide +kernel
theorem dX12_affected_27 : decode cX12_affected 27 = .ok (.aload_n 0, 1) := by decide +kernel
theorem dX12_affected_28 : decode cX12_affected 28 = .ok (.getfield 7, 3) := by decide +kernel
theorem dX12_affected_31 : decode cX12_affected 31 = .ok (.iconst 3, 1) := by decide +kernel
theorem dX12_affected_32 : decode cX12_affected 32 = .ok (.iaload, 1) := by decide +kernel
theorem dX12_affected_33 : decode cX12_affected 33 = .ok (.if_icmp .ge 21, 3) := by decide +kernel
theorem dX12_affected_36 : decode cX12_affected 36 = .ok (.iload_n 2, 1) := by decide +kernel
theorem dX12_affected_37 : decode cX12_affected 37 = .ok (.aload_n 0, 1) := by decide +kernel
theorem dX12_affected_38 : decode cX12_affected 38 = .ok (.iload_n 3, 1) := by decide +kernel
theorem dX12_affected_39 : decode cX12_affected 39 = .ok (.invokevirtual 126, 3) := by decide +kernel
theorem dX12_affected_42 : decode cX12_affected 42 = .ok (.iload_n 1, 1) := by decide +kernel
theorem dX12_affected_43 : decode cX12_affected 43 = .ok (.ishr, 1) := by decide +kernel
theorem dX12_affected_44 : decode cX12_affected 44 = .ok (.iconst 1, 1) := by decide +kernel
theorem dX12_affected_45 : decode cX12_affected 45 = .ok (.iand, 1) := by decide +kernel
theorem dX12_affected_46 : decode cX12_affected 46 = .ok (.iadd, 1) := by decide +kernel
theorem dX12_affected_47 : decode cX12_affected 47 = .ok (.istore_n 2, 1) := by decide +kernel
theorem dX12_affected_48 : decode cX12_affected 48 = .ok (.iinc 3 1, 3) := by decide +kernel
theorem dX12_affected_51 : decode cX12_affected 51 = .ok (.goto (-25), 3) := by decide +kernel
theorem dX12_affected_54 : decode cX12_affected 54 = .ok (.iload_n 2, 1) := by decide +kernel
theorem dX12_affected_55 : decode cX12_affected 55 = .ok (.ireturn, 1) := by decide +kernel
theorem dX12_affectedLots_0 : decode cX12_affectedLots 0 = .ok (.aload_n 0, 1) := by decide +kernel
theorem dX12_affectedLots_1 : decode cX12_affectedLots 1 = .ok (.iload_n 1, 1) := by decide +kernel
theorem dX12_affectedLots_2 : decode cX12_affectedLots 2 = .ok (.invokevirtual 135, 3) := by decide +kernel
theorem dX12_affectedLots_5 : decode cX12_affectedLots 5 = .ok (.ireturn, 1) := by decide +kernel
theorem dX12_affectedBySets_0 : decode cX12_affectedBySets 0 = .ok (.aload_n 0, 1) := by decide +kernel
theorem dX12_affectedBySets_1 : decode cX12_affectedBySets 1 = .ok (.iload_n 1, 1) := by decide +kernel
theorem dX12_affectedBySets_2 : decode cX12_affectedBySets 2 = .ok (.invokevirtual 135, 3) := by decide +kernel
theorem dX12_affectedBySets_5 : decode cX12_affectedBySets 5 = .ok (.ireturn, 1) := by decide +kernel
theorem dX12_crates_0 : decode cX12_crates 0 = .ok (.aload_n 0, 1) := by decide +kernel
theorem dX12_crates_1 : decode cX12_crates 1 = .ok (.iload_n 1, 1) := by decide +kernel
theorem dX12_crates_2 : decode cX12_crates 2 = .ok (.bipush 9, 2) := by decide +kernel
theorem dX12_crates_4 : decode cX12_crates 4 = .ok (.bipush 40, 2) := by decide +kernel
theorem dX12_crates_6 : decode cX12_crates 6 = .ok (.invokestatic 59, 3) := by decide +kernel
theorem dX12_crates_9 : decode cX12_crates 9 = .ok (.ifCond .eq 7, 3) := by decide +kernel
theorem dX12_crates_12 : decode cX12_crates 12 = .ok (.iconst 0, 1) := by decide +kernel
theorem dX12_crates_13 : decode cX12_crates 13 = .ok (.goto 4, 3) := by decide +kernel
theorem dX12_crates_16 : decode cX12_crates 16 = .ok (.iconst 1, 1) := by decide +kernel
theorem dX12_crates_17 : decode cX12_crates 17 = .ok (.invokevirtual 63, 3) := by decide +kernel
theorem dX12_crates_20 : decode cX12_crates 20 = .ok (.ifCond .eq 5, 3) := by decide +kernel
theorem dX12_crates_23 : decode cX12_crates 23 = .ok (.iconst 0, 1) := by decide +kernel
theorem dX12_crates_24 : decode cX12_crates 24 = .ok (.ireturn, 1) := by decide +kernel
theorem dX12_crates_25 : decode cX12_crates 25 = .ok (.aload_n 0, 1) := by decide +kernel
theorem dX12_crates_26 : decode cX12_crates 26 = .ok (.getfield 39, 3) := by decide +kernel
theorem dX12_crates_29 : decode cX12_crates 29 = .ok (.iconst 0, 1) := by decide +kernel
theorem dX12_crates_30 : decode cX12_crates 30 = .ok (.iconst 0, 1) := by decide +kernel
theorem dX12_crates_31 : decode cX12_crates 31 = .ok (.iastore, 1) := by decide +kernel
theorem dX12_crates_32 : decode cX12_crates 32 = .ok (.iconst 1, 1) := by decide +kernel
theorem dX12_crates_33 : decode cX12_crates 33 = .ok (.aload_n 0, 1) := by decide +kernel
theorem dX12_crates_34 : decode cX12_crates 34 = .ok (.getfield 7, 3) := by decide +kernel
theorem dX12_crates_37 : decode cX12_crates 37 = .ok (.iconst 3, 1) := by decide +kernel
theorem dX12_crates_38 : decode cX12_crates 38 = .ok (.iaload, 1) := by decide +kernel
theorem dX12_crates_39 : decode cX12_crates 39 = .ok (.ishl, 1) := by decide +kernel
theorem dX12_crates_40 : decode cX12_crates 40 = .ok (.iconst 1, 1) := by decide +kernel
theorem dX12_crates_41 : decode cX12_crates 41 = .ok (.isub, 1) := by decide +kernel
theorem dX12_crates_42 : decode cX12_crates 42 = .ok (.istore_n 2, 1) := by decide +kernel
theorem dX12_crates_43 : decode cX12_crates 43 = .ok (.iconst 1, 1) := by decide +kernel
theorem dX12_crates_44 : decode cX12_crates 44 = .ok (.istore_n 3, 1) := by decide +kernel
theorem dX12_crates_45 : decode cX12_crates 45 = .ok (.iload_n 3, 1) := by decide +kernel
theorem dX12_crates_46 : decode cX12_crates 46 = .ok (.iload_n 2, 1) := by decide +kernel
theorem dX12_crates_47 : decode cX12_crates 47 = .ok (.if_icmp .gt 142, 3) := by decide +kernel
theorem dX12_crates_50 : decode cX12_crates 50 = .ok (.aload_n 0, 1) := by decide +kernel
theorem dX12_crates_51 : decode cX12_crates 51 = .ok (.getfield 39, 3) := by decide +kernel
theorem dX12_crates_54 : decode cX12_crates 54 = .ok (.iload_n 3, 1) := by decide +kernel
theorem dX12_crates_55 : decode cX12_crates 55 = .ok (.ldc 138, 2) := by decide +kernel
theorem dX12_crates_57 : decode cX12_crates 57 = .ok (.iastore, 1) := by decide +kernel
theorem dX12_crates_58 : decode cX12_crates 58 = .ok (.iconst 0, 1) := by decide +kernel
theorem dX12_crates_59 : decode cX12_crates 59 = .ok (.istore 4, 2) := by decide +kernel
theorem dX12_crates_61 : decode cX12_crates 61 = .ok (.iload 4, 2) := by decide +kernel
theorem dX12_crates_63 : decode cX12_crates 63 = .ok (.aload_n 0, 1) := by decide +kernel
theorem dX12_crates_64 : decode cX12_crates 64 = .ok (.getfield 7, 3) := by decide +kernel
theorem dX12_crates_67 : decode cX12_crates 67 = .ok (.iconst 3, 1) := by decide +kernel
theorem dX12_crates_68 : decode cX12_crates 68 = .ok (.iaload, 1) := by decide +kernel
theorem dX12_crates_69 : decode cX12_crates 69 = .ok (.if_icmp .ge 114, 3) := by decide +kernel
theorem dX12_crates_72 : decode cX12_crates 72 = .ok (.iload_n 3, 1) := by decide +kernel
theorem dX12_crates_73 : decode cX12_crates 73 = .ok (.iload 4, 2) := by decide +kernel
theorem dX12_crates_75 : decode cX12_crates 75 = .ok (.ishr, 1) := by decide +kernel
theorem dX12_crates_76 : decode cX12_crates 76 = .ok (.iconst 1, 1) := by decide +kernel
theorem dX12_crates_77 : decode cX12_crates 77 = .ok (.iand, 1) := by decide +kernel
theorem dX12_crates_78 : decode cX12_crates 78 = .ok (.ifCond .ne 6, 3) := by decide +kernel
theorem dX12_crates_81 : decode cX12_crates 81 = .ok (.goto 96, 3) := by decide +kernel
theorem dX12_crates_84 : decode cX12_crates 84 = .ok (.aload_n 0, 1) := by decide +kernel
theorem dX12_crates_85 : decode cX12_crates 85 = .ok (.getfield 39, 3) := by decide +kernel
theorem dX12_crates_88 : decode cX12_crates 88 = .ok (.iload_n 3, 1) := by decide +kernel
theorem dX12_crates_89 : decode cX12_crates 89 = .ok (.iconst 1, 1) := by decide +kernel
theorem dX12_crates_90 : decode cX12_crates 90 = .ok (.iload 4, 2) := by decide +kernel
