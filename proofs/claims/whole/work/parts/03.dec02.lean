theorem dX11_fill_23 : decode cX11_fill 23 = .ok (.invokevirtual 83, 3) := by decide +kernel
theorem dX11_fill_26 : decode cX11_fill 26 = .ok (.aload_n 0, 1) := by decide +kernel
theorem dX11_fill_27 : decode cX11_fill 27 = .ok (.getfield 10, 3) := by decide +kernel
theorem dX11_fill_30 : decode cX11_fill 30 = .ok (.iload_n 1, 1) := by decide +kernel
theorem dX11_fill_31 : decode cX11_fill 31 = .ok (.iload_n 2, 1) := by decide +kernel
theorem dX11_fill_32 : decode cX11_fill 32 = .ok (.iload_n 3, 1) := by decide +kernel
theorem dX11_fill_33 : decode cX11_fill 33 = .ok (.iload 4, 2) := by decide +kernel
theorem dX11_fill_35 : decode cX11_fill 35 = .ok (.invokevirtual 195, 3) := by decide +kernel
theorem dX11_fill_38 : decode cX11_fill 38 = .ok (.ireturn, 1) := by decide +kernel
theorem dX11_ship_0 : decode cX11_ship 0 = .ok (.aload_n 0, 1) := by decide +kernel
theorem dX11_ship_1 : decode cX11_ship 1 = .ok (.getfield 10, 3) := by decide +kernel
theorem dX11_ship_4 : decode cX11_ship 4 = .ok (.iload_n 1, 1) := by decide +kernel
theorem dX11_ship_5 : decode cX11_ship 5 = .ok (.invokevirtual 198, 3) := by decide +kernel
theorem dX11_ship_8 : decode cX11_ship 8 = .ok (.invokestatic 80, 3) := by decide +kernel
theorem dX11_ship_11 : decode cX11_ship 11 = .ok (.aload_n 0, 1) := by decide +kernel
theorem dX11_ship_12 : decode cX11_ship 12 = .ok (.getfield 25, 3) := by decide +kernel
theorem dX11_ship_15 : decode cX11_ship 15 = .ok (.aload_n 0, 1) := by decide +kernel
theorem dX11_ship_16 : decode cX11_ship 16 = .ok (.getfield 10, 3) := by decide +kernel
theorem dX11_ship_19 : decode cX11_ship 19 = .ok (.invokevirtual 83, 3) := by decide +kernel
theorem dX11_ship_22 : decode cX11_ship 22 = .ok (.aload_n 0, 1) := by decide +kernel
theorem dX11_ship_23 : decode cX11_ship 23 = .ok (.getfield 10, 3) := by decide +kernel
theorem dX11_ship_26 : decode cX11_ship 26 = .ok (.iload_n 1, 1) := by decide +kernel
theorem dX11_ship_27 : decode cX11_ship 27 = .ok (.invokevirtual 201, 3) := by decide +kernel
theorem dX11_ship_30 : decode cX11_ship 30 = .ok (.ireturn, 1) := by decide +kernel
theorem dX11_pass_0 : decode cX11_pass 0 = .ok (.aload_n 0, 1) := by decide +kernel
theorem dX11_pass_1 : decode cX11_pass 1 = .ok (.getfield 10, 3) := by decide +kernel
theorem dX11_pass_4 : decode cX11_pass 4 = .ok (.iload_n 1, 1) := by decide +kernel
theorem dX11_pass_5 : decode cX11_pass 5 = .ok (.invokevirtual 204, 3) := by decide +kernel
theorem dX11_pass_8 : decode cX11_pass 8 = .ok (.invokestatic 80, 3) := by decide +kernel
theorem dX11_pass_11 : decode cX11_pass 11 = .ok (.aload_n 0, 1) := by decide +kernel
theorem dX11_pass_12 : decode cX11_pass 12 = .ok (.getfield 25, 3) := by decide +kernel
theorem dX11_pass_15 : decode cX11_pass 15 = .ok (.aload_n 0, 1) := by decide +kernel
theorem dX11_pass_16 : decode cX11_pass 16 = .ok (.getfield 10, 3) := by decide +kernel
theorem dX11_pass_19 : decode cX11_pass 19 = .ok (.invokevirtual 83, 3) := by decide +kernel
theorem dX11_pass_22 : decode cX11_pass 22 = .ok (.aload_n 0, 1) := by decide +kernel
theorem dX11_pass_23 : decode cX11_pass 23 = .ok (.getfield 10, 3) := by decide +kernel
theorem dX11_pass_26 : decode cX11_pass 26 = .ok (.iload_n 1, 1) := by decide +kernel
theorem dX11_pass_27 : decode cX11_pass 27 = .ok (.invokevirtual 207, 3) := by decide +kernel
theorem dX11_pass_30 : decode cX11_pass 30 = .ok (.ireturn, 1) := by decide +kernel
theorem dX11_recall_0 : decode cX11_recall 0 = .ok (.aload_n 0, 1) := by decide +kernel
theorem dX11_recall_1 : decode cX11_recall 1 = .ok (.getfield 10, 3) := by decide +kernel
theorem dX11_recall_4 : decode cX11_recall 4 = .ok (.iload_n 1, 1) := by decide +kernel
theorem dX11_recall_5 : decode cX11_recall 5 = .ok (.invokevirtual 210, 3) := by decide +kernel
theorem dX11_recall_8 : decode cX11_recall 8 = .ok (.invokestatic 80, 3) := by decide +kernel
theorem dX11_recall_11 : decode cX11_recall 11 = .ok (.aload_n 0, 1) := by decide +kernel
theorem dX11_recall_12 : decode cX11_recall 12 = .ok (.getfield 25, 3) := by decide +kernel
theorem dX11_recall_15 : decode cX11_recall 15 = .ok (.aload_n 0, 1) := by decide +kernel
theorem dX11_recall_16 : decode cX11_recall 16 = .ok (.getfield 10, 3) := by decide +kernel
theorem dX11_recall_19 : decode cX11_recall 19 = .ok (.invokevirtual 83, 3) := by decide +kernel
theorem dX11_recall_22 : decode cX11_recall 22 = .ok (.aload_n 0, 1) := by decide +kernel
theorem dX11_recall_23 : decode cX11_recall 23 = .ok (.getfield 10, 3) := by decide +kernel
theorem dX11_recall_26 : decode cX11_recall 26 = .ok (.iload_n 1, 1) := by decide +kernel
theorem dX11_recall_27 : decode cX11_recall 27 = .ok (.invokevirtual 213, 3) := by decide +kernel
theorem dX11_recall_30 : decode cX11_recall 30 = .ok (.ireturn, 1) := by decide +kernel
theorem dX11_lotCount_0 : decode cX11_lotCount 0 = .ok (.aload_n 0, 1) := by decide +kernel
theorem dX11_lotCount_1 : decode cX11_lotCount 1 = .ok (.getfield 10, 3) := by decide +kernel
theorem dX11_lotCount_4 : decode cX11_lotCount 4 = .ok (.getfield 216, 3) := by decide +kernel
theorem dX11_lotCount_7 : decode cX11_lotCount 7 = .ok (.getfield 220, 3) := by decide +kernel
theorem dX11_lotCount_10 : decode cX11_lotCount 10 = .ok (.ireturn, 1) := by decide +kernel
theorem dX11_lotAt_0 : decode cX11_lotAt 0 = .ok (.iload_n 1, 1) := by decide +kernel
theorem dX11_lotAt_1 : decode cX11_lotAt 1 = .ok (.ifCond .lt 17, 3) := by decide +kernel
theorem dX11_lotAt_4 : decode cX11_lotAt 4 = .ok (.iload_n 1, 1) := by decide +kernel
theorem dX11_lotAt_5 : decode cX11_lotAt 5 = .ok (.aload_n 0, 1) := by decide +kernel
theorem dX11_lotAt_6 : decode cX11_lotAt 6 = .ok (.getfield 10, 3) := by decide +kernel
theorem dX11_lotAt_9 : decode cX11_lotAt 9 = .ok (.getfield 216, 3) := by decide +kernel
theorem dX11_lotAt_12 : decode cX11_lotAt 12 = .ok (.getfield 220, 3) := by decide +kernel
theorem dX11_lotAt_15 : decode cX11_lotAt 15 = .ok (.if_icmp .lt 13, 3) := by decide +kernel
theorem dX11_lotAt_18 : decode cX11_lotAt 18 = .ok (.new 162, 3) := by decide +kernel
theorem dX11_lotAt_21 : decode cX11_lotAt 21 = .ok (.dup, 1) := by decide +kernel
theorem dX11_lotAt_22 : decode cX11_lotAt 22 = .ok (.ldc 223, 2) := by decide +kernel
theorem dX11_lotAt_24 : decode cX11_lotAt 24 = .ok (.invokespecial 166, 3) := by decide +kernel
theorem dX11_lotAt_27 : decode cX11_lotAt 27 = .ok (.athrow, 1) := by decide +kernel
theorem dX11_lotAt_28 : decode cX11_lotAt 28 = .ok (.aload_n 0, 1) := by decide +kernel
theorem dX11_lotAt_29 : decode cX11_lotAt 29 = .ok (.getfield 10, 3) := by decide +kernel
theorem dX11_lotAt_32 : decode cX11_lotAt 32 = .ok (.getfield 216, 3) := by decide +kernel
theorem dX11_lotAt_35 : decode cX11_lotAt 35 = .ok (.getfield 225, 3) := by decide +kernel
theorem dX11_lotAt_38 : decode cX11_lotAt 38 = .ok (.iload_n 1, 1) := by decide +kernel
theorem dX11_lotAt_39 : decode cX11_lotAt 39 = .ok (.invokevirtual 123, 3) := by decide +kernel
theorem dX11_lotAt_42 : decode cX11_lotAt 42 = .ok (.ireturn, 1) := by decide +kernel
theorem dX11_jarsOf_0 : decode cX11_jarsOf 0 = .ok (.aload_n 0, 1) := by decide +kernel
theorem dX11_jarsOf_1 : decode cX11_jarsOf 1 = .ok (.getfield 10, 3) := by decide +kernel
theorem dX11_jarsOf_4 : decode cX11_jarsOf 4 = .ok (.getfield 216, 3) := by decide +kernel
theorem dX11_jarsOf_7 : decode cX11_jarsOf 7 = .ok (.getfield 228, 3) := by decide +kernel
theorem dX11_jarsOf_10 : decode cX11_jarsOf 10 = .ok (.aload_n 0, 1) := by decide +kernel
theorem dX11_jarsOf_11 : decode cX11_jarsOf 11 = .ok (.iload_n 1, 1) := by decide +kernel
theorem dX11_jarsOf_12 : decode cX11_jarsOf 12 = .ok (.invokevirtual 231, 3) := by decide +kernel
theorem dX11_jarsOf_15 : decode cX11_jarsOf 15 = .ok (.invokevirtual 123, 3) := by decide +kernel
theorem dX11_jarsOf_18 : decode cX11_jarsOf 18 = .ok (.ireturn, 1) := by decide +kernel
theorem dX11_labelOf_0 : decode cX11_labelOf 0 = .ok (.aload_n 0, 1) := by decide +kernel
theorem dX11_labelOf_1 : decode cX11_labelOf 1 = .ok (.getfield 10, 3) := by decide +kernel
theorem dX11_labelOf_4 : decode cX11_labelOf 4 = .ok (.getfield 216, 3) := by decide +kernel
theorem dX11_labelOf_7 : decode cX11_labelOf 7 = .ok (.getfield 234, 3) := by decide +kernel
theorem dX11_labelOf_10 : decode cX11_labelOf 10 = .ok (.aload_n 0, 1) := by decide +kernel
theorem dX11_labelOf_11 : decode cX11_labelOf 11 = .ok (.iload_n 1, 1) := by decide +kernel
theorem dX11_labelOf_12 : decode cX11_labelOf 12 = .ok (.invokevirtual 231, 3) := by decide +kernel
theorem dX11_labelOf_15 : decode cX11_labelOf 15 = .ok (.invokevirtual 123, 3) := by decide +kernel
theorem dX11_labelOf_18 : decode cX11_labelOf 18 = .ok (.ireturn, 1) := by decide +kernel
theorem dX11_strengthOfLot_0 : decode cX11_strengthOfLot 0 = .ok (.aload_n 0, 1) := by decide +kernel
theorem dX11_strengthOfLot_1 : decode cX11_strengthOfLot 1 = .ok (.getfield 10, 3) := by decide +kernel
theorem dX11_strengthOfLot_4 : decode cX11_strengthOfLot 4 = .ok (.aload_n 0, 1) := by decide +kernel
theorem dX11_strengthOfLot_5 : decode cX11_strengthOfLot 5 = .ok (.iload_n 1, 1) := by decide +kernel
theorem dX11_strengthOfLot_6 : decode cX11_strengthOfLot 6 = .ok (.invokevirtual 231, 3) := by decide +kernel
theorem dX11_strengthOfLot_9 : decode cX11_strengthOfLot 9 = .ok (.invokevirtual 236, 3) := by decide +kernel
theorem dX11_strengthOfLot_12 : decode cX11_strengthOfLot 12 = .ok (.ireturn, 1) := by decide +kernel
theorem dX11_pressureOf_0 : decode cX11_pressureOf 0 = .ok (.aload_n 0, 1) := by decide +kernel
theorem dX11_pressureOf_1 : decode cX11_pressureOf 1 = .ok (.getfield 10, 3) := by decide +kernel
theorem dX11_pressureOf_4 : decode cX11_pressureOf 4 = .ok (.getfield 216, 3) := by decide +kernel
theorem dX11_pressureOf_7 : decode cX11_pressureOf 7 = .ok (.getfield 239, 3) := by decide +kernel
theorem dX11_pressureOf_10 : decode cX11_pressureOf 10 = .ok (.aload_n 0, 1) := by decide +kernel
theorem dX11_pressureOf_11 : decode cX11_pressureOf 11 = .ok (.iload_n 1, 1) := by decide +kernel
theorem dX11_pressureOf_12 : decode cX11_pressureOf 12 = .ok (.invokevirtual 231, 3) := by decide +kernel
theorem dX11_pressureOf_15 : decode cX11_pressureOf 15 = .ok (.invokevirtual 123, 3) := by decide +kernel
theorem dX11_pressureOf_18 : decode cX11_pressureOf 18 = .ok (.ireturn, 1) := by decide +kernel
theorem dX11_lotContains_0 : decode cX11_lotContains 0 = .ok (.aload_n 0, 1) := by decide +kernel
theorem dX11_lotContains_1 : decode cX11_lotContains 1 = .ok (.iload_n 1, 1) := by decide +kernel
theorem dX11_lotContains_2 : decode cX11_lotContains 2 = .ok (.invokevirtual 231, 3) := by decide +kernel
theorem dX11_lotContains_5 : decode cX11_lotContains 5 = .ok (.istore_n 3, 1) := by decide +kernel
theorem dX11_lotContains_6 : decode cX11_lotContains 6 = .ok (.aload_n 0, 1) := by decide +kernel
theorem dX11_lotContains_7 : decode cX11_lotContains 7 = .ok (.iload_n 2, 1) := by decide +kernel
theorem dX11_lotContains_8 : decode cX11_lotContains 8 = .ok (.invokevirtual 109, 3) := by decide +kernel
theorem dX11_lotContains_11 : decode cX11_lotContains 11 = .ok (.aload_n 0, 1) := by decide +kernel
theorem dX11_lotContains_12 : decode cX11_lotContains 12 = .ok (.getfield 10, 3) := by decide +kernel
theorem dX11_lotContains_15 : decode cX11_lotContains 15 = .ok (.iload_n 3, 1) := by decide +kernel
theorem dX11_lotContains_16 : decode cX11_lotContains 16 = .ok (.invokevirtual 242, 3) := by decide +kernel
theorem dX11_lotContains_19 : decode cX11_lotContains 19 = .ok (.iload_n 2, 1) := by decide +kernel
theorem dX11_lotContains_20 : decode cX11_lotContains 20 = .ok (.invokestatic 132, 3) := by decide +kernel
theorem dX11_lotContains_23 : decode cX11_lotContains 23 = .ok (.ireturn, 1) := by decide +kernel
theorem dX11_daysUntilPop_0 : decode cX11_daysUntilPop 0 = .ok (.aload_n 0, 1) := by decide +kernel
theorem dX11_daysUntilPop_1 : decode cX11_daysUntilPop 1 = .ok (.getfield 10, 3) := by decide +kernel
theorem dX11_daysUntilPop_4 : decode cX11_daysUntilPop 4 = .ok (.aload_n 0, 1) := by decide +kernel
theorem dX11_daysUntilPop_5 : decode cX11_daysUntilPop 5 = .ok (.iload_n 1, 1) := by decide +kernel
theorem dX11_daysUntilPop_6 : decode cX11_daysUntilPop 6 = .ok (.invokevirtual 231, 3) := by decide +kernel
theorem dX11_daysUntilPop_9 : decode cX11_daysUntilPop 9 = .ok (.invokevirtual 245, 3) := by decide +kernel
theorem dX11_daysUntilPop_12 : decode cX11_daysUntilPop 12 = .ok (.ireturn, 1) := by decide +kernel
theorem dX11_daysByDivision_0 : decode cX11_daysByDivision 0 = .ok (.aload_n 0, 1) := by decide +kernel
theorem dX11_daysByDivision_1 : decode cX11_daysByDivision 1 = .ok (.getfield 10, 3) := by decide +kernel
theorem dX11_daysByDivision_4 : decode cX11_daysByDivision 4 = .ok (.aload_n 0, 1) := by decide +kernel
theorem dX11_daysByDivision_5 : decode cX11_daysByDivision 5 = .ok (.iload_n 1, 1) := by decide +kernel
theorem dX11_daysByDivision_6 : decode cX11_daysByDivision 6 = .ok (.invokevirtual 231, 3) := by decide +kernel
theorem dX11_daysByDivision_9 : decode cX11_daysByDivision 9 = .ok (.invokevirtual 248, 3) := by decide +kernel
theorem dX11_daysByDivision_12 : decode cX11_daysByDivision 12 = .ok (.ireturn, 1) := by decide +kernel
theorem dX11_lotByPressure_0 : decode cX11_lotByPressure 0 = .ok (.aload_n 0, 1) := by decide +kernel
theorem dX11_lotByPressure_1 : decode cX11_lotByPressure 1 = .ok (.getfield 10, 3) := by decide +kernel
theorem dX11_lotByPressure_4 : decode cX11_lotByPressure 4 = .ok (.getfield 216, 3) := by decide +kernel
theorem dX11_lotByPressure_7 : decode cX11_lotByPressure 7 = .ok (.iload_n 1, 1) := by decide +kernel
theorem dX11_lotByPressure_8 : decode cX11_lotByPressure 8 = .ok (.invokevirtual 251, 3) := by decide +kernel
theorem dX11_lotByPressure_11 : decode cX11_lotByPressure 11 = .ok (.istore_n 2, 1) := by decide +kernel
theorem dX11_lotByPressure_12 : decode cX11_lotByPressure 12 = .ok (.iload_n 2, 1) := by decide +kernel
theorem dX11_lotByPressure_13 : decode cX11_lotByPressure 13 = .ok (.iconst (-1), 1) := by decide +kernel
theorem dX11_lotByPressure_14 : decode cX11_lotByPressure 14 = .ok (.if_icmp .ne 13, 3) := by decide +kernel
theorem dX11_lotByPressure_17 : decode cX11_lotByPressure 17 = .ok (.new 176, 3) := by decide +kernel
theorem dX11_lotByPressure_20 : decode cX11_lotByPressure 20 = .ok (.dup, 1) := by decide +kernel
theorem dX11_lotByPressure_21 : decode cX11_lotByPressure 21 = .ok (.ldc 254, 2) := by decide +kernel
theorem dX11_lotByPressure_23 : decode cX11_lotByPressure 23 = .ok (.invokespecial 180, 3) := by decide +kernel
theorem dX11_lotByPressure_26 : decode cX11_lotByPressure 26 = .ok (.athrow, 1) := by decide +kernel
theorem dX11_lotByPressure_27 : decode cX11_lotByPressure 27 = .ok (.aload_n 0, 1) := by decide +kernel
theorem dX11_lotByPressure_28 : decode cX11_lotByPressure 28 = .ok (.getfield 10, 3) := by decide +kernel
theorem dX11_lotByPressure_31 : decode cX11_lotByPressure 31 = .ok (.getfield 216, 3) := by decide +kernel
theorem dX11_lotByPressure_34 : decode cX11_lotByPressure 34 = .ok (.getfield 225, 3) := by decide +kernel
theorem dX11_lotByPressure_37 : decode cX11_lotByPressure 37 = .ok (.iload_n 2, 1) := by decide +kernel
theorem dX11_lotByPressure_38 : decode cX11_lotByPressure 38 = .ok (.invokevirtual 123, 3) := by decide +kernel
theorem dX11_lotByPressure_41 : decode cX11_lotByPressure 41 = .ok (.ireturn, 1) := by decide +kernel
theorem dX11_affectedLots_0 : decode cX11_affectedLots 0 = .ok (.aload_n 0, 1) := by decide +kernel
theorem dX11_affectedLots_1 : decode cX11_affectedLots 1 = .ok (.iload_n 1, 1) := by decide +kernel
theorem dX11_affectedLots_2 : decode cX11_affectedLots 2 = .ok (.invokevirtual 109, 3) := by decide +kernel
theorem dX11_affectedLots_5 : decode cX11_affectedLots 5 = .ok (.aload_n 0, 1) := by decide +kernel
theorem dX11_affectedLots_6 : decode cX11_affectedLots 6 = .ok (.getfield 10, 3) := by decide +kernel
theorem dX11_affectedLots_9 : decode cX11_affectedLots 9 = .ok (.iload_n 1, 1) := by decide +kernel
theorem dX11_affectedLots_10 : decode cX11_affectedLots 10 = .ok (.invokevirtual 256, 3) := by decide +kernel
theorem dX11_affectedLots_13 : decode cX11_affectedLots 13 = .ok (.ireturn, 1) := by decide +kernel
theorem dX11_affectedBySets_0 : decode cX11_affectedBySets 0 = .ok (.aload_n 0, 1) := by decide +kernel
theorem dX11_affectedBySets_1 : decode cX11_affectedBySets 1 = .ok (.iload_n 1, 1) := by decide +kernel
theorem dX11_affectedBySets_2 : decode cX11_affectedBySets 2 = .ok (.invokevirtual 109, 3) := by decide +kernel
theorem dX11_affectedBySets_5 : decode cX11_affectedBySets 5 = .ok (.aload_n 0, 1) := by decide +kernel
theorem dX11_affectedBySets_6 : decode cX11_affectedBySets 6 = .ok (.getfield 10, 3) := by decide +kernel
theorem dX11_affectedBySets_9 : decode cX11_affectedBySets 9 = .ok (.iload_n 1, 1) := by decide +kernel
theorem dX11_affectedBySets_10 : decode cX11_affectedBySets 10 = .ok (.invokevirtual 259, 3) := by decide +kernel
theorem dX11_affectedBySets_13 : decode cX11_affectedBySets 13 = .ok (.ireturn, 1) := by decide +kernel
theorem dX11_leastCrates_0 : decode cX11_leastCrates 0 = .ok (.iload_n 1, 1) := by decide +kernel
theorem dX11_leastCrates_1 : decode cX11_leastCrates 1 = .ok (.invokestatic 262, 3) := by decide +kernel
theorem dX11_leastCrates_4 : decode cX11_leastCrates 4 = .ok (.aload_n 0, 1) := by decide +kernel
theorem dX11_leastCrates_5 : decode cX11_leastCrates 5 = .ok (.getfield 61, 3) := by decide +kernel
theorem dX11_leastCrates_8 : decode cX11_leastCrates 8 = .ok (.aload_n 0, 1) := by decide +kernel
theorem dX11_leastCrates_9 : decode cX11_leastCrates 9 = .ok (.getfield 10, 3) := by decide +kernel
theorem dX11_leastCrates_12 : decode cX11_leastCrates 12 = .ok (.getfield 216, 3) := by decide +kernel
theorem dX11_leastCrates_15 : decode cX11_leastCrates 15 = .ok (.iload_n 1, 1) := by decide +kernel
theorem dX11_leastCrates_16 : decode cX11_leastCrates 16 = .ok (.invokevirtual 265, 3) := by decide +kernel
theorem dX11_leastCrates_19 : decode cX11_leastCrates 19 = .ok (.ireturn, 1) := by decide +kernel
theorem dX11_leastCratesByTrial_0 : decode cX11_leastCratesByTrial 0 = .ok (.iload_n 1, 1) := by decide +kernel
theorem dX11_leastCratesByTrial_1 : decode cX11_leastCratesByTrial 1 = .ok (.invokestatic 262, 3) := by decide +kernel
theorem dX11_leastCratesByTrial_4 : decode cX11_leastCratesByTrial 4 = .ok (.aload_n 0, 1) := by decide +kernel
theorem dX11_leastCratesByTrial_5 : decode cX11_leastCratesByTrial 5 = .ok (.getfield 61, 3) := by decide +kernel
theorem dX11_leastCratesByTrial_8 : decode cX11_leastCratesByTrial 8 = .ok (.aload_n 0, 1) := by decide +kernel
theorem dX11_leastCratesByTrial_9 : decode cX11_leastCratesByTrial 9 = .ok (.getfield 10, 3) := by decide +kernel
theorem dX11_leastCratesByTrial_12 : decode cX11_leastCratesByTrial 12 = .ok (.getfield 216, 3) := by decide +kernel
theorem dX11_leastCratesByTrial_15 : decode cX11_leastCratesByTrial 15 = .ok (.iload_n 1, 1) := by decide +kernel
theorem dX11_leastCratesByTrial_16 : decode cX11_leastCratesByTrial 16 = .ok (.invokevirtual 269, 3) := by decide +kernel
theorem dX11_leastCratesByTrial_19 : decode cX11_leastCratesByTrial 19 = .ok (.ireturn, 1) := by decide +kernel
theorem dX11_fewestTests_0 : decode cX11_fewestTests 0 = .ok (.aload_n 0, 1) := by decide +kernel
theorem dX11_fewestTests_1 : decode cX11_fewestTests 1 = .ok (.getfield 10, 3) := by decide +kernel
theorem dX11_fewestTests_4 : decode cX11_fewestTests 4 = .ok (.invokestatic 272, 3) := by decide +kernel
theorem dX11_fewestTests_7 : decode cX11_fewestTests 7 = .ok (.invokestatic 278, 3) := by decide +kernel
theorem dX11_fewestTests_10 : decode cX11_fewestTests 10 = .ok (.ireturn, 1) := by decide +kernel
theorem dX11_fewestTestsByBranching_0 : decode cX11_fewestTestsByBranching 0 = .ok (.aload_n 0, 1) := by decide +kernel
theorem dX11_fewestTestsByBranching_1 : decode cX11_fewestTestsByBranching 1 = .ok (.getfield 10, 3) := by decide +kernel
theorem dX11_fewestTestsByBranching_4 : decode cX11_fewestTestsByBranching 4 = .ok (.invokestatic 283, 3) := by decide +kernel
theorem dX11_fewestTestsByBranching_7 : decode cX11_fewestTestsByBranching 7 = .ok (.ireturn, 1) := by decide +kernel
theorem dX11_isTested_0 : decode cX11_isTested 0 = .ok (.aload_n 0, 1) := by decide +kernel
theorem dX11_isTested_1 : decode cX11_isTested 1 = .ok (.iload_n 1, 1) := by decide +kernel
theorem dX11_isTested_2 : decode cX11_isTested 2 = .ok (.invokevirtual 109, 3) := by decide +kernel
theorem dX11_isTested_5 : decode cX11_isTested 5 = .ok (.aload_n 0, 1) := by decide +kernel
theorem dX11_isTested_6 : decode cX11_isTested 6 = .ok (.getfield 10, 3) := by decide +kernel
theorem dX11_isTested_9 : decode cX11_isTested 9 = .ok (.invokestatic 272, 3) := by decide +kernel
theorem dX11_isTested_12 : decode cX11_isTested 12 = .ok (.iload_n 1, 1) := by decide +kernel
theorem dX11_isTested_13 : decode cX11_isTested 13 = .ok (.invokestatic 132, 3) := by decide +kernel
theorem dX11_isTested_16 : decode cX11_isTested 16 = .ok (.ireturn, 1) := by decide +kernel
theorem dX11_dayCount_0 : decode cX11_dayCount 0 = .ok (.aload_n 0, 1) := by decide +kernel
theorem dX11_dayCount_1 : decode cX11_dayCount 1 = .ok (.getfield 10, 3) := by decide +kernel
theorem dX11_dayCount_4 : decode cX11_dayCount 4 = .ok (.getfield 286, 3) := by decide +kernel
theorem dX11_dayCount_7 : decode cX11_dayCount 7 = .ok (.ireturn, 1) := by decide +kernel
theorem dX11_filled_0 : decode cX11_filled 0 = .ok (.aload_n 0, 1) := by decide +kernel
theorem dX11_filled_1 : decode cX11_filled 1 = .ok (.getfield 10, 3) := by decide +kernel
theorem dX11_filled_4 : decode cX11_filled 4 = .ok (.getfield 289, 3) := by decide +kernel
theorem dX11_filled_7 : decode cX11_filled 7 = .ok (.ireturn, 1) := by decide +kernel
theorem dX11_stored_0 : decode cX11_stored 0 = .ok (.aload_n 0, 1) := by decide +kernel
theorem dX11_stored_1 : decode cX11_stored 1 = .ok (.getfield 10, 3) := by decide +kernel
theorem dX11_stored_4 : decode cX11_stored 4 = .ok (.getfield 216, 3) := by decide +kernel
theorem dX11_stored_7 : decode cX11_stored 7 = .ok (.aload_n 0, 1) := by decide +kernel
theorem dX11_stored_8 : decode cX11_stored 8 = .ok (.getfield 10, 3) := by decide +kernel
theorem dX11_stored_11 : decode cX11_stored 11 = .ok (.getfield 216, 3) := by decide +kernel
theorem dX11_stored_14 : decode cX11_stored 14 = .ok (.getfield 228, 3) := by decide +kernel
theorem dX11_stored_17 : decode cX11_stored 17 = .ok (.invokevirtual 292, 3) := by decide +kernel
theorem dX11_stored_20 : decode cX11_stored 20 = .ok (.ireturn, 1) := by decide +kernel
theorem dX11_shipped_0 : decode cX11_shipped 0 = .ok (.aload_n 0, 1) := by decide +kernel
theorem dX11_shipped_1 : decode cX11_shipped 1 = .ok (.getfield 10, 3) := by decide +kernel
theorem dX11_shipped_4 : decode cX11_shipped 4 = .ok (.getfield 296, 3) := by decide +kernel
theorem dX11_shipped_7 : decode cX11_shipped 7 = .ok (.ireturn, 1) := by decide +kernel
theorem dX11_recalled_0 : decode cX11_recalled 0 = .ok (.aload_n 0, 1) := by decide +kernel
theorem dX11_recalled_1 : decode cX11_recalled 1 = .ok (.getfield 10, 3) := by decide +kernel
theorem dX11_recalled_4 : decode cX11_recalled 4 = .ok (.getfield 299, 3) := by decide +kernel
theorem dX11_recalled_7 : decode cX11_recalled 7 = .ok (.ireturn, 1) := by decide +kernel
theorem dX11_spoiled_0 : decode cX11_spoiled 0 = .ok (.aload_n 0, 1) := by decide +kernel
theorem dX11_spoiled_1 : decode cX11_spoiled 1 = .ok (.getfield 10, 3) := by decide +kernel
theorem dX11_spoiled_4 : decode cX11_spoiled 4 = .ok (.getfield 302, 3) := by decide +kernel
theorem dX11_spoiled_7 : decode cX11_spoiled 7 = .ok (.ireturn, 1) := by decide +kernel
theorem dX11_meanPressure_0 : decode cX11_meanPressure 0 = .ok (.aload_n 0, 1) := by decide +kernel
theorem dX11_meanPressure_1 : decode cX11_meanPressure 1 = .ok (.getfield 10, 3) := by decide +kernel
theorem dX11_meanPressure_4 : decode cX11_meanPressure 4 = .ok (.getfield 216, 3) := by decide +kernel
theorem dX11_meanPressure_7 : decode cX11_meanPressure 7 = .ok (.getfield 220, 3) := by decide +kernel
theorem dX11_meanPressure_10 : decode cX11_meanPressure 10 = .ok (.istore_n 1, 1) := by decide +kernel
theorem dX11_meanPressure_11 : decode cX11_meanPressure 11 = .ok (.iload_n 1, 1) := by decide +kernel
theorem dX11_meanPressure_12 : decode cX11_meanPressure 12 = .ok (.ifCond .ne 14, 3) := by decide +kernel
theorem dX11_meanPressure_15 : decode cX11_meanPressure 15 = .ok (.new 305, 3) := by decide +kernel
theorem dX11_meanPressure_18 : decode cX11_meanPressure 18 = .ok (.dup, 1) := by decide +kernel
theorem dX11_meanPressure_19 : decode cX11_meanPressure 19 = .ok (.ldc_w 307, 3) := by decide +kernel
theorem dX11_meanPressure_22 : decode cX11_meanPressure 22 = .ok (.invokespecial 309, 3) := by decide +kernel
theorem dX11_meanPressure_25 : decode cX11_meanPressure 25 = .ok (.athrow, 1) := by decide +kernel
theorem dX11_meanPressure_26 : decode cX11_meanPressure 26 = .ok (.aload_n 0, 1) := by decide +kernel
theorem dX11_meanPressure_27 : decode cX11_meanPressure 27 = .ok (.getfield 10, 3) := by decide +kernel
theorem dX11_meanPressure_30 : decode cX11_meanPressure 30 = .ok (.getfield 216, 3) := by decide +kernel
theorem dX11_meanPressure_33 : decode cX11_meanPressure 33 = .ok (.aload_n 0, 1) := by decide +kernel
theorem dX11_meanPressure_34 : decode cX11_meanPressure 34 = .ok (.getfield 10, 3) := by decide +kernel
theorem dX11_meanPressure_37 : decode cX11_meanPressure 37 = .ok (.getfield 216, 3) := by decide +kernel
theorem dX11_meanPressure_40 : decode cX11_meanPressure 40 = .ok (.getfield 239, 3) := by decide +kernel
theorem dX11_meanPressure_43 : decode cX11_meanPressure 43 = .ok (.invokevirtual 292, 3) := by decide +kernel
theorem dX11_meanPressure_46 : decode cX11_meanPressure 46 = .ok (.i2d, 1) := by decide +kernel
theorem dX11_meanPressure_47 : decode cX11_meanPressure 47 = .ok (.iload_n 1, 1) := by decide +kernel
theorem dX11_meanPressure_48 : decode cX11_meanPressure 48 = .ok (.i2d, 1) := by decide +kernel
theorem dX11_meanPressure_49 : decode cX11_meanPressure 49 = .ok (.ddiv, 1) := by decide +kernel
theorem dX11_meanPressure_50 : decode cX11_meanPressure 50 = .ok (.dreturn, 1) := by decide +kernel
theorem dX11_shippedShare_0 : decode cX11_shippedShare 0 = .ok (.aload_n 0, 1) := by decide +kernel
theorem dX11_shippedShare_1 : decode cX11_shippedShare 1 = .ok (.getfield 10, 3) := by decide +kernel
theorem dX11_shippedShare_4 : decode cX11_shippedShare 4 = .ok (.getfield 289, 3) := by decide +kernel
theorem dX11_shippedShare_7 : decode cX11_shippedShare 7 = .ok (.ifCond .ne 14, 3) := by decide +kernel
theorem dX11_shippedShare_10 : decode cX11_shippedShare 10 = .ok (.new 305, 3) := by decide +kernel
theorem dX11_shippedShare_13 : decode cX11_shippedShare 13 = .ok (.dup, 1) := by decide +kernel
theorem dX11_shippedShare_14 : decode cX11_shippedShare 14 = .ok (.ldc_w 310, 3) := by decide +kernel
theorem dX11_shippedShare_17 : decode cX11_shippedShare 17 = .ok (.invokespecial 309, 3) := by decide +kernel
theorem dX11_shippedShare_20 : decode cX11_shippedShare 20 = .ok (.athrow, 1) := by decide +kernel
theorem dX11_shippedShare_21 : decode cX11_shippedShare 21 = .ok (.aload_n 0, 1) := by decide +kernel
theorem dX11_shippedShare_22 : decode cX11_shippedShare 22 = .ok (.getfield 10, 3) := by decide +kernel
theorem dX11_shippedShare_25 : decode cX11_shippedShare 25 = .ok (.getfield 296, 3) := by decide +kernel
theorem dX11_shippedShare_28 : decode cX11_shippedShare 28 = .ok (.i2f, 1) := by decide +kernel
theorem dX11_shippedShare_29 : decode cX11_shippedShare 29 = .ok (.aload_n 0, 1) := by decide +kernel
theorem dX11_shippedShare_30 : decode cX11_shippedShare 30 = .ok (.getfield 10, 3) := by decide +kernel
theorem dX11_shippedShare_33 : decode cX11_shippedShare 33 = .ok (.getfield 289, 3) := by decide +kernel
theorem dX11_shippedShare_36 : decode cX11_shippedShare 36 = .ok (.i2f, 1) := by decide +kernel
theorem dX11_shippedShare_37 : decode cX11_shippedShare 37 = .ok (.fdiv, 1) := by decide +kernel
theorem dX11_shippedShare_38 : decode cX11_shippedShare 38 = .ok (.freturn, 1) := by decide +kernel
theorem dX11_writeLot_0 : decode cX11_writeLot 0 = .ok (.aload_n 0, 1) := by decide +kernel
theorem dX11_writeLot_1 : decode cX11_writeLot 1 = .ok (.iload_n 1, 1) := by decide +kernel
theorem dX11_writeLot_2 : decode cX11_writeLot 2 = .ok (.invokevirtual 231, 3) := by decide +kernel
theorem dX11_writeLot_5 : decode cX11_writeLot 5 = .ok (.istore_n 2, 1) := by decide +kernel
theorem dX11_writeLot_6 : decode cX11_writeLot 6 = .ok (.aload_n 0, 1) := by decide +kernel
theorem dX11_writeLot_7 : decode cX11_writeLot 7 = .ok (.getfield 38, 3) := by decide +kernel
theorem dX11_writeLot_10 : decode cX11_writeLot 10 = .ok (.invokevirtual 150, 3) := by decide +kernel
theorem dX11_writeLot_13 : decode cX11_writeLot 13 = .ok (.aload_n 0, 1) := by decide +kernel
theorem dX11_writeLot_14 : decode cX11_writeLot 14 = .ok (.getfield 38, 3) := by decide +kernel
theorem dX11_writeLot_17 : decode cX11_writeLot 17 = .ok (.iload_n 1, 1) := by decide +kernel
theorem dX11_writeLot_18 : decode cX11_writeLot 18 = .ok (.invokevirtual 312, 3) := by decide +kernel
theorem dX11_writeLot_21 : decode cX11_writeLot 21 = .ok (.aload_n 0, 1) := by decide +kernel
theorem dX11_writeLot_22 : decode cX11_writeLot 22 = .ok (.getfield 38, 3) := by decide +kernel
theorem dX11_writeLot_25 : decode cX11_writeLot 25 = .ok (.bipush 58, 2) := by decide +kernel
theorem dX11_writeLot_27 : decode cX11_writeLot 27 = .ok (.invokevirtual 315, 3) := by decide +kernel
theorem dX11_writeLot_30 : decode cX11_writeLot 30 = .ok (.aload_n 0, 1) := by decide +kernel
theorem dX11_writeLot_31 : decode cX11_writeLot 31 = .ok (.getfield 38, 3) := by decide +kernel
theorem dX11_writeLot_34 : decode cX11_writeLot 34 = .ok (.aload_n 0, 1) := by decide +kernel
theorem dX11_writeLot_35 : decode cX11_writeLot 35 = .ok (.getfield 10, 3) := by decide +kernel
theorem dX11_writeLot_38 : decode cX11_writeLot 38 = .ok (.getfield 216, 3) := by decide +kernel
theorem dX11_writeLot_41 : decode cX11_writeLot 41 = .ok (.getfield 228, 3) := by decide +kernel
theorem dX11_writeLot_44 : decode cX11_writeLot 44 = .ok (.iload_n 2, 1) := by decide +kernel
theorem dX11_writeLot_45 : decode cX11_writeLot 45 = .ok (.invokevirtual 123, 3) := by decide +kernel
theorem dX11_writeLot_48 : decode cX11_writeLot 48 = .ok (.invokevirtual 312, 3) := by decide +kernel
theorem dX11_writeLot_51 : decode cX11_writeLot 51 = .ok (.aload_n 0, 1) := by decide +kernel
theorem dX11_writeLot_52 : decode cX11_writeLot 52 = .ok (.getfield 38, 3) := by decide +kernel
theorem dX11_writeLot_55 : decode cX11_writeLot 55 = .ok (.bipush 120, 2) := by decide +kernel
theorem dX11_writeLot_57 : decode cX11_writeLot 57 = .ok (.invokevirtual 315, 3) := by decide +kernel
theorem dX11_writeLot_60 : decode cX11_writeLot 60 = .ok (.aload_n 0, 1) := by decide +kernel
theorem dX11_writeLot_61 : decode cX11_writeLot 61 = .ok (.getfield 10, 3) := by decide +kernel
theorem dX11_writeLot_64 : decode cX11_writeLot 64 = .ok (.getfield 140, 3) := by decide +kernel
theorem dX11_writeLot_67 : decode cX11_writeLot 67 = .ok (.aload_n 0, 1) := by decide +kernel
theorem dX11_writeLot_68 : decode cX11_writeLot 68 = .ok (.getfield 10, 3) := by decide +kernel
theorem dX11_writeLot_71 : decode cX11_writeLot 71 = .ok (.getfield 216, 3) := by decide +kernel
theorem dX11_writeLot_74 : decode cX11_writeLot 74 = .ok (.getfield 234, 3) := by decide +kernel
theorem dX11_writeLot_77 : decode cX11_writeLot 77 = .ok (.iload_n 2, 1) := by decide +kernel
theorem dX11_writeLot_78 : decode cX11_writeLot 78 = .ok (.invokevirtual 123, 3) := by decide +kernel
theorem dX11_writeLot_81 : decode cX11_writeLot 81 = .ok (.aload_n 0, 1) := by decide +kernel
theorem dX11_writeLot_82 : decode cX11_writeLot 82 = .ok (.getfield 38, 3) := by decide +kernel
theorem dX11_writeLot_85 : decode cX11_writeLot 85 = .ok (.invokevirtual 319, 3) := by decide +kernel
theorem dX11_writeLot_88 : decode cX11_writeLot 88 = .ok (.aload_n 0, 1) := by decide +kernel
theorem dX11_writeLot_89 : decode cX11_writeLot 89 = .ok (.getfield 38, 3) := by decide +kernel
theorem dX11_writeLot_92 : decode cX11_writeLot 92 = .ok (.bipush 47, 2) := by decide +kernel
theorem dX11_writeLot_94 : decode cX11_writeLot 94 = .ok (.invokevirtual 315, 3) := by decide +kernel
theorem dX11_writeLot_97 : decode cX11_writeLot 97 = .ok (.aload_n 0, 1) := by decide +kernel
theorem dX11_writeLot_98 : decode cX11_writeLot 98 = .ok (.getfield 38, 3) := by decide +kernel
theorem dX11_writeLot_101 : decode cX11_writeLot 101 = .ok (.aload_n 0, 1) := by decide +kernel
theorem dX11_writeLot_102 : decode cX11_writeLot 102 = .ok (.getfield 10, 3) := by decide +kernel
theorem dX11_writeLot_105 : decode cX11_writeLot 105 = .ok (.getfield 216, 3) := by decide +kernel
theorem dX11_writeLot_108 : decode cX11_writeLot 108 = .ok (.getfield 239, 3) := by decide +kernel
theorem dX11_writeLot_111 : decode cX11_writeLot 111 = .ok (.iload_n 2, 1) := by decide +kernel
theorem dX11_writeLot_112 : decode cX11_writeLot 112 = .ok (.invokevirtual 123, 3) := by decide +kernel
theorem dX11_writeLot_115 : decode cX11_writeLot 115 = .ok (.invokevirtual 312, 3) := by decide +kernel
theorem dX11_writeLot_118 : decode cX11_writeLot 118 = .ok (.aload_n 0, 1) := by decide +kernel
theorem dX11_writeLot_119 : decode cX11_writeLot 119 = .ok (.getfield 38, 3) := by decide +kernel
theorem dX11_writeLot_122 : decode cX11_writeLot 122 = .ok (.getfield 323, 3) := by decide +kernel
theorem dX11_writeLot_125 : decode cX11_writeLot 125 = .ok (.ireturn, 1) := by decide +kernel
theorem dX11_writeRaws_0 : decode cX11_writeRaws 0 = .ok (.aload_n 0, 1) := by decide +kernel
theorem dX11_writeRaws_1 : decode cX11_writeRaws 1 = .ok (.getfield 10, 3) := by decide +kernel
theorem dX11_writeRaws_4 : decode cX11_writeRaws 4 = .ok (.invokestatic 272, 3) := by decide +kernel
theorem dX11_writeRaws_7 : decode cX11_writeRaws 7 = .ok (.istore_n 1, 1) := by decide +kernel
theorem dX11_writeRaws_8 : decode cX11_writeRaws 8 = .ok (.aload_n 0, 1) := by decide +kernel
theorem dX11_writeRaws_9 : decode cX11_writeRaws 9 = .ok (.getfield 38, 3) := by decide +kernel
theorem dX11_writeRaws_12 : decode cX11_writeRaws 12 = .ok (.invokevirtual 150, 3) := by decide +kernel
theorem dX11_writeRaws_15 : decode cX11_writeRaws 15 = .ok (.iconst 0, 1) := by decide +kernel
theorem dX11_writeRaws_16 : decode cX11_writeRaws 16 = .ok (.istore_n 2, 1) := by decide +kernel
theorem dX11_writeRaws_17 : decode cX11_writeRaws 17 = .ok (.iload_n 2, 1) := by decide +kernel
theorem dX11_writeRaws_18 : decode cX11_writeRaws 18 = .ok (.aload_n 0, 1) := by decide +kernel
theorem dX11_writeRaws_19 : decode cX11_writeRaws 19 = .ok (.getfield 10, 3) := by decide +kernel
theorem dX11_writeRaws_22 : decode cX11_writeRaws 22 = .ok (.getfield 87, 3) := by decide +kernel
theorem dX11_writeRaws_25 : decode cX11_writeRaws 25 = .ok (.getfield 103, 3) := by decide +kernel
theorem dX11_writeRaws_28 : decode cX11_writeRaws 28 = .ok (.if_icmp .ge 22, 3) := by decide +kernel
theorem dX11_writeRaws_31 : decode cX11_writeRaws 31 = .ok (.aload_n 0, 1) := by decide +kernel
theorem dX11_writeRaws_32 : decode cX11_writeRaws 32 = .ok (.getfield 38, 3) := by decide +kernel
theorem dX11_writeRaws_35 : decode cX11_writeRaws 35 = .ok (.aload_n 0, 1) := by decide +kernel
theorem dX11_writeRaws_36 : decode cX11_writeRaws 36 = .ok (.iload_n 2, 1) := by decide +kernel
theorem dX11_writeRaws_37 : decode cX11_writeRaws 37 = .ok (.iload_n 1, 1) := by decide +kernel
theorem dX11_writeRaws_38 : decode cX11_writeRaws 38 = .ok (.invokevirtual 326, 3) := by decide +kernel
theorem dX11_writeRaws_41 : decode cX11_writeRaws 41 = .ok (.invokevirtual 315, 3) := by decide +kernel
theorem dX11_writeRaws_44 : decode cX11_writeRaws 44 = .ok (.iinc 2 1, 3) := by decide +kernel
theorem dX11_writeRaws_47 : decode cX11_writeRaws 47 = .ok (.goto (-30), 3) := by decide +kernel
theorem dX11_writeRaws_50 : decode cX11_writeRaws 50 = .ok (.aload_n 0, 1) := by decide +kernel
theorem dX11_writeRaws_51 : decode cX11_writeRaws 51 = .ok (.getfield 38, 3) := by decide +kernel
theorem dX11_writeRaws_54 : decode cX11_writeRaws 54 = .ok (.getfield 323, 3) := by decide +kernel
theorem dX11_writeRaws_57 : decode cX11_writeRaws 57 = .ok (.ireturn, 1) := by decide +kernel
theorem dX11_lineAt_0 : decode cX11_lineAt 0 = .ok (.iload_n 1, 1) := by decide +kernel
theorem dX11_lineAt_1 : decode cX11_lineAt 1 = .ok (.ifCond .lt 14, 3) := by decide +kernel
theorem dX11_lineAt_4 : decode cX11_lineAt 4 = .ok (.iload_n 1, 1) := by decide +kernel
theorem dX11_lineAt_5 : decode cX11_lineAt 5 = .ok (.aload_n 0, 1) := by decide +kernel
theorem dX11_lineAt_6 : decode cX11_lineAt 6 = .ok (.getfield 38, 3) := by decide +kernel
theorem dX11_lineAt_9 : decode cX11_lineAt 9 = .ok (.getfield 323, 3) := by decide +kernel
theorem dX11_lineAt_12 : decode cX11_lineAt 12 = .ok (.if_icmp .lt 14, 3) := by decide +kernel
theorem dX11_lineAt_15 : decode cX11_lineAt 15 = .ok (.new 162, 3) := by decide +kernel
theorem dX11_lineAt_18 : decode cX11_lineAt 18 = .ok (.dup, 1) := by decide +kernel
theorem dX11_lineAt_19 : decode cX11_lineAt 19 = .ok (.ldc_w 329, 3) := by decide +kernel
theorem dX11_lineAt_22 : decode cX11_lineAt 22 = .ok (.invokespecial 166, 3) := by decide +kernel
theorem dX11_lineAt_25 : decode cX11_lineAt 25 = .ok (.athrow, 1) := by decide +kernel
theorem dX11_lineAt_26 : decode cX11_lineAt 26 = .ok (.aload_n 0, 1) := by decide +kernel
theorem dX11_lineAt_27 : decode cX11_lineAt 27 = .ok (.getfield 38, 3) := by decide +kernel
theorem dX11_lineAt_30 : decode cX11_lineAt 30 = .ok (.iload_n 1, 1) := by decide +kernel
theorem dX11_lineAt_31 : decode cX11_lineAt 31 = .ok (.invokevirtual 331, 3) := by decide +kernel
theorem dX11_lineAt_34 : decode cX11_lineAt 34 = .ok (.ireturn, 1) := by decide +kernel
theorem dX11_isConsistent_0 : decode cX11_isConsistent 0 = .ok (.aload_n 0, 1) := by decide +kernel
theorem dX11_isConsistent_1 : decode cX11_isConsistent 1 = .ok (.invokevirtual 335, 3) := by decide +kernel
theorem dX11_isConsistent_4 : decode cX11_isConsistent 4 = .ok (.ifCond .eq 59, 3) := by decide +kernel
theorem dX11_isConsistent_7 : decode cX11_isConsistent 7 = .ok (.aload_n 0, 1) := by decide +kernel
theorem dX11_isConsistent_8 : decode cX11_isConsistent 8 = .ok (.invokevirtual 339, 3) := by decide +kernel
theorem dX11_isConsistent_11 : decode cX11_isConsistent 11 = .ok (.ifCond .eq 52, 3) := by decide +kernel
theorem dX11_isConsistent_14 : decode cX11_isConsistent 14 = .ok (.aload_n 0, 1) := by decide +kernel
theorem dX11_isConsistent_15 : decode cX11_isConsistent 15 = .ok (.bipush 9, 2) := by decide +kernel
theorem dX11_isConsistent_17 : decode cX11_isConsistent 17 = .ok (.invokevirtual 342, 3) := by decide +kernel
theorem dX11_isConsistent_20 : decode cX11_isConsistent 20 = .ok (.ifCond .eq 43, 3) := by decide +kernel
theorem dX11_isConsistent_23 : decode cX11_isConsistent 23 = .ok (.aload_n 0, 1) := by decide +kernel
theorem dX11_isConsistent_24 : decode cX11_isConsistent 24 = .ok (.bipush 20, 2) := by decide +kernel
theorem dX11_isConsistent_26 : decode cX11_isConsistent 26 = .ok (.invokevirtual 342, 3) := by decide +kernel
theorem dX11_isConsistent_29 : decode cX11_isConsistent 29 = .ok (.ifCond .eq 34, 3) := by decide +kernel
theorem dX11_isConsistent_32 : decode cX11_isConsistent 32 = .ok (.aload_n 0, 1) := by decide +kernel
theorem dX11_isConsistent_33 : decode cX11_isConsistent 33 = .ok (.getfield 10, 3) := by decide +kernel
theorem dX11_isConsistent_36 : decode cX11_isConsistent 36 = .ok (.invokestatic 272, 3) := by decide +kernel
theorem dX11_isConsistent_39 : decode cX11_isConsistent 39 = .ok (.invokestatic 278, 3) := by decide +kernel
theorem dX11_isConsistent_42 : decode cX11_isConsistent 42 = .ok (.aload_n 0, 1) := by decide +kernel
theorem dX11_isConsistent_43 : decode cX11_isConsistent 43 = .ok (.getfield 10, 3) := by decide +kernel
theorem dX11_isConsistent_46 : decode cX11_isConsistent 46 = .ok (.invokestatic 283, 3) := by decide +kernel
theorem dX11_isConsistent_49 : decode cX11_isConsistent 49 = .ok (.if_icmp .ne 14, 3) := by decide +kernel
theorem dX11_isConsistent_52 : decode cX11_isConsistent 52 = .ok (.aload_n 0, 1) := by decide +kernel
theorem dX11_isConsistent_53 : decode cX11_isConsistent 53 = .ok (.invokevirtual 345, 3) := by decide +kernel
theorem dX11_isConsistent_56 : decode cX11_isConsistent 56 = .ok (.ifCond .eq 7, 3) := by decide +kernel
theorem dX11_isConsistent_59 : decode cX11_isConsistent 59 = .ok (.iconst 1, 1) := by decide +kernel
theorem dX11_isConsistent_60 : decode cX11_isConsistent 60 = .ok (.goto 4, 3) := by decide +kernel
theorem dX11_isConsistent_63 : decode cX11_isConsistent 63 = .ok (.iconst 0, 1) := by decide +kernel
theorem dX11_isConsistent_64 : decode cX11_isConsistent 64 = .ok (.ireturn, 1) := by decide +kernel
theorem dX11_type_0 : decode cX11_type 0 = .ok (.iload_n 1, 1) := by decide +kernel
theorem dX11_type_1 : decode cX11_type 1 = .ok (.bipush 32, 2) := by decide +kernel
theorem dX11_type_3 : decode cX11_type 3 = .ok (.if_icmp .lt 9, 3) := by decide +kernel
theorem dX11_type_6 : decode cX11_type 6 = .ok (.iload_n 1, 1) := by decide +kernel
theorem dX11_type_7 : decode cX11_type 7 = .ok (.bipush 126, 2) := by decide +kernel
theorem dX11_type_9 : decode cX11_type 9 = .ok (.if_icmp .le 14, 3) := by decide +kernel
theorem dX11_type_12 : decode cX11_type 12 = .ok (.new 348, 3) := by decide +kernel
theorem dX11_type_15 : decode cX11_type 15 = .ok (.dup, 1) := by decide +kernel
theorem dX11_type_16 : decode cX11_type 16 = .ok (.ldc_w 350, 3) := by decide +kernel
theorem dX11_type_19 : decode cX11_type 19 = .ok (.invokespecial 352, 3) := by decide +kernel
theorem dX11_type_22 : decode cX11_type 22 = .ok (.athrow, 1) := by decide +kernel
theorem dX11_type_23 : decode cX11_type 23 = .ok (.aload_n 0, 1) := by decide +kernel
theorem dX11_type_24 : decode cX11_type 24 = .ok (.getfield 34, 3) := by decide +kernel
theorem dX11_type_27 : decode cX11_type 27 = .ok (.getfield 323, 3) := by decide +kernel
theorem dX11_type_30 : decode cX11_type 30 = .ok (.bipush 60, 2) := by decide +kernel
theorem dX11_type_32 : decode cX11_type 32 = .ok (.if_icmp .lt 14, 3) := by decide +kernel
theorem dX11_type_35 : decode cX11_type 35 = .ok (.new 353, 3) := by decide +kernel
theorem dX11_type_38 : decode cX11_type 38 = .ok (.dup, 1) := by decide +kernel
theorem dX11_type_39 : decode cX11_type 39 = .ok (.ldc_w 355, 3) := by decide +kernel
theorem dX11_type_42 : decode cX11_type 42 = .ok (.invokespecial 357, 3) := by decide +kernel
theorem dX11_type_45 : decode cX11_type 45 = .ok (.athrow, 1) := by decide +kernel
theorem dX11_type_46 : decode cX11_type 46 = .ok (.aload_n 0, 1) := by decide +kernel
theorem dX11_type_47 : decode cX11_type 47 = .ok (.getfield 34, 3) := by decide +kernel
theorem dX11_type_50 : decode cX11_type 50 = .ok (.iload_n 1, 1) := by decide +kernel
theorem dX11_type_51 : decode cX11_type 51 = .ok (.invokevirtual 315, 3) := by decide +kernel
theorem dX11_type_54 : decode cX11_type 54 = .ok (.aload_n 0, 1) := by decide +kernel
theorem dX11_type_55 : decode cX11_type 55 = .ok (.getfield 34, 3) := by decide +kernel
theorem dX11_type_58 : decode cX11_type 58 = .ok (.getfield 323, 3) := by decide +kernel
theorem dX11_type_61 : decode cX11_type 61 = .ok (.ireturn, 1) := by decide +kernel
theorem dX11_clearText_0 : decode cX11_clearText 0 = .ok (.aload_n 0, 1) := by decide +kernel
theorem dX11_clearText_1 : decode cX11_clearText 1 = .ok (.getfield 34, 3) := by decide +kernel
theorem dX11_clearText_4 : decode cX11_clearText 4 = .ok (.getfield 323, 3) := by decide +kernel
theorem dX11_clearText_7 : decode cX11_clearText 7 = .ok (.istore_n 1, 1) := by decide +kernel
theorem dX11_clearText_8 : decode cX11_clearText 8 = .ok (.aload_n 0, 1) := by decide +kernel
theorem dX11_clearText_9 : decode cX11_clearText 9 = .ok (.getfield 34, 3) := by decide +kernel
theorem dX11_clearText_12 : decode cX11_clearText 12 = .ok (.invokevirtual 150, 3) := by decide +kernel
theorem dX11_clearText_15 : decode cX11_clearText 15 = .ok (.iload_n 1, 1) := by decide +kernel
theorem dX11_clearText_16 : decode cX11_clearText 16 = .ok (.ireturn, 1) := by decide +kernel
theorem dX11_execute_0 : decode cX11_execute 0 = .ok (.aload_n 0, 1) := by decide +kernel
theorem dX11_execute_1 : decode cX11_execute 1 = .ok (.getfield 47, 3) := by decide +kernel
theorem dX11_execute_4 : decode cX11_execute 4 = .ok (.aload_n 0, 1) := by decide +kernel
theorem dX11_execute_5 : decode cX11_execute 5 = .ok (.getfield 34, 3) := by decide +kernel
theorem dX11_execute_8 : decode cX11_execute 8 = .ok (.invokevirtual 358, 3) := by decide +kernel
theorem dX11_execute_11 : decode cX11_execute 11 = .ok (.istore_n 1, 1) := by decide +kernel
theorem dX11_execute_12 : decode cX11_execute 12 = .ok (.aload_n 0, 1) := by decide +kernel
theorem dX11_execute_13 : decode cX11_execute 13 = .ok (.getfield 34, 3) := by decide +kernel
theorem dX11_execute_16 : decode cX11_execute 16 = .ok (.invokevirtual 150, 3) := by decide +kernel
theorem dX11_execute_19 : decode cX11_execute 19 = .ok (.iload_n 1, 1) := by decide +kernel
theorem dX11_execute_20 : decode cX11_execute 20 = .ok (.ifCond .ne 25, 3) := by decide +kernel
theorem dX11_execute_23 : decode cX11_execute 23 = .ok (.aload_n 0, 1) := by decide +kernel
theorem dX11_execute_24 : decode cX11_execute 24 = .ok (.aload_n 0, 1) := by decide +kernel
theorem dX11_execute_25 : decode cX11_execute 25 = .ok (.getfield 47, 3) := by decide +kernel
theorem dX11_execute_28 : decode cX11_execute 28 = .ok (.getfield 362, 3) := by decide +kernel
theorem dX11_execute_31 : decode cX11_execute 31 = .ok (.putfield 69, 3) := by decide +kernel
theorem dX11_execute_34 : decode cX11_execute 34 = .ok (.new 348, 3) := by decide +kernel
theorem dX11_execute_37 : decode cX11_execute 37 = .ok (.dup, 1) := by decide +kernel
theorem dX11_execute_38 : decode cX11_execute 38 = .ok (.ldc_w 365, 3) := by decide +kernel
theorem dX11_execute_41 : decode cX11_execute 41 = .ok (.invokespecial 352, 3) := by decide +kernel
theorem dX11_execute_44 : decode cX11_execute 44 = .ok (.athrow, 1) := by decide +kernel
theorem dX11_execute_45 : decode cX11_execute 45 = .ok (.aload_n 0, 1) := by decide +kernel
theorem dX11_execute_46 : decode cX11_execute 46 = .ok (.invokevirtual 367, 3) := by decide +kernel
theorem dX11_execute_49 : decode cX11_execute 49 = .ok (.istore_n 2, 1) := by decide +kernel
theorem dX11_execute_50 : decode cX11_execute 50 = .ok (.iload_n 2, 1) := by decide +kernel
theorem dX11_execute_51 : decode cX11_execute 51 = .ok (.iconst (-1), 1) := by decide +kernel
theorem dX11_execute_52 : decode cX11_execute 52 = .ok (.if_icmp .eq 19, 3) := by decide +kernel
theorem dX11_execute_55 : decode cX11_execute 55 = .ok (.aload_n 0, 1) := by decide +kernel
theorem dX11_execute_56 : decode cX11_execute 56 = .ok (.iload_n 2, 1) := by decide +kernel
theorem dX11_execute_57 : decode cX11_execute 57 = .ok (.putfield 73, 3) := by decide +kernel
theorem dX11_execute_60 : decode cX11_execute 60 = .ok (.new 353, 3) := by decide +kernel
theorem dX11_execute_63 : decode cX11_execute 63 = .ok (.dup, 1) := by decide +kernel
theorem dX11_execute_64 : decode cX11_execute 64 = .ok (.ldc_w 370, 3) := by decide +kernel
theorem dX11_execute_67 : decode cX11_execute 67 = .ok (.invokespecial 357, 3) := by decide +kernel
theorem dX11_execute_70 : decode cX11_execute 70 = .ok (.athrow, 1) := by decide +kernel
theorem dX11_execute_71 : decode cX11_execute 71 = .ok (.aload_n 0, 1) := by decide +kernel
theorem dX11_execute_72 : decode cX11_execute 72 = .ok (.getfield 47, 3) := by decide +kernel
theorem dX11_execute_75 : decode cX11_execute 75 = .ok (.getfield 372, 3) := by decide +kernel
theorem dX11_execute_78 : decode cX11_execute 78 = .ok (.ireturn, 1) := by decide +kernel
theorem dX11_errorPosition_0 : decode cX11_errorPosition 0 = .ok (.aload_n 0, 1) := by decide +kernel
theorem dX11_errorPosition_1 : decode cX11_errorPosition 1 = .ok (.getfield 69, 3) := by decide +kernel
theorem dX11_errorPosition_4 : decode cX11_errorPosition 4 = .ok (.iconst (-1), 1) := by decide +kernel
theorem dX11_errorPosition_5 : decode cX11_errorPosition 5 = .ok (.if_icmp .ne 14, 3) := by decide +kernel
theorem dX11_errorPosition_8 : decode cX11_errorPosition 8 = .ok (.new 176, 3) := by decide +kernel
theorem dX11_errorPosition_11 : decode cX11_errorPosition 11 = .ok (.dup, 1) := by decide +kernel
theorem dX11_errorPosition_12 : decode cX11_errorPosition 12 = .ok (.ldc_w 373, 3) := by decide +kernel
theorem dX11_errorPosition_15 : decode cX11_errorPosition 15 = .ok (.invokespecial 180, 3) := by decide +kernel
theorem dX11_errorPosition_18 : decode cX11_errorPosition 18 = .ok (.athrow, 1) := by decide +kernel
theorem dX11_errorPosition_19 : decode cX11_errorPosition 19 = .ok (.aload_n 0, 1) := by decide +kernel
theorem dX11_errorPosition_20 : decode cX11_errorPosition 20 = .ok (.getfield 69, 3) := by decide +kernel
theorem dX11_errorPosition_23 : decode cX11_errorPosition 23 = .ok (.ireturn, 1) := by decide +kernel
theorem dX11_failedCommand_0 : decode cX11_failedCommand 0 = .ok (.aload_n 0, 1) := by decide +kernel
theorem dX11_failedCommand_1 : decode cX11_failedCommand 1 = .ok (.getfield 73, 3) := by decide +kernel
theorem dX11_failedCommand_4 : decode cX11_failedCommand 4 = .ok (.iconst (-1), 1) := by decide +kernel
theorem dX11_failedCommand_5 : decode cX11_failedCommand 5 = .ok (.if_icmp .ne 14, 3) := by decide +kernel
theorem dX11_failedCommand_8 : decode cX11_failedCommand 8 = .ok (.new 176, 3) := by decide +kernel
theorem dX11_failedCommand_11 : decode cX11_failedCommand 11 = .ok (.dup, 1) := by decide +kernel
theorem dX11_failedCommand_12 : decode cX11_failedCommand 12 = .ok (.ldc_w 375, 3) := by decide +kernel
theorem dX11_failedCommand_15 : decode cX11_failedCommand 15 = .ok (.invokespecial 180, 3) := by decide +kernel
theorem dX11_failedCommand_18 : decode cX11_failedCommand 18 = .ok (.athrow, 1) := by decide +kernel
theorem dX11_failedCommand_19 : decode cX11_failedCommand 19 = .ok (.aload_n 0, 1) := by decide +kernel
theorem dX11_failedCommand_20 : decode cX11_failedCommand 20 = .ok (.getfield 73, 3) := by decide +kernel
theorem dX11_failedCommand_23 : decode cX11_failedCommand 23 = .ok (.ireturn, 1) := by decide +kernel
theorem dX11_undo_0 : decode cX11_undo 0 = .ok (.aload_n 0, 1) := by decide +kernel
theorem dX11_undo_1 : decode cX11_undo 1 = .ok (.getfield 25, 3) := by decide +kernel
theorem dX11_undo_4 : decode cX11_undo 4 = .ok (.getfield 377, 3) := by decide +kernel
theorem dX11_undo_7 : decode cX11_undo 7 = .ok (.ifCond .ne 14, 3) := by decide +kernel
theorem dX11_undo_10 : decode cX11_undo 10 = .ok (.new 353, 3) := by decide +kernel
theorem dX11_undo_13 : decode cX11_undo 13 = .ok (.dup, 1) := by decide +kernel
theorem dX11_undo_14 : decode cX11_undo 14 = .ok (.ldc_w 378, 3) := by decide +kernel
theorem dX11_undo_17 : decode cX11_undo 17 = .ok (.invokespecial 357, 3) := by decide +kernel
theorem dX11_undo_20 : decode cX11_undo 20 = .ok (.athrow, 1) := by decide +kernel
theorem dX11_undo_21 : decode cX11_undo 21 = .ok (.aload_n 0, 1) := by decide +kernel
theorem dX11_undo_22 : decode cX11_undo 22 = .ok (.getfield 25, 3) := by decide +kernel
theorem dX11_undo_25 : decode cX11_undo 25 = .ok (.aload_n 0, 1) := by decide +kernel
theorem dX11_undo_26 : decode cX11_undo 26 = .ok (.getfield 10, 3) := by decide +kernel
theorem dX11_undo_29 : decode cX11_undo 29 = .ok (.invokevirtual 380, 3) := by decide +kernel
theorem dX11_undo_32 : decode cX11_undo 32 = .ok (.aload_n 0, 1) := by decide +kernel
theorem dX11_undo_33 : decode cX11_undo 33 = .ok (.getfield 25, 3) := by decide +kernel
theorem dX11_undo_36 : decode cX11_undo 36 = .ok (.getfield 377, 3) := by decide +kernel
theorem dX11_undo_39 : decode cX11_undo 39 = .ok (.ireturn, 1) := by decide +kernel
theorem dX11_save_0 : decode cX11_save 0 = .ok (.aload_n 0, 1) := by decide +kernel
theorem dX11_save_1 : decode cX11_save 1 = .ok (.getfield 19, 3) := by decide +kernel
theorem dX11_save_4 : decode cX11_save 4 = .ok (.aload_n 0, 1) := by decide +kernel
theorem dX11_save_5 : decode cX11_save 5 = .ok (.getfield 10, 3) := by decide +kernel
theorem dX11_save_8 : decode cX11_save 8 = .ok (.invokevirtual 383, 3) := by decide +kernel
theorem dX11_save_11 : decode cX11_save 11 = .ok (.aload_n 0, 1) := by decide +kernel
theorem dX11_save_12 : decode cX11_save 12 = .ok (.iconst 1, 1) := by decide +kernel
theorem dX11_save_13 : decode cX11_save 13 = .ok (.putfield 65, 3) := by decide +kernel
theorem dX11_save_16 : decode cX11_save 16 = .ok (.aload_n 0, 1) := by decide +kernel
theorem dX11_save_17 : decode cX11_save 17 = .ok (.getfield 10, 3) := by decide +kernel
theorem dX11_save_20 : decode cX11_save 20 = .ok (.getfield 216, 3) := by decide +kernel
theorem dX11_save_23 : decode cX11_save 23 = .ok (.getfield 220, 3) := by decide +kernel
theorem dX11_save_26 : decode cX11_save 26 = .ok (.ireturn, 1) := by decide +kernel
theorem dX11_restore_0 : decode cX11_restore 0 = .ok (.aload_n 0, 1) := by decide +kernel
theorem dX11_restore_1 : decode cX11_restore 1 = .ok (.getfield 65, 3) := by decide +kernel
theorem dX11_restore_4 : decode cX11_restore 4 = .ok (.ifCond .ne 14, 3) := by decide +kernel
theorem dX11_restore_7 : decode cX11_restore 7 = .ok (.new 353, 3) := by decide +kernel
theorem dX11_restore_10 : decode cX11_restore 10 = .ok (.dup, 1) := by decide +kernel
theorem dX11_restore_11 : decode cX11_restore 11 = .ok (.ldc_w 386, 3) := by decide +kernel
theorem dX11_restore_14 : decode cX11_restore 14 = .ok (.invokespecial 357, 3) := by decide +kernel
theorem dX11_restore_17 : decode cX11_restore 17 = .ok (.athrow, 1) := by decide +kernel
theorem dX11_restore_18 : decode cX11_restore 18 = .ok (.aload_n 0, 1) := by decide +kernel
theorem dX11_restore_19 : decode cX11_restore 19 = .ok (.getfield 10, 3) := by decide +kernel
theorem dX11_restore_22 : decode cX11_restore 22 = .ok (.aload_n 0, 1) := by decide +kernel
theorem dX11_restore_23 : decode cX11_restore 23 = .ok (.getfield 19, 3) := by decide +kernel
theorem dX11_restore_26 : decode cX11_restore 26 = .ok (.invokevirtual 383, 3) := by decide +kernel
theorem dX11_restore_29 : decode cX11_restore 29 = .ok (.aload_n 0, 1) := by decide +kernel
theorem dX11_restore_30 : decode cX11_restore 30 = .ok (.getfield 25, 3) := by decide +kernel
theorem dX11_restore_33 : decode cX11_restore 33 = .ok (.invokevirtual 388, 3) := by decide +kernel
theorem dX11_restore_36 : decode cX11_restore 36 = .ok (.aload_n 0, 1) := by decide +kernel
theorem dX11_restore_37 : decode cX11_restore 37 = .ok (.getfield 10, 3) := by decide +kernel
theorem dX11_restore_40 : decode cX11_restore 40 = .ok (.getfield 216, 3) := by decide +kernel
theorem dX11_restore_43 : decode cX11_restore 43 = .ok (.getfield 220, 3) := by decide +kernel
theorem dX11_restore_46 : decode cX11_restore 46 = .ok (.ireturn, 1) := by decide +kernel
theorem dX11_setHas_0 : decode cX11_setHas 0 = .ok (.iload_n 0, 1) := by decide +kernel
theorem dX11_setHas_1 : decode cX11_setHas 1 = .ok (.iload_n 1, 1) := by decide +kernel
theorem dX11_setHas_2 : decode cX11_setHas 2 = .ok (.ishr, 1) := by decide +kernel
theorem dX11_setHas_3 : decode cX11_setHas 3 = .ok (.iconst 1, 1) := by decide +kernel
theorem dX11_setHas_4 : decode cX11_setHas 4 = .ok (.iand, 1) := by decide +kernel
theorem dX11_setHas_5 : decode cX11_setHas 5 = .ok (.iconst 1, 1) := by decide +kernel
theorem dX11_setHas_6 : decode cX11_setHas 6 = .ok (.if_icmp .ne 7, 3) := by decide +kernel
theorem dX11_setHas_9 : decode cX11_setHas 9 = .ok (.iconst 1, 1) := by decide +kernel
theorem dX11_setHas_10 : decode cX11_setHas 10 = .ok (.goto 4, 3) := by decide +kernel
theorem dX11_setHas_13 : decode cX11_setHas 13 = .ok (.iconst 0, 1) := by decide +kernel
theorem dX11_setHas_14 : decode cX11_setHas 14 = .ok (.ireturn, 1) := by decide +kernel
theorem dX11_demandAllowed_0 : decode cX11_demandAllowed 0 = .ok (.iload_n 0, 1) := by decide +kernel
theorem dX11_demandAllowed_1 : decode cX11_demandAllowed 1 = .ok (.tableswitch 90 1 5 #[35, 46, 57, 68, 79], 35) := by decide +kernel
theorem dX11_demandAllowed_36 : decode cX11_demandAllowed 36 = .ok (.new 162, 3) := by decide +kernel
theorem dX11_demandAllowed_39 : decode cX11_demandAllowed 39 = .ok (.dup, 1) := by decide +kernel
theorem dX11_demandAllowed_40 : decode cX11_demandAllowed 40 = .ok (.ldc_w 391, 3) := by decide +kernel
theorem dX11_demandAllowed_43 : decode cX11_demandAllowed 43 = .ok (.invokespecial 166, 3) := by decide +kernel
theorem dX11_demandAllowed_46 : decode cX11_demandAllowed 46 = .ok (.athrow, 1) := by decide +kernel
theorem dX11_demandAllowed_47 : decode cX11_demandAllowed 47 = .ok (.new 348, 3) := by decide +kernel
theorem dX11_demandAllowed_50 : decode cX11_demandAllowed 50 = .ok (.dup, 1) := by decide +kernel
theorem dX11_demandAllowed_51 : decode cX11_demandAllowed 51 = .ok (.ldc_w 393, 3) := by decide +kernel
theorem dX11_demandAllowed_54 : decode cX11_demandAllowed 54 = .ok (.invokespecial 352, 3) := by decide +kernel
theorem dX11_demandAllowed_57 : decode cX11_demandAllowed 57 = .ok (.athrow, 1) := by decide +kernel
theorem dX11_demandAllowed_58 : decode cX11_demandAllowed 58 = .ok (.new 353, 3) := by decide +kernel
theorem dX11_demandAllowed_61 : decode cX11_demandAllowed 61 = .ok (.dup, 1) := by decide +kernel
theorem dX11_demandAllowed_62 : decode cX11_demandAllowed 62 = .ok (.ldc_w 395, 3) := by decide +kernel
theorem dX11_demandAllowed_65 : decode cX11_demandAllowed 65 = .ok (.invokespecial 357, 3) := by decide +kernel
theorem dX11_demandAllowed_68 : decode cX11_demandAllowed 68 = .ok (.athrow, 1) := by decide +kernel
theorem dX11_demandAllowed_69 : decode cX11_demandAllowed 69 = .ok (.new 397, 3) := by decide +kernel
theorem dX11_demandAllowed_72 : decode cX11_demandAllowed 72 = .ok (.dup, 1) := by decide +kernel
theorem dX11_demandAllowed_73 : decode cX11_demandAllowed 73 = .ok (.ldc_w 399, 3) := by decide +kernel
theorem dX11_demandAllowed_76 : decode cX11_demandAllowed 76 = .ok (.invokespecial 401, 3) := by decide +kernel
theorem dX11_demandAllowed_79 : decode cX11_demandAllowed 79 = .ok (.athrow, 1) := by decide +kernel
theorem dX11_demandAllowed_80 : decode cX11_demandAllowed 80 = .ok (.new 176, 3) := by decide +kernel
theorem dX11_demandAllowed_83 : decode cX11_demandAllowed 83 = .ok (.dup, 1) := by decide +kernel
theorem dX11_demandAllowed_84 : decode cX11_demandAllowed 84 = .ok (.ldc_w 402, 3) := by decide +kernel
theorem dX11_demandAllowed_87 : decode cX11_demandAllowed 87 = .ok (.invokespecial 180, 3) := by decide +kernel
theorem dX11_demandAllowed_90 : decode cX11_demandAllowed 90 = .ok (.athrow, 1) := by decide +kernel
theorem dX11_demandAllowed_91 : decode cX11_demandAllowed 91 = .ok (.return_, 1) := by decide +kernel
theorem dX11_demandRaw_0 : decode cX11_demandRaw 0 = .ok (.aload_n 0, 1) := by decide +kernel
theorem dX11_demandRaw_1 : decode cX11_demandRaw 1 = .ok (.getfield 10, 3) := by decide +kernel
theorem dX11_demandRaw_4 : decode cX11_demandRaw 4 = .ok (.getfield 87, 3) := by decide +kernel
theorem dX11_demandRaw_7 : decode cX11_demandRaw 7 = .ok (.iload_n 1, 1) := by decide +kernel
theorem dX11_demandRaw_8 : decode cX11_demandRaw 8 = .ok (.invokevirtual 404, 3) := by decide +kernel
theorem dX11_demandRaw_11 : decode cX11_demandRaw 11 = .ok (.ifCond .ne 14, 3) := by decide +kernel
theorem dX11_demandRaw_14 : decode cX11_demandRaw 14 = .ok (.new 162, 3) := by decide +kernel
theorem dX11_demandRaw_17 : decode cX11_demandRaw 17 = .ok (.dup, 1) := by decide +kernel
theorem dX11_demandRaw_18 : decode cX11_demandRaw 18 = .ok (.ldc_w 407, 3) := by decide +kernel
theorem dX11_demandRaw_21 : decode cX11_demandRaw 21 = .ok (.invokespecial 166, 3) := by decide +kernel
theorem dX11_demandRaw_24 : decode cX11_demandRaw 24 = .ok (.athrow, 1) := by decide +kernel
theorem dX11_demandRaw_25 : decode cX11_demandRaw 25 = .ok (.return_, 1) := by decide +kernel
theorem dX11_demandBatch_0 : decode cX11_demandBatch 0 = .ok (.aload_n 0, 1) := by decide +kernel
theorem dX11_demandBatch_1 : decode cX11_demandBatch 1 = .ok (.getfield 10, 3) := by decide +kernel
theorem dX11_demandBatch_4 : decode cX11_demandBatch 4 = .ok (.getfield 87, 3) := by decide +kernel
theorem dX11_demandBatch_7 : decode cX11_demandBatch 7 = .ok (.iload_n 1, 1) := by decide +kernel
theorem dX11_demandBatch_8 : decode cX11_demandBatch 8 = .ok (.invokevirtual 409, 3) := by decide +kernel
theorem dX11_demandBatch_11 : decode cX11_demandBatch 11 = .ok (.ifCond .ne 14, 3) := by decide +kernel
theorem dX11_demandBatch_14 : decode cX11_demandBatch 14 = .ok (.new 162, 3) := by decide +kernel
theorem dX11_demandBatch_17 : decode cX11_demandBatch 17 = .ok (.dup, 1) := by decide +kernel
theorem dX11_demandBatch_18 : decode cX11_demandBatch 18 = .ok (.ldc_w 412, 3) := by decide +kernel
theorem dX11_demandBatch_21 : decode cX11_demandBatch 21 = .ok (.invokespecial 166, 3) := by decide +kernel
theorem dX11_demandBatch_24 : decode cX11_demandBatch 24 = .ok (.athrow, 1) := by decide +kernel
theorem dX11_demandBatch_25 : decode cX11_demandBatch 25 = .ok (.return_, 1) := by decide +kernel
theorem dX11_demandLabel_0 : decode cX11_demandLabel 0 = .ok (.aload_n 0, 1) := by decide +kernel
theorem dX11_demandLabel_1 : decode cX11_demandLabel 1 = .ok (.getfield 10, 3) := by decide +kernel
theorem dX11_demandLabel_4 : decode cX11_demandLabel 4 = .ok (.getfield 140, 3) := by decide +kernel
theorem dX11_demandLabel_7 : decode cX11_demandLabel 7 = .ok (.iload_n 1, 1) := by decide +kernel
theorem dX11_demandLabel_8 : decode cX11_demandLabel 8 = .ok (.invokevirtual 414, 3) := by decide +kernel
theorem dX11_demandLabel_11 : decode cX11_demandLabel 11 = .ok (.ifCond .ne 14, 3) := by decide +kernel
theorem dX11_demandLabel_14 : decode cX11_demandLabel 14 = .ok (.new 162, 3) := by decide +kernel
theorem dX11_demandLabel_17 : decode cX11_demandLabel 17 = .ok (.dup, 1) := by decide +kernel
theorem dX11_demandLabel_18 : decode cX11_demandLabel 18 = .ok (.ldc_w 417, 3) := by decide +kernel
theorem dX11_demandLabel_21 : decode cX11_demandLabel 21 = .ok (.invokespecial 166, 3) := by decide +kernel
theorem dX11_demandLabel_24 : decode cX11_demandLabel 24 = .ok (.athrow, 1) := by decide +kernel
theorem dX11_demandLabel_25 : decode cX11_demandLabel 25 = .ok (.return_, 1) := by decide +kernel
theorem dX11_demandLot_0 : decode cX11_demandLot 0 = .ok (.aload_n 0, 1) := by decide +kernel
theorem dX11_demandLot_1 : decode cX11_demandLot 1 = .ok (.getfield 10, 3) := by decide +kernel
theorem dX11_demandLot_4 : decode cX11_demandLot 4 = .ok (.getfield 216, 3) := by decide +kernel
theorem dX11_demandLot_7 : decode cX11_demandLot 7 = .ok (.iload_n 1, 1) := by decide +kernel
theorem dX11_demandLot_8 : decode cX11_demandLot 8 = .ok (.invokevirtual 419, 3) := by decide +kernel
theorem dX11_demandLot_11 : decode cX11_demandLot 11 = .ok (.istore_n 2, 1) := by decide +kernel
theorem dX11_demandLot_12 : decode cX11_demandLot 12 = .ok (.iload_n 2, 1) := by decide +kernel
theorem dX11_demandLot_13 : decode cX11_demandLot 13 = .ok (.iconst (-1), 1) := by decide +kernel
theorem dX11_demandLot_14 : decode cX11_demandLot 14 = .ok (.if_icmp .ne 14, 3) := by decide +kernel
theorem dX11_demandLot_17 : decode cX11_demandLot 17 = .ok (.new 176, 3) := by decide +kernel
theorem dX11_demandLot_20 : decode cX11_demandLot 20 = .ok (.dup, 1) := by decide +kernel
theorem dX11_demandLot_21 : decode cX11_demandLot 21 = .ok (.ldc_w 402, 3) := by decide +kernel
theorem dX11_demandLot_24 : decode cX11_demandLot 24 = .ok (.invokespecial 180, 3) := by decide +kernel
theorem dX11_demandLot_27 : decode cX11_demandLot 27 = .ok (.athrow, 1) := by decide +kernel
theorem dX11_demandLot_28 : decode cX11_demandLot 28 = .ok (.iload_n 2, 1) := by decide +kernel
theorem dX11_demandLot_29 : decode cX11_demandLot 29 = .ok (.ireturn, 1) := by decide +kernel
theorem dX11_demandScannedText_0 : decode cX11_demandScannedText 0 = .ok (.aload_n 0, 1) := by decide +kernel
theorem dX11_demandScannedText_1 : decode cX11_demandScannedText 1 = .ok (.getfield 34, 3) := by decide +kernel
theorem dX11_demandScannedText_4 : decode cX11_demandScannedText 4 = .ok (.bipush 12, 2) := by decide +kernel
theorem dX11_demandScannedText_6 : decode cX11_demandScannedText 6 = .ok (.invokevirtual 422, 3) := by decide +kernel
theorem dX11_demandScannedText_9 : decode cX11_demandScannedText 9 = .ok (.ifCond .ne 14, 3) := by decide +kernel
theorem dX11_demandScannedText_12 : decode cX11_demandScannedText 12 = .ok (.new 348, 3) := by decide +kernel
theorem dX11_demandScannedText_15 : decode cX11_demandScannedText 15 = .ok (.dup, 1) := by decide +kernel
theorem dX11_demandScannedText_16 : decode cX11_demandScannedText 16 = .ok (.ldc_w 425, 3) := by decide +kernel
theorem dX11_demandScannedText_19 : decode cX11_demandScannedText 19 = .ok (.invokespecial 352, 3) := by decide +kernel
theorem dX11_demandScannedText_22 : decode cX11_demandScannedText 22 = .ok (.athrow, 1) := by decide +kernel
theorem dX11_demandScannedText_23 : decode cX11_demandScannedText 23 = .ok (.return_, 1) := by decide +kernel
theorem dX11_demandCapacity_0 : decode cX11_demandCapacity 0 = .ok (.iload_n 0, 1) := by decide +kernel
theorem dX11_demandCapacity_1 : decode cX11_demandCapacity 1 = .ok (.bipush 9, 2) := by decide +kernel
theorem dX11_demandCapacity_3 : decode cX11_demandCapacity 3 = .ok (.if_icmp .lt 9, 3) := by decide +kernel
theorem dX11_demandCapacity_6 : decode cX11_demandCapacity 6 = .ok (.iload_n 0, 1) := by decide +kernel
theorem dX11_demandCapacity_7 : decode cX11_demandCapacity 7 = .ok (.bipush 40, 2) := by decide +kernel
theorem dX11_demandCapacity_9 : decode cX11_demandCapacity 9 = .ok (.if_icmp .le 14, 3) := by decide +kernel
theorem dX11_demandCapacity_12 : decode cX11_demandCapacity 12 = .ok (.new 348, 3) := by decide +kernel
theorem dX11_demandCapacity_15 : decode cX11_demandCapacity 15 = .ok (.dup, 1) := by decide +kernel
theorem dX11_demandCapacity_16 : decode cX11_demandCapacity 16 = .ok (.ldc_w 427, 3) := by decide +kernel
theorem dX11_demandCapacity_19 : decode cX11_demandCapacity 19 = .ok (.invokespecial 352, 3) := by decide +kernel
theorem dX11_demandCapacity_22 : decode cX11_demandCapacity 22 = .ok (.athrow, 1) := by decide +kernel
theorem dX11_demandCapacity_23 : decode cX11_demandCapacity 23 = .ok (.return_, 1) := by decide +kernel
theorem dX11_takeWord_0 : decode cX11_takeWord 0 = .ok (.aload_n 0, 1) := by decide +kernel
theorem dX11_takeWord_1 : decode cX11_takeWord 1 = .ok (.getfield 41, 3) := by decide +kernel
theorem dX11_takeWord_4 : decode cX11_takeWord 4 = .ok (.invokevirtual 150, 3) := by decide +kernel
theorem dX11_takeWord_7 : decode cX11_takeWord 7 = .ok (.aload_n 0, 1) := by decide +kernel
theorem dX11_takeWord_8 : decode cX11_takeWord 8 = .ok (.getfield 10, 3) := by decide +kernel
theorem dX11_takeWord_11 : decode cX11_takeWord 11 = .ok (.getfield 140, 3) := by decide +kernel
theorem dX11_takeWord_14 : decode cX11_takeWord 14 = .ok (.iload_n 1, 1) := by decide +kernel
theorem dX11_takeWord_15 : decode cX11_takeWord 15 = .ok (.aload_n 0, 1) := by decide +kernel
theorem dX11_takeWord_16 : decode cX11_takeWord 16 = .ok (.getfield 41, 3) := by decide +kernel
theorem dX11_takeWord_19 : decode cX11_takeWord 19 = .ok (.invokevirtual 319, 3) := by decide +kernel
theorem dX11_takeWord_22 : decode cX11_takeWord 22 = .ok (.return_, 1) := by decide +kernel
theorem dX11_tableDistance_0 : decode cX11_tableDistance 0 = .ok (.aload_n 0, 1) := by decide +kernel
theorem dX11_tableDistance_1 : decode cX11_tableDistance 1 = .ok (.iload_n 1, 1) := by decide +kernel
theorem dX11_tableDistance_2 : decode cX11_tableDistance 2 = .ok (.invokevirtual 184, 3) := by decide +kernel
theorem dX11_tableDistance_5 : decode cX11_tableDistance 5 = .ok (.aload_n 0, 1) := by decide +kernel
theorem dX11_tableDistance_6 : decode cX11_tableDistance 6 = .ok (.getfield 54, 3) := by decide +kernel
theorem dX11_tableDistance_9 : decode cX11_tableDistance 9 = .ok (.aload_n 0, 1) := by decide +kernel
theorem dX11_tableDistance_10 : decode cX11_tableDistance 10 = .ok (.getfield 34, 3) := by decide +kernel
theorem dX11_tableDistance_13 : decode cX11_tableDistance 13 = .ok (.aload_n 0, 1) := by decide +kernel
theorem dX11_tableDistance_14 : decode cX11_tableDistance 14 = .ok (.getfield 41, 3) := by decide +kernel
theorem dX11_tableDistance_17 : decode cX11_tableDistance 17 = .ok (.invokevirtual 429, 3) := by decide +kernel
theorem dX11_tableDistance_20 : decode cX11_tableDistance 20 = .ok (.ireturn, 1) := by decide +kernel
theorem dX11_signOfRaw_0 : decode cX11_signOfRaw 0 = .ok (.aload_n 0, 1) := by decide +kernel
theorem dX11_signOfRaw_1 : decode cX11_signOfRaw 1 = .ok (.getfield 10, 3) := by decide +kernel
theorem dX11_signOfRaw_4 : decode cX11_signOfRaw 4 = .ok (.getfield 87, 3) := by decide +kernel
theorem dX11_signOfRaw_7 : decode cX11_signOfRaw 7 = .ok (.iload_n 1, 1) := by decide +kernel
theorem dX11_signOfRaw_8 : decode cX11_signOfRaw 8 = .ok (.invokevirtual 112, 3) := by decide +kernel
theorem dX11_signOfRaw_11 : decode cX11_signOfRaw 11 = .ok (.ifCond .eq 6, 3) := by decide +kernel
theorem dX11_signOfRaw_14 : decode cX11_signOfRaw 14 = .ok (.bipush 120, 2) := by decide +kernel
theorem dX11_signOfRaw_16 : decode cX11_signOfRaw 16 = .ok (.ireturn, 1) := by decide +kernel
theorem dX11_signOfRaw_17 : decode cX11_signOfRaw 17 = .ok (.iload_n 2, 1) := by decide +kernel
theorem dX11_signOfRaw_18 : decode cX11_signOfRaw 18 = .ok (.iload_n 1, 1) := by decide +kernel
theorem dX11_signOfRaw_19 : decode cX11_signOfRaw 19 = .ok (.invokestatic 132, 3) := by decide +kernel
theorem dX11_signOfRaw_22 : decode cX11_signOfRaw 22 = .ok (.ifCond .eq 8, 3) := by decide +kernel
theorem dX11_signOfRaw_25 : decode cX11_signOfRaw 25 = .ok (.bipush 42, 2) := by decide +kernel
theorem dX11_signOfRaw_27 : decode cX11_signOfRaw 27 = .ok (.goto 5, 3) := by decide +kernel
theorem dX11_signOfRaw_30 : decode cX11_signOfRaw 30 = .ok (.bipush 46, 2) := by decide +kernel
theorem dX11_signOfRaw_32 : decode cX11_signOfRaw 32 = .ok (.ireturn, 1) := by decide +kernel
theorem dX11_recallsAgree_0 : decode cX11_recallsAgree 0 = .ok (.iconst 0, 1) := by decide +kernel
theorem dX11_recallsAgree_1 : decode cX11_recallsAgree 1 = .ok (.istore_n 1, 1) := by decide +kernel
theorem dX11_recallsAgree_2 : decode cX11_recallsAgree 2 = .ok (.iload_n 1, 1) := by decide +kernel
theorem dX11_recallsAgree_3 : decode cX11_recallsAgree 3 = .ok (.aload_n 0, 1) := by decide +kernel
theorem dX11_recallsAgree_4 : decode cX11_recallsAgree 4 = .ok (.getfield 10, 3) := by decide +kernel
theorem dX11_recallsAgree_7 : decode cX11_recallsAgree 7 = .ok (.getfield 87, 3) := by decide +kernel
theorem dX11_recallsAgree_10 : decode cX11_recallsAgree 10 = .ok (.getfield 103, 3) := by decide +kernel
theorem dX11_recallsAgree_13 : decode cX11_recallsAgree 13 = .ok (.if_icmp .ge 30, 3) := by decide +kernel
theorem dX11_recallsAgree_16 : decode cX11_recallsAgree 16 = .ok (.aload_n 0, 1) := by decide +kernel
theorem dX11_recallsAgree_17 : decode cX11_recallsAgree 17 = .ok (.getfield 10, 3) := by decide +kernel
theorem dX11_recallsAgree_20 : decode cX11_recallsAgree 20 = .ok (.iload_n 1, 1) := by decide +kernel
theorem dX11_recallsAgree_21 : decode cX11_recallsAgree 21 = .ok (.invokevirtual 256, 3) := by decide +kernel
theorem dX11_recallsAgree_24 : decode cX11_recallsAgree 24 = .ok (.aload_n 0, 1) := by decide +kernel
theorem dX11_recallsAgree_25 : decode cX11_recallsAgree 25 = .ok (.getfield 10, 3) := by decide +kernel
theorem dX11_recallsAgree_28 : decode cX11_recallsAgree 28 = .ok (.iload_n 1, 1) := by decide +kernel
theorem dX11_recallsAgree_29 : decode cX11_recallsAgree 29 = .ok (.invokevirtual 259, 3) := by decide +kernel
theorem dX11_recallsAgree_32 : decode cX11_recallsAgree 32 = .ok (.if_icmp .eq 5, 3) := by decide +kernel
theorem dX11_recallsAgree_35 : decode cX11_recallsAgree 35 = .ok (.iconst 0, 1) := by decide +kernel
theorem dX11_recallsAgree_36 : decode cX11_recallsAgree 36 = .ok (.ireturn, 1) := by decide +kernel
theorem dX11_recallsAgree_37 : decode cX11_recallsAgree 37 = .ok (.iinc 1 1, 3) := by decide +kernel
theorem dX11_recallsAgree_40 : decode cX11_recallsAgree 40 = .ok (.goto (-38), 3) := by decide +kernel
theorem dX11_recallsAgree_43 : decode cX11_recallsAgree 43 = .ok (.iconst 1, 1) := by decide +kernel
theorem dX11_recallsAgree_44 : decode cX11_recallsAgree 44 = .ok (.ireturn, 1) := by decide +kernel
theorem dX11_popsAgree_0 : decode cX11_popsAgree 0 = .ok (.iconst 0, 1) := by decide +kernel
theorem dX11_popsAgree_1 : decode cX11_popsAgree 1 = .ok (.istore_n 1, 1) := by decide +kernel
theorem dX11_popsAgree_2 : decode cX11_popsAgree 2 = .ok (.iload_n 1, 1) := by decide +kernel
theorem dX11_popsAgree_3 : decode cX11_popsAgree 3 = .ok (.aload_n 0, 1) := by decide +kernel
theorem dX11_popsAgree_4 : decode cX11_popsAgree 4 = .ok (.getfield 10, 3) := by decide +kernel
theorem dX11_popsAgree_7 : decode cX11_popsAgree 7 = .ok (.getfield 216, 3) := by decide +kernel
theorem dX11_popsAgree_10 : decode cX11_popsAgree 10 = .ok (.getfield 220, 3) := by decide +kernel
theorem dX11_popsAgree_13 : decode cX11_popsAgree 13 = .ok (.if_icmp .ge 30, 3) := by decide +kernel
theorem dX11_popsAgree_16 : decode cX11_popsAgree 16 = .ok (.aload_n 0, 1) := by decide +kernel
theorem dX11_popsAgree_17 : decode cX11_popsAgree 17 = .ok (.getfield 10, 3) := by decide +kernel
theorem dX11_popsAgree_20 : decode cX11_popsAgree 20 = .ok (.iload_n 1, 1) := by decide +kernel
theorem dX11_popsAgree_21 : decode cX11_popsAgree 21 = .ok (.invokevirtual 245, 3) := by decide +kernel
theorem dX11_popsAgree_24 : decode cX11_popsAgree 24 = .ok (.aload_n 0, 1) := by decide +kernel
theorem dX11_popsAgree_25 : decode cX11_popsAgree 25 = .ok (.getfield 10, 3) := by decide +kernel
theorem dX11_popsAgree_28 : decode cX11_popsAgree 28 = .ok (.iload_n 1, 1) := by decide +kernel
theorem dX11_popsAgree_29 : decode cX11_popsAgree 29 = .ok (.invokevirtual 248, 3) := by decide +kernel
theorem dX11_popsAgree_32 : decode cX11_popsAgree 32 = .ok (.if_icmp .eq 5, 3) := by decide +kernel
theorem dX11_popsAgree_35 : decode cX11_popsAgree 35 = .ok (.iconst 0, 1) := by decide +kernel
theorem dX11_popsAgree_36 : decode cX11_popsAgree 36 = .ok (.ireturn, 1) := by decide +kernel
theorem dX11_popsAgree_37 : decode cX11_popsAgree 37 = .ok (.iinc 1 1, 3) := by decide +kernel
theorem dX11_popsAgree_40 : decode cX11_popsAgree 40 = .ok (.goto (-38), 3) := by decide +kernel
theorem dX11_popsAgree_43 : decode cX11_popsAgree 43 = .ok (.iconst 1, 1) := by decide +kernel
theorem dX11_popsAgree_44 : decode cX11_popsAgree 44 = .ok (.ireturn, 1) := by decide +kernel
theorem dX11_cratesAgree_0 : decode cX11_cratesAgree 0 = .ok (.aload_n 0, 1) := by decide +kernel
theorem dX11_cratesAgree_1 : decode cX11_cratesAgree 1 = .ok (.getfield 61, 3) := by decide +kernel
theorem dX11_cratesAgree_4 : decode cX11_cratesAgree 4 = .ok (.aload_n 0, 1) := by decide +kernel
theorem dX11_cratesAgree_5 : decode cX11_cratesAgree 5 = .ok (.getfield 10, 3) := by decide +kernel
theorem dX11_cratesAgree_8 : decode cX11_cratesAgree 8 = .ok (.getfield 216, 3) := by decide +kernel
theorem dX11_cratesAgree_11 : decode cX11_cratesAgree 11 = .ok (.iload_n 1, 1) := by decide +kernel
theorem dX11_cratesAgree_12 : decode cX11_cratesAgree 12 = .ok (.invokevirtual 265, 3) := by decide +kernel
theorem dX11_cratesAgree_15 : decode cX11_cratesAgree 15 = .ok (.aload_n 0, 1) := by decide +kernel
theorem dX11_cratesAgree_16 : decode cX11_cratesAgree 16 = .ok (.getfield 61, 3) := by decide +kernel
theorem dX11_cratesAgree_19 : decode cX11_cratesAgree 19 = .ok (.aload_n 0, 1) := by decide +kernel
theorem dX11_cratesAgree_20 : decode cX11_cratesAgree 20 = .ok (.getfield 10, 3) := by decide +kernel
theorem dX11_cratesAgree_23 : decode cX11_cratesAgree 23 = .ok (.getfield 216, 3) := by decide +kernel
theorem dX11_cratesAgree_26 : decode cX11_cratesAgree 26 = .ok (.iload_n 1, 1) := by decide +kernel
theorem dX11_cratesAgree_27 : decode cX11_cratesAgree 27 = .ok (.invokevirtual 269, 3) := by decide +kernel
theorem dX11_cratesAgree_30 : decode cX11_cratesAgree 30 = .ok (.if_icmp .ne 7, 3) := by decide +kernel
theorem dX11_cratesAgree_33 : decode cX11_cratesAgree 33 = .ok (.iconst 1, 1) := by decide +kernel
theorem dX11_cratesAgree_34 : decode cX11_cratesAgree 34 = .ok (.goto 4, 3) := by decide +kernel
theorem dX11_cratesAgree_37 : decode cX11_cratesAgree 37 = .ok (.iconst 0, 1) := by decide +kernel
theorem dX11_cratesAgree_38 : decode cX11_cratesAgree 38 = .ok (.ireturn, 1) := by decide +kernel
theorem dX11_accountsAgree_0 : decode cX11_accountsAgree 0 = .ok (.aload_n 0, 1) := by decide +kernel
theorem dX11_accountsAgree_1 : decode cX11_accountsAgree 1 = .ok (.getfield 10, 3) := by decide +kernel
theorem dX11_accountsAgree_4 : decode cX11_accountsAgree 4 = .ok (.getfield 296, 3) := by decide +kernel
theorem dX11_accountsAgree_7 : decode cX11_accountsAgree 7 = .ok (.aload_n 0, 1) := by decide +kernel
theorem dX11_accountsAgree_8 : decode cX11_accountsAgree 8 = .ok (.getfield 10, 3) := by decide +kernel
theorem dX11_accountsAgree_11 : decode cX11_accountsAgree 11 = .ok (.getfield 299, 3) := by decide +kernel
theorem dX11_accountsAgree_14 : decode cX11_accountsAgree 14 = .ok (.iadd, 1) := by decide +kernel
theorem dX11_accountsAgree_15 : decode cX11_accountsAgree 15 = .ok (.aload_n 0, 1) := by decide +kernel
theorem dX11_accountsAgree_16 : decode cX11_accountsAgree 16 = .ok (.getfield 10, 3) := by decide +kernel
theorem dX11_accountsAgree_19 : decode cX11_accountsAgree 19 = .ok (.getfield 302, 3) := by decide +kernel
theorem dX11_accountsAgree_22 : decode cX11_accountsAgree 22 = .ok (.iadd, 1) := by decide +kernel
theorem dX11_accountsAgree_23 : decode cX11_accountsAgree 23 = .ok (.istore_n 1, 1) := by decide +kernel
theorem dX11_accountsAgree_24 : decode cX11_accountsAgree 24 = .ok (.aload_n 0, 1) := by decide +kernel
theorem dX11_accountsAgree_25 : decode cX11_accountsAgree 25 = .ok (.getfield 10, 3) := by decide +kernel
theorem dX11_accountsAgree_28 : decode cX11_accountsAgree 28 = .ok (.getfield 289, 3) := by decide +kernel
theorem dX11_accountsAgree_31 : decode cX11_accountsAgree 31 = .ok (.aload_n 0, 1) := by decide +kernel
theorem dX11_accountsAgree_32 : decode cX11_accountsAgree 32 = .ok (.getfield 10, 3) := by decide +kernel
theorem dX11_accountsAgree_35 : decode cX11_accountsAgree 35 = .ok (.getfield 216, 3) := by decide +kernel
theorem dX11_accountsAgree_38 : decode cX11_accountsAgree 38 = .ok (.aload_n 0, 1) := by decide +kernel
theorem dX11_accountsAgree_39 : decode cX11_accountsAgree 39 = .ok (.getfield 10, 3) := by decide +kernel
theorem dX11_accountsAgree_42 : decode cX11_accountsAgree 42 = .ok (.getfield 216, 3) := by decide +kernel
theorem dX11_accountsAgree_45 : decode cX11_accountsAgree 45 = .ok (.getfield 228, 3) := by decide +kernel
theorem dX11_accountsAgree_48 : decode cX11_accountsAgree 48 = .ok (.invokevirtual 292, 3) := by decide +kernel
theorem dX11_accountsAgree_51 : decode cX11_accountsAgree 51 = .ok (.iload_n 1, 1) := by decide +kernel
theorem dX11_accountsAgree_52 : decode cX11_accountsAgree 52 = .ok (.iadd, 1) := by decide +kernel
theorem dX11_accountsAgree_53 : decode cX11_accountsAgree 53 = .ok (.if_icmp .ne 7, 3) := by decide +kernel
theorem dX11_accountsAgree_56 : decode cX11_accountsAgree 56 = .ok (.iconst 1, 1) := by decide +kernel
theorem dX11_accountsAgree_57 : decode cX11_accountsAgree 57 = .ok (.goto 4, 3) := by decide +kernel
theorem dX11_accountsAgree_60 : decode cX11_accountsAgree 60 = .ok (.iconst 0, 1) := by decide +kernel
theorem dX11_accountsAgree_61 : decode cX11_accountsAgree 61 = .ok (.ireturn, 1) := by decide +kernel
theorem dX11_performAll_0 : decode cX11_performAll 0 = .ok (.aload_n 0, 1) := by decide +kernel
theorem dX11_performAll_1 : decode cX11_performAll 1 = .ok (.getfield 16, 3) := by decide +kernel
theorem dX11_performAll_4 : decode cX11_performAll 4 = .ok (.aload_n 0, 1) := by decide +kernel
theorem dX11_performAll_5 : decode cX11_performAll 5 = .ok (.getfield 10, 3) := by decide +kernel
theorem dX11_performAll_8 : decode cX11_performAll 8 = .ok (.invokevirtual 383, 3) := by decide +kernel
theorem dX11_performAll_11 : decode cX11_performAll 11 = .ok (.iconst 0, 1) := by decide +kernel
theorem dX11_performAll_12 : decode cX11_performAll 12 = .ok (.istore_n 1, 1) := by decide +kernel
theorem dX11_performAll_13 : decode cX11_performAll 13 = .ok (.iload_n 1, 1) := by decide +kernel
theorem dX11_performAll_14 : decode cX11_performAll 14 = .ok (.aload_n 0, 1) := by decide +kernel
theorem dX11_performAll_15 : decode cX11_performAll 15 = .ok (.getfield 47, 3) := by decide +kernel
theorem dX11_performAll_18 : decode cX11_performAll 18 = .ok (.getfield 372, 3) := by decide +kernel
theorem dX11_performAll_21 : decode cX11_performAll 21 = .ok (.if_icmp .ge 35, 3) := by decide +kernel
theorem dX11_performAll_24 : decode cX11_performAll 24 = .ok (.aload_n 0, 1) := by decide +kernel
theorem dX11_performAll_25 : decode cX11_performAll 25 = .ok (.iload_n 1, 1) := by decide +kernel
theorem dX11_performAll_26 : decode cX11_performAll 26 = .ok (.invokevirtual 432, 3) := by decide +kernel
theorem dX11_performAll_29 : decode cX11_performAll 29 = .ok (.ifCond .eq 16, 3) := by decide +kernel
theorem dX11_performAll_32 : decode cX11_performAll 32 = .ok (.aload_n 0, 1) := by decide +kernel
theorem dX11_performAll_33 : decode cX11_performAll 33 = .ok (.getfield 10, 3) := by decide +kernel
theorem dX11_performAll_36 : decode cX11_performAll 36 = .ok (.aload_n 0, 1) := by decide +kernel
theorem dX11_performAll_37 : decode cX11_performAll 37 = .ok (.getfield 16, 3) := by decide +kernel
theorem dX11_performAll_40 : decode cX11_performAll 40 = .ok (.invokevirtual 383, 3) := by decide +kernel
theorem dX11_performAll_43 : decode cX11_performAll 43 = .ok (.iload_n 1, 1) := by decide +kernel
theorem dX11_performAll_44 : decode cX11_performAll 44 = .ok (.ireturn, 1) := by decide +kernel
theorem dX11_performAll_45 : decode cX11_performAll 45 = .ok (.aload_n 0, 1) := by decide +kernel
theorem dX11_performAll_46 : decode cX11_performAll 46 = .ok (.iload_n 1, 1) := by decide +kernel
theorem dX11_performAll_47 : decode cX11_performAll 47 = .ok (.invokevirtual 435, 3) := by decide +kernel
theorem dX11_performAll_50 : decode cX11_performAll 50 = .ok (.iinc 1 1, 3) := by decide +kernel
theorem dX11_performAll_53 : decode cX11_performAll 53 = .ok (.goto (-40), 3) := by decide +kernel
theorem dX11_performAll_56 : decode cX11_performAll 56 = .ok (.aload_n 0, 1) := by decide +kernel
theorem dX11_performAll_57 : decode cX11_performAll 57 = .ok (.getfield 25, 3) := by decide +kernel
theorem dX11_performAll_60 : decode cX11_performAll 60 = .ok (.aload_n 0, 1) := by decide +kernel
theorem dX11_performAll_61 : decode cX11_performAll 61 = .ok (.getfield 16, 3) := by decide +kernel
theorem dX11_performAll_64 : decode cX11_performAll 64 = .ok (.invokevirtual 83, 3) := by decide +kernel
theorem dX11_performAll_67 : decode cX11_performAll 67 = .ok (.iconst (-1), 1) := by decide +kernel
theorem dX11_performAll_68 : decode cX11_performAll 68 = .ok (.ireturn, 1) := by decide +kernel
theorem dX11_refusalOf_0 : decode cX11_refusalOf 0 = .ok (.aload_n 0, 1) := by decide +kernel
theorem dX11_refusalOf_1 : decode cX11_refusalOf 1 = .ok (.getfield 47, 3) := by decide +kernel
theorem dX11_refusalOf_4 : decode cX11_refusalOf 4 = .ok (.iload_n 1, 1) := by decide +kernel
theorem dX11_refusalOf_5 : decode cX11_refusalOf 5 = .ok (.iconst 0, 1) := by decide +kernel
theorem dX11_refusalOf_6 : decode cX11_refusalOf 6 = .ok (.invokevirtual 438, 3) := by decide +kernel
theorem dX11_refusalOf_9 : decode cX11_refusalOf 9 = .ok (.istore_n 2, 1) := by decide +kernel
theorem dX11_refusalOf_10 : decode cX11_refusalOf 10 = .ok (.aload_n 0, 1) := by decide +kernel
theorem dX11_refusalOf_11 : decode cX11_refusalOf 11 = .ok (.getfield 47, 3) := by decide +kernel
theorem dX11_refusalOf_14 : decode cX11_refusalOf 14 = .ok (.iload_n 1, 1) := by decide +kernel
theorem dX11_refusalOf_15 : decode cX11_refusalOf 15 = .ok (.iconst 1, 1) := by decide +kernel
theorem dX11_refusalOf_16 : decode cX11_refusalOf 16 = .ok (.invokevirtual 438, 3) := by decide +kernel
theorem dX11_refusalOf_19 : decode cX11_refusalOf 19 = .ok (.istore_n 3, 1) := by decide +kernel
theorem dX11_refusalOf_20 : decode cX11_refusalOf 20 = .ok (.aload_n 0, 1) := by decide +kernel
theorem dX11_refusalOf_21 : decode cX11_refusalOf 21 = .ok (.getfield 47, 3) := by decide +kernel
theorem dX11_refusalOf_24 : decode cX11_refusalOf 24 = .ok (.getfield 441, 3) := by decide +kernel
theorem dX11_refusalOf_27 : decode cX11_refusalOf 27 = .ok (.iload_n 1, 1) := by decide +kernel
theorem dX11_refusalOf_28 : decode cX11_refusalOf 28 = .ok (.invokevirtual 123, 3) := by decide +kernel
theorem dX11_refusalOf_31 : decode cX11_refusalOf 31 = .ok (.tableswitch 97 0 4 #[33, 41, 51, 79, 88], 33) := by decide +kernel
theorem dX11_refusalOf_64 : decode cX11_refusalOf 64 = .ok (.aload_n 0, 1) := by decide +kernel
theorem dX11_refusalOf_65 : decode cX11_refusalOf 65 = .ok (.getfield 10, 3) := by decide +kernel
theorem dX11_refusalOf_68 : decode cX11_refusalOf 68 = .ok (.invokevirtual 76, 3) := by decide +kernel
theorem dX11_refusalOf_71 : decode cX11_refusalOf 71 = .ok (.ireturn, 1) := by decide +kernel
theorem dX11_refusalOf_72 : decode cX11_refusalOf 72 = .ok (.aload_n 0, 1) := by decide +kernel
theorem dX11_refusalOf_73 : decode cX11_refusalOf 73 = .ok (.getfield 10, 3) := by decide +kernel
theorem dX11_refusalOf_76 : decode cX11_refusalOf 76 = .ok (.iload_n 2, 1) := by decide +kernel
theorem dX11_refusalOf_77 : decode cX11_refusalOf 77 = .ok (.iload_n 3, 1) := by decide +kernel
theorem dX11_refusalOf_78 : decode cX11_refusalOf 78 = .ok (.invokevirtual 96, 3) := by decide +kernel
theorem dX11_refusalOf_81 : decode cX11_refusalOf 81 = .ok (.ireturn, 1) := by decide +kernel
theorem dX11_refusalOf_82 : decode cX11_refusalOf 82 = .ok (.aload_n 0, 1) := by decide +kernel
theorem dX11_refusalOf_83 : decode cX11_refusalOf 83 = .ok (.getfield 10, 3) := by decide +kernel
theorem dX11_refusalOf_86 : decode cX11_refusalOf 86 = .ok (.iload_n 2, 1) := by decide +kernel
theorem dX11_refusalOf_87 : decode cX11_refusalOf 87 = .ok (.iload_n 3, 1) := by decide +kernel
theorem dX11_refusalOf_88 : decode cX11_refusalOf 88 = .ok (.aload_n 0, 1) := by decide +kernel
theorem dX11_refusalOf_89 : decode cX11_refusalOf 89 = .ok (.getfield 47, 3) := by decide +kernel
theorem dX11_refusalOf_92 : decode cX11_refusalOf 92 = .ok (.iload_n 1, 1) := by decide +kernel
theorem dX11_refusalOf_93 : decode cX11_refusalOf 93 = .ok (.iconst 2, 1) := by decide +kernel
theorem dX11_refusalOf_94 : decode cX11_refusalOf 94 = .ok (.invokevirtual 438, 3) := by decide +kernel
theorem dX11_refusalOf_97 : decode cX11_refusalOf 97 = .ok (.aload_n 0, 1) := by decide +kernel
theorem dX11_refusalOf_98 : decode cX11_refusalOf 98 = .ok (.getfield 47, 3) := by decide +kernel
theorem dX11_refusalOf_101 : decode cX11_refusalOf 101 = .ok (.iload_n 1, 1) := by decide +kernel
theorem dX11_refusalOf_102 : decode cX11_refusalOf 102 = .ok (.iconst 3, 1) := by decide +kernel
theorem dX11_refusalOf_103 : decode cX11_refusalOf 103 = .ok (.invokevirtual 438, 3) := by decide +kernel
theorem dX11_refusalOf_106 : decode cX11_refusalOf 106 = .ok (.invokevirtual 191, 3) := by decide +kernel
theorem dX11_refusalOf_109 : decode cX11_refusalOf 109 = .ok (.ireturn, 1) := by decide +kernel
theorem dX11_refusalOf_110 : decode cX11_refusalOf 110 = .ok (.aload_n 0, 1) := by decide +kernel
theorem dX11_refusalOf_111 : decode cX11_refusalOf 111 = .ok (.getfield 10, 3) := by decide +kernel
theorem dX11_refusalOf_114 : decode cX11_refusalOf 114 = .ok (.iload_n 2, 1) := by decide +kernel
theorem dX11_refusalOf_115 : decode cX11_refusalOf 115 = .ok (.invokevirtual 198, 3) := by decide +kernel
theorem dX11_refusalOf_118 : decode cX11_refusalOf 118 = .ok (.ireturn, 1) := by decide +kernel
theorem dX11_refusalOf_119 : decode cX11_refusalOf 119 = .ok (.aload_n 0, 1) := by decide +kernel
theorem dX11_refusalOf_120 : decode cX11_refusalOf 120 = .ok (.getfield 10, 3) := by decide +kernel
theorem dX11_refusalOf_123 : decode cX11_refusalOf 123 = .ok (.iload_n 2, 1) := by decide +kernel
theorem dX11_refusalOf_124 : decode cX11_refusalOf 124 = .ok (.invokevirtual 204, 3) := by decide +kernel
theorem dX11_refusalOf_127 : decode cX11_refusalOf 127 = .ok (.ireturn, 1) := by decide +kernel
theorem dX11_refusalOf_128 : decode cX11_refusalOf 128 = .ok (.aload_n 0, 1) := by decide +kernel
theorem dX11_refusalOf_129 : decode cX11_refusalOf 129 = .ok (.getfield 10, 3) := by decide +kernel
theorem dX11_refusalOf_132 : decode cX11_refusalOf 132 = .ok (.iload_n 2, 1) := by decide +kernel
theorem dX11_refusalOf_133 : decode cX11_refusalOf 133 = .ok (.invokevirtual 210, 3) := by decide +kernel
theorem dX11_refusalOf_136 : decode cX11_refusalOf 136 = .ok (.ireturn, 1) := by decide +kernel
theorem dX11_perform_0 : decode cX11_perform 0 = .ok (.aload_n 0, 1) := by decide +kernel
theorem dX11_perform_1 : decode cX11_perform 1 = .ok (.getfield 47, 3) := by decide +kernel
theorem dX11_perform_4 : decode cX11_perform 4 = .ok (.iload_n 1, 1) := by decide +kernel
theorem dX11_perform_5 : decode cX11_perform 5 = .ok (.iconst 0, 1) := by decide +kernel
theorem dX11_perform_6 : decode cX11_perform 6 = .ok (.invokevirtual 438, 3) := by decide +kernel
theorem dX11_perform_9 : decode cX11_perform 9 = .ok (.istore_n 2, 1) := by decide +kernel
theorem dX11_perform_10 : decode cX11_perform 10 = .ok (.aload_n 0, 1) := by decide +kernel
theorem dX11_perform_11 : decode cX11_perform 11 = .ok (.getfield 47, 3) := by decide +kernel
theorem dX11_perform_14 : decode cX11_perform 14 = .ok (.iload_n 1, 1) := by decide +kernel
theorem dX11_perform_15 : decode cX11_perform 15 = .ok (.iconst 1, 1) := by decide +kernel
theorem dX11_perform_16 : decode cX11_perform 16 = .ok (.invokevirtual 438, 3) := by decide +kernel
theorem dX11_perform_19 : decode cX11_perform 19 = .ok (.istore_n 3, 1) := by decide +kernel
theorem dX11_perform_20 : decode cX11_perform 20 = .ok (.aload_n 0, 1) := by decide +kernel
theorem dX11_perform_21 : decode cX11_perform 21 = .ok (.getfield 47, 3) := by decide +kernel
theorem dX11_perform_24 : decode cX11_perform 24 = .ok (.getfield 441, 3) := by decide +kernel
theorem dX11_perform_27 : decode cX11_perform 27 = .ok (.iload_n 1, 1) := by decide +kernel
theorem dX11_perform_28 : decode cX11_perform 28 = .ok (.invokevirtual 123, 3) := by decide +kernel
theorem dX11_perform_31 : decode cX11_perform 31 = .ok (.tableswitch 118 0 4 #[33, 47, 63, 94, 106], 33) := by decide +kernel
theorem dX11_perform_64 : decode cX11_perform 64 = .ok (.aload_n 0, 1) := by decide +kernel
theorem dX11_perform_65 : decode cX11_perform 65 = .ok (.getfield 10, 3) := by decide +kernel
theorem dX11_perform_68 : decode cX11_perform 68 = .ok (.getfield 87, 3) := by decide +kernel
theorem dX11_perform_71 : decode cX11_perform 71 = .ok (.invokevirtual 91, 3) := by decide +kernel
theorem dX11_perform_74 : decode cX11_perform 74 = .ok (.pop, 1) := by decide +kernel
theorem dX11_perform_75 : decode cX11_perform 75 = .ok (.goto 83, 3) := by decide +kernel
theorem dX11_perform_78 : decode cX11_perform 78 = .ok (.aload_n 0, 1) := by decide +kernel
theorem dX11_perform_79 : decode cX11_perform 79 = .ok (.getfield 10, 3) := by decide +kernel
theorem dX11_perform_82 : decode cX11_perform 82 = .ok (.getfield 87, 3) := by decide +kernel
theorem dX11_perform_85 : decode cX11_perform 85 = .ok (.iload_n 2, 1) := by decide +kernel
theorem dX11_perform_86 : decode cX11_perform 86 = .ok (.iload_n 3, 1) := by decide +kernel
theorem dX11_perform_87 : decode cX11_perform 87 = .ok (.invokevirtual 100, 3) := by decide +kernel
theorem dX11_perform_90 : decode cX11_perform 90 = .ok (.pop, 1) := by decide +kernel
theorem dX11_perform_91 : decode cX11_perform 91 = .ok (.goto 67, 3) := by decide +kernel
theorem dX11_perform_94 : decode cX11_perform 94 = .ok (.aload_n 0, 1) := by decide +kernel
theorem dX11_perform_95 : decode cX11_perform 95 = .ok (.getfield 10, 3) := by decide +kernel
theorem dX11_perform_98 : decode cX11_perform 98 = .ok (.iload_n 2, 1) := by decide +kernel
theorem dX11_perform_99 : decode cX11_perform 99 = .ok (.iload_n 3, 1) := by decide +kernel
theorem dX11_perform_100 : decode cX11_perform 100 = .ok (.aload_n 0, 1) := by decide +kernel
theorem dX11_perform_101 : decode cX11_perform 101 = .ok (.getfield 47, 3) := by decide +kernel
theorem dX11_perform_104 : decode cX11_perform 104 = .ok (.iload_n 1, 1) := by decide +kernel
theorem dX11_perform_105 : decode cX11_perform 105 = .ok (.iconst 2, 1) := by decide +kernel
theorem dX11_perform_106 : decode cX11_perform 106 = .ok (.invokevirtual 438, 3) := by decide +kernel
theorem dX11_perform_109 : decode cX11_perform 109 = .ok (.aload_n 0, 1) := by decide +kernel
theorem dX11_perform_110 : decode cX11_perform 110 = .ok (.getfield 47, 3) := by decide +kernel
theorem dX11_perform_113 : decode cX11_perform 113 = .ok (.iload_n 1, 1) := by decide +kernel
theorem dX11_perform_114 : decode cX11_perform 114 = .ok (.iconst 3, 1) := by decide +kernel
theorem dX11_perform_115 : decode cX11_perform 115 = .ok (.invokevirtual 438, 3) := by decide +kernel
theorem dX11_perform_118 : decode cX11_perform 118 = .ok (.invokevirtual 195, 3) := by decide +kernel
theorem dX11_perform_121 : decode cX11_perform 121 = .ok (.pop, 1) := by decide +kernel
theorem dX11_perform_122 : decode cX11_perform 122 = .ok (.goto 36, 3) := by decide +kernel
theorem dX11_perform_125 : decode cX11_perform 125 = .ok (.aload_n 0, 1) := by decide +kernel
theorem dX11_perform_126 : decode cX11_perform 126 = .ok (.getfield 10, 3) := by decide +kernel
theorem dX11_perform_129 : decode cX11_perform 129 = .ok (.iload_n 2, 1) := by decide +kernel
theorem dX11_perform_130 : decode cX11_perform 130 = .ok (.invokevirtual 201, 3) := by decide +kernel
theorem dX11_perform_133 : decode cX11_perform 133 = .ok (.pop, 1) := by decide +kernel
theorem dX11_perform_134 : decode cX11_perform 134 = .ok (.goto 24, 3) := by decide +kernel
theorem dX11_perform_137 : decode cX11_perform 137 = .ok (.aload_n 0, 1) := by decide +kernel
theorem dX11_perform_138 : decode cX11_perform 138 = .ok (.getfield 10, 3) := by decide +kernel
theorem dX11_perform_141 : decode cX11_perform 141 = .ok (.iload_n 2, 1) := by decide +kernel
theorem dX11_perform_142 : decode cX11_perform 142 = .ok (.invokevirtual 207, 3) := by decide +kernel
theorem dX11_perform_145 : decode cX11_perform 145 = .ok (.pop, 1) := by decide +kernel
theorem dX11_perform_146 : decode cX11_perform 146 = .ok (.goto 12, 3) := by decide +kernel
theorem dX11_perform_149 : decode cX11_perform 149 = .ok (.aload_n 0, 1) := by decide +kernel
theorem dX11_perform_150 : decode cX11_perform 150 = .ok (.getfield 10, 3) := by decide +kernel
theorem dX11_perform_153 : decode cX11_perform 153 = .ok (.iload_n 2, 1) := by decide +kernel
theorem dX11_perform_154 : decode cX11_perform 154 = .ok (.invokevirtual 213, 3) := by decide +kernel
theorem dX11_perform_157 : decode cX11_perform 157 = .ok (.pop, 1) := by decide +kernel
theorem dX11_perform_158 : decode cX11_perform 158 = .ok (.return_, 1) := by decide +kernel
theorem dX12_init_0 : decode cX12_init 0 = .ok (.aload_n 0, 1) := by decide +kernel
theorem dX12_init_1 : decode cX12_init 1 = .ok (.invokespecial 1, 3) := by decide +kernel
theorem dX12_init_4 : decode cX12_init 4 = .ok (.aload_n 0, 1) := by decide +kernel
theorem dX12_init_5 : decode cX12_init 5 = .ok (.bipush 127, 2) := by decide +kernel
theorem dX12_init_7 : decode cX12_init 7 = .ok (.newarray .int, 2) := by decide +kernel
theorem dX12_init_9 : decode cX12_init 9 = .ok (.putfield 7, 3) := by decide +kernel
theorem dX12_init_12 : decode cX12_init 12 = .ok (.aload_n 0, 1) := by decide +kernel
theorem dX12_init_13 : decode cX12_init 13 = .ok (.sipush 1016, 3) := by decide +kernel
theorem dX12_init_16 : decode cX12_init 16 = .ok (.newarray .int, 2) := by decide +kernel
theorem dX12_init_18 : decode cX12_init 18 = .ok (.putfield 13, 3) := by decide +kernel
theorem dX12_init_21 : decode cX12_init 21 = .ok (.aload_n 0, 1) := by decide +kernel
theorem dX12_init_22 : decode cX12_init 22 = .ok (.bipush 127, 2) := by decide +kernel
theorem dX12_init_24 : decode cX12_init 24 = .ok (.newarray .int, 2) := by decide +kernel
theorem dX12_init_26 : decode cX12_init 26 = .ok (.putfield 16, 3) := by decide +kernel
theorem dX12_init_29 : decode cX12_init 29 = .ok (.aload_n 0, 1) := by decide +kernel
theorem dX12_init_30 : decode cX12_init 30 = .ok (.bipush 127, 2) := by decide +kernel
theorem dX12_init_32 : decode cX12_init 32 = .ok (.newarray .int, 2) := by decide +kernel
theorem dX12_init_34 : decode cX12_init 34 = .ok (.putfield 19, 3) := by decide +kernel
theorem dX12_init_37 : decode cX12_init 37 = .ok (.aload_n 0, 1) := by decide +kernel
theorem dX12_init_38 : decode cX12_init 38 = .ok (.bipush 60, 2) := by decide +kernel
theorem dX12_init_40 : decode cX12_init 40 = .ok (.newarray .int, 2) := by decide +kernel
theorem dX12_init_42 : decode cX12_init 42 = .ok (.putfield 22, 3) := by decide +kernel
theorem dX12_init_45 : decode cX12_init 45 = .ok (.aload_n 0, 1) := by decide +kernel
theorem dX12_init_46 : decode cX12_init 46 = .ok (.iconst (-1), 1) := by decide +kernel
theorem dX12_init_47 : decode cX12_init 47 = .ok (.putfield 25, 3) := by decide +kernel
theorem dX12_init_50 : decode cX12_init 50 = .ok (.aload_n 0, 1) := by decide +kernel
theorem dX12_init_51 : decode cX12_init 51 = .ok (.iconst (-1), 1) := by decide +kernel
theorem dX12_init_52 : decode cX12_init 52 = .ok (.putfield 29, 3) := by decide +kernel
theorem dX12_init_55 : decode cX12_init 55 = .ok (.aload_n 0, 1) := by decide +kernel
theorem dX12_init_56 : decode cX12_init 56 = .ok (.bipush 60, 2) := by decide +kernel
theorem dX12_init_58 : decode cX12_init 58 = .ok (.newarray .char, 2) := by decide +kernel
theorem dX12_init_60 : decode cX12_init 60 = .ok (.putfield 32, 3) := by decide +kernel
theorem dX12_init_63 : decode cX12_init 63 = .ok (.aload_n 0, 1) := by decide +kernel
theorem dX12_init_64 : decode cX12_init 64 = .ok (.bipush 13, 2) := by decide +kernel
theorem dX12_init_66 : decode cX12_init 66 = .ok (.newarray .int, 2) := by decide +kernel
theorem dX12_init_68 : decode cX12_init 68 = .ok (.putfield 36, 3) := by decide +kernel
theorem dX12_init_71 : decode cX12_init 71 = .ok (.aload_n 0, 1) := by decide +kernel
theorem dX12_init_72 : decode cX12_init 72 = .ok (.sipush 256, 3) := by decide +kernel
theorem dX12_init_75 : decode cX12_init 75 = .ok (.newarray .int, 2) := by decide +kernel
theorem dX12_init_77 : decode cX12_init 77 = .ok (.putfield 39, 3) := by decide +kernel
theorem dX12_init_80 : decode cX12_init 80 = .ok (.aload_n 0, 1) := by decide +kernel
theorem dX12_init_81 : decode cX12_init 81 = .ok (.sipush 155, 3) := by decide +kernel
theorem dX12_init_84 : decode cX12_init 84 = .ok (.newarray .int, 2) := by decide +kernel
theorem dX12_init_86 : decode cX12_init 86 = .ok (.putfield 42, 3) := by decide +kernel
theorem dX12_init_89 : decode cX12_init 89 = .ok (.return_, 1) := by decide +kernel
theorem dX12_thrown_0 : decode cX12_thrown 0 = .ok (.aload_n 0, 1) := by decide +kernel
theorem dX12_thrown_1 : decode cX12_thrown 1 = .ok (.getfield 45, 3) := by decide +kernel
theorem dX12_thrown_4 : decode cX12_thrown 4 = .ok (.ireturn, 1) := by decide +kernel
theorem dX12_fails_0 : decode cX12_fails 0 = .ok (.aload_n 0, 1) := by decide +kernel
theorem dX12_fails_1 : decode cX12_fails 1 = .ok (.iload_n 1, 1) := by decide +kernel
theorem dX12_fails_2 : decode cX12_fails 2 = .ok (.putfield 45, 3) := by decide +kernel
theorem dX12_fails_5 : decode cX12_fails 5 = .ok (.iload_n 1, 1) := by decide +kernel
theorem dX12_fails_6 : decode cX12_fails 6 = .ok (.ifCond .le 7, 3) := by decide +kernel
theorem dX12_fails_9 : decode cX12_fails 9 = .ok (.iconst 1, 1) := by decide +kernel
theorem dX12_fails_10 : decode cX12_fails 10 = .ok (.goto 4, 3) := by decide +kernel
theorem dX12_fails_13 : decode cX12_fails 13 = .ok (.iconst 0, 1) := by decide +kernel
theorem dX12_fails_14 : decode cX12_fails 14 = .ok (.ireturn, 1) := by decide +kernel
theorem dX12_in_0 : decode cX12_in 0 = .ok (.iload_n 0, 1) := by decide +kernel
theorem dX12_in_1 : decode cX12_in 1 = .ok (.iload_n 1, 1) := by decide +kernel
theorem dX12_in_2 : decode cX12_in 2 = .ok (.if_icmp .lt 12, 3) := by decide +kernel
theorem dX12_in_5 : decode cX12_in 5 = .ok (.iload_n 0, 1) := by decide +kernel
theorem dX12_in_6 : decode cX12_in 6 = .ok (.iload_n 2, 1) := by decide +kernel
theorem dX12_in_7 : decode cX12_in 7 = .ok (.if_icmp .gt 7, 3) := by decide +kernel
theorem dX12_in_10 : decode cX12_in 10 = .ok (.iconst 1, 1) := by decide +kernel
theorem dX12_in_11 : decode cX12_in 11 = .ok (.goto 4, 3) := by decide +kernel
theorem dX12_in_14 : decode cX12_in 14 = .ok (.iconst 0, 1) := by decide +kernel
theorem dX12_in_15 : decode cX12_in 15 = .ok (.ireturn, 1) := by decide +kernel
theorem dX12_least_0 : decode cX12_least 0 = .ok (.iload_n 0, 1) := by decide +kernel
theorem dX12_least_1 : decode cX12_least 1 = .ok (.iload_n 1, 1) := by decide +kernel
theorem dX12_least_2 : decode cX12_least 2 = .ok (.if_icmp .ge 7, 3) := by decide +kernel
theorem dX12_least_5 : decode cX12_least 5 = .ok (.iload_n 0, 1) := by decide +kernel
theorem dX12_least_6 : decode cX12_least 6 = .ok (.goto 4, 3) := by decide +kernel
theorem dX12_least_9 : decode cX12_least 9 = .ok (.iload_n 1, 1) := by decide +kernel
theorem dX12_least_10 : decode cX12_least 10 = .ok (.ireturn, 1) := by decide +kernel
theorem dX12_copies_0 : decode cX12_copies 0 = .ok (.iconst 0, 1) := by decide +kernel
theorem dX12_copies_1 : decode cX12_copies 1 = .ok (.istore 4, 2) := by decide +kernel
theorem dX12_copies_3 : decode cX12_copies 3 = .ok (.iload 4, 2) := by decide +kernel
theorem dX12_copies_5 : decode cX12_copies 5 = .ok (.bipush 127, 2) := by decide +kernel
theorem dX12_copies_7 : decode cX12_copies 7 = .ok (.if_icmp .ge 21, 3) := by decide +kernel
theorem dX12_copies_10 : decode cX12_copies 10 = .ok (.aload_n 2, 1) := by decide +kernel
theorem dX12_copies_11 : decode cX12_copies 11 = .ok (.iload_n 3, 1) := by decide +kernel
theorem dX12_copies_12 : decode cX12_copies 12 = .ok (.iload 4, 2) := by decide +kernel
theorem dX12_copies_14 : decode cX12_copies 14 = .ok (.iadd, 1) := by decide +kernel
theorem dX12_copies_15 : decode cX12_copies 15 = .ok (.aload_n 0, 1) := by decide +kernel
theorem dX12_copies_16 : decode cX12_copies 16 = .ok (.iload_n 1, 1) := by decide +kernel
theorem dX12_copies_17 : decode cX12_copies 17 = .ok (.iload 4, 2) := by decide +kernel
theorem dX12_copies_19 : decode cX12_copies 19 = .ok (.iadd, 1) := by decide +kernel
theorem dX12_copies_20 : decode cX12_copies 20 = .ok (.iaload, 1) := by decide +kernel
theorem dX12_copies_21 : decode cX12_copies 21 = .ok (.iastore, 1) := by decide +kernel
theorem dX12_copies_22 : decode cX12_copies 22 = .ok (.iinc 4 1, 3) := by decide +kernel
theorem dX12_copies_25 : decode cX12_copies 25 = .ok (.goto (-22), 3) := by decide +kernel
theorem dX12_copies_28 : decode cX12_copies 28 = .ok (.return_, 1) := by decide +kernel
theorem dX12_keeps_0 : decode cX12_keeps 0 = .ok (.aload_n 0, 1) := by decide +kernel
theorem dX12_keeps_1 : decode cX12_keeps 1 = .ok (.iconst 0, 1) := by decide +kernel
theorem dX12_keeps_2 : decode cX12_keeps 2 = .ok (.putfield 45, 3) := by decide +kernel
theorem dX12_keeps_5 : decode cX12_keeps 5 = .ok (.aload_n 0, 1) := by decide +kernel
theorem dX12_keeps_6 : decode cX12_keeps 6 = .ok (.getfield 48, 3) := by decide +kernel
theorem dX12_keeps_9 : decode cX12_keeps 9 = .ok (.ifCond .eq 4, 3) := by decide +kernel
theorem dX12_keeps_12 : decode cX12_keeps 12 = .ok (.return_, 1) := by decide +kernel
theorem dX12_keeps_13 : decode cX12_keeps 13 = .ok (.aload_n 0, 1) := by decide +kernel
theorem dX12_keeps_14 : decode cX12_keeps 14 = .ok (.getfield 52, 3) := by decide +kernel
theorem dX12_keeps_17 : decode cX12_keeps 17 = .ok (.bipush 8, 2) := by decide +kernel
theorem dX12_keeps_19 : decode cX12_keeps 19 = .ok (.if_icmp .ne 43, 3) := by decide +kernel
theorem dX12_keeps_22 : decode cX12_keeps 22 = .ok (.iconst 0, 1) := by decide +kernel
theorem dX12_keeps_23 : decode cX12_keeps 23 = .ok (.istore_n 2, 1) := by decide +kernel
theorem dX12_keeps_24 : decode cX12_keeps 24 = .ok (.iload_n 2, 1) := by decide +kernel
theorem dX12_keeps_25 : decode cX12_keeps 25 = .ok (.sipush 889, 3) := by decide +kernel
theorem dX12_keeps_28 : decode cX12_keeps 28 = .ok (.if_icmp .ge 24, 3) := by decide +kernel
theorem dX12_keeps_31 : decode cX12_keeps 31 = .ok (.aload_n 0, 1) := by decide +kernel
theorem dX12_keeps_32 : decode cX12_keeps 32 = .ok (.getfield 13, 3) := by decide +kernel
theorem dX12_keeps_35 : decode cX12_keeps 35 = .ok (.iload_n 2, 1) := by decide +kernel
theorem dX12_keeps_36 : decode cX12_keeps 36 = .ok (.aload_n 0, 1) := by decide +kernel
theorem dX12_keeps_37 : decode cX12_keeps 37 = .ok (.getfield 13, 3) := by decide +kernel
theorem dX12_keeps_40 : decode cX12_keeps 40 = .ok (.iload_n 2, 1) := by decide +kernel
theorem dX12_keeps_41 : decode cX12_keeps 41 = .ok (.bipush 127, 2) := by decide +kernel
theorem dX12_keeps_43 : decode cX12_keeps 43 = .ok (.iadd, 1) := by decide +kernel
theorem dX12_keeps_44 : decode cX12_keeps 44 = .ok (.iaload, 1) := by decide +kernel
theorem dX12_keeps_45 : decode cX12_keeps 45 = .ok (.iastore, 1) := by decide +kernel
theorem dX12_keeps_46 : decode cX12_keeps 46 = .ok (.iinc 2 1, 3) := by decide +kernel
theorem dX12_keeps_49 : decode cX12_keeps 49 = .ok (.goto (-25), 3) := by decide +kernel
theorem dX12_keeps_52 : decode cX12_keeps 52 = .ok (.aload_n 0, 1) := by decide +kernel
theorem dX12_keeps_53 : decode cX12_keeps 53 = .ok (.dup, 1) := by decide +kernel
theorem dX12_keeps_54 : decode cX12_keeps 54 = .ok (.getfield 52, 3) := by decide +kernel
theorem dX12_keeps_57 : decode cX12_keeps 57 = .ok (.iconst 1, 1) := by decide +kernel
theorem dX12_keeps_58 : decode cX12_keeps 58 = .ok (.isub, 1) := by decide +kernel
theorem dX12_keeps_59 : decode cX12_keeps 59 = .ok (.putfield 52, 3) := by decide +kernel
theorem dX12_keeps_62 : decode cX12_keeps 62 = .ok (.aload_n 1, 1) := by decide +kernel
theorem dX12_keeps_63 : decode cX12_keeps 63 = .ok (.iconst 0, 1) := by decide +kernel
theorem dX12_keeps_64 : decode cX12_keeps 64 = .ok (.aload_n 0, 1) := by decide +kernel
theorem dX12_keeps_65 : decode cX12_keeps 65 = .ok (.getfield 13, 3) := by decide +kernel
theorem dX12_keeps_68 : decode cX12_keeps 68 = .ok (.bipush 127, 2) := by decide +kernel
theorem dX12_keeps_70 : decode cX12_keeps 70 = .ok (.aload_n 0, 1) := by decide +kernel
theorem dX12_keeps_71 : decode cX12_keeps 71 = .ok (.getfield 52, 3) := by decide +kernel
theorem dX12_keeps_74 : decode cX12_keeps 74 = .ok (.imul, 1) := by decide +kernel
theorem dX12_keeps_75 : decode cX12_keeps 75 = .ok (.invokestatic 55, 3) := by decide +kernel
theorem dX12_keeps_78 : decode cX12_keeps 78 = .ok (.aload_n 0, 1) := by decide +kernel
theorem dX12_keeps_79 : decode cX12_keeps 79 = .ok (.dup, 1) := by decide +kernel
theorem dX12_keeps_80 : decode cX12_keeps 80 = .ok (.getfield 52, 3) := by decide +kernel
theorem dX12_keeps_83 : decode cX12_keeps 83 = .ok (.iconst 1, 1) := by decide +kernel
theorem dX12_keeps_84 : decode cX12_keeps 84 = .ok (.iadd, 1) := by decide +kernel
theorem dX12_keeps_85 : decode cX12_keeps 85 = .ok (.putfield 52, 3) := by decide +kernel
theorem dX12_keeps_88 : decode cX12_keeps 88 = .ok (.return_, 1) := by decide +kernel
theorem dX12_bits_0 : decode cX12_bits 0 = .ok (.iconst 0, 1) := by decide +kernel
theorem dX12_bits_1 : decode cX12_bits 1 = .ok (.istore_n 1, 1) := by decide +kernel
theorem dX12_bits_2 : decode cX12_bits 2 = .ok (.iconst 0, 1) := by decide +kernel
theorem dX12_bits_3 : decode cX12_bits 3 = .ok (.istore_n 2, 1) := by decide +kernel
theorem dX12_bits_4 : decode cX12_bits 4 = .ok (.iload_n 2, 1) := by decide +kernel
theorem dX12_bits_5 : decode cX12_bits 5 = .ok (.bipush 8, 2) := by decide +kernel
theorem dX12_bits_7 : decode cX12_bits 7 = .ok (.if_icmp .ge 17, 3) := by decide +kernel
theorem dX12_bits_10 : decode cX12_bits 10 = .ok (.iload_n 1, 1) := by decide +kernel
theorem dX12_bits_11 : decode cX12_bits 11 = .ok (.iload_n 0, 1) := by decide +kernel
theorem dX12_bits_12 : decode cX12_bits 12 = .ok (.iload_n 2, 1) := by decide +kernel
theorem dX12_bits_13 : decode cX12_bits 13 = .ok (.ishr, 1) := by decide +kernel
theorem dX12_bits_14 : decode cX12_bits 14 = .ok (.iconst 1, 1) := by decide +kernel
theorem dX12_bits_15 : decode cX12_bits 15 = .ok (.iand, 1) := by decide +kernel
theorem dX12_bits_16 : decode cX12_bits 16 = .ok (.iadd, 1) := by decide +kernel
theorem dX12_bits_17 : decode cX12_bits 17 = .ok (.istore_n 1, 1) := by decide +kernel
theorem dX12_bits_18 : decode cX12_bits 18 = .ok (.iinc 2 1, 3) := by decide +kernel
theorem dX12_bits_21 : decode cX12_bits 21 = .ok (.goto (-17), 3) := by decide +kernel
theorem dX12_bits_24 : decode cX12_bits 24 = .ok (.iload_n 1, 1) := by decide +kernel
theorem dX12_bits_25 : decode cX12_bits 25 = .ok (.ireturn, 1) := by decide +kernel
theorem dX12_isRaw_0 : decode cX12_isRaw 0 = .ok (.iload_n 1, 1) := by decide +kernel
theorem dX12_isRaw_1 : decode cX12_isRaw 1 = .ok (.iconst 0, 1) := by decide +kernel
theorem dX12_isRaw_2 : decode cX12_isRaw 2 = .ok (.aload_n 0, 1) := by decide +kernel
theorem dX12_isRaw_3 : decode cX12_isRaw 3 = .ok (.getfield 7, 3) := by decide +kernel
theorem dX12_isRaw_6 : decode cX12_isRaw 6 = .ok (.iconst 0, 1) := by decide +kernel
theorem dX12_isRaw_7 : decode cX12_isRaw 7 = .ok (.iaload, 1) := by decide +kernel
theorem dX12_isRaw_8 : decode cX12_isRaw 8 = .ok (.iconst 1, 1) := by decide +kernel
theorem dX12_isRaw_9 : decode cX12_isRaw 9 = .ok (.isub, 1) := by decide +kernel
theorem dX12_isRaw_10 : decode cX12_isRaw 10 = .ok (.invokestatic 59, 3) := by decide +kernel
theorem dX12_isRaw_13 : decode cX12_isRaw 13 = .ok (.ireturn, 1) := by decide +kernel
theorem dX12_isBatch_0 : decode cX12_isBatch 0 = .ok (.iload_n 1, 1) := by decide +kernel
theorem dX12_isBatch_1 : decode cX12_isBatch 1 = .ok (.iconst 0, 1) := by decide +kernel
theorem dX12_isBatch_2 : decode cX12_isBatch 2 = .ok (.aload_n 0, 1) := by decide +kernel
theorem dX12_isBatch_3 : decode cX12_isBatch 3 = .ok (.getfield 7, 3) := by decide +kernel
theorem dX12_isBatch_6 : decode cX12_isBatch 6 = .ok (.iconst 1, 1) := by decide +kernel
theorem dX12_isBatch_7 : decode cX12_isBatch 7 = .ok (.iaload, 1) := by decide +kernel
theorem dX12_isBatch_8 : decode cX12_isBatch 8 = .ok (.iconst 1, 1) := by decide +kernel
theorem dX12_isBatch_9 : decode cX12_isBatch 9 = .ok (.isub, 1) := by decide +kernel
theorem dX12_isBatch_10 : decode cX12_isBatch 10 = .ok (.invokestatic 59, 3) := by decide +kernel
theorem dX12_isBatch_13 : decode cX12_isBatch 13 = .ok (.ireturn, 1) := by decide +kernel
theorem dX12_of_0 : decode cX12_of 0 = .ok (.aload_n 0, 1) := by decide +kernel
theorem dX12_of_1 : decode cX12_of 1 = .ok (.getfield 7, 3) := by decide +kernel
theorem dX12_of_4 : decode cX12_of 4 = .ok (.bipush 11, 2) := by decide +kernel
theorem dX12_of_6 : decode cX12_of 6 = .ok (.iconst 2, 1) := by decide +kernel
theorem dX12_of_7 : decode cX12_of 7 = .ok (.iload_n 1, 1) := by decide +kernel
theorem dX12_of_8 : decode cX12_of 8 = .ok (.imul, 1) := by decide +kernel
theorem dX12_of_9 : decode cX12_of 9 = .ok (.iadd, 1) := by decide +kernel
theorem dX12_of_10 : decode cX12_of 10 = .ok (.iload_n 2, 1) := by decide +kernel
theorem dX12_of_11 : decode cX12_of 11 = .ok (.iadd, 1) := by decide +kernel
theorem dX12_of_12 : decode cX12_of 12 = .ok (.iaload, 1) := by decide +kernel
theorem dX12_of_13 : decode cX12_of 13 = .ok (.ireturn, 1) := by decide +kernel
theorem dX12_addRaw_0 : decode cX12_addRaw 0 = .ok (.aload_n 0, 1) := by decide +kernel
theorem dX12_addRaw_1 : decode cX12_addRaw 1 = .ok (.aload_n 0, 1) := by decide +kernel
theorem dX12_addRaw_2 : decode cX12_addRaw 2 = .ok (.getfield 7, 3) := by decide +kernel
theorem dX12_addRaw_5 : decode cX12_addRaw 5 = .ok (.iconst 0, 1) := by decide +kernel
theorem dX12_addRaw_6 : decode cX12_addRaw 6 = .ok (.iaload, 1) := by decide +kernel
theorem dX12_addRaw_7 : decode cX12_addRaw 7 = .ok (.bipush 6, 2) := by decide +kernel
theorem dX12_addRaw_9 : decode cX12_addRaw 9 = .ok (.if_icmp .ne 7, 3) := by decide +kernel
theorem dX12_addRaw_12 : decode cX12_addRaw 12 = .ok (.iconst 1, 1) := by decide +kernel
theorem dX12_addRaw_13 : decode cX12_addRaw 13 = .ok (.goto 4, 3) := by decide +kernel
theorem dX12_addRaw_16 : decode cX12_addRaw 16 = .ok (.iconst 0, 1) := by decide +kernel
theorem dX12_addRaw_17 : decode cX12_addRaw 17 = .ok (.invokevirtual 63, 3) := by decide +kernel
theorem dX12_addRaw_20 : decode cX12_addRaw 20 = .ok (.ifCond .eq 5, 3) := by decide +kernel
theorem dX12_addRaw_23 : decode cX12_addRaw 23 = .ok (.iconst 0, 1) := by decide +kernel
theorem dX12_addRaw_24 : decode cX12_addRaw 24 = .ok (.ireturn, 1) := by decide +kernel
theorem dX12_addRaw_25 : decode cX12_addRaw 25 = .ok (.aload_n 0, 1) := by decide +kernel
theorem dX12_addRaw_26 : decode cX12_addRaw 26 = .ok (.aload_n 0, 1) := by decide +kernel
theorem dX12_addRaw_27 : decode cX12_addRaw 27 = .ok (.getfield 7, 3) := by decide +kernel
theorem dX12_addRaw_30 : decode cX12_addRaw 30 = .ok (.invokevirtual 67, 3) := by decide +kernel
theorem dX12_addRaw_33 : decode cX12_addRaw 33 = .ok (.aload_n 0, 1) := by decide +kernel
theorem dX12_addRaw_34 : decode cX12_addRaw 34 = .ok (.getfield 7, 3) := by decide +kernel
theorem dX12_addRaw_37 : decode cX12_addRaw 37 = .ok (.iconst 0, 1) := by decide +kernel
theorem dX12_addRaw_38 : decode cX12_addRaw 38 = .ok (.dup2, 1) := by decide +kernel
theorem dX12_addRaw_39 : decode cX12_addRaw 39 = .ok (.iaload, 1) := by decide +kernel
theorem dX12_addRaw_40 : decode cX12_addRaw 40 = .ok (.iconst 1, 1) := by decide +kernel
theorem dX12_addRaw_41 : decode cX12_addRaw 41 = .ok (.iadd, 1) := by decide +kernel
theorem dX12_addRaw_42 : decode cX12_addRaw 42 = .ok (.iastore, 1) := by decide +kernel
theorem dX12_addRaw_43 : decode cX12_addRaw 43 = .ok (.aload_n 0, 1) := by decide +kernel
theorem dX12_addRaw_44 : decode cX12_addRaw 44 = .ok (.getfield 7, 3) := by decide +kernel
theorem dX12_addRaw_47 : decode cX12_addRaw 47 = .ok (.iconst 0, 1) := by decide +kernel
theorem dX12_addRaw_48 : decode cX12_addRaw 48 = .ok (.iaload, 1) := by decide +kernel
theorem dX12_addRaw_49 : decode cX12_addRaw 49 = .ok (.iconst 1, 1) := by decide +kernel
theorem dX12_addRaw_50 : decode cX12_addRaw 50 = .ok (.isub, 1) := by decide +kernel
theorem dX12_addRaw_51 : decode cX12_addRaw 51 = .ok (.ireturn, 1) := by decide +kernel
theorem dX12_mix_0 : decode cX12_mix 0 = .ok (.aload_n 0, 1) := by decide +kernel
theorem dX12_mix_1 : decode cX12_mix 1 = .ok (.iload_n 1, 1) := by decide +kernel
theorem dX12_mix_2 : decode cX12_mix 2 = .ok (.iconst 1, 1) := by decide +kernel
theorem dX12_mix_3 : decode cX12_mix 3 = .ok (.iconst 1, 1) := by decide +kernel
theorem dX12_mix_4 : decode cX12_mix 4 = .ok (.aload_n 0, 1) := by decide +kernel
theorem dX12_mix_5 : decode cX12_mix 5 = .ok (.getfield 7, 3) := by decide +kernel
theorem dX12_mix_8 : decode cX12_mix 8 = .ok (.iconst 0, 1) := by decide +kernel
theorem dX12_mix_9 : decode cX12_mix 9 = .ok (.iaload, 1) := by decide +kernel
theorem dX12_mix_10 : decode cX12_mix 10 = .ok (.ishl, 1) := by decide +kernel
theorem dX12_mix_11 : decode cX12_mix 11 = .ok (.iconst 1, 1) := by decide +kernel
theorem dX12_mix_12 : decode cX12_mix 12 = .ok (.isub, 1) := by decide +kernel
theorem dX12_mix_13 : decode cX12_mix 13 = .ok (.invokestatic 59, 3) := by decide +kernel
theorem dX12_mix_16 : decode cX12_mix 16 = .ok (.ifCond .eq 13, 3) := by decide +kernel
theorem dX12_mix_19 : decode cX12_mix 19 = .ok (.iload_n 2, 1) := by decide +kernel
theorem dX12_mix_20 : decode cX12_mix 20 = .ok (.iconst 1, 1) := by decide +kernel
theorem dX12_mix_21 : decode cX12_mix 21 = .ok (.bipush 20, 2) := by decide +kernel
theorem dX12_mix_23 : decode cX12_mix 23 = .ok (.invokestatic 59, 3) := by decide +kernel
theorem dX12_mix_26 : decode cX12_mix 26 = .ok (.ifCond .ne 7, 3) := by decide +kernel
theorem dX12_mix_29 : decode cX12_mix 29 = .ok (.iconst 1, 1) := by decide +kernel
theorem dX12_mix_30 : decode cX12_mix 30 = .ok (.goto 35, 3) := by decide +kernel
theorem dX12_mix_33 : decode cX12_mix 33 = .ok (.aload_n 0, 1) := by decide +kernel
theorem dX12_mix_34 : decode cX12_mix 34 = .ok (.getfield 7, 3) := by decide +kernel
theorem dX12_mix_37 : decode cX12_mix 37 = .ok (.iconst 1, 1) := by decide +kernel
theorem dX12_mix_38 : decode cX12_mix 38 = .ok (.iaload, 1) := by decide +kernel
theorem dX12_mix_39 : decode cX12_mix 39 = .ok (.bipush 6, 2) := by decide +kernel
theorem dX12_mix_41 : decode cX12_mix 41 = .ok (.if_icmp .ne 7, 3) := by decide +kernel
theorem dX12_mix_44 : decode cX12_mix 44 = .ok (.iconst 2, 1) := by decide +kernel
theorem dX12_mix_45 : decode cX12_mix 45 = .ok (.goto 20, 3) := by decide +kernel
theorem dX12_mix_48 : decode cX12_mix 48 = .ok (.iload_n 1, 1) := by decide +kernel
theorem dX12_mix_49 : decode cX12_mix 49 = .ok (.aload_n 0, 1) := by decide +kernel
theorem dX12_mix_50 : decode cX12_mix 50 = .ok (.getfield 7, 3) := by decide +kernel
theorem dX12_mix_53 : decode cX12_mix 53 = .ok (.bipush 6, 2) := by decide +kernel
theorem dX12_mix_55 : decode cX12_mix 55 = .ok (.iaload, 1) := by decide +kernel
theorem dX12_mix_56 : decode cX12_mix 56 = .ok (.iand, 1) := by decide +kernel
theorem dX12_mix_57 : decode cX12_mix 57 = .ok (.ifCond .eq 7, 3) := by decide +kernel
theorem dX12_mix_60 : decode cX12_mix 60 = .ok (.iconst 3, 1) := by decide +kernel
theorem dX12_mix_61 : decode cX12_mix 61 = .ok (.goto 4, 3) := by decide +kernel
theorem dX12_mix_64 : decode cX12_mix 64 = .ok (.iconst 0, 1) := by decide +kernel
theorem dX12_mix_65 : decode cX12_mix 65 = .ok (.invokevirtual 63, 3) := by decide +kernel
theorem dX12_mix_68 : decode cX12_mix 68 = .ok (.ifCond .eq 5, 3) := by decide +kernel
theorem dX12_mix_71 : decode cX12_mix 71 = .ok (.iconst 0, 1) := by decide +kernel
theorem dX12_mix_72 : decode cX12_mix 72 = .ok (.ireturn, 1) := by decide +kernel
theorem dX12_mix_73 : decode cX12_mix 73 = .ok (.aload_n 0, 1) := by decide +kernel
theorem dX12_mix_74 : decode cX12_mix 74 = .ok (.aload_n 0, 1) := by decide +kernel
theorem dX12_mix_75 : decode cX12_mix 75 = .ok (.getfield 7, 3) := by decide +kernel
theorem dX12_mix_78 : decode cX12_mix 78 = .ok (.invokevirtual 67, 3) := by decide +kernel
theorem dX12_mix_81 : decode cX12_mix 81 = .ok (.aload_n 0, 1) := by decide +kernel
theorem dX12_mix_82 : decode cX12_mix 82 = .ok (.getfield 7, 3) := by decide +kernel
theorem dX12_mix_85 : decode cX12_mix 85 = .ok (.bipush 11, 2) := by decide +kernel
theorem dX12_mix_87 : decode cX12_mix 87 = .ok (.iconst 2, 1) := by decide +kernel
theorem dX12_mix_88 : decode cX12_mix 88 = .ok (.aload_n 0, 1) := by decide +kernel
theorem dX12_mix_89 : decode cX12_mix 89 = .ok (.getfield 7, 3) := by decide +kernel
theorem dX12_mix_92 : decode cX12_mix 92 = .ok (.iconst 1, 1) := by decide +kernel
theorem dX12_mix_93 : decode cX12_mix 93 = .ok (.iaload, 1) := by decide +kernel
theorem dX12_mix_94 : decode cX12_mix 94 = .ok (.imul, 1) := by decide +kernel
theorem dX12_mix_95 : decode cX12_mix 95 = .ok (.iadd, 1) := by decide +kernel
theorem dX12_mix_96 : decode cX12_mix 96 = .ok (.iconst 0, 1) := by decide +kernel
theorem dX12_mix_97 : decode cX12_mix 97 = .ok (.iadd, 1) := by decide +kernel
theorem dX12_mix_98 : decode cX12_mix 98 = .ok (.iload_n 2, 1) := by decide +kernel
theorem dX12_mix_99 : decode cX12_mix 99 = .ok (.iastore, 1) := by decide +kernel
theorem dX12_mix_100 : decode cX12_mix 100 = .ok (.aload_n 0, 1) := by decide +kernel
theorem dX12_mix_101 : decode cX12_mix 101 = .ok (.getfield 7, 3) := by decide +kernel
theorem dX12_mix_104 : decode cX12_mix 104 = .ok (.bipush 11, 2) := by decide +kernel
theorem dX12_mix_106 : decode cX12_mix 106 = .ok (.iconst 2, 1) := by decide +kernel
theorem dX12_mix_107 : decode cX12_mix 107 = .ok (.aload_n 0, 1) := by decide +kernel
theorem dX12_mix_108 : decode cX12_mix 108 = .ok (.getfield 7, 3) := by decide +kernel
theorem dX12_mix_111 : decode cX12_mix 111 = .ok (.iconst 1, 1) := by decide +kernel
theorem dX12_mix_112 : decode cX12_mix 112 = .ok (.iaload, 1) := by decide +kernel
theorem dX12_mix_113 : decode cX12_mix 113 = .ok (.imul, 1) := by decide +kernel
theorem dX12_mix_114 : decode cX12_mix 114 = .ok (.iadd, 1) := by decide +kernel
theorem dX12_mix_115 : decode cX12_mix 115 = .ok (.iconst 1, 1) := by decide +kernel
theorem dX12_mix_116 : decode cX12_mix 116 = .ok (.iadd, 1) := by decide +kernel
theorem dX12_mix_117 : decode cX12_mix 117 = .ok (.iload_n 1, 1) := by decide +kernel
theorem dX12_mix_118 : decode cX12_mix 118 = .ok (.iastore, 1) := by decide +kernel
theorem dX12_mix_119 : decode cX12_mix 119 = .ok (.aload_n 0, 1) := by decide +kernel
theorem dX12_mix_120 : decode cX12_mix 120 = .ok (.getfield 7, 3) := by decide +kernel
theorem dX12_mix_123 : decode cX12_mix 123 = .ok (.iconst 1, 1) := by decide +kernel
theorem dX12_mix_124 : decode cX12_mix 124 = .ok (.dup2, 1) := by decide +kernel
theorem dX12_mix_125 : decode cX12_mix 125 = .ok (.iaload, 1) := by decide +kernel
theorem dX12_mix_126 : decode cX12_mix 126 = .ok (.iconst 1, 1) := by decide +kernel
theorem dX12_mix_127 : decode cX12_mix 127 = .ok (.iadd, 1) := by decide +kernel
theorem dX12_mix_128 : decode cX12_mix 128 = .ok (.iastore, 1) := by decide +kernel
theorem dX12_mix_129 : decode cX12_mix 129 = .ok (.aload_n 0, 1) := by decide +kernel
theorem dX12_mix_130 : decode cX12_mix 130 = .ok (.getfield 7, 3) := by decide +kernel
theorem dX12_mix_133 : decode cX12_mix 133 = .ok (.iconst 1, 1) := by decide +kernel
theorem dX12_mix_134 : decode cX12_mix 134 = .ok (.iaload, 1) := by decide +kernel
theorem dX12_mix_135 : decode cX12_mix 135 = .ok (.iconst 1, 1) := by decide +kernel
theorem dX12_mix_136 : decode cX12_mix 136 = .ok (.isub, 1) := by decide +kernel
theorem dX12_mix_137 : decode cX12_mix 137 = .ok (.ireturn, 1) := by decide +kernel
theorem dX12_rawCount_0 : decode cX12_rawCount 0 = .ok (.aload_n 0, 1) := by decide +kernel
theorem dX12_rawCount_1 : decode cX12_rawCount 1 = .ok (.iconst 0, 1) := by decide +kernel
theorem dX12_rawCount_2 : decode cX12_rawCount 2 = .ok (.putfield 45, 3) := by decide +kernel
theorem dX12_rawCount_5 : decode cX12_rawCount 5 = .ok (.aload_n 0, 1) := by decide +kernel
theorem dX12_rawCount_6 : decode cX12_rawCount 6 = .ok (.getfield 7, 3) := by decide +kernel
