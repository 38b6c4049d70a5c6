theorem dL_jarsOf_12 : decode cL_jarsOf 12 = .ok (.astore_n 3, 1) := by decide +kernel
theorem dL_jarsOf_13 : decode cL_jarsOf 13 = .ok (.iconst 1, 1) := by decide +kernel
theorem dL_jarsOf_14 : decode cL_jarsOf 14 = .ok (.ireturn, 1) := by decide +kernel
theorem dL_jarsOf_15 : decode cL_jarsOf 15 = .ok (.iconst 0, 1) := by decide +kernel
theorem dL_jarsOf_16 : decode cL_jarsOf 16 = .ok (.ireturn, 1) := by decide +kernel
theorem dL_labelOf_0 : decode cL_labelOf 0 = .ok (.aload_n 2, 1) := by decide +kernel
theorem dL_labelOf_1 : decode cL_labelOf 1 = .ok (.iconst 0, 1) := by decide +kernel
theorem dL_labelOf_2 : decode cL_labelOf 2 = .ok (.aload_n 0, 1) := by decide +kernel
theorem dL_labelOf_3 : decode cL_labelOf 3 = .ok (.iload_n 1, 1) := by decide +kernel
theorem dL_labelOf_4 : decode cL_labelOf 4 = .ok (.invokevirtual 77, 3) := by decide +kernel
theorem dL_labelOf_7 : decode cL_labelOf 7 = .ok (.i2l, 1) := by decide +kernel
theorem dL_labelOf_8 : decode cL_labelOf 8 = .ok (.lastore, 1) := by decide +kernel
theorem dL_labelOf_9 : decode cL_labelOf 9 = .ok (.goto 6, 3) := by decide +kernel
theorem dL_labelOf_12 : decode cL_labelOf 12 = .ok (.astore_n 3, 1) := by decide +kernel
theorem dL_labelOf_13 : decode cL_labelOf 13 = .ok (.iconst 1, 1) := by decide +kernel
theorem dL_labelOf_14 : decode cL_labelOf 14 = .ok (.ireturn, 1) := by decide +kernel
theorem dL_labelOf_15 : decode cL_labelOf 15 = .ok (.iconst 0, 1) := by decide +kernel
theorem dL_labelOf_16 : decode cL_labelOf 16 = .ok (.ireturn, 1) := by decide +kernel
theorem dL_strengthOfLot_0 : decode cL_strengthOfLot 0 = .ok (.aload_n 2, 1) := by decide +kernel
theorem dL_strengthOfLot_1 : decode cL_strengthOfLot 1 = .ok (.iconst 0, 1) := by decide +kernel
theorem dL_strengthOfLot_2 : decode cL_strengthOfLot 2 = .ok (.aload_n 0, 1) := by decide +kernel
theorem dL_strengthOfLot_3 : decode cL_strengthOfLot 3 = .ok (.iload_n 1, 1) := by decide +kernel
theorem dL_strengthOfLot_4 : decode cL_strengthOfLot 4 = .ok (.invokevirtual 80, 3) := by decide +kernel
theorem dL_strengthOfLot_7 : decode cL_strengthOfLot 7 = .ok (.i2l, 1) := by decide +kernel
theorem dL_strengthOfLot_8 : decode cL_strengthOfLot 8 = .ok (.lastore, 1) := by decide +kernel
theorem dL_strengthOfLot_9 : decode cL_strengthOfLot 9 = .ok (.goto 6, 3) := by decide +kernel
theorem dL_strengthOfLot_12 : decode cL_strengthOfLot 12 = .ok (.astore_n 3, 1) := by decide +kernel
theorem dL_strengthOfLot_13 : decode cL_strengthOfLot 13 = .ok (.iconst 1, 1) := by decide +kernel
theorem dL_strengthOfLot_14 : decode cL_strengthOfLot 14 = .ok (.ireturn, 1) := by decide +kernel
theorem dL_strengthOfLot_15 : decode cL_strengthOfLot 15 = .ok (.iconst 0, 1) := by decide +kernel
theorem dL_strengthOfLot_16 : decode cL_strengthOfLot 16 = .ok (.ireturn, 1) := by decide +kernel
theorem dL_pressureOf_0 : decode cL_pressureOf 0 = .ok (.aload_n 2, 1) := by decide +kernel
theorem dL_pressureOf_1 : decode cL_pressureOf 1 = .ok (.iconst 0, 1) := by decide +kernel
theorem dL_pressureOf_2 : decode cL_pressureOf 2 = .ok (.aload_n 0, 1) := by decide +kernel
theorem dL_pressureOf_3 : decode cL_pressureOf 3 = .ok (.iload_n 1, 1) := by decide +kernel
theorem dL_pressureOf_4 : decode cL_pressureOf 4 = .ok (.invokevirtual 83, 3) := by decide +kernel
theorem dL_pressureOf_7 : decode cL_pressureOf 7 = .ok (.i2l, 1) := by decide +kernel
theorem dL_pressureOf_8 : decode cL_pressureOf 8 = .ok (.lastore, 1) := by decide +kernel
theorem dL_pressureOf_9 : decode cL_pressureOf 9 = .ok (.goto 6, 3) := by decide +kernel
theorem dL_pressureOf_12 : decode cL_pressureOf 12 = .ok (.astore_n 3, 1) := by decide +kernel
theorem dL_pressureOf_13 : decode cL_pressureOf 13 = .ok (.iconst 1, 1) := by decide +kernel
theorem dL_pressureOf_14 : decode cL_pressureOf 14 = .ok (.ireturn, 1) := by decide +kernel
theorem dL_pressureOf_15 : decode cL_pressureOf 15 = .ok (.iconst 0, 1) := by decide +kernel
theorem dL_pressureOf_16 : decode cL_pressureOf 16 = .ok (.ireturn, 1) := by decide +kernel
theorem dL_lotContains_0 : decode cL_lotContains 0 = .ok (.aload_n 3, 1) := by decide +kernel
theorem dL_lotContains_1 : decode cL_lotContains 1 = .ok (.iconst 0, 1) := by decide +kernel
theorem dL_lotContains_2 : decode cL_lotContains 2 = .ok (.aload_n 0, 1) := by decide +kernel
theorem dL_lotContains_3 : decode cL_lotContains 3 = .ok (.iload_n 1, 1) := by decide +kernel
theorem dL_lotContains_4 : decode cL_lotContains 4 = .ok (.iload_n 2, 1) := by decide +kernel
theorem dL_lotContains_5 : decode cL_lotContains 5 = .ok (.invokevirtual 86, 3) := by decide +kernel
theorem dL_lotContains_8 : decode cL_lotContains 8 = .ok (.ifCond .eq 7, 3) := by decide +kernel
theorem dL_lotContains_11 : decode cL_lotContains 11 = .ok (.lconst 1, 1) := by decide +kernel
theorem dL_lotContains_12 : decode cL_lotContains 12 = .ok (.goto 4, 3) := by decide +kernel
theorem dL_lotContains_15 : decode cL_lotContains 15 = .ok (.lconst 0, 1) := by decide +kernel
theorem dL_lotContains_16 : decode cL_lotContains 16 = .ok (.lastore, 1) := by decide +kernel
theorem dL_lotContains_17 : decode cL_lotContains 17 = .ok (.goto 11, 3) := by decide +kernel
theorem dL_lotContains_20 : decode cL_lotContains 20 = .ok (.astore 4, 2) := by decide +kernel
theorem dL_lotContains_22 : decode cL_lotContains 22 = .ok (.iconst 1, 1) := by decide +kernel
theorem dL_lotContains_23 : decode cL_lotContains 23 = .ok (.ireturn, 1) := by decide +kernel
theorem dL_lotContains_24 : decode cL_lotContains 24 = .ok (.astore 4, 2) := by decide +kernel
theorem dL_lotContains_26 : decode cL_lotContains 26 = .ok (.iconst 2, 1) := by decide +kernel
theorem dL_lotContains_27 : decode cL_lotContains 27 = .ok (.ireturn, 1) := by decide +kernel
theorem dL_lotContains_28 : decode cL_lotContains 28 = .ok (.iconst 0, 1) := by decide +kernel
theorem dL_lotContains_29 : decode cL_lotContains 29 = .ok (.ireturn, 1) := by decide +kernel
theorem dL_daysUntilPop_0 : decode cL_daysUntilPop 0 = .ok (.aload_n 2, 1) := by decide +kernel
theorem dL_daysUntilPop_1 : decode cL_daysUntilPop 1 = .ok (.iconst 0, 1) := by decide +kernel
theorem dL_daysUntilPop_2 : decode cL_daysUntilPop 2 = .ok (.aload_n 0, 1) := by decide +kernel
theorem dL_daysUntilPop_3 : decode cL_daysUntilPop 3 = .ok (.iload_n 1, 1) := by decide +kernel
theorem dL_daysUntilPop_4 : decode cL_daysUntilPop 4 = .ok (.invokevirtual 89, 3) := by decide +kernel
theorem dL_daysUntilPop_7 : decode cL_daysUntilPop 7 = .ok (.i2l, 1) := by decide +kernel
theorem dL_daysUntilPop_8 : decode cL_daysUntilPop 8 = .ok (.lastore, 1) := by decide +kernel
theorem dL_daysUntilPop_9 : decode cL_daysUntilPop 9 = .ok (.goto 6, 3) := by decide +kernel
theorem dL_daysUntilPop_12 : decode cL_daysUntilPop 12 = .ok (.astore_n 3, 1) := by decide +kernel
theorem dL_daysUntilPop_13 : decode cL_daysUntilPop 13 = .ok (.iconst 1, 1) := by decide +kernel
theorem dL_daysUntilPop_14 : decode cL_daysUntilPop 14 = .ok (.ireturn, 1) := by decide +kernel
theorem dL_daysUntilPop_15 : decode cL_daysUntilPop 15 = .ok (.iconst 0, 1) := by decide +kernel
theorem dL_daysUntilPop_16 : decode cL_daysUntilPop 16 = .ok (.ireturn, 1) := by decide +kernel
theorem dL_daysByDivision_0 : decode cL_daysByDivision 0 = .ok (.aload_n 2, 1) := by decide +kernel
theorem dL_daysByDivision_1 : decode cL_daysByDivision 1 = .ok (.iconst 0, 1) := by decide +kernel
theorem dL_daysByDivision_2 : decode cL_daysByDivision 2 = .ok (.aload_n 0, 1) := by decide +kernel
theorem dL_daysByDivision_3 : decode cL_daysByDivision 3 = .ok (.iload_n 1, 1) := by decide +kernel
theorem dL_daysByDivision_4 : decode cL_daysByDivision 4 = .ok (.invokevirtual 92, 3) := by decide +kernel
theorem dL_daysByDivision_7 : decode cL_daysByDivision 7 = .ok (.i2l, 1) := by decide +kernel
theorem dL_daysByDivision_8 : decode cL_daysByDivision 8 = .ok (.lastore, 1) := by decide +kernel
theorem dL_daysByDivision_9 : decode cL_daysByDivision 9 = .ok (.goto 6, 3) := by decide +kernel
theorem dL_daysByDivision_12 : decode cL_daysByDivision 12 = .ok (.astore_n 3, 1) := by decide +kernel
theorem dL_daysByDivision_13 : decode cL_daysByDivision 13 = .ok (.iconst 1, 1) := by decide +kernel
theorem dL_daysByDivision_14 : decode cL_daysByDivision 14 = .ok (.ireturn, 1) := by decide +kernel
theorem dL_daysByDivision_15 : decode cL_daysByDivision 15 = .ok (.iconst 0, 1) := by decide +kernel
theorem dL_daysByDivision_16 : decode cL_daysByDivision 16 = .ok (.ireturn, 1) := by decide +kernel
theorem dL_lotByPressure_0 : decode cL_lotByPressure 0 = .ok (.aload_n 2, 1) := by decide +kernel
theorem dL_lotByPressure_1 : decode cL_lotByPressure 1 = .ok (.iconst 0, 1) := by decide +kernel
theorem dL_lotByPressure_2 : decode cL_lotByPressure 2 = .ok (.aload_n 0, 1) := by decide +kernel
theorem dL_lotByPressure_3 : decode cL_lotByPressure 3 = .ok (.iload_n 1, 1) := by decide +kernel
theorem dL_lotByPressure_4 : decode cL_lotByPressure 4 = .ok (.invokevirtual 95, 3) := by decide +kernel
theorem dL_lotByPressure_7 : decode cL_lotByPressure 7 = .ok (.i2l, 1) := by decide +kernel
theorem dL_lotByPressure_8 : decode cL_lotByPressure 8 = .ok (.lastore, 1) := by decide +kernel
theorem dL_lotByPressure_9 : decode cL_lotByPressure 9 = .ok (.goto 6, 3) := by decide +kernel
theorem dL_lotByPressure_12 : decode cL_lotByPressure 12 = .ok (.astore_n 3, 1) := by decide +kernel
theorem dL_lotByPressure_13 : decode cL_lotByPressure 13 = .ok (.iconst 1, 1) := by decide +kernel
theorem dL_lotByPressure_14 : decode cL_lotByPressure 14 = .ok (.ireturn, 1) := by decide +kernel
theorem dL_lotByPressure_15 : decode cL_lotByPressure 15 = .ok (.iconst 0, 1) := by decide +kernel
theorem dL_lotByPressure_16 : decode cL_lotByPressure 16 = .ok (.ireturn, 1) := by decide +kernel
theorem dL_affectedLots_0 : decode cL_affectedLots 0 = .ok (.aload_n 2, 1) := by decide +kernel
theorem dL_affectedLots_1 : decode cL_affectedLots 1 = .ok (.iconst 0, 1) := by decide +kernel
theorem dL_affectedLots_2 : decode cL_affectedLots 2 = .ok (.aload_n 0, 1) := by decide +kernel
theorem dL_affectedLots_3 : decode cL_affectedLots 3 = .ok (.iload_n 1, 1) := by decide +kernel
theorem dL_affectedLots_4 : decode cL_affectedLots 4 = .ok (.invokevirtual 98, 3) := by decide +kernel
theorem dL_affectedLots_7 : decode cL_affectedLots 7 = .ok (.i2l, 1) := by decide +kernel
theorem dL_affectedLots_8 : decode cL_affectedLots 8 = .ok (.lastore, 1) := by decide +kernel
theorem dL_affectedLots_9 : decode cL_affectedLots 9 = .ok (.goto 6, 3) := by decide +kernel
theorem dL_affectedLots_12 : decode cL_affectedLots 12 = .ok (.astore_n 3, 1) := by decide +kernel
theorem dL_affectedLots_13 : decode cL_affectedLots 13 = .ok (.iconst 1, 1) := by decide +kernel
theorem dL_affectedLots_14 : decode cL_affectedLots 14 = .ok (.ireturn, 1) := by decide +kernel
theorem dL_affectedLots_15 : decode cL_affectedLots 15 = .ok (.iconst 0, 1) := by decide +kernel
theorem dL_affectedLots_16 : decode cL_affectedLots 16 = .ok (.ireturn, 1) := by decide +kernel
theorem dL_affectedBySets_0 : decode cL_affectedBySets 0 = .ok (.aload_n 2, 1) := by decide +kernel
theorem dL_affectedBySets_1 : decode cL_affectedBySets 1 = .ok (.iconst 0, 1) := by decide +kernel
theorem dL_affectedBySets_2 : decode cL_affectedBySets 2 = .ok (.aload_n 0, 1) := by decide +kernel
theorem dL_affectedBySets_3 : decode cL_affectedBySets 3 = .ok (.iload_n 1, 1) := by decide +kernel
theorem dL_affectedBySets_4 : decode cL_affectedBySets 4 = .ok (.invokevirtual 101, 3) := by decide +kernel
theorem dL_affectedBySets_7 : decode cL_affectedBySets 7 = .ok (.i2l, 1) := by decide +kernel
theorem dL_affectedBySets_8 : decode cL_affectedBySets 8 = .ok (.lastore, 1) := by decide +kernel
theorem dL_affectedBySets_9 : decode cL_affectedBySets 9 = .ok (.goto 6, 3) := by decide +kernel
theorem dL_affectedBySets_12 : decode cL_affectedBySets 12 = .ok (.astore_n 3, 1) := by decide +kernel
theorem dL_affectedBySets_13 : decode cL_affectedBySets 13 = .ok (.iconst 1, 1) := by decide +kernel
theorem dL_affectedBySets_14 : decode cL_affectedBySets 14 = .ok (.ireturn, 1) := by decide +kernel
theorem dL_affectedBySets_15 : decode cL_affectedBySets 15 = .ok (.iconst 0, 1) := by decide +kernel
theorem dL_affectedBySets_16 : decode cL_affectedBySets 16 = .ok (.ireturn, 1) := by decide +kernel
theorem dL_leastCrates_0 : decode cL_leastCrates 0 = .ok (.aload_n 2, 1) := by decide +kernel
theorem dL_leastCrates_1 : decode cL_leastCrates 1 = .ok (.iconst 0, 1) := by decide +kernel
theorem dL_leastCrates_2 : decode cL_leastCrates 2 = .ok (.aload_n 0, 1) := by decide +kernel
theorem dL_leastCrates_3 : decode cL_leastCrates 3 = .ok (.iload_n 1, 1) := by decide +kernel
theorem dL_leastCrates_4 : decode cL_leastCrates 4 = .ok (.invokevirtual 104, 3) := by decide +kernel
theorem dL_leastCrates_7 : decode cL_leastCrates 7 = .ok (.i2l, 1) := by decide +kernel
theorem dL_leastCrates_8 : decode cL_leastCrates 8 = .ok (.lastore, 1) := by decide +kernel
theorem dL_leastCrates_9 : decode cL_leastCrates 9 = .ok (.goto 6, 3) := by decide +kernel
theorem dL_leastCrates_12 : decode cL_leastCrates 12 = .ok (.astore_n 3, 1) := by decide +kernel
theorem dL_leastCrates_13 : decode cL_leastCrates 13 = .ok (.iconst 1, 1) := by decide +kernel
theorem dL_leastCrates_14 : decode cL_leastCrates 14 = .ok (.ireturn, 1) := by decide +kernel
theorem dL_leastCrates_15 : decode cL_leastCrates 15 = .ok (.iconst 0, 1) := by decide +kernel
theorem dL_leastCrates_16 : decode cL_leastCrates 16 = .ok (.ireturn, 1) := by decide +kernel
theorem dL_leastCratesByTrial_0 : decode cL_leastCratesByTrial 0 = .ok (.aload_n 2, 1) := by decide +kernel
theorem dL_leastCratesByTrial_1 : decode cL_leastCratesByTrial 1 = .ok (.iconst 0, 1) := by decide +kernel
theorem dL_leastCratesByTrial_2 : decode cL_leastCratesByTrial 2 = .ok (.aload_n 0, 1) := by decide +kernel
theorem dL_leastCratesByTrial_3 : decode cL_leastCratesByTrial 3 = .ok (.iload_n 1, 1) := by decide +kernel
theorem dL_leastCratesByTrial_4 : decode cL_leastCratesByTrial 4 = .ok (.invokevirtual 107, 3) := by decide +kernel
theorem dL_leastCratesByTrial_7 : decode cL_leastCratesByTrial 7 = .ok (.i2l, 1) := by decide +kernel
theorem dL_leastCratesByTrial_8 : decode cL_leastCratesByTrial 8 = .ok (.lastore, 1) := by decide +kernel
theorem dL_leastCratesByTrial_9 : decode cL_leastCratesByTrial 9 = .ok (.goto 6, 3) := by decide +kernel
theorem dL_leastCratesByTrial_12 : decode cL_leastCratesByTrial 12 = .ok (.astore_n 3, 1) := by decide +kernel
theorem dL_leastCratesByTrial_13 : decode cL_leastCratesByTrial 13 = .ok (.iconst 1, 1) := by decide +kernel
theorem dL_leastCratesByTrial_14 : decode cL_leastCratesByTrial 14 = .ok (.ireturn, 1) := by decide +kernel
theorem dL_leastCratesByTrial_15 : decode cL_leastCratesByTrial 15 = .ok (.iconst 0, 1) := by decide +kernel
theorem dL_leastCratesByTrial_16 : decode cL_leastCratesByTrial 16 = .ok (.ireturn, 1) := by decide +kernel
theorem dL_isTested_0 : decode cL_isTested 0 = .ok (.aload_n 2, 1) := by decide +kernel
theorem dL_isTested_1 : decode cL_isTested 1 = .ok (.iconst 0, 1) := by decide +kernel
theorem dL_isTested_2 : decode cL_isTested 2 = .ok (.aload_n 0, 1) := by decide +kernel
theorem dL_isTested_3 : decode cL_isTested 3 = .ok (.iload_n 1, 1) := by decide +kernel
theorem dL_isTested_4 : decode cL_isTested 4 = .ok (.invokevirtual 110, 3) := by decide +kernel
theorem dL_isTested_7 : decode cL_isTested 7 = .ok (.ifCond .eq 7, 3) := by decide +kernel
theorem dL_isTested_10 : decode cL_isTested 10 = .ok (.lconst 1, 1) := by decide +kernel
theorem dL_isTested_11 : decode cL_isTested 11 = .ok (.goto 4, 3) := by decide +kernel
theorem dL_isTested_14 : decode cL_isTested 14 = .ok (.lconst 0, 1) := by decide +kernel
theorem dL_isTested_15 : decode cL_isTested 15 = .ok (.lastore, 1) := by decide +kernel
theorem dL_isTested_16 : decode cL_isTested 16 = .ok (.goto 6, 3) := by decide +kernel
theorem dL_isTested_19 : decode cL_isTested 19 = .ok (.astore_n 3, 1) := by decide +kernel
theorem dL_isTested_20 : decode cL_isTested 20 = .ok (.iconst 1, 1) := by decide +kernel
theorem dL_isTested_21 : decode cL_isTested 21 = .ok (.ireturn, 1) := by decide +kernel
theorem dL_isTested_22 : decode cL_isTested 22 = .ok (.iconst 0, 1) := by decide +kernel
theorem dL_isTested_23 : decode cL_isTested 23 = .ok (.ireturn, 1) := by decide +kernel
theorem dL_meanPressure_0 : decode cL_meanPressure 0 = .ok (.aload_n 1, 1) := by decide +kernel
theorem dL_meanPressure_1 : decode cL_meanPressure 1 = .ok (.iconst 0, 1) := by decide +kernel
theorem dL_meanPressure_2 : decode cL_meanPressure 2 = .ok (.aload_n 0, 1) := by decide +kernel
theorem dL_meanPressure_3 : decode cL_meanPressure 3 = .ok (.invokevirtual 113, 3) := by decide +kernel
theorem dL_meanPressure_6 : decode cL_meanPressure 6 = .ok (.dastore, 1) := by decide +kernel
theorem dL_meanPressure_7 : decode cL_meanPressure 7 = .ok (.goto 6, 3) := by decide +kernel
theorem dL_meanPressure_10 : decode cL_meanPressure 10 = .ok (.astore_n 2, 1) := by decide +kernel
theorem dL_meanPressure_11 : decode cL_meanPressure 11 = .ok (.iconst 1, 1) := by decide +kernel
theorem dL_meanPressure_12 : decode cL_meanPressure 12 = .ok (.ireturn, 1) := by decide +kernel
theorem dL_meanPressure_13 : decode cL_meanPressure 13 = .ok (.iconst 0, 1) := by decide +kernel
theorem dL_meanPressure_14 : decode cL_meanPressure 14 = .ok (.ireturn, 1) := by decide +kernel
theorem dL_shippedShare_0 : decode cL_shippedShare 0 = .ok (.aload_n 1, 1) := by decide +kernel
theorem dL_shippedShare_1 : decode cL_shippedShare 1 = .ok (.iconst 0, 1) := by decide +kernel
theorem dL_shippedShare_2 : decode cL_shippedShare 2 = .ok (.aload_n 0, 1) := by decide +kernel
theorem dL_shippedShare_3 : decode cL_shippedShare 3 = .ok (.invokevirtual 119, 3) := by decide +kernel
theorem dL_shippedShare_6 : decode cL_shippedShare 6 = .ok (.f2d, 1) := by decide +kernel
theorem dL_shippedShare_7 : decode cL_shippedShare 7 = .ok (.dastore, 1) := by decide +kernel
theorem dL_shippedShare_8 : decode cL_shippedShare 8 = .ok (.goto 6, 3) := by decide +kernel
theorem dL_shippedShare_11 : decode cL_shippedShare 11 = .ok (.astore_n 2, 1) := by decide +kernel
theorem dL_shippedShare_12 : decode cL_shippedShare 12 = .ok (.iconst 1, 1) := by decide +kernel
theorem dL_shippedShare_13 : decode cL_shippedShare 13 = .ok (.ireturn, 1) := by decide +kernel
theorem dL_shippedShare_14 : decode cL_shippedShare 14 = .ok (.iconst 0, 1) := by decide +kernel
theorem dL_shippedShare_15 : decode cL_shippedShare 15 = .ok (.ireturn, 1) := by decide +kernel
theorem dL_writeLot_0 : decode cL_writeLot 0 = .ok (.aload_n 2, 1) := by decide +kernel
theorem dL_writeLot_1 : decode cL_writeLot 1 = .ok (.iconst 0, 1) := by decide +kernel
theorem dL_writeLot_2 : decode cL_writeLot 2 = .ok (.aload_n 0, 1) := by decide +kernel
theorem dL_writeLot_3 : decode cL_writeLot 3 = .ok (.iload_n 1, 1) := by decide +kernel
theorem dL_writeLot_4 : decode cL_writeLot 4 = .ok (.invokevirtual 123, 3) := by decide +kernel
theorem dL_writeLot_7 : decode cL_writeLot 7 = .ok (.i2l, 1) := by decide +kernel
theorem dL_writeLot_8 : decode cL_writeLot 8 = .ok (.lastore, 1) := by decide +kernel
theorem dL_writeLot_9 : decode cL_writeLot 9 = .ok (.goto 6, 3) := by decide +kernel
theorem dL_writeLot_12 : decode cL_writeLot 12 = .ok (.astore_n 3, 1) := by decide +kernel
theorem dL_writeLot_13 : decode cL_writeLot 13 = .ok (.iconst 1, 1) := by decide +kernel
theorem dL_writeLot_14 : decode cL_writeLot 14 = .ok (.ireturn, 1) := by decide +kernel
theorem dL_writeLot_15 : decode cL_writeLot 15 = .ok (.iconst 0, 1) := by decide +kernel
theorem dL_writeLot_16 : decode cL_writeLot 16 = .ok (.ireturn, 1) := by decide +kernel
theorem dL_lineAt_0 : decode cL_lineAt 0 = .ok (.aload_n 2, 1) := by decide +kernel
theorem dL_lineAt_1 : decode cL_lineAt 1 = .ok (.iconst 0, 1) := by decide +kernel
theorem dL_lineAt_2 : decode cL_lineAt 2 = .ok (.aload_n 0, 1) := by decide +kernel
theorem dL_lineAt_3 : decode cL_lineAt 3 = .ok (.iload_n 1, 1) := by decide +kernel
theorem dL_lineAt_4 : decode cL_lineAt 4 = .ok (.invokevirtual 126, 3) := by decide +kernel
theorem dL_lineAt_7 : decode cL_lineAt 7 = .ok (.i2l, 1) := by decide +kernel
theorem dL_lineAt_8 : decode cL_lineAt 8 = .ok (.lastore, 1) := by decide +kernel
theorem dL_lineAt_9 : decode cL_lineAt 9 = .ok (.goto 6, 3) := by decide +kernel
theorem dL_lineAt_12 : decode cL_lineAt 12 = .ok (.astore_n 3, 1) := by decide +kernel
theorem dL_lineAt_13 : decode cL_lineAt 13 = .ok (.iconst 1, 1) := by decide +kernel
theorem dL_lineAt_14 : decode cL_lineAt 14 = .ok (.ireturn, 1) := by decide +kernel
theorem dL_lineAt_15 : decode cL_lineAt 15 = .ok (.iconst 0, 1) := by decide +kernel
theorem dL_lineAt_16 : decode cL_lineAt 16 = .ok (.ireturn, 1) := by decide +kernel
theorem dL_type_0 : decode cL_type 0 = .ok (.aload_n 2, 1) := by decide +kernel
theorem dL_type_1 : decode cL_type 1 = .ok (.iconst 0, 1) := by decide +kernel
theorem dL_type_2 : decode cL_type 2 = .ok (.aload_n 0, 1) := by decide +kernel
theorem dL_type_3 : decode cL_type 3 = .ok (.iload_n 1, 1) := by decide +kernel
theorem dL_type_4 : decode cL_type 4 = .ok (.invokevirtual 130, 3) := by decide +kernel
theorem dL_type_7 : decode cL_type 7 = .ok (.i2l, 1) := by decide +kernel
theorem dL_type_8 : decode cL_type 8 = .ok (.lastore, 1) := by decide +kernel
theorem dL_type_9 : decode cL_type 9 = .ok (.goto 9, 3) := by decide +kernel
theorem dL_type_12 : decode cL_type 12 = .ok (.astore_n 3, 1) := by decide +kernel
theorem dL_type_13 : decode cL_type 13 = .ok (.iconst 1, 1) := by decide +kernel
theorem dL_type_14 : decode cL_type 14 = .ok (.ireturn, 1) := by decide +kernel
theorem dL_type_15 : decode cL_type 15 = .ok (.astore_n 3, 1) := by decide +kernel
theorem dL_type_16 : decode cL_type 16 = .ok (.iconst 2, 1) := by decide +kernel
theorem dL_type_17 : decode cL_type 17 = .ok (.ireturn, 1) := by decide +kernel
theorem dL_type_18 : decode cL_type 18 = .ok (.iconst 0, 1) := by decide +kernel
theorem dL_type_19 : decode cL_type 19 = .ok (.ireturn, 1) := by decide +kernel
theorem dL_execute_0 : decode cL_execute 0 = .ok (.aload_n 1, 1) := by decide +kernel
theorem dL_execute_1 : decode cL_execute 1 = .ok (.iconst 0, 1) := by decide +kernel
theorem dL_execute_2 : decode cL_execute 2 = .ok (.aload_n 0, 1) := by decide +kernel
theorem dL_execute_3 : decode cL_execute 3 = .ok (.invokevirtual 134, 3) := by decide +kernel
theorem dL_execute_6 : decode cL_execute 6 = .ok (.i2l, 1) := by decide +kernel
theorem dL_execute_7 : decode cL_execute 7 = .ok (.lastore, 1) := by decide +kernel
theorem dL_execute_8 : decode cL_execute 8 = .ok (.goto 9, 3) := by decide +kernel
theorem dL_execute_11 : decode cL_execute 11 = .ok (.astore_n 2, 1) := by decide +kernel
theorem dL_execute_12 : decode cL_execute 12 = .ok (.iconst 1, 1) := by decide +kernel
theorem dL_execute_13 : decode cL_execute 13 = .ok (.ireturn, 1) := by decide +kernel
theorem dL_execute_14 : decode cL_execute 14 = .ok (.astore_n 2, 1) := by decide +kernel
theorem dL_execute_15 : decode cL_execute 15 = .ok (.iconst 2, 1) := by decide +kernel
theorem dL_execute_16 : decode cL_execute 16 = .ok (.ireturn, 1) := by decide +kernel
theorem dL_execute_17 : decode cL_execute 17 = .ok (.iconst 0, 1) := by decide +kernel
theorem dL_execute_18 : decode cL_execute 18 = .ok (.ireturn, 1) := by decide +kernel
theorem dL_errorPosition_0 : decode cL_errorPosition 0 = .ok (.aload_n 1, 1) := by decide +kernel
theorem dL_errorPosition_1 : decode cL_errorPosition 1 = .ok (.iconst 0, 1) := by decide +kernel
theorem dL_errorPosition_2 : decode cL_errorPosition 2 = .ok (.aload_n 0, 1) := by decide +kernel
theorem dL_errorPosition_3 : decode cL_errorPosition 3 = .ok (.invokevirtual 137, 3) := by decide +kernel
theorem dL_errorPosition_6 : decode cL_errorPosition 6 = .ok (.i2l, 1) := by decide +kernel
theorem dL_errorPosition_7 : decode cL_errorPosition 7 = .ok (.lastore, 1) := by decide +kernel
theorem dL_errorPosition_8 : decode cL_errorPosition 8 = .ok (.goto 6, 3) := by decide +kernel
theorem dL_errorPosition_11 : decode cL_errorPosition 11 = .ok (.astore_n 2, 1) := by decide +kernel
theorem dL_errorPosition_12 : decode cL_errorPosition 12 = .ok (.iconst 1, 1) := by decide +kernel
theorem dL_errorPosition_13 : decode cL_errorPosition 13 = .ok (.ireturn, 1) := by decide +kernel
theorem dL_errorPosition_14 : decode cL_errorPosition 14 = .ok (.iconst 0, 1) := by decide +kernel
theorem dL_errorPosition_15 : decode cL_errorPosition 15 = .ok (.ireturn, 1) := by decide +kernel
theorem dL_failedCommand_0 : decode cL_failedCommand 0 = .ok (.aload_n 1, 1) := by decide +kernel
theorem dL_failedCommand_1 : decode cL_failedCommand 1 = .ok (.iconst 0, 1) := by decide +kernel
theorem dL_failedCommand_2 : decode cL_failedCommand 2 = .ok (.aload_n 0, 1) := by decide +kernel
theorem dL_failedCommand_3 : decode cL_failedCommand 3 = .ok (.invokevirtual 140, 3) := by decide +kernel
theorem dL_failedCommand_6 : decode cL_failedCommand 6 = .ok (.i2l, 1) := by decide +kernel
theorem dL_failedCommand_7 : decode cL_failedCommand 7 = .ok (.lastore, 1) := by decide +kernel
theorem dL_failedCommand_8 : decode cL_failedCommand 8 = .ok (.goto 6, 3) := by decide +kernel
theorem dL_failedCommand_11 : decode cL_failedCommand 11 = .ok (.astore_n 2, 1) := by decide +kernel
theorem dL_failedCommand_12 : decode cL_failedCommand 12 = .ok (.iconst 1, 1) := by decide +kernel
theorem dL_failedCommand_13 : decode cL_failedCommand 13 = .ok (.ireturn, 1) := by decide +kernel
theorem dL_failedCommand_14 : decode cL_failedCommand 14 = .ok (.iconst 0, 1) := by decide +kernel
theorem dL_failedCommand_15 : decode cL_failedCommand 15 = .ok (.ireturn, 1) := by decide +kernel
theorem dL_undo_0 : decode cL_undo 0 = .ok (.aload_n 1, 1) := by decide +kernel
theorem dL_undo_1 : decode cL_undo 1 = .ok (.iconst 0, 1) := by decide +kernel
theorem dL_undo_2 : decode cL_undo 2 = .ok (.aload_n 0, 1) := by decide +kernel
theorem dL_undo_3 : decode cL_undo 3 = .ok (.invokevirtual 143, 3) := by decide +kernel
theorem dL_undo_6 : decode cL_undo 6 = .ok (.i2l, 1) := by decide +kernel
theorem dL_undo_7 : decode cL_undo 7 = .ok (.lastore, 1) := by decide +kernel
theorem dL_undo_8 : decode cL_undo 8 = .ok (.goto 6, 3) := by decide +kernel
theorem dL_undo_11 : decode cL_undo 11 = .ok (.astore_n 2, 1) := by decide +kernel
theorem dL_undo_12 : decode cL_undo 12 = .ok (.iconst 1, 1) := by decide +kernel
theorem dL_undo_13 : decode cL_undo 13 = .ok (.ireturn, 1) := by decide +kernel
theorem dL_undo_14 : decode cL_undo 14 = .ok (.iconst 0, 1) := by decide +kernel
theorem dL_undo_15 : decode cL_undo 15 = .ok (.ireturn, 1) := by decide +kernel
theorem dL_restore_0 : decode cL_restore 0 = .ok (.aload_n 1, 1) := by decide +kernel
theorem dL_restore_1 : decode cL_restore 1 = .ok (.iconst 0, 1) := by decide +kernel
theorem dL_restore_2 : decode cL_restore 2 = .ok (.aload_n 0, 1) := by decide +kernel
theorem dL_restore_3 : decode cL_restore 3 = .ok (.invokevirtual 146, 3) := by decide +kernel
theorem dL_restore_6 : decode cL_restore 6 = .ok (.i2l, 1) := by decide +kernel
theorem dL_restore_7 : decode cL_restore 7 = .ok (.lastore, 1) := by decide +kernel
theorem dL_restore_8 : decode cL_restore 8 = .ok (.goto 6, 3) := by decide +kernel
theorem dL_restore_11 : decode cL_restore 11 = .ok (.astore_n 2, 1) := by decide +kernel
theorem dL_restore_12 : decode cL_restore 12 = .ok (.iconst 1, 1) := by decide +kernel
theorem dL_restore_13 : decode cL_restore 13 = .ok (.ireturn, 1) := by decide +kernel
theorem dL_restore_14 : decode cL_restore 14 = .ok (.iconst 0, 1) := by decide +kernel
theorem dL_restore_15 : decode cL_restore 15 = .ok (.ireturn, 1) := by decide +kernel
