theorem dX12_crates_92 : decode cX12_crates 92 = .ok (.ishl, 1) := by decide +kernel
theorem dX12_crates_93 : decode cX12_crates 93 = .ok (.ixor, 1) := by decide +kernel
theorem dX12_crates_94 : decode cX12_crates 94 = .ok (.iaload, 1) := by decide +kernel
theorem dX12_crates_95 : decode cX12_crates 95 = .ok (.istore 5, 2) := by decide +kernel
theorem dX12_crates_97 : decode cX12_crates 97 = .ok (.iload 5, 2) := by decide +kernel
theorem dX12_crates_99 : decode cX12_crates 99 = .ok (.ifCond .eq 20, 3) := by decide +kernel
theorem dX12_crates_102 : decode cX12_crates 102 = .ok (.iload 5, 2) := by decide +kernel
theorem dX12_crates_104 : decode cX12_crates 104 = .ok (.bipush 100, 2) := by decide +kernel
theorem dX12_crates_106 : decode cX12_crates 106 = .ok (.irem, 1) := by decide +kernel
theorem dX12_crates_107 : decode cX12_crates 107 = .ok (.aload_n 0, 1) := by decide +kernel
theorem dX12_crates_108 : decode cX12_crates 108 = .ok (.iload 4, 2) := by decide +kernel
theorem dX12_crates_110 : decode cX12_crates 110 = .ok (.iconst 1, 1) := by decide +kernel
theorem dX12_crates_111 : decode cX12_crates 111 = .ok (.invokevirtual 107, 3) := by decide +kernel
theorem dX12_crates_114 : decode cX12_crates 114 = .ok (.iadd, 1) := by decide +kernel
theorem dX12_crates_115 : decode cX12_crates 115 = .ok (.iload_n 1, 1) := by decide +kernel
theorem dX12_crates_116 : decode cX12_crates 116 = .ok (.if_icmp .le 7, 3) := by decide +kernel
theorem dX12_crates_119 : decode cX12_crates 119 = .ok (.iconst 1, 1) := by decide +kernel
theorem dX12_crates_120 : decode cX12_crates 120 = .ok (.goto 4, 3) := by decide +kernel
theorem dX12_crates_123 : decode cX12_crates 123 = .ok (.iconst 0, 1) := by decide +kernel
theorem dX12_crates_124 : decode cX12_crates 124 = .ok (.istore 6, 2) := by decide +kernel
theorem dX12_crates_126 : decode cX12_crates 126 = .ok (.aload_n 0, 1) := by decide +kernel
theorem dX12_crates_127 : decode cX12_crates 127 = .ok (.getfield 39, 3) := by decide +kernel
theorem dX12_crates_130 : decode cX12_crates 130 = .ok (.iload_n 3, 1) := by decide +kernel
theorem dX12_crates_131 : decode cX12_crates 131 = .ok (.aload_n 0, 1) := by decide +kernel
theorem dX12_crates_132 : decode cX12_crates 132 = .ok (.getfield 39, 3) := by decide +kernel
theorem dX12_crates_135 : decode cX12_crates 135 = .ok (.iload_n 3, 1) := by decide +kernel
theorem dX12_crates_136 : decode cX12_crates 136 = .ok (.iaload, 1) := by decide +kernel
theorem dX12_crates_137 : decode cX12_crates 137 = .ok (.iload 6, 2) := by decide +kernel
theorem dX12_crates_139 : decode cX12_crates 139 = .ok (.ifCond .eq 24, 3) := by decide +kernel
theorem dX12_crates_142 : decode cX12_crates 142 = .ok (.bipush 100, 2) := by decide +kernel
theorem dX12_crates_144 : decode cX12_crates 144 = .ok (.iload 5, 2) := by decide +kernel
theorem dX12_crates_146 : decode cX12_crates 146 = .ok (.bipush 100, 2) := by decide +kernel
theorem dX12_crates_148 : decode cX12_crates 148 = .ok (.idiv, 1) := by decide +kernel
theorem dX12_crates_149 : decode cX12_crates 149 = .ok (.iconst 1, 1) := by decide +kernel
theorem dX12_crates_150 : decode cX12_crates 150 = .ok (.iadd, 1) := by decide +kernel
theorem dX12_crates_151 : decode cX12_crates 151 = .ok (.imul, 1) := by decide +kernel
theorem dX12_crates_152 : decode cX12_crates 152 = .ok (.aload_n 0, 1) := by decide +kernel
theorem dX12_crates_153 : decode cX12_crates 153 = .ok (.iload 4, 2) := by decide +kernel
theorem dX12_crates_155 : decode cX12_crates 155 = .ok (.iconst 1, 1) := by decide +kernel
theorem dX12_crates_156 : decode cX12_crates 156 = .ok (.invokevirtual 107, 3) := by decide +kernel
theorem dX12_crates_159 : decode cX12_crates 159 = .ok (.iadd, 1) := by decide +kernel
theorem dX12_crates_160 : decode cX12_crates 160 = .ok (.goto 13, 3) := by decide +kernel
theorem dX12_crates_163 : decode cX12_crates 163 = .ok (.iload 5, 2) := by decide +kernel
theorem dX12_crates_165 : decode cX12_crates 165 = .ok (.aload_n 0, 1) := by decide +kernel
theorem dX12_crates_166 : decode cX12_crates 166 = .ok (.iload 4, 2) := by decide +kernel
theorem dX12_crates_168 : decode cX12_crates 168 = .ok (.iconst 1, 1) := by decide +kernel
theorem dX12_crates_169 : decode cX12_crates 169 = .ok (.invokevirtual 107, 3) := by decide +kernel
theorem dX12_crates_172 : decode cX12_crates 172 = .ok (.iadd, 1) := by decide +kernel
theorem dX12_crates_173 : decode cX12_crates 173 = .ok (.invokestatic 97, 3) := by decide +kernel
theorem dX12_crates_176 : decode cX12_crates 176 = .ok (.iastore, 1) := by decide +kernel
theorem dX12_crates_177 : decode cX12_crates 177 = .ok (.iinc 4 1, 3) := by decide +kernel
theorem dX12_crates_180 : decode cX12_crates 180 = .ok (.goto (-119), 3) := by decide +kernel
theorem dX12_crates_183 : decode cX12_crates 183 = .ok (.iinc 3 1, 3) := by decide +kernel
theorem dX12_crates_186 : decode cX12_crates 186 = .ok (.goto (-141), 3) := by decide +kernel
theorem dX12_crates_189 : decode cX12_crates 189 = .ok (.aload_n 0, 1) := by decide +kernel
theorem dX12_crates_190 : decode cX12_crates 190 = .ok (.getfield 39, 3) := by decide +kernel
theorem dX12_crates_193 : decode cX12_crates 193 = .ok (.iload_n 2, 1) := by decide +kernel
theorem dX12_crates_194 : decode cX12_crates 194 = .ok (.iaload, 1) := by decide +kernel
theorem dX12_crates_195 : decode cX12_crates 195 = .ok (.bipush 100, 2) := by decide +kernel
theorem dX12_crates_197 : decode cX12_crates 197 = .ok (.idiv, 1) := by decide +kernel
theorem dX12_crates_198 : decode cX12_crates 198 = .ok (.ireturn, 1) := by decide +kernel
theorem dX12_leastCrates_0 : decode cX12_leastCrates 0 = .ok (.aload_n 0, 1) := by decide +kernel
theorem dX12_leastCrates_1 : decode cX12_leastCrates 1 = .ok (.iload_n 1, 1) := by decide +kernel
theorem dX12_leastCrates_2 : decode cX12_leastCrates 2 = .ok (.invokevirtual 139, 3) := by decide +kernel
theorem dX12_leastCrates_5 : decode cX12_leastCrates 5 = .ok (.ireturn, 1) := by decide +kernel
theorem dX12_leastCratesByTrial_0 : decode cX12_leastCratesByTrial 0 = .ok (.aload_n 0, 1) := by decide +kernel
theorem dX12_leastCratesByTrial_1 : decode cX12_leastCratesByTrial 1 = .ok (.iload_n 1, 1) := by decide +kernel
theorem dX12_leastCratesByTrial_2 : decode cX12_leastCratesByTrial 2 = .ok (.invokevirtual 139, 3) := by decide +kernel
theorem dX12_leastCratesByTrial_5 : decode cX12_leastCratesByTrial 5 = .ok (.ireturn, 1) := by decide +kernel
theorem dX12_isTest_0 : decode cX12_isTest 0 = .ok (.iconst 0, 1) := by decide +kernel
theorem dX12_isTest_1 : decode cX12_isTest 1 = .ok (.istore_n 2, 1) := by decide +kernel
theorem dX12_isTest_2 : decode cX12_isTest 2 = .ok (.iload_n 2, 1) := by decide +kernel
theorem dX12_isTest_3 : decode cX12_isTest 3 = .ok (.aload_n 0, 1) := by decide +kernel
theorem dX12_isTest_4 : decode cX12_isTest 4 = .ok (.getfield 7, 3) := by decide +kernel
theorem dX12_isTest_7 : decode cX12_isTest 7 = .ok (.iconst 3, 1) := by decide +kernel
theorem dX12_isTest_8 : decode cX12_isTest 8 = .ok (.iaload, 1) := by decide +kernel
theorem dX12_isTest_9 : decode cX12_isTest 9 = .ok (.if_icmp .ge 21, 3) := by decide +kernel
theorem dX12_isTest_12 : decode cX12_isTest 12 = .ok (.aload_n 0, 1) := by decide +kernel
theorem dX12_isTest_13 : decode cX12_isTest 13 = .ok (.iload_n 2, 1) := by decide +kernel
theorem dX12_isTest_14 : decode cX12_isTest 14 = .ok (.invokevirtual 126, 3) := by decide +kernel
theorem dX12_isTest_17 : decode cX12_isTest 17 = .ok (.iload_n 1, 1) := by decide +kernel
theorem dX12_isTest_18 : decode cX12_isTest 18 = .ok (.iand, 1) := by decide +kernel
theorem dX12_isTest_19 : decode cX12_isTest 19 = .ok (.ifCond .ne 5, 3) := by decide +kernel
theorem dX12_isTest_22 : decode cX12_isTest 22 = .ok (.iconst 0, 1) := by decide +kernel
theorem dX12_isTest_23 : decode cX12_isTest 23 = .ok (.ireturn, 1) := by decide +kernel
theorem dX12_isTest_24 : decode cX12_isTest 24 = .ok (.iinc 2 1, 3) := by decide +kernel
theorem dX12_isTest_27 : decode cX12_isTest 27 = .ok (.goto (-25), 3) := by decide +kernel
theorem dX12_isTest_30 : decode cX12_isTest 30 = .ok (.iconst 1, 1) := by decide +kernel
theorem dX12_isTest_31 : decode cX12_isTest 31 = .ok (.ireturn, 1) := by decide +kernel
theorem dX12_best_0 : decode cX12_best 0 = .ok (.iconst 1, 1) := by decide +kernel
theorem dX12_best_1 : decode cX12_best 1 = .ok (.aload_n 0, 1) := by decide +kernel
theorem dX12_best_2 : decode cX12_best 2 = .ok (.getfield 7, 3) := by decide +kernel
theorem dX12_best_5 : decode cX12_best 5 = .ok (.iconst 0, 1) := by decide +kernel
theorem dX12_best_6 : decode cX12_best 6 = .ok (.iaload, 1) := by decide +kernel
theorem dX12_best_7 : decode cX12_best 7 = .ok (.ishl, 1) := by decide +kernel
theorem dX12_best_8 : decode cX12_best 8 = .ok (.iconst 1, 1) := by decide +kernel
theorem dX12_best_9 : decode cX12_best 9 = .ok (.isub, 1) := by decide +kernel
theorem dX12_best_10 : decode cX12_best 10 = .ok (.istore_n 1, 1) := by decide +kernel
theorem dX12_best_11 : decode cX12_best 11 = .ok (.iload_n 1, 1) := by decide +kernel
theorem dX12_best_12 : decode cX12_best 12 = .ok (.istore_n 2, 1) := by decide +kernel
theorem dX12_best_13 : decode cX12_best 13 = .ok (.iload_n 2, 1) := by decide +kernel
theorem dX12_best_14 : decode cX12_best 14 = .ok (.ifCond .lt 30, 3) := by decide +kernel
theorem dX12_best_17 : decode cX12_best 17 = .ok (.aload_n 0, 1) := by decide +kernel
theorem dX12_best_18 : decode cX12_best 18 = .ok (.iload_n 2, 1) := by decide +kernel
theorem dX12_best_19 : decode cX12_best 19 = .ok (.invokevirtual 142, 3) := by decide +kernel
theorem dX12_best_22 : decode cX12_best 22 = .ok (.ifCond .eq 16, 3) := by decide +kernel
theorem dX12_best_25 : decode cX12_best 25 = .ok (.iload_n 2, 1) := by decide +kernel
theorem dX12_best_26 : decode cX12_best 26 = .ok (.invokestatic 145, 3) := by decide +kernel
theorem dX12_best_29 : decode cX12_best 29 = .ok (.iload_n 1, 1) := by decide +kernel
theorem dX12_best_30 : decode cX12_best 30 = .ok (.invokestatic 145, 3) := by decide +kernel
theorem dX12_best_33 : decode cX12_best 33 = .ok (.if_icmp .gt 5, 3) := by decide +kernel
theorem dX12_best_36 : decode cX12_best 36 = .ok (.iload_n 2, 1) := by decide +kernel
theorem dX12_best_37 : decode cX12_best 37 = .ok (.istore_n 1, 1) := by decide +kernel
theorem dX12_best_38 : decode cX12_best 38 = .ok (.iinc 2 (-1), 3) := by decide +kernel
theorem dX12_best_41 : decode cX12_best 41 = .ok (.goto (-28), 3) := by decide +kernel
theorem dX12_best_44 : decode cX12_best 44 = .ok (.iload_n 1, 1) := by decide +kernel
theorem dX12_best_45 : decode cX12_best 45 = .ok (.ireturn, 1) := by decide +kernel
theorem dX12_fewestTests_0 : decode cX12_fewestTests 0 = .ok (.aload_n 0, 1) := by decide +kernel
theorem dX12_fewestTests_1 : decode cX12_fewestTests 1 = .ok (.iconst 0, 1) := by decide +kernel
theorem dX12_fewestTests_2 : decode cX12_fewestTests 2 = .ok (.putfield 45, 3) := by decide +kernel
theorem dX12_fewestTests_5 : decode cX12_fewestTests 5 = .ok (.aload_n 0, 1) := by decide +kernel
theorem dX12_fewestTests_6 : decode cX12_fewestTests 6 = .ok (.invokevirtual 148, 3) := by decide +kernel
theorem dX12_fewestTests_9 : decode cX12_fewestTests 9 = .ok (.invokestatic 145, 3) := by decide +kernel
theorem dX12_fewestTests_12 : decode cX12_fewestTests 12 = .ok (.ireturn, 1) := by decide +kernel
theorem dX12_fewestTestsByBranching_0 : decode cX12_fewestTestsByBranching 0 = .ok (.aload_n 0, 1) := by decide +kernel
theorem dX12_fewestTestsByBranching_1 : decode cX12_fewestTestsByBranching 1 = .ok (.iconst 0, 1) := by decide +kernel
theorem dX12_fewestTestsByBranching_2 : decode cX12_fewestTestsByBranching 2 = .ok (.putfield 45, 3) := by decide +kernel
theorem dX12_fewestTestsByBranching_5 : decode cX12_fewestTestsByBranching 5 = .ok (.aload_n 0, 1) := by decide +kernel
theorem dX12_fewestTestsByBranching_6 : decode cX12_fewestTestsByBranching 6 = .ok (.invokevirtual 148, 3) := by decide +kernel
theorem dX12_fewestTestsByBranching_9 : decode cX12_fewestTestsByBranching 9 = .ok (.invokestatic 145, 3) := by decide +kernel
theorem dX12_fewestTestsByBranching_12 : decode cX12_fewestTestsByBranching 12 = .ok (.ireturn, 1) := by decide +kernel
theorem dX12_isTested_0 : decode cX12_isTested 0 = .ok (.aload_n 0, 1) := by decide +kernel
theorem dX12_isTested_1 : decode cX12_isTested 1 = .ok (.aload_n 0, 1) := by decide +kernel
theorem dX12_isTested_2 : decode cX12_isTested 2 = .ok (.iload_n 1, 1) := by decide +kernel
theorem dX12_isTested_3 : decode cX12_isTested 3 = .ok (.invokevirtual 71, 3) := by decide +kernel
theorem dX12_isTested_6 : decode cX12_isTested 6 = .ok (.ifCond .eq 7, 3) := by decide +kernel
theorem dX12_isTested_9 : decode cX12_isTested 9 = .ok (.iconst 0, 1) := by decide +kernel
theorem dX12_isTested_10 : decode cX12_isTested 10 = .ok (.goto 4, 3) := by decide +kernel
theorem dX12_isTested_13 : decode cX12_isTested 13 = .ok (.iconst 1, 1) := by decide +kernel
theorem dX12_isTested_14 : decode cX12_isTested 14 = .ok (.invokevirtual 63, 3) := by decide +kernel
theorem dX12_isTested_17 : decode cX12_isTested 17 = .ok (.ifCond .ne 19, 3) := by decide +kernel
theorem dX12_isTested_20 : decode cX12_isTested 20 = .ok (.aload_n 0, 1) := by decide +kernel
theorem dX12_isTested_21 : decode cX12_isTested 21 = .ok (.invokevirtual 148, 3) := by decide +kernel
theorem dX12_isTested_24 : decode cX12_isTested 24 = .ok (.iload_n 1, 1) := by decide +kernel
theorem dX12_isTested_25 : decode cX12_isTested 25 = .ok (.ishr, 1) := by decide +kernel
theorem dX12_isTested_26 : decode cX12_isTested 26 = .ok (.iconst 1, 1) := by decide +kernel
theorem dX12_isTested_27 : decode cX12_isTested 27 = .ok (.iand, 1) := by decide +kernel
theorem dX12_isTested_28 : decode cX12_isTested 28 = .ok (.iconst 1, 1) := by decide +kernel
theorem dX12_isTested_29 : decode cX12_isTested 29 = .ok (.if_icmp .ne 7, 3) := by decide +kernel
theorem dX12_isTested_32 : decode cX12_isTested 32 = .ok (.iconst 1, 1) := by decide +kernel
theorem dX12_isTested_33 : decode cX12_isTested 33 = .ok (.goto 4, 3) := by decide +kernel
theorem dX12_isTested_36 : decode cX12_isTested 36 = .ok (.iconst 0, 1) := by decide +kernel
theorem dX12_isTested_37 : decode cX12_isTested 37 = .ok (.ireturn, 1) := by decide +kernel
theorem dX12_dayCount_0 : decode cX12_dayCount 0 = .ok (.aload_n 0, 1) := by decide +kernel
theorem dX12_dayCount_1 : decode cX12_dayCount 1 = .ok (.iconst 0, 1) := by decide +kernel
theorem dX12_dayCount_2 : decode cX12_dayCount 2 = .ok (.putfield 45, 3) := by decide +kernel
theorem dX12_dayCount_5 : decode cX12_dayCount 5 = .ok (.aload_n 0, 1) := by decide +kernel
theorem dX12_dayCount_6 : decode cX12_dayCount 6 = .ok (.getfield 7, 3) := by decide +kernel
theorem dX12_dayCount_9 : decode cX12_dayCount 9 = .ok (.iconst 5, 1) := by decide +kernel
theorem dX12_dayCount_10 : decode cX12_dayCount 10 = .ok (.iaload, 1) := by decide +kernel
theorem dX12_dayCount_11 : decode cX12_dayCount 11 = .ok (.ireturn, 1) := by decide +kernel
theorem dX12_filled_0 : decode cX12_filled 0 = .ok (.aload_n 0, 1) := by decide +kernel
theorem dX12_filled_1 : decode cX12_filled 1 = .ok (.iconst 0, 1) := by decide +kernel
theorem dX12_filled_2 : decode cX12_filled 2 = .ok (.putfield 45, 3) := by decide +kernel
theorem dX12_filled_5 : decode cX12_filled 5 = .ok (.aload_n 0, 1) := by decide +kernel
theorem dX12_filled_6 : decode cX12_filled 6 = .ok (.getfield 7, 3) := by decide +kernel
theorem dX12_filled_9 : decode cX12_filled 9 = .ok (.bipush 7, 2) := by decide +kernel
theorem dX12_filled_11 : decode cX12_filled 11 = .ok (.iaload, 1) := by decide +kernel
theorem dX12_filled_12 : decode cX12_filled 12 = .ok (.ireturn, 1) := by decide +kernel
theorem dX12_keptJars_0 : decode cX12_keptJars 0 = .ok (.iconst 0, 1) := by decide +kernel
theorem dX12_keptJars_1 : decode cX12_keptJars 1 = .ok (.istore_n 1, 1) := by decide +kernel
theorem dX12_keptJars_2 : decode cX12_keptJars 2 = .ok (.iconst 0, 1) := by decide +kernel
theorem dX12_keptJars_3 : decode cX12_keptJars 3 = .ok (.istore_n 2, 1) := by decide +kernel
theorem dX12_keptJars_4 : decode cX12_keptJars 4 = .ok (.iload_n 2, 1) := by decide +kernel
theorem dX12_keptJars_5 : decode cX12_keptJars 5 = .ok (.aload_n 0, 1) := by decide +kernel
theorem dX12_keptJars_6 : decode cX12_keptJars 6 = .ok (.getfield 7, 3) := by decide +kernel
theorem dX12_keptJars_9 : decode cX12_keptJars 9 = .ok (.iconst 3, 1) := by decide +kernel
theorem dX12_keptJars_10 : decode cX12_keptJars 10 = .ok (.iaload, 1) := by decide +kernel
theorem dX12_keptJars_11 : decode cX12_keptJars 11 = .ok (.if_icmp .ge 18, 3) := by decide +kernel
theorem dX12_keptJars_14 : decode cX12_keptJars 14 = .ok (.iload_n 1, 1) := by decide +kernel
theorem dX12_keptJars_15 : decode cX12_keptJars 15 = .ok (.aload_n 0, 1) := by decide +kernel
theorem dX12_keptJars_16 : decode cX12_keptJars 16 = .ok (.iload_n 2, 1) := by decide +kernel
theorem dX12_keptJars_17 : decode cX12_keptJars 17 = .ok (.iconst 1, 1) := by decide +kernel
theorem dX12_keptJars_18 : decode cX12_keptJars 18 = .ok (.invokevirtual 107, 3) := by decide +kernel
theorem dX12_keptJars_21 : decode cX12_keptJars 21 = .ok (.iadd, 1) := by decide +kernel
theorem dX12_keptJars_22 : decode cX12_keptJars 22 = .ok (.istore_n 1, 1) := by decide +kernel
theorem dX12_keptJars_23 : decode cX12_keptJars 23 = .ok (.iinc 2 1, 3) := by decide +kernel
theorem dX12_keptJars_26 : decode cX12_keptJars 26 = .ok (.goto (-22), 3) := by decide +kernel
theorem dX12_keptJars_29 : decode cX12_keptJars 29 = .ok (.iload_n 1, 1) := by decide +kernel
theorem dX12_keptJars_30 : decode cX12_keptJars 30 = .ok (.ireturn, 1) := by decide +kernel
theorem dX12_stored_0 : decode cX12_stored 0 = .ok (.aload_n 0, 1) := by decide +kernel
theorem dX12_stored_1 : decode cX12_stored 1 = .ok (.iconst 0, 1) := by decide +kernel
theorem dX12_stored_2 : decode cX12_stored 2 = .ok (.putfield 45, 3) := by decide +kernel
theorem dX12_stored_5 : decode cX12_stored 5 = .ok (.aload_n 0, 1) := by decide +kernel
theorem dX12_stored_6 : decode cX12_stored 6 = .ok (.invokevirtual 151, 3) := by decide +kernel
theorem dX12_stored_9 : decode cX12_stored 9 = .ok (.ireturn, 1) := by decide +kernel
theorem dX12_shipped_0 : decode cX12_shipped 0 = .ok (.aload_n 0, 1) := by decide +kernel
theorem dX12_shipped_1 : decode cX12_shipped 1 = .ok (.iconst 0, 1) := by decide +kernel
theorem dX12_shipped_2 : decode cX12_shipped 2 = .ok (.putfield 45, 3) := by decide +kernel
theorem dX12_shipped_5 : decode cX12_shipped 5 = .ok (.aload_n 0, 1) := by decide +kernel
theorem dX12_shipped_6 : decode cX12_shipped 6 = .ok (.getfield 7, 3) := by decide +kernel
theorem dX12_shipped_9 : decode cX12_shipped 9 = .ok (.bipush 8, 2) := by decide +kernel
theorem dX12_shipped_11 : decode cX12_shipped 11 = .ok (.iaload, 1) := by decide +kernel
theorem dX12_shipped_12 : decode cX12_shipped 12 = .ok (.ireturn, 1) := by decide +kernel
theorem dX12_recalled_0 : decode cX12_recalled 0 = .ok (.aload_n 0, 1) := by decide +kernel
theorem dX12_recalled_1 : decode cX12_recalled 1 = .ok (.iconst 0, 1) := by decide +kernel
theorem dX12_recalled_2 : decode cX12_recalled 2 = .ok (.putfield 45, 3) := by decide +kernel
theorem dX12_recalled_5 : decode cX12_recalled 5 = .ok (.aload_n 0, 1) := by decide +kernel
theorem dX12_recalled_6 : decode cX12_recalled 6 = .ok (.getfield 7, 3) := by decide +kernel
theorem dX12_recalled_9 : decode cX12_recalled 9 = .ok (.bipush 9, 2) := by decide +kernel
theorem dX12_recalled_11 : decode cX12_recalled 11 = .ok (.iaload, 1) := by decide +kernel
theorem dX12_recalled_12 : decode cX12_recalled 12 = .ok (.ireturn, 1) := by decide +kernel
theorem dX12_spoiled_0 : decode cX12_spoiled 0 = .ok (.aload_n 0, 1) := by decide +kernel
theorem dX12_spoiled_1 : decode cX12_spoiled 1 = .ok (.iconst 0, 1) := by decide +kernel
theorem dX12_spoiled_2 : decode cX12_spoiled 2 = .ok (.putfield 45, 3) := by decide +kernel
theorem dX12_spoiled_5 : decode cX12_spoiled 5 = .ok (.aload_n 0, 1) := by decide +kernel
theorem dX12_spoiled_6 : decode cX12_spoiled 6 = .ok (.getfield 7, 3) := by decide +kernel
theorem dX12_spoiled_9 : decode cX12_spoiled 9 = .ok (.bipush 10, 2) := by decide +kernel
theorem dX12_spoiled_11 : decode cX12_spoiled 11 = .ok (.iaload, 1) := by decide +kernel
theorem dX12_spoiled_12 : decode cX12_spoiled 12 = .ok (.ireturn, 1) := by decide +kernel
theorem dX12_meanPressure_0 : decode cX12_meanPressure 0 = .ok (.aload_n 0, 1) := by decide +kernel
theorem dX12_meanPressure_1 : decode cX12_meanPressure 1 = .ok (.aload_n 0, 1) := by decide +kernel
theorem dX12_meanPressure_2 : decode cX12_meanPressure 2 = .ok (.getfield 7, 3) := by decide +kernel
theorem dX12_meanPressure_5 : decode cX12_meanPressure 5 = .ok (.iconst 3, 1) := by decide +kernel
theorem dX12_meanPressure_6 : decode cX12_meanPressure 6 = .ok (.iaload, 1) := by decide +kernel
theorem dX12_meanPressure_7 : decode cX12_meanPressure 7 = .ok (.ifCond .ne 7, 3) := by decide +kernel
theorem dX12_meanPressure_10 : decode cX12_meanPressure 10 = .ok (.iconst 1, 1) := by decide +kernel
theorem dX12_meanPressure_11 : decode cX12_meanPressure 11 = .ok (.goto 4, 3) := by decide +kernel
theorem dX12_meanPressure_14 : decode cX12_meanPressure 14 = .ok (.iconst 0, 1) := by decide +kernel
theorem dX12_meanPressure_15 : decode cX12_meanPressure 15 = .ok (.invokevirtual 63, 3) := by decide +kernel
theorem dX12_meanPressure_18 : decode cX12_meanPressure 18 = .ok (.ifCond .eq 5, 3) := by decide +kernel
theorem dX12_meanPressure_21 : decode cX12_meanPressure 21 = .ok (.dconst 0, 1) := by decide +kernel
theorem dX12_meanPressure_22 : decode cX12_meanPressure 22 = .ok (.dreturn, 1) := by decide +kernel
theorem dX12_meanPressure_23 : decode cX12_meanPressure 23 = .ok (.iconst 0, 1) := by decide +kernel
theorem dX12_meanPressure_24 : decode cX12_meanPressure 24 = .ok (.istore_n 1, 1) := by decide +kernel
theorem dX12_meanPressure_25 : decode cX12_meanPressure 25 = .ok (.iconst 0, 1) := by decide +kernel
theorem dX12_meanPressure_26 : decode cX12_meanPressure 26 = .ok (.istore_n 2, 1) := by decide +kernel
theorem dX12_meanPressure_27 : decode cX12_meanPressure 27 = .ok (.iload_n 2, 1) := by decide +kernel
theorem dX12_meanPressure_28 : decode cX12_meanPressure 28 = .ok (.aload_n 0, 1) := by decide +kernel
theorem dX12_meanPressure_29 : decode cX12_meanPressure 29 = .ok (.getfield 7, 3) := by decide +kernel
theorem dX12_meanPressure_32 : decode cX12_meanPressure 32 = .ok (.iconst 3, 1) := by decide +kernel
theorem dX12_meanPressure_33 : decode cX12_meanPressure 33 = .ok (.iaload, 1) := by decide +kernel
theorem dX12_meanPressure_34 : decode cX12_meanPressure 34 = .ok (.if_icmp .ge 18, 3) := by decide +kernel
theorem dX12_meanPressure_37 : decode cX12_meanPressure 37 = .ok (.iload_n 1, 1) := by decide +kernel
theorem dX12_meanPressure_38 : decode cX12_meanPressure 38 = .ok (.aload_n 0, 1) := by decide +kernel
theorem dX12_meanPressure_39 : decode cX12_meanPressure 39 = .ok (.iload_n 2, 1) := by decide +kernel
theorem dX12_meanPressure_40 : decode cX12_meanPressure 40 = .ok (.iconst 5, 1) := by decide +kernel
theorem dX12_meanPressure_41 : decode cX12_meanPressure 41 = .ok (.invokevirtual 107, 3) := by decide +kernel
theorem dX12_meanPressure_44 : decode cX12_meanPressure 44 = .ok (.iadd, 1) := by decide +kernel
theorem dX12_meanPressure_45 : decode cX12_meanPressure 45 = .ok (.istore_n 1, 1) := by decide +kernel
theorem dX12_meanPressure_46 : decode cX12_meanPressure 46 = .ok (.iinc 2 1, 3) := by decide +kernel
theorem dX12_meanPressure_49 : decode cX12_meanPressure 49 = .ok (.goto (-22), 3) := by decide +kernel
theorem dX12_meanPressure_52 : decode cX12_meanPressure 52 = .ok (.iload_n 1, 1) := by decide +kernel
theorem dX12_meanPressure_53 : decode cX12_meanPressure 53 = .ok (.i2d, 1) := by decide +kernel
theorem dX12_meanPressure_54 : decode cX12_meanPressure 54 = .ok (.aload_n 0, 1) := by decide +kernel
theorem dX12_meanPressure_55 : decode cX12_meanPressure 55 = .ok (.getfield 7, 3) := by decide +kernel
theorem dX12_meanPressure_58 : decode cX12_meanPressure 58 = .ok (.iconst 3, 1) := by decide +kernel
theorem dX12_meanPressure_59 : decode cX12_meanPressure 59 = .ok (.iaload, 1) := by decide +kernel
theorem dX12_meanPressure_60 : decode cX12_meanPressure 60 = .ok (.i2d, 1) := by decide +kernel
theorem dX12_meanPressure_61 : decode cX12_meanPressure 61 = .ok (.ddiv, 1) := by decide +kernel
theorem dX12_meanPressure_62 : decode cX12_meanPressure 62 = .ok (.dreturn, 1) := by decide +kernel
theorem dX12_shippedShare_0 : decode cX12_shippedShare 0 = .ok (.aload_n 0, 1) := by decide +kernel
theorem dX12_shippedShare_1 : decode cX12_shippedShare 1 = .ok (.aload_n 0, 1) := by decide +kernel
theorem dX12_shippedShare_2 : decode cX12_shippedShare 2 = .ok (.getfield 7, 3) := by decide +kernel
theorem dX12_shippedShare_5 : decode cX12_shippedShare 5 = .ok (.bipush 7, 2) := by decide +kernel
theorem dX12_shippedShare_7 : decode cX12_shippedShare 7 = .ok (.iaload, 1) := by decide +kernel
theorem dX12_shippedShare_8 : decode cX12_shippedShare 8 = .ok (.ifCond .ne 7, 3) := by decide +kernel
theorem dX12_shippedShare_11 : decode cX12_shippedShare 11 = .ok (.iconst 1, 1) := by decide +kernel
theorem dX12_shippedShare_12 : decode cX12_shippedShare 12 = .ok (.goto 4, 3) := by decide +kernel
theorem dX12_shippedShare_15 : decode cX12_shippedShare 15 = .ok (.iconst 0, 1) := by decide +kernel
theorem dX12_shippedShare_16 : decode cX12_shippedShare 16 = .ok (.invokevirtual 63, 3) := by decide +kernel
theorem dX12_shippedShare_19 : decode cX12_shippedShare 19 = .ok (.ifCond .eq 7, 3) := by decide +kernel
theorem dX12_shippedShare_22 : decode cX12_shippedShare 22 = .ok (.fconst 0, 1) := by decide +kernel
theorem dX12_shippedShare_23 : decode cX12_shippedShare 23 = .ok (.goto 20, 3) := by decide +kernel
theorem dX12_shippedShare_26 : decode cX12_shippedShare 26 = .ok (.aload_n 0, 1) := by decide +kernel
theorem dX12_shippedShare_27 : decode cX12_shippedShare 27 = .ok (.getfield 7, 3) := by decide +kernel
theorem dX12_shippedShare_30 : decode cX12_shippedShare 30 = .ok (.bipush 8, 2) := by decide +kernel
theorem dX12_shippedShare_32 : decode cX12_shippedShare 32 = .ok (.iaload, 1) := by decide +kernel
theorem dX12_shippedShare_33 : decode cX12_shippedShare 33 = .ok (.i2f, 1) := by decide +kernel
theorem dX12_shippedShare_34 : decode cX12_shippedShare 34 = .ok (.aload_n 0, 1) := by decide +kernel
theorem dX12_shippedShare_35 : decode cX12_shippedShare 35 = .ok (.getfield 7, 3) := by decide +kernel
theorem dX12_shippedShare_38 : decode cX12_shippedShare 38 = .ok (.bipush 7, 2) := by decide +kernel
theorem dX12_shippedShare_40 : decode cX12_shippedShare 40 = .ok (.iaload, 1) := by decide +kernel
theorem dX12_shippedShare_41 : decode cX12_shippedShare 41 = .ok (.i2f, 1) := by decide +kernel
theorem dX12_shippedShare_42 : decode cX12_shippedShare 42 = .ok (.fdiv, 1) := by decide +kernel
theorem dX12_shippedShare_43 : decode cX12_shippedShare 43 = .ok (.freturn, 1) := by decide +kernel
theorem dX12_writes_0 : decode cX12_writes 0 = .ok (.aload_n 0, 1) := by decide +kernel
theorem dX12_writes_1 : decode cX12_writes 1 = .ok (.getfield 32, 3) := by decide +kernel
theorem dX12_writes_4 : decode cX12_writes 4 = .ok (.aload_n 0, 1) := by decide +kernel
theorem dX12_writes_5 : decode cX12_writes 5 = .ok (.getfield 154, 3) := by decide +kernel
theorem dX12_writes_8 : decode cX12_writes 8 = .ok (.iload_n 1, 1) := by decide +kernel
theorem dX12_writes_9 : decode cX12_writes 9 = .ok (.i2c, 1) := by decide +kernel
theorem dX12_writes_10 : decode cX12_writes 10 = .ok (.castore, 1) := by decide +kernel
theorem dX12_writes_11 : decode cX12_writes 11 = .ok (.aload_n 0, 1) := by decide +kernel
theorem dX12_writes_12 : decode cX12_writes 12 = .ok (.dup, 1) := by decide +kernel
theorem dX12_writes_13 : decode cX12_writes 13 = .ok (.getfield 154, 3) := by decide +kernel
theorem dX12_writes_16 : decode cX12_writes 16 = .ok (.iconst 1, 1) := by decide +kernel
theorem dX12_writes_17 : decode cX12_writes 17 = .ok (.iadd, 1) := by decide +kernel
theorem dX12_writes_18 : decode cX12_writes 18 = .ok (.putfield 154, 3) := by decide +kernel
theorem dX12_writes_21 : decode cX12_writes 21 = .ok (.return_, 1) := by decide +kernel
theorem dX12_writesNumber_0 : decode cX12_writesNumber 0 = .ok (.iload_n 1, 1) := by decide +kernel
theorem dX12_writesNumber_1 : decode cX12_writesNumber 1 = .ok (.bipush 9, 2) := by decide +kernel
theorem dX12_writesNumber_3 : decode cX12_writesNumber 3 = .ok (.if_icmp .le 11, 3) := by decide +kernel
theorem dX12_writesNumber_6 : decode cX12_writesNumber 6 = .ok (.aload_n 0, 1) := by decide +kernel
theorem dX12_writesNumber_7 : decode cX12_writesNumber 7 = .ok (.iload_n 1, 1) := by decide +kernel
theorem dX12_writesNumber_8 : decode cX12_writesNumber 8 = .ok (.bipush 10, 2) := by decide +kernel
theorem dX12_writesNumber_10 : decode cX12_writesNumber 10 = .ok (.idiv, 1) := by decide +kernel
theorem dX12_writesNumber_11 : decode cX12_writesNumber 11 = .ok (.invokevirtual 157, 3) := by decide +kernel
theorem dX12_writesNumber_14 : decode cX12_writesNumber 14 = .ok (.aload_n 0, 1) := by decide +kernel
theorem dX12_writesNumber_15 : decode cX12_writesNumber 15 = .ok (.bipush 48, 2) := by decide +kernel
theorem dX12_writesNumber_17 : decode cX12_writesNumber 17 = .ok (.iload_n 1, 1) := by decide +kernel
theorem dX12_writesNumber_18 : decode cX12_writesNumber 18 = .ok (.bipush 10, 2) := by decide +kernel
theorem dX12_writesNumber_20 : decode cX12_writesNumber 20 = .ok (.irem, 1) := by decide +kernel
theorem dX12_writesNumber_21 : decode cX12_writesNumber 21 = .ok (.iadd, 1) := by decide +kernel
theorem dX12_writesNumber_22 : decode cX12_writesNumber 22 = .ok (.invokevirtual 161, 3) := by decide +kernel
theorem dX12_writesNumber_25 : decode cX12_writesNumber 25 = .ok (.return_, 1) := by decide +kernel
theorem dX12_writeLot_0 : decode cX12_writeLot 0 = .ok (.aload_n 0, 1) := by decide +kernel
theorem dX12_writeLot_1 : decode cX12_writeLot 1 = .ok (.iload_n 1, 1) := by decide +kernel
theorem dX12_writeLot_2 : decode cX12_writeLot 2 = .ok (.invokevirtual 129, 3) := by decide +kernel
theorem dX12_writeLot_5 : decode cX12_writeLot 5 = .ok (.ifCond .eq 5, 3) := by decide +kernel
theorem dX12_writeLot_8 : decode cX12_writeLot 8 = .ok (.iconst 0, 1) := by decide +kernel
theorem dX12_writeLot_9 : decode cX12_writeLot 9 = .ok (.ireturn, 1) := by decide +kernel
theorem dX12_writeLot_10 : decode cX12_writeLot 10 = .ok (.aload_n 0, 1) := by decide +kernel
theorem dX12_writeLot_11 : decode cX12_writeLot 11 = .ok (.iload_n 1, 1) := by decide +kernel
theorem dX12_writeLot_12 : decode cX12_writeLot 12 = .ok (.invokevirtual 113, 3) := by decide +kernel
theorem dX12_writeLot_15 : decode cX12_writeLot 15 = .ok (.istore_n 2, 1) := by decide +kernel
theorem dX12_writeLot_16 : decode cX12_writeLot 16 = .ok (.aload_n 0, 1) := by decide +kernel
theorem dX12_writeLot_17 : decode cX12_writeLot 17 = .ok (.iload_n 2, 1) := by decide +kernel
theorem dX12_writeLot_18 : decode cX12_writeLot 18 = .ok (.iconst 2, 1) := by decide +kernel
theorem dX12_writeLot_19 : decode cX12_writeLot 19 = .ok (.invokevirtual 107, 3) := by decide +kernel
theorem dX12_writeLot_22 : decode cX12_writeLot 22 = .ok (.istore_n 3, 1) := by decide +kernel
theorem dX12_writeLot_23 : decode cX12_writeLot 23 = .ok (.aload_n 0, 1) := by decide +kernel
theorem dX12_writeLot_24 : decode cX12_writeLot 24 = .ok (.iconst 0, 1) := by decide +kernel
theorem dX12_writeLot_25 : decode cX12_writeLot 25 = .ok (.putfield 154, 3) := by decide +kernel
theorem dX12_writeLot_28 : decode cX12_writeLot 28 = .ok (.aload_n 0, 1) := by decide +kernel
theorem dX12_writeLot_29 : decode cX12_writeLot 29 = .ok (.iload_n 1, 1) := by decide +kernel
theorem dX12_writeLot_30 : decode cX12_writeLot 30 = .ok (.invokevirtual 157, 3) := by decide +kernel
theorem dX12_writeLot_33 : decode cX12_writeLot 33 = .ok (.aload_n 0, 1) := by decide +kernel
theorem dX12_writeLot_34 : decode cX12_writeLot 34 = .ok (.bipush 58, 2) := by decide +kernel
theorem dX12_writeLot_36 : decode cX12_writeLot 36 = .ok (.invokevirtual 161, 3) := by decide +kernel
theorem dX12_writeLot_39 : decode cX12_writeLot 39 = .ok (.aload_n 0, 1) := by decide +kernel
theorem dX12_writeLot_40 : decode cX12_writeLot 40 = .ok (.aload_n 0, 1) := by decide +kernel
theorem dX12_writeLot_41 : decode cX12_writeLot 41 = .ok (.iload_n 2, 1) := by decide +kernel
theorem dX12_writeLot_42 : decode cX12_writeLot 42 = .ok (.iconst 1, 1) := by decide +kernel
theorem dX12_writeLot_43 : decode cX12_writeLot 43 = .ok (.invokevirtual 107, 3) := by decide +kernel
theorem dX12_writeLot_46 : decode cX12_writeLot 46 = .ok (.invokevirtual 157, 3) := by decide +kernel
theorem dX12_writeLot_49 : decode cX12_writeLot 49 = .ok (.aload_n 0, 1) := by decide +kernel
theorem dX12_writeLot_50 : decode cX12_writeLot 50 = .ok (.bipush 120, 2) := by decide +kernel
theorem dX12_writeLot_52 : decode cX12_writeLot 52 = .ok (.invokevirtual 161, 3) := by decide +kernel
theorem dX12_writeLot_55 : decode cX12_writeLot 55 = .ok (.iconst 0, 1) := by decide +kernel
theorem dX12_writeLot_56 : decode cX12_writeLot 56 = .ok (.istore 4, 2) := by decide +kernel
theorem dX12_writeLot_58 : decode cX12_writeLot 58 = .ok (.iload 4, 2) := by decide +kernel
theorem dX12_writeLot_60 : decode cX12_writeLot 60 = .ok (.aload_n 0, 1) := by decide +kernel
theorem dX12_writeLot_61 : decode cX12_writeLot 61 = .ok (.iload_n 3, 1) := by decide +kernel
theorem dX12_writeLot_62 : decode cX12_writeLot 62 = .ok (.iconst 0, 1) := by decide +kernel
theorem dX12_writeLot_63 : decode cX12_writeLot 63 = .ok (.invokevirtual 84, 3) := by decide +kernel
theorem dX12_writeLot_66 : decode cX12_writeLot 66 = .ok (.if_icmp .ge 22, 3) := by decide +kernel
theorem dX12_writeLot_69 : decode cX12_writeLot 69 = .ok (.aload_n 0, 1) := by decide +kernel
theorem dX12_writeLot_70 : decode cX12_writeLot 70 = .ok (.aload_n 0, 1) := by decide +kernel
theorem dX12_writeLot_71 : decode cX12_writeLot 71 = .ok (.iload_n 3, 1) := by decide +kernel
theorem dX12_writeLot_72 : decode cX12_writeLot 72 = .ok (.iconst 1, 1) := by decide +kernel
theorem dX12_writeLot_73 : decode cX12_writeLot 73 = .ok (.iload 4, 2) := by decide +kernel
theorem dX12_writeLot_75 : decode cX12_writeLot 75 = .ok (.iadd, 1) := by decide +kernel
theorem dX12_writeLot_76 : decode cX12_writeLot 76 = .ok (.invokevirtual 84, 3) := by decide +kernel
theorem dX12_writeLot_79 : decode cX12_writeLot 79 = .ok (.invokevirtual 161, 3) := by decide +kernel
theorem dX12_writeLot_82 : decode cX12_writeLot 82 = .ok (.iinc 4 1, 3) := by decide +kernel
theorem dX12_writeLot_85 : decode cX12_writeLot 85 = .ok (.goto (-27), 3) := by decide +kernel
theorem dX12_writeLot_88 : decode cX12_writeLot 88 = .ok (.aload_n 0, 1) := by decide +kernel
theorem dX12_writeLot_89 : decode cX12_writeLot 89 = .ok (.bipush 47, 2) := by decide +kernel
theorem dX12_writeLot_91 : decode cX12_writeLot 91 = .ok (.invokevirtual 161, 3) := by decide +kernel
theorem dX12_writeLot_94 : decode cX12_writeLot 94 = .ok (.aload_n 0, 1) := by decide +kernel
theorem dX12_writeLot_95 : decode cX12_writeLot 95 = .ok (.aload_n 0, 1) := by decide +kernel
theorem dX12_writeLot_96 : decode cX12_writeLot 96 = .ok (.iload_n 2, 1) := by decide +kernel
theorem dX12_writeLot_97 : decode cX12_writeLot 97 = .ok (.iconst 5, 1) := by decide +kernel
theorem dX12_writeLot_98 : decode cX12_writeLot 98 = .ok (.invokevirtual 107, 3) := by decide +kernel
theorem dX12_writeLot_101 : decode cX12_writeLot 101 = .ok (.invokevirtual 157, 3) := by decide +kernel
theorem dX12_writeLot_104 : decode cX12_writeLot 104 = .ok (.aload_n 0, 1) := by decide +kernel
theorem dX12_writeLot_105 : decode cX12_writeLot 105 = .ok (.getfield 154, 3) := by decide +kernel
theorem dX12_writeLot_108 : decode cX12_writeLot 108 = .ok (.ireturn, 1) := by decide +kernel
theorem dX12_writeRaws_0 : decode cX12_writeRaws 0 = .ok (.aload_n 0, 1) := by decide +kernel
theorem dX12_writeRaws_1 : decode cX12_writeRaws 1 = .ok (.iconst 0, 1) := by decide +kernel
theorem dX12_writeRaws_2 : decode cX12_writeRaws 2 = .ok (.putfield 45, 3) := by decide +kernel
theorem dX12_writeRaws_5 : decode cX12_writeRaws 5 = .ok (.aload_n 0, 1) := by decide +kernel
theorem dX12_writeRaws_6 : decode cX12_writeRaws 6 = .ok (.invokevirtual 148, 3) := by decide +kernel
theorem dX12_writeRaws_9 : decode cX12_writeRaws 9 = .ok (.istore_n 1, 1) := by decide +kernel
theorem dX12_writeRaws_10 : decode cX12_writeRaws 10 = .ok (.aload_n 0, 1) := by decide +kernel
theorem dX12_writeRaws_11 : decode cX12_writeRaws 11 = .ok (.iconst 0, 1) := by decide +kernel
theorem dX12_writeRaws_12 : decode cX12_writeRaws 12 = .ok (.putfield 154, 3) := by decide +kernel
theorem dX12_writeRaws_15 : decode cX12_writeRaws 15 = .ok (.iconst 0, 1) := by decide +kernel
theorem dX12_writeRaws_16 : decode cX12_writeRaws 16 = .ok (.istore_n 2, 1) := by decide +kernel
theorem dX12_writeRaws_17 : decode cX12_writeRaws 17 = .ok (.iload_n 2, 1) := by decide +kernel
theorem dX12_writeRaws_18 : decode cX12_writeRaws 18 = .ok (.aload_n 0, 1) := by decide +kernel
theorem dX12_writeRaws_19 : decode cX12_writeRaws 19 = .ok (.getfield 7, 3) := by decide +kernel
theorem dX12_writeRaws_22 : decode cX12_writeRaws 22 = .ok (.iconst 0, 1) := by decide +kernel
theorem dX12_writeRaws_23 : decode cX12_writeRaws 23 = .ok (.iaload, 1) := by decide +kernel
theorem dX12_writeRaws_24 : decode cX12_writeRaws 24 = .ok (.if_icmp .ge 49, 3) := by decide +kernel
theorem dX12_writeRaws_27 : decode cX12_writeRaws 27 = .ok (.aload_n 0, 1) := by decide +kernel
theorem dX12_writeRaws_28 : decode cX12_writeRaws 28 = .ok (.aload_n 0, 1) := by decide +kernel
theorem dX12_writeRaws_29 : decode cX12_writeRaws 29 = .ok (.getfield 7, 3) := by decide +kernel
theorem dX12_writeRaws_32 : decode cX12_writeRaws 32 = .ok (.bipush 6, 2) := by decide +kernel
theorem dX12_writeRaws_34 : decode cX12_writeRaws 34 = .ok (.iaload, 1) := by decide +kernel
theorem dX12_writeRaws_35 : decode cX12_writeRaws 35 = .ok (.iload_n 2, 1) := by decide +kernel
theorem dX12_writeRaws_36 : decode cX12_writeRaws 36 = .ok (.ishr, 1) := by decide +kernel
theorem dX12_writeRaws_37 : decode cX12_writeRaws 37 = .ok (.iconst 1, 1) := by decide +kernel
theorem dX12_writeRaws_38 : decode cX12_writeRaws 38 = .ok (.iand, 1) := by decide +kernel
theorem dX12_writeRaws_39 : decode cX12_writeRaws 39 = .ok (.iconst 1, 1) := by decide +kernel
theorem dX12_writeRaws_40 : decode cX12_writeRaws 40 = .ok (.if_icmp .ne 8, 3) := by decide +kernel
theorem dX12_writeRaws_43 : decode cX12_writeRaws 43 = .ok (.bipush 120, 2) := by decide +kernel
theorem dX12_writeRaws_45 : decode cX12_writeRaws 45 = .ok (.goto 19, 3) := by decide +kernel
theorem dX12_writeRaws_48 : decode cX12_writeRaws 48 = .ok (.iload_n 1, 1) := by decide +kernel
theorem dX12_writeRaws_49 : decode cX12_writeRaws 49 = .ok (.iload_n 2, 1) := by decide +kernel
theorem dX12_writeRaws_50 : decode cX12_writeRaws 50 = .ok (.ishr, 1) := by decide +kernel
theorem dX12_writeRaws_51 : decode cX12_writeRaws 51 = .ok (.iconst 1, 1) := by decide +kernel
theorem dX12_writeRaws_52 : decode cX12_writeRaws 52 = .ok (.iand, 1) := by decide +kernel
theorem dX12_writeRaws_53 : decode cX12_writeRaws 53 = .ok (.iconst 1, 1) := by decide +kernel
theorem dX12_writeRaws_54 : decode cX12_writeRaws 54 = .ok (.if_icmp .ne 8, 3) := by decide +kernel
theorem dX12_writeRaws_57 : decode cX12_writeRaws 57 = .ok (.bipush 42, 2) := by decide +kernel
theorem dX12_writeRaws_59 : decode cX12_writeRaws 59 = .ok (.goto 5, 3) := by decide +kernel
theorem dX12_writeRaws_62 : decode cX12_writeRaws 62 = .ok (.bipush 46, 2) := by decide +kernel
theorem dX12_writeRaws_64 : decode cX12_writeRaws 64 = .ok (.invokevirtual 161, 3) := by decide +kernel
theorem dX12_writeRaws_67 : decode cX12_writeRaws 67 = .ok (.iinc 2 1, 3) := by decide +kernel
theorem dX12_writeRaws_70 : decode cX12_writeRaws 70 = .ok (.goto (-53), 3) := by decide +kernel
theorem dX12_writeRaws_73 : decode cX12_writeRaws 73 = .ok (.aload_n 0, 1) := by decide +kernel
theorem dX12_writeRaws_74 : decode cX12_writeRaws 74 = .ok (.getfield 154, 3) := by decide +kernel
theorem dX12_writeRaws_77 : decode cX12_writeRaws 77 = .ok (.ireturn, 1) := by decide +kernel
theorem dX12_lineAt_0 : decode cX12_lineAt 0 = .ok (.aload_n 0, 1) := by decide +kernel
theorem dX12_lineAt_1 : decode cX12_lineAt 1 = .ok (.iload_n 1, 1) := by decide +kernel
theorem dX12_lineAt_2 : decode cX12_lineAt 2 = .ok (.iconst 0, 1) := by decide +kernel
theorem dX12_lineAt_3 : decode cX12_lineAt 3 = .ok (.aload_n 0, 1) := by decide +kernel
theorem dX12_lineAt_4 : decode cX12_lineAt 4 = .ok (.getfield 154, 3) := by decide +kernel
theorem dX12_lineAt_7 : decode cX12_lineAt 7 = .ok (.iconst 1, 1) := by decide +kernel
theorem dX12_lineAt_8 : decode cX12_lineAt 8 = .ok (.isub, 1) := by decide +kernel
theorem dX12_lineAt_9 : decode cX12_lineAt 9 = .ok (.invokestatic 59, 3) := by decide +kernel
theorem dX12_lineAt_12 : decode cX12_lineAt 12 = .ok (.ifCond .eq 7, 3) := by decide +kernel
theorem dX12_lineAt_15 : decode cX12_lineAt 15 = .ok (.iconst 0, 1) := by decide +kernel
theorem dX12_lineAt_16 : decode cX12_lineAt 16 = .ok (.goto 4, 3) := by decide +kernel
theorem dX12_lineAt_19 : decode cX12_lineAt 19 = .ok (.iconst 1, 1) := by decide +kernel
theorem dX12_lineAt_20 : decode cX12_lineAt 20 = .ok (.invokevirtual 63, 3) := by decide +kernel
theorem dX12_lineAt_23 : decode cX12_lineAt 23 = .ok (.ifCond .eq 8, 3) := by decide +kernel
theorem dX12_lineAt_26 : decode cX12_lineAt 26 = .ok (.bipush 32, 2) := by decide +kernel
theorem dX12_lineAt_28 : decode cX12_lineAt 28 = .ok (.goto 9, 3) := by decide +kernel
theorem dX12_lineAt_31 : decode cX12_lineAt 31 = .ok (.aload_n 0, 1) := by decide +kernel
theorem dX12_lineAt_32 : decode cX12_lineAt 32 = .ok (.getfield 32, 3) := by decide +kernel
theorem dX12_lineAt_35 : decode cX12_lineAt 35 = .ok (.iload_n 1, 1) := by decide +kernel
theorem dX12_lineAt_36 : decode cX12_lineAt 36 = .ok (.caload, 1) := by decide +kernel
theorem dX12_lineAt_37 : decode cX12_lineAt 37 = .ok (.ireturn, 1) := by decide +kernel
theorem dX12_isConsistent_0 : decode cX12_isConsistent 0 = .ok (.aload_n 0, 1) := by decide +kernel
theorem dX12_isConsistent_1 : decode cX12_isConsistent 1 = .ok (.iconst 0, 1) := by decide +kernel
theorem dX12_isConsistent_2 : decode cX12_isConsistent 2 = .ok (.putfield 45, 3) := by decide +kernel
theorem dX12_isConsistent_5 : decode cX12_isConsistent 5 = .ok (.aload_n 0, 1) := by decide +kernel
theorem dX12_isConsistent_6 : decode cX12_isConsistent 6 = .ok (.getfield 7, 3) := by decide +kernel
theorem dX12_isConsistent_9 : decode cX12_isConsistent 9 = .ok (.bipush 7, 2) := by decide +kernel
theorem dX12_isConsistent_11 : decode cX12_isConsistent 11 = .ok (.iaload, 1) := by decide +kernel
theorem dX12_isConsistent_12 : decode cX12_isConsistent 12 = .ok (.aload_n 0, 1) := by decide +kernel
theorem dX12_isConsistent_13 : decode cX12_isConsistent 13 = .ok (.invokevirtual 151, 3) := by decide +kernel
theorem dX12_isConsistent_16 : decode cX12_isConsistent 16 = .ok (.aload_n 0, 1) := by decide +kernel
theorem dX12_isConsistent_17 : decode cX12_isConsistent 17 = .ok (.getfield 7, 3) := by decide +kernel
theorem dX12_isConsistent_20 : decode cX12_isConsistent 20 = .ok (.bipush 8, 2) := by decide +kernel
theorem dX12_isConsistent_22 : decode cX12_isConsistent 22 = .ok (.iaload, 1) := by decide +kernel
theorem dX12_isConsistent_23 : decode cX12_isConsistent 23 = .ok (.iadd, 1) := by decide +kernel
theorem dX12_isConsistent_24 : decode cX12_isConsistent 24 = .ok (.aload_n 0, 1) := by decide +kernel
theorem dX12_isConsistent_25 : decode cX12_isConsistent 25 = .ok (.getfield 7, 3) := by decide +kernel
theorem dX12_isConsistent_28 : decode cX12_isConsistent 28 = .ok (.bipush 9, 2) := by decide +kernel
theorem dX12_isConsistent_30 : decode cX12_isConsistent 30 = .ok (.iaload, 1) := by decide +kernel
theorem dX12_isConsistent_31 : decode cX12_isConsistent 31 = .ok (.iadd, 1) := by decide +kernel
theorem dX12_isConsistent_32 : decode cX12_isConsistent 32 = .ok (.aload_n 0, 1) := by decide +kernel
theorem dX12_isConsistent_33 : decode cX12_isConsistent 33 = .ok (.getfield 7, 3) := by decide +kernel
theorem dX12_isConsistent_36 : decode cX12_isConsistent 36 = .ok (.bipush 10, 2) := by decide +kernel
theorem dX12_isConsistent_38 : decode cX12_isConsistent 38 = .ok (.iaload, 1) := by decide +kernel
theorem dX12_isConsistent_39 : decode cX12_isConsistent 39 = .ok (.iadd, 1) := by decide +kernel
theorem dX12_isConsistent_40 : decode cX12_isConsistent 40 = .ok (.if_icmp .ne 7, 3) := by decide +kernel
theorem dX12_isConsistent_43 : decode cX12_isConsistent 43 = .ok (.iconst 1, 1) := by decide +kernel
theorem dX12_isConsistent_44 : decode cX12_isConsistent 44 = .ok (.goto 4, 3) := by decide +kernel
theorem dX12_isConsistent_47 : decode cX12_isConsistent 47 = .ok (.iconst 0, 1) := by decide +kernel
theorem dX12_isConsistent_48 : decode cX12_isConsistent 48 = .ok (.ireturn, 1) := by decide +kernel
theorem dX12_type_0 : decode cX12_type 0 = .ok (.aload_n 0, 1) := by decide +kernel
theorem dX12_type_1 : decode cX12_type 1 = .ok (.iload_n 1, 1) := by decide +kernel
theorem dX12_type_2 : decode cX12_type 2 = .ok (.bipush 32, 2) := by decide +kernel
theorem dX12_type_4 : decode cX12_type 4 = .ok (.bipush 126, 2) := by decide +kernel
theorem dX12_type_6 : decode cX12_type 6 = .ok (.invokestatic 59, 3) := by decide +kernel
theorem dX12_type_9 : decode cX12_type 9 = .ok (.ifCond .ne 7, 3) := by decide +kernel
theorem dX12_type_12 : decode cX12_type 12 = .ok (.iconst 1, 1) := by decide +kernel
theorem dX12_type_13 : decode cX12_type 13 = .ok (.goto 17, 3) := by decide +kernel
theorem dX12_type_16 : decode cX12_type 16 = .ok (.aload_n 0, 1) := by decide +kernel
theorem dX12_type_17 : decode cX12_type 17 = .ok (.getfield 81, 3) := by decide +kernel
theorem dX12_type_20 : decode cX12_type 20 = .ok (.bipush 60, 2) := by decide +kernel
theorem dX12_type_22 : decode cX12_type 22 = .ok (.if_icmp .ne 7, 3) := by decide +kernel
theorem dX12_type_25 : decode cX12_type 25 = .ok (.iconst 2, 1) := by decide +kernel
theorem dX12_type_26 : decode cX12_type 26 = .ok (.goto 4, 3) := by decide +kernel
theorem dX12_type_29 : decode cX12_type 29 = .ok (.iconst 0, 1) := by decide +kernel
theorem dX12_type_30 : decode cX12_type 30 = .ok (.invokevirtual 63, 3) := by decide +kernel
theorem dX12_type_33 : decode cX12_type 33 = .ok (.ifCond .eq 5, 3) := by decide +kernel
theorem dX12_type_36 : decode cX12_type 36 = .ok (.iconst 0, 1) := by decide +kernel
theorem dX12_type_37 : decode cX12_type 37 = .ok (.ireturn, 1) := by decide +kernel
theorem dX12_type_38 : decode cX12_type 38 = .ok (.aload_n 0, 1) := by decide +kernel
theorem dX12_type_39 : decode cX12_type 39 = .ok (.getfield 22, 3) := by decide +kernel
theorem dX12_type_42 : decode cX12_type 42 = .ok (.aload_n 0, 1) := by decide +kernel
theorem dX12_type_43 : decode cX12_type 43 = .ok (.getfield 81, 3) := by decide +kernel
theorem dX12_type_46 : decode cX12_type 46 = .ok (.iload_n 1, 1) := by decide +kernel
theorem dX12_type_47 : decode cX12_type 47 = .ok (.iastore, 1) := by decide +kernel
theorem dX12_type_48 : decode cX12_type 48 = .ok (.aload_n 0, 1) := by decide +kernel
theorem dX12_type_49 : decode cX12_type 49 = .ok (.dup, 1) := by decide +kernel
theorem dX12_type_50 : decode cX12_type 50 = .ok (.getfield 81, 3) := by decide +kernel
theorem dX12_type_53 : decode cX12_type 53 = .ok (.iconst 1, 1) := by decide +kernel
theorem dX12_type_54 : decode cX12_type 54 = .ok (.iadd, 1) := by decide +kernel
theorem dX12_type_55 : decode cX12_type 55 = .ok (.putfield 81, 3) := by decide +kernel
theorem dX12_type_58 : decode cX12_type 58 = .ok (.aload_n 0, 1) := by decide +kernel
theorem dX12_type_59 : decode cX12_type 59 = .ok (.getfield 81, 3) := by decide +kernel
theorem dX12_type_62 : decode cX12_type 62 = .ok (.ireturn, 1) := by decide +kernel
theorem dX12_clearText_0 : decode cX12_clearText 0 = .ok (.aload_n 0, 1) := by decide +kernel
theorem dX12_clearText_1 : decode cX12_clearText 1 = .ok (.iconst 0, 1) := by decide +kernel
theorem dX12_clearText_2 : decode cX12_clearText 2 = .ok (.putfield 45, 3) := by decide +kernel
theorem dX12_clearText_5 : decode cX12_clearText 5 = .ok (.aload_n 0, 1) := by decide +kernel
theorem dX12_clearText_6 : decode cX12_clearText 6 = .ok (.getfield 81, 3) := by decide +kernel
theorem dX12_clearText_9 : decode cX12_clearText 9 = .ok (.istore_n 1, 1) := by decide +kernel
theorem dX12_clearText_10 : decode cX12_clearText 10 = .ok (.aload_n 0, 1) := by decide +kernel
theorem dX12_clearText_11 : decode cX12_clearText 11 = .ok (.iconst 0, 1) := by decide +kernel
theorem dX12_clearText_12 : decode cX12_clearText 12 = .ok (.putfield 81, 3) := by decide +kernel
theorem dX12_clearText_15 : decode cX12_clearText 15 = .ok (.iload_n 1, 1) := by decide +kernel
theorem dX12_clearText_16 : decode cX12_clearText 16 = .ok (.ireturn, 1) := by decide +kernel
theorem dX12_here_0 : decode cX12_here 0 = .ok (.aload_n 0, 1) := by decide +kernel
theorem dX12_here_1 : decode cX12_here 1 = .ok (.getfield 164, 3) := by decide +kernel
theorem dX12_here_4 : decode cX12_here 4 = .ok (.aload_n 0, 1) := by decide +kernel
theorem dX12_here_5 : decode cX12_here 5 = .ok (.getfield 81, 3) := by decide +kernel
theorem dX12_here_8 : decode cX12_here 8 = .ok (.if_icmp .ge 15, 3) := by decide +kernel
theorem dX12_here_11 : decode cX12_here 11 = .ok (.aload_n 0, 1) := by decide +kernel
theorem dX12_here_12 : decode cX12_here 12 = .ok (.getfield 22, 3) := by decide +kernel
theorem dX12_here_15 : decode cX12_here 15 = .ok (.aload_n 0, 1) := by decide +kernel
theorem dX12_here_16 : decode cX12_here 16 = .ok (.getfield 164, 3) := by decide +kernel
theorem dX12_here_19 : decode cX12_here 19 = .ok (.iaload, 1) := by decide +kernel
theorem dX12_here_20 : decode cX12_here 20 = .ok (.goto 4, 3) := by decide +kernel
theorem dX12_here_23 : decode cX12_here 23 = .ok (.iconst (-1), 1) := by decide +kernel
theorem dX12_here_24 : decode cX12_here 24 = .ok (.ireturn, 1) := by decide +kernel
theorem dX12_skips_0 : decode cX12_skips 0 = .ok (.aload_n 0, 1) := by decide +kernel
theorem dX12_skips_1 : decode cX12_skips 1 = .ok (.invokevirtual 167, 3) := by decide +kernel
theorem dX12_skips_4 : decode cX12_skips 4 = .ok (.iload_n 1, 1) := by decide +kernel
theorem dX12_skips_5 : decode cX12_skips 5 = .ok (.if_icmp .eq 5, 3) := by decide +kernel
theorem dX12_skips_8 : decode cX12_skips 8 = .ok (.iconst 0, 1) := by decide +kernel
theorem dX12_skips_9 : decode cX12_skips 9 = .ok (.ireturn, 1) := by decide +kernel
theorem dX12_skips_10 : decode cX12_skips 10 = .ok (.aload_n 0, 1) := by decide +kernel
theorem dX12_skips_11 : decode cX12_skips 11 = .ok (.dup, 1) := by decide +kernel
theorem dX12_skips_12 : decode cX12_skips 12 = .ok (.getfield 164, 3) := by decide +kernel
theorem dX12_skips_15 : decode cX12_skips 15 = .ok (.iconst 1, 1) := by decide +kernel
theorem dX12_skips_16 : decode cX12_skips 16 = .ok (.iadd, 1) := by decide +kernel
theorem dX12_skips_17 : decode cX12_skips 17 = .ok (.putfield 164, 3) := by decide +kernel
theorem dX12_skips_20 : decode cX12_skips 20 = .ok (.iconst 1, 1) := by decide +kernel
theorem dX12_skips_21 : decode cX12_skips 21 = .ok (.ireturn, 1) := by decide +kernel
theorem dX12_isWord_0 : decode cX12_isWord 0 = .ok (.aload_n 0, 1) := by decide +kernel
theorem dX12_isWord_1 : decode cX12_isWord 1 = .ok (.getfield 42, 3) := by decide +kernel
theorem dX12_isWord_4 : decode cX12_isWord 4 = .ok (.iconst 5, 1) := by decide +kernel
theorem dX12_isWord_5 : decode cX12_isWord 5 = .ok (.aload_n 0, 1) := by decide +kernel
theorem dX12_isWord_6 : decode cX12_isWord 6 = .ok (.getfield 170, 3) := by decide +kernel
theorem dX12_isWord_9 : decode cX12_isWord 9 = .ok (.imul, 1) := by decide +kernel
theorem dX12_isWord_10 : decode cX12_isWord 10 = .ok (.iload_n 1, 1) := by decide +kernel
theorem dX12_isWord_11 : decode cX12_isWord 11 = .ok (.iastore, 1) := by decide +kernel
theorem dX12_isWord_12 : decode cX12_isWord 12 = .ok (.iconst 0, 1) := by decide +kernel
theorem dX12_isWord_13 : decode cX12_isWord 13 = .ok (.istore_n 3, 1) := by decide +kernel
theorem dX12_isWord_14 : decode cX12_isWord 14 = .ok (.iload_n 3, 1) := by decide +kernel
theorem dX12_isWord_15 : decode cX12_isWord 15 = .ok (.aload_n 2, 1) := by decide +kernel
theorem dX12_isWord_16 : decode cX12_isWord 16 = .ok (.invokevirtual 173, 3) := by decide +kernel
theorem dX12_isWord_19 : decode cX12_isWord 19 = .ok (.if_icmp .ge 23, 3) := by decide +kernel
theorem dX12_isWord_22 : decode cX12_isWord 22 = .ok (.aload_n 0, 1) := by decide +kernel
theorem dX12_isWord_23 : decode cX12_isWord 23 = .ok (.aload_n 2, 1) := by decide +kernel
theorem dX12_isWord_24 : decode cX12_isWord 24 = .ok (.iload_n 3, 1) := by decide +kernel
theorem dX12_isWord_25 : decode cX12_isWord 25 = .ok (.invokevirtual 177, 3) := by decide +kernel
theorem dX12_isWord_28 : decode cX12_isWord 28 = .ok (.invokevirtual 181, 3) := by decide +kernel
theorem dX12_isWord_31 : decode cX12_isWord 31 = .ok (.ifCond .ne 5, 3) := by decide +kernel
theorem dX12_isWord_34 : decode cX12_isWord 34 = .ok (.iconst 0, 1) := by decide +kernel
theorem dX12_isWord_35 : decode cX12_isWord 35 = .ok (.ireturn, 1) := by decide +kernel
theorem dX12_isWord_36 : decode cX12_isWord 36 = .ok (.iinc 3 1, 3) := by decide +kernel
theorem dX12_isWord_39 : decode cX12_isWord 39 = .ok (.goto (-25), 3) := by decide +kernel
theorem dX12_isWord_42 : decode cX12_isWord 42 = .ok (.iconst 1, 1) := by decide +kernel
theorem dX12_isWord_43 : decode cX12_isWord 43 = .ok (.ireturn, 1) := by decide +kernel
theorem dX12_figures_0 : decode cX12_figures 0 = .ok (.aload_n 0, 1) := by decide +kernel
theorem dX12_figures_1 : decode cX12_figures 1 = .ok (.bipush 32, 2) := by decide +kernel
theorem dX12_figures_3 : decode cX12_figures 3 = .ok (.invokevirtual 181, 3) := by decide +kernel
theorem dX12_figures_6 : decode cX12_figures 6 = .ok (.ifCond .eq 17, 3) := by decide +kernel
theorem dX12_figures_9 : decode cX12_figures 9 = .ok (.aload_n 0, 1) := by decide +kernel
theorem dX12_figures_10 : decode cX12_figures 10 = .ok (.invokevirtual 167, 3) := by decide +kernel
theorem dX12_figures_13 : decode cX12_figures 13 = .ok (.bipush 48, 2) := by decide +kernel
theorem dX12_figures_15 : decode cX12_figures 15 = .ok (.bipush 57, 2) := by decide +kernel
theorem dX12_figures_17 : decode cX12_figures 17 = .ok (.invokestatic 59, 3) := by decide +kernel
theorem dX12_figures_20 : decode cX12_figures 20 = .ok (.ifCond .ne 5, 3) := by decide +kernel
theorem dX12_figures_23 : decode cX12_figures 23 = .ok (.iconst 0, 1) := by decide +kernel
theorem dX12_figures_24 : decode cX12_figures 24 = .ok (.ireturn, 1) := by decide +kernel
theorem dX12_figures_25 : decode cX12_figures 25 = .ok (.aload_n 0, 1) := by decide +kernel
theorem dX12_figures_26 : decode cX12_figures 26 = .ok (.getfield 42, 3) := by decide +kernel
theorem dX12_figures_29 : decode cX12_figures 29 = .ok (.iload_n 1, 1) := by decide +kernel
theorem dX12_figures_30 : decode cX12_figures 30 = .ok (.iconst 0, 1) := by decide +kernel
theorem dX12_figures_31 : decode cX12_figures 31 = .ok (.iastore, 1) := by decide +kernel
theorem dX12_figures_32 : decode cX12_figures 32 = .ok (.iconst 0, 1) := by decide +kernel
theorem dX12_figures_33 : decode cX12_figures 33 = .ok (.istore_n 3, 1) := by decide +kernel
theorem dX12_figures_34 : decode cX12_figures 34 = .ok (.iload_n 3, 1) := by decide +kernel
theorem dX12_figures_35 : decode cX12_figures 35 = .ok (.iload_n 2, 1) := by decide +kernel
theorem dX12_figures_36 : decode cX12_figures 36 = .ok (.if_icmp .ge 56, 3) := by decide +kernel
theorem dX12_figures_39 : decode cX12_figures 39 = .ok (.aload_n 0, 1) := by decide +kernel
theorem dX12_figures_40 : decode cX12_figures 40 = .ok (.invokevirtual 167, 3) := by decide +kernel
theorem dX12_figures_43 : decode cX12_figures 43 = .ok (.bipush 48, 2) := by decide +kernel
theorem dX12_figures_45 : decode cX12_figures 45 = .ok (.bipush 57, 2) := by decide +kernel
theorem dX12_figures_47 : decode cX12_figures 47 = .ok (.invokestatic 59, 3) := by decide +kernel
theorem dX12_figures_50 : decode cX12_figures 50 = .ok (.ifCond .eq 42, 3) := by decide +kernel
theorem dX12_figures_53 : decode cX12_figures 53 = .ok (.aload_n 0, 1) := by decide +kernel
theorem dX12_figures_54 : decode cX12_figures 54 = .ok (.getfield 42, 3) := by decide +kernel
theorem dX12_figures_57 : decode cX12_figures 57 = .ok (.iload_n 1, 1) := by decide +kernel
theorem dX12_figures_58 : decode cX12_figures 58 = .ok (.bipush 10, 2) := by decide +kernel
theorem dX12_figures_60 : decode cX12_figures 60 = .ok (.aload_n 0, 1) := by decide +kernel
theorem dX12_figures_61 : decode cX12_figures 61 = .ok (.getfield 42, 3) := by decide +kernel
theorem dX12_figures_64 : decode cX12_figures 64 = .ok (.iload_n 1, 1) := by decide +kernel
theorem dX12_figures_65 : decode cX12_figures 65 = .ok (.iaload, 1) := by decide +kernel
theorem dX12_figures_66 : decode cX12_figures 66 = .ok (.imul, 1) := by decide +kernel
theorem dX12_figures_67 : decode cX12_figures 67 = .ok (.aload_n 0, 1) := by decide +kernel
theorem dX12_figures_68 : decode cX12_figures 68 = .ok (.invokevirtual 167, 3) := by decide +kernel
theorem dX12_figures_71 : decode cX12_figures 71 = .ok (.iadd, 1) := by decide +kernel
theorem dX12_figures_72 : decode cX12_figures 72 = .ok (.bipush 48, 2) := by decide +kernel
theorem dX12_figures_74 : decode cX12_figures 74 = .ok (.isub, 1) := by decide +kernel
theorem dX12_figures_75 : decode cX12_figures 75 = .ok (.iastore, 1) := by decide +kernel
theorem dX12_figures_76 : decode cX12_figures 76 = .ok (.aload_n 0, 1) := by decide +kernel
theorem dX12_figures_77 : decode cX12_figures 77 = .ok (.dup, 1) := by decide +kernel
theorem dX12_figures_78 : decode cX12_figures 78 = .ok (.getfield 164, 3) := by decide +kernel
theorem dX12_figures_81 : decode cX12_figures 81 = .ok (.iconst 1, 1) := by decide +kernel
theorem dX12_figures_82 : decode cX12_figures 82 = .ok (.iadd, 1) := by decide +kernel
theorem dX12_figures_83 : decode cX12_figures 83 = .ok (.putfield 164, 3) := by decide +kernel
theorem dX12_figures_86 : decode cX12_figures 86 = .ok (.iinc 3 1, 3) := by decide +kernel
theorem dX12_figures_89 : decode cX12_figures 89 = .ok (.goto (-55), 3) := by decide +kernel
theorem dX12_figures_92 : decode cX12_figures 92 = .ok (.iconst 1, 1) := by decide +kernel
theorem dX12_figures_93 : decode cX12_figures 93 = .ok (.ireturn, 1) := by decide +kernel
theorem dX12_commandHere_0 : decode cX12_commandHere 0 = .ok (.iconst 5, 1) := by decide +kernel
theorem dX12_commandHere_1 : decode cX12_commandHere 1 = .ok (.aload_n 0, 1) := by decide +kernel
theorem dX12_commandHere_2 : decode cX12_commandHere 2 = .ok (.getfield 170, 3) := by decide +kernel
theorem dX12_commandHere_5 : decode cX12_commandHere 5 = .ok (.imul, 1) := by decide +kernel
theorem dX12_commandHere_6 : decode cX12_commandHere 6 = .ok (.iconst 1, 1) := by decide +kernel
theorem dX12_commandHere_7 : decode cX12_commandHere 7 = .ok (.iadd, 1) := by decide +kernel
theorem dX12_commandHere_8 : decode cX12_commandHere 8 = .ok (.istore_n 1, 1) := by decide +kernel
theorem dX12_commandHere_9 : decode cX12_commandHere 9 = .ok (.aload_n 0, 1) := by decide +kernel
theorem dX12_commandHere_10 : decode cX12_commandHere 10 = .ok (.bipush 109, 2) := by decide +kernel
theorem dX12_commandHere_12 : decode cX12_commandHere 12 = .ok (.invokevirtual 181, 3) := by decide +kernel
theorem dX12_commandHere_15 : decode cX12_commandHere 15 = .ok (.ifCond .eq 39, 3) := by decide +kernel
theorem dX12_commandHere_18 : decode cX12_commandHere 18 = .ok (.aload_n 0, 1) := by decide +kernel
theorem dX12_commandHere_19 : decode cX12_commandHere 19 = .ok (.iconst 1, 1) := by decide +kernel
theorem dX12_commandHere_20 : decode cX12_commandHere 20 = .ok (.ldc 184, 2) := by decide +kernel
theorem dX12_commandHere_22 : decode cX12_commandHere 22 = .ok (.invokevirtual 186, 3) := by decide +kernel
theorem dX12_commandHere_25 : decode cX12_commandHere 25 = .ok (.ifCond .eq 27, 3) := by decide +kernel
theorem dX12_commandHere_28 : decode cX12_commandHere 28 = .ok (.aload_n 0, 1) := by decide +kernel
theorem dX12_commandHere_29 : decode cX12_commandHere 29 = .ok (.iload_n 1, 1) := by decide +kernel
theorem dX12_commandHere_30 : decode cX12_commandHere 30 = .ok (.iconst 2, 1) := by decide +kernel
theorem dX12_commandHere_31 : decode cX12_commandHere 31 = .ok (.invokevirtual 190, 3) := by decide +kernel
theorem dX12_commandHere_34 : decode cX12_commandHere 34 = .ok (.ifCond .eq 18, 3) := by decide +kernel
theorem dX12_commandHere_37 : decode cX12_commandHere 37 = .ok (.aload_n 0, 1) := by decide +kernel
theorem dX12_commandHere_38 : decode cX12_commandHere 38 = .ok (.iload_n 1, 1) := by decide +kernel
theorem dX12_commandHere_39 : decode cX12_commandHere 39 = .ok (.iconst 1, 1) := by decide +kernel
theorem dX12_commandHere_40 : decode cX12_commandHere 40 = .ok (.iadd, 1) := by decide +kernel
theorem dX12_commandHere_41 : decode cX12_commandHere 41 = .ok (.iconst 2, 1) := by decide +kernel
theorem dX12_commandHere_42 : decode cX12_commandHere 42 = .ok (.invokevirtual 190, 3) := by decide +kernel
theorem dX12_commandHere_45 : decode cX12_commandHere 45 = .ok (.ifCond .eq 7, 3) := by decide +kernel
theorem dX12_commandHere_48 : decode cX12_commandHere 48 = .ok (.iconst 1, 1) := by decide +kernel
theorem dX12_commandHere_49 : decode cX12_commandHere 49 = .ok (.goto 4, 3) := by decide +kernel
theorem dX12_commandHere_52 : decode cX12_commandHere 52 = .ok (.iconst 0, 1) := by decide +kernel
theorem dX12_commandHere_53 : decode cX12_commandHere 53 = .ok (.ireturn, 1) := by decide +kernel
theorem dX12_commandHere_54 : decode cX12_commandHere 54 = .ok (.aload_n 0, 1) := by decide +kernel
theorem dX12_commandHere_55 : decode cX12_commandHere 55 = .ok (.bipush 102, 2) := by decide +kernel
theorem dX12_commandHere_57 : decode cX12_commandHere 57 = .ok (.invokevirtual 181, 3) := by decide +kernel
theorem dX12_commandHere_60 : decode cX12_commandHere 60 = .ok (.ifCond .eq 61, 3) := by decide +kernel
theorem dX12_commandHere_63 : decode cX12_commandHere 63 = .ok (.aload_n 0, 1) := by decide +kernel
theorem dX12_commandHere_64 : decode cX12_commandHere 64 = .ok (.iconst 2, 1) := by decide +kernel
theorem dX12_commandHere_65 : decode cX12_commandHere 65 = .ok (.ldc 194, 2) := by decide +kernel
theorem dX12_commandHere_67 : decode cX12_commandHere 67 = .ok (.invokevirtual 186, 3) := by decide +kernel
theorem dX12_commandHere_70 : decode cX12_commandHere 70 = .ok (.ifCond .eq 49, 3) := by decide +kernel
theorem dX12_commandHere_73 : decode cX12_commandHere 73 = .ok (.aload_n 0, 1) := by decide +kernel
theorem dX12_commandHere_74 : decode cX12_commandHere 74 = .ok (.iload_n 1, 1) := by decide +kernel
theorem dX12_commandHere_75 : decode cX12_commandHere 75 = .ok (.iconst 1, 1) := by decide +kernel
theorem dX12_commandHere_76 : decode cX12_commandHere 76 = .ok (.invokevirtual 190, 3) := by decide +kernel
theorem dX12_commandHere_79 : decode cX12_commandHere 79 = .ok (.ifCond .eq 40, 3) := by decide +kernel
theorem dX12_commandHere_82 : decode cX12_commandHere 82 = .ok (.aload_n 0, 1) := by decide +kernel
theorem dX12_commandHere_83 : decode cX12_commandHere 83 = .ok (.iload_n 1, 1) := by decide +kernel
theorem dX12_commandHere_84 : decode cX12_commandHere 84 = .ok (.iconst 1, 1) := by decide +kernel
theorem dX12_commandHere_85 : decode cX12_commandHere 85 = .ok (.iadd, 1) := by decide +kernel
theorem dX12_commandHere_86 : decode cX12_commandHere 86 = .ok (.iconst 1, 1) := by decide +kernel
theorem dX12_commandHere_87 : decode cX12_commandHere 87 = .ok (.invokevirtual 190, 3) := by decide +kernel
theorem dX12_commandHere_90 : decode cX12_commandHere 90 = .ok (.ifCond .eq 29, 3) := by decide +kernel
theorem dX12_commandHere_93 : decode cX12_commandHere 93 = .ok (.aload_n 0, 1) := by decide +kernel
theorem dX12_commandHere_94 : decode cX12_commandHere 94 = .ok (.iload_n 1, 1) := by decide +kernel
theorem dX12_commandHere_95 : decode cX12_commandHere 95 = .ok (.iconst 2, 1) := by decide +kernel
theorem dX12_commandHere_96 : decode cX12_commandHere 96 = .ok (.iadd, 1) := by decide +kernel
theorem dX12_commandHere_97 : decode cX12_commandHere 97 = .ok (.iconst 1, 1) := by decide +kernel
theorem dX12_commandHere_98 : decode cX12_commandHere 98 = .ok (.invokevirtual 190, 3) := by decide +kernel
theorem dX12_commandHere_101 : decode cX12_commandHere 101 = .ok (.ifCond .eq 18, 3) := by decide +kernel
theorem dX12_commandHere_104 : decode cX12_commandHere 104 = .ok (.aload_n 0, 1) := by decide +kernel
theorem dX12_commandHere_105 : decode cX12_commandHere 105 = .ok (.iload_n 1, 1) := by decide +kernel
theorem dX12_commandHere_106 : decode cX12_commandHere 106 = .ok (.iconst 3, 1) := by decide +kernel
theorem dX12_commandHere_107 : decode cX12_commandHere 107 = .ok (.iadd, 1) := by decide +kernel
theorem dX12_commandHere_108 : decode cX12_commandHere 108 = .ok (.iconst 1, 1) := by decide +kernel
theorem dX12_commandHere_109 : decode cX12_commandHere 109 = .ok (.invokevirtual 190, 3) := by decide +kernel
theorem dX12_commandHere_112 : decode cX12_commandHere 112 = .ok (.ifCond .eq 7, 3) := by decide +kernel
theorem dX12_commandHere_115 : decode cX12_commandHere 115 = .ok (.iconst 1, 1) := by decide +kernel
theorem dX12_commandHere_116 : decode cX12_commandHere 116 = .ok (.goto 4, 3) := by decide +kernel
theorem dX12_commandHere_119 : decode cX12_commandHere 119 = .ok (.iconst 0, 1) := by decide +kernel
theorem dX12_commandHere_120 : decode cX12_commandHere 120 = .ok (.ireturn, 1) := by decide +kernel
theorem dX12_commandHere_121 : decode cX12_commandHere 121 = .ok (.aload_n 0, 1) := by decide +kernel
theorem dX12_commandHere_122 : decode cX12_commandHere 122 = .ok (.bipush 115, 2) := by decide +kernel
theorem dX12_commandHere_124 : decode cX12_commandHere 124 = .ok (.invokevirtual 181, 3) := by decide +kernel
theorem dX12_commandHere_127 : decode cX12_commandHere 127 = .ok (.ifCond .eq 28, 3) := by decide +kernel
theorem dX12_commandHere_130 : decode cX12_commandHere 130 = .ok (.aload_n 0, 1) := by decide +kernel
theorem dX12_commandHere_131 : decode cX12_commandHere 131 = .ok (.iconst 3, 1) := by decide +kernel
theorem dX12_commandHere_132 : decode cX12_commandHere 132 = .ok (.ldc 196, 2) := by decide +kernel
theorem dX12_commandHere_134 : decode cX12_commandHere 134 = .ok (.invokevirtual 186, 3) := by decide +kernel
theorem dX12_commandHere_137 : decode cX12_commandHere 137 = .ok (.ifCond .eq 16, 3) := by decide +kernel
theorem dX12_commandHere_140 : decode cX12_commandHere 140 = .ok (.aload_n 0, 1) := by decide +kernel
theorem dX12_commandHere_141 : decode cX12_commandHere 141 = .ok (.iload_n 1, 1) := by decide +kernel
theorem dX12_commandHere_142 : decode cX12_commandHere 142 = .ok (.iconst 2, 1) := by decide +kernel
theorem dX12_commandHere_143 : decode cX12_commandHere 143 = .ok (.invokevirtual 190, 3) := by decide +kernel
theorem dX12_commandHere_146 : decode cX12_commandHere 146 = .ok (.ifCond .eq 7, 3) := by decide +kernel
theorem dX12_commandHere_149 : decode cX12_commandHere 149 = .ok (.iconst 1, 1) := by decide +kernel
theorem dX12_commandHere_150 : decode cX12_commandHere 150 = .ok (.goto 4, 3) := by decide +kernel
theorem dX12_commandHere_153 : decode cX12_commandHere 153 = .ok (.iconst 0, 1) := by decide +kernel
theorem dX12_commandHere_154 : decode cX12_commandHere 154 = .ok (.ireturn, 1) := by decide +kernel
theorem dX12_commandHere_155 : decode cX12_commandHere 155 = .ok (.aload_n 0, 1) := by decide +kernel
theorem dX12_commandHere_156 : decode cX12_commandHere 156 = .ok (.bipush 114, 2) := by decide +kernel
theorem dX12_commandHere_158 : decode cX12_commandHere 158 = .ok (.invokevirtual 181, 3) := by decide +kernel
theorem dX12_commandHere_161 : decode cX12_commandHere 161 = .ok (.ifCond .eq 47, 3) := by decide +kernel
theorem dX12_commandHere_164 : decode cX12_commandHere 164 = .ok (.aload_n 0, 1) := by decide +kernel
theorem dX12_commandHere_165 : decode cX12_commandHere 165 = .ok (.bipush 97, 2) := by decide +kernel
theorem dX12_commandHere_167 : decode cX12_commandHere 167 = .ok (.invokevirtual 181, 3) := by decide +kernel
theorem dX12_commandHere_170 : decode cX12_commandHere 170 = .ok (.ifCond .eq 13, 3) := by decide +kernel
theorem dX12_commandHere_173 : decode cX12_commandHere 173 = .ok (.aload_n 0, 1) := by decide +kernel
theorem dX12_commandHere_174 : decode cX12_commandHere 174 = .ok (.iconst 0, 1) := by decide +kernel
theorem dX12_commandHere_175 : decode cX12_commandHere 175 = .ok (.ldc 198, 2) := by decide +kernel
theorem dX12_commandHere_177 : decode cX12_commandHere 177 = .ok (.invokevirtual 186, 3) := by decide +kernel
theorem dX12_commandHere_180 : decode cX12_commandHere 180 = .ok (.goto 27, 3) := by decide +kernel
theorem dX12_commandHere_183 : decode cX12_commandHere 183 = .ok (.aload_n 0, 1) := by decide +kernel
theorem dX12_commandHere_184 : decode cX12_commandHere 184 = .ok (.iconst 5, 1) := by decide +kernel
theorem dX12_commandHere_185 : decode cX12_commandHere 185 = .ok (.ldc 200, 2) := by decide +kernel
theorem dX12_commandHere_187 : decode cX12_commandHere 187 = .ok (.invokevirtual 186, 3) := by decide +kernel
theorem dX12_commandHere_190 : decode cX12_commandHere 190 = .ok (.ifCond .eq 16, 3) := by decide +kernel
theorem dX12_commandHere_193 : decode cX12_commandHere 193 = .ok (.aload_n 0, 1) := by decide +kernel
theorem dX12_commandHere_194 : decode cX12_commandHere 194 = .ok (.iload_n 1, 1) := by decide +kernel
theorem dX12_commandHere_195 : decode cX12_commandHere 195 = .ok (.iconst 1, 1) := by decide +kernel
theorem dX12_commandHere_196 : decode cX12_commandHere 196 = .ok (.invokevirtual 190, 3) := by decide +kernel
theorem dX12_commandHere_199 : decode cX12_commandHere 199 = .ok (.ifCond .eq 7, 3) := by decide +kernel
theorem dX12_commandHere_202 : decode cX12_commandHere 202 = .ok (.iconst 1, 1) := by decide +kernel
theorem dX12_commandHere_203 : decode cX12_commandHere 203 = .ok (.goto 4, 3) := by decide +kernel
theorem dX12_commandHere_206 : decode cX12_commandHere 206 = .ok (.iconst 0, 1) := by decide +kernel
theorem dX12_commandHere_207 : decode cX12_commandHere 207 = .ok (.ireturn, 1) := by decide +kernel
theorem dX12_commandHere_208 : decode cX12_commandHere 208 = .ok (.aload_n 0, 1) := by decide +kernel
theorem dX12_commandHere_209 : decode cX12_commandHere 209 = .ok (.bipush 100, 2) := by decide +kernel
theorem dX12_commandHere_211 : decode cX12_commandHere 211 = .ok (.invokevirtual 181, 3) := by decide +kernel
theorem dX12_commandHere_214 : decode cX12_commandHere 214 = .ok (.ifCond .eq 13, 3) := by decide +kernel
theorem dX12_commandHere_217 : decode cX12_commandHere 217 = .ok (.aload_n 0, 1) := by decide +kernel
theorem dX12_commandHere_218 : decode cX12_commandHere 218 = .ok (.iconst 4, 1) := by decide +kernel
theorem dX12_commandHere_219 : decode cX12_commandHere 219 = .ok (.ldc 202, 2) := by decide +kernel
theorem dX12_commandHere_221 : decode cX12_commandHere 221 = .ok (.invokevirtual 186, 3) := by decide +kernel
theorem dX12_commandHere_224 : decode cX12_commandHere 224 = .ok (.ifCond .ne 5, 3) := by decide +kernel
theorem dX12_commandHere_227 : decode cX12_commandHere 227 = .ok (.iconst 0, 1) := by decide +kernel
theorem dX12_commandHere_228 : decode cX12_commandHere 228 = .ok (.ireturn, 1) := by decide +kernel
theorem dX12_commandHere_229 : decode cX12_commandHere 229 = .ok (.aload_n 0, 1) := by decide +kernel
theorem dX12_commandHere_230 : decode cX12_commandHere 230 = .ok (.getfield 42, 3) := by decide +kernel
theorem dX12_commandHere_233 : decode cX12_commandHere 233 = .ok (.iload_n 1, 1) := by decide +kernel
theorem dX12_commandHere_234 : decode cX12_commandHere 234 = .ok (.iconst 1, 1) := by decide +kernel
theorem dX12_commandHere_235 : decode cX12_commandHere 235 = .ok (.iastore, 1) := by decide +kernel
theorem dX12_commandHere_236 : decode cX12_commandHere 236 = .ok (.aload_n 0, 1) := by decide +kernel
theorem dX12_commandHere_237 : decode cX12_commandHere 237 = .ok (.invokevirtual 167, 3) := by decide +kernel
theorem dX12_commandHere_240 : decode cX12_commandHere 240 = .ok (.bipush 32, 2) := by decide +kernel
theorem dX12_commandHere_242 : decode cX12_commandHere 242 = .ok (.if_icmp .ne 12, 3) := by decide +kernel
theorem dX12_commandHere_245 : decode cX12_commandHere 245 = .ok (.aload_n 0, 1) := by decide +kernel
theorem dX12_commandHere_246 : decode cX12_commandHere 246 = .ok (.iload_n 1, 1) := by decide +kernel
theorem dX12_commandHere_247 : decode cX12_commandHere 247 = .ok (.iconst 2, 1) := by decide +kernel
theorem dX12_commandHere_248 : decode cX12_commandHere 248 = .ok (.invokevirtual 190, 3) := by decide +kernel
theorem dX12_commandHere_251 : decode cX12_commandHere 251 = .ok (.ifCond .eq 7, 3) := by decide +kernel
theorem dX12_commandHere_254 : decode cX12_commandHere 254 = .ok (.iconst 1, 1) := by decide +kernel
theorem dX12_commandHere_255 : decode cX12_commandHere 255 = .ok (.goto 4, 3) := by decide +kernel
theorem dX12_commandHere_258 : decode cX12_commandHere 258 = .ok (.iconst 0, 1) := by decide +kernel
theorem dX12_commandHere_259 : decode cX12_commandHere 259 = .ok (.ireturn, 1) := by decide +kernel
theorem dX12_isText_0 : decode cX12_isText 0 = .ok (.aload_n 0, 1) := by decide +kernel
theorem dX12_isText_1 : decode cX12_isText 1 = .ok (.iconst 0, 1) := by decide +kernel
theorem dX12_isText_2 : decode cX12_isText 2 = .ok (.putfield 164, 3) := by decide +kernel
theorem dX12_isText_5 : decode cX12_isText 5 = .ok (.aload_n 0, 1) := by decide +kernel
theorem dX12_isText_6 : decode cX12_isText 6 = .ok (.iconst 0, 1) := by decide +kernel
theorem dX12_isText_7 : decode cX12_isText 7 = .ok (.putfield 170, 3) := by decide +kernel
theorem dX12_isText_10 : decode cX12_isText 10 = .ok (.aload_n 0, 1) := by decide +kernel
theorem dX12_isText_11 : decode cX12_isText 11 = .ok (.invokevirtual 204, 3) := by decide +kernel
theorem dX12_isText_14 : decode cX12_isText 14 = .ok (.ifCond .ne 5, 3) := by decide +kernel
theorem dX12_isText_17 : decode cX12_isText 17 = .ok (.iconst 0, 1) := by decide +kernel
theorem dX12_isText_18 : decode cX12_isText 18 = .ok (.ireturn, 1) := by decide +kernel
theorem dX12_isText_19 : decode cX12_isText 19 = .ok (.aload_n 0, 1) := by decide +kernel
theorem dX12_isText_20 : decode cX12_isText 20 = .ok (.dup, 1) := by decide +kernel
theorem dX12_isText_21 : decode cX12_isText 21 = .ok (.getfield 170, 3) := by decide +kernel
theorem dX12_isText_24 : decode cX12_isText 24 = .ok (.iconst 1, 1) := by decide +kernel
theorem dX12_isText_25 : decode cX12_isText 25 = .ok (.iadd, 1) := by decide +kernel
theorem dX12_isText_26 : decode cX12_isText 26 = .ok (.putfield 170, 3) := by decide +kernel
theorem dX12_isText_29 : decode cX12_isText 29 = .ok (.aload_n 0, 1) := by decide +kernel
theorem dX12_isText_30 : decode cX12_isText 30 = .ok (.bipush 59, 2) := by decide +kernel
theorem dX12_isText_32 : decode cX12_isText 32 = .ok (.invokevirtual 181, 3) := by decide +kernel
theorem dX12_isText_35 : decode cX12_isText 35 = .ok (.ifCond .ne (-25), 3) := by decide +kernel
theorem dX12_isText_38 : decode cX12_isText 38 = .ok (.aload_n 0, 1) := by decide +kernel
theorem dX12_isText_39 : decode cX12_isText 39 = .ok (.getfield 164, 3) := by decide +kernel
theorem dX12_isText_42 : decode cX12_isText 42 = .ok (.aload_n 0, 1) := by decide +kernel
theorem dX12_isText_43 : decode cX12_isText 43 = .ok (.getfield 81, 3) := by decide +kernel
theorem dX12_isText_46 : decode cX12_isText 46 = .ok (.if_icmp .ne 7, 3) := by decide +kernel
theorem dX12_isText_49 : decode cX12_isText 49 = .ok (.iconst 1, 1) := by decide +kernel
theorem dX12_isText_50 : decode cX12_isText 50 = .ok (.goto 4, 3) := by decide +kernel
theorem dX12_isText_53 : decode cX12_isText 53 = .ok (.iconst 0, 1) := by decide +kernel
theorem dX12_isText_54 : decode cX12_isText 54 = .ok (.ireturn, 1) := by decide +kernel
theorem dX12_carries_0 : decode cX12_carries 0 = .ok (.aload_n 0, 1) := by decide +kernel
theorem dX12_carries_1 : decode cX12_carries 1 = .ok (.getfield 42, 3) := by decide +kernel
theorem dX12_carries_4 : decode cX12_carries 4 = .ok (.iload_n 1, 1) := by decide +kernel
theorem dX12_carries_5 : decode cX12_carries 5 = .ok (.iconst 1, 1) := by decide +kernel
theorem dX12_carries_6 : decode cX12_carries 6 = .ok (.iadd, 1) := by decide +kernel
theorem dX12_carries_7 : decode cX12_carries 7 = .ok (.iaload, 1) := by decide +kernel
theorem dX12_carries_8 : decode cX12_carries 8 = .ok (.istore_n 2, 1) := by decide +kernel
theorem dX12_carries_9 : decode cX12_carries 9 = .ok (.aload_n 0, 1) := by decide +kernel
theorem dX12_carries_10 : decode cX12_carries 10 = .ok (.getfield 42, 3) := by decide +kernel
theorem dX12_carries_13 : decode cX12_carries 13 = .ok (.iload_n 1, 1) := by decide +kernel
theorem dX12_carries_14 : decode cX12_carries 14 = .ok (.iconst 2, 1) := by decide +kernel
theorem dX12_carries_15 : decode cX12_carries 15 = .ok (.iadd, 1) := by decide +kernel
theorem dX12_carries_16 : decode cX12_carries 16 = .ok (.iaload, 1) := by decide +kernel
theorem dX12_carries_17 : decode cX12_carries 17 = .ok (.istore_n 3, 1) := by decide +kernel
theorem dX12_carries_18 : decode cX12_carries 18 = .ok (.aload_n 0, 1) := by decide +kernel
theorem dX12_carries_19 : decode cX12_carries 19 = .ok (.getfield 42, 3) := by decide +kernel
theorem dX12_carries_22 : decode cX12_carries 22 = .ok (.iload_n 1, 1) := by decide +kernel
theorem dX12_carries_23 : decode cX12_carries 23 = .ok (.iaload, 1) := by decide +kernel
theorem dX12_carries_24 : decode cX12_carries 24 = .ok (.tableswitch 83 0 4 #[36, 41, 48, 71, 77], 36) := by decide +kernel
theorem dX12_carries_60 : decode cX12_carries 60 = .ok (.aload_n 0, 1) := by decide +kernel
theorem dX12_carries_61 : decode cX12_carries 61 = .ok (.invokevirtual 207, 3) := by decide +kernel
theorem dX12_carries_64 : decode cX12_carries 64 = .ok (.ireturn, 1) := by decide +kernel
theorem dX12_carries_65 : decode cX12_carries 65 = .ok (.aload_n 0, 1) := by decide +kernel
theorem dX12_carries_66 : decode cX12_carries 66 = .ok (.iload_n 2, 1) := by decide +kernel
theorem dX12_carries_67 : decode cX12_carries 67 = .ok (.iload_n 3, 1) := by decide +kernel
theorem dX12_carries_68 : decode cX12_carries 68 = .ok (.invokevirtual 210, 3) := by decide +kernel
theorem dX12_carries_71 : decode cX12_carries 71 = .ok (.ireturn, 1) := by decide +kernel
theorem dX12_carries_72 : decode cX12_carries 72 = .ok (.aload_n 0, 1) := by decide +kernel
theorem dX12_carries_73 : decode cX12_carries 73 = .ok (.iload_n 2, 1) := by decide +kernel
theorem dX12_carries_74 : decode cX12_carries 74 = .ok (.iload_n 3, 1) := by decide +kernel
theorem dX12_carries_75 : decode cX12_carries 75 = .ok (.aload_n 0, 1) := by decide +kernel
theorem dX12_carries_76 : decode cX12_carries 76 = .ok (.getfield 42, 3) := by decide +kernel
theorem dX12_carries_79 : decode cX12_carries 79 = .ok (.iload_n 1, 1) := by decide +kernel
theorem dX12_carries_80 : decode cX12_carries 80 = .ok (.iconst 3, 1) := by decide +kernel
theorem dX12_carries_81 : decode cX12_carries 81 = .ok (.iadd, 1) := by decide +kernel
theorem dX12_carries_82 : decode cX12_carries 82 = .ok (.iaload, 1) := by decide +kernel
theorem dX12_carries_83 : decode cX12_carries 83 = .ok (.aload_n 0, 1) := by decide +kernel
theorem dX12_carries_84 : decode cX12_carries 84 = .ok (.getfield 42, 3) := by decide +kernel
theorem dX12_carries_87 : decode cX12_carries 87 = .ok (.iload_n 1, 1) := by decide +kernel
theorem dX12_carries_88 : decode cX12_carries 88 = .ok (.iconst 4, 1) := by decide +kernel
theorem dX12_carries_89 : decode cX12_carries 89 = .ok (.iadd, 1) := by decide +kernel
theorem dX12_carries_90 : decode cX12_carries 90 = .ok (.iaload, 1) := by decide +kernel
theorem dX12_carries_91 : decode cX12_carries 91 = .ok (.invokevirtual 213, 3) := by decide +kernel
theorem dX12_carries_94 : decode cX12_carries 94 = .ok (.ireturn, 1) := by decide +kernel
theorem dX12_carries_95 : decode cX12_carries 95 = .ok (.aload_n 0, 1) := by decide +kernel
theorem dX12_carries_96 : decode cX12_carries 96 = .ok (.iload_n 2, 1) := by decide +kernel
theorem dX12_carries_97 : decode cX12_carries 97 = .ok (.invokevirtual 217, 3) := by decide +kernel
theorem dX12_carries_100 : decode cX12_carries 100 = .ok (.ireturn, 1) := by decide +kernel
theorem dX12_carries_101 : decode cX12_carries 101 = .ok (.aload_n 0, 1) := by decide +kernel
theorem dX12_carries_102 : decode cX12_carries 102 = .ok (.iload_n 2, 1) := by decide +kernel
theorem dX12_carries_103 : decode cX12_carries 103 = .ok (.invokevirtual 220, 3) := by decide +kernel
theorem dX12_carries_106 : decode cX12_carries 106 = .ok (.ireturn, 1) := by decide +kernel
theorem dX12_carries_107 : decode cX12_carries 107 = .ok (.aload_n 0, 1) := by decide +kernel
theorem dX12_carries_108 : decode cX12_carries 108 = .ok (.iload_n 2, 1) := by decide +kernel
theorem dX12_carries_109 : decode cX12_carries 109 = .ok (.invokevirtual 223, 3) := by decide +kernel
theorem dX12_carries_112 : decode cX12_carries 112 = .ok (.ireturn, 1) := by decide +kernel
theorem dX12_execute_0 : decode cX12_execute 0 = .ok (.aload_n 0, 1) := by decide +kernel
theorem dX12_execute_1 : decode cX12_execute 1 = .ok (.invokevirtual 226, 3) := by decide +kernel
theorem dX12_execute_4 : decode cX12_execute 4 = .ok (.istore_n 1, 1) := by decide +kernel
theorem dX12_execute_5 : decode cX12_execute 5 = .ok (.iload_n 1, 1) := by decide +kernel
theorem dX12_execute_6 : decode cX12_execute 6 = .ok (.ifCond .ne 11, 3) := by decide +kernel
theorem dX12_execute_9 : decode cX12_execute 9 = .ok (.aload_n 0, 1) := by decide +kernel
theorem dX12_execute_10 : decode cX12_execute 10 = .ok (.aload_n 0, 1) := by decide +kernel
theorem dX12_execute_11 : decode cX12_execute 11 = .ok (.getfield 164, 3) := by decide +kernel
theorem dX12_execute_14 : decode cX12_execute 14 = .ok (.putfield 25, 3) := by decide +kernel
theorem dX12_execute_17 : decode cX12_execute 17 = .ok (.aload_n 0, 1) := by decide +kernel
theorem dX12_execute_18 : decode cX12_execute 18 = .ok (.iconst 0, 1) := by decide +kernel
theorem dX12_execute_19 : decode cX12_execute 19 = .ok (.putfield 81, 3) := by decide +kernel
theorem dX12_execute_22 : decode cX12_execute 22 = .ok (.aload_n 0, 1) := by decide +kernel
theorem dX12_execute_23 : decode cX12_execute 23 = .ok (.iload_n 1, 1) := by decide +kernel
theorem dX12_execute_24 : decode cX12_execute 24 = .ok (.ifCond .eq 7, 3) := by decide +kernel
theorem dX12_execute_27 : decode cX12_execute 27 = .ok (.iconst 0, 1) := by decide +kernel
theorem dX12_execute_28 : decode cX12_execute 28 = .ok (.goto 4, 3) := by decide +kernel
theorem dX12_execute_31 : decode cX12_execute 31 = .ok (.iconst 1, 1) := by decide +kernel
theorem dX12_execute_32 : decode cX12_execute 32 = .ok (.invokevirtual 63, 3) := by decide +kernel
theorem dX12_execute_35 : decode cX12_execute 35 = .ok (.ifCond .eq 5, 3) := by decide +kernel
theorem dX12_execute_38 : decode cX12_execute 38 = .ok (.iconst 0, 1) := by decide +kernel
theorem dX12_execute_39 : decode cX12_execute 39 = .ok (.ireturn, 1) := by decide +kernel
theorem dX12_execute_40 : decode cX12_execute 40 = .ok (.aload_n 0, 1) := by decide +kernel
theorem dX12_execute_41 : decode cX12_execute 41 = .ok (.getfield 7, 3) := by decide +kernel
theorem dX12_execute_44 : decode cX12_execute 44 = .ok (.iconst 0, 1) := by decide +kernel
theorem dX12_execute_45 : decode cX12_execute 45 = .ok (.aload_n 0, 1) := by decide +kernel
theorem dX12_execute_46 : decode cX12_execute 46 = .ok (.getfield 19, 3) := by decide +kernel
theorem dX12_execute_49 : decode cX12_execute 49 = .ok (.iconst 0, 1) := by decide +kernel
theorem dX12_execute_50 : decode cX12_execute 50 = .ok (.invokestatic 55, 3) := by decide +kernel
theorem dX12_execute_53 : decode cX12_execute 53 = .ok (.aload_n 0, 1) := by decide +kernel
theorem dX12_execute_54 : decode cX12_execute 54 = .ok (.iconst 1, 1) := by decide +kernel
theorem dX12_execute_55 : decode cX12_execute 55 = .ok (.putfield 48, 3) := by decide +kernel
theorem dX12_execute_58 : decode cX12_execute 58 = .ok (.iconst 0, 1) := by decide +kernel
theorem dX12_execute_59 : decode cX12_execute 59 = .ok (.istore_n 2, 1) := by decide +kernel
theorem dX12_execute_60 : decode cX12_execute 60 = .ok (.iconst 0, 1) := by decide +kernel
theorem dX12_execute_61 : decode cX12_execute 61 = .ok (.istore_n 3, 1) := by decide +kernel
theorem dX12_execute_62 : decode cX12_execute 62 = .ok (.iload_n 2, 1) := by decide +kernel
theorem dX12_execute_63 : decode cX12_execute 63 = .ok (.aload_n 0, 1) := by decide +kernel
theorem dX12_execute_64 : decode cX12_execute 64 = .ok (.getfield 170, 3) := by decide +kernel
theorem dX12_execute_67 : decode cX12_execute 67 = .ok (.if_icmp .ge 31, 3) := by decide +kernel
theorem dX12_execute_70 : decode cX12_execute 70 = .ok (.aload_n 0, 1) := by decide +kernel
theorem dX12_execute_71 : decode cX12_execute 71 = .ok (.getfield 45, 3) := by decide +kernel
theorem dX12_execute_74 : decode cX12_execute 74 = .ok (.ifCond .ne 24, 3) := by decide +kernel
theorem dX12_execute_77 : decode cX12_execute 77 = .ok (.aload_n 0, 1) := by decide +kernel
theorem dX12_execute_78 : decode cX12_execute 78 = .ok (.iconst 5, 1) := by decide +kernel
theorem dX12_execute_79 : decode cX12_execute 79 = .ok (.iload_n 2, 1) := by decide +kernel
theorem dX12_execute_80 : decode cX12_execute 80 = .ok (.imul, 1) := by decide +kernel
theorem dX12_execute_81 : decode cX12_execute 81 = .ok (.invokevirtual 229, 3) := by decide +kernel
theorem dX12_execute_84 : decode cX12_execute 84 = .ok (.istore_n 3, 1) := by decide +kernel
theorem dX12_execute_85 : decode cX12_execute 85 = .ok (.aload_n 0, 1) := by decide +kernel
theorem dX12_execute_86 : decode cX12_execute 86 = .ok (.getfield 45, 3) := by decide +kernel
theorem dX12_execute_89 : decode cX12_execute 89 = .ok (.ifCond .ne (-27), 3) := by decide +kernel
theorem dX12_execute_92 : decode cX12_execute 92 = .ok (.iinc 2 1, 3) := by decide +kernel
theorem dX12_execute_95 : decode cX12_execute 95 = .ok (.goto (-33), 3) := by decide +kernel
theorem dX12_execute_98 : decode cX12_execute 98 = .ok (.aload_n 0, 1) := by decide +kernel
theorem dX12_execute_99 : decode cX12_execute 99 = .ok (.iconst 0, 1) := by decide +kernel
theorem dX12_execute_100 : decode cX12_execute 100 = .ok (.putfield 48, 3) := by decide +kernel
theorem dX12_execute_103 : decode cX12_execute 103 = .ok (.aload_n 0, 1) := by decide +kernel
theorem dX12_execute_104 : decode cX12_execute 104 = .ok (.getfield 45, 3) := by decide +kernel
theorem dX12_execute_107 : decode cX12_execute 107 = .ok (.ifCond .le 36, 3) := by decide +kernel
theorem dX12_execute_110 : decode cX12_execute 110 = .ok (.aload_n 0, 1) := by decide +kernel
theorem dX12_execute_111 : decode cX12_execute 111 = .ok (.getfield 19, 3) := by decide +kernel
theorem dX12_execute_114 : decode cX12_execute 114 = .ok (.iconst 0, 1) := by decide +kernel
theorem dX12_execute_115 : decode cX12_execute 115 = .ok (.aload_n 0, 1) := by decide +kernel
theorem dX12_execute_116 : decode cX12_execute 116 = .ok (.getfield 7, 3) := by decide +kernel
theorem dX12_execute_119 : decode cX12_execute 119 = .ok (.iconst 0, 1) := by decide +kernel
theorem dX12_execute_120 : decode cX12_execute 120 = .ok (.invokestatic 55, 3) := by decide +kernel
theorem dX12_execute_123 : decode cX12_execute 123 = .ok (.aload_n 0, 1) := by decide +kernel
theorem dX12_execute_124 : decode cX12_execute 124 = .ok (.iload_n 2, 1) := by decide +kernel
theorem dX12_execute_125 : decode cX12_execute 125 = .ok (.putfield 29, 3) := by decide +kernel
theorem dX12_execute_128 : decode cX12_execute 128 = .ok (.aload_n 0, 1) := by decide +kernel
theorem dX12_execute_129 : decode cX12_execute 129 = .ok (.iconst 2, 1) := by decide +kernel
theorem dX12_execute_130 : decode cX12_execute 130 = .ok (.putfield 45, 3) := by decide +kernel
theorem dX12_execute_133 : decode cX12_execute 133 = .ok (.iload_n 3, 1) := by decide +kernel
theorem dX12_execute_134 : decode cX12_execute 134 = .ok (.ifCond .le 7, 3) := by decide +kernel
theorem dX12_execute_137 : decode cX12_execute 137 = .ok (.iconst 0, 1) := by decide +kernel
theorem dX12_execute_138 : decode cX12_execute 138 = .ok (.goto 4, 3) := by decide +kernel
theorem dX12_execute_141 : decode cX12_execute 141 = .ok (.iload_n 3, 1) := by decide +kernel
theorem dX12_execute_142 : decode cX12_execute 142 = .ok (.ireturn, 1) := by decide +kernel
theorem dX12_execute_143 : decode cX12_execute 143 = .ok (.aload_n 0, 1) := by decide +kernel
theorem dX12_execute_144 : decode cX12_execute 144 = .ok (.aload_n 0, 1) := by decide +kernel
theorem dX12_execute_145 : decode cX12_execute 145 = .ok (.getfield 19, 3) := by decide +kernel
theorem dX12_execute_148 : decode cX12_execute 148 = .ok (.invokevirtual 67, 3) := by decide +kernel
theorem dX12_execute_151 : decode cX12_execute 151 = .ok (.aload_n 0, 1) := by decide +kernel
theorem dX12_execute_152 : decode cX12_execute 152 = .ok (.getfield 170, 3) := by decide +kernel
theorem dX12_execute_155 : decode cX12_execute 155 = .ok (.ireturn, 1) := by decide +kernel
theorem dX12_errorPosition_0 : decode cX12_errorPosition 0 = .ok (.aload_n 0, 1) := by decide +kernel
theorem dX12_errorPosition_1 : decode cX12_errorPosition 1 = .ok (.aload_n 0, 1) := by decide +kernel
theorem dX12_errorPosition_2 : decode cX12_errorPosition 2 = .ok (.getfield 25, 3) := by decide +kernel
theorem dX12_errorPosition_5 : decode cX12_errorPosition 5 = .ok (.ifCond .ge 7, 3) := by decide +kernel
theorem dX12_errorPosition_8 : decode cX12_errorPosition 8 = .ok (.iconst 1, 1) := by decide +kernel
theorem dX12_errorPosition_9 : decode cX12_errorPosition 9 = .ok (.goto 4, 3) := by decide +kernel
theorem dX12_errorPosition_12 : decode cX12_errorPosition 12 = .ok (.iconst 0, 1) := by decide +kernel
theorem dX12_errorPosition_13 : decode cX12_errorPosition 13 = .ok (.invokevirtual 63, 3) := by decide +kernel
theorem dX12_errorPosition_16 : decode cX12_errorPosition 16 = .ok (.ifCond .eq 7, 3) := by decide +kernel
theorem dX12_errorPosition_19 : decode cX12_errorPosition 19 = .ok (.iconst 0, 1) := by decide +kernel
theorem dX12_errorPosition_20 : decode cX12_errorPosition 20 = .ok (.goto 7, 3) := by decide +kernel
theorem dX12_errorPosition_23 : decode cX12_errorPosition 23 = .ok (.aload_n 0, 1) := by decide +kernel
theorem dX12_errorPosition_24 : decode cX12_errorPosition 24 = .ok (.getfield 25, 3) := by decide +kernel
theorem dX12_errorPosition_27 : decode cX12_errorPosition 27 = .ok (.ireturn, 1) := by decide +kernel
theorem dX12_failedCommand_0 : decode cX12_failedCommand 0 = .ok (.aload_n 0, 1) := by decide +kernel
theorem dX12_failedCommand_1 : decode cX12_failedCommand 1 = .ok (.aload_n 0, 1) := by decide +kernel
theorem dX12_failedCommand_2 : decode cX12_failedCommand 2 = .ok (.getfield 29, 3) := by decide +kernel
theorem dX12_failedCommand_5 : decode cX12_failedCommand 5 = .ok (.ifCond .ge 7, 3) := by decide +kernel
theorem dX12_failedCommand_8 : decode cX12_failedCommand 8 = .ok (.iconst 1, 1) := by decide +kernel
theorem dX12_failedCommand_9 : decode cX12_failedCommand 9 = .ok (.goto 4, 3) := by decide +kernel
theorem dX12_failedCommand_12 : decode cX12_failedCommand 12 = .ok (.iconst 0, 1) := by decide +kernel
theorem dX12_failedCommand_13 : decode cX12_failedCommand 13 = .ok (.invokevirtual 63, 3) := by decide +kernel
theorem dX12_failedCommand_16 : decode cX12_failedCommand 16 = .ok (.ifCond .eq 7, 3) := by decide +kernel
theorem dX12_failedCommand_19 : decode cX12_failedCommand 19 = .ok (.iconst 0, 1) := by decide +kernel
theorem dX12_failedCommand_20 : decode cX12_failedCommand 20 = .ok (.goto 7, 3) := by decide +kernel
theorem dX12_failedCommand_23 : decode cX12_failedCommand 23 = .ok (.aload_n 0, 1) := by decide +kernel
theorem dX12_failedCommand_24 : decode cX12_failedCommand 24 = .ok (.getfield 29, 3) := by decide +kernel
theorem dX12_failedCommand_27 : decode cX12_failedCommand 27 = .ok (.ireturn, 1) := by decide +kernel
theorem dX12_undo_0 : decode cX12_undo 0 = .ok (.aload_n 0, 1) := by decide +kernel
theorem dX12_undo_1 : decode cX12_undo 1 = .ok (.aload_n 0, 1) := by decide +kernel
theorem dX12_undo_2 : decode cX12_undo 2 = .ok (.getfield 52, 3) := by decide +kernel
theorem dX12_undo_5 : decode cX12_undo 5 = .ok (.ifCond .ne 7, 3) := by decide +kernel
theorem dX12_undo_8 : decode cX12_undo 8 = .ok (.iconst 1, 1) := by decide +kernel
theorem dX12_undo_9 : decode cX12_undo 9 = .ok (.goto 4, 3) := by decide +kernel
theorem dX12_undo_12 : decode cX12_undo 12 = .ok (.iconst 0, 1) := by decide +kernel
theorem dX12_undo_13 : decode cX12_undo 13 = .ok (.invokevirtual 63, 3) := by decide +kernel
theorem dX12_undo_16 : decode cX12_undo 16 = .ok (.ifCond .eq 5, 3) := by decide +kernel
theorem dX12_undo_19 : decode cX12_undo 19 = .ok (.iconst 0, 1) := by decide +kernel
theorem dX12_undo_20 : decode cX12_undo 20 = .ok (.ireturn, 1) := by decide +kernel
theorem dX12_undo_21 : decode cX12_undo 21 = .ok (.aload_n 0, 1) := by decide +kernel
theorem dX12_undo_22 : decode cX12_undo 22 = .ok (.dup, 1) := by decide +kernel
theorem dX12_undo_23 : decode cX12_undo 23 = .ok (.getfield 52, 3) := by decide +kernel
theorem dX12_undo_26 : decode cX12_undo 26 = .ok (.iconst 1, 1) := by decide +kernel
theorem dX12_undo_27 : decode cX12_undo 27 = .ok (.isub, 1) := by decide +kernel
theorem dX12_undo_28 : decode cX12_undo 28 = .ok (.putfield 52, 3) := by decide +kernel
theorem dX12_undo_31 : decode cX12_undo 31 = .ok (.aload_n 0, 1) := by decide +kernel
theorem dX12_undo_32 : decode cX12_undo 32 = .ok (.getfield 13, 3) := by decide +kernel
theorem dX12_undo_35 : decode cX12_undo 35 = .ok (.bipush 127, 2) := by decide +kernel
theorem dX12_undo_37 : decode cX12_undo 37 = .ok (.aload_n 0, 1) := by decide +kernel
theorem dX12_undo_38 : decode cX12_undo 38 = .ok (.getfield 52, 3) := by decide +kernel
theorem dX12_undo_41 : decode cX12_undo 41 = .ok (.imul, 1) := by decide +kernel
theorem dX12_undo_42 : decode cX12_undo 42 = .ok (.aload_n 0, 1) := by decide +kernel
theorem dX12_undo_43 : decode cX12_undo 43 = .ok (.getfield 7, 3) := by decide +kernel
theorem dX12_undo_46 : decode cX12_undo 46 = .ok (.iconst 0, 1) := by decide +kernel
theorem dX12_undo_47 : decode cX12_undo 47 = .ok (.invokestatic 55, 3) := by decide +kernel
theorem dX12_undo_50 : decode cX12_undo 50 = .ok (.aload_n 0, 1) := by decide +kernel
theorem dX12_undo_51 : decode cX12_undo 51 = .ok (.getfield 52, 3) := by decide +kernel
theorem dX12_undo_54 : decode cX12_undo 54 = .ok (.ireturn, 1) := by decide +kernel
theorem dX12_save_0 : decode cX12_save 0 = .ok (.aload_n 0, 1) := by decide +kernel
theorem dX12_save_1 : decode cX12_save 1 = .ok (.iconst 0, 1) := by decide +kernel
theorem dX12_save_2 : decode cX12_save 2 = .ok (.putfield 45, 3) := by decide +kernel
theorem dX12_save_5 : decode cX12_save 5 = .ok (.aload_n 0, 1) := by decide +kernel
theorem dX12_save_6 : decode cX12_save 6 = .ok (.iconst 1, 1) := by decide +kernel
theorem dX12_save_7 : decode cX12_save 7 = .ok (.putfield 232, 3) := by decide +kernel
theorem dX12_save_10 : decode cX12_save 10 = .ok (.aload_n 0, 1) := by decide +kernel
theorem dX12_save_11 : decode cX12_save 11 = .ok (.getfield 7, 3) := by decide +kernel
theorem dX12_save_14 : decode cX12_save 14 = .ok (.iconst 0, 1) := by decide +kernel
theorem dX12_save_15 : decode cX12_save 15 = .ok (.aload_n 0, 1) := by decide +kernel
theorem dX12_save_16 : decode cX12_save 16 = .ok (.getfield 16, 3) := by decide +kernel
theorem dX12_save_19 : decode cX12_save 19 = .ok (.iconst 0, 1) := by decide +kernel
theorem dX12_save_20 : decode cX12_save 20 = .ok (.invokestatic 55, 3) := by decide +kernel
theorem dX12_save_23 : decode cX12_save 23 = .ok (.aload_n 0, 1) := by decide +kernel
theorem dX12_save_24 : decode cX12_save 24 = .ok (.getfield 7, 3) := by decide +kernel
theorem dX12_save_27 : decode cX12_save 27 = .ok (.iconst 3, 1) := by decide +kernel
theorem dX12_save_28 : decode cX12_save 28 = .ok (.iaload, 1) := by decide +kernel
theorem dX12_save_29 : decode cX12_save 29 = .ok (.ireturn, 1) := by decide +kernel
theorem dX12_restore_0 : decode cX12_restore 0 = .ok (.aload_n 0, 1) := by decide +kernel
theorem dX12_restore_1 : decode cX12_restore 1 = .ok (.aload_n 0, 1) := by decide +kernel
theorem dX12_restore_2 : decode cX12_restore 2 = .ok (.getfield 232, 3) := by decide +kernel
theorem dX12_restore_5 : decode cX12_restore 5 = .ok (.ifCond .eq 7, 3) := by decide +kernel
theorem dX12_restore_8 : decode cX12_restore 8 = .ok (.iconst 0, 1) := by decide +kernel
theorem dX12_restore_9 : decode cX12_restore 9 = .ok (.goto 4, 3) := by decide +kernel
theorem dX12_restore_12 : decode cX12_restore 12 = .ok (.iconst 1, 1) := by decide +kernel
theorem dX12_restore_13 : decode cX12_restore 13 = .ok (.invokevirtual 63, 3) := by decide +kernel
theorem dX12_restore_16 : decode cX12_restore 16 = .ok (.ifCond .eq 5, 3) := by decide +kernel
theorem dX12_restore_19 : decode cX12_restore 19 = .ok (.iconst 0, 1) := by decide +kernel
theorem dX12_restore_20 : decode cX12_restore 20 = .ok (.ireturn, 1) := by decide +kernel
theorem dX12_restore_21 : decode cX12_restore 21 = .ok (.aload_n 0, 1) := by decide +kernel
theorem dX12_restore_22 : decode cX12_restore 22 = .ok (.getfield 16, 3) := by decide +kernel
theorem dX12_restore_25 : decode cX12_restore 25 = .ok (.iconst 0, 1) := by decide +kernel
theorem dX12_restore_26 : decode cX12_restore 26 = .ok (.aload_n 0, 1) := by decide +kernel
theorem dX12_restore_27 : decode cX12_restore 27 = .ok (.getfield 7, 3) := by decide +kernel
theorem dX12_restore_30 : decode cX12_restore 30 = .ok (.iconst 0, 1) := by decide +kernel
theorem dX12_restore_31 : decode cX12_restore 31 = .ok (.invokestatic 55, 3) := by decide +kernel
theorem dX12_restore_34 : decode cX12_restore 34 = .ok (.aload_n 0, 1) := by decide +kernel
theorem dX12_restore_35 : decode cX12_restore 35 = .ok (.iconst 0, 1) := by decide +kernel
theorem dX12_restore_36 : decode cX12_restore 36 = .ok (.putfield 52, 3) := by decide +kernel
theorem dX12_restore_39 : decode cX12_restore 39 = .ok (.aload_n 0, 1) := by decide +kernel
theorem dX12_restore_40 : decode cX12_restore 40 = .ok (.getfield 7, 3) := by decide +kernel
theorem dX12_restore_43 : decode cX12_restore 43 = .ok (.iconst 3, 1) := by decide +kernel
theorem dX12_restore_44 : decode cX12_restore 44 = .ok (.iaload, 1) := by decide +kernel
theorem dX12_restore_45 : decode cX12_restore 45 = .ok (.ireturn, 1) := by decide +kernel
theorem dL_addRaw_0 : decode cL_addRaw 0 = .ok (.aload_n 1, 1) := by decide +kernel
theorem dL_addRaw_1 : decode cL_addRaw 1 = .ok (.iconst 0, 1) := by decide +kernel
theorem dL_addRaw_2 : decode cL_addRaw 2 = .ok (.aload_n 0, 1) := by decide +kernel
theorem dL_addRaw_3 : decode cL_addRaw 3 = .ok (.invokevirtual 7, 3) := by decide +kernel
theorem dL_addRaw_6 : decode cL_addRaw 6 = .ok (.i2l, 1) := by decide +kernel
theorem dL_addRaw_7 : decode cL_addRaw 7 = .ok (.lastore, 1) := by decide +kernel
theorem dL_addRaw_8 : decode cL_addRaw 8 = .ok (.goto 6, 3) := by decide +kernel
theorem dL_addRaw_11 : decode cL_addRaw 11 = .ok (.astore_n 2, 1) := by decide +kernel
theorem dL_addRaw_12 : decode cL_addRaw 12 = .ok (.iconst 1, 1) := by decide +kernel
theorem dL_addRaw_13 : decode cL_addRaw 13 = .ok (.ireturn, 1) := by decide +kernel
theorem dL_addRaw_14 : decode cL_addRaw 14 = .ok (.iconst 0, 1) := by decide +kernel
theorem dL_addRaw_15 : decode cL_addRaw 15 = .ok (.ireturn, 1) := by decide +kernel
theorem dL_mix_0 : decode cL_mix 0 = .ok (.aload_n 3, 1) := by decide +kernel
theorem dL_mix_1 : decode cL_mix 1 = .ok (.iconst 0, 1) := by decide +kernel
theorem dL_mix_2 : decode cL_mix 2 = .ok (.aload_n 0, 1) := by decide +kernel
theorem dL_mix_3 : decode cL_mix 3 = .ok (.iload_n 1, 1) := by decide +kernel
theorem dL_mix_4 : decode cL_mix 4 = .ok (.iload_n 2, 1) := by decide +kernel
theorem dL_mix_5 : decode cL_mix 5 = .ok (.invokevirtual 15, 3) := by decide +kernel
theorem dL_mix_8 : decode cL_mix 8 = .ok (.i2l, 1) := by decide +kernel
theorem dL_mix_9 : decode cL_mix 9 = .ok (.lastore, 1) := by decide +kernel
theorem dL_mix_10 : decode cL_mix 10 = .ok (.goto 15, 3) := by decide +kernel
theorem dL_mix_13 : decode cL_mix 13 = .ok (.astore 4, 2) := by decide +kernel
theorem dL_mix_15 : decode cL_mix 15 = .ok (.iconst 1, 1) := by decide +kernel
theorem dL_mix_16 : decode cL_mix 16 = .ok (.ireturn, 1) := by decide +kernel
theorem dL_mix_17 : decode cL_mix 17 = .ok (.astore 4, 2) := by decide +kernel
theorem dL_mix_19 : decode cL_mix 19 = .ok (.iconst 2, 1) := by decide +kernel
theorem dL_mix_20 : decode cL_mix 20 = .ok (.ireturn, 1) := by decide +kernel
theorem dL_mix_21 : decode cL_mix 21 = .ok (.astore 4, 2) := by decide +kernel
theorem dL_mix_23 : decode cL_mix 23 = .ok (.iconst 3, 1) := by decide +kernel
theorem dL_mix_24 : decode cL_mix 24 = .ok (.ireturn, 1) := by decide +kernel
theorem dL_mix_25 : decode cL_mix 25 = .ok (.iconst 0, 1) := by decide +kernel
theorem dL_mix_26 : decode cL_mix 26 = .ok (.ireturn, 1) := by decide +kernel
theorem dL_isFaulty_0 : decode cL_isFaulty 0 = .ok (.aload_n 2, 1) := by decide +kernel
theorem dL_isFaulty_1 : decode cL_isFaulty 1 = .ok (.iconst 0, 1) := by decide +kernel
theorem dL_isFaulty_2 : decode cL_isFaulty 2 = .ok (.aload_n 0, 1) := by decide +kernel
theorem dL_isFaulty_3 : decode cL_isFaulty 3 = .ok (.iload_n 1, 1) := by decide +kernel
theorem dL_isFaulty_4 : decode cL_isFaulty 4 = .ok (.invokevirtual 23, 3) := by decide +kernel
theorem dL_isFaulty_7 : decode cL_isFaulty 7 = .ok (.ifCond .eq 7, 3) := by decide +kernel
theorem dL_isFaulty_10 : decode cL_isFaulty 10 = .ok (.lconst 1, 1) := by decide +kernel
theorem dL_isFaulty_11 : decode cL_isFaulty 11 = .ok (.goto 4, 3) := by decide +kernel
theorem dL_isFaulty_14 : decode cL_isFaulty 14 = .ok (.lconst 0, 1) := by decide +kernel
theorem dL_isFaulty_15 : decode cL_isFaulty 15 = .ok (.lastore, 1) := by decide +kernel
theorem dL_isFaulty_16 : decode cL_isFaulty 16 = .ok (.goto 6, 3) := by decide +kernel
theorem dL_isFaulty_19 : decode cL_isFaulty 19 = .ok (.astore_n 3, 1) := by decide +kernel
theorem dL_isFaulty_20 : decode cL_isFaulty 20 = .ok (.iconst 1, 1) := by decide +kernel
theorem dL_isFaulty_21 : decode cL_isFaulty 21 = .ok (.ireturn, 1) := by decide +kernel
theorem dL_isFaulty_22 : decode cL_isFaulty 22 = .ok (.iconst 0, 1) := by decide +kernel
theorem dL_isFaulty_23 : decode cL_isFaulty 23 = .ok (.ireturn, 1) := by decide +kernel
theorem dL_strengthOf_0 : decode cL_strengthOf 0 = .ok (.aload_n 2, 1) := by decide +kernel
theorem dL_strengthOf_1 : decode cL_strengthOf 1 = .ok (.iconst 0, 1) := by decide +kernel
theorem dL_strengthOf_2 : decode cL_strengthOf 2 = .ok (.aload_n 0, 1) := by decide +kernel
theorem dL_strengthOf_3 : decode cL_strengthOf 3 = .ok (.iload_n 1, 1) := by decide +kernel
theorem dL_strengthOf_4 : decode cL_strengthOf 4 = .ok (.invokevirtual 29, 3) := by decide +kernel
theorem dL_strengthOf_7 : decode cL_strengthOf 7 = .ok (.i2l, 1) := by decide +kernel
theorem dL_strengthOf_8 : decode cL_strengthOf 8 = .ok (.lastore, 1) := by decide +kernel
theorem dL_strengthOf_9 : decode cL_strengthOf 9 = .ok (.goto 6, 3) := by decide +kernel
theorem dL_strengthOf_12 : decode cL_strengthOf 12 = .ok (.astore_n 3, 1) := by decide +kernel
theorem dL_strengthOf_13 : decode cL_strengthOf 13 = .ok (.iconst 1, 1) := by decide +kernel
theorem dL_strengthOf_14 : decode cL_strengthOf 14 = .ok (.ireturn, 1) := by decide +kernel
theorem dL_strengthOf_15 : decode cL_strengthOf 15 = .ok (.iconst 0, 1) := by decide +kernel
theorem dL_strengthOf_16 : decode cL_strengthOf 16 = .ok (.ireturn, 1) := by decide +kernel
theorem dL_batchContains_0 : decode cL_batchContains 0 = .ok (.aload_n 3, 1) := by decide +kernel
theorem dL_batchContains_1 : decode cL_batchContains 1 = .ok (.iconst 0, 1) := by decide +kernel
theorem dL_batchContains_2 : decode cL_batchContains 2 = .ok (.aload_n 0, 1) := by decide +kernel
theorem dL_batchContains_3 : decode cL_batchContains 3 = .ok (.iload_n 1, 1) := by decide +kernel
theorem dL_batchContains_4 : decode cL_batchContains 4 = .ok (.iload_n 2, 1) := by decide +kernel
theorem dL_batchContains_5 : decode cL_batchContains 5 = .ok (.invokevirtual 33, 3) := by decide +kernel
theorem dL_batchContains_8 : decode cL_batchContains 8 = .ok (.ifCond .eq 7, 3) := by decide +kernel
theorem dL_batchContains_11 : decode cL_batchContains 11 = .ok (.lconst 1, 1) := by decide +kernel
theorem dL_batchContains_12 : decode cL_batchContains 12 = .ok (.goto 4, 3) := by decide +kernel
theorem dL_batchContains_15 : decode cL_batchContains 15 = .ok (.lconst 0, 1) := by decide +kernel
theorem dL_batchContains_16 : decode cL_batchContains 16 = .ok (.lastore, 1) := by decide +kernel
theorem dL_batchContains_17 : decode cL_batchContains 17 = .ok (.goto 7, 3) := by decide +kernel
theorem dL_batchContains_20 : decode cL_batchContains 20 = .ok (.astore 4, 2) := by decide +kernel
theorem dL_batchContains_22 : decode cL_batchContains 22 = .ok (.iconst 1, 1) := by decide +kernel
theorem dL_batchContains_23 : decode cL_batchContains 23 = .ok (.ireturn, 1) := by decide +kernel
theorem dL_batchContains_24 : decode cL_batchContains 24 = .ok (.iconst 0, 1) := by decide +kernel
theorem dL_batchContains_25 : decode cL_batchContains 25 = .ok (.ireturn, 1) := by decide +kernel
theorem dL_addLabel_0 : decode cL_addLabel 0 = .ok (.aload_n 1, 1) := by decide +kernel
theorem dL_addLabel_1 : decode cL_addLabel 1 = .ok (.iconst 0, 1) := by decide +kernel
theorem dL_addLabel_2 : decode cL_addLabel 2 = .ok (.aload_n 0, 1) := by decide +kernel
theorem dL_addLabel_3 : decode cL_addLabel 3 = .ok (.invokevirtual 37, 3) := by decide +kernel
theorem dL_addLabel_6 : decode cL_addLabel 6 = .ok (.i2l, 1) := by decide +kernel
theorem dL_addLabel_7 : decode cL_addLabel 7 = .ok (.lastore, 1) := by decide +kernel
theorem dL_addLabel_8 : decode cL_addLabel 8 = .ok (.goto 9, 3) := by decide +kernel
theorem dL_addLabel_11 : decode cL_addLabel 11 = .ok (.astore_n 2, 1) := by decide +kernel
theorem dL_addLabel_12 : decode cL_addLabel 12 = .ok (.iconst 1, 1) := by decide +kernel
theorem dL_addLabel_13 : decode cL_addLabel 13 = .ok (.ireturn, 1) := by decide +kernel
theorem dL_addLabel_14 : decode cL_addLabel 14 = .ok (.astore_n 2, 1) := by decide +kernel
theorem dL_addLabel_15 : decode cL_addLabel 15 = .ok (.iconst 2, 1) := by decide +kernel
theorem dL_addLabel_16 : decode cL_addLabel 16 = .ok (.ireturn, 1) := by decide +kernel
theorem dL_addLabel_17 : decode cL_addLabel 17 = .ok (.iconst 0, 1) := by decide +kernel
theorem dL_addLabel_18 : decode cL_addLabel 18 = .ok (.ireturn, 1) := by decide +kernel
theorem dL_labelLength_0 : decode cL_labelLength 0 = .ok (.aload_n 2, 1) := by decide +kernel
theorem dL_labelLength_1 : decode cL_labelLength 1 = .ok (.iconst 0, 1) := by decide +kernel
theorem dL_labelLength_2 : decode cL_labelLength 2 = .ok (.aload_n 0, 1) := by decide +kernel
theorem dL_labelLength_3 : decode cL_labelLength 3 = .ok (.iload_n 1, 1) := by decide +kernel
theorem dL_labelLength_4 : decode cL_labelLength 4 = .ok (.invokevirtual 40, 3) := by decide +kernel
theorem dL_labelLength_7 : decode cL_labelLength 7 = .ok (.i2l, 1) := by decide +kernel
theorem dL_labelLength_8 : decode cL_labelLength 8 = .ok (.lastore, 1) := by decide +kernel
theorem dL_labelLength_9 : decode cL_labelLength 9 = .ok (.goto 6, 3) := by decide +kernel
theorem dL_labelLength_12 : decode cL_labelLength 12 = .ok (.astore_n 3, 1) := by decide +kernel
theorem dL_labelLength_13 : decode cL_labelLength 13 = .ok (.iconst 1, 1) := by decide +kernel
theorem dL_labelLength_14 : decode cL_labelLength 14 = .ok (.ireturn, 1) := by decide +kernel
theorem dL_labelLength_15 : decode cL_labelLength 15 = .ok (.iconst 0, 1) := by decide +kernel
theorem dL_labelLength_16 : decode cL_labelLength 16 = .ok (.ireturn, 1) := by decide +kernel
theorem dL_labelLetter_0 : decode cL_labelLetter 0 = .ok (.aload_n 3, 1) := by decide +kernel
theorem dL_labelLetter_1 : decode cL_labelLetter 1 = .ok (.iconst 0, 1) := by decide +kernel
theorem dL_labelLetter_2 : decode cL_labelLetter 2 = .ok (.aload_n 0, 1) := by decide +kernel
theorem dL_labelLetter_3 : decode cL_labelLetter 3 = .ok (.iload_n 1, 1) := by decide +kernel
theorem dL_labelLetter_4 : decode cL_labelLetter 4 = .ok (.iload_n 2, 1) := by decide +kernel
theorem dL_labelLetter_5 : decode cL_labelLetter 5 = .ok (.invokevirtual 43, 3) := by decide +kernel
theorem dL_labelLetter_8 : decode cL_labelLetter 8 = .ok (.i2l, 1) := by decide +kernel
theorem dL_labelLetter_9 : decode cL_labelLetter 9 = .ok (.lastore, 1) := by decide +kernel
theorem dL_labelLetter_10 : decode cL_labelLetter 10 = .ok (.goto 7, 3) := by decide +kernel
theorem dL_labelLetter_13 : decode cL_labelLetter 13 = .ok (.astore 4, 2) := by decide +kernel
theorem dL_labelLetter_15 : decode cL_labelLetter 15 = .ok (.iconst 1, 1) := by decide +kernel
theorem dL_labelLetter_16 : decode cL_labelLetter 16 = .ok (.ireturn, 1) := by decide +kernel
theorem dL_labelLetter_17 : decode cL_labelLetter 17 = .ok (.iconst 0, 1) := by decide +kernel
theorem dL_labelLetter_18 : decode cL_labelLetter 18 = .ok (.ireturn, 1) := by decide +kernel
theorem dL_scan_0 : decode cL_scan 0 = .ok (.aload_n 1, 1) := by decide +kernel
theorem dL_scan_1 : decode cL_scan 1 = .ok (.iconst 0, 1) := by decide +kernel
theorem dL_scan_2 : decode cL_scan 2 = .ok (.aload_n 0, 1) := by decide +kernel
theorem dL_scan_3 : decode cL_scan 3 = .ok (.invokevirtual 47, 3) := by decide +kernel
theorem dL_scan_6 : decode cL_scan 6 = .ok (.i2l, 1) := by decide +kernel
theorem dL_scan_7 : decode cL_scan 7 = .ok (.lastore, 1) := by decide +kernel
theorem dL_scan_8 : decode cL_scan 8 = .ok (.goto 9, 3) := by decide +kernel
theorem dL_scan_11 : decode cL_scan 11 = .ok (.astore_n 2, 1) := by decide +kernel
theorem dL_scan_12 : decode cL_scan 12 = .ok (.iconst 1, 1) := by decide +kernel
theorem dL_scan_13 : decode cL_scan 13 = .ok (.ireturn, 1) := by decide +kernel
theorem dL_scan_14 : decode cL_scan 14 = .ok (.astore_n 2, 1) := by decide +kernel
theorem dL_scan_15 : decode cL_scan 15 = .ok (.iconst 2, 1) := by decide +kernel
theorem dL_scan_16 : decode cL_scan 16 = .ok (.ireturn, 1) := by decide +kernel
theorem dL_scan_17 : decode cL_scan 17 = .ok (.iconst 0, 1) := by decide +kernel
theorem dL_scan_18 : decode cL_scan 18 = .ok (.ireturn, 1) := by decide +kernel
theorem dL_distanceTo_0 : decode cL_distanceTo 0 = .ok (.aload_n 2, 1) := by decide +kernel
theorem dL_distanceTo_1 : decode cL_distanceTo 1 = .ok (.iconst 0, 1) := by decide +kernel
theorem dL_distanceTo_2 : decode cL_distanceTo 2 = .ok (.aload_n 0, 1) := by decide +kernel
theorem dL_distanceTo_3 : decode cL_distanceTo 3 = .ok (.iload_n 1, 1) := by decide +kernel
theorem dL_distanceTo_4 : decode cL_distanceTo 4 = .ok (.invokevirtual 52, 3) := by decide +kernel
theorem dL_distanceTo_7 : decode cL_distanceTo 7 = .ok (.i2l, 1) := by decide +kernel
theorem dL_distanceTo_8 : decode cL_distanceTo 8 = .ok (.lastore, 1) := by decide +kernel
theorem dL_distanceTo_9 : decode cL_distanceTo 9 = .ok (.goto 9, 3) := by decide +kernel
theorem dL_distanceTo_12 : decode cL_distanceTo 12 = .ok (.astore_n 3, 1) := by decide +kernel
theorem dL_distanceTo_13 : decode cL_distanceTo 13 = .ok (.iconst 1, 1) := by decide +kernel
theorem dL_distanceTo_14 : decode cL_distanceTo 14 = .ok (.ireturn, 1) := by decide +kernel
theorem dL_distanceTo_15 : decode cL_distanceTo 15 = .ok (.astore_n 3, 1) := by decide +kernel
theorem dL_distanceTo_16 : decode cL_distanceTo 16 = .ok (.iconst 2, 1) := by decide +kernel
theorem dL_distanceTo_17 : decode cL_distanceTo 17 = .ok (.ireturn, 1) := by decide +kernel
theorem dL_distanceTo_18 : decode cL_distanceTo 18 = .ok (.iconst 0, 1) := by decide +kernel
theorem dL_distanceTo_19 : decode cL_distanceTo 19 = .ok (.ireturn, 1) := by decide +kernel
theorem dL_distanceByLetters_0 : decode cL_distanceByLetters 0 = .ok (.aload_n 2, 1) := by decide +kernel
theorem dL_distanceByLetters_1 : decode cL_distanceByLetters 1 = .ok (.iconst 0, 1) := by decide +kernel
theorem dL_distanceByLetters_2 : decode cL_distanceByLetters 2 = .ok (.aload_n 0, 1) := by decide +kernel
theorem dL_distanceByLetters_3 : decode cL_distanceByLetters 3 = .ok (.iload_n 1, 1) := by decide +kernel
theorem dL_distanceByLetters_4 : decode cL_distanceByLetters 4 = .ok (.invokevirtual 55, 3) := by decide +kernel
theorem dL_distanceByLetters_7 : decode cL_distanceByLetters 7 = .ok (.i2l, 1) := by decide +kernel
theorem dL_distanceByLetters_8 : decode cL_distanceByLetters 8 = .ok (.lastore, 1) := by decide +kernel
theorem dL_distanceByLetters_9 : decode cL_distanceByLetters 9 = .ok (.goto 9, 3) := by decide +kernel
theorem dL_distanceByLetters_12 : decode cL_distanceByLetters 12 = .ok (.astore_n 3, 1) := by decide +kernel
theorem dL_distanceByLetters_13 : decode cL_distanceByLetters 13 = .ok (.iconst 1, 1) := by decide +kernel
theorem dL_distanceByLetters_14 : decode cL_distanceByLetters 14 = .ok (.ireturn, 1) := by decide +kernel
theorem dL_distanceByLetters_15 : decode cL_distanceByLetters 15 = .ok (.astore_n 3, 1) := by decide +kernel
theorem dL_distanceByLetters_16 : decode cL_distanceByLetters 16 = .ok (.iconst 2, 1) := by decide +kernel
theorem dL_distanceByLetters_17 : decode cL_distanceByLetters 17 = .ok (.ireturn, 1) := by decide +kernel
theorem dL_distanceByLetters_18 : decode cL_distanceByLetters 18 = .ok (.iconst 0, 1) := by decide +kernel
theorem dL_distanceByLetters_19 : decode cL_distanceByLetters 19 = .ok (.ireturn, 1) := by decide +kernel
theorem dL_fill_0 : decode cL_fill 0 = .ok (.aload 5, 2) := by decide +kernel
theorem dL_fill_2 : decode cL_fill 2 = .ok (.iconst 0, 1) := by decide +kernel
theorem dL_fill_3 : decode cL_fill 3 = .ok (.aload_n 0, 1) := by decide +kernel
theorem dL_fill_4 : decode cL_fill 4 = .ok (.iload_n 1, 1) := by decide +kernel
theorem dL_fill_5 : decode cL_fill 5 = .ok (.iload_n 2, 1) := by decide +kernel
theorem dL_fill_6 : decode cL_fill 6 = .ok (.iload_n 3, 1) := by decide +kernel
theorem dL_fill_7 : decode cL_fill 7 = .ok (.iload 4, 2) := by decide +kernel
theorem dL_fill_9 : decode cL_fill 9 = .ok (.invokevirtual 58, 3) := by decide +kernel
theorem dL_fill_12 : decode cL_fill 12 = .ok (.i2l, 1) := by decide +kernel
theorem dL_fill_13 : decode cL_fill 13 = .ok (.lastore, 1) := by decide +kernel
theorem dL_fill_14 : decode cL_fill 14 = .ok (.goto 19, 3) := by decide +kernel
theorem dL_fill_17 : decode cL_fill 17 = .ok (.astore 6, 2) := by decide +kernel
theorem dL_fill_19 : decode cL_fill 19 = .ok (.iconst 1, 1) := by decide +kernel
theorem dL_fill_20 : decode cL_fill 20 = .ok (.ireturn, 1) := by decide +kernel
theorem dL_fill_21 : decode cL_fill 21 = .ok (.astore 6, 2) := by decide +kernel
theorem dL_fill_23 : decode cL_fill 23 = .ok (.iconst 2, 1) := by decide +kernel
theorem dL_fill_24 : decode cL_fill 24 = .ok (.ireturn, 1) := by decide +kernel
theorem dL_fill_25 : decode cL_fill 25 = .ok (.astore 6, 2) := by decide +kernel
theorem dL_fill_27 : decode cL_fill 27 = .ok (.iconst 3, 1) := by decide +kernel
theorem dL_fill_28 : decode cL_fill 28 = .ok (.ireturn, 1) := by decide +kernel
theorem dL_fill_29 : decode cL_fill 29 = .ok (.astore 6, 2) := by decide +kernel
theorem dL_fill_31 : decode cL_fill 31 = .ok (.iconst 4, 1) := by decide +kernel
theorem dL_fill_32 : decode cL_fill 32 = .ok (.ireturn, 1) := by decide +kernel
theorem dL_fill_33 : decode cL_fill 33 = .ok (.iconst 0, 1) := by decide +kernel
theorem dL_fill_34 : decode cL_fill 34 = .ok (.ireturn, 1) := by decide +kernel
theorem dL_ship_0 : decode cL_ship 0 = .ok (.aload_n 2, 1) := by decide +kernel
theorem dL_ship_1 : decode cL_ship 1 = .ok (.iconst 0, 1) := by decide +kernel
theorem dL_ship_2 : decode cL_ship 2 = .ok (.aload_n 0, 1) := by decide +kernel
theorem dL_ship_3 : decode cL_ship 3 = .ok (.iload_n 1, 1) := by decide +kernel
theorem dL_ship_4 : decode cL_ship 4 = .ok (.invokevirtual 62, 3) := by decide +kernel
theorem dL_ship_7 : decode cL_ship 7 = .ok (.i2l, 1) := by decide +kernel
theorem dL_ship_8 : decode cL_ship 8 = .ok (.lastore, 1) := by decide +kernel
theorem dL_ship_9 : decode cL_ship 9 = .ok (.goto 6, 3) := by decide +kernel
theorem dL_ship_12 : decode cL_ship 12 = .ok (.astore_n 3, 1) := by decide +kernel
theorem dL_ship_13 : decode cL_ship 13 = .ok (.iconst 1, 1) := by decide +kernel
theorem dL_ship_14 : decode cL_ship 14 = .ok (.ireturn, 1) := by decide +kernel
theorem dL_ship_15 : decode cL_ship 15 = .ok (.iconst 0, 1) := by decide +kernel
theorem dL_ship_16 : decode cL_ship 16 = .ok (.ireturn, 1) := by decide +kernel
theorem dL_pass_0 : decode cL_pass 0 = .ok (.aload_n 2, 1) := by decide +kernel
theorem dL_pass_1 : decode cL_pass 1 = .ok (.iconst 0, 1) := by decide +kernel
theorem dL_pass_2 : decode cL_pass 2 = .ok (.aload_n 0, 1) := by decide +kernel
theorem dL_pass_3 : decode cL_pass 3 = .ok (.iload_n 1, 1) := by decide +kernel
theorem dL_pass_4 : decode cL_pass 4 = .ok (.invokevirtual 65, 3) := by decide +kernel
theorem dL_pass_7 : decode cL_pass 7 = .ok (.i2l, 1) := by decide +kernel
theorem dL_pass_8 : decode cL_pass 8 = .ok (.lastore, 1) := by decide +kernel
theorem dL_pass_9 : decode cL_pass 9 = .ok (.goto 6, 3) := by decide +kernel
theorem dL_pass_12 : decode cL_pass 12 = .ok (.astore_n 3, 1) := by decide +kernel
theorem dL_pass_13 : decode cL_pass 13 = .ok (.iconst 1, 1) := by decide +kernel
theorem dL_pass_14 : decode cL_pass 14 = .ok (.ireturn, 1) := by decide +kernel
theorem dL_pass_15 : decode cL_pass 15 = .ok (.iconst 0, 1) := by decide +kernel
theorem dL_pass_16 : decode cL_pass 16 = .ok (.ireturn, 1) := by decide +kernel
theorem dL_recall_0 : decode cL_recall 0 = .ok (.aload_n 2, 1) := by decide +kernel
theorem dL_recall_1 : decode cL_recall 1 = .ok (.iconst 0, 1) := by decide +kernel
theorem dL_recall_2 : decode cL_recall 2 = .ok (.aload_n 0, 1) := by decide +kernel
theorem dL_recall_3 : decode cL_recall 3 = .ok (.iload_n 1, 1) := by decide +kernel
theorem dL_recall_4 : decode cL_recall 4 = .ok (.invokevirtual 68, 3) := by decide +kernel
theorem dL_recall_7 : decode cL_recall 7 = .ok (.i2l, 1) := by decide +kernel
theorem dL_recall_8 : decode cL_recall 8 = .ok (.lastore, 1) := by decide +kernel
theorem dL_recall_9 : decode cL_recall 9 = .ok (.goto 9, 3) := by decide +kernel
theorem dL_recall_12 : decode cL_recall 12 = .ok (.astore_n 3, 1) := by decide +kernel
theorem dL_recall_13 : decode cL_recall 13 = .ok (.iconst 1, 1) := by decide +kernel
theorem dL_recall_14 : decode cL_recall 14 = .ok (.ireturn, 1) := by decide +kernel
theorem dL_recall_15 : decode cL_recall 15 = .ok (.astore_n 3, 1) := by decide +kernel
theorem dL_recall_16 : decode cL_recall 16 = .ok (.iconst 2, 1) := by decide +kernel
theorem dL_recall_17 : decode cL_recall 17 = .ok (.ireturn, 1) := by decide +kernel
theorem dL_recall_18 : decode cL_recall 18 = .ok (.iconst 0, 1) := by decide +kernel
theorem dL_recall_19 : decode cL_recall 19 = .ok (.ireturn, 1) := by decide +kernel
theorem dL_lotAt_0 : decode cL_lotAt 0 = .ok (.aload_n 2, 1) := by decide +kernel
theorem dL_lotAt_1 : decode cL_lotAt 1 = .ok (.iconst 0, 1) := by decide +kernel
theorem dL_lotAt_2 : decode cL_lotAt 2 = .ok (.aload_n 0, 1) := by decide +kernel
theorem dL_lotAt_3 : decode cL_lotAt 3 = .ok (.iload_n 1, 1) := by decide +kernel
theorem dL_lotAt_4 : decode cL_lotAt 4 = .ok (.invokevirtual 71, 3) := by decide +kernel
theorem dL_lotAt_7 : decode cL_lotAt 7 = .ok (.i2l, 1) := by decide +kernel
theorem dL_lotAt_8 : decode cL_lotAt 8 = .ok (.lastore, 1) := by decide +kernel
theorem dL_lotAt_9 : decode cL_lotAt 9 = .ok (.goto 6, 3) := by decide +kernel
theorem dL_lotAt_12 : decode cL_lotAt 12 = .ok (.astore_n 3, 1) := by decide +kernel
theorem dL_lotAt_13 : decode cL_lotAt 13 = .ok (.iconst 1, 1) := by decide +kernel
theorem dL_lotAt_14 : decode cL_lotAt 14 = .ok (.ireturn, 1) := by decide +kernel
theorem dL_lotAt_15 : decode cL_lotAt 15 = .ok (.iconst 0, 1) := by decide +kernel
theorem dL_lotAt_16 : decode cL_lotAt 16 = .ok (.ireturn, 1) := by decide +kernel
theorem dL_jarsOf_0 : decode cL_jarsOf 0 = .ok (.aload_n 2, 1) := by decide +kernel
theorem dL_jarsOf_1 : decode cL_jarsOf 1 = .ok (.iconst 0, 1) := by decide +kernel
theorem dL_jarsOf_2 : decode cL_jarsOf 2 = .ok (.aload_n 0, 1) := by decide +kernel
theorem dL_jarsOf_3 : decode cL_jarsOf 3 = .ok (.iload_n 1, 1) := by decide +kernel
theorem dL_jarsOf_4 : decode cL_jarsOf 4 = .ok (.invokevirtual 74, 3) := by decide +kernel
theorem dL_jarsOf_7 : decode cL_jarsOf 7 = .ok (.i2l, 1) := by decide +kernel
theorem dL_jarsOf_8 : decode cL_jarsOf 8 = .ok (.lastore, 1) := by decide +kernel
theorem dL_jarsOf_9 : decode cL_jarsOf 9 = .ok (.goto 6, 3) := by decide +kernel
