theorem dX5_copyFrom_75 : decode cX5_copyFrom 75 = .ok (.aload_n 1, 1) := by decide +kernel
theorem dX5_copyFrom_76 : decode cX5_copyFrom 76 = .ok (.getfield 39, 3) := by decide +kernel
theorem dX5_copyFrom_79 : decode cX5_copyFrom 79 = .ok (.putfield 39, 3) := by decide +kernel
theorem dX5_copyFrom_82 : decode cX5_copyFrom 82 = .ok (.return_, 1) := by decide +kernel
theorem dX6_init_0 : decode cX6_init 0 = .ok (.aload_n 0, 1) := by decide +kernel
theorem dX6_init_1 : decode cX6_init 1 = .ok (.invokespecial 3, 3) := by decide +kernel
theorem dX6_init_4 : decode cX6_init 4 = .ok (.aload_n 0, 1) := by decide +kernel
theorem dX6_init_5 : decode cX6_init 5 = .ok (.new 9, 3) := by decide +kernel
theorem dX6_init_8 : decode cX6_init 8 = .ok (.dup, 1) := by decide +kernel
theorem dX6_init_9 : decode cX6_init 9 = .ok (.bipush 8, 2) := by decide +kernel
theorem dX6_init_11 : decode cX6_init 11 = .ok (.invokespecial 11, 3) := by decide +kernel
theorem dX6_init_14 : decode cX6_init 14 = .ok (.putfield 14, 3) := by decide +kernel
theorem dX6_init_17 : decode cX6_init 17 = .ok (.aload_n 0, 1) := by decide +kernel
theorem dX6_init_18 : decode cX6_init 18 = .ok (.new 9, 3) := by decide +kernel
theorem dX6_init_21 : decode cX6_init 21 = .ok (.dup, 1) := by decide +kernel
theorem dX6_init_22 : decode cX6_init 22 = .ok (.bipush 48, 2) := by decide +kernel
theorem dX6_init_24 : decode cX6_init 24 = .ok (.invokespecial 11, 3) := by decide +kernel
theorem dX6_init_27 : decode cX6_init 27 = .ok (.putfield 20, 3) := by decide +kernel
theorem dX6_init_30 : decode cX6_init 30 = .ok (.aload_n 0, 1) := by decide +kernel
theorem dX6_init_31 : decode cX6_init 31 = .ok (.iconst 0, 1) := by decide +kernel
theorem dX6_init_32 : decode cX6_init 32 = .ok (.putfield 23, 3) := by decide +kernel
theorem dX6_init_35 : decode cX6_init 35 = .ok (.return_, 1) := by decide +kernel
theorem dX6_has_0 : decode cX6_has 0 = .ok (.iload_n 1, 1) := by decide +kernel
theorem dX6_has_1 : decode cX6_has 1 = .ok (.ifCond .lt 15, 3) := by decide +kernel
theorem dX6_has_4 : decode cX6_has 4 = .ok (.iload_n 1, 1) := by decide +kernel
theorem dX6_has_5 : decode cX6_has 5 = .ok (.aload_n 0, 1) := by decide +kernel
theorem dX6_has_6 : decode cX6_has 6 = .ok (.getfield 23, 3) := by decide +kernel
theorem dX6_has_9 : decode cX6_has 9 = .ok (.if_icmp .ge 7, 3) := by decide +kernel
theorem dX6_has_12 : decode cX6_has 12 = .ok (.iconst 1, 1) := by decide +kernel
theorem dX6_has_13 : decode cX6_has 13 = .ok (.goto 4, 3) := by decide +kernel
theorem dX6_has_16 : decode cX6_has 16 = .ok (.iconst 0, 1) := by decide +kernel
theorem dX6_has_17 : decode cX6_has 17 = .ok (.ireturn, 1) := by decide +kernel
theorem dX6_letter_0 : decode cX6_letter 0 = .ok (.aload_n 0, 1) := by decide +kernel
theorem dX6_letter_1 : decode cX6_letter 1 = .ok (.getfield 20, 3) := by decide +kernel
theorem dX6_letter_4 : decode cX6_letter 4 = .ok (.iload_n 1, 1) := by decide +kernel
theorem dX6_letter_5 : decode cX6_letter 5 = .ok (.bipush 6, 2) := by decide +kernel
theorem dX6_letter_7 : decode cX6_letter 7 = .ok (.imul, 1) := by decide +kernel
theorem dX6_letter_8 : decode cX6_letter 8 = .ok (.iload_n 2, 1) := by decide +kernel
theorem dX6_letter_9 : decode cX6_letter 9 = .ok (.iadd, 1) := by decide +kernel
theorem dX6_letter_10 : decode cX6_letter 10 = .ok (.invokevirtual 27, 3) := by decide +kernel
theorem dX6_letter_13 : decode cX6_letter 13 = .ok (.i2c, 1) := by decide +kernel
theorem dX6_letter_14 : decode cX6_letter 14 = .ok (.ireturn, 1) := by decide +kernel
theorem dX6_holds_0 : decode cX6_holds 0 = .ok (.iconst 0, 1) := by decide +kernel
theorem dX6_holds_1 : decode cX6_holds 1 = .ok (.istore_n 2, 1) := by decide +kernel
theorem dX6_holds_2 : decode cX6_holds 2 = .ok (.iload_n 2, 1) := by decide +kernel
theorem dX6_holds_3 : decode cX6_holds 3 = .ok (.aload_n 0, 1) := by decide +kernel
theorem dX6_holds_4 : decode cX6_holds 4 = .ok (.getfield 23, 3) := by decide +kernel
theorem dX6_holds_7 : decode cX6_holds 7 = .ok (.if_icmp .ge 20, 3) := by decide +kernel
theorem dX6_holds_10 : decode cX6_holds 10 = .ok (.aload_n 0, 1) := by decide +kernel
theorem dX6_holds_11 : decode cX6_holds 11 = .ok (.iload_n 2, 1) := by decide +kernel
theorem dX6_holds_12 : decode cX6_holds 12 = .ok (.aload_n 1, 1) := by decide +kernel
theorem dX6_holds_13 : decode cX6_holds 13 = .ok (.invokevirtual 31, 3) := by decide +kernel
theorem dX6_holds_16 : decode cX6_holds 16 = .ok (.ifCond .eq 5, 3) := by decide +kernel
theorem dX6_holds_19 : decode cX6_holds 19 = .ok (.iconst 1, 1) := by decide +kernel
theorem dX6_holds_20 : decode cX6_holds 20 = .ok (.ireturn, 1) := by decide +kernel
theorem dX6_holds_21 : decode cX6_holds 21 = .ok (.iinc 2 1, 3) := by decide +kernel
theorem dX6_holds_24 : decode cX6_holds 24 = .ok (.goto (-22), 3) := by decide +kernel
theorem dX6_holds_27 : decode cX6_holds 27 = .ok (.iconst 0, 1) := by decide +kernel
theorem dX6_holds_28 : decode cX6_holds 28 = .ok (.ireturn, 1) := by decide +kernel
theorem dX6_isSame_0 : decode cX6_isSame 0 = .ok (.iconst 0, 1) := by decide +kernel
theorem dX6_isSame_1 : decode cX6_isSame 1 = .ok (.istore_n 3, 1) := by decide +kernel
theorem dX6_isSame_2 : decode cX6_isSame 2 = .ok (.iload_n 3, 1) := by decide +kernel
theorem dX6_isSame_3 : decode cX6_isSame 3 = .ok (.aload_n 0, 1) := by decide +kernel
theorem dX6_isSame_4 : decode cX6_isSame 4 = .ok (.getfield 14, 3) := by decide +kernel
theorem dX6_isSame_7 : decode cX6_isSame 7 = .ok (.iload_n 1, 1) := by decide +kernel
theorem dX6_isSame_8 : decode cX6_isSame 8 = .ok (.invokevirtual 27, 3) := by decide +kernel
theorem dX6_isSame_11 : decode cX6_isSame 11 = .ok (.if_icmp .ge 25, 3) := by decide +kernel
theorem dX6_isSame_14 : decode cX6_isSame 14 = .ok (.aload_n 0, 1) := by decide +kernel
theorem dX6_isSame_15 : decode cX6_isSame 15 = .ok (.iload_n 1, 1) := by decide +kernel
theorem dX6_isSame_16 : decode cX6_isSame 16 = .ok (.iload_n 3, 1) := by decide +kernel
theorem dX6_isSame_17 : decode cX6_isSame 17 = .ok (.invokevirtual 35, 3) := by decide +kernel
theorem dX6_isSame_20 : decode cX6_isSame 20 = .ok (.aload_n 2, 1) := by decide +kernel
theorem dX6_isSame_21 : decode cX6_isSame 21 = .ok (.iload_n 3, 1) := by decide +kernel
theorem dX6_isSame_22 : decode cX6_isSame 22 = .ok (.invokevirtual 39, 3) := by decide +kernel
theorem dX6_isSame_25 : decode cX6_isSame 25 = .ok (.if_icmp .eq 5, 3) := by decide +kernel
theorem dX6_isSame_28 : decode cX6_isSame 28 = .ok (.iconst 0, 1) := by decide +kernel
theorem dX6_isSame_29 : decode cX6_isSame 29 = .ok (.ireturn, 1) := by decide +kernel
theorem dX6_isSame_30 : decode cX6_isSame 30 = .ok (.iinc 3 1, 3) := by decide +kernel
theorem dX6_isSame_33 : decode cX6_isSame 33 = .ok (.goto (-31), 3) := by decide +kernel
theorem dX6_isSame_36 : decode cX6_isSame 36 = .ok (.aload_n 0, 1) := by decide +kernel
theorem dX6_isSame_37 : decode cX6_isSame 37 = .ok (.getfield 14, 3) := by decide +kernel
theorem dX6_isSame_40 : decode cX6_isSame 40 = .ok (.iload_n 1, 1) := by decide +kernel
theorem dX6_isSame_41 : decode cX6_isSame 41 = .ok (.invokevirtual 27, 3) := by decide +kernel
theorem dX6_isSame_44 : decode cX6_isSame 44 = .ok (.aload_n 2, 1) := by decide +kernel
theorem dX6_isSame_45 : decode cX6_isSame 45 = .ok (.getfield 45, 3) := by decide +kernel
theorem dX6_isSame_48 : decode cX6_isSame 48 = .ok (.if_icmp .ne 7, 3) := by decide +kernel
theorem dX6_isSame_51 : decode cX6_isSame 51 = .ok (.iconst 1, 1) := by decide +kernel
theorem dX6_isSame_52 : decode cX6_isSame 52 = .ok (.goto 4, 3) := by decide +kernel
theorem dX6_isSame_55 : decode cX6_isSame 55 = .ok (.iconst 0, 1) := by decide +kernel
theorem dX6_isSame_56 : decode cX6_isSame 56 = .ok (.ireturn, 1) := by decide +kernel
theorem dX6_addFrom_0 : decode cX6_addFrom 0 = .ok (.aload_n 0, 1) := by decide +kernel
theorem dX6_addFrom_1 : decode cX6_addFrom 1 = .ok (.getfield 14, 3) := by decide +kernel
theorem dX6_addFrom_4 : decode cX6_addFrom 4 = .ok (.aload_n 0, 1) := by decide +kernel
theorem dX6_addFrom_5 : decode cX6_addFrom 5 = .ok (.getfield 23, 3) := by decide +kernel
theorem dX6_addFrom_8 : decode cX6_addFrom 8 = .ok (.aload_n 1, 1) := by decide +kernel
theorem dX6_addFrom_9 : decode cX6_addFrom 9 = .ok (.getfield 45, 3) := by decide +kernel
theorem dX6_addFrom_12 : decode cX6_addFrom 12 = .ok (.invokevirtual 48, 3) := by decide +kernel
theorem dX6_addFrom_15 : decode cX6_addFrom 15 = .ok (.iconst 0, 1) := by decide +kernel
theorem dX6_addFrom_16 : decode cX6_addFrom 16 = .ok (.istore_n 2, 1) := by decide +kernel
theorem dX6_addFrom_17 : decode cX6_addFrom 17 = .ok (.iload_n 2, 1) := by decide +kernel
theorem dX6_addFrom_18 : decode cX6_addFrom 18 = .ok (.bipush 6, 2) := by decide +kernel
theorem dX6_addFrom_20 : decode cX6_addFrom 20 = .ok (.if_icmp .ge 30, 3) := by decide +kernel
theorem dX6_addFrom_23 : decode cX6_addFrom 23 = .ok (.aload_n 0, 1) := by decide +kernel
theorem dX6_addFrom_24 : decode cX6_addFrom 24 = .ok (.getfield 20, 3) := by decide +kernel
theorem dX6_addFrom_27 : decode cX6_addFrom 27 = .ok (.aload_n 0, 1) := by decide +kernel
theorem dX6_addFrom_28 : decode cX6_addFrom 28 = .ok (.getfield 23, 3) := by decide +kernel
theorem dX6_addFrom_31 : decode cX6_addFrom 31 = .ok (.bipush 6, 2) := by decide +kernel
theorem dX6_addFrom_33 : decode cX6_addFrom 33 = .ok (.imul, 1) := by decide +kernel
theorem dX6_addFrom_34 : decode cX6_addFrom 34 = .ok (.iload_n 2, 1) := by decide +kernel
theorem dX6_addFrom_35 : decode cX6_addFrom 35 = .ok (.iadd, 1) := by decide +kernel
theorem dX6_addFrom_36 : decode cX6_addFrom 36 = .ok (.aload_n 1, 1) := by decide +kernel
theorem dX6_addFrom_37 : decode cX6_addFrom 37 = .ok (.iload_n 2, 1) := by decide +kernel
theorem dX6_addFrom_38 : decode cX6_addFrom 38 = .ok (.invokevirtual 39, 3) := by decide +kernel
theorem dX6_addFrom_41 : decode cX6_addFrom 41 = .ok (.invokevirtual 48, 3) := by decide +kernel
theorem dX6_addFrom_44 : decode cX6_addFrom 44 = .ok (.iinc 2 1, 3) := by decide +kernel
theorem dX6_addFrom_47 : decode cX6_addFrom 47 = .ok (.goto (-30), 3) := by decide +kernel
theorem dX6_addFrom_50 : decode cX6_addFrom 50 = .ok (.aload_n 0, 1) := by decide +kernel
theorem dX6_addFrom_51 : decode cX6_addFrom 51 = .ok (.dup, 1) := by decide +kernel
theorem dX6_addFrom_52 : decode cX6_addFrom 52 = .ok (.getfield 23, 3) := by decide +kernel
theorem dX6_addFrom_55 : decode cX6_addFrom 55 = .ok (.iconst 1, 1) := by decide +kernel
theorem dX6_addFrom_56 : decode cX6_addFrom 56 = .ok (.iadd, 1) := by decide +kernel
theorem dX6_addFrom_57 : decode cX6_addFrom 57 = .ok (.putfield 23, 3) := by decide +kernel
theorem dX6_addFrom_60 : decode cX6_addFrom 60 = .ok (.return_, 1) := by decide +kernel
theorem dX6_appendTo_0 : decode cX6_appendTo 0 = .ok (.iconst 0, 1) := by decide +kernel
theorem dX6_appendTo_1 : decode cX6_appendTo 1 = .ok (.istore_n 3, 1) := by decide +kernel
theorem dX6_appendTo_2 : decode cX6_appendTo 2 = .ok (.iload_n 3, 1) := by decide +kernel
theorem dX6_appendTo_3 : decode cX6_appendTo 3 = .ok (.aload_n 0, 1) := by decide +kernel
theorem dX6_appendTo_4 : decode cX6_appendTo 4 = .ok (.getfield 14, 3) := by decide +kernel
theorem dX6_appendTo_7 : decode cX6_appendTo 7 = .ok (.iload_n 1, 1) := by decide +kernel
theorem dX6_appendTo_8 : decode cX6_appendTo 8 = .ok (.invokevirtual 27, 3) := by decide +kernel
theorem dX6_appendTo_11 : decode cX6_appendTo 11 = .ok (.if_icmp .ge 19, 3) := by decide +kernel
theorem dX6_appendTo_14 : decode cX6_appendTo 14 = .ok (.aload_n 2, 1) := by decide +kernel
theorem dX6_appendTo_15 : decode cX6_appendTo 15 = .ok (.aload_n 0, 1) := by decide +kernel
theorem dX6_appendTo_16 : decode cX6_appendTo 16 = .ok (.iload_n 1, 1) := by decide +kernel
theorem dX6_appendTo_17 : decode cX6_appendTo 17 = .ok (.iload_n 3, 1) := by decide +kernel
theorem dX6_appendTo_18 : decode cX6_appendTo 18 = .ok (.invokevirtual 35, 3) := by decide +kernel
theorem dX6_appendTo_21 : decode cX6_appendTo 21 = .ok (.invokevirtual 52, 3) := by decide +kernel
theorem dX6_appendTo_24 : decode cX6_appendTo 24 = .ok (.iinc 3 1, 3) := by decide +kernel
theorem dX6_appendTo_27 : decode cX6_appendTo 27 = .ok (.goto (-25), 3) := by decide +kernel
theorem dX6_appendTo_30 : decode cX6_appendTo 30 = .ok (.return_, 1) := by decide +kernel
theorem dX6_copyFrom_0 : decode cX6_copyFrom 0 = .ok (.aload_n 0, 1) := by decide +kernel
theorem dX6_copyFrom_1 : decode cX6_copyFrom 1 = .ok (.getfield 14, 3) := by decide +kernel
theorem dX6_copyFrom_4 : decode cX6_copyFrom 4 = .ok (.aload_n 1, 1) := by decide +kernel
theorem dX6_copyFrom_5 : decode cX6_copyFrom 5 = .ok (.getfield 14, 3) := by decide +kernel
theorem dX6_copyFrom_8 : decode cX6_copyFrom 8 = .ok (.invokevirtual 56, 3) := by decide +kernel
theorem dX6_copyFrom_11 : decode cX6_copyFrom 11 = .ok (.aload_n 0, 1) := by decide +kernel
theorem dX6_copyFrom_12 : decode cX6_copyFrom 12 = .ok (.getfield 20, 3) := by decide +kernel
theorem dX6_copyFrom_15 : decode cX6_copyFrom 15 = .ok (.aload_n 1, 1) := by decide +kernel
theorem dX6_copyFrom_16 : decode cX6_copyFrom 16 = .ok (.getfield 20, 3) := by decide +kernel
theorem dX6_copyFrom_19 : decode cX6_copyFrom 19 = .ok (.invokevirtual 56, 3) := by decide +kernel
theorem dX6_copyFrom_22 : decode cX6_copyFrom 22 = .ok (.aload_n 0, 1) := by decide +kernel
theorem dX6_copyFrom_23 : decode cX6_copyFrom 23 = .ok (.aload_n 1, 1) := by decide +kernel
theorem dX6_copyFrom_24 : decode cX6_copyFrom 24 = .ok (.getfield 23, 3) := by decide +kernel
theorem dX6_copyFrom_27 : decode cX6_copyFrom 27 = .ok (.putfield 23, 3) := by decide +kernel
theorem dX6_copyFrom_30 : decode cX6_copyFrom 30 = .ok (.return_, 1) := by decide +kernel
theorem dX7_init_0 : decode cX7_init 0 = .ok (.aload_n 0, 1) := by decide +kernel
theorem dX7_init_1 : decode cX7_init 1 = .ok (.invokespecial 1, 3) := by decide +kernel
theorem dX7_init_4 : decode cX7_init 4 = .ok (.aload_n 0, 1) := by decide +kernel
theorem dX7_init_5 : decode cX7_init 5 = .ok (.iload_n 1, 1) := by decide +kernel
theorem dX7_init_6 : decode cX7_init 6 = .ok (.iconst 0, 1) := by decide +kernel
theorem dX7_init_7 : decode cX7_init 7 = .ok (.invokestatic 7, 3) := by decide +kernel
theorem dX7_init_10 : decode cX7_init 10 = .ok (.newarray .int, 2) := by decide +kernel
theorem dX7_init_12 : decode cX7_init 12 = .ok (.putfield 13, 3) := by decide +kernel
theorem dX7_init_15 : decode cX7_init 15 = .ok (.return_, 1) := by decide +kernel
theorem dX7_get_0 : decode cX7_get 0 = .ok (.iload_n 1, 1) := by decide +kernel
theorem dX7_get_1 : decode cX7_get 1 = .ok (.ifCond .lt 21, 3) := by decide +kernel
theorem dX7_get_4 : decode cX7_get 4 = .ok (.iload_n 1, 1) := by decide +kernel
theorem dX7_get_5 : decode cX7_get 5 = .ok (.aload_n 0, 1) := by decide +kernel
theorem dX7_get_6 : decode cX7_get 6 = .ok (.getfield 13, 3) := by decide +kernel
theorem dX7_get_9 : decode cX7_get 9 = .ok (.arraylength, 1) := by decide +kernel
theorem dX7_get_10 : decode cX7_get 10 = .ok (.if_icmp .ge 12, 3) := by decide +kernel
theorem dX7_get_13 : decode cX7_get 13 = .ok (.aload_n 0, 1) := by decide +kernel
theorem dX7_get_14 : decode cX7_get 14 = .ok (.getfield 13, 3) := by decide +kernel
theorem dX7_get_17 : decode cX7_get 17 = .ok (.iload_n 1, 1) := by decide +kernel
theorem dX7_get_18 : decode cX7_get 18 = .ok (.iaload, 1) := by decide +kernel
theorem dX7_get_19 : decode cX7_get 19 = .ok (.goto 4, 3) := by decide +kernel
theorem dX7_get_22 : decode cX7_get 22 = .ok (.iconst 0, 1) := by decide +kernel
theorem dX7_get_23 : decode cX7_get 23 = .ok (.ireturn, 1) := by decide +kernel
theorem dX7_set_0 : decode cX7_set 0 = .ok (.iload_n 1, 1) := by decide +kernel
theorem dX7_set_1 : decode cX7_set 1 = .ok (.ifCond .lt 19, 3) := by decide +kernel
theorem dX7_set_4 : decode cX7_set 4 = .ok (.iload_n 1, 1) := by decide +kernel
theorem dX7_set_5 : decode cX7_set 5 = .ok (.aload_n 0, 1) := by decide +kernel
theorem dX7_set_6 : decode cX7_set 6 = .ok (.getfield 13, 3) := by decide +kernel
theorem dX7_set_9 : decode cX7_set 9 = .ok (.arraylength, 1) := by decide +kernel
theorem dX7_set_10 : decode cX7_set 10 = .ok (.if_icmp .ge 10, 3) := by decide +kernel
theorem dX7_set_13 : decode cX7_set 13 = .ok (.aload_n 0, 1) := by decide +kernel
theorem dX7_set_14 : decode cX7_set 14 = .ok (.getfield 13, 3) := by decide +kernel
theorem dX7_set_17 : decode cX7_set 17 = .ok (.iload_n 1, 1) := by decide +kernel
theorem dX7_set_18 : decode cX7_set 18 = .ok (.iload_n 2, 1) := by decide +kernel
theorem dX7_set_19 : decode cX7_set 19 = .ok (.iastore, 1) := by decide +kernel
theorem dX7_set_20 : decode cX7_set 20 = .ok (.return_, 1) := by decide +kernel
theorem dX7_setAll_0 : decode cX7_setAll 0 = .ok (.iconst 0, 1) := by decide +kernel
theorem dX7_setAll_1 : decode cX7_setAll 1 = .ok (.istore_n 2, 1) := by decide +kernel
theorem dX7_setAll_2 : decode cX7_setAll 2 = .ok (.iload_n 2, 1) := by decide +kernel
theorem dX7_setAll_3 : decode cX7_setAll 3 = .ok (.aload_n 0, 1) := by decide +kernel
theorem dX7_setAll_4 : decode cX7_setAll 4 = .ok (.getfield 13, 3) := by decide +kernel
theorem dX7_setAll_7 : decode cX7_setAll 7 = .ok (.arraylength, 1) := by decide +kernel
theorem dX7_setAll_8 : decode cX7_setAll 8 = .ok (.if_icmp .ge 16, 3) := by decide +kernel
theorem dX7_setAll_11 : decode cX7_setAll 11 = .ok (.aload_n 0, 1) := by decide +kernel
theorem dX7_setAll_12 : decode cX7_setAll 12 = .ok (.getfield 13, 3) := by decide +kernel
theorem dX7_setAll_15 : decode cX7_setAll 15 = .ok (.iload_n 2, 1) := by decide +kernel
theorem dX7_setAll_16 : decode cX7_setAll 16 = .ok (.iload_n 1, 1) := by decide +kernel
theorem dX7_setAll_17 : decode cX7_setAll 17 = .ok (.iastore, 1) := by decide +kernel
theorem dX7_setAll_18 : decode cX7_setAll 18 = .ok (.iinc 2 1, 3) := by decide +kernel
theorem dX7_setAll_21 : decode cX7_setAll 21 = .ok (.goto (-19), 3) := by decide +kernel
theorem dX7_setAll_24 : decode cX7_setAll 24 = .ok (.return_, 1) := by decide +kernel
theorem dX7_closeGap_0 : decode cX7_closeGap 0 = .ok (.iload_n 1, 1) := by decide +kernel
theorem dX7_closeGap_1 : decode cX7_closeGap 1 = .ok (.iconst 0, 1) := by decide +kernel
theorem dX7_closeGap_2 : decode cX7_closeGap 2 = .ok (.invokestatic 7, 3) := by decide +kernel
theorem dX7_closeGap_5 : decode cX7_closeGap 5 = .ok (.istore_n 2, 1) := by decide +kernel
theorem dX7_closeGap_6 : decode cX7_closeGap 6 = .ok (.iload_n 2, 1) := by decide +kernel
theorem dX7_closeGap_7 : decode cX7_closeGap 7 = .ok (.aload_n 0, 1) := by decide +kernel
theorem dX7_closeGap_8 : decode cX7_closeGap 8 = .ok (.getfield 13, 3) := by decide +kernel
theorem dX7_closeGap_11 : decode cX7_closeGap 11 = .ok (.arraylength, 1) := by decide +kernel
theorem dX7_closeGap_12 : decode cX7_closeGap 12 = .ok (.iconst 1, 1) := by decide +kernel
theorem dX7_closeGap_13 : decode cX7_closeGap 13 = .ok (.isub, 1) := by decide +kernel
theorem dX7_closeGap_14 : decode cX7_closeGap 14 = .ok (.if_icmp .ge 23, 3) := by decide +kernel
theorem dX7_closeGap_17 : decode cX7_closeGap 17 = .ok (.aload_n 0, 1) := by decide +kernel
theorem dX7_closeGap_18 : decode cX7_closeGap 18 = .ok (.getfield 13, 3) := by decide +kernel
theorem dX7_closeGap_21 : decode cX7_closeGap 21 = .ok (.iload_n 2, 1) := by decide +kernel
theorem dX7_closeGap_22 : decode cX7_closeGap 22 = .ok (.aload_n 0, 1) := by decide +kernel
theorem dX7_closeGap_23 : decode cX7_closeGap 23 = .ok (.getfield 13, 3) := by decide +kernel
theorem dX7_closeGap_26 : decode cX7_closeGap 26 = .ok (.iload_n 2, 1) := by decide +kernel
theorem dX7_closeGap_27 : decode cX7_closeGap 27 = .ok (.iconst 1, 1) := by decide +kernel
theorem dX7_closeGap_28 : decode cX7_closeGap 28 = .ok (.iadd, 1) := by decide +kernel
theorem dX7_closeGap_29 : decode cX7_closeGap 29 = .ok (.iaload, 1) := by decide +kernel
theorem dX7_closeGap_30 : decode cX7_closeGap 30 = .ok (.iastore, 1) := by decide +kernel
theorem dX7_closeGap_31 : decode cX7_closeGap 31 = .ok (.iinc 2 1, 3) := by decide +kernel
theorem dX7_closeGap_34 : decode cX7_closeGap 34 = .ok (.goto (-28), 3) := by decide +kernel
theorem dX7_closeGap_37 : decode cX7_closeGap 37 = .ok (.return_, 1) := by decide +kernel
theorem dX7_copyFrom_0 : decode cX7_copyFrom 0 = .ok (.aload_n 1, 1) := by decide +kernel
theorem dX7_copyFrom_1 : decode cX7_copyFrom 1 = .ok (.getfield 13, 3) := by decide +kernel
theorem dX7_copyFrom_4 : decode cX7_copyFrom 4 = .ok (.iconst 0, 1) := by decide +kernel
theorem dX7_copyFrom_5 : decode cX7_copyFrom 5 = .ok (.aload_n 0, 1) := by decide +kernel
theorem dX7_copyFrom_6 : decode cX7_copyFrom 6 = .ok (.getfield 13, 3) := by decide +kernel
theorem dX7_copyFrom_9 : decode cX7_copyFrom 9 = .ok (.iconst 0, 1) := by decide +kernel
theorem dX7_copyFrom_10 : decode cX7_copyFrom 10 = .ok (.aload_n 1, 1) := by decide +kernel
theorem dX7_copyFrom_11 : decode cX7_copyFrom 11 = .ok (.getfield 13, 3) := by decide +kernel
theorem dX7_copyFrom_14 : decode cX7_copyFrom 14 = .ok (.arraylength, 1) := by decide +kernel
theorem dX7_copyFrom_15 : decode cX7_copyFrom 15 = .ok (.aload_n 0, 1) := by decide +kernel
theorem dX7_copyFrom_16 : decode cX7_copyFrom 16 = .ok (.getfield 13, 3) := by decide +kernel
theorem dX7_copyFrom_19 : decode cX7_copyFrom 19 = .ok (.arraylength, 1) := by decide +kernel
theorem dX7_copyFrom_20 : decode cX7_copyFrom 20 = .ok (.invokestatic 19, 3) := by decide +kernel
theorem dX7_copyFrom_23 : decode cX7_copyFrom 23 = .ok (.invokestatic 22, 3) := by decide +kernel
theorem dX7_copyFrom_26 : decode cX7_copyFrom 26 = .ok (.return_, 1) := by decide +kernel
theorem dX8_init_0 : decode cX8_init 0 = .ok (.aload_n 0, 1) := by decide +kernel
theorem dX8_init_1 : decode cX8_init 1 = .ok (.invokespecial 3, 3) := by decide +kernel
theorem dX8_init_4 : decode cX8_init 4 = .ok (.aload_n 0, 1) := by decide +kernel
theorem dX8_init_5 : decode cX8_init 5 = .ok (.new 9, 3) := by decide +kernel
theorem dX8_init_8 : decode cX8_init 8 = .ok (.dup, 1) := by decide +kernel
theorem dX8_init_9 : decode cX8_init 9 = .ok (.invokespecial 11, 3) := by decide +kernel
theorem dX8_init_12 : decode cX8_init 12 = .ok (.putfield 12, 3) := by decide +kernel
theorem dX8_init_15 : decode cX8_init 15 = .ok (.aload_n 0, 1) := by decide +kernel
theorem dX8_init_16 : decode cX8_init 16 = .ok (.new 18, 3) := by decide +kernel
theorem dX8_init_19 : decode cX8_init 19 = .ok (.dup, 1) := by decide +kernel
theorem dX8_init_20 : decode cX8_init 20 = .ok (.invokespecial 20, 3) := by decide +kernel
theorem dX8_init_23 : decode cX8_init 23 = .ok (.putfield 21, 3) := by decide +kernel
theorem dX8_init_26 : decode cX8_init 26 = .ok (.aload_n 0, 1) := by decide +kernel
theorem dX8_init_27 : decode cX8_init 27 = .ok (.new 25, 3) := by decide +kernel
theorem dX8_init_30 : decode cX8_init 30 = .ok (.dup, 1) := by decide +kernel
theorem dX8_init_31 : decode cX8_init 31 = .ok (.invokespecial 27, 3) := by decide +kernel
theorem dX8_init_34 : decode cX8_init 34 = .ok (.putfield 28, 3) := by decide +kernel
theorem dX8_init_37 : decode cX8_init 37 = .ok (.aload_n 0, 1) := by decide +kernel
theorem dX8_init_38 : decode cX8_init 38 = .ok (.iconst 0, 1) := by decide +kernel
theorem dX8_init_39 : decode cX8_init 39 = .ok (.putfield 32, 3) := by decide +kernel
theorem dX8_init_42 : decode cX8_init 42 = .ok (.aload_n 0, 1) := by decide +kernel
theorem dX8_init_43 : decode cX8_init 43 = .ok (.iconst 0, 1) := by decide +kernel
theorem dX8_init_44 : decode cX8_init 44 = .ok (.putfield 36, 3) := by decide +kernel
theorem dX8_init_47 : decode cX8_init 47 = .ok (.aload_n 0, 1) := by decide +kernel
theorem dX8_init_48 : decode cX8_init 48 = .ok (.iconst 0, 1) := by decide +kernel
theorem dX8_init_49 : decode cX8_init 49 = .ok (.putfield 39, 3) := by decide +kernel
theorem dX8_init_52 : decode cX8_init 52 = .ok (.aload_n 0, 1) := by decide +kernel
theorem dX8_init_53 : decode cX8_init 53 = .ok (.iconst 0, 1) := by decide +kernel
theorem dX8_init_54 : decode cX8_init 54 = .ok (.putfield 42, 3) := by decide +kernel
theorem dX8_init_57 : decode cX8_init 57 = .ok (.aload_n 0, 1) := by decide +kernel
theorem dX8_init_58 : decode cX8_init 58 = .ok (.iconst 0, 1) := by decide +kernel
theorem dX8_init_59 : decode cX8_init 59 = .ok (.putfield 45, 3) := by decide +kernel
theorem dX8_init_62 : decode cX8_init 62 = .ok (.return_, 1) := by decide +kernel
theorem dX8_rawRefusal_0 : decode cX8_rawRefusal 0 = .ok (.aload_n 0, 1) := by decide +kernel
theorem dX8_rawRefusal_1 : decode cX8_rawRefusal 1 = .ok (.getfield 12, 3) := by decide +kernel
theorem dX8_rawRefusal_4 : decode cX8_rawRefusal 4 = .ok (.getfield 48, 3) := by decide +kernel
theorem dX8_rawRefusal_7 : decode cX8_rawRefusal 7 = .ok (.bipush 6, 2) := by decide +kernel
theorem dX8_rawRefusal_9 : decode cX8_rawRefusal 9 = .ok (.if_icmp .lt 7, 3) := by decide +kernel
theorem dX8_rawRefusal_12 : decode cX8_rawRefusal 12 = .ok (.iconst 3, 1) := by decide +kernel
theorem dX8_rawRefusal_13 : decode cX8_rawRefusal 13 = .ok (.goto 4, 3) := by decide +kernel
theorem dX8_rawRefusal_16 : decode cX8_rawRefusal 16 = .ok (.iconst 0, 1) := by decide +kernel
theorem dX8_rawRefusal_17 : decode cX8_rawRefusal 17 = .ok (.ireturn, 1) := by decide +kernel
theorem dX8_mixRefusal_0 : decode cX8_mixRefusal 0 = .ok (.aload_n 0, 1) := by decide +kernel
theorem dX8_mixRefusal_1 : decode cX8_mixRefusal 1 = .ok (.getfield 12, 3) := by decide +kernel
theorem dX8_mixRefusal_4 : decode cX8_mixRefusal 4 = .ok (.iload_n 1, 1) := by decide +kernel
theorem dX8_mixRefusal_5 : decode cX8_mixRefusal 5 = .ok (.invokevirtual 51, 3) := by decide +kernel
theorem dX8_mixRefusal_8 : decode cX8_mixRefusal 8 = .ok (.ifCond .eq 14, 3) := by decide +kernel
theorem dX8_mixRefusal_11 : decode cX8_mixRefusal 11 = .ok (.iload_n 2, 1) := by decide +kernel
theorem dX8_mixRefusal_12 : decode cX8_mixRefusal 12 = .ok (.iconst 1, 1) := by decide +kernel
theorem dX8_mixRefusal_13 : decode cX8_mixRefusal 13 = .ok (.if_icmp .lt 9, 3) := by decide +kernel
theorem dX8_mixRefusal_16 : decode cX8_mixRefusal 16 = .ok (.iload_n 2, 1) := by decide +kernel
theorem dX8_mixRefusal_17 : decode cX8_mixRefusal 17 = .ok (.bipush 20, 2) := by decide +kernel
theorem dX8_mixRefusal_19 : decode cX8_mixRefusal 19 = .ok (.if_icmp .le 5, 3) := by decide +kernel
theorem dX8_mixRefusal_22 : decode cX8_mixRefusal 22 = .ok (.iconst 2, 1) := by decide +kernel
theorem dX8_mixRefusal_23 : decode cX8_mixRefusal 23 = .ok (.ireturn, 1) := by decide +kernel
theorem dX8_mixRefusal_24 : decode cX8_mixRefusal 24 = .ok (.aload_n 0, 1) := by decide +kernel
theorem dX8_mixRefusal_25 : decode cX8_mixRefusal 25 = .ok (.getfield 12, 3) := by decide +kernel
theorem dX8_mixRefusal_28 : decode cX8_mixRefusal 28 = .ok (.getfield 55, 3) := by decide +kernel
theorem dX8_mixRefusal_31 : decode cX8_mixRefusal 31 = .ok (.bipush 6, 2) := by decide +kernel
theorem dX8_mixRefusal_33 : decode cX8_mixRefusal 33 = .ok (.if_icmp .lt 5, 3) := by decide +kernel
theorem dX8_mixRefusal_36 : decode cX8_mixRefusal 36 = .ok (.iconst 3, 1) := by decide +kernel
theorem dX8_mixRefusal_37 : decode cX8_mixRefusal 37 = .ok (.ireturn, 1) := by decide +kernel
theorem dX8_mixRefusal_38 : decode cX8_mixRefusal 38 = .ok (.iload_n 1, 1) := by decide +kernel
theorem dX8_mixRefusal_39 : decode cX8_mixRefusal 39 = .ok (.aload_n 0, 1) := by decide +kernel
theorem dX8_mixRefusal_40 : decode cX8_mixRefusal 40 = .ok (.getfield 12, 3) := by decide +kernel
theorem dX8_mixRefusal_43 : decode cX8_mixRefusal 43 = .ok (.getfield 58, 3) := by decide +kernel
theorem dX8_mixRefusal_46 : decode cX8_mixRefusal 46 = .ok (.iand, 1) := by decide +kernel
theorem dX8_mixRefusal_47 : decode cX8_mixRefusal 47 = .ok (.ifCond .eq 7, 3) := by decide +kernel
theorem dX8_mixRefusal_50 : decode cX8_mixRefusal 50 = .ok (.iconst 4, 1) := by decide +kernel
theorem dX8_mixRefusal_51 : decode cX8_mixRefusal 51 = .ok (.goto 4, 3) := by decide +kernel
theorem dX8_mixRefusal_54 : decode cX8_mixRefusal 54 = .ok (.iconst 0, 1) := by decide +kernel
theorem dX8_mixRefusal_55 : decode cX8_mixRefusal 55 = .ok (.ireturn, 1) := by decide +kernel
theorem dX8_labelRefusal_0 : decode cX8_labelRefusal 0 = .ok (.aload_n 1, 1) := by decide +kernel
theorem dX8_labelRefusal_1 : decode cX8_labelRefusal 1 = .ok (.bipush 6, 2) := by decide +kernel
theorem dX8_labelRefusal_3 : decode cX8_labelRefusal 3 = .ok (.invokevirtual 61, 3) := by decide +kernel
theorem dX8_labelRefusal_6 : decode cX8_labelRefusal 6 = .ok (.ifCond .ne 5, 3) := by decide +kernel
theorem dX8_labelRefusal_9 : decode cX8_labelRefusal 9 = .ok (.iconst 2, 1) := by decide +kernel
theorem dX8_labelRefusal_10 : decode cX8_labelRefusal 10 = .ok (.ireturn, 1) := by decide +kernel
theorem dX8_labelRefusal_11 : decode cX8_labelRefusal 11 = .ok (.aload_n 0, 1) := by decide +kernel
theorem dX8_labelRefusal_12 : decode cX8_labelRefusal 12 = .ok (.getfield 21, 3) := by decide +kernel
theorem dX8_labelRefusal_15 : decode cX8_labelRefusal 15 = .ok (.getfield 66, 3) := by decide +kernel
theorem dX8_labelRefusal_18 : decode cX8_labelRefusal 18 = .ok (.bipush 8, 2) := by decide +kernel
theorem dX8_labelRefusal_20 : decode cX8_labelRefusal 20 = .ok (.if_icmp .ge 14, 3) := by decide +kernel
theorem dX8_labelRefusal_23 : decode cX8_labelRefusal 23 = .ok (.aload_n 0, 1) := by decide +kernel
theorem dX8_labelRefusal_24 : decode cX8_labelRefusal 24 = .ok (.getfield 21, 3) := by decide +kernel
theorem dX8_labelRefusal_27 : decode cX8_labelRefusal 27 = .ok (.aload_n 1, 1) := by decide +kernel
theorem dX8_labelRefusal_28 : decode cX8_labelRefusal 28 = .ok (.invokevirtual 69, 3) := by decide +kernel
theorem dX8_labelRefusal_31 : decode cX8_labelRefusal 31 = .ok (.ifCond .eq 7, 3) := by decide +kernel
theorem dX8_labelRefusal_34 : decode cX8_labelRefusal 34 = .ok (.iconst 3, 1) := by decide +kernel
theorem dX8_labelRefusal_35 : decode cX8_labelRefusal 35 = .ok (.goto 4, 3) := by decide +kernel
theorem dX8_labelRefusal_38 : decode cX8_labelRefusal 38 = .ok (.iconst 0, 1) := by decide +kernel
theorem dX8_labelRefusal_39 : decode cX8_labelRefusal 39 = .ok (.ireturn, 1) := by decide +kernel
theorem dX8_fillRefusal_0 : decode cX8_fillRefusal 0 = .ok (.aload_n 0, 1) := by decide +kernel
theorem dX8_fillRefusal_1 : decode cX8_fillRefusal 1 = .ok (.getfield 12, 3) := by decide +kernel
theorem dX8_fillRefusal_4 : decode cX8_fillRefusal 4 = .ok (.iload_n 1, 1) := by decide +kernel
theorem dX8_fillRefusal_5 : decode cX8_fillRefusal 5 = .ok (.invokevirtual 73, 3) := by decide +kernel
theorem dX8_fillRefusal_8 : decode cX8_fillRefusal 8 = .ok (.ifCond .eq 25, 3) := by decide +kernel
theorem dX8_fillRefusal_11 : decode cX8_fillRefusal 11 = .ok (.aload_n 0, 1) := by decide +kernel
theorem dX8_fillRefusal_12 : decode cX8_fillRefusal 12 = .ok (.getfield 12, 3) := by decide +kernel
theorem dX8_fillRefusal_15 : decode cX8_fillRefusal 15 = .ok (.iload_n 2, 1) := by decide +kernel
theorem dX8_fillRefusal_16 : decode cX8_fillRefusal 16 = .ok (.invokevirtual 73, 3) := by decide +kernel
theorem dX8_fillRefusal_19 : decode cX8_fillRefusal 19 = .ok (.ifCond .eq 14, 3) := by decide +kernel
theorem dX8_fillRefusal_22 : decode cX8_fillRefusal 22 = .ok (.aload_n 0, 1) := by decide +kernel
theorem dX8_fillRefusal_23 : decode cX8_fillRefusal 23 = .ok (.getfield 21, 3) := by decide +kernel
theorem dX8_fillRefusal_26 : decode cX8_fillRefusal 26 = .ok (.iload_n 3, 1) := by decide +kernel
theorem dX8_fillRefusal_27 : decode cX8_fillRefusal 27 = .ok (.invokevirtual 76, 3) := by decide +kernel
theorem dX8_fillRefusal_30 : decode cX8_fillRefusal 30 = .ok (.ifCond .ne 5, 3) := by decide +kernel
theorem dX8_fillRefusal_33 : decode cX8_fillRefusal 33 = .ok (.iconst 1, 1) := by decide +kernel
theorem dX8_fillRefusal_34 : decode cX8_fillRefusal 34 = .ok (.ireturn, 1) := by decide +kernel
theorem dX8_fillRefusal_35 : decode cX8_fillRefusal 35 = .ok (.iload 4, 2) := by decide +kernel
theorem dX8_fillRefusal_37 : decode cX8_fillRefusal 37 = .ok (.iconst 1, 1) := by decide +kernel
theorem dX8_fillRefusal_38 : decode cX8_fillRefusal 38 = .ok (.if_icmp .lt 10, 3) := by decide +kernel
theorem dX8_fillRefusal_41 : decode cX8_fillRefusal 41 = .ok (.iload 4, 2) := by decide +kernel
theorem dX8_fillRefusal_43 : decode cX8_fillRefusal 43 = .ok (.bipush 9, 2) := by decide +kernel
theorem dX8_fillRefusal_45 : decode cX8_fillRefusal 45 = .ok (.if_icmp .le 5, 3) := by decide +kernel
theorem dX8_fillRefusal_48 : decode cX8_fillRefusal 48 = .ok (.iconst 2, 1) := by decide +kernel
theorem dX8_fillRefusal_49 : decode cX8_fillRefusal 49 = .ok (.ireturn, 1) := by decide +kernel
theorem dX8_fillRefusal_50 : decode cX8_fillRefusal 50 = .ok (.aload_n 0, 1) := by decide +kernel
theorem dX8_fillRefusal_51 : decode cX8_fillRefusal 51 = .ok (.getfield 28, 3) := by decide +kernel
theorem dX8_fillRefusal_54 : decode cX8_fillRefusal 54 = .ok (.getfield 79, 3) := by decide +kernel
theorem dX8_fillRefusal_57 : decode cX8_fillRefusal 57 = .ok (.bipush 8, 2) := by decide +kernel
theorem dX8_fillRefusal_59 : decode cX8_fillRefusal 59 = .ok (.if_icmp .lt 5, 3) := by decide +kernel
theorem dX8_fillRefusal_62 : decode cX8_fillRefusal 62 = .ok (.iconst 3, 1) := by decide +kernel
theorem dX8_fillRefusal_63 : decode cX8_fillRefusal 63 = .ok (.ireturn, 1) := by decide +kernel
theorem dX8_fillRefusal_64 : decode cX8_fillRefusal 64 = .ok (.aload_n 0, 1) := by decide +kernel
theorem dX8_fillRefusal_65 : decode cX8_fillRefusal 65 = .ok (.getfield 12, 3) := by decide +kernel
theorem dX8_fillRefusal_68 : decode cX8_fillRefusal 68 = .ok (.iload_n 1, 1) := by decide +kernel
theorem dX8_fillRefusal_69 : decode cX8_fillRefusal 69 = .ok (.invokevirtual 80, 3) := by decide +kernel
theorem dX8_fillRefusal_72 : decode cX8_fillRefusal 72 = .ok (.ifCond .ne 14, 3) := by decide +kernel
theorem dX8_fillRefusal_75 : decode cX8_fillRefusal 75 = .ok (.aload_n 0, 1) := by decide +kernel
theorem dX8_fillRefusal_76 : decode cX8_fillRefusal 76 = .ok (.getfield 12, 3) := by decide +kernel
theorem dX8_fillRefusal_79 : decode cX8_fillRefusal 79 = .ok (.iload_n 2, 1) := by decide +kernel
theorem dX8_fillRefusal_80 : decode cX8_fillRefusal 80 = .ok (.invokevirtual 80, 3) := by decide +kernel
theorem dX8_fillRefusal_83 : decode cX8_fillRefusal 83 = .ok (.ifCond .eq 7, 3) := by decide +kernel
theorem dX8_fillRefusal_86 : decode cX8_fillRefusal 86 = .ok (.iconst 4, 1) := by decide +kernel
theorem dX8_fillRefusal_87 : decode cX8_fillRefusal 87 = .ok (.goto 4, 3) := by decide +kernel
theorem dX8_fillRefusal_90 : decode cX8_fillRefusal 90 = .ok (.iconst 0, 1) := by decide +kernel
theorem dX8_fillRefusal_91 : decode cX8_fillRefusal 91 = .ok (.ireturn, 1) := by decide +kernel
theorem dX8_fillLot_0 : decode cX8_fillLot 0 = .ok (.aload_n 0, 1) := by decide +kernel
theorem dX8_fillLot_1 : decode cX8_fillLot 1 = .ok (.dup, 1) := by decide +kernel
theorem dX8_fillLot_2 : decode cX8_fillLot 2 = .ok (.getfield 36, 3) := by decide +kernel
theorem dX8_fillLot_5 : decode cX8_fillLot 5 = .ok (.iload 4, 2) := by decide +kernel
theorem dX8_fillLot_7 : decode cX8_fillLot 7 = .ok (.iadd, 1) := by decide +kernel
theorem dX8_fillLot_8 : decode cX8_fillLot 8 = .ok (.putfield 36, 3) := by decide +kernel
theorem dX8_fillLot_11 : decode cX8_fillLot 11 = .ok (.aload_n 0, 1) := by decide +kernel
theorem dX8_fillLot_12 : decode cX8_fillLot 12 = .ok (.getfield 28, 3) := by decide +kernel
theorem dX8_fillLot_15 : decode cX8_fillLot 15 = .ok (.iload_n 1, 1) := by decide +kernel
theorem dX8_fillLot_16 : decode cX8_fillLot 16 = .ok (.iload_n 2, 1) := by decide +kernel
theorem dX8_fillLot_17 : decode cX8_fillLot 17 = .ok (.iload_n 3, 1) := by decide +kernel
theorem dX8_fillLot_18 : decode cX8_fillLot 18 = .ok (.iload 4, 2) := by decide +kernel
theorem dX8_fillLot_20 : decode cX8_fillLot 20 = .ok (.invokevirtual 83, 3) := by decide +kernel
theorem dX8_fillLot_23 : decode cX8_fillLot 23 = .ok (.ireturn, 1) := by decide +kernel
theorem dX8_shipRefusal_0 : decode cX8_shipRefusal 0 = .ok (.aload_n 0, 1) := by decide +kernel
theorem dX8_shipRefusal_1 : decode cX8_shipRefusal 1 = .ok (.getfield 28, 3) := by decide +kernel
theorem dX8_shipRefusal_4 : decode cX8_shipRefusal 4 = .ok (.iload_n 1, 1) := by decide +kernel
theorem dX8_shipRefusal_5 : decode cX8_shipRefusal 5 = .ok (.invokevirtual 87, 3) := by decide +kernel
theorem dX8_shipRefusal_8 : decode cX8_shipRefusal 8 = .ok (.iconst (-1), 1) := by decide +kernel
theorem dX8_shipRefusal_9 : decode cX8_shipRefusal 9 = .ok (.if_icmp .ne 7, 3) := by decide +kernel
theorem dX8_shipRefusal_12 : decode cX8_shipRefusal 12 = .ok (.iconst 5, 1) := by decide +kernel
theorem dX8_shipRefusal_13 : decode cX8_shipRefusal 13 = .ok (.goto 4, 3) := by decide +kernel
theorem dX8_shipRefusal_16 : decode cX8_shipRefusal 16 = .ok (.iconst 0, 1) := by decide +kernel
theorem dX8_shipRefusal_17 : decode cX8_shipRefusal 17 = .ok (.ireturn, 1) := by decide +kernel
theorem dX8_shipLot_0 : decode cX8_shipLot 0 = .ok (.aload_n 0, 1) := by decide +kernel
theorem dX8_shipLot_1 : decode cX8_shipLot 1 = .ok (.getfield 28, 3) := by decide +kernel
theorem dX8_shipLot_4 : decode cX8_shipLot 4 = .ok (.aload_n 0, 1) := by decide +kernel
theorem dX8_shipLot_5 : decode cX8_shipLot 5 = .ok (.getfield 28, 3) := by decide +kernel
theorem dX8_shipLot_8 : decode cX8_shipLot 8 = .ok (.iload_n 1, 1) := by decide +kernel
theorem dX8_shipLot_9 : decode cX8_shipLot 9 = .ok (.invokevirtual 87, 3) := by decide +kernel
theorem dX8_shipLot_12 : decode cX8_shipLot 12 = .ok (.invokevirtual 91, 3) := by decide +kernel
theorem dX8_shipLot_15 : decode cX8_shipLot 15 = .ok (.istore_n 2, 1) := by decide +kernel
theorem dX8_shipLot_16 : decode cX8_shipLot 16 = .ok (.aload_n 0, 1) := by decide +kernel
theorem dX8_shipLot_17 : decode cX8_shipLot 17 = .ok (.dup, 1) := by decide +kernel
theorem dX8_shipLot_18 : decode cX8_shipLot 18 = .ok (.getfield 39, 3) := by decide +kernel
theorem dX8_shipLot_21 : decode cX8_shipLot 21 = .ok (.iload_n 2, 1) := by decide +kernel
theorem dX8_shipLot_22 : decode cX8_shipLot 22 = .ok (.iadd, 1) := by decide +kernel
theorem dX8_shipLot_23 : decode cX8_shipLot 23 = .ok (.putfield 39, 3) := by decide +kernel
theorem dX8_shipLot_26 : decode cX8_shipLot 26 = .ok (.iload_n 2, 1) := by decide +kernel
theorem dX8_shipLot_27 : decode cX8_shipLot 27 = .ok (.ireturn, 1) := by decide +kernel
theorem dX8_passRefusal_0 : decode cX8_passRefusal 0 = .ok (.iload_n 1, 1) := by decide +kernel
theorem dX8_passRefusal_1 : decode cX8_passRefusal 1 = .ok (.iconst 1, 1) := by decide +kernel
theorem dX8_passRefusal_2 : decode cX8_passRefusal 2 = .ok (.if_icmp .lt 9, 3) := by decide +kernel
theorem dX8_passRefusal_5 : decode cX8_passRefusal 5 = .ok (.iload_n 1, 1) := by decide +kernel
theorem dX8_passRefusal_6 : decode cX8_passRefusal 6 = .ok (.bipush 30, 2) := by decide +kernel
theorem dX8_passRefusal_8 : decode cX8_passRefusal 8 = .ok (.if_icmp .le 7, 3) := by decide +kernel
theorem dX8_passRefusal_11 : decode cX8_passRefusal 11 = .ok (.iconst 2, 1) := by decide +kernel
theorem dX8_passRefusal_12 : decode cX8_passRefusal 12 = .ok (.goto 4, 3) := by decide +kernel
theorem dX8_passRefusal_15 : decode cX8_passRefusal 15 = .ok (.iconst 0, 1) := by decide +kernel
theorem dX8_passRefusal_16 : decode cX8_passRefusal 16 = .ok (.ireturn, 1) := by decide +kernel
theorem dX8_passDays_0 : decode cX8_passDays 0 = .ok (.iconst 0, 1) := by decide +kernel
theorem dX8_passDays_1 : decode cX8_passDays 1 = .ok (.istore_n 2, 1) := by decide +kernel
theorem dX8_passDays_2 : decode cX8_passDays 2 = .ok (.iconst 0, 1) := by decide +kernel
theorem dX8_passDays_3 : decode cX8_passDays 3 = .ok (.istore_n 3, 1) := by decide +kernel
theorem dX8_passDays_4 : decode cX8_passDays 4 = .ok (.iload_n 3, 1) := by decide +kernel
theorem dX8_passDays_5 : decode cX8_passDays 5 = .ok (.iload_n 1, 1) := by decide +kernel
theorem dX8_passDays_6 : decode cX8_passDays 6 = .ok (.if_icmp .ge 16, 3) := by decide +kernel
theorem dX8_passDays_9 : decode cX8_passDays 9 = .ok (.iload_n 2, 1) := by decide +kernel
theorem dX8_passDays_10 : decode cX8_passDays 10 = .ok (.aload_n 0, 1) := by decide +kernel
theorem dX8_passDays_11 : decode cX8_passDays 11 = .ok (.invokevirtual 94, 3) := by decide +kernel
theorem dX8_passDays_14 : decode cX8_passDays 14 = .ok (.iadd, 1) := by decide +kernel
theorem dX8_passDays_15 : decode cX8_passDays 15 = .ok (.istore_n 2, 1) := by decide +kernel
theorem dX8_passDays_16 : decode cX8_passDays 16 = .ok (.iinc 3 1, 3) := by decide +kernel
theorem dX8_passDays_19 : decode cX8_passDays 19 = .ok (.goto (-15), 3) := by decide +kernel
theorem dX8_passDays_22 : decode cX8_passDays 22 = .ok (.iload_n 2, 1) := by decide +kernel
theorem dX8_passDays_23 : decode cX8_passDays 23 = .ok (.ireturn, 1) := by decide +kernel
theorem dX8_passOneDay_0 : decode cX8_passOneDay 0 = .ok (.iconst 0, 1) := by decide +kernel
theorem dX8_passOneDay_1 : decode cX8_passOneDay 1 = .ok (.istore_n 1, 1) := by decide +kernel
theorem dX8_passOneDay_2 : decode cX8_passOneDay 2 = .ok (.aload_n 0, 1) := by decide +kernel
theorem dX8_passOneDay_3 : decode cX8_passOneDay 3 = .ok (.dup, 1) := by decide +kernel
theorem dX8_passOneDay_4 : decode cX8_passOneDay 4 = .ok (.getfield 32, 3) := by decide +kernel
theorem dX8_passOneDay_7 : decode cX8_passOneDay 7 = .ok (.iconst 1, 1) := by decide +kernel
theorem dX8_passOneDay_8 : decode cX8_passOneDay 8 = .ok (.iadd, 1) := by decide +kernel
theorem dX8_passOneDay_9 : decode cX8_passOneDay 9 = .ok (.putfield 32, 3) := by decide +kernel
theorem dX8_passOneDay_12 : decode cX8_passOneDay 12 = .ok (.aload_n 0, 1) := by decide +kernel
theorem dX8_passOneDay_13 : decode cX8_passOneDay 13 = .ok (.getfield 28, 3) := by decide +kernel
theorem dX8_passOneDay_16 : decode cX8_passOneDay 16 = .ok (.getfield 79, 3) := by decide +kernel
theorem dX8_passOneDay_19 : decode cX8_passOneDay 19 = .ok (.iconst 1, 1) := by decide +kernel
theorem dX8_passOneDay_20 : decode cX8_passOneDay 20 = .ok (.isub, 1) := by decide +kernel
theorem dX8_passOneDay_21 : decode cX8_passOneDay 21 = .ok (.istore_n 2, 1) := by decide +kernel
theorem dX8_passOneDay_22 : decode cX8_passOneDay 22 = .ok (.iload_n 2, 1) := by decide +kernel
theorem dX8_passOneDay_23 : decode cX8_passOneDay 23 = .ok (.ifCond .lt 65, 3) := by decide +kernel
theorem dX8_passOneDay_26 : decode cX8_passOneDay 26 = .ok (.aload_n 0, 1) := by decide +kernel
theorem dX8_passOneDay_27 : decode cX8_passOneDay 27 = .ok (.getfield 28, 3) := by decide +kernel
theorem dX8_passOneDay_30 : decode cX8_passOneDay 30 = .ok (.getfield 98, 3) := by decide +kernel
theorem dX8_passOneDay_33 : decode cX8_passOneDay 33 = .ok (.iload_n 2, 1) := by decide +kernel
theorem dX8_passOneDay_34 : decode cX8_passOneDay 34 = .ok (.invokevirtual 102, 3) := by decide +kernel
theorem dX8_passOneDay_37 : decode cX8_passOneDay 37 = .ok (.aload_n 0, 1) := by decide +kernel
theorem dX8_passOneDay_38 : decode cX8_passOneDay 38 = .ok (.iload_n 2, 1) := by decide +kernel
theorem dX8_passOneDay_39 : decode cX8_passOneDay 39 = .ok (.invokevirtual 107, 3) := by decide +kernel
theorem dX8_passOneDay_42 : decode cX8_passOneDay 42 = .ok (.iadd, 1) := by decide +kernel
theorem dX8_passOneDay_43 : decode cX8_passOneDay 43 = .ok (.istore_n 3, 1) := by decide +kernel
theorem dX8_passOneDay_44 : decode cX8_passOneDay 44 = .ok (.aload_n 0, 1) := by decide +kernel
theorem dX8_passOneDay_45 : decode cX8_passOneDay 45 = .ok (.getfield 28, 3) := by decide +kernel
theorem dX8_passOneDay_48 : decode cX8_passOneDay 48 = .ok (.getfield 98, 3) := by decide +kernel
theorem dX8_passOneDay_51 : decode cX8_passOneDay 51 = .ok (.iload_n 2, 1) := by decide +kernel
theorem dX8_passOneDay_52 : decode cX8_passOneDay 52 = .ok (.iload_n 3, 1) := by decide +kernel
theorem dX8_passOneDay_53 : decode cX8_passOneDay 53 = .ok (.invokevirtual 110, 3) := by decide +kernel
theorem dX8_passOneDay_56 : decode cX8_passOneDay 56 = .ok (.iload_n 3, 1) := by decide +kernel
theorem dX8_passOneDay_57 : decode cX8_passOneDay 57 = .ok (.bipush 60, 2) := by decide +kernel
theorem dX8_passOneDay_59 : decode cX8_passOneDay 59 = .ok (.if_icmp .lt 23, 3) := by decide +kernel
theorem dX8_passOneDay_62 : decode cX8_passOneDay 62 = .ok (.aload_n 0, 1) := by decide +kernel
theorem dX8_passOneDay_63 : decode cX8_passOneDay 63 = .ok (.dup, 1) := by decide +kernel
theorem dX8_passOneDay_64 : decode cX8_passOneDay 64 = .ok (.getfield 45, 3) := by decide +kernel
theorem dX8_passOneDay_67 : decode cX8_passOneDay 67 = .ok (.aload_n 0, 1) := by decide +kernel
theorem dX8_passOneDay_68 : decode cX8_passOneDay 68 = .ok (.getfield 28, 3) := by decide +kernel
theorem dX8_passOneDay_71 : decode cX8_passOneDay 71 = .ok (.iload_n 2, 1) := by decide +kernel
theorem dX8_passOneDay_72 : decode cX8_passOneDay 72 = .ok (.invokevirtual 91, 3) := by decide +kernel
theorem dX8_passOneDay_75 : decode cX8_passOneDay 75 = .ok (.iadd, 1) := by decide +kernel
theorem dX8_passOneDay_76 : decode cX8_passOneDay 76 = .ok (.putfield 45, 3) := by decide +kernel
theorem dX8_passOneDay_79 : decode cX8_passOneDay 79 = .ok (.iinc 1 1, 3) := by decide +kernel
theorem dX8_passOneDay_82 : decode cX8_passOneDay 82 = .ok (.iinc 2 (-1), 3) := by decide +kernel
theorem dX8_passOneDay_85 : decode cX8_passOneDay 85 = .ok (.goto (-63), 3) := by decide +kernel
theorem dX8_passOneDay_88 : decode cX8_passOneDay 88 = .ok (.iload_n 1, 1) := by decide +kernel
theorem dX8_passOneDay_89 : decode cX8_passOneDay 89 = .ok (.ireturn, 1) := by decide +kernel
theorem dX8_recallRefusal_0 : decode cX8_recallRefusal 0 = .ok (.aload_n 0, 1) := by decide +kernel
theorem dX8_recallRefusal_1 : decode cX8_recallRefusal 1 = .ok (.getfield 12, 3) := by decide +kernel
theorem dX8_recallRefusal_4 : decode cX8_recallRefusal 4 = .ok (.iload_n 1, 1) := by decide +kernel
theorem dX8_recallRefusal_5 : decode cX8_recallRefusal 5 = .ok (.invokevirtual 114, 3) := by decide +kernel
theorem dX8_recallRefusal_8 : decode cX8_recallRefusal 8 = .ok (.ifCond .ne 5, 3) := by decide +kernel
theorem dX8_recallRefusal_11 : decode cX8_recallRefusal 11 = .ok (.iconst 1, 1) := by decide +kernel
theorem dX8_recallRefusal_12 : decode cX8_recallRefusal 12 = .ok (.ireturn, 1) := by decide +kernel
theorem dX8_recallRefusal_13 : decode cX8_recallRefusal 13 = .ok (.aload_n 0, 1) := by decide +kernel
theorem dX8_recallRefusal_14 : decode cX8_recallRefusal 14 = .ok (.getfield 12, 3) := by decide +kernel
theorem dX8_recallRefusal_17 : decode cX8_recallRefusal 17 = .ok (.iload_n 1, 1) := by decide +kernel
theorem dX8_recallRefusal_18 : decode cX8_recallRefusal 18 = .ok (.invokevirtual 117, 3) := by decide +kernel
theorem dX8_recallRefusal_21 : decode cX8_recallRefusal 21 = .ok (.ifCond .eq 7, 3) := by decide +kernel
theorem dX8_recallRefusal_24 : decode cX8_recallRefusal 24 = .ok (.iconst 3, 1) := by decide +kernel
theorem dX8_recallRefusal_25 : decode cX8_recallRefusal 25 = .ok (.goto 4, 3) := by decide +kernel
theorem dX8_recallRefusal_28 : decode cX8_recallRefusal 28 = .ok (.iconst 0, 1) := by decide +kernel
theorem dX8_recallRefusal_29 : decode cX8_recallRefusal 29 = .ok (.ireturn, 1) := by decide +kernel
theorem dX8_recallRaw_0 : decode cX8_recallRaw 0 = .ok (.iconst 0, 1) := by decide +kernel
theorem dX8_recallRaw_1 : decode cX8_recallRaw 1 = .ok (.istore_n 2, 1) := by decide +kernel
theorem dX8_recallRaw_2 : decode cX8_recallRaw 2 = .ok (.aload_n 0, 1) := by decide +kernel
theorem dX8_recallRaw_3 : decode cX8_recallRaw 3 = .ok (.getfield 12, 3) := by decide +kernel
theorem dX8_recallRaw_6 : decode cX8_recallRaw 6 = .ok (.iload_n 1, 1) := by decide +kernel
theorem dX8_recallRaw_7 : decode cX8_recallRaw 7 = .ok (.invokevirtual 120, 3) := by decide +kernel
theorem dX8_recallRaw_10 : decode cX8_recallRaw 10 = .ok (.aload_n 0, 1) := by decide +kernel
theorem dX8_recallRaw_11 : decode cX8_recallRaw 11 = .ok (.getfield 28, 3) := by decide +kernel
theorem dX8_recallRaw_14 : decode cX8_recallRaw 14 = .ok (.getfield 79, 3) := by decide +kernel
theorem dX8_recallRaw_17 : decode cX8_recallRaw 17 = .ok (.iconst 1, 1) := by decide +kernel
theorem dX8_recallRaw_18 : decode cX8_recallRaw 18 = .ok (.isub, 1) := by decide +kernel
theorem dX8_recallRaw_19 : decode cX8_recallRaw 19 = .ok (.istore_n 3, 1) := by decide +kernel
theorem dX8_recallRaw_20 : decode cX8_recallRaw 20 = .ok (.iload_n 3, 1) := by decide +kernel
theorem dX8_recallRaw_21 : decode cX8_recallRaw 21 = .ok (.ifCond .lt 41, 3) := by decide +kernel
theorem dX8_recallRaw_24 : decode cX8_recallRaw 24 = .ok (.aload_n 0, 1) := by decide +kernel
theorem dX8_recallRaw_25 : decode cX8_recallRaw 25 = .ok (.iload_n 3, 1) := by decide +kernel
theorem dX8_recallRaw_26 : decode cX8_recallRaw 26 = .ok (.invokevirtual 124, 3) := by decide +kernel
theorem dX8_recallRaw_29 : decode cX8_recallRaw 29 = .ok (.iload_n 1, 1) := by decide +kernel
theorem dX8_recallRaw_30 : decode cX8_recallRaw 30 = .ok (.invokestatic 127, 3) := by decide +kernel
theorem dX8_recallRaw_33 : decode cX8_recallRaw 33 = .ok (.ifCond .eq 23, 3) := by decide +kernel
theorem dX8_recallRaw_36 : decode cX8_recallRaw 36 = .ok (.aload_n 0, 1) := by decide +kernel
theorem dX8_recallRaw_37 : decode cX8_recallRaw 37 = .ok (.dup, 1) := by decide +kernel
theorem dX8_recallRaw_38 : decode cX8_recallRaw 38 = .ok (.getfield 42, 3) := by decide +kernel
theorem dX8_recallRaw_41 : decode cX8_recallRaw 41 = .ok (.aload_n 0, 1) := by decide +kernel
theorem dX8_recallRaw_42 : decode cX8_recallRaw 42 = .ok (.getfield 28, 3) := by decide +kernel
theorem dX8_recallRaw_45 : decode cX8_recallRaw 45 = .ok (.iload_n 3, 1) := by decide +kernel
theorem dX8_recallRaw_46 : decode cX8_recallRaw 46 = .ok (.invokevirtual 91, 3) := by decide +kernel
theorem dX8_recallRaw_49 : decode cX8_recallRaw 49 = .ok (.iadd, 1) := by decide +kernel
theorem dX8_recallRaw_50 : decode cX8_recallRaw 50 = .ok (.putfield 42, 3) := by decide +kernel
theorem dX8_recallRaw_53 : decode cX8_recallRaw 53 = .ok (.iinc 2 1, 3) := by decide +kernel
theorem dX8_recallRaw_56 : decode cX8_recallRaw 56 = .ok (.iinc 3 (-1), 3) := by decide +kernel
theorem dX8_recallRaw_59 : decode cX8_recallRaw 59 = .ok (.goto (-39), 3) := by decide +kernel
theorem dX8_recallRaw_62 : decode cX8_recallRaw 62 = .ok (.iload_n 2, 1) := by decide +kernel
theorem dX8_recallRaw_63 : decode cX8_recallRaw 63 = .ok (.ireturn, 1) := by decide +kernel
theorem dX8_strengthAt_0 : decode cX8_strengthAt 0 = .ok (.aload_n 0, 1) := by decide +kernel
theorem dX8_strengthAt_1 : decode cX8_strengthAt 1 = .ok (.getfield 12, 3) := by decide +kernel
theorem dX8_strengthAt_4 : decode cX8_strengthAt 4 = .ok (.getfield 131, 3) := by decide +kernel
theorem dX8_strengthAt_7 : decode cX8_strengthAt 7 = .ok (.aload_n 0, 1) := by decide +kernel
theorem dX8_strengthAt_8 : decode cX8_strengthAt 8 = .ok (.getfield 28, 3) := by decide +kernel
theorem dX8_strengthAt_11 : decode cX8_strengthAt 11 = .ok (.getfield 134, 3) := by decide +kernel
theorem dX8_strengthAt_14 : decode cX8_strengthAt 14 = .ok (.iload_n 1, 1) := by decide +kernel
theorem dX8_strengthAt_15 : decode cX8_strengthAt 15 = .ok (.invokevirtual 102, 3) := by decide +kernel
theorem dX8_strengthAt_18 : decode cX8_strengthAt 18 = .ok (.invokevirtual 102, 3) := by decide +kernel
theorem dX8_strengthAt_21 : decode cX8_strengthAt 21 = .ok (.istore_n 2, 1) := by decide +kernel
theorem dX8_strengthAt_22 : decode cX8_strengthAt 22 = .ok (.aload_n 0, 1) := by decide +kernel
theorem dX8_strengthAt_23 : decode cX8_strengthAt 23 = .ok (.getfield 12, 3) := by decide +kernel
theorem dX8_strengthAt_26 : decode cX8_strengthAt 26 = .ok (.getfield 131, 3) := by decide +kernel
theorem dX8_strengthAt_29 : decode cX8_strengthAt 29 = .ok (.aload_n 0, 1) := by decide +kernel
theorem dX8_strengthAt_30 : decode cX8_strengthAt 30 = .ok (.getfield 28, 3) := by decide +kernel
theorem dX8_strengthAt_33 : decode cX8_strengthAt 33 = .ok (.getfield 137, 3) := by decide +kernel
theorem dX8_strengthAt_36 : decode cX8_strengthAt 36 = .ok (.iload_n 1, 1) := by decide +kernel
theorem dX8_strengthAt_37 : decode cX8_strengthAt 37 = .ok (.invokevirtual 102, 3) := by decide +kernel
theorem dX8_strengthAt_40 : decode cX8_strengthAt 40 = .ok (.invokevirtual 102, 3) := by decide +kernel
theorem dX8_strengthAt_43 : decode cX8_strengthAt 43 = .ok (.istore_n 3, 1) := by decide +kernel
theorem dX8_strengthAt_44 : decode cX8_strengthAt 44 = .ok (.iload_n 2, 1) := by decide +kernel
theorem dX8_strengthAt_45 : decode cX8_strengthAt 45 = .ok (.iload_n 3, 1) := by decide +kernel
theorem dX8_strengthAt_46 : decode cX8_strengthAt 46 = .ok (.iadd, 1) := by decide +kernel
theorem dX8_strengthAt_47 : decode cX8_strengthAt 47 = .ok (.iconst 2, 1) := by decide +kernel
theorem dX8_strengthAt_48 : decode cX8_strengthAt 48 = .ok (.idiv, 1) := by decide +kernel
theorem dX8_strengthAt_49 : decode cX8_strengthAt 49 = .ok (.ireturn, 1) := by decide +kernel
theorem dX8_rawsAt_0 : decode cX8_rawsAt 0 = .ok (.aload_n 0, 1) := by decide +kernel
theorem dX8_rawsAt_1 : decode cX8_rawsAt 1 = .ok (.getfield 12, 3) := by decide +kernel
theorem dX8_rawsAt_4 : decode cX8_rawsAt 4 = .ok (.getfield 140, 3) := by decide +kernel
theorem dX8_rawsAt_7 : decode cX8_rawsAt 7 = .ok (.aload_n 0, 1) := by decide +kernel
theorem dX8_rawsAt_8 : decode cX8_rawsAt 8 = .ok (.getfield 28, 3) := by decide +kernel
theorem dX8_rawsAt_11 : decode cX8_rawsAt 11 = .ok (.getfield 134, 3) := by decide +kernel
theorem dX8_rawsAt_14 : decode cX8_rawsAt 14 = .ok (.iload_n 1, 1) := by decide +kernel
theorem dX8_rawsAt_15 : decode cX8_rawsAt 15 = .ok (.invokevirtual 102, 3) := by decide +kernel
theorem dX8_rawsAt_18 : decode cX8_rawsAt 18 = .ok (.invokevirtual 102, 3) := by decide +kernel
theorem dX8_rawsAt_21 : decode cX8_rawsAt 21 = .ok (.aload_n 0, 1) := by decide +kernel
theorem dX8_rawsAt_22 : decode cX8_rawsAt 22 = .ok (.getfield 12, 3) := by decide +kernel
theorem dX8_rawsAt_25 : decode cX8_rawsAt 25 = .ok (.getfield 140, 3) := by decide +kernel
theorem dX8_rawsAt_28 : decode cX8_rawsAt 28 = .ok (.aload_n 0, 1) := by decide +kernel
theorem dX8_rawsAt_29 : decode cX8_rawsAt 29 = .ok (.getfield 28, 3) := by decide +kernel
theorem dX8_rawsAt_32 : decode cX8_rawsAt 32 = .ok (.getfield 137, 3) := by decide +kernel
theorem dX8_rawsAt_35 : decode cX8_rawsAt 35 = .ok (.iload_n 1, 1) := by decide +kernel
theorem dX8_rawsAt_36 : decode cX8_rawsAt 36 = .ok (.invokevirtual 102, 3) := by decide +kernel
theorem dX8_rawsAt_39 : decode cX8_rawsAt 39 = .ok (.invokevirtual 102, 3) := by decide +kernel
theorem dX8_rawsAt_42 : decode cX8_rawsAt 42 = .ok (.ior, 1) := by decide +kernel
theorem dX8_rawsAt_43 : decode cX8_rawsAt 43 = .ok (.ireturn, 1) := by decide +kernel
theorem dX8_riseAt_0 : decode cX8_riseAt 0 = .ok (.bipush 21, 2) := by decide +kernel
theorem dX8_riseAt_2 : decode cX8_riseAt 2 = .ok (.aload_n 0, 1) := by decide +kernel
theorem dX8_riseAt_3 : decode cX8_riseAt 3 = .ok (.iload_n 1, 1) := by decide +kernel
theorem dX8_riseAt_4 : decode cX8_riseAt 4 = .ok (.invokevirtual 143, 3) := by decide +kernel
theorem dX8_riseAt_7 : decode cX8_riseAt 7 = .ok (.isub, 1) := by decide +kernel
theorem dX8_riseAt_8 : decode cX8_riseAt 8 = .ok (.ireturn, 1) := by decide +kernel
theorem dX8_daysDayByDay_0 : decode cX8_daysDayByDay 0 = .ok (.aload_n 0, 1) := by decide +kernel
theorem dX8_daysDayByDay_1 : decode cX8_daysDayByDay 1 = .ok (.getfield 28, 3) := by decide +kernel
theorem dX8_daysDayByDay_4 : decode cX8_daysDayByDay 4 = .ok (.getfield 98, 3) := by decide +kernel
theorem dX8_daysDayByDay_7 : decode cX8_daysDayByDay 7 = .ok (.iload_n 1, 1) := by decide +kernel
theorem dX8_daysDayByDay_8 : decode cX8_daysDayByDay 8 = .ok (.invokevirtual 102, 3) := by decide +kernel
theorem dX8_daysDayByDay_11 : decode cX8_daysDayByDay 11 = .ok (.istore_n 2, 1) := by decide +kernel
theorem dX8_daysDayByDay_12 : decode cX8_daysDayByDay 12 = .ok (.iconst 0, 1) := by decide +kernel
theorem dX8_daysDayByDay_13 : decode cX8_daysDayByDay 13 = .ok (.istore_n 3, 1) := by decide +kernel
theorem dX8_daysDayByDay_14 : decode cX8_daysDayByDay 14 = .ok (.iload_n 2, 1) := by decide +kernel
theorem dX8_daysDayByDay_15 : decode cX8_daysDayByDay 15 = .ok (.bipush 60, 2) := by decide +kernel
theorem dX8_daysDayByDay_17 : decode cX8_daysDayByDay 17 = .ok (.if_icmp .ge 23, 3) := by decide +kernel
theorem dX8_daysDayByDay_20 : decode cX8_daysDayByDay 20 = .ok (.iload_n 3, 1) := by decide +kernel
theorem dX8_daysDayByDay_21 : decode cX8_daysDayByDay 21 = .ok (.bipush 60, 2) := by decide +kernel
theorem dX8_daysDayByDay_23 : decode cX8_daysDayByDay 23 = .ok (.if_icmp .ge 17, 3) := by decide +kernel
theorem dX8_daysDayByDay_26 : decode cX8_daysDayByDay 26 = .ok (.iload_n 2, 1) := by decide +kernel
theorem dX8_daysDayByDay_27 : decode cX8_daysDayByDay 27 = .ok (.aload_n 0, 1) := by decide +kernel
theorem dX8_daysDayByDay_28 : decode cX8_daysDayByDay 28 = .ok (.iload_n 1, 1) := by decide +kernel
theorem dX8_daysDayByDay_29 : decode cX8_daysDayByDay 29 = .ok (.invokevirtual 107, 3) := by decide +kernel
theorem dX8_daysDayByDay_32 : decode cX8_daysDayByDay 32 = .ok (.iadd, 1) := by decide +kernel
theorem dX8_daysDayByDay_33 : decode cX8_daysDayByDay 33 = .ok (.istore_n 2, 1) := by decide +kernel
theorem dX8_daysDayByDay_34 : decode cX8_daysDayByDay 34 = .ok (.iinc 3 1, 3) := by decide +kernel
theorem dX8_daysDayByDay_37 : decode cX8_daysDayByDay 37 = .ok (.goto (-23), 3) := by decide +kernel
theorem dX8_daysDayByDay_40 : decode cX8_daysDayByDay 40 = .ok (.iload_n 3, 1) := by decide +kernel
theorem dX8_daysDayByDay_41 : decode cX8_daysDayByDay 41 = .ok (.ireturn, 1) := by decide +kernel
theorem dX8_daysDivided_0 : decode cX8_daysDivided 0 = .ok (.bipush 60, 2) := by decide +kernel
theorem dX8_daysDivided_2 : decode cX8_daysDivided 2 = .ok (.aload_n 0, 1) := by decide +kernel
theorem dX8_daysDivided_3 : decode cX8_daysDivided 3 = .ok (.getfield 28, 3) := by decide +kernel
theorem dX8_daysDivided_6 : decode cX8_daysDivided 6 = .ok (.getfield 98, 3) := by decide +kernel
theorem dX8_daysDivided_9 : decode cX8_daysDivided 9 = .ok (.iload_n 1, 1) := by decide +kernel
theorem dX8_daysDivided_10 : decode cX8_daysDivided 10 = .ok (.invokevirtual 102, 3) := by decide +kernel
theorem dX8_daysDivided_13 : decode cX8_daysDivided 13 = .ok (.isub, 1) := by decide +kernel
theorem dX8_daysDivided_14 : decode cX8_daysDivided 14 = .ok (.istore_n 2, 1) := by decide +kernel
theorem dX8_daysDivided_15 : decode cX8_daysDivided 15 = .ok (.aload_n 0, 1) := by decide +kernel
theorem dX8_daysDivided_16 : decode cX8_daysDivided 16 = .ok (.iload_n 1, 1) := by decide +kernel
theorem dX8_daysDivided_17 : decode cX8_daysDivided 17 = .ok (.invokevirtual 107, 3) := by decide +kernel
theorem dX8_daysDivided_20 : decode cX8_daysDivided 20 = .ok (.istore_n 3, 1) := by decide +kernel
theorem dX8_daysDivided_21 : decode cX8_daysDivided 21 = .ok (.iload_n 3, 1) := by decide +kernel
theorem dX8_daysDivided_22 : decode cX8_daysDivided 22 = .ok (.ifCond .le 13, 3) := by decide +kernel
theorem dX8_daysDivided_25 : decode cX8_daysDivided 25 = .ok (.iload_n 2, 1) := by decide +kernel
theorem dX8_daysDivided_26 : decode cX8_daysDivided 26 = .ok (.iload_n 3, 1) := by decide +kernel
theorem dX8_daysDivided_27 : decode cX8_daysDivided 27 = .ok (.iadd, 1) := by decide +kernel
theorem dX8_daysDivided_28 : decode cX8_daysDivided 28 = .ok (.iconst 1, 1) := by decide +kernel
theorem dX8_daysDivided_29 : decode cX8_daysDivided 29 = .ok (.isub, 1) := by decide +kernel
theorem dX8_daysDivided_30 : decode cX8_daysDivided 30 = .ok (.iload_n 3, 1) := by decide +kernel
theorem dX8_daysDivided_31 : decode cX8_daysDivided 31 = .ok (.idiv, 1) := by decide +kernel
theorem dX8_daysDivided_32 : decode cX8_daysDivided 32 = .ok (.goto 4, 3) := by decide +kernel
theorem dX8_daysDivided_35 : decode cX8_daysDivided 35 = .ok (.iconst 0, 1) := by decide +kernel
theorem dX8_daysDivided_36 : decode cX8_daysDivided 36 = .ok (.ireturn, 1) := by decide +kernel
theorem dX8_countThroughBatches_0 : decode cX8_countThroughBatches 0 = .ok (.iconst 0, 1) := by decide +kernel
theorem dX8_countThroughBatches_1 : decode cX8_countThroughBatches 1 = .ok (.istore_n 2, 1) := by decide +kernel
theorem dX8_countThroughBatches_2 : decode cX8_countThroughBatches 2 = .ok (.iconst 0, 1) := by decide +kernel
theorem dX8_countThroughBatches_3 : decode cX8_countThroughBatches 3 = .ok (.istore_n 3, 1) := by decide +kernel
theorem dX8_countThroughBatches_4 : decode cX8_countThroughBatches 4 = .ok (.iconst 0, 1) := by decide +kernel
theorem dX8_countThroughBatches_5 : decode cX8_countThroughBatches 5 = .ok (.istore 4, 2) := by decide +kernel
theorem dX8_countThroughBatches_7 : decode cX8_countThroughBatches 7 = .ok (.iload 4, 2) := by decide +kernel
theorem dX8_countThroughBatches_9 : decode cX8_countThroughBatches 9 = .ok (.aload_n 0, 1) := by decide +kernel
theorem dX8_countThroughBatches_10 : decode cX8_countThroughBatches 10 = .ok (.getfield 12, 3) := by decide +kernel
theorem dX8_countThroughBatches_13 : decode cX8_countThroughBatches 13 = .ok (.getfield 55, 3) := by decide +kernel
theorem dX8_countThroughBatches_16 : decode cX8_countThroughBatches 16 = .ok (.if_icmp .ge 53, 3) := by decide +kernel
theorem dX8_countThroughBatches_19 : decode cX8_countThroughBatches 19 = .ok (.aload_n 0, 1) := by decide +kernel
theorem dX8_countThroughBatches_20 : decode cX8_countThroughBatches 20 = .ok (.getfield 12, 3) := by decide +kernel
theorem dX8_countThroughBatches_23 : decode cX8_countThroughBatches 23 = .ok (.getfield 140, 3) := by decide +kernel
theorem dX8_countThroughBatches_26 : decode cX8_countThroughBatches 26 = .ok (.iload 4, 2) := by decide +kernel
theorem dX8_countThroughBatches_28 : decode cX8_countThroughBatches 28 = .ok (.invokevirtual 102, 3) := by decide +kernel
theorem dX8_countThroughBatches_31 : decode cX8_countThroughBatches 31 = .ok (.iload_n 1, 1) := by decide +kernel
theorem dX8_countThroughBatches_32 : decode cX8_countThroughBatches 32 = .ok (.invokestatic 127, 3) := by decide +kernel
theorem dX8_countThroughBatches_35 : decode cX8_countThroughBatches 35 = .ok (.ifCond .eq 28, 3) := by decide +kernel
theorem dX8_countThroughBatches_38 : decode cX8_countThroughBatches 38 = .ok (.aload_n 0, 1) := by decide +kernel
theorem dX8_countThroughBatches_39 : decode cX8_countThroughBatches 39 = .ok (.iload 4, 2) := by decide +kernel
theorem dX8_countThroughBatches_41 : decode cX8_countThroughBatches 41 = .ok (.invokevirtual 146, 3) := by decide +kernel
theorem dX8_countThroughBatches_44 : decode cX8_countThroughBatches 44 = .ok (.istore 5, 2) := by decide +kernel
theorem dX8_countThroughBatches_46 : decode cX8_countThroughBatches 46 = .ok (.iload_n 2, 1) := by decide +kernel
theorem dX8_countThroughBatches_47 : decode cX8_countThroughBatches 47 = .ok (.iload 5, 2) := by decide +kernel
theorem dX8_countThroughBatches_49 : decode cX8_countThroughBatches 49 = .ok (.iload_n 3, 1) := by decide +kernel
theorem dX8_countThroughBatches_50 : decode cX8_countThroughBatches 50 = .ok (.iconst (-1), 1) := by decide +kernel
theorem dX8_countThroughBatches_51 : decode cX8_countThroughBatches 51 = .ok (.ixor, 1) := by decide +kernel
theorem dX8_countThroughBatches_52 : decode cX8_countThroughBatches 52 = .ok (.iand, 1) := by decide +kernel
theorem dX8_countThroughBatches_53 : decode cX8_countThroughBatches 53 = .ok (.invokestatic 149, 3) := by decide +kernel
theorem dX8_countThroughBatches_56 : decode cX8_countThroughBatches 56 = .ok (.iadd, 1) := by decide +kernel
theorem dX8_countThroughBatches_57 : decode cX8_countThroughBatches 57 = .ok (.istore_n 2, 1) := by decide +kernel
theorem dX8_countThroughBatches_58 : decode cX8_countThroughBatches 58 = .ok (.iload_n 3, 1) := by decide +kernel
theorem dX8_countThroughBatches_59 : decode cX8_countThroughBatches 59 = .ok (.iload 5, 2) := by decide +kernel
theorem dX8_countThroughBatches_61 : decode cX8_countThroughBatches 61 = .ok (.ior, 1) := by decide +kernel
theorem dX8_countThroughBatches_62 : decode cX8_countThroughBatches 62 = .ok (.istore_n 3, 1) := by decide +kernel
theorem dX8_countThroughBatches_63 : decode cX8_countThroughBatches 63 = .ok (.iinc 4 1, 3) := by decide +kernel
theorem dX8_countThroughBatches_66 : decode cX8_countThroughBatches 66 = .ok (.goto (-59), 3) := by decide +kernel
theorem dX8_countThroughBatches_69 : decode cX8_countThroughBatches 69 = .ok (.iload_n 2, 1) := by decide +kernel
theorem dX8_countThroughBatches_70 : decode cX8_countThroughBatches 70 = .ok (.ireturn, 1) := by decide +kernel
theorem dX8_lotsOfBatch_0 : decode cX8_lotsOfBatch 0 = .ok (.iconst 0, 1) := by decide +kernel
theorem dX8_lotsOfBatch_1 : decode cX8_lotsOfBatch 1 = .ok (.istore_n 2, 1) := by decide +kernel
theorem dX8_lotsOfBatch_2 : decode cX8_lotsOfBatch 2 = .ok (.iconst 0, 1) := by decide +kernel
theorem dX8_lotsOfBatch_3 : decode cX8_lotsOfBatch 3 = .ok (.istore_n 3, 1) := by decide +kernel
theorem dX8_lotsOfBatch_4 : decode cX8_lotsOfBatch 4 = .ok (.iload_n 3, 1) := by decide +kernel
theorem dX8_lotsOfBatch_5 : decode cX8_lotsOfBatch 5 = .ok (.aload_n 0, 1) := by decide +kernel
theorem dX8_lotsOfBatch_6 : decode cX8_lotsOfBatch 6 = .ok (.getfield 28, 3) := by decide +kernel
theorem dX8_lotsOfBatch_9 : decode cX8_lotsOfBatch 9 = .ok (.getfield 79, 3) := by decide +kernel
theorem dX8_lotsOfBatch_12 : decode cX8_lotsOfBatch 12 = .ok (.if_icmp .ge 45, 3) := by decide +kernel
theorem dX8_lotsOfBatch_15 : decode cX8_lotsOfBatch 15 = .ok (.aload_n 0, 1) := by decide +kernel
theorem dX8_lotsOfBatch_16 : decode cX8_lotsOfBatch 16 = .ok (.getfield 28, 3) := by decide +kernel
theorem dX8_lotsOfBatch_19 : decode cX8_lotsOfBatch 19 = .ok (.getfield 134, 3) := by decide +kernel
theorem dX8_lotsOfBatch_22 : decode cX8_lotsOfBatch 22 = .ok (.iload_n 3, 1) := by decide +kernel
theorem dX8_lotsOfBatch_23 : decode cX8_lotsOfBatch 23 = .ok (.invokevirtual 102, 3) := by decide +kernel
theorem dX8_lotsOfBatch_26 : decode cX8_lotsOfBatch 26 = .ok (.iload_n 1, 1) := by decide +kernel
theorem dX8_lotsOfBatch_27 : decode cX8_lotsOfBatch 27 = .ok (.if_icmp .eq 18, 3) := by decide +kernel
theorem dX8_lotsOfBatch_30 : decode cX8_lotsOfBatch 30 = .ok (.aload_n 0, 1) := by decide +kernel
theorem dX8_lotsOfBatch_31 : decode cX8_lotsOfBatch 31 = .ok (.getfield 28, 3) := by decide +kernel
theorem dX8_lotsOfBatch_34 : decode cX8_lotsOfBatch 34 = .ok (.getfield 137, 3) := by decide +kernel
theorem dX8_lotsOfBatch_37 : decode cX8_lotsOfBatch 37 = .ok (.iload_n 3, 1) := by decide +kernel
theorem dX8_lotsOfBatch_38 : decode cX8_lotsOfBatch 38 = .ok (.invokevirtual 102, 3) := by decide +kernel
theorem dX8_lotsOfBatch_41 : decode cX8_lotsOfBatch 41 = .ok (.iload_n 1, 1) := by decide +kernel
theorem dX8_lotsOfBatch_42 : decode cX8_lotsOfBatch 42 = .ok (.if_icmp .ne 9, 3) := by decide +kernel
theorem dX8_lotsOfBatch_45 : decode cX8_lotsOfBatch 45 = .ok (.iload_n 2, 1) := by decide +kernel
theorem dX8_lotsOfBatch_46 : decode cX8_lotsOfBatch 46 = .ok (.iconst 1, 1) := by decide +kernel
theorem dX8_lotsOfBatch_47 : decode cX8_lotsOfBatch 47 = .ok (.iload_n 3, 1) := by decide +kernel
theorem dX8_lotsOfBatch_48 : decode cX8_lotsOfBatch 48 = .ok (.ishl, 1) := by decide +kernel
theorem dX8_lotsOfBatch_49 : decode cX8_lotsOfBatch 49 = .ok (.ior, 1) := by decide +kernel
theorem dX8_lotsOfBatch_50 : decode cX8_lotsOfBatch 50 = .ok (.istore_n 2, 1) := by decide +kernel
theorem dX8_lotsOfBatch_51 : decode cX8_lotsOfBatch 51 = .ok (.iinc 3 1, 3) := by decide +kernel
theorem dX8_lotsOfBatch_54 : decode cX8_lotsOfBatch 54 = .ok (.goto (-50), 3) := by decide +kernel
theorem dX8_lotsOfBatch_57 : decode cX8_lotsOfBatch 57 = .ok (.iload_n 2, 1) := by decide +kernel
theorem dX8_lotsOfBatch_58 : decode cX8_lotsOfBatch 58 = .ok (.ireturn, 1) := by decide +kernel
theorem dX8_countFromSets_0 : decode cX8_countFromSets 0 = .ok (.iconst 0, 1) := by decide +kernel
theorem dX8_countFromSets_1 : decode cX8_countFromSets 1 = .ok (.istore_n 2, 1) := by decide +kernel
theorem dX8_countFromSets_2 : decode cX8_countFromSets 2 = .ok (.iconst 0, 1) := by decide +kernel
theorem dX8_countFromSets_3 : decode cX8_countFromSets 3 = .ok (.istore_n 3, 1) := by decide +kernel
theorem dX8_countFromSets_4 : decode cX8_countFromSets 4 = .ok (.iload_n 3, 1) := by decide +kernel
theorem dX8_countFromSets_5 : decode cX8_countFromSets 5 = .ok (.aload_n 0, 1) := by decide +kernel
theorem dX8_countFromSets_6 : decode cX8_countFromSets 6 = .ok (.getfield 28, 3) := by decide +kernel
theorem dX8_countFromSets_9 : decode cX8_countFromSets 9 = .ok (.getfield 79, 3) := by decide +kernel
theorem dX8_countFromSets_12 : decode cX8_countFromSets 12 = .ok (.if_icmp .ge 24, 3) := by decide +kernel
theorem dX8_countFromSets_15 : decode cX8_countFromSets 15 = .ok (.aload_n 0, 1) := by decide +kernel
theorem dX8_countFromSets_16 : decode cX8_countFromSets 16 = .ok (.iload_n 3, 1) := by decide +kernel
theorem dX8_countFromSets_17 : decode cX8_countFromSets 17 = .ok (.invokevirtual 124, 3) := by decide +kernel
theorem dX8_countFromSets_20 : decode cX8_countFromSets 20 = .ok (.iload_n 1, 1) := by decide +kernel
theorem dX8_countFromSets_21 : decode cX8_countFromSets 21 = .ok (.invokestatic 127, 3) := by decide +kernel
theorem dX8_countFromSets_24 : decode cX8_countFromSets 24 = .ok (.ifCond .eq 6, 3) := by decide +kernel
theorem dX8_countFromSets_27 : decode cX8_countFromSets 27 = .ok (.iinc 2 1, 3) := by decide +kernel
theorem dX8_countFromSets_30 : decode cX8_countFromSets 30 = .ok (.iinc 3 1, 3) := by decide +kernel
theorem dX8_countFromSets_33 : decode cX8_countFromSets 33 = .ok (.goto (-29), 3) := by decide +kernel
theorem dX8_countFromSets_36 : decode cX8_countFromSets 36 = .ok (.iload_n 2, 1) := by decide +kernel
theorem dX8_countFromSets_37 : decode cX8_countFromSets 37 = .ok (.ireturn, 1) := by decide +kernel
theorem dX8_copyFrom_0 : decode cX8_copyFrom 0 = .ok (.aload_n 0, 1) := by decide +kernel
theorem dX8_copyFrom_1 : decode cX8_copyFrom 1 = .ok (.getfield 12, 3) := by decide +kernel
theorem dX8_copyFrom_4 : decode cX8_copyFrom 4 = .ok (.aload_n 1, 1) := by decide +kernel
theorem dX8_copyFrom_5 : decode cX8_copyFrom 5 = .ok (.getfield 12, 3) := by decide +kernel
theorem dX8_copyFrom_8 : decode cX8_copyFrom 8 = .ok (.invokevirtual 154, 3) := by decide +kernel
theorem dX8_copyFrom_11 : decode cX8_copyFrom 11 = .ok (.aload_n 0, 1) := by decide +kernel
theorem dX8_copyFrom_12 : decode cX8_copyFrom 12 = .ok (.getfield 21, 3) := by decide +kernel
theorem dX8_copyFrom_15 : decode cX8_copyFrom 15 = .ok (.aload_n 1, 1) := by decide +kernel
theorem dX8_copyFrom_16 : decode cX8_copyFrom 16 = .ok (.getfield 21, 3) := by decide +kernel
theorem dX8_copyFrom_19 : decode cX8_copyFrom 19 = .ok (.invokevirtual 158, 3) := by decide +kernel
theorem dX8_copyFrom_22 : decode cX8_copyFrom 22 = .ok (.aload_n 0, 1) := by decide +kernel
theorem dX8_copyFrom_23 : decode cX8_copyFrom 23 = .ok (.getfield 28, 3) := by decide +kernel
theorem dX8_copyFrom_26 : decode cX8_copyFrom 26 = .ok (.aload_n 1, 1) := by decide +kernel
theorem dX8_copyFrom_27 : decode cX8_copyFrom 27 = .ok (.getfield 28, 3) := by decide +kernel
theorem dX8_copyFrom_30 : decode cX8_copyFrom 30 = .ok (.invokevirtual 161, 3) := by decide +kernel
theorem dX8_copyFrom_33 : decode cX8_copyFrom 33 = .ok (.aload_n 0, 1) := by decide +kernel
theorem dX8_copyFrom_34 : decode cX8_copyFrom 34 = .ok (.aload_n 1, 1) := by decide +kernel
theorem dX8_copyFrom_35 : decode cX8_copyFrom 35 = .ok (.getfield 32, 3) := by decide +kernel
theorem dX8_copyFrom_38 : decode cX8_copyFrom 38 = .ok (.putfield 32, 3) := by decide +kernel
theorem dX8_copyFrom_41 : decode cX8_copyFrom 41 = .ok (.aload_n 0, 1) := by decide +kernel
theorem dX8_copyFrom_42 : decode cX8_copyFrom 42 = .ok (.aload_n 1, 1) := by decide +kernel
theorem dX8_copyFrom_43 : decode cX8_copyFrom 43 = .ok (.getfield 36, 3) := by decide +kernel
theorem dX8_copyFrom_46 : decode cX8_copyFrom 46 = .ok (.putfield 36, 3) := by decide +kernel
theorem dX8_copyFrom_49 : decode cX8_copyFrom 49 = .ok (.aload_n 0, 1) := by decide +kernel
theorem dX8_copyFrom_50 : decode cX8_copyFrom 50 = .ok (.aload_n 1, 1) := by decide +kernel
theorem dX8_copyFrom_51 : decode cX8_copyFrom 51 = .ok (.getfield 39, 3) := by decide +kernel
theorem dX8_copyFrom_54 : decode cX8_copyFrom 54 = .ok (.putfield 39, 3) := by decide +kernel
theorem dX8_copyFrom_57 : decode cX8_copyFrom 57 = .ok (.aload_n 0, 1) := by decide +kernel
theorem dX8_copyFrom_58 : decode cX8_copyFrom 58 = .ok (.aload_n 1, 1) := by decide +kernel
theorem dX8_copyFrom_59 : decode cX8_copyFrom 59 = .ok (.getfield 42, 3) := by decide +kernel
theorem dX8_copyFrom_62 : decode cX8_copyFrom 62 = .ok (.putfield 42, 3) := by decide +kernel
theorem dX8_copyFrom_65 : decode cX8_copyFrom 65 = .ok (.aload_n 0, 1) := by decide +kernel
theorem dX8_copyFrom_66 : decode cX8_copyFrom 66 = .ok (.aload_n 1, 1) := by decide +kernel
theorem dX8_copyFrom_67 : decode cX8_copyFrom 67 = .ok (.getfield 45, 3) := by decide +kernel
theorem dX8_copyFrom_70 : decode cX8_copyFrom 70 = .ok (.putfield 45, 3) := by decide +kernel
theorem dX8_copyFrom_73 : decode cX8_copyFrom 73 = .ok (.return_, 1) := by decide +kernel
theorem dX9_best_0 : decode cX9_best 0 = .ok (.iconst 1, 1) := by decide +kernel
theorem dX9_best_1 : decode cX9_best 1 = .ok (.aload_n 0, 1) := by decide +kernel
theorem dX9_best_2 : decode cX9_best 2 = .ok (.getfield 9, 3) := by decide +kernel
theorem dX9_best_5 : decode cX9_best 5 = .ok (.getfield 15, 3) := by decide +kernel
theorem dX9_best_8 : decode cX9_best 8 = .ok (.ishl, 1) := by decide +kernel
theorem dX9_best_9 : decode cX9_best 9 = .ok (.iconst 1, 1) := by decide +kernel
theorem dX9_best_10 : decode cX9_best 10 = .ok (.isub, 1) := by decide +kernel
theorem dX9_best_11 : decode cX9_best 11 = .ok (.istore_n 1, 1) := by decide +kernel
theorem dX9_best_12 : decode cX9_best 12 = .ok (.iload_n 1, 1) := by decide +kernel
theorem dX9_best_13 : decode cX9_best 13 = .ok (.istore_n 2, 1) := by decide +kernel
theorem dX9_best_14 : decode cX9_best 14 = .ok (.iconst 0, 1) := by decide +kernel
theorem dX9_best_15 : decode cX9_best 15 = .ok (.istore_n 3, 1) := by decide +kernel
theorem dX9_best_16 : decode cX9_best 16 = .ok (.iload_n 3, 1) := by decide +kernel
theorem dX9_best_17 : decode cX9_best 17 = .ok (.iload_n 1, 1) := by decide +kernel
theorem dX9_best_18 : decode cX9_best 18 = .ok (.if_icmp .ge 31, 3) := by decide +kernel
theorem dX9_best_21 : decode cX9_best 21 = .ok (.iload_n 3, 1) := by decide +kernel
theorem dX9_best_22 : decode cX9_best 22 = .ok (.invokestatic 21, 3) := by decide +kernel
theorem dX9_best_25 : decode cX9_best 25 = .ok (.iload_n 2, 1) := by decide +kernel
theorem dX9_best_26 : decode cX9_best 26 = .ok (.invokestatic 21, 3) := by decide +kernel
theorem dX9_best_29 : decode cX9_best 29 = .ok (.if_icmp .ge 14, 3) := by decide +kernel
theorem dX9_best_32 : decode cX9_best 32 = .ok (.aload_n 0, 1) := by decide +kernel
theorem dX9_best_33 : decode cX9_best 33 = .ok (.iload_n 3, 1) := by decide +kernel
theorem dX9_best_34 : decode cX9_best 34 = .ok (.invokestatic 27, 3) := by decide +kernel
theorem dX9_best_37 : decode cX9_best 37 = .ok (.iconst (-1), 1) := by decide +kernel
theorem dX9_best_38 : decode cX9_best 38 = .ok (.if_icmp .ne 5, 3) := by decide +kernel
theorem dX9_best_41 : decode cX9_best 41 = .ok (.iload_n 3, 1) := by decide +kernel
theorem dX9_best_42 : decode cX9_best 42 = .ok (.istore_n 2, 1) := by decide +kernel
theorem dX9_best_43 : decode cX9_best 43 = .ok (.iinc 3 1, 3) := by decide +kernel
theorem dX9_best_46 : decode cX9_best 46 = .ok (.goto (-30), 3) := by decide +kernel
theorem dX9_best_49 : decode cX9_best 49 = .ok (.iload_n 2, 1) := by decide +kernel
theorem dX9_best_50 : decode cX9_best 50 = .ok (.ireturn, 1) := by decide +kernel
theorem dX9_firstUntested_0 : decode cX9_firstUntested 0 = .ok (.iconst 0, 1) := by decide +kernel
theorem dX9_firstUntested_1 : decode cX9_firstUntested 1 = .ok (.istore_n 2, 1) := by decide +kernel
theorem dX9_firstUntested_2 : decode cX9_firstUntested 2 = .ok (.iload_n 2, 1) := by decide +kernel
theorem dX9_firstUntested_3 : decode cX9_firstUntested 3 = .ok (.aload_n 0, 1) := by decide +kernel
theorem dX9_firstUntested_4 : decode cX9_firstUntested 4 = .ok (.getfield 33, 3) := by decide +kernel
theorem dX9_firstUntested_7 : decode cX9_firstUntested 7 = .ok (.getfield 37, 3) := by decide +kernel
theorem dX9_firstUntested_10 : decode cX9_firstUntested 10 = .ok (.if_icmp .ge 21, 3) := by decide +kernel
theorem dX9_firstUntested_13 : decode cX9_firstUntested 13 = .ok (.aload_n 0, 1) := by decide +kernel
theorem dX9_firstUntested_14 : decode cX9_firstUntested 14 = .ok (.iload_n 2, 1) := by decide +kernel
theorem dX9_firstUntested_15 : decode cX9_firstUntested 15 = .ok (.invokevirtual 42, 3) := by decide +kernel
theorem dX9_firstUntested_18 : decode cX9_firstUntested 18 = .ok (.iload_n 1, 1) := by decide +kernel
theorem dX9_firstUntested_19 : decode cX9_firstUntested 19 = .ok (.iand, 1) := by decide +kernel
theorem dX9_firstUntested_20 : decode cX9_firstUntested 20 = .ok (.ifCond .ne 5, 3) := by decide +kernel
theorem dX9_firstUntested_23 : decode cX9_firstUntested 23 = .ok (.iload_n 2, 1) := by decide +kernel
theorem dX9_firstUntested_24 : decode cX9_firstUntested 24 = .ok (.ireturn, 1) := by decide +kernel
theorem dX9_firstUntested_25 : decode cX9_firstUntested 25 = .ok (.iinc 2 1, 3) := by decide +kernel
theorem dX9_firstUntested_28 : decode cX9_firstUntested 28 = .ok (.goto (-26), 3) := by decide +kernel
theorem dX9_firstUntested_31 : decode cX9_firstUntested 31 = .ok (.iconst (-1), 1) := by decide +kernel
theorem dX9_firstUntested_32 : decode cX9_firstUntested 32 = .ok (.ireturn, 1) := by decide +kernel
theorem dX9_fewestByBranching_0 : decode cX9_fewestByBranching 0 = .ok (.aload_n 0, 1) := by decide +kernel
theorem dX9_fewestByBranching_1 : decode cX9_fewestByBranching 1 = .ok (.iconst 0, 1) := by decide +kernel
theorem dX9_fewestByBranching_2 : decode cX9_fewestByBranching 2 = .ok (.iconst 0, 1) := by decide +kernel
theorem dX9_fewestByBranching_3 : decode cX9_fewestByBranching 3 = .ok (.invokestatic 45, 3) := by decide +kernel
theorem dX9_fewestByBranching_6 : decode cX9_fewestByBranching 6 = .ok (.ireturn, 1) := by decide +kernel
theorem dX9_branch_0 : decode cX9_branch 0 = .ok (.aload_n 0, 1) := by decide +kernel
theorem dX9_branch_1 : decode cX9_branch 1 = .ok (.iload_n 1, 1) := by decide +kernel
theorem dX9_branch_2 : decode cX9_branch 2 = .ok (.invokestatic 27, 3) := by decide +kernel
theorem dX9_branch_5 : decode cX9_branch 5 = .ok (.istore_n 3, 1) := by decide +kernel
theorem dX9_branch_6 : decode cX9_branch 6 = .ok (.iload_n 3, 1) := by decide +kernel
theorem dX9_branch_7 : decode cX9_branch 7 = .ok (.iconst (-1), 1) := by decide +kernel
theorem dX9_branch_8 : decode cX9_branch 8 = .ok (.if_icmp .eq 9, 3) := by decide +kernel
theorem dX9_branch_11 : decode cX9_branch 11 = .ok (.iload_n 2, 1) := by decide +kernel
theorem dX9_branch_12 : decode cX9_branch 12 = .ok (.bipush 6, 2) := by decide +kernel
theorem dX9_branch_14 : decode cX9_branch 14 = .ok (.if_icmp .lt 8, 3) := by decide +kernel
theorem dX9_branch_17 : decode cX9_branch 17 = .ok (.iload_n 1, 1) := by decide +kernel
theorem dX9_branch_18 : decode cX9_branch 18 = .ok (.invokestatic 21, 3) := by decide +kernel
theorem dX9_branch_21 : decode cX9_branch 21 = .ok (.ireturn, 1) := by decide +kernel
theorem dX9_branch_22 : decode cX9_branch 22 = .ok (.aload_n 0, 1) := by decide +kernel
theorem dX9_branch_23 : decode cX9_branch 23 = .ok (.iload_n 3, 1) := by decide +kernel
theorem dX9_branch_24 : decode cX9_branch 24 = .ok (.invokevirtual 42, 3) := by decide +kernel
theorem dX9_branch_27 : decode cX9_branch 27 = .ok (.istore 4, 2) := by decide +kernel
theorem dX9_branch_29 : decode cX9_branch 29 = .ok (.bipush 6, 2) := by decide +kernel
theorem dX9_branch_31 : decode cX9_branch 31 = .ok (.istore 5, 2) := by decide +kernel
theorem dX9_branch_33 : decode cX9_branch 33 = .ok (.iconst 0, 1) := by decide +kernel
theorem dX9_branch_34 : decode cX9_branch 34 = .ok (.istore 6, 2) := by decide +kernel
theorem dX9_branch_36 : decode cX9_branch 36 = .ok (.iload 6, 2) := by decide +kernel
theorem dX9_branch_38 : decode cX9_branch 38 = .ok (.bipush 6, 2) := by decide +kernel
theorem dX9_branch_40 : decode cX9_branch 40 = .ok (.if_icmp .ge 39, 3) := by decide +kernel
theorem dX9_branch_43 : decode cX9_branch 43 = .ok (.iload 4, 2) := by decide +kernel
theorem dX9_branch_45 : decode cX9_branch 45 = .ok (.iload 6, 2) := by decide +kernel
theorem dX9_branch_47 : decode cX9_branch 47 = .ok (.invokestatic 49, 3) := by decide +kernel
theorem dX9_branch_50 : decode cX9_branch 50 = .ok (.ifCond .eq 23, 3) := by decide +kernel
theorem dX9_branch_53 : decode cX9_branch 53 = .ok (.iload 5, 2) := by decide +kernel
theorem dX9_branch_55 : decode cX9_branch 55 = .ok (.aload_n 0, 1) := by decide +kernel
theorem dX9_branch_56 : decode cX9_branch 56 = .ok (.iload_n 1, 1) := by decide +kernel
theorem dX9_branch_57 : decode cX9_branch 57 = .ok (.iconst 1, 1) := by decide +kernel
theorem dX9_branch_58 : decode cX9_branch 58 = .ok (.iload 6, 2) := by decide +kernel
theorem dX9_branch_60 : decode cX9_branch 60 = .ok (.ishl, 1) := by decide +kernel
theorem dX9_branch_61 : decode cX9_branch 61 = .ok (.ior, 1) := by decide +kernel
theorem dX9_branch_62 : decode cX9_branch 62 = .ok (.iload_n 2, 1) := by decide +kernel
theorem dX9_branch_63 : decode cX9_branch 63 = .ok (.iconst 1, 1) := by decide +kernel
theorem dX9_branch_64 : decode cX9_branch 64 = .ok (.iadd, 1) := by decide +kernel
theorem dX9_branch_65 : decode cX9_branch 65 = .ok (.invokestatic 45, 3) := by decide +kernel
theorem dX9_branch_68 : decode cX9_branch 68 = .ok (.invokestatic 53, 3) := by decide +kernel
theorem dX9_branch_71 : decode cX9_branch 71 = .ok (.istore 5, 2) := by decide +kernel
theorem dX9_branch_73 : decode cX9_branch 73 = .ok (.iinc 6 1, 3) := by decide +kernel
theorem dX9_branch_76 : decode cX9_branch 76 = .ok (.goto (-40), 3) := by decide +kernel
theorem dX9_branch_79 : decode cX9_branch 79 = .ok (.iload 5, 2) := by decide +kernel
theorem dX9_branch_81 : decode cX9_branch 81 = .ok (.ireturn, 1) := by decide +kernel
theorem dX10_init_0 : decode cX10_init 0 = .ok (.aload_n 0, 1) := by decide +kernel
theorem dX10_init_1 : decode cX10_init 1 = .ok (.invokespecial 1, 3) := by decide +kernel
theorem dX10_init_4 : decode cX10_init 4 = .ok (.aload_n 0, 1) := by decide +kernel
theorem dX10_init_5 : decode cX10_init 5 = .ok (.iconst 0, 1) := by decide +kernel
theorem dX10_init_6 : decode cX10_init 6 = .ok (.putfield 7, 3) := by decide +kernel
theorem dX10_init_9 : decode cX10_init 9 = .ok (.aload_n 0, 1) := by decide +kernel
theorem dX10_init_10 : decode cX10_init 10 = .ok (.iload_n 1, 1) := by decide +kernel
theorem dX10_init_11 : decode cX10_init 11 = .ok (.putfield 13, 3) := by decide +kernel
theorem dX10_init_14 : decode cX10_init 14 = .ok (.aload_n 0, 1) := by decide +kernel
theorem dX10_init_15 : decode cX10_init 15 = .ok (.new 16, 3) := by decide +kernel
theorem dX10_init_18 : decode cX10_init 18 = .ok (.dup, 1) := by decide +kernel
theorem dX10_init_19 : decode cX10_init 19 = .ok (.iload_n 1, 1) := by decide +kernel
theorem dX10_init_20 : decode cX10_init 20 = .ok (.invokespecial 18, 3) := by decide +kernel
theorem dX10_init_23 : decode cX10_init 23 = .ok (.putfield 21, 3) := by decide +kernel
theorem dX10_init_26 : decode cX10_init 26 = .ok (.return_, 1) := by decide +kernel
theorem dX10_at_0 : decode cX10_at 0 = .ok (.iload_n 1, 1) := by decide +kernel
theorem dX10_at_1 : decode cX10_at 1 = .ok (.ifCond .lt 23, 3) := by decide +kernel
theorem dX10_at_4 : decode cX10_at 4 = .ok (.iload_n 1, 1) := by decide +kernel
theorem dX10_at_5 : decode cX10_at 5 = .ok (.aload_n 0, 1) := by decide +kernel
theorem dX10_at_6 : decode cX10_at 6 = .ok (.getfield 7, 3) := by decide +kernel
theorem dX10_at_9 : decode cX10_at 9 = .ok (.if_icmp .ge 15, 3) := by decide +kernel
theorem dX10_at_12 : decode cX10_at 12 = .ok (.aload_n 0, 1) := by decide +kernel
theorem dX10_at_13 : decode cX10_at 13 = .ok (.getfield 21, 3) := by decide +kernel
theorem dX10_at_16 : decode cX10_at 16 = .ok (.iload_n 1, 1) := by decide +kernel
theorem dX10_at_17 : decode cX10_at 17 = .ok (.invokevirtual 25, 3) := by decide +kernel
theorem dX10_at_20 : decode cX10_at 20 = .ok (.i2c, 1) := by decide +kernel
theorem dX10_at_21 : decode cX10_at 21 = .ok (.goto 4, 3) := by decide +kernel
theorem dX10_at_24 : decode cX10_at 24 = .ok (.iconst 0, 1) := by decide +kernel
theorem dX10_at_25 : decode cX10_at 25 = .ok (.ireturn, 1) := by decide +kernel
theorem dX10_clear_0 : decode cX10_clear 0 = .ok (.aload_n 0, 1) := by decide +kernel
theorem dX10_clear_1 : decode cX10_clear 1 = .ok (.iconst 0, 1) := by decide +kernel
theorem dX10_clear_2 : decode cX10_clear 2 = .ok (.putfield 7, 3) := by decide +kernel
theorem dX10_clear_5 : decode cX10_clear 5 = .ok (.return_, 1) := by decide +kernel
theorem dX10_add_0 : decode cX10_add 0 = .ok (.aload_n 0, 1) := by decide +kernel
theorem dX10_add_1 : decode cX10_add 1 = .ok (.getfield 7, 3) := by decide +kernel
theorem dX10_add_4 : decode cX10_add 4 = .ok (.aload_n 0, 1) := by decide +kernel
theorem dX10_add_5 : decode cX10_add 5 = .ok (.getfield 13, 3) := by decide +kernel
theorem dX10_add_8 : decode cX10_add 8 = .ok (.if_icmp .ge 25, 3) := by decide +kernel
theorem dX10_add_11 : decode cX10_add 11 = .ok (.aload_n 0, 1) := by decide +kernel
theorem dX10_add_12 : decode cX10_add 12 = .ok (.getfield 21, 3) := by decide +kernel
theorem dX10_add_15 : decode cX10_add 15 = .ok (.aload_n 0, 1) := by decide +kernel
theorem dX10_add_16 : decode cX10_add 16 = .ok (.getfield 7, 3) := by decide +kernel
theorem dX10_add_19 : decode cX10_add 19 = .ok (.iload_n 1, 1) := by decide +kernel
theorem dX10_add_20 : decode cX10_add 20 = .ok (.invokevirtual 29, 3) := by decide +kernel
theorem dX10_add_23 : decode cX10_add 23 = .ok (.aload_n 0, 1) := by decide +kernel
theorem dX10_add_24 : decode cX10_add 24 = .ok (.dup, 1) := by decide +kernel
theorem dX10_add_25 : decode cX10_add 25 = .ok (.getfield 7, 3) := by decide +kernel
theorem dX10_add_28 : decode cX10_add 28 = .ok (.iconst 1, 1) := by decide +kernel
theorem dX10_add_29 : decode cX10_add 29 = .ok (.iadd, 1) := by decide +kernel
theorem dX10_add_30 : decode cX10_add 30 = .ok (.putfield 7, 3) := by decide +kernel
theorem dX10_add_33 : decode cX10_add 33 = .ok (.return_, 1) := by decide +kernel
theorem dX10_addNumber_0 : decode cX10_addNumber 0 = .ok (.iconst 0, 1) := by decide +kernel
theorem dX10_addNumber_1 : decode cX10_addNumber 1 = .ok (.istore_n 2, 1) := by decide +kernel
theorem dX10_addNumber_2 : decode cX10_addNumber 2 = .ok (.ldc 33, 2) := by decide +kernel
theorem dX10_addNumber_4 : decode cX10_addNumber 4 = .ok (.istore_n 3, 1) := by decide +kernel
theorem dX10_addNumber_5 : decode cX10_addNumber 5 = .ok (.iload_n 3, 1) := by decide +kernel
theorem dX10_addNumber_6 : decode cX10_addNumber 6 = .ok (.ifCond .le 53, 3) := by decide +kernel
theorem dX10_addNumber_9 : decode cX10_addNumber 9 = .ok (.iload_n 1, 1) := by decide +kernel
theorem dX10_addNumber_10 : decode cX10_addNumber 10 = .ok (.iload_n 3, 1) := by decide +kernel
theorem dX10_addNumber_11 : decode cX10_addNumber 11 = .ok (.idiv, 1) := by decide +kernel
theorem dX10_addNumber_12 : decode cX10_addNumber 12 = .ok (.bipush 10, 2) := by decide +kernel
theorem dX10_addNumber_14 : decode cX10_addNumber 14 = .ok (.irem, 1) := by decide +kernel
theorem dX10_addNumber_15 : decode cX10_addNumber 15 = .ok (.istore 4, 2) := by decide +kernel
theorem dX10_addNumber_17 : decode cX10_addNumber 17 = .ok (.iload_n 2, 1) := by decide +kernel
theorem dX10_addNumber_18 : decode cX10_addNumber 18 = .ok (.ifCond .ne 13, 3) := by decide +kernel
theorem dX10_addNumber_21 : decode cX10_addNumber 21 = .ok (.iload 4, 2) := by decide +kernel
theorem dX10_addNumber_23 : decode cX10_addNumber 23 = .ok (.ifCond .gt 8, 3) := by decide +kernel
theorem dX10_addNumber_26 : decode cX10_addNumber 26 = .ok (.iload_n 3, 1) := by decide +kernel
theorem dX10_addNumber_27 : decode cX10_addNumber 27 = .ok (.iconst 1, 1) := by decide +kernel
theorem dX10_addNumber_28 : decode cX10_addNumber 28 = .ok (.if_icmp .ne 7, 3) := by decide +kernel
theorem dX10_addNumber_31 : decode cX10_addNumber 31 = .ok (.iconst 1, 1) := by decide +kernel
theorem dX10_addNumber_32 : decode cX10_addNumber 32 = .ok (.goto 4, 3) := by decide +kernel
theorem dX10_addNumber_35 : decode cX10_addNumber 35 = .ok (.iconst 0, 1) := by decide +kernel
theorem dX10_addNumber_36 : decode cX10_addNumber 36 = .ok (.istore_n 2, 1) := by decide +kernel
theorem dX10_addNumber_37 : decode cX10_addNumber 37 = .ok (.iload_n 2, 1) := by decide +kernel
theorem dX10_addNumber_38 : decode cX10_addNumber 38 = .ok (.ifCond .eq 13, 3) := by decide +kernel
theorem dX10_addNumber_41 : decode cX10_addNumber 41 = .ok (.aload_n 0, 1) := by decide +kernel
theorem dX10_addNumber_42 : decode cX10_addNumber 42 = .ok (.bipush 48, 2) := by decide +kernel
theorem dX10_addNumber_44 : decode cX10_addNumber 44 = .ok (.iload 4, 2) := by decide +kernel
theorem dX10_addNumber_46 : decode cX10_addNumber 46 = .ok (.iadd, 1) := by decide +kernel
theorem dX10_addNumber_47 : decode cX10_addNumber 47 = .ok (.i2c, 1) := by decide +kernel
theorem dX10_addNumber_48 : decode cX10_addNumber 48 = .ok (.invokevirtual 34, 3) := by decide +kernel
theorem dX10_addNumber_51 : decode cX10_addNumber 51 = .ok (.iload_n 3, 1) := by decide +kernel
theorem dX10_addNumber_52 : decode cX10_addNumber 52 = .ok (.bipush 10, 2) := by decide +kernel
theorem dX10_addNumber_54 : decode cX10_addNumber 54 = .ok (.idiv, 1) := by decide +kernel
theorem dX10_addNumber_55 : decode cX10_addNumber 55 = .ok (.istore_n 3, 1) := by decide +kernel
theorem dX10_addNumber_56 : decode cX10_addNumber 56 = .ok (.goto (-51), 3) := by decide +kernel
theorem dX10_addNumber_59 : decode cX10_addNumber 59 = .ok (.return_, 1) := by decide +kernel
theorem dX10_copyFrom_0 : decode cX10_copyFrom 0 = .ok (.aload_n 0, 1) := by decide +kernel
theorem dX10_copyFrom_1 : decode cX10_copyFrom 1 = .ok (.getfield 21, 3) := by decide +kernel
theorem dX10_copyFrom_4 : decode cX10_copyFrom 4 = .ok (.aload_n 1, 1) := by decide +kernel
theorem dX10_copyFrom_5 : decode cX10_copyFrom 5 = .ok (.getfield 21, 3) := by decide +kernel
theorem dX10_copyFrom_8 : decode cX10_copyFrom 8 = .ok (.invokevirtual 38, 3) := by decide +kernel
theorem dX10_copyFrom_11 : decode cX10_copyFrom 11 = .ok (.aload_n 0, 1) := by decide +kernel
theorem dX10_copyFrom_12 : decode cX10_copyFrom 12 = .ok (.aload_n 1, 1) := by decide +kernel
theorem dX10_copyFrom_13 : decode cX10_copyFrom 13 = .ok (.getfield 7, 3) := by decide +kernel
theorem dX10_copyFrom_16 : decode cX10_copyFrom 16 = .ok (.aload_n 0, 1) := by decide +kernel
theorem dX10_copyFrom_17 : decode cX10_copyFrom 17 = .ok (.getfield 13, 3) := by decide +kernel
theorem dX10_copyFrom_20 : decode cX10_copyFrom 20 = .ok (.invokestatic 42, 3) := by decide +kernel
theorem dX10_copyFrom_23 : decode cX10_copyFrom 23 = .ok (.putfield 7, 3) := by decide +kernel
theorem dX10_copyFrom_26 : decode cX10_copyFrom 26 = .ok (.return_, 1) := by decide +kernel
theorem dX10_isLetters_0 : decode cX10_isLetters 0 = .ok (.iconst 0, 1) := by decide +kernel
theorem dX10_isLetters_1 : decode cX10_isLetters 1 = .ok (.istore_n 2, 1) := by decide +kernel
theorem dX10_isLetters_2 : decode cX10_isLetters 2 = .ok (.iload_n 2, 1) := by decide +kernel
theorem dX10_isLetters_3 : decode cX10_isLetters 3 = .ok (.aload_n 0, 1) := by decide +kernel
theorem dX10_isLetters_4 : decode cX10_isLetters 4 = .ok (.getfield 7, 3) := by decide +kernel
theorem dX10_isLetters_7 : decode cX10_isLetters 7 = .ok (.if_icmp .ge 31, 3) := by decide +kernel
theorem dX10_isLetters_10 : decode cX10_isLetters 10 = .ok (.aload_n 0, 1) := by decide +kernel
theorem dX10_isLetters_11 : decode cX10_isLetters 11 = .ok (.iload_n 2, 1) := by decide +kernel
theorem dX10_isLetters_12 : decode cX10_isLetters 12 = .ok (.invokevirtual 48, 3) := by decide +kernel
theorem dX10_isLetters_15 : decode cX10_isLetters 15 = .ok (.bipush 97, 2) := by decide +kernel
theorem dX10_isLetters_17 : decode cX10_isLetters 17 = .ok (.if_icmp .lt 13, 3) := by decide +kernel
theorem dX10_isLetters_20 : decode cX10_isLetters 20 = .ok (.aload_n 0, 1) := by decide +kernel
theorem dX10_isLetters_21 : decode cX10_isLetters 21 = .ok (.iload_n 2, 1) := by decide +kernel
theorem dX10_isLetters_22 : decode cX10_isLetters 22 = .ok (.invokevirtual 48, 3) := by decide +kernel
theorem dX10_isLetters_25 : decode cX10_isLetters 25 = .ok (.bipush 104, 2) := by decide +kernel
theorem dX10_isLetters_27 : decode cX10_isLetters 27 = .ok (.if_icmp .le 5, 3) := by decide +kernel
theorem dX10_isLetters_30 : decode cX10_isLetters 30 = .ok (.iconst 0, 1) := by decide +kernel
theorem dX10_isLetters_31 : decode cX10_isLetters 31 = .ok (.ireturn, 1) := by decide +kernel
theorem dX10_isLetters_32 : decode cX10_isLetters 32 = .ok (.iinc 2 1, 3) := by decide +kernel
theorem dX10_isLetters_35 : decode cX10_isLetters 35 = .ok (.goto (-33), 3) := by decide +kernel
theorem dX10_isLetters_38 : decode cX10_isLetters 38 = .ok (.aload_n 0, 1) := by decide +kernel
theorem dX10_isLetters_39 : decode cX10_isLetters 39 = .ok (.getfield 7, 3) := by decide +kernel
theorem dX10_isLetters_42 : decode cX10_isLetters 42 = .ok (.iconst 1, 1) := by decide +kernel
theorem dX10_isLetters_43 : decode cX10_isLetters 43 = .ok (.if_icmp .lt 15, 3) := by decide +kernel
theorem dX10_isLetters_46 : decode cX10_isLetters 46 = .ok (.aload_n 0, 1) := by decide +kernel
theorem dX10_isLetters_47 : decode cX10_isLetters 47 = .ok (.getfield 7, 3) := by decide +kernel
theorem dX10_isLetters_50 : decode cX10_isLetters 50 = .ok (.iload_n 1, 1) := by decide +kernel
theorem dX10_isLetters_51 : decode cX10_isLetters 51 = .ok (.if_icmp .gt 7, 3) := by decide +kernel
theorem dX10_isLetters_54 : decode cX10_isLetters 54 = .ok (.iconst 1, 1) := by decide +kernel
theorem dX10_isLetters_55 : decode cX10_isLetters 55 = .ok (.goto 4, 3) := by decide +kernel
theorem dX10_isLetters_58 : decode cX10_isLetters 58 = .ok (.iconst 0, 1) := by decide +kernel
theorem dX10_isLetters_59 : decode cX10_isLetters 59 = .ok (.ireturn, 1) := by decide +kernel
theorem dX11_init_0 : decode cX11_init 0 = .ok (.aload_n 0, 1) := by decide +kernel
theorem dX11_init_1 : decode cX11_init 1 = .ok (.invokespecial 1, 3) := by decide +kernel
theorem dX11_init_4 : decode cX11_init 4 = .ok (.aload_n 0, 1) := by decide +kernel
theorem dX11_init_5 : decode cX11_init 5 = .ok (.new 7, 3) := by decide +kernel
theorem dX11_init_8 : decode cX11_init 8 = .ok (.dup, 1) := by decide +kernel
theorem dX11_init_9 : decode cX11_init 9 = .ok (.invokespecial 9, 3) := by decide +kernel
theorem dX11_init_12 : decode cX11_init 12 = .ok (.putfield 10, 3) := by decide +kernel
theorem dX11_init_15 : decode cX11_init 15 = .ok (.aload_n 0, 1) := by decide +kernel
theorem dX11_init_16 : decode cX11_init 16 = .ok (.new 7, 3) := by decide +kernel
theorem dX11_init_19 : decode cX11_init 19 = .ok (.dup, 1) := by decide +kernel
theorem dX11_init_20 : decode cX11_init 20 = .ok (.invokespecial 9, 3) := by decide +kernel
theorem dX11_init_23 : decode cX11_init 23 = .ok (.putfield 16, 3) := by decide +kernel
theorem dX11_init_26 : decode cX11_init 26 = .ok (.aload_n 0, 1) := by decide +kernel
theorem dX11_init_27 : decode cX11_init 27 = .ok (.new 7, 3) := by decide +kernel
theorem dX11_init_30 : decode cX11_init 30 = .ok (.dup, 1) := by decide +kernel
theorem dX11_init_31 : decode cX11_init 31 = .ok (.invokespecial 9, 3) := by decide +kernel
theorem dX11_init_34 : decode cX11_init 34 = .ok (.putfield 19, 3) := by decide +kernel
theorem dX11_init_37 : decode cX11_init 37 = .ok (.aload_n 0, 1) := by decide +kernel
theorem dX11_init_38 : decode cX11_init 38 = .ok (.new 22, 3) := by decide +kernel
theorem dX11_init_41 : decode cX11_init 41 = .ok (.dup, 1) := by decide +kernel
theorem dX11_init_42 : decode cX11_init 42 = .ok (.invokespecial 24, 3) := by decide +kernel
theorem dX11_init_45 : decode cX11_init 45 = .ok (.putfield 25, 3) := by decide +kernel
theorem dX11_init_48 : decode cX11_init 48 = .ok (.aload_n 0, 1) := by decide +kernel
theorem dX11_init_49 : decode cX11_init 49 = .ok (.new 29, 3) := by decide +kernel
theorem dX11_init_52 : decode cX11_init 52 = .ok (.dup, 1) := by decide +kernel
theorem dX11_init_53 : decode cX11_init 53 = .ok (.bipush 60, 2) := by decide +kernel
theorem dX11_init_55 : decode cX11_init 55 = .ok (.invokespecial 31, 3) := by decide +kernel
theorem dX11_init_58 : decode cX11_init 58 = .ok (.putfield 34, 3) := by decide +kernel
theorem dX11_init_61 : decode cX11_init 61 = .ok (.aload_n 0, 1) := by decide +kernel
theorem dX11_init_62 : decode cX11_init 62 = .ok (.new 29, 3) := by decide +kernel
theorem dX11_init_65 : decode cX11_init 65 = .ok (.dup, 1) := by decide +kernel
theorem dX11_init_66 : decode cX11_init 66 = .ok (.bipush 60, 2) := by decide +kernel
theorem dX11_init_68 : decode cX11_init 68 = .ok (.invokespecial 31, 3) := by decide +kernel
theorem dX11_init_71 : decode cX11_init 71 = .ok (.putfield 38, 3) := by decide +kernel
theorem dX11_init_74 : decode cX11_init 74 = .ok (.aload_n 0, 1) := by decide +kernel
theorem dX11_init_75 : decode cX11_init 75 = .ok (.new 29, 3) := by decide +kernel
theorem dX11_init_78 : decode cX11_init 78 = .ok (.dup, 1) := by decide +kernel
theorem dX11_init_79 : decode cX11_init 79 = .ok (.bipush 6, 2) := by decide +kernel
theorem dX11_init_81 : decode cX11_init 81 = .ok (.invokespecial 31, 3) := by decide +kernel
theorem dX11_init_84 : decode cX11_init 84 = .ok (.putfield 41, 3) := by decide +kernel
theorem dX11_init_87 : decode cX11_init 87 = .ok (.aload_n 0, 1) := by decide +kernel
theorem dX11_init_88 : decode cX11_init 88 = .ok (.new 44, 3) := by decide +kernel
theorem dX11_init_91 : decode cX11_init 91 = .ok (.dup, 1) := by decide +kernel
theorem dX11_init_92 : decode cX11_init 92 = .ok (.invokespecial 46, 3) := by decide +kernel
theorem dX11_init_95 : decode cX11_init 95 = .ok (.putfield 47, 3) := by decide +kernel
theorem dX11_init_98 : decode cX11_init 98 = .ok (.aload_n 0, 1) := by decide +kernel
theorem dX11_init_99 : decode cX11_init 99 = .ok (.new 51, 3) := by decide +kernel
theorem dX11_init_102 : decode cX11_init 102 = .ok (.dup, 1) := by decide +kernel
theorem dX11_init_103 : decode cX11_init 103 = .ok (.invokespecial 53, 3) := by decide +kernel
theorem dX11_init_106 : decode cX11_init 106 = .ok (.putfield 54, 3) := by decide +kernel
theorem dX11_init_109 : decode cX11_init 109 = .ok (.aload_n 0, 1) := by decide +kernel
theorem dX11_init_110 : decode cX11_init 110 = .ok (.new 58, 3) := by decide +kernel
theorem dX11_init_113 : decode cX11_init 113 = .ok (.dup, 1) := by decide +kernel
theorem dX11_init_114 : decode cX11_init 114 = .ok (.invokespecial 60, 3) := by decide +kernel
theorem dX11_init_117 : decode cX11_init 117 = .ok (.putfield 61, 3) := by decide +kernel
theorem dX11_init_120 : decode cX11_init 120 = .ok (.aload_n 0, 1) := by decide +kernel
theorem dX11_init_121 : decode cX11_init 121 = .ok (.iconst 0, 1) := by decide +kernel
theorem dX11_init_122 : decode cX11_init 122 = .ok (.putfield 65, 3) := by decide +kernel
theorem dX11_init_125 : decode cX11_init 125 = .ok (.aload_n 0, 1) := by decide +kernel
theorem dX11_init_126 : decode cX11_init 126 = .ok (.iconst (-1), 1) := by decide +kernel
theorem dX11_init_127 : decode cX11_init 127 = .ok (.putfield 69, 3) := by decide +kernel
theorem dX11_init_130 : decode cX11_init 130 = .ok (.aload_n 0, 1) := by decide +kernel
theorem dX11_init_131 : decode cX11_init 131 = .ok (.iconst (-1), 1) := by decide +kernel
theorem dX11_init_132 : decode cX11_init 132 = .ok (.putfield 73, 3) := by decide +kernel
theorem dX11_init_135 : decode cX11_init 135 = .ok (.return_, 1) := by decide +kernel
theorem dX11_addRaw_0 : decode cX11_addRaw 0 = .ok (.aload_n 0, 1) := by decide +kernel
theorem dX11_addRaw_1 : decode cX11_addRaw 1 = .ok (.getfield 10, 3) := by decide +kernel
theorem dX11_addRaw_4 : decode cX11_addRaw 4 = .ok (.invokevirtual 76, 3) := by decide +kernel
theorem dX11_addRaw_7 : decode cX11_addRaw 7 = .ok (.invokestatic 80, 3) := by decide +kernel
theorem dX11_addRaw_10 : decode cX11_addRaw 10 = .ok (.aload_n 0, 1) := by decide +kernel
theorem dX11_addRaw_11 : decode cX11_addRaw 11 = .ok (.getfield 25, 3) := by decide +kernel
theorem dX11_addRaw_14 : decode cX11_addRaw 14 = .ok (.aload_n 0, 1) := by decide +kernel
theorem dX11_addRaw_15 : decode cX11_addRaw 15 = .ok (.getfield 10, 3) := by decide +kernel
theorem dX11_addRaw_18 : decode cX11_addRaw 18 = .ok (.invokevirtual 83, 3) := by decide +kernel
theorem dX11_addRaw_21 : decode cX11_addRaw 21 = .ok (.aload_n 0, 1) := by decide +kernel
theorem dX11_addRaw_22 : decode cX11_addRaw 22 = .ok (.getfield 10, 3) := by decide +kernel
theorem dX11_addRaw_25 : decode cX11_addRaw 25 = .ok (.getfield 87, 3) := by decide +kernel
theorem dX11_addRaw_28 : decode cX11_addRaw 28 = .ok (.invokevirtual 91, 3) := by decide +kernel
theorem dX11_addRaw_31 : decode cX11_addRaw 31 = .ok (.ireturn, 1) := by decide +kernel
theorem dX11_mix_0 : decode cX11_mix 0 = .ok (.aload_n 0, 1) := by decide +kernel
theorem dX11_mix_1 : decode cX11_mix 1 = .ok (.getfield 10, 3) := by decide +kernel
theorem dX11_mix_4 : decode cX11_mix 4 = .ok (.iload_n 1, 1) := by decide +kernel
theorem dX11_mix_5 : decode cX11_mix 5 = .ok (.iload_n 2, 1) := by decide +kernel
theorem dX11_mix_6 : decode cX11_mix 6 = .ok (.invokevirtual 96, 3) := by decide +kernel
theorem dX11_mix_9 : decode cX11_mix 9 = .ok (.invokestatic 80, 3) := by decide +kernel
theorem dX11_mix_12 : decode cX11_mix 12 = .ok (.aload_n 0, 1) := by decide +kernel
theorem dX11_mix_13 : decode cX11_mix 13 = .ok (.getfield 25, 3) := by decide +kernel
theorem dX11_mix_16 : decode cX11_mix 16 = .ok (.aload_n 0, 1) := by decide +kernel
theorem dX11_mix_17 : decode cX11_mix 17 = .ok (.getfield 10, 3) := by decide +kernel
theorem dX11_mix_20 : decode cX11_mix 20 = .ok (.invokevirtual 83, 3) := by decide +kernel
theorem dX11_mix_23 : decode cX11_mix 23 = .ok (.aload_n 0, 1) := by decide +kernel
theorem dX11_mix_24 : decode cX11_mix 24 = .ok (.getfield 10, 3) := by decide +kernel
theorem dX11_mix_27 : decode cX11_mix 27 = .ok (.getfield 87, 3) := by decide +kernel
theorem dX11_mix_30 : decode cX11_mix 30 = .ok (.iload_n 1, 1) := by decide +kernel
theorem dX11_mix_31 : decode cX11_mix 31 = .ok (.iload_n 2, 1) := by decide +kernel
theorem dX11_mix_32 : decode cX11_mix 32 = .ok (.invokevirtual 100, 3) := by decide +kernel
theorem dX11_mix_35 : decode cX11_mix 35 = .ok (.ireturn, 1) := by decide +kernel
theorem dX11_rawCount_0 : decode cX11_rawCount 0 = .ok (.aload_n 0, 1) := by decide +kernel
theorem dX11_rawCount_1 : decode cX11_rawCount 1 = .ok (.getfield 10, 3) := by decide +kernel
theorem dX11_rawCount_4 : decode cX11_rawCount 4 = .ok (.getfield 87, 3) := by decide +kernel
theorem dX11_rawCount_7 : decode cX11_rawCount 7 = .ok (.getfield 103, 3) := by decide +kernel
theorem dX11_rawCount_10 : decode cX11_rawCount 10 = .ok (.ireturn, 1) := by decide +kernel
theorem dX11_batchCount_0 : decode cX11_batchCount 0 = .ok (.aload_n 0, 1) := by decide +kernel
theorem dX11_batchCount_1 : decode cX11_batchCount 1 = .ok (.getfield 10, 3) := by decide +kernel
theorem dX11_batchCount_4 : decode cX11_batchCount 4 = .ok (.getfield 87, 3) := by decide +kernel
theorem dX11_batchCount_7 : decode cX11_batchCount 7 = .ok (.getfield 106, 3) := by decide +kernel
theorem dX11_batchCount_10 : decode cX11_batchCount 10 = .ok (.ireturn, 1) := by decide +kernel
theorem dX11_isFaulty_0 : decode cX11_isFaulty 0 = .ok (.aload_n 0, 1) := by decide +kernel
theorem dX11_isFaulty_1 : decode cX11_isFaulty 1 = .ok (.iload_n 1, 1) := by decide +kernel
theorem dX11_isFaulty_2 : decode cX11_isFaulty 2 = .ok (.invokevirtual 109, 3) := by decide +kernel
theorem dX11_isFaulty_5 : decode cX11_isFaulty 5 = .ok (.aload_n 0, 1) := by decide +kernel
theorem dX11_isFaulty_6 : decode cX11_isFaulty 6 = .ok (.getfield 10, 3) := by decide +kernel
theorem dX11_isFaulty_9 : decode cX11_isFaulty 9 = .ok (.getfield 87, 3) := by decide +kernel
theorem dX11_isFaulty_12 : decode cX11_isFaulty 12 = .ok (.iload_n 1, 1) := by decide +kernel
theorem dX11_isFaulty_13 : decode cX11_isFaulty 13 = .ok (.invokevirtual 112, 3) := by decide +kernel
theorem dX11_isFaulty_16 : decode cX11_isFaulty 16 = .ok (.ireturn, 1) := by decide +kernel
theorem dX11_strengthOf_0 : decode cX11_strengthOf 0 = .ok (.aload_n 0, 1) := by decide +kernel
theorem dX11_strengthOf_1 : decode cX11_strengthOf 1 = .ok (.iload_n 1, 1) := by decide +kernel
theorem dX11_strengthOf_2 : decode cX11_strengthOf 2 = .ok (.invokevirtual 116, 3) := by decide +kernel
theorem dX11_strengthOf_5 : decode cX11_strengthOf 5 = .ok (.aload_n 0, 1) := by decide +kernel
theorem dX11_strengthOf_6 : decode cX11_strengthOf 6 = .ok (.getfield 10, 3) := by decide +kernel
theorem dX11_strengthOf_9 : decode cX11_strengthOf 9 = .ok (.getfield 87, 3) := by decide +kernel
theorem dX11_strengthOf_12 : decode cX11_strengthOf 12 = .ok (.getfield 119, 3) := by decide +kernel
theorem dX11_strengthOf_15 : decode cX11_strengthOf 15 = .ok (.iload_n 1, 1) := by decide +kernel
theorem dX11_strengthOf_16 : decode cX11_strengthOf 16 = .ok (.invokevirtual 123, 3) := by decide +kernel
theorem dX11_strengthOf_19 : decode cX11_strengthOf 19 = .ok (.ireturn, 1) := by decide +kernel
theorem dX11_batchContains_0 : decode cX11_batchContains 0 = .ok (.aload_n 0, 1) := by decide +kernel
theorem dX11_batchContains_1 : decode cX11_batchContains 1 = .ok (.iload_n 1, 1) := by decide +kernel
theorem dX11_batchContains_2 : decode cX11_batchContains 2 = .ok (.invokevirtual 116, 3) := by decide +kernel
theorem dX11_batchContains_5 : decode cX11_batchContains 5 = .ok (.aload_n 0, 1) := by decide +kernel
theorem dX11_batchContains_6 : decode cX11_batchContains 6 = .ok (.iload_n 2, 1) := by decide +kernel
theorem dX11_batchContains_7 : decode cX11_batchContains 7 = .ok (.invokevirtual 109, 3) := by decide +kernel
theorem dX11_batchContains_10 : decode cX11_batchContains 10 = .ok (.aload_n 0, 1) := by decide +kernel
theorem dX11_batchContains_11 : decode cX11_batchContains 11 = .ok (.getfield 10, 3) := by decide +kernel
theorem dX11_batchContains_14 : decode cX11_batchContains 14 = .ok (.getfield 87, 3) := by decide +kernel
theorem dX11_batchContains_17 : decode cX11_batchContains 17 = .ok (.getfield 129, 3) := by decide +kernel
theorem dX11_batchContains_20 : decode cX11_batchContains 20 = .ok (.iload_n 1, 1) := by decide +kernel
theorem dX11_batchContains_21 : decode cX11_batchContains 21 = .ok (.invokevirtual 123, 3) := by decide +kernel
theorem dX11_batchContains_24 : decode cX11_batchContains 24 = .ok (.iload_n 2, 1) := by decide +kernel
theorem dX11_batchContains_25 : decode cX11_batchContains 25 = .ok (.invokestatic 132, 3) := by decide +kernel
theorem dX11_batchContains_28 : decode cX11_batchContains 28 = .ok (.ireturn, 1) := by decide +kernel
theorem dX11_addLabel_0 : decode cX11_addLabel 0 = .ok (.aload_n 0, 1) := by decide +kernel
theorem dX11_addLabel_1 : decode cX11_addLabel 1 = .ok (.getfield 10, 3) := by decide +kernel
theorem dX11_addLabel_4 : decode cX11_addLabel 4 = .ok (.aload_n 0, 1) := by decide +kernel
theorem dX11_addLabel_5 : decode cX11_addLabel 5 = .ok (.getfield 34, 3) := by decide +kernel
theorem dX11_addLabel_8 : decode cX11_addLabel 8 = .ok (.invokevirtual 136, 3) := by decide +kernel
theorem dX11_addLabel_11 : decode cX11_addLabel 11 = .ok (.istore_n 1, 1) := by decide +kernel
theorem dX11_addLabel_12 : decode cX11_addLabel 12 = .ok (.iload_n 1, 1) := by decide +kernel
theorem dX11_addLabel_13 : decode cX11_addLabel 13 = .ok (.ifCond .ne 28, 3) := by decide +kernel
theorem dX11_addLabel_16 : decode cX11_addLabel 16 = .ok (.aload_n 0, 1) := by decide +kernel
theorem dX11_addLabel_17 : decode cX11_addLabel 17 = .ok (.getfield 25, 3) := by decide +kernel
theorem dX11_addLabel_20 : decode cX11_addLabel 20 = .ok (.aload_n 0, 1) := by decide +kernel
theorem dX11_addLabel_21 : decode cX11_addLabel 21 = .ok (.getfield 10, 3) := by decide +kernel
theorem dX11_addLabel_24 : decode cX11_addLabel 24 = .ok (.invokevirtual 83, 3) := by decide +kernel
theorem dX11_addLabel_27 : decode cX11_addLabel 27 = .ok (.aload_n 0, 1) := by decide +kernel
theorem dX11_addLabel_28 : decode cX11_addLabel 28 = .ok (.getfield 10, 3) := by decide +kernel
theorem dX11_addLabel_31 : decode cX11_addLabel 31 = .ok (.getfield 140, 3) := by decide +kernel
theorem dX11_addLabel_34 : decode cX11_addLabel 34 = .ok (.aload_n 0, 1) := by decide +kernel
theorem dX11_addLabel_35 : decode cX11_addLabel 35 = .ok (.getfield 34, 3) := by decide +kernel
theorem dX11_addLabel_38 : decode cX11_addLabel 38 = .ok (.invokevirtual 144, 3) := by decide +kernel
theorem dX11_addLabel_41 : decode cX11_addLabel 41 = .ok (.aload_n 0, 1) := by decide +kernel
theorem dX11_addLabel_42 : decode cX11_addLabel 42 = .ok (.getfield 34, 3) := by decide +kernel
theorem dX11_addLabel_45 : decode cX11_addLabel 45 = .ok (.invokevirtual 150, 3) := by decide +kernel
theorem dX11_addLabel_48 : decode cX11_addLabel 48 = .ok (.iload_n 1, 1) := by decide +kernel
theorem dX11_addLabel_49 : decode cX11_addLabel 49 = .ok (.invokestatic 80, 3) := by decide +kernel
theorem dX11_addLabel_52 : decode cX11_addLabel 52 = .ok (.aload_n 0, 1) := by decide +kernel
theorem dX11_addLabel_53 : decode cX11_addLabel 53 = .ok (.getfield 10, 3) := by decide +kernel
theorem dX11_addLabel_56 : decode cX11_addLabel 56 = .ok (.getfield 140, 3) := by decide +kernel
theorem dX11_addLabel_59 : decode cX11_addLabel 59 = .ok (.getfield 153, 3) := by decide +kernel
theorem dX11_addLabel_62 : decode cX11_addLabel 62 = .ok (.iconst 1, 1) := by decide +kernel
theorem dX11_addLabel_63 : decode cX11_addLabel 63 = .ok (.isub, 1) := by decide +kernel
theorem dX11_addLabel_64 : decode cX11_addLabel 64 = .ok (.ireturn, 1) := by decide +kernel
theorem dX11_labelCount_0 : decode cX11_labelCount 0 = .ok (.aload_n 0, 1) := by decide +kernel
theorem dX11_labelCount_1 : decode cX11_labelCount 1 = .ok (.getfield 10, 3) := by decide +kernel
theorem dX11_labelCount_4 : decode cX11_labelCount 4 = .ok (.getfield 140, 3) := by decide +kernel
theorem dX11_labelCount_7 : decode cX11_labelCount 7 = .ok (.getfield 153, 3) := by decide +kernel
theorem dX11_labelCount_10 : decode cX11_labelCount 10 = .ok (.ireturn, 1) := by decide +kernel
theorem dX11_labelLength_0 : decode cX11_labelLength 0 = .ok (.aload_n 0, 1) := by decide +kernel
theorem dX11_labelLength_1 : decode cX11_labelLength 1 = .ok (.iload_n 1, 1) := by decide +kernel
theorem dX11_labelLength_2 : decode cX11_labelLength 2 = .ok (.invokevirtual 156, 3) := by decide +kernel
theorem dX11_labelLength_5 : decode cX11_labelLength 5 = .ok (.aload_n 0, 1) := by decide +kernel
theorem dX11_labelLength_6 : decode cX11_labelLength 6 = .ok (.getfield 10, 3) := by decide +kernel
theorem dX11_labelLength_9 : decode cX11_labelLength 9 = .ok (.getfield 140, 3) := by decide +kernel
theorem dX11_labelLength_12 : decode cX11_labelLength 12 = .ok (.getfield 159, 3) := by decide +kernel
theorem dX11_labelLength_15 : decode cX11_labelLength 15 = .ok (.iload_n 1, 1) := by decide +kernel
theorem dX11_labelLength_16 : decode cX11_labelLength 16 = .ok (.invokevirtual 123, 3) := by decide +kernel
theorem dX11_labelLength_19 : decode cX11_labelLength 19 = .ok (.ireturn, 1) := by decide +kernel
theorem dX11_labelLetter_0 : decode cX11_labelLetter 0 = .ok (.aload_n 0, 1) := by decide +kernel
theorem dX11_labelLetter_1 : decode cX11_labelLetter 1 = .ok (.iload_n 1, 1) := by decide +kernel
theorem dX11_labelLetter_2 : decode cX11_labelLetter 2 = .ok (.invokevirtual 156, 3) := by decide +kernel
theorem dX11_labelLetter_5 : decode cX11_labelLetter 5 = .ok (.iload_n 2, 1) := by decide +kernel
theorem dX11_labelLetter_6 : decode cX11_labelLetter 6 = .ok (.ifCond .lt 21, 3) := by decide +kernel
theorem dX11_labelLetter_9 : decode cX11_labelLetter 9 = .ok (.iload_n 2, 1) := by decide +kernel
theorem dX11_labelLetter_10 : decode cX11_labelLetter 10 = .ok (.aload_n 0, 1) := by decide +kernel
theorem dX11_labelLetter_11 : decode cX11_labelLetter 11 = .ok (.getfield 10, 3) := by decide +kernel
theorem dX11_labelLetter_14 : decode cX11_labelLetter 14 = .ok (.getfield 140, 3) := by decide +kernel
theorem dX11_labelLetter_17 : decode cX11_labelLetter 17 = .ok (.getfield 159, 3) := by decide +kernel
theorem dX11_labelLetter_20 : decode cX11_labelLetter 20 = .ok (.iload_n 1, 1) := by decide +kernel
theorem dX11_labelLetter_21 : decode cX11_labelLetter 21 = .ok (.invokevirtual 123, 3) := by decide +kernel
theorem dX11_labelLetter_24 : decode cX11_labelLetter 24 = .ok (.if_icmp .lt 13, 3) := by decide +kernel
theorem dX11_labelLetter_27 : decode cX11_labelLetter 27 = .ok (.new 162, 3) := by decide +kernel
theorem dX11_labelLetter_30 : decode cX11_labelLetter 30 = .ok (.dup, 1) := by decide +kernel
theorem dX11_labelLetter_31 : decode cX11_labelLetter 31 = .ok (.ldc 164, 2) := by decide +kernel
theorem dX11_labelLetter_33 : decode cX11_labelLetter 33 = .ok (.invokespecial 166, 3) := by decide +kernel
theorem dX11_labelLetter_36 : decode cX11_labelLetter 36 = .ok (.athrow, 1) := by decide +kernel
theorem dX11_labelLetter_37 : decode cX11_labelLetter 37 = .ok (.aload_n 0, 1) := by decide +kernel
theorem dX11_labelLetter_38 : decode cX11_labelLetter 38 = .ok (.getfield 10, 3) := by decide +kernel
theorem dX11_labelLetter_41 : decode cX11_labelLetter 41 = .ok (.getfield 140, 3) := by decide +kernel
theorem dX11_labelLetter_44 : decode cX11_labelLetter 44 = .ok (.iload_n 1, 1) := by decide +kernel
theorem dX11_labelLetter_45 : decode cX11_labelLetter 45 = .ok (.iload_n 2, 1) := by decide +kernel
theorem dX11_labelLetter_46 : decode cX11_labelLetter 46 = .ok (.invokevirtual 169, 3) := by decide +kernel
theorem dX11_labelLetter_49 : decode cX11_labelLetter 49 = .ok (.ireturn, 1) := by decide +kernel
theorem dX11_scan_0 : decode cX11_scan 0 = .ok (.aload_n 0, 1) := by decide +kernel
theorem dX11_scan_1 : decode cX11_scan 1 = .ok (.invokevirtual 173, 3) := by decide +kernel
theorem dX11_scan_4 : decode cX11_scan 4 = .ok (.aload_n 0, 1) := by decide +kernel
theorem dX11_scan_5 : decode cX11_scan 5 = .ok (.getfield 10, 3) := by decide +kernel
theorem dX11_scan_8 : decode cX11_scan 8 = .ok (.getfield 140, 3) := by decide +kernel
theorem dX11_scan_11 : decode cX11_scan 11 = .ok (.getfield 153, 3) := by decide +kernel
theorem dX11_scan_14 : decode cX11_scan 14 = .ok (.ifCond .ne 13, 3) := by decide +kernel
theorem dX11_scan_17 : decode cX11_scan 17 = .ok (.new 176, 3) := by decide +kernel
theorem dX11_scan_20 : decode cX11_scan 20 = .ok (.dup, 1) := by decide +kernel
theorem dX11_scan_21 : decode cX11_scan 21 = .ok (.ldc 178, 2) := by decide +kernel
theorem dX11_scan_23 : decode cX11_scan 23 = .ok (.invokespecial 180, 3) := by decide +kernel
theorem dX11_scan_26 : decode cX11_scan 26 = .ok (.athrow, 1) := by decide +kernel
theorem dX11_scan_27 : decode cX11_scan 27 = .ok (.iconst 0, 1) := by decide +kernel
theorem dX11_scan_28 : decode cX11_scan 28 = .ok (.istore_n 1, 1) := by decide +kernel
theorem dX11_scan_29 : decode cX11_scan 29 = .ok (.aload_n 0, 1) := by decide +kernel
theorem dX11_scan_30 : decode cX11_scan 30 = .ok (.iconst 0, 1) := by decide +kernel
theorem dX11_scan_31 : decode cX11_scan 31 = .ok (.invokevirtual 181, 3) := by decide +kernel
theorem dX11_scan_34 : decode cX11_scan 34 = .ok (.istore_n 2, 1) := by decide +kernel
theorem dX11_scan_35 : decode cX11_scan 35 = .ok (.iconst 1, 1) := by decide +kernel
theorem dX11_scan_36 : decode cX11_scan 36 = .ok (.istore_n 3, 1) := by decide +kernel
theorem dX11_scan_37 : decode cX11_scan 37 = .ok (.iload_n 3, 1) := by decide +kernel
theorem dX11_scan_38 : decode cX11_scan 38 = .ok (.aload_n 0, 1) := by decide +kernel
theorem dX11_scan_39 : decode cX11_scan 39 = .ok (.getfield 10, 3) := by decide +kernel
theorem dX11_scan_42 : decode cX11_scan 42 = .ok (.getfield 140, 3) := by decide +kernel
theorem dX11_scan_45 : decode cX11_scan 45 = .ok (.getfield 153, 3) := by decide +kernel
theorem dX11_scan_48 : decode cX11_scan 48 = .ok (.if_icmp .ge 27, 3) := by decide +kernel
theorem dX11_scan_51 : decode cX11_scan 51 = .ok (.aload_n 0, 1) := by decide +kernel
theorem dX11_scan_52 : decode cX11_scan 52 = .ok (.iload_n 3, 1) := by decide +kernel
theorem dX11_scan_53 : decode cX11_scan 53 = .ok (.invokevirtual 181, 3) := by decide +kernel
theorem dX11_scan_56 : decode cX11_scan 56 = .ok (.istore 4, 2) := by decide +kernel
theorem dX11_scan_58 : decode cX11_scan 58 = .ok (.iload 4, 2) := by decide +kernel
theorem dX11_scan_60 : decode cX11_scan 60 = .ok (.iload_n 2, 1) := by decide +kernel
theorem dX11_scan_61 : decode cX11_scan 61 = .ok (.if_icmp .ge 8, 3) := by decide +kernel
theorem dX11_scan_64 : decode cX11_scan 64 = .ok (.iload 4, 2) := by decide +kernel
theorem dX11_scan_66 : decode cX11_scan 66 = .ok (.istore_n 2, 1) := by decide +kernel
theorem dX11_scan_67 : decode cX11_scan 67 = .ok (.iload_n 3, 1) := by decide +kernel
theorem dX11_scan_68 : decode cX11_scan 68 = .ok (.istore_n 1, 1) := by decide +kernel
theorem dX11_scan_69 : decode cX11_scan 69 = .ok (.iinc 3 1, 3) := by decide +kernel
theorem dX11_scan_72 : decode cX11_scan 72 = .ok (.goto (-35), 3) := by decide +kernel
theorem dX11_scan_75 : decode cX11_scan 75 = .ok (.iload_n 1, 1) := by decide +kernel
theorem dX11_scan_76 : decode cX11_scan 76 = .ok (.ireturn, 1) := by decide +kernel
theorem dX11_distanceTo_0 : decode cX11_distanceTo 0 = .ok (.aload_n 0, 1) := by decide +kernel
theorem dX11_distanceTo_1 : decode cX11_distanceTo 1 = .ok (.iload_n 1, 1) := by decide +kernel
theorem dX11_distanceTo_2 : decode cX11_distanceTo 2 = .ok (.invokevirtual 156, 3) := by decide +kernel
theorem dX11_distanceTo_5 : decode cX11_distanceTo 5 = .ok (.aload_n 0, 1) := by decide +kernel
theorem dX11_distanceTo_6 : decode cX11_distanceTo 6 = .ok (.invokevirtual 173, 3) := by decide +kernel
theorem dX11_distanceTo_9 : decode cX11_distanceTo 9 = .ok (.aload_n 0, 1) := by decide +kernel
theorem dX11_distanceTo_10 : decode cX11_distanceTo 10 = .ok (.iload_n 1, 1) := by decide +kernel
theorem dX11_distanceTo_11 : decode cX11_distanceTo 11 = .ok (.invokevirtual 181, 3) := by decide +kernel
theorem dX11_distanceTo_14 : decode cX11_distanceTo 14 = .ok (.ireturn, 1) := by decide +kernel
theorem dX11_distanceByLetters_0 : decode cX11_distanceByLetters 0 = .ok (.aload_n 0, 1) := by decide +kernel
theorem dX11_distanceByLetters_1 : decode cX11_distanceByLetters 1 = .ok (.iload_n 1, 1) := by decide +kernel
theorem dX11_distanceByLetters_2 : decode cX11_distanceByLetters 2 = .ok (.invokevirtual 156, 3) := by decide +kernel
theorem dX11_distanceByLetters_5 : decode cX11_distanceByLetters 5 = .ok (.aload_n 0, 1) := by decide +kernel
theorem dX11_distanceByLetters_6 : decode cX11_distanceByLetters 6 = .ok (.invokevirtual 173, 3) := by decide +kernel
theorem dX11_distanceByLetters_9 : decode cX11_distanceByLetters 9 = .ok (.aload_n 0, 1) := by decide +kernel
theorem dX11_distanceByLetters_10 : decode cX11_distanceByLetters 10 = .ok (.iload_n 1, 1) := by decide +kernel
theorem dX11_distanceByLetters_11 : decode cX11_distanceByLetters 11 = .ok (.invokevirtual 184, 3) := by decide +kernel
theorem dX11_distanceByLetters_14 : decode cX11_distanceByLetters 14 = .ok (.aload_n 0, 1) := by decide +kernel
theorem dX11_distanceByLetters_15 : decode cX11_distanceByLetters 15 = .ok (.getfield 54, 3) := by decide +kernel
theorem dX11_distanceByLetters_18 : decode cX11_distanceByLetters 18 = .ok (.aload_n 0, 1) := by decide +kernel
theorem dX11_distanceByLetters_19 : decode cX11_distanceByLetters 19 = .ok (.getfield 34, 3) := by decide +kernel
theorem dX11_distanceByLetters_22 : decode cX11_distanceByLetters 22 = .ok (.aload_n 0, 1) := by decide +kernel
theorem dX11_distanceByLetters_23 : decode cX11_distanceByLetters 23 = .ok (.getfield 41, 3) := by decide +kernel
theorem dX11_distanceByLetters_26 : decode cX11_distanceByLetters 26 = .ok (.invokevirtual 187, 3) := by decide +kernel
theorem dX11_distanceByLetters_29 : decode cX11_distanceByLetters 29 = .ok (.ireturn, 1) := by decide +kernel
theorem dX11_fill_0 : decode cX11_fill 0 = .ok (.aload_n 0, 1) := by decide +kernel
theorem dX11_fill_1 : decode cX11_fill 1 = .ok (.getfield 10, 3) := by decide +kernel
theorem dX11_fill_4 : decode cX11_fill 4 = .ok (.iload_n 1, 1) := by decide +kernel
theorem dX11_fill_5 : decode cX11_fill 5 = .ok (.iload_n 2, 1) := by decide +kernel
theorem dX11_fill_6 : decode cX11_fill 6 = .ok (.iload_n 3, 1) := by decide +kernel
theorem dX11_fill_7 : decode cX11_fill 7 = .ok (.iload 4, 2) := by decide +kernel
theorem dX11_fill_9 : decode cX11_fill 9 = .ok (.invokevirtual 191, 3) := by decide +kernel
theorem dX11_fill_12 : decode cX11_fill 12 = .ok (.invokestatic 80, 3) := by decide +kernel
theorem dX11_fill_15 : decode cX11_fill 15 = .ok (.aload_n 0, 1) := by decide +kernel
theorem dX11_fill_16 : decode cX11_fill 16 = .ok (.getfield 25, 3) := by decide +kernel
theorem dX11_fill_19 : decode cX11_fill 19 = .ok (.aload_n 0, 1) := by decide +kernel
theorem dX11_fill_20 : decode cX11_fill 20 = .ok (.getfield 10, 3) := by decide +kernel
