theorem dX0_init_0 : decode cX0_init 0 = .ok (.aload_n 0, 1) := by decide +kernel
theorem dX0_init_1 : decode cX0_init 1 = .ok (.invokespecial 3, 3) := by decide +kernel
theorem dX0_init_4 : decode cX0_init 4 = .ok (.aload_n 0, 1) := by decide +kernel
theorem dX0_init_5 : decode cX0_init 5 = .ok (.bipush 24, 2) := by decide +kernel
theorem dX0_init_7 : decode cX0_init 7 = .ok (.newarray .long, 2) := by decide +kernel
theorem dX0_init_9 : decode cX0_init 9 = .ok (.putfield 9, 3) := by decide +kernel
theorem dX0_init_12 : decode cX0_init 12 = .ok (.aload_n 0, 1) := by decide +kernel
theorem dX0_init_13 : decode cX0_init 13 = .ok (.iconst (-1), 1) := by decide +kernel
theorem dX0_init_14 : decode cX0_init 14 = .ok (.putfield 15, 3) := by decide +kernel
theorem dX0_init_17 : decode cX0_init 17 = .ok (.aload_n 0, 1) := by decide +kernel
theorem dX0_init_18 : decode cX0_init 18 = .ok (.iconst 0, 1) := by decide +kernel
theorem dX0_init_19 : decode cX0_init 19 = .ok (.putfield 19, 3) := by decide +kernel
theorem dX0_init_22 : decode cX0_init 22 = .ok (.return_, 1) := by decide +kernel
theorem dX0_become_0 : decode cX0_become 0 = .ok (.aload_n 0, 1) := by decide +kernel
theorem dX0_become_1 : decode cX0_become 1 = .ok (.iload_n 1, 1) := by decide +kernel
theorem dX0_become_2 : decode cX0_become 2 = .ok (.putfield 15, 3) := by decide +kernel
theorem dX0_become_5 : decode cX0_become 5 = .ok (.aload_n 0, 1) := by decide +kernel
theorem dX0_become_6 : decode cX0_become 6 = .ok (.iload_n 2, 1) := by decide +kernel
theorem dX0_become_7 : decode cX0_become 7 = .ok (.putfield 19, 3) := by decide +kernel
theorem dX0_become_10 : decode cX0_become 10 = .ok (.aload_n 0, 1) := by decide +kernel
theorem dX0_become_11 : decode cX0_become 11 = .ok (.getfield 9, 3) := by decide +kernel
theorem dX0_become_14 : decode cX0_become 14 = .ok (.lconst 0, 1) := by decide +kernel
theorem dX0_become_15 : decode cX0_become 15 = .ok (.invokestatic 22, 3) := by decide +kernel
theorem dX0_become_18 : decode cX0_become 18 = .ok (.return_, 1) := by decide +kernel
theorem dX0_hasPlaces_0 : decode cX0_hasPlaces 0 = .ok (.iload_n 1, 1) := by decide +kernel
theorem dX0_hasPlaces_1 : decode cX0_hasPlaces 1 = .ok (.ifCond .lt 25, 3) := by decide +kernel
theorem dX0_hasPlaces_4 : decode cX0_hasPlaces 4 = .ok (.iload_n 2, 1) := by decide +kernel
theorem dX0_hasPlaces_5 : decode cX0_hasPlaces 5 = .ok (.ifCond .lt 21, 3) := by decide +kernel
theorem dX0_hasPlaces_8 : decode cX0_hasPlaces 8 = .ok (.iload_n 1, 1) := by decide +kernel
theorem dX0_hasPlaces_9 : decode cX0_hasPlaces 9 = .ok (.i2l, 1) := by decide +kernel
theorem dX0_hasPlaces_10 : decode cX0_hasPlaces 10 = .ok (.iload_n 2, 1) := by decide +kernel
theorem dX0_hasPlaces_11 : decode cX0_hasPlaces 11 = .ok (.i2l, 1) := by decide +kernel
theorem dX0_hasPlaces_12 : decode cX0_hasPlaces 12 = .ok (.ladd, 1) := by decide +kernel
theorem dX0_hasPlaces_13 : decode cX0_hasPlaces 13 = .ok (.aload_n 0, 1) := by decide +kernel
theorem dX0_hasPlaces_14 : decode cX0_hasPlaces 14 = .ok (.getfield 19, 3) := by decide +kernel
theorem dX0_hasPlaces_17 : decode cX0_hasPlaces 17 = .ok (.i2l, 1) := by decide +kernel
theorem dX0_hasPlaces_18 : decode cX0_hasPlaces 18 = .ok (.lcmp, 1) := by decide +kernel
theorem dX0_hasPlaces_19 : decode cX0_hasPlaces 19 = .ok (.ifCond .gt 7, 3) := by decide +kernel
theorem dX0_hasPlaces_22 : decode cX0_hasPlaces 22 = .ok (.iconst 1, 1) := by decide +kernel
theorem dX0_hasPlaces_23 : decode cX0_hasPlaces 23 = .ok (.goto 4, 3) := by decide +kernel
theorem dX0_hasPlaces_26 : decode cX0_hasPlaces 26 = .ok (.iconst 0, 1) := by decide +kernel
theorem dX0_hasPlaces_27 : decode cX0_hasPlaces 27 = .ok (.ireturn, 1) := by decide +kernel
theorem dX0_keep_0 : decode cX0_keep 0 = .ok (.aload_n 0, 1) := by decide +kernel
theorem dX0_keep_1 : decode cX0_keep 1 = .ok (.getfield 15, 3) := by decide +kernel
theorem dX0_keep_4 : decode cX0_keep 4 = .ok (.ifCond .ne 16, 3) := by decide +kernel
theorem dX0_keep_7 : decode cX0_keep 7 = .ok (.aload_n 0, 1) := by decide +kernel
theorem dX0_keep_8 : decode cX0_keep 8 = .ok (.getfield 9, 3) := by decide +kernel
theorem dX0_keep_11 : decode cX0_keep 11 = .ok (.iload_n 1, 1) := by decide +kernel
theorem dX0_keep_12 : decode cX0_keep 12 = .ok (.lload_n 2, 1) := by decide +kernel
theorem dX0_keep_13 : decode cX0_keep 13 = .ok (.l2i, 1) := by decide +kernel
theorem dX0_keep_14 : decode cX0_keep 14 = .ok (.i2s, 1) := by decide +kernel
theorem dX0_keep_15 : decode cX0_keep 15 = .ok (.i2l, 1) := by decide +kernel
theorem dX0_keep_16 : decode cX0_keep 16 = .ok (.lastore, 1) := by decide +kernel
theorem dX0_keep_17 : decode cX0_keep 17 = .ok (.goto 30, 3) := by decide +kernel
theorem dX0_keep_20 : decode cX0_keep 20 = .ok (.aload_n 0, 1) := by decide +kernel
theorem dX0_keep_21 : decode cX0_keep 21 = .ok (.getfield 15, 3) := by decide +kernel
theorem dX0_keep_24 : decode cX0_keep 24 = .ok (.iconst 1, 1) := by decide +kernel
theorem dX0_keep_25 : decode cX0_keep 25 = .ok (.if_icmp .ne 15, 3) := by decide +kernel
theorem dX0_keep_28 : decode cX0_keep 28 = .ok (.aload_n 0, 1) := by decide +kernel
theorem dX0_keep_29 : decode cX0_keep 29 = .ok (.getfield 9, 3) := by decide +kernel
theorem dX0_keep_32 : decode cX0_keep 32 = .ok (.iload_n 1, 1) := by decide +kernel
theorem dX0_keep_33 : decode cX0_keep 33 = .ok (.lload_n 2, 1) := by decide +kernel
theorem dX0_keep_34 : decode cX0_keep 34 = .ok (.l2i, 1) := by decide +kernel
theorem dX0_keep_35 : decode cX0_keep 35 = .ok (.i2l, 1) := by decide +kernel
theorem dX0_keep_36 : decode cX0_keep 36 = .ok (.lastore, 1) := by decide +kernel
theorem dX0_keep_37 : decode cX0_keep 37 = .ok (.goto 10, 3) := by decide +kernel
theorem dX0_keep_40 : decode cX0_keep 40 = .ok (.aload_n 0, 1) := by decide +kernel
theorem dX0_keep_41 : decode cX0_keep 41 = .ok (.getfield 9, 3) := by decide +kernel
theorem dX0_keep_44 : decode cX0_keep 44 = .ok (.iload_n 1, 1) := by decide +kernel
theorem dX0_keep_45 : decode cX0_keep 45 = .ok (.lload_n 2, 1) := by decide +kernel
theorem dX0_keep_46 : decode cX0_keep 46 = .ok (.lastore, 1) := by decide +kernel
theorem dX0_keep_47 : decode cX0_keep 47 = .ok (.return_, 1) := by decide +kernel
theorem dX1_init_0 : decode cX1_init 0 = .ok (.aload_n 0, 1) := by decide +kernel
theorem dX1_init_1 : decode cX1_init 1 = .ok (.invokespecial 3, 3) := by decide +kernel
theorem dX1_init_4 : decode cX1_init 4 = .ok (.aload_n 0, 1) := by decide +kernel
theorem dX1_init_5 : decode cX1_init 5 = .ok (.bipush 12, 2) := by decide +kernel
theorem dX1_init_7 : decode cX1_init 7 = .ok (.newarray .long, 2) := by decide +kernel
theorem dX1_init_9 : decode cX1_init 9 = .ok (.putfield 11, 3) := by decide +kernel
theorem dX1_init_12 : decode cX1_init 12 = .ok (.return_, 1) := by decide +kernel
theorem dX1_take_0 : decode cX1_take 0 = .ok (.aload_n 1, 1) := by decide +kernel
theorem dX1_take_1 : decode cX1_take 1 = .ok (.getfield 11, 3) := by decide +kernel
theorem dX1_take_4 : decode cX1_take 4 = .ok (.iconst 0, 1) := by decide +kernel
theorem dX1_take_5 : decode cX1_take 5 = .ok (.aload_n 0, 1) := by decide +kernel
theorem dX1_take_6 : decode cX1_take 6 = .ok (.getfield 11, 3) := by decide +kernel
theorem dX1_take_9 : decode cX1_take 9 = .ok (.iconst 0, 1) := by decide +kernel
theorem dX1_take_10 : decode cX1_take 10 = .ok (.bipush 12, 2) := by decide +kernel
theorem dX1_take_12 : decode cX1_take 12 = .ok (.invokestatic 15, 3) := by decide +kernel
theorem dX1_take_15 : decode cX1_take 15 = .ok (.return_, 1) := by decide +kernel
theorem dX1_told_0 : decode cX1_told 0 = .ok (.aload_n 0, 1) := by decide +kernel
theorem dX1_told_1 : decode cX1_told 1 = .ok (.getfield 11, 3) := by decide +kernel
theorem dX1_told_4 : decode cX1_told 4 = .ok (.iconst 4, 1) := by decide +kernel
theorem dX1_told_5 : decode cX1_told 5 = .ok (.iload_n 2, 1) := by decide +kernel
theorem dX1_told_6 : decode cX1_told 6 = .ok (.imul, 1) := by decide +kernel
theorem dX1_told_7 : decode cX1_told 7 = .ok (.iload_n 1, 1) := by decide +kernel
theorem dX1_told_8 : decode cX1_told 8 = .ok (.iadd, 1) := by decide +kernel
theorem dX1_told_9 : decode cX1_told 9 = .ok (.laload, 1) := by decide +kernel
theorem dX1_told_10 : decode cX1_told 10 = .ok (.lreturn, 1) := by decide +kernel
theorem dX1_bend_0 : decode cX1_bend 0 = .ok (.aload_n 0, 1) := by decide +kernel
theorem dX1_bend_1 : decode cX1_bend 1 = .ok (.getfield 11, 3) := by decide +kernel
theorem dX1_bend_4 : decode cX1_bend 4 = .ok (.iload_n 1, 1) := by decide +kernel
theorem dX1_bend_5 : decode cX1_bend 5 = .ok (.laload, 1) := by decide +kernel
theorem dX1_bend_6 : decode cX1_bend 6 = .ok (.lreturn, 1) := by decide +kernel
theorem dX1_sum_0 : decode cX1_sum 0 = .ok (.aload_n 0, 1) := by decide +kernel
theorem dX1_sum_1 : decode cX1_sum 1 = .ok (.iconst 0, 1) := by decide +kernel
theorem dX1_sum_2 : decode cX1_sum 2 = .ok (.iload_n 1, 1) := by decide +kernel
theorem dX1_sum_3 : decode cX1_sum 3 = .ok (.invokevirtual 21, 3) := by decide +kernel
theorem dX1_sum_6 : decode cX1_sum 6 = .ok (.aload_n 0, 1) := by decide +kernel
theorem dX1_sum_7 : decode cX1_sum 7 = .ok (.iconst 1, 1) := by decide +kernel
theorem dX1_sum_8 : decode cX1_sum 8 = .ok (.iload_n 1, 1) := by decide +kernel
theorem dX1_sum_9 : decode cX1_sum 9 = .ok (.invokevirtual 21, 3) := by decide +kernel
theorem dX1_sum_12 : decode cX1_sum 12 = .ok (.ladd, 1) := by decide +kernel
theorem dX1_sum_13 : decode cX1_sum 13 = .ok (.aload_n 0, 1) := by decide +kernel
theorem dX1_sum_14 : decode cX1_sum 14 = .ok (.iconst 2, 1) := by decide +kernel
theorem dX1_sum_15 : decode cX1_sum 15 = .ok (.iload_n 1, 1) := by decide +kernel
theorem dX1_sum_16 : decode cX1_sum 16 = .ok (.invokevirtual 21, 3) := by decide +kernel
theorem dX1_sum_19 : decode cX1_sum 19 = .ok (.ladd, 1) := by decide +kernel
theorem dX1_sum_20 : decode cX1_sum 20 = .ok (.aload_n 0, 1) := by decide +kernel
theorem dX1_sum_21 : decode cX1_sum 21 = .ok (.iconst 3, 1) := by decide +kernel
theorem dX1_sum_22 : decode cX1_sum 22 = .ok (.iload_n 1, 1) := by decide +kernel
theorem dX1_sum_23 : decode cX1_sum 23 = .ok (.invokevirtual 21, 3) := by decide +kernel
theorem dX1_sum_26 : decode cX1_sum 26 = .ok (.ladd, 1) := by decide +kernel
theorem dX1_sum_27 : decode cX1_sum 27 = .ok (.lreturn, 1) := by decide +kernel
theorem dX1_turned_0 : decode cX1_turned 0 = .ok (.ldc2_w 25, 3) := by decide +kernel
theorem dX1_turned_3 : decode cX1_turned 3 = .ok (.aload_n 0, 1) := by decide +kernel
theorem dX1_turned_4 : decode cX1_turned 4 = .ok (.iload_n 2, 1) := by decide +kernel
theorem dX1_turned_5 : decode cX1_turned 5 = .ok (.invokevirtual 27, 3) := by decide +kernel
theorem dX1_turned_8 : decode cX1_turned 8 = .ok (.lmul, 1) := by decide +kernel
theorem dX1_turned_9 : decode cX1_turned 9 = .ok (.ldc2_w 31, 3) := by decide +kernel
theorem dX1_turned_12 : decode cX1_turned 12 = .ok (.aload_n 0, 1) := by decide +kernel
theorem dX1_turned_13 : decode cX1_turned 13 = .ok (.iload_n 1, 1) := by decide +kernel
theorem dX1_turned_14 : decode cX1_turned 14 = .ok (.iload_n 2, 1) := by decide +kernel
theorem dX1_turned_15 : decode cX1_turned 15 = .ok (.invokevirtual 21, 3) := by decide +kernel
theorem dX1_turned_18 : decode cX1_turned 18 = .ok (.lmul, 1) := by decide +kernel
theorem dX1_turned_19 : decode cX1_turned 19 = .ok (.lsub, 1) := by decide +kernel
theorem dX1_turned_20 : decode cX1_turned 20 = .ok (.lreturn, 1) := by decide +kernel
theorem dX1_turn_0 : decode cX1_turn 0 = .ok (.iconst 0, 1) := by decide +kernel
theorem dX1_turn_1 : decode cX1_turn 1 = .ok (.istore_n 2, 1) := by decide +kernel
theorem dX1_turn_2 : decode cX1_turn 2 = .ok (.iload_n 2, 1) := by decide +kernel
theorem dX1_turn_3 : decode cX1_turn 3 = .ok (.iconst 2, 1) := by decide +kernel
theorem dX1_turn_4 : decode cX1_turn 4 = .ok (.if_icmp .gt 25, 3) := by decide +kernel
theorem dX1_turn_7 : decode cX1_turn 7 = .ok (.aload_n 0, 1) := by decide +kernel
theorem dX1_turn_8 : decode cX1_turn 8 = .ok (.getfield 11, 3) := by decide +kernel
theorem dX1_turn_11 : decode cX1_turn 11 = .ok (.iconst 4, 1) := by decide +kernel
theorem dX1_turn_12 : decode cX1_turn 12 = .ok (.iload_n 2, 1) := by decide +kernel
theorem dX1_turn_13 : decode cX1_turn 13 = .ok (.imul, 1) := by decide +kernel
theorem dX1_turn_14 : decode cX1_turn 14 = .ok (.iload_n 1, 1) := by decide +kernel
theorem dX1_turn_15 : decode cX1_turn 15 = .ok (.iadd, 1) := by decide +kernel
theorem dX1_turn_16 : decode cX1_turn 16 = .ok (.aload_n 0, 1) := by decide +kernel
theorem dX1_turn_17 : decode cX1_turn 17 = .ok (.iload_n 1, 1) := by decide +kernel
theorem dX1_turn_18 : decode cX1_turn 18 = .ok (.iload_n 2, 1) := by decide +kernel
theorem dX1_turn_19 : decode cX1_turn 19 = .ok (.invokevirtual 33, 3) := by decide +kernel
theorem dX1_turn_22 : decode cX1_turn 22 = .ok (.lastore, 1) := by decide +kernel
theorem dX1_turn_23 : decode cX1_turn 23 = .ok (.iinc 2 1, 3) := by decide +kernel
theorem dX1_turn_26 : decode cX1_turn 26 = .ok (.goto (-24), 3) := by decide +kernel
theorem dX1_turn_29 : decode cX1_turn 29 = .ok (.return_, 1) := by decide +kernel
theorem dX1_greatest_0 : decode cX1_greatest 0 = .ok (.iconst 0, 1) := by decide +kernel
theorem dX1_greatest_1 : decode cX1_greatest 1 = .ok (.istore_n 1, 1) := by decide +kernel
theorem dX1_greatest_2 : decode cX1_greatest 2 = .ok (.iconst 1, 1) := by decide +kernel
theorem dX1_greatest_3 : decode cX1_greatest 3 = .ok (.istore_n 2, 1) := by decide +kernel
theorem dX1_greatest_4 : decode cX1_greatest 4 = .ok (.iload_n 2, 1) := by decide +kernel
theorem dX1_greatest_5 : decode cX1_greatest 5 = .ok (.iconst 4, 1) := by decide +kernel
theorem dX1_greatest_6 : decode cX1_greatest 6 = .ok (.if_icmp .ge 25, 3) := by decide +kernel
theorem dX1_greatest_9 : decode cX1_greatest 9 = .ok (.aload_n 0, 1) := by decide +kernel
theorem dX1_greatest_10 : decode cX1_greatest 10 = .ok (.iload_n 2, 1) := by decide +kernel
theorem dX1_greatest_11 : decode cX1_greatest 11 = .ok (.invokevirtual 36, 3) := by decide +kernel
theorem dX1_greatest_14 : decode cX1_greatest 14 = .ok (.aload_n 0, 1) := by decide +kernel
theorem dX1_greatest_15 : decode cX1_greatest 15 = .ok (.iload_n 1, 1) := by decide +kernel
theorem dX1_greatest_16 : decode cX1_greatest 16 = .ok (.invokevirtual 36, 3) := by decide +kernel
theorem dX1_greatest_19 : decode cX1_greatest 19 = .ok (.lcmp, 1) := by decide +kernel
theorem dX1_greatest_20 : decode cX1_greatest 20 = .ok (.ifCond .le 5, 3) := by decide +kernel
theorem dX1_greatest_23 : decode cX1_greatest 23 = .ok (.iload_n 2, 1) := by decide +kernel
theorem dX1_greatest_24 : decode cX1_greatest 24 = .ok (.istore_n 1, 1) := by decide +kernel
theorem dX1_greatest_25 : decode cX1_greatest 25 = .ok (.iinc 2 1, 3) := by decide +kernel
theorem dX1_greatest_28 : decode cX1_greatest 28 = .ok (.goto (-24), 3) := by decide +kernel
theorem dX1_greatest_31 : decode cX1_greatest 31 = .ok (.iload_n 1, 1) := by decide +kernel
theorem dX1_greatest_32 : decode cX1_greatest 32 = .ok (.ireturn, 1) := by decide +kernel
theorem dX1_goDown_0 : decode cX1_goDown 0 = .ok (.iconst 0, 1) := by decide +kernel
theorem dX1_goDown_1 : decode cX1_goDown 1 = .ok (.istore_n 2, 1) := by decide +kernel
theorem dX1_goDown_2 : decode cX1_goDown 2 = .ok (.iload_n 2, 1) := by decide +kernel
theorem dX1_goDown_3 : decode cX1_goDown 3 = .ok (.iload_n 1, 1) := by decide +kernel
theorem dX1_goDown_4 : decode cX1_goDown 4 = .ok (.if_icmp .ge 36, 3) := by decide +kernel
theorem dX1_goDown_7 : decode cX1_goDown 7 = .ok (.aload_n 0, 1) := by decide +kernel
theorem dX1_goDown_8 : decode cX1_goDown 8 = .ok (.invokevirtual 39, 3) := by decide +kernel
theorem dX1_goDown_11 : decode cX1_goDown 11 = .ok (.istore_n 3, 1) := by decide +kernel
theorem dX1_goDown_12 : decode cX1_goDown 12 = .ok (.aload_n 0, 1) := by decide +kernel
theorem dX1_goDown_13 : decode cX1_goDown 13 = .ok (.iload_n 3, 1) := by decide +kernel
theorem dX1_goDown_14 : decode cX1_goDown 14 = .ok (.iconst 0, 1) := by decide +kernel
theorem dX1_goDown_15 : decode cX1_goDown 15 = .ok (.invokevirtual 33, 3) := by decide +kernel
theorem dX1_goDown_18 : decode cX1_goDown 18 = .ok (.aload_n 0, 1) := by decide +kernel
theorem dX1_goDown_19 : decode cX1_goDown 19 = .ok (.iload_n 3, 1) := by decide +kernel
theorem dX1_goDown_20 : decode cX1_goDown 20 = .ok (.invokevirtual 36, 3) := by decide +kernel
theorem dX1_goDown_23 : decode cX1_goDown 23 = .ok (.lcmp, 1) := by decide +kernel
theorem dX1_goDown_24 : decode cX1_goDown 24 = .ok (.ifCond .lt 5, 3) := by decide +kernel
theorem dX1_goDown_27 : decode cX1_goDown 27 = .ok (.iload_n 2, 1) := by decide +kernel
theorem dX1_goDown_28 : decode cX1_goDown 28 = .ok (.ireturn, 1) := by decide +kernel
theorem dX1_goDown_29 : decode cX1_goDown 29 = .ok (.aload_n 0, 1) := by decide +kernel
theorem dX1_goDown_30 : decode cX1_goDown 30 = .ok (.iload_n 3, 1) := by decide +kernel
theorem dX1_goDown_31 : decode cX1_goDown 31 = .ok (.invokevirtual 43, 3) := by decide +kernel
theorem dX1_goDown_34 : decode cX1_goDown 34 = .ok (.iinc 2 1, 3) := by decide +kernel
theorem dX1_goDown_37 : decode cX1_goDown 37 = .ok (.goto (-35), 3) := by decide +kernel
theorem dX1_goDown_40 : decode cX1_goDown 40 = .ok (.iload_n 1, 1) := by decide +kernel
theorem dX1_goDown_41 : decode cX1_goDown 41 = .ok (.ireturn, 1) := by decide +kernel
theorem dX1_goAlong_0 : decode cX1_goAlong 0 = .ok (.iconst 2, 1) := by decide +kernel
theorem dX1_goAlong_1 : decode cX1_goAlong 1 = .ok (.istore 4, 2) := by decide +kernel
theorem dX1_goAlong_3 : decode cX1_goAlong 3 = .ok (.iload 4, 2) := by decide +kernel
theorem dX1_goAlong_5 : decode cX1_goAlong 5 = .ok (.iload_n 3, 1) := by decide +kernel
theorem dX1_goAlong_6 : decode cX1_goAlong 6 = .ok (.if_icmp .gt 30, 3) := by decide +kernel
theorem dX1_goAlong_9 : decode cX1_goAlong 9 = .ok (.aload_n 0, 1) := by decide +kernel
theorem dX1_goAlong_10 : decode cX1_goAlong 10 = .ok (.iload 4, 2) := by decide +kernel
theorem dX1_goAlong_12 : decode cX1_goAlong 12 = .ok (.iconst 1, 1) := by decide +kernel
theorem dX1_goAlong_13 : decode cX1_goAlong 13 = .ok (.iand, 1) := by decide +kernel
theorem dX1_goAlong_14 : decode cX1_goAlong 14 = .ok (.ifCond .ne 7, 3) := by decide +kernel
theorem dX1_goAlong_17 : decode cX1_goAlong 17 = .ok (.iload_n 1, 1) := by decide +kernel
theorem dX1_goAlong_18 : decode cX1_goAlong 18 = .ok (.goto 4, 3) := by decide +kernel
theorem dX1_goAlong_21 : decode cX1_goAlong 21 = .ok (.iload_n 2, 1) := by decide +kernel
theorem dX1_goAlong_22 : decode cX1_goAlong 22 = .ok (.invokevirtual 47, 3) := by decide +kernel
theorem dX1_goAlong_25 : decode cX1_goAlong 25 = .ok (.ifCond .ne 5, 3) := by decide +kernel
theorem dX1_goAlong_28 : decode cX1_goAlong 28 = .ok (.iconst 0, 1) := by decide +kernel
theorem dX1_goAlong_29 : decode cX1_goAlong 29 = .ok (.ireturn, 1) := by decide +kernel
theorem dX1_goAlong_30 : decode cX1_goAlong 30 = .ok (.iinc 4 1, 3) := by decide +kernel
theorem dX1_goAlong_33 : decode cX1_goAlong 33 = .ok (.goto (-30), 3) := by decide +kernel
theorem dX1_goAlong_36 : decode cX1_goAlong 36 = .ok (.iconst (-1), 1) := by decide +kernel
theorem dX1_goAlong_37 : decode cX1_goAlong 37 = .ok (.istore 4, 2) := by decide +kernel
theorem dX1_goAlong_39 : decode cX1_goAlong 39 = .ok (.iload 4, 2) := by decide +kernel
theorem dX1_goAlong_41 : decode cX1_goAlong 41 = .ok (.iload_n 3, 1) := by decide +kernel
theorem dX1_goAlong_42 : decode cX1_goAlong 42 = .ok (.if_icmp .lt 30, 3) := by decide +kernel
theorem dX1_goAlong_45 : decode cX1_goAlong 45 = .ok (.aload_n 0, 1) := by decide +kernel
theorem dX1_goAlong_46 : decode cX1_goAlong 46 = .ok (.iload 4, 2) := by decide +kernel
theorem dX1_goAlong_48 : decode cX1_goAlong 48 = .ok (.iconst 1, 1) := by decide +kernel
theorem dX1_goAlong_49 : decode cX1_goAlong 49 = .ok (.iand, 1) := by decide +kernel
theorem dX1_goAlong_50 : decode cX1_goAlong 50 = .ok (.ifCond .ne 7, 3) := by decide +kernel
theorem dX1_goAlong_53 : decode cX1_goAlong 53 = .ok (.iload_n 1, 1) := by decide +kernel
theorem dX1_goAlong_54 : decode cX1_goAlong 54 = .ok (.goto 4, 3) := by decide +kernel
theorem dX1_goAlong_57 : decode cX1_goAlong 57 = .ok (.iload_n 2, 1) := by decide +kernel
theorem dX1_goAlong_58 : decode cX1_goAlong 58 = .ok (.invokevirtual 47, 3) := by decide +kernel
theorem dX1_goAlong_61 : decode cX1_goAlong 61 = .ok (.ifCond .ne 5, 3) := by decide +kernel
theorem dX1_goAlong_64 : decode cX1_goAlong 64 = .ok (.iconst 0, 1) := by decide +kernel
theorem dX1_goAlong_65 : decode cX1_goAlong 65 = .ok (.ireturn, 1) := by decide +kernel
theorem dX1_goAlong_66 : decode cX1_goAlong 66 = .ok (.iinc 4 (-1), 3) := by decide +kernel
theorem dX1_goAlong_69 : decode cX1_goAlong 69 = .ok (.goto (-30), 3) := by decide +kernel
theorem dX1_goAlong_72 : decode cX1_goAlong 72 = .ok (.iconst 1, 1) := by decide +kernel
theorem dX1_goAlong_73 : decode cX1_goAlong 73 = .ok (.ireturn, 1) := by decide +kernel
theorem dX1_turnWithin_0 : decode cX1_turnWithin 0 = .ok (.aload_n 0, 1) := by decide +kernel
theorem dX1_turnWithin_1 : decode cX1_turnWithin 1 = .ok (.iload_n 1, 1) := by decide +kernel
theorem dX1_turnWithin_2 : decode cX1_turnWithin 2 = .ok (.invokevirtual 43, 3) := by decide +kernel
theorem dX1_turnWithin_5 : decode cX1_turnWithin 5 = .ok (.aload_n 0, 1) := by decide +kernel
theorem dX1_turnWithin_6 : decode cX1_turnWithin 6 = .ok (.iload_n 1, 1) := by decide +kernel
theorem dX1_turnWithin_7 : decode cX1_turnWithin 7 = .ok (.invokevirtual 51, 3) := by decide +kernel
theorem dX1_turnWithin_10 : decode cX1_turnWithin 10 = .ok (.ifCond .ne 7, 3) := by decide +kernel
theorem dX1_turnWithin_13 : decode cX1_turnWithin 13 = .ok (.iconst 1, 1) := by decide +kernel
theorem dX1_turnWithin_14 : decode cX1_turnWithin 14 = .ok (.goto 4, 3) := by decide +kernel
theorem dX1_turnWithin_17 : decode cX1_turnWithin 17 = .ok (.iconst 0, 1) := by decide +kernel
theorem dX1_turnWithin_18 : decode cX1_turnWithin 18 = .ok (.ireturn, 1) := by decide +kernel
theorem dX1_touches_0 : decode cX1_touches 0 = .ok (.aload_n 0, 1) := by decide +kernel
theorem dX1_touches_1 : decode cX1_touches 1 = .ok (.iload_n 1, 1) := by decide +kernel
theorem dX1_touches_2 : decode cX1_touches 2 = .ok (.invokevirtual 36, 3) := by decide +kernel
theorem dX1_touches_5 : decode cX1_touches 5 = .ok (.lstore 4, 2) := by decide +kernel
theorem dX1_touches_7 : decode cX1_touches 7 = .ok (.aload_n 2, 1) := by decide +kernel
theorem dX1_touches_8 : decode cX1_touches 8 = .ok (.iload_n 3, 1) := by decide +kernel
theorem dX1_touches_9 : decode cX1_touches 9 = .ok (.invokevirtual 36, 3) := by decide +kernel
theorem dX1_touches_12 : decode cX1_touches 12 = .ok (.lstore 6, 2) := by decide +kernel
theorem dX1_touches_14 : decode cX1_touches 14 = .ok (.lload 6, 2) := by decide +kernel
theorem dX1_touches_16 : decode cX1_touches 16 = .ok (.aload_n 0, 1) := by decide +kernel
theorem dX1_touches_17 : decode cX1_touches 17 = .ok (.iload_n 1, 1) := by decide +kernel
theorem dX1_touches_18 : decode cX1_touches 18 = .ok (.iconst 1, 1) := by decide +kernel
theorem dX1_touches_19 : decode cX1_touches 19 = .ok (.invokevirtual 21, 3) := by decide +kernel
theorem dX1_touches_22 : decode cX1_touches 22 = .ok (.lmul, 1) := by decide +kernel
theorem dX1_touches_23 : decode cX1_touches 23 = .ok (.lload 4, 2) := by decide +kernel
theorem dX1_touches_25 : decode cX1_touches 25 = .ok (.aload_n 2, 1) := by decide +kernel
theorem dX1_touches_26 : decode cX1_touches 26 = .ok (.iload_n 3, 1) := by decide +kernel
theorem dX1_touches_27 : decode cX1_touches 27 = .ok (.iconst 1, 1) := by decide +kernel
theorem dX1_touches_28 : decode cX1_touches 28 = .ok (.invokevirtual 21, 3) := by decide +kernel
theorem dX1_touches_31 : decode cX1_touches 31 = .ok (.lmul, 1) := by decide +kernel
theorem dX1_touches_32 : decode cX1_touches 32 = .ok (.lsub, 1) := by decide +kernel
theorem dX1_touches_33 : decode cX1_touches 33 = .ok (.lstore 8, 2) := by decide +kernel
theorem dX1_touches_35 : decode cX1_touches 35 = .ok (.lload 6, 2) := by decide +kernel
theorem dX1_touches_37 : decode cX1_touches 37 = .ok (.aload_n 0, 1) := by decide +kernel
theorem dX1_touches_38 : decode cX1_touches 38 = .ok (.iload_n 1, 1) := by decide +kernel
theorem dX1_touches_39 : decode cX1_touches 39 = .ok (.iconst 2, 1) := by decide +kernel
theorem dX1_touches_40 : decode cX1_touches 40 = .ok (.invokevirtual 21, 3) := by decide +kernel
theorem dX1_touches_43 : decode cX1_touches 43 = .ok (.lmul, 1) := by decide +kernel
theorem dX1_touches_44 : decode cX1_touches 44 = .ok (.lload 4, 2) := by decide +kernel
theorem dX1_touches_46 : decode cX1_touches 46 = .ok (.aload_n 2, 1) := by decide +kernel
theorem dX1_touches_47 : decode cX1_touches 47 = .ok (.iload_n 3, 1) := by decide +kernel
theorem dX1_touches_48 : decode cX1_touches 48 = .ok (.iconst 2, 1) := by decide +kernel
theorem dX1_touches_49 : decode cX1_touches 49 = .ok (.invokevirtual 21, 3) := by decide +kernel
theorem dX1_touches_52 : decode cX1_touches 52 = .ok (.lmul, 1) := by decide +kernel
theorem dX1_touches_53 : decode cX1_touches 53 = .ok (.lsub, 1) := by decide +kernel
theorem dX1_touches_54 : decode cX1_touches 54 = .ok (.lstore 10, 2) := by decide +kernel
theorem dX1_touches_56 : decode cX1_touches 56 = .ok (.lload 8, 2) := by decide +kernel
theorem dX1_touches_58 : decode cX1_touches 58 = .ok (.lload 8, 2) := by decide +kernel
theorem dX1_touches_60 : decode cX1_touches 60 = .ok (.lmul, 1) := by decide +kernel
theorem dX1_touches_61 : decode cX1_touches 61 = .ok (.lload 10, 2) := by decide +kernel
theorem dX1_touches_63 : decode cX1_touches 63 = .ok (.lload 10, 2) := by decide +kernel
theorem dX1_touches_65 : decode cX1_touches 65 = .ok (.lmul, 1) := by decide +kernel
theorem dX1_touches_66 : decode cX1_touches 66 = .ok (.ladd, 1) := by decide +kernel
theorem dX1_touches_67 : decode cX1_touches 67 = .ok (.lload 4, 2) := by decide +kernel
theorem dX1_touches_69 : decode cX1_touches 69 = .ok (.lload 6, 2) := by decide +kernel
theorem dX1_touches_71 : decode cX1_touches 71 = .ok (.ladd, 1) := by decide +kernel
theorem dX1_touches_72 : decode cX1_touches 72 = .ok (.lload 4, 2) := by decide +kernel
theorem dX1_touches_74 : decode cX1_touches 74 = .ok (.lload 6, 2) := by decide +kernel
theorem dX1_touches_76 : decode cX1_touches 76 = .ok (.ladd, 1) := by decide +kernel
theorem dX1_touches_77 : decode cX1_touches 77 = .ok (.lmul, 1) := by decide +kernel
theorem dX1_touches_78 : decode cX1_touches 78 = .ok (.lcmp, 1) := by decide +kernel
theorem dX1_touches_79 : decode cX1_touches 79 = .ok (.ifCond .ne 7, 3) := by decide +kernel
theorem dX1_touches_82 : decode cX1_touches 82 = .ok (.iconst 1, 1) := by decide +kernel
theorem dX1_touches_83 : decode cX1_touches 83 = .ok (.goto 4, 3) := by decide +kernel
theorem dX1_touches_86 : decode cX1_touches 86 = .ok (.iconst 0, 1) := by decide +kernel
theorem dX1_touches_87 : decode cX1_touches 87 = .ok (.ireturn, 1) := by decide +kernel
theorem dX1_hasBendsOf_0 : decode cX1_hasBendsOf 0 = .ok (.iconst 0, 1) := by decide +kernel
theorem dX1_hasBendsOf_1 : decode cX1_hasBendsOf 1 = .ok (.istore_n 2, 1) := by decide +kernel
theorem dX1_hasBendsOf_2 : decode cX1_hasBendsOf 2 = .ok (.iload_n 2, 1) := by decide +kernel
theorem dX1_hasBendsOf_3 : decode cX1_hasBendsOf 3 = .ok (.iconst 4, 1) := by decide +kernel
theorem dX1_hasBendsOf_4 : decode cX1_hasBendsOf 4 = .ok (.if_icmp .ge 32, 3) := by decide +kernel
theorem dX1_hasBendsOf_7 : decode cX1_hasBendsOf 7 = .ok (.aload_n 0, 1) := by decide +kernel
theorem dX1_hasBendsOf_8 : decode cX1_hasBendsOf 8 = .ok (.aload_n 0, 1) := by decide +kernel
theorem dX1_hasBendsOf_9 : decode cX1_hasBendsOf 9 = .ok (.iload_n 2, 1) := by decide +kernel
theorem dX1_hasBendsOf_10 : decode cX1_hasBendsOf 10 = .ok (.invokevirtual 36, 3) := by decide +kernel
theorem dX1_hasBendsOf_13 : decode cX1_hasBendsOf 13 = .ok (.invokevirtual 55, 3) := by decide +kernel
theorem dX1_hasBendsOf_16 : decode cX1_hasBendsOf 16 = .ok (.aload_n 1, 1) := by decide +kernel
theorem dX1_hasBendsOf_17 : decode cX1_hasBendsOf 17 = .ok (.aload_n 0, 1) := by decide +kernel
theorem dX1_hasBendsOf_18 : decode cX1_hasBendsOf 18 = .ok (.iload_n 2, 1) := by decide +kernel
theorem dX1_hasBendsOf_19 : decode cX1_hasBendsOf 19 = .ok (.invokevirtual 36, 3) := by decide +kernel
theorem dX1_hasBendsOf_22 : decode cX1_hasBendsOf 22 = .ok (.invokevirtual 55, 3) := by decide +kernel
theorem dX1_hasBendsOf_25 : decode cX1_hasBendsOf 25 = .ok (.if_icmp .eq 5, 3) := by decide +kernel
theorem dX1_hasBendsOf_28 : decode cX1_hasBendsOf 28 = .ok (.iconst 0, 1) := by decide +kernel
theorem dX1_hasBendsOf_29 : decode cX1_hasBendsOf 29 = .ok (.ireturn, 1) := by decide +kernel
theorem dX1_hasBendsOf_30 : decode cX1_hasBendsOf 30 = .ok (.iinc 2 1, 3) := by decide +kernel
theorem dX1_hasBendsOf_33 : decode cX1_hasBendsOf 33 = .ok (.goto (-31), 3) := by decide +kernel
theorem dX1_hasBendsOf_36 : decode cX1_hasBendsOf 36 = .ok (.iconst 1, 1) := by decide +kernel
theorem dX1_hasBendsOf_37 : decode cX1_hasBendsOf 37 = .ok (.ireturn, 1) := by decide +kernel
theorem dX1_timesOf_0 : decode cX1_timesOf 0 = .ok (.iconst 0, 1) := by decide +kernel
theorem dX1_timesOf_1 : decode cX1_timesOf 1 = .ok (.istore_n 3, 1) := by decide +kernel
theorem dX1_timesOf_2 : decode cX1_timesOf 2 = .ok (.iconst 0, 1) := by decide +kernel
theorem dX1_timesOf_3 : decode cX1_timesOf 3 = .ok (.istore 4, 2) := by decide +kernel
theorem dX1_timesOf_5 : decode cX1_timesOf 5 = .ok (.iload 4, 2) := by decide +kernel
theorem dX1_timesOf_7 : decode cX1_timesOf 7 = .ok (.iconst 4, 1) := by decide +kernel
theorem dX1_timesOf_8 : decode cX1_timesOf 8 = .ok (.if_icmp .ge 23, 3) := by decide +kernel
theorem dX1_timesOf_11 : decode cX1_timesOf 11 = .ok (.aload_n 0, 1) := by decide +kernel
theorem dX1_timesOf_12 : decode cX1_timesOf 12 = .ok (.iload 4, 2) := by decide +kernel
theorem dX1_timesOf_14 : decode cX1_timesOf 14 = .ok (.invokevirtual 36, 3) := by decide +kernel
theorem dX1_timesOf_17 : decode cX1_timesOf 17 = .ok (.lload_n 1, 1) := by decide +kernel
theorem dX1_timesOf_18 : decode cX1_timesOf 18 = .ok (.lcmp, 1) := by decide +kernel
theorem dX1_timesOf_19 : decode cX1_timesOf 19 = .ok (.ifCond .ne 6, 3) := by decide +kernel
theorem dX1_timesOf_22 : decode cX1_timesOf 22 = .ok (.iinc 3 1, 3) := by decide +kernel
theorem dX1_timesOf_25 : decode cX1_timesOf 25 = .ok (.iinc 4 1, 3) := by decide +kernel
theorem dX1_timesOf_28 : decode cX1_timesOf 28 = .ok (.goto (-23), 3) := by decide +kernel
theorem dX1_timesOf_31 : decode cX1_timesOf 31 = .ok (.iload_n 3, 1) := by decide +kernel
theorem dX1_timesOf_32 : decode cX1_timesOf 32 = .ok (.ireturn, 1) := by decide +kernel
theorem dX1_refusalOfCoin_0 : decode cX1_refusalOfCoin 0 = .ok (.aload_n 0, 1) := by decide +kernel
theorem dX1_refusalOfCoin_1 : decode cX1_refusalOfCoin 1 = .ok (.iload_n 1, 1) := by decide +kernel
theorem dX1_refusalOfCoin_2 : decode cX1_refusalOfCoin 2 = .ok (.invokevirtual 59, 3) := by decide +kernel
theorem dX1_refusalOfCoin_5 : decode cX1_refusalOfCoin 5 = .ok (.ifCond .eq 6, 3) := by decide +kernel
theorem dX1_refusalOfCoin_8 : decode cX1_refusalOfCoin 8 = .ok (.bipush (-15), 2) := by decide +kernel
theorem dX1_refusalOfCoin_10 : decode cX1_refusalOfCoin 10 = .ok (.ireturn, 1) := by decide +kernel
theorem dX1_refusalOfCoin_11 : decode cX1_refusalOfCoin 11 = .ok (.aload_n 0, 1) := by decide +kernel
theorem dX1_refusalOfCoin_12 : decode cX1_refusalOfCoin 12 = .ok (.iload_n 1, 1) := by decide +kernel
theorem dX1_refusalOfCoin_13 : decode cX1_refusalOfCoin 13 = .ok (.invokevirtual 62, 3) := by decide +kernel
theorem dX1_refusalOfCoin_16 : decode cX1_refusalOfCoin 16 = .ok (.ifCond .eq 8, 3) := by decide +kernel
theorem dX1_refusalOfCoin_19 : decode cX1_refusalOfCoin 19 = .ok (.bipush (-16), 2) := by decide +kernel
theorem dX1_refusalOfCoin_21 : decode cX1_refusalOfCoin 21 = .ok (.goto 4, 3) := by decide +kernel
theorem dX1_refusalOfCoin_24 : decode cX1_refusalOfCoin 24 = .ok (.iconst 0, 1) := by decide +kernel
theorem dX1_refusalOfCoin_25 : decode cX1_refusalOfCoin 25 = .ok (.ireturn, 1) := by decide +kernel
theorem dX1_isBendRefused_0 : decode cX1_isBendRefused 0 = .ok (.aload_n 0, 1) := by decide +kernel
theorem dX1_isBendRefused_1 : decode cX1_isBendRefused 1 = .ok (.iload_n 1, 1) := by decide +kernel
theorem dX1_isBendRefused_2 : decode cX1_isBendRefused 2 = .ok (.invokevirtual 36, 3) := by decide +kernel
theorem dX1_isBendRefused_5 : decode cX1_isBendRefused 5 = .ok (.lconst 0, 1) := by decide +kernel
theorem dX1_isBendRefused_6 : decode cX1_isBendRefused 6 = .ok (.lcmp, 1) := by decide +kernel
theorem dX1_isBendRefused_7 : decode cX1_isBendRefused 7 = .ok (.ifCond .eq 27, 3) := by decide +kernel
theorem dX1_isBendRefused_10 : decode cX1_isBendRefused 10 = .ok (.aload_n 0, 1) := by decide +kernel
theorem dX1_isBendRefused_11 : decode cX1_isBendRefused 11 = .ok (.iload_n 1, 1) := by decide +kernel
theorem dX1_isBendRefused_12 : decode cX1_isBendRefused 12 = .ok (.invokevirtual 36, 3) := by decide +kernel
theorem dX1_isBendRefused_15 : decode cX1_isBendRefused 15 = .ok (.ldc2_w 65, 3) := by decide +kernel
theorem dX1_isBendRefused_18 : decode cX1_isBendRefused 18 = .ok (.lcmp, 1) := by decide +kernel
theorem dX1_isBendRefused_19 : decode cX1_isBendRefused 19 = .ok (.ifCond .lt 15, 3) := by decide +kernel
theorem dX1_isBendRefused_22 : decode cX1_isBendRefused 22 = .ok (.aload_n 0, 1) := by decide +kernel
theorem dX1_isBendRefused_23 : decode cX1_isBendRefused 23 = .ok (.iload_n 1, 1) := by decide +kernel
theorem dX1_isBendRefused_24 : decode cX1_isBendRefused 24 = .ok (.invokevirtual 36, 3) := by decide +kernel
theorem dX1_isBendRefused_27 : decode cX1_isBendRefused 27 = .ok (.ldc2_w 67, 3) := by decide +kernel
theorem dX1_isBendRefused_30 : decode cX1_isBendRefused 30 = .ok (.lcmp, 1) := by decide +kernel
theorem dX1_isBendRefused_31 : decode cX1_isBendRefused 31 = .ok (.ifCond .le 7, 3) := by decide +kernel
theorem dX1_isBendRefused_34 : decode cX1_isBendRefused 34 = .ok (.iconst 1, 1) := by decide +kernel
theorem dX1_isBendRefused_35 : decode cX1_isBendRefused 35 = .ok (.goto 4, 3) := by decide +kernel
theorem dX1_isBendRefused_38 : decode cX1_isBendRefused 38 = .ok (.iconst 0, 1) := by decide +kernel
theorem dX1_isBendRefused_39 : decode cX1_isBendRefused 39 = .ok (.ireturn, 1) := by decide +kernel
theorem dX1_isPlaceRefused_0 : decode cX1_isPlaceRefused 0 = .ok (.aload_n 0, 1) := by decide +kernel
theorem dX1_isPlaceRefused_1 : decode cX1_isPlaceRefused 1 = .ok (.iload_n 1, 1) := by decide +kernel
theorem dX1_isPlaceRefused_2 : decode cX1_isPlaceRefused 2 = .ok (.iconst 1, 1) := by decide +kernel
theorem dX1_isPlaceRefused_3 : decode cX1_isPlaceRefused 3 = .ok (.invokevirtual 21, 3) := by decide +kernel
theorem dX1_isPlaceRefused_6 : decode cX1_isPlaceRefused 6 = .ok (.invokestatic 69, 3) := by decide +kernel
theorem dX1_isPlaceRefused_9 : decode cX1_isPlaceRefused 9 = .ok (.ifCond .ne 15, 3) := by decide +kernel
theorem dX1_isPlaceRefused_12 : decode cX1_isPlaceRefused 12 = .ok (.aload_n 0, 1) := by decide +kernel
theorem dX1_isPlaceRefused_13 : decode cX1_isPlaceRefused 13 = .ok (.iload_n 1, 1) := by decide +kernel
theorem dX1_isPlaceRefused_14 : decode cX1_isPlaceRefused 14 = .ok (.iconst 2, 1) := by decide +kernel
theorem dX1_isPlaceRefused_15 : decode cX1_isPlaceRefused 15 = .ok (.invokevirtual 21, 3) := by decide +kernel
theorem dX1_isPlaceRefused_18 : decode cX1_isPlaceRefused 18 = .ok (.invokestatic 69, 3) := by decide +kernel
theorem dX1_isPlaceRefused_21 : decode cX1_isPlaceRefused 21 = .ok (.ifCond .eq 7, 3) := by decide +kernel
theorem dX1_isPlaceRefused_24 : decode cX1_isPlaceRefused 24 = .ok (.iconst 1, 1) := by decide +kernel
theorem dX1_isPlaceRefused_25 : decode cX1_isPlaceRefused 25 = .ok (.goto 4, 3) := by decide +kernel
theorem dX1_isPlaceRefused_28 : decode cX1_isPlaceRefused 28 = .ok (.iconst 0, 1) := by decide +kernel
theorem dX1_isPlaceRefused_29 : decode cX1_isPlaceRefused 29 = .ok (.ireturn, 1) := by decide +kernel
theorem dX1_isBeyond_0 : decode cX1_isBeyond 0 = .ok (.lload_n 0, 1) := by decide +kernel
theorem dX1_isBeyond_1 : decode cX1_isBeyond 1 = .ok (.ldc2_w 73, 3) := by decide +kernel
theorem dX1_isBeyond_4 : decode cX1_isBeyond 4 = .ok (.lcmp, 1) := by decide +kernel
theorem dX1_isBeyond_5 : decode cX1_isBeyond 5 = .ok (.ifCond .lt 11, 3) := by decide +kernel
theorem dX1_isBeyond_8 : decode cX1_isBeyond 8 = .ok (.lload_n 0, 1) := by decide +kernel
theorem dX1_isBeyond_9 : decode cX1_isBeyond 9 = .ok (.ldc2_w 75, 3) := by decide +kernel
theorem dX1_isBeyond_12 : decode cX1_isBeyond 12 = .ok (.lcmp, 1) := by decide +kernel
theorem dX1_isBeyond_13 : decode cX1_isBeyond 13 = .ok (.ifCond .le 7, 3) := by decide +kernel
theorem dX1_isBeyond_16 : decode cX1_isBeyond 16 = .ok (.iconst 1, 1) := by decide +kernel
theorem dX1_isBeyond_17 : decode cX1_isBeyond 17 = .ok (.goto 4, 3) := by decide +kernel
theorem dX1_isBeyond_20 : decode cX1_isBeyond 20 = .ok (.iconst 0, 1) := by decide +kernel
theorem dX1_isBeyond_21 : decode cX1_isBeyond 21 = .ok (.ireturn, 1) := by decide +kernel
theorem dX1_refusal_0 : decode cX1_refusal 0 = .ok (.iconst 0, 1) := by decide +kernel
theorem dX1_refusal_1 : decode cX1_refusal 1 = .ok (.istore_n 1, 1) := by decide +kernel
theorem dX1_refusal_2 : decode cX1_refusal 2 = .ok (.iload_n 1, 1) := by decide +kernel
theorem dX1_refusal_3 : decode cX1_refusal 3 = .ok (.iconst 4, 1) := by decide +kernel
theorem dX1_refusal_4 : decode cX1_refusal 4 = .ok (.if_icmp .ge 20, 3) := by decide +kernel
theorem dX1_refusal_7 : decode cX1_refusal 7 = .ok (.aload_n 0, 1) := by decide +kernel
theorem dX1_refusal_8 : decode cX1_refusal 8 = .ok (.iload_n 1, 1) := by decide +kernel
theorem dX1_refusal_9 : decode cX1_refusal 9 = .ok (.invokevirtual 59, 3) := by decide +kernel
theorem dX1_refusal_12 : decode cX1_refusal 12 = .ok (.ifCond .eq 6, 3) := by decide +kernel
theorem dX1_refusal_15 : decode cX1_refusal 15 = .ok (.bipush (-15), 2) := by decide +kernel
theorem dX1_refusal_17 : decode cX1_refusal 17 = .ok (.ireturn, 1) := by decide +kernel
theorem dX1_refusal_18 : decode cX1_refusal 18 = .ok (.iinc 1 1, 3) := by decide +kernel
theorem dX1_refusal_21 : decode cX1_refusal 21 = .ok (.goto (-19), 3) := by decide +kernel
theorem dX1_refusal_24 : decode cX1_refusal 24 = .ok (.iconst 0, 1) := by decide +kernel
theorem dX1_refusal_25 : decode cX1_refusal 25 = .ok (.istore_n 1, 1) := by decide +kernel
theorem dX1_refusal_26 : decode cX1_refusal 26 = .ok (.iload_n 1, 1) := by decide +kernel
theorem dX1_refusal_27 : decode cX1_refusal 27 = .ok (.iconst 4, 1) := by decide +kernel
theorem dX1_refusal_28 : decode cX1_refusal 28 = .ok (.if_icmp .ge 20, 3) := by decide +kernel
theorem dX1_refusal_31 : decode cX1_refusal 31 = .ok (.aload_n 0, 1) := by decide +kernel
theorem dX1_refusal_32 : decode cX1_refusal 32 = .ok (.iload_n 1, 1) := by decide +kernel
theorem dX1_refusal_33 : decode cX1_refusal 33 = .ok (.invokevirtual 62, 3) := by decide +kernel
theorem dX1_refusal_36 : decode cX1_refusal 36 = .ok (.ifCond .eq 6, 3) := by decide +kernel
theorem dX1_refusal_39 : decode cX1_refusal 39 = .ok (.bipush (-16), 2) := by decide +kernel
theorem dX1_refusal_41 : decode cX1_refusal 41 = .ok (.ireturn, 1) := by decide +kernel
theorem dX1_refusal_42 : decode cX1_refusal 42 = .ok (.iinc 1 1, 3) := by decide +kernel
theorem dX1_refusal_45 : decode cX1_refusal 45 = .ok (.goto (-19), 3) := by decide +kernel
theorem dX1_refusal_48 : decode cX1_refusal 48 = .ok (.aload_n 0, 1) := by decide +kernel
theorem dX1_refusal_49 : decode cX1_refusal 49 = .ok (.invokevirtual 77, 3) := by decide +kernel
theorem dX1_refusal_52 : decode cX1_refusal 52 = .ok (.ifCond .ne 6, 3) := by decide +kernel
theorem dX1_refusal_55 : decode cX1_refusal 55 = .ok (.bipush (-17), 2) := by decide +kernel
theorem dX1_refusal_57 : decode cX1_refusal 57 = .ok (.ireturn, 1) := by decide +kernel
theorem dX1_refusal_58 : decode cX1_refusal 58 = .ok (.aload_n 0, 1) := by decide +kernel
theorem dX1_refusal_59 : decode cX1_refusal 59 = .ok (.invokevirtual 81, 3) := by decide +kernel
theorem dX1_refusal_62 : decode cX1_refusal 62 = .ok (.iconst 1, 1) := by decide +kernel
theorem dX1_refusal_63 : decode cX1_refusal 63 = .ok (.if_icmp .le 6, 3) := by decide +kernel
theorem dX1_refusal_66 : decode cX1_refusal 66 = .ok (.bipush (-18), 2) := by decide +kernel
theorem dX1_refusal_68 : decode cX1_refusal 68 = .ok (.ireturn, 1) := by decide +kernel
theorem dX1_refusal_69 : decode cX1_refusal 69 = .ok (.aload_n 0, 1) := by decide +kernel
theorem dX1_refusal_70 : decode cX1_refusal 70 = .ok (.invokevirtual 84, 3) := by decide +kernel
theorem dX1_refusal_73 : decode cX1_refusal 73 = .ok (.lconst 1, 1) := by decide +kernel
theorem dX1_refusal_74 : decode cX1_refusal 74 = .ok (.lcmp, 1) := by decide +kernel
theorem dX1_refusal_75 : decode cX1_refusal 75 = .ok (.ifCond .le 6, 3) := by decide +kernel
theorem dX1_refusal_78 : decode cX1_refusal 78 = .ok (.bipush (-19), 2) := by decide +kernel
theorem dX1_refusal_80 : decode cX1_refusal 80 = .ok (.ireturn, 1) := by decide +kernel
theorem dX1_refusal_81 : decode cX1_refusal 81 = .ok (.aload_n 0, 1) := by decide +kernel
theorem dX1_refusal_82 : decode cX1_refusal 82 = .ok (.invokevirtual 88, 3) := by decide +kernel
theorem dX1_refusal_85 : decode cX1_refusal 85 = .ok (.ifCond .eq 7, 3) := by decide +kernel
theorem dX1_refusal_88 : decode cX1_refusal 88 = .ok (.iconst 0, 1) := by decide +kernel
theorem dX1_refusal_89 : decode cX1_refusal 89 = .ok (.goto 5, 3) := by decide +kernel
theorem dX1_refusal_92 : decode cX1_refusal 92 = .ok (.bipush (-20), 2) := by decide +kernel
theorem dX1_refusal_94 : decode cX1_refusal 94 = .ok (.ireturn, 1) := by decide +kernel
theorem dX1_doBendsStand_0 : decode cX1_doBendsStand 0 = .ok (.lconst 0, 1) := by decide +kernel
theorem dX1_doBendsStand_1 : decode cX1_doBendsStand 1 = .ok (.lstore_n 1, 1) := by decide +kernel
theorem dX1_doBendsStand_2 : decode cX1_doBendsStand 2 = .ok (.iconst 0, 1) := by decide +kernel
theorem dX1_doBendsStand_3 : decode cX1_doBendsStand 3 = .ok (.istore_n 3, 1) := by decide +kernel
theorem dX1_doBendsStand_4 : decode cX1_doBendsStand 4 = .ok (.iload_n 3, 1) := by decide +kernel
theorem dX1_doBendsStand_5 : decode cX1_doBendsStand 5 = .ok (.iconst 4, 1) := by decide +kernel
theorem dX1_doBendsStand_6 : decode cX1_doBendsStand 6 = .ok (.if_icmp .ge 23, 3) := by decide +kernel
theorem dX1_doBendsStand_9 : decode cX1_doBendsStand 9 = .ok (.lload_n 1, 1) := by decide +kernel
theorem dX1_doBendsStand_10 : decode cX1_doBendsStand 10 = .ok (.aload_n 0, 1) := by decide +kernel
theorem dX1_doBendsStand_11 : decode cX1_doBendsStand 11 = .ok (.iload_n 3, 1) := by decide +kernel
theorem dX1_doBendsStand_12 : decode cX1_doBendsStand 12 = .ok (.invokevirtual 36, 3) := by decide +kernel
theorem dX1_doBendsStand_15 : decode cX1_doBendsStand 15 = .ok (.aload_n 0, 1) := by decide +kernel
theorem dX1_doBendsStand_16 : decode cX1_doBendsStand 16 = .ok (.iload_n 3, 1) := by decide +kernel
theorem dX1_doBendsStand_17 : decode cX1_doBendsStand 17 = .ok (.invokevirtual 36, 3) := by decide +kernel
theorem dX1_doBendsStand_20 : decode cX1_doBendsStand 20 = .ok (.lmul, 1) := by decide +kernel
theorem dX1_doBendsStand_21 : decode cX1_doBendsStand 21 = .ok (.ladd, 1) := by decide +kernel
theorem dX1_doBendsStand_22 : decode cX1_doBendsStand 22 = .ok (.lstore_n 1, 1) := by decide +kernel
theorem dX1_doBendsStand_23 : decode cX1_doBendsStand 23 = .ok (.iinc 3 1, 3) := by decide +kernel
theorem dX1_doBendsStand_26 : decode cX1_doBendsStand 26 = .ok (.goto (-22), 3) := by decide +kernel
theorem dX1_doBendsStand_29 : decode cX1_doBendsStand 29 = .ok (.aload_n 0, 1) := by decide +kernel
theorem dX1_doBendsStand_30 : decode cX1_doBendsStand 30 = .ok (.iconst 0, 1) := by decide +kernel
theorem dX1_doBendsStand_31 : decode cX1_doBendsStand 31 = .ok (.invokevirtual 27, 3) := by decide +kernel
theorem dX1_doBendsStand_34 : decode cX1_doBendsStand 34 = .ok (.lstore_n 3, 1) := by decide +kernel
theorem dX1_doBendsStand_35 : decode cX1_doBendsStand 35 = .ok (.lload_n 3, 1) := by decide +kernel
theorem dX1_doBendsStand_36 : decode cX1_doBendsStand 36 = .ok (.lconst 0, 1) := by decide +kernel
theorem dX1_doBendsStand_37 : decode cX1_doBendsStand 37 = .ok (.lcmp, 1) := by decide +kernel
theorem dX1_doBendsStand_38 : decode cX1_doBendsStand 38 = .ok (.ifCond .le 19, 3) := by decide +kernel
theorem dX1_doBendsStand_41 : decode cX1_doBendsStand 41 = .ok (.ldc2_w 25, 3) := by decide +kernel
theorem dX1_doBendsStand_44 : decode cX1_doBendsStand 44 = .ok (.lload_n 1, 1) := by decide +kernel
theorem dX1_doBendsStand_45 : decode cX1_doBendsStand 45 = .ok (.lmul, 1) := by decide +kernel
theorem dX1_doBendsStand_46 : decode cX1_doBendsStand 46 = .ok (.lload_n 3, 1) := by decide +kernel
theorem dX1_doBendsStand_47 : decode cX1_doBendsStand 47 = .ok (.lload_n 3, 1) := by decide +kernel
theorem dX1_doBendsStand_48 : decode cX1_doBendsStand 48 = .ok (.lmul, 1) := by decide +kernel
theorem dX1_doBendsStand_49 : decode cX1_doBendsStand 49 = .ok (.lcmp, 1) := by decide +kernel
theorem dX1_doBendsStand_50 : decode cX1_doBendsStand 50 = .ok (.ifCond .ne 7, 3) := by decide +kernel
theorem dX1_doBendsStand_53 : decode cX1_doBendsStand 53 = .ok (.iconst 1, 1) := by decide +kernel
theorem dX1_doBendsStand_54 : decode cX1_doBendsStand 54 = .ok (.goto 4, 3) := by decide +kernel
theorem dX1_doBendsStand_57 : decode cX1_doBendsStand 57 = .ok (.iconst 0, 1) := by decide +kernel
theorem dX1_doBendsStand_58 : decode cX1_doBendsStand 58 = .ok (.ireturn, 1) := by decide +kernel
theorem dX1_bendsBelowZero_0 : decode cX1_bendsBelowZero 0 = .ok (.iconst 0, 1) := by decide +kernel
theorem dX1_bendsBelowZero_1 : decode cX1_bendsBelowZero 1 = .ok (.istore_n 1, 1) := by decide +kernel
theorem dX1_bendsBelowZero_2 : decode cX1_bendsBelowZero 2 = .ok (.iconst 0, 1) := by decide +kernel
theorem dX1_bendsBelowZero_3 : decode cX1_bendsBelowZero 3 = .ok (.istore_n 2, 1) := by decide +kernel
theorem dX1_bendsBelowZero_4 : decode cX1_bendsBelowZero 4 = .ok (.iload_n 2, 1) := by decide +kernel
theorem dX1_bendsBelowZero_5 : decode cX1_bendsBelowZero 5 = .ok (.iconst 4, 1) := by decide +kernel
theorem dX1_bendsBelowZero_6 : decode cX1_bendsBelowZero 6 = .ok (.if_icmp .ge 22, 3) := by decide +kernel
theorem dX1_bendsBelowZero_9 : decode cX1_bendsBelowZero 9 = .ok (.aload_n 0, 1) := by decide +kernel
theorem dX1_bendsBelowZero_10 : decode cX1_bendsBelowZero 10 = .ok (.iload_n 2, 1) := by decide +kernel
theorem dX1_bendsBelowZero_11 : decode cX1_bendsBelowZero 11 = .ok (.invokevirtual 36, 3) := by decide +kernel
theorem dX1_bendsBelowZero_14 : decode cX1_bendsBelowZero 14 = .ok (.lconst 0, 1) := by decide +kernel
theorem dX1_bendsBelowZero_15 : decode cX1_bendsBelowZero 15 = .ok (.lcmp, 1) := by decide +kernel
theorem dX1_bendsBelowZero_16 : decode cX1_bendsBelowZero 16 = .ok (.ifCond .ge 6, 3) := by decide +kernel
theorem dX1_bendsBelowZero_19 : decode cX1_bendsBelowZero 19 = .ok (.iinc 1 1, 3) := by decide +kernel
theorem dX1_bendsBelowZero_22 : decode cX1_bendsBelowZero 22 = .ok (.iinc 2 1, 3) := by decide +kernel
theorem dX1_bendsBelowZero_25 : decode cX1_bendsBelowZero 25 = .ok (.goto (-21), 3) := by decide +kernel
theorem dX1_bendsBelowZero_28 : decode cX1_bendsBelowZero 28 = .ok (.iload_n 1, 1) := by decide +kernel
theorem dX1_bendsBelowZero_29 : decode cX1_bendsBelowZero 29 = .ok (.ireturn, 1) := by decide +kernel
theorem dX1_divisorOfBends_0 : decode cX1_divisorOfBends 0 = .ok (.lconst 0, 1) := by decide +kernel
theorem dX1_divisorOfBends_1 : decode cX1_divisorOfBends 1 = .ok (.lstore_n 1, 1) := by decide +kernel
theorem dX1_divisorOfBends_2 : decode cX1_divisorOfBends 2 = .ok (.iconst 0, 1) := by decide +kernel
theorem dX1_divisorOfBends_3 : decode cX1_divisorOfBends 3 = .ok (.istore_n 3, 1) := by decide +kernel
theorem dX1_divisorOfBends_4 : decode cX1_divisorOfBends 4 = .ok (.iload_n 3, 1) := by decide +kernel
theorem dX1_divisorOfBends_5 : decode cX1_divisorOfBends 5 = .ok (.iconst 4, 1) := by decide +kernel
theorem dX1_divisorOfBends_6 : decode cX1_divisorOfBends 6 = .ok (.if_icmp .ge 55, 3) := by decide +kernel
theorem dX1_divisorOfBends_9 : decode cX1_divisorOfBends 9 = .ok (.aload_n 0, 1) := by decide +kernel
theorem dX1_divisorOfBends_10 : decode cX1_divisorOfBends 10 = .ok (.iload_n 3, 1) := by decide +kernel
theorem dX1_divisorOfBends_11 : decode cX1_divisorOfBends 11 = .ok (.invokevirtual 36, 3) := by decide +kernel
theorem dX1_divisorOfBends_14 : decode cX1_divisorOfBends 14 = .ok (.invokestatic 91, 3) := by decide +kernel
theorem dX1_divisorOfBends_17 : decode cX1_divisorOfBends 17 = .ok (.lstore 4, 2) := by decide +kernel
theorem dX1_divisorOfBends_19 : decode cX1_divisorOfBends 19 = .ok (.iconst 0, 1) := by decide +kernel
theorem dX1_divisorOfBends_20 : decode cX1_divisorOfBends 20 = .ok (.istore 6, 2) := by decide +kernel
theorem dX1_divisorOfBends_22 : decode cX1_divisorOfBends 22 = .ok (.iload 6, 2) := by decide +kernel
theorem dX1_divisorOfBends_24 : decode cX1_divisorOfBends 24 = .ok (.bipush 100, 2) := by decide +kernel
theorem dX1_divisorOfBends_26 : decode cX1_divisorOfBends 26 = .ok (.if_icmp .ge 29, 3) := by decide +kernel
theorem dX1_divisorOfBends_29 : decode cX1_divisorOfBends 29 = .ok (.lload 4, 2) := by decide +kernel
theorem dX1_divisorOfBends_31 : decode cX1_divisorOfBends 31 = .ok (.lconst 0, 1) := by decide +kernel
theorem dX1_divisorOfBends_32 : decode cX1_divisorOfBends 32 = .ok (.lcmp, 1) := by decide +kernel
theorem dX1_divisorOfBends_33 : decode cX1_divisorOfBends 33 = .ok (.ifCond .eq 22, 3) := by decide +kernel
theorem dX1_divisorOfBends_36 : decode cX1_divisorOfBends 36 = .ok (.lload_n 1, 1) := by decide +kernel
theorem dX1_divisorOfBends_37 : decode cX1_divisorOfBends 37 = .ok (.lload 4, 2) := by decide +kernel
theorem dX1_divisorOfBends_39 : decode cX1_divisorOfBends 39 = .ok (.lrem, 1) := by decide +kernel
theorem dX1_divisorOfBends_40 : decode cX1_divisorOfBends 40 = .ok (.lstore 7, 2) := by decide +kernel
theorem dX1_divisorOfBends_42 : decode cX1_divisorOfBends 42 = .ok (.lload 4, 2) := by decide +kernel
theorem dX1_divisorOfBends_44 : decode cX1_divisorOfBends 44 = .ok (.lstore_n 1, 1) := by decide +kernel
theorem dX1_divisorOfBends_45 : decode cX1_divisorOfBends 45 = .ok (.lload 7, 2) := by decide +kernel
theorem dX1_divisorOfBends_47 : decode cX1_divisorOfBends 47 = .ok (.lstore 4, 2) := by decide +kernel
theorem dX1_divisorOfBends_49 : decode cX1_divisorOfBends 49 = .ok (.iinc 6 1, 3) := by decide +kernel
theorem dX1_divisorOfBends_52 : decode cX1_divisorOfBends 52 = .ok (.goto (-30), 3) := by decide +kernel
theorem dX1_divisorOfBends_55 : decode cX1_divisorOfBends 55 = .ok (.iinc 3 1, 3) := by decide +kernel
theorem dX1_divisorOfBends_58 : decode cX1_divisorOfBends 58 = .ok (.goto (-54), 3) := by decide +kernel
theorem dX1_divisorOfBends_61 : decode cX1_divisorOfBends 61 = .ok (.lload_n 1, 1) := by decide +kernel
theorem dX1_divisorOfBends_62 : decode cX1_divisorOfBends 62 = .ok (.lreturn, 1) := by decide +kernel
theorem dX1_doAllTouch_0 : decode cX1_doAllTouch 0 = .ok (.iconst 0, 1) := by decide +kernel
theorem dX1_doAllTouch_1 : decode cX1_doAllTouch 1 = .ok (.istore_n 1, 1) := by decide +kernel
theorem dX1_doAllTouch_2 : decode cX1_doAllTouch 2 = .ok (.iload_n 1, 1) := by decide +kernel
theorem dX1_doAllTouch_3 : decode cX1_doAllTouch 3 = .ok (.iconst 4, 1) := by decide +kernel
theorem dX1_doAllTouch_4 : decode cX1_doAllTouch 4 = .ok (.if_icmp .ge 36, 3) := by decide +kernel
theorem dX1_doAllTouch_7 : decode cX1_doAllTouch 7 = .ok (.iload_n 1, 1) := by decide +kernel
theorem dX1_doAllTouch_8 : decode cX1_doAllTouch 8 = .ok (.iconst 1, 1) := by decide +kernel
theorem dX1_doAllTouch_9 : decode cX1_doAllTouch 9 = .ok (.iadd, 1) := by decide +kernel
theorem dX1_doAllTouch_10 : decode cX1_doAllTouch 10 = .ok (.istore_n 2, 1) := by decide +kernel
theorem dX1_doAllTouch_11 : decode cX1_doAllTouch 11 = .ok (.iload_n 2, 1) := by decide +kernel
theorem dX1_doAllTouch_12 : decode cX1_doAllTouch 12 = .ok (.iconst 4, 1) := by decide +kernel
theorem dX1_doAllTouch_13 : decode cX1_doAllTouch 13 = .ok (.if_icmp .ge 21, 3) := by decide +kernel
theorem dX1_doAllTouch_16 : decode cX1_doAllTouch 16 = .ok (.aload_n 0, 1) := by decide +kernel
theorem dX1_doAllTouch_17 : decode cX1_doAllTouch 17 = .ok (.iload_n 1, 1) := by decide +kernel
theorem dX1_doAllTouch_18 : decode cX1_doAllTouch 18 = .ok (.aload_n 0, 1) := by decide +kernel
theorem dX1_doAllTouch_19 : decode cX1_doAllTouch 19 = .ok (.iload_n 2, 1) := by decide +kernel
theorem dX1_doAllTouch_20 : decode cX1_doAllTouch 20 = .ok (.invokevirtual 97, 3) := by decide +kernel
theorem dX1_doAllTouch_23 : decode cX1_doAllTouch 23 = .ok (.ifCond .ne 5, 3) := by decide +kernel
theorem dX1_doAllTouch_26 : decode cX1_doAllTouch 26 = .ok (.iconst 0, 1) := by decide +kernel
theorem dX1_doAllTouch_27 : decode cX1_doAllTouch 27 = .ok (.ireturn, 1) := by decide +kernel
theorem dX1_doAllTouch_28 : decode cX1_doAllTouch 28 = .ok (.iinc 2 1, 3) := by decide +kernel
theorem dX1_doAllTouch_31 : decode cX1_doAllTouch 31 = .ok (.goto (-20), 3) := by decide +kernel
theorem dX1_doAllTouch_34 : decode cX1_doAllTouch 34 = .ok (.iinc 1 1, 3) := by decide +kernel
theorem dX1_doAllTouch_37 : decode cX1_doAllTouch 37 = .ok (.goto (-35), 3) := by decide +kernel
theorem dX1_doAllTouch_40 : decode cX1_doAllTouch 40 = .ok (.iconst 1, 1) := by decide +kernel
theorem dX1_doAllTouch_41 : decode cX1_doAllTouch 41 = .ok (.ireturn, 1) := by decide +kernel
theorem dX2_init_0 : decode cX2_init 0 = .ok (.aload_n 0, 1) := by decide +kernel
theorem dX2_init_1 : decode cX2_init 1 = .ok (.invokespecial 3, 3) := by decide +kernel
theorem dX2_init_4 : decode cX2_init 4 = .ok (.aload_n 0, 1) := by decide +kernel
theorem dX2_init_5 : decode cX2_init 5 = .ok (.iconst 3, 1) := by decide +kernel
theorem dX2_init_6 : decode cX2_init 6 = .ok (.sipush 240, 3) := by decide +kernel
theorem dX2_init_9 : decode cX2_init 9 = .ok (.multianewarray 9 2, 4) := by decide +kernel
theorem dX2_init_13 : decode cX2_init 13 = .ok (.putfield 11, 3) := by decide +kernel
theorem dX2_init_16 : decode cX2_init 16 = .ok (.aload_n 0, 1) := by decide +kernel
theorem dX2_init_17 : decode cX2_init 17 = .ok (.iconst 0, 1) := by decide +kernel
theorem dX2_init_18 : decode cX2_init 18 = .ok (.putfield 16, 3) := by decide +kernel
theorem dX2_init_21 : decode cX2_init 21 = .ok (.aload_n 0, 1) := by decide +kernel
theorem dX2_init_22 : decode cX2_init 22 = .ok (.iconst 0, 1) := by decide +kernel
theorem dX2_init_23 : decode cX2_init 23 = .ok (.putfield 20, 3) := by decide +kernel
theorem dX2_init_26 : decode cX2_init 26 = .ok (.aload_n 0, 1) := by decide +kernel
theorem dX2_init_27 : decode cX2_init 27 = .ok (.iconst 0, 1) := by decide +kernel
theorem dX2_init_28 : decode cX2_init 28 = .ok (.putfield 23, 3) := by decide +kernel
theorem dX2_init_31 : decode cX2_init 31 = .ok (.return_, 1) := by decide +kernel
theorem dX2_begin_0 : decode cX2_begin 0 = .ok (.aload_n 0, 1) := by decide +kernel
theorem dX2_begin_1 : decode cX2_begin 1 = .ok (.iconst 0, 1) := by decide +kernel
theorem dX2_begin_2 : decode cX2_begin 2 = .ok (.putfield 16, 3) := by decide +kernel
theorem dX2_begin_5 : decode cX2_begin 5 = .ok (.aload_n 0, 1) := by decide +kernel
theorem dX2_begin_6 : decode cX2_begin 6 = .ok (.iload_n 1, 1) := by decide +kernel
theorem dX2_begin_7 : decode cX2_begin 7 = .ok (.putfield 20, 3) := by decide +kernel
theorem dX2_begin_10 : decode cX2_begin 10 = .ok (.aload_n 0, 1) := by decide +kernel
theorem dX2_begin_11 : decode cX2_begin 11 = .ok (.iload_n 2, 1) := by decide +kernel
theorem dX2_begin_12 : decode cX2_begin 12 = .ok (.putfield 23, 3) := by decide +kernel
theorem dX2_begin_15 : decode cX2_begin 15 = .ok (.return_, 1) := by decide +kernel
theorem dX2_enter_0 : decode cX2_enter 0 = .ok (.aload_n 1, 1) := by decide +kernel
theorem dX2_enter_1 : decode cX2_enter 1 = .ok (.iload_n 2, 1) := by decide +kernel
theorem dX2_enter_2 : decode cX2_enter 2 = .ok (.invokevirtual 26, 3) := by decide +kernel
theorem dX2_enter_5 : decode cX2_enter 5 = .ok (.ifCond .eq 5, 3) := by decide +kernel
theorem dX2_enter_8 : decode cX2_enter 8 = .ok (.iconst 0, 1) := by decide +kernel
theorem dX2_enter_9 : decode cX2_enter 9 = .ok (.ireturn, 1) := by decide +kernel
theorem dX2_enter_10 : decode cX2_enter 10 = .ok (.aload_n 0, 1) := by decide +kernel
theorem dX2_enter_11 : decode cX2_enter 11 = .ok (.getfield 16, 3) := by decide +kernel
theorem dX2_enter_14 : decode cX2_enter 14 = .ok (.istore_n 3, 1) := by decide +kernel
theorem dX2_enter_15 : decode cX2_enter 15 = .ok (.iload_n 3, 1) := by decide +kernel
theorem dX2_enter_16 : decode cX2_enter 16 = .ok (.ifCond .le 21, 3) := by decide +kernel
theorem dX2_enter_19 : decode cX2_enter 19 = .ok (.aload_n 0, 1) := by decide +kernel
theorem dX2_enter_20 : decode cX2_enter 20 = .ok (.iload_n 3, 1) := by decide +kernel
theorem dX2_enter_21 : decode cX2_enter 21 = .ok (.iconst 1, 1) := by decide +kernel
theorem dX2_enter_22 : decode cX2_enter 22 = .ok (.isub, 1) := by decide +kernel
theorem dX2_enter_23 : decode cX2_enter 23 = .ok (.aload_n 1, 1) := by decide +kernel
theorem dX2_enter_24 : decode cX2_enter 24 = .ok (.iload_n 2, 1) := by decide +kernel
theorem dX2_enter_25 : decode cX2_enter 25 = .ok (.invokevirtual 32, 3) := by decide +kernel
theorem dX2_enter_28 : decode cX2_enter 28 = .ok (.ifCond .le 9, 3) := by decide +kernel
theorem dX2_enter_31 : decode cX2_enter 31 = .ok (.iinc 3 (-1), 3) := by decide +kernel
theorem dX2_enter_34 : decode cX2_enter 34 = .ok (.goto (-19), 3) := by decide +kernel
theorem dX2_enter_37 : decode cX2_enter 37 = .ok (.iload_n 3, 1) := by decide +kernel
theorem dX2_enter_38 : decode cX2_enter 38 = .ok (.ifCond .le 17, 3) := by decide +kernel
theorem dX2_enter_41 : decode cX2_enter 41 = .ok (.aload_n 0, 1) := by decide +kernel
theorem dX2_enter_42 : decode cX2_enter 42 = .ok (.iload_n 3, 1) := by decide +kernel
theorem dX2_enter_43 : decode cX2_enter 43 = .ok (.iconst 1, 1) := by decide +kernel
theorem dX2_enter_44 : decode cX2_enter 44 = .ok (.isub, 1) := by decide +kernel
theorem dX2_enter_45 : decode cX2_enter 45 = .ok (.aload_n 1, 1) := by decide +kernel
theorem dX2_enter_46 : decode cX2_enter 46 = .ok (.iload_n 2, 1) := by decide +kernel
theorem dX2_enter_47 : decode cX2_enter 47 = .ok (.invokevirtual 32, 3) := by decide +kernel
theorem dX2_enter_50 : decode cX2_enter 50 = .ok (.ifCond .ne 5, 3) := by decide +kernel
theorem dX2_enter_53 : decode cX2_enter 53 = .ok (.iconst 1, 1) := by decide +kernel
theorem dX2_enter_54 : decode cX2_enter 54 = .ok (.ireturn, 1) := by decide +kernel
theorem dX2_enter_55 : decode cX2_enter 55 = .ok (.aload_n 0, 1) := by decide +kernel
theorem dX2_enter_56 : decode cX2_enter 56 = .ok (.getfield 16, 3) := by decide +kernel
theorem dX2_enter_59 : decode cX2_enter 59 = .ok (.sipush 240, 3) := by decide +kernel
theorem dX2_enter_62 : decode cX2_enter 62 = .ok (.if_icmp .lt 5, 3) := by decide +kernel
theorem dX2_enter_65 : decode cX2_enter 65 = .ok (.iconst 0, 1) := by decide +kernel
theorem dX2_enter_66 : decode cX2_enter 66 = .ok (.ireturn, 1) := by decide +kernel
theorem dX2_enter_67 : decode cX2_enter 67 = .ok (.iconst 0, 1) := by decide +kernel
theorem dX2_enter_68 : decode cX2_enter 68 = .ok (.istore 4, 2) := by decide +kernel
theorem dX2_enter_70 : decode cX2_enter 70 = .ok (.iload 4, 2) := by decide +kernel
theorem dX2_enter_72 : decode cX2_enter 72 = .ok (.iconst 2, 1) := by decide +kernel
theorem dX2_enter_73 : decode cX2_enter 73 = .ok (.if_icmp .gt 52, 3) := by decide +kernel
theorem dX2_enter_76 : decode cX2_enter 76 = .ok (.aload_n 0, 1) := by decide +kernel
theorem dX2_enter_77 : decode cX2_enter 77 = .ok (.getfield 11, 3) := by decide +kernel
theorem dX2_enter_80 : decode cX2_enter 80 = .ok (.iload 4, 2) := by decide +kernel
theorem dX2_enter_82 : decode cX2_enter 82 = .ok (.aaload, 1) := by decide +kernel
theorem dX2_enter_83 : decode cX2_enter 83 = .ok (.iload_n 3, 1) := by decide +kernel
theorem dX2_enter_84 : decode cX2_enter 84 = .ok (.aload_n 0, 1) := by decide +kernel
theorem dX2_enter_85 : decode cX2_enter 85 = .ok (.getfield 11, 3) := by decide +kernel
theorem dX2_enter_88 : decode cX2_enter 88 = .ok (.iload 4, 2) := by decide +kernel
theorem dX2_enter_90 : decode cX2_enter 90 = .ok (.aaload, 1) := by decide +kernel
theorem dX2_enter_91 : decode cX2_enter 91 = .ok (.iload_n 3, 1) := by decide +kernel
theorem dX2_enter_92 : decode cX2_enter 92 = .ok (.iconst 1, 1) := by decide +kernel
theorem dX2_enter_93 : decode cX2_enter 93 = .ok (.iadd, 1) := by decide +kernel
theorem dX2_enter_94 : decode cX2_enter 94 = .ok (.aload_n 0, 1) := by decide +kernel
theorem dX2_enter_95 : decode cX2_enter 95 = .ok (.getfield 16, 3) := by decide +kernel
theorem dX2_enter_98 : decode cX2_enter 98 = .ok (.iload_n 3, 1) := by decide +kernel
theorem dX2_enter_99 : decode cX2_enter 99 = .ok (.isub, 1) := by decide +kernel
theorem dX2_enter_100 : decode cX2_enter 100 = .ok (.invokestatic 36, 3) := by decide +kernel
theorem dX2_enter_103 : decode cX2_enter 103 = .ok (.aload_n 0, 1) := by decide +kernel
theorem dX2_enter_104 : decode cX2_enter 104 = .ok (.getfield 11, 3) := by decide +kernel
theorem dX2_enter_107 : decode cX2_enter 107 = .ok (.iload 4, 2) := by decide +kernel
theorem dX2_enter_109 : decode cX2_enter 109 = .ok (.aaload, 1) := by decide +kernel
theorem dX2_enter_110 : decode cX2_enter 110 = .ok (.iload_n 3, 1) := by decide +kernel
theorem dX2_enter_111 : decode cX2_enter 111 = .ok (.aload_n 1, 1) := by decide +kernel
theorem dX2_enter_112 : decode cX2_enter 112 = .ok (.iload_n 2, 1) := by decide +kernel
theorem dX2_enter_113 : decode cX2_enter 113 = .ok (.iload 4, 2) := by decide +kernel
theorem dX2_enter_115 : decode cX2_enter 115 = .ok (.invokevirtual 42, 3) := by decide +kernel
theorem dX2_enter_118 : decode cX2_enter 118 = .ok (.lastore, 1) := by decide +kernel
theorem dX2_enter_119 : decode cX2_enter 119 = .ok (.iinc 4 1, 3) := by decide +kernel
theorem dX2_enter_122 : decode cX2_enter 122 = .ok (.goto (-52), 3) := by decide +kernel
theorem dX2_enter_125 : decode cX2_enter 125 = .ok (.aload_n 0, 1) := by decide +kernel
theorem dX2_enter_126 : decode cX2_enter 126 = .ok (.dup, 1) := by decide +kernel
theorem dX2_enter_127 : decode cX2_enter 127 = .ok (.getfield 16, 3) := by decide +kernel
theorem dX2_enter_130 : decode cX2_enter 130 = .ok (.iconst 1, 1) := by decide +kernel
theorem dX2_enter_131 : decode cX2_enter 131 = .ok (.iadd, 1) := by decide +kernel
theorem dX2_enter_132 : decode cX2_enter 132 = .ok (.putfield 16, 3) := by decide +kernel
theorem dX2_enter_135 : decode cX2_enter 135 = .ok (.iconst 1, 1) := by decide +kernel
theorem dX2_enter_136 : decode cX2_enter 136 = .ok (.ireturn, 1) := by decide +kernel
theorem dX2_order_0 : decode cX2_order 0 = .ok (.iconst 0, 1) := by decide +kernel
theorem dX2_order_1 : decode cX2_order 1 = .ok (.istore 4, 2) := by decide +kernel
theorem dX2_order_3 : decode cX2_order 3 = .ok (.iload 4, 2) := by decide +kernel
theorem dX2_order_5 : decode cX2_order 5 = .ok (.iconst 2, 1) := by decide +kernel
theorem dX2_order_6 : decode cX2_order 6 = .ok (.if_icmp .gt 38, 3) := by decide +kernel
theorem dX2_order_9 : decode cX2_order 9 = .ok (.aload_n 0, 1) := by decide +kernel
theorem dX2_order_10 : decode cX2_order 10 = .ok (.getfield 11, 3) := by decide +kernel
theorem dX2_order_13 : decode cX2_order 13 = .ok (.iload 4, 2) := by decide +kernel
theorem dX2_order_15 : decode cX2_order 15 = .ok (.aaload, 1) := by decide +kernel
theorem dX2_order_16 : decode cX2_order 16 = .ok (.iload_n 1, 1) := by decide +kernel
theorem dX2_order_17 : decode cX2_order 17 = .ok (.laload, 1) := by decide +kernel
theorem dX2_order_18 : decode cX2_order 18 = .ok (.aload_n 2, 1) := by decide +kernel
theorem dX2_order_19 : decode cX2_order 19 = .ok (.iload_n 3, 1) := by decide +kernel
theorem dX2_order_20 : decode cX2_order 20 = .ok (.iload 4, 2) := by decide +kernel
theorem dX2_order_22 : decode cX2_order 22 = .ok (.invokevirtual 42, 3) := by decide +kernel
theorem dX2_order_25 : decode cX2_order 25 = .ok (.invokestatic 46, 3) := by decide +kernel
theorem dX2_order_28 : decode cX2_order 28 = .ok (.istore 5, 2) := by decide +kernel
theorem dX2_order_30 : decode cX2_order 30 = .ok (.iload 5, 2) := by decide +kernel
theorem dX2_order_32 : decode cX2_order 32 = .ok (.ifCond .eq 6, 3) := by decide +kernel
theorem dX2_order_35 : decode cX2_order 35 = .ok (.iload 5, 2) := by decide +kernel
theorem dX2_order_37 : decode cX2_order 37 = .ok (.ireturn, 1) := by decide +kernel
theorem dX2_order_38 : decode cX2_order 38 = .ok (.iinc 4 1, 3) := by decide +kernel
theorem dX2_order_41 : decode cX2_order 41 = .ok (.goto (-38), 3) := by decide +kernel
theorem dX2_order_44 : decode cX2_order 44 = .ok (.iconst 0, 1) := by decide +kernel
theorem dX2_order_45 : decode cX2_order 45 = .ok (.ireturn, 1) := by decide +kernel
theorem dX2_bendLeft_0 : decode cX2_bendLeft 0 = .ok (.iconst 0, 1) := by decide +kernel
theorem dX2_bendLeft_1 : decode cX2_bendLeft 1 = .ok (.istore_n 2, 1) := by decide +kernel
theorem dX2_bendLeft_2 : decode cX2_bendLeft 2 = .ok (.iconst 0, 1) := by decide +kernel
theorem dX2_bendLeft_3 : decode cX2_bendLeft 3 = .ok (.istore_n 3, 1) := by decide +kernel
theorem dX2_bendLeft_4 : decode cX2_bendLeft 4 = .ok (.iconst 1, 1) := by decide +kernel
theorem dX2_bendLeft_5 : decode cX2_bendLeft 5 = .ok (.istore 4, 2) := by decide +kernel
theorem dX2_bendLeft_7 : decode cX2_bendLeft 7 = .ok (.iload 4, 2) := by decide +kernel
theorem dX2_bendLeft_9 : decode cX2_bendLeft 9 = .ok (.aload_n 0, 1) := by decide +kernel
theorem dX2_bendLeft_10 : decode cX2_bendLeft 10 = .ok (.getfield 20, 3) := by decide +kernel
theorem dX2_bendLeft_13 : decode cX2_bendLeft 13 = .ok (.if_icmp .gt 100, 3) := by decide +kernel
theorem dX2_bendLeft_16 : decode cX2_bendLeft 16 = .ok (.iload_n 3, 1) := by decide +kernel
theorem dX2_bendLeft_17 : decode cX2_bendLeft 17 = .ok (.aload_n 0, 1) := by decide +kernel
theorem dX2_bendLeft_18 : decode cX2_bendLeft 18 = .ok (.getfield 16, 3) := by decide +kernel
theorem dX2_bendLeft_21 : decode cX2_bendLeft 21 = .ok (.if_icmp .ge 24, 3) := by decide +kernel
theorem dX2_bendLeft_24 : decode cX2_bendLeft 24 = .ok (.aload_n 0, 1) := by decide +kernel
theorem dX2_bendLeft_25 : decode cX2_bendLeft 25 = .ok (.getfield 11, 3) := by decide +kernel
theorem dX2_bendLeft_28 : decode cX2_bendLeft 28 = .ok (.iconst 0, 1) := by decide +kernel
theorem dX2_bendLeft_29 : decode cX2_bendLeft 29 = .ok (.aaload, 1) := by decide +kernel
theorem dX2_bendLeft_30 : decode cX2_bendLeft 30 = .ok (.iload_n 3, 1) := by decide +kernel
theorem dX2_bendLeft_31 : decode cX2_bendLeft 31 = .ok (.laload, 1) := by decide +kernel
theorem dX2_bendLeft_32 : decode cX2_bendLeft 32 = .ok (.iload 4, 2) := by decide +kernel
theorem dX2_bendLeft_34 : decode cX2_bendLeft 34 = .ok (.i2l, 1) := by decide +kernel
theorem dX2_bendLeft_35 : decode cX2_bendLeft 35 = .ok (.lcmp, 1) := by decide +kernel
theorem dX2_bendLeft_36 : decode cX2_bendLeft 36 = .ok (.ifCond .ge 9, 3) := by decide +kernel
theorem dX2_bendLeft_39 : decode cX2_bendLeft 39 = .ok (.iinc 3 1, 3) := by decide +kernel
theorem dX2_bendLeft_42 : decode cX2_bendLeft 42 = .ok (.goto (-26), 3) := by decide +kernel
theorem dX2_bendLeft_45 : decode cX2_bendLeft 45 = .ok (.iload_n 3, 1) := by decide +kernel
theorem dX2_bendLeft_46 : decode cX2_bendLeft 46 = .ok (.aload_n 0, 1) := by decide +kernel
theorem dX2_bendLeft_47 : decode cX2_bendLeft 47 = .ok (.getfield 16, 3) := by decide +kernel
theorem dX2_bendLeft_50 : decode cX2_bendLeft 50 = .ok (.if_icmp .ge 22, 3) := by decide +kernel
theorem dX2_bendLeft_53 : decode cX2_bendLeft 53 = .ok (.aload_n 0, 1) := by decide +kernel
theorem dX2_bendLeft_54 : decode cX2_bendLeft 54 = .ok (.getfield 11, 3) := by decide +kernel
theorem dX2_bendLeft_57 : decode cX2_bendLeft 57 = .ok (.iconst 0, 1) := by decide +kernel
theorem dX2_bendLeft_58 : decode cX2_bendLeft 58 = .ok (.aaload, 1) := by decide +kernel
theorem dX2_bendLeft_59 : decode cX2_bendLeft 59 = .ok (.iload_n 3, 1) := by decide +kernel
theorem dX2_bendLeft_60 : decode cX2_bendLeft 60 = .ok (.laload, 1) := by decide +kernel
theorem dX2_bendLeft_61 : decode cX2_bendLeft 61 = .ok (.iload 4, 2) := by decide +kernel
theorem dX2_bendLeft_63 : decode cX2_bendLeft 63 = .ok (.i2l, 1) := by decide +kernel
theorem dX2_bendLeft_64 : decode cX2_bendLeft 64 = .ok (.lcmp, 1) := by decide +kernel
theorem dX2_bendLeft_65 : decode cX2_bendLeft 65 = .ok (.ifCond .ne 7, 3) := by decide +kernel
theorem dX2_bendLeft_68 : decode cX2_bendLeft 68 = .ok (.iconst 1, 1) := by decide +kernel
theorem dX2_bendLeft_69 : decode cX2_bendLeft 69 = .ok (.goto 4, 3) := by decide +kernel
theorem dX2_bendLeft_72 : decode cX2_bendLeft 72 = .ok (.iconst 0, 1) := by decide +kernel
theorem dX2_bendLeft_73 : decode cX2_bendLeft 73 = .ok (.istore 5, 2) := by decide +kernel
theorem dX2_bendLeft_75 : decode cX2_bendLeft 75 = .ok (.iload 5, 2) := by decide +kernel
theorem dX2_bendLeft_77 : decode cX2_bendLeft 77 = .ok (.ifCond .ne 30, 3) := by decide +kernel
theorem dX2_bendLeft_80 : decode cX2_bendLeft 80 = .ok (.aload_n 0, 1) := by decide +kernel
theorem dX2_bendLeft_81 : decode cX2_bendLeft 81 = .ok (.getfield 23, 3) := by decide +kernel
theorem dX2_bendLeft_84 : decode cX2_bendLeft 84 = .ok (.iload 4, 2) := by decide +kernel
theorem dX2_bendLeft_86 : decode cX2_bendLeft 86 = .ok (.bipush 24, 2) := by decide +kernel
theorem dX2_bendLeft_88 : decode cX2_bendLeft 88 = .ok (.irem, 1) := by decide +kernel
theorem dX2_bendLeft_89 : decode cX2_bendLeft 89 = .ok (.ishr, 1) := by decide +kernel
theorem dX2_bendLeft_90 : decode cX2_bendLeft 90 = .ok (.iconst 1, 1) := by decide +kernel
theorem dX2_bendLeft_91 : decode cX2_bendLeft 91 = .ok (.iand, 1) := by decide +kernel
theorem dX2_bendLeft_92 : decode cX2_bendLeft 92 = .ok (.iconst 1, 1) := by decide +kernel
theorem dX2_bendLeft_93 : decode cX2_bendLeft 93 = .ok (.if_icmp .ne 14, 3) := by decide +kernel
theorem dX2_bendLeft_96 : decode cX2_bendLeft 96 = .ok (.iload_n 2, 1) := by decide +kernel
theorem dX2_bendLeft_97 : decode cX2_bendLeft 97 = .ok (.iload_n 1, 1) := by decide +kernel
theorem dX2_bendLeft_98 : decode cX2_bendLeft 98 = .ok (.if_icmp .ne 6, 3) := by decide +kernel
theorem dX2_bendLeft_101 : decode cX2_bendLeft 101 = .ok (.iload 4, 2) := by decide +kernel
theorem dX2_bendLeft_103 : decode cX2_bendLeft 103 = .ok (.ireturn, 1) := by decide +kernel
theorem dX2_bendLeft_104 : decode cX2_bendLeft 104 = .ok (.iinc 2 1, 3) := by decide +kernel
theorem dX2_bendLeft_107 : decode cX2_bendLeft 107 = .ok (.iinc 4 1, 3) := by decide +kernel
theorem dX2_bendLeft_110 : decode cX2_bendLeft 110 = .ok (.goto (-103), 3) := by decide +kernel
theorem dX2_bendLeft_113 : decode cX2_bendLeft 113 = .ok (.bipush (-3), 2) := by decide +kernel
theorem dX2_bendLeft_115 : decode cX2_bendLeft 115 = .ok (.ireturn, 1) := by decide +kernel
theorem dX3_init_0 : decode cX3_init 0 = .ok (.aload_n 0, 1) := by decide +kernel
theorem dX3_init_1 : decode cX3_init 1 = .ok (.invokespecial 3, 3) := by decide +kernel
theorem dX3_init_4 : decode cX3_init 4 = .ok (.aload_n 0, 1) := by decide +kernel
theorem dX3_init_5 : decode cX3_init 5 = .ok (.sipush 241, 3) := by decide +kernel
theorem dX3_init_8 : decode cX3_init 8 = .ok (.anewarray 11, 3) := by decide +kernel
theorem dX3_init_11 : decode cX3_init 11 = .ok (.putfield 13, 3) := by decide +kernel
theorem dX3_init_14 : decode cX3_init 14 = .ok (.aload_n 0, 1) := by decide +kernel
theorem dX3_init_15 : decode cX3_init 15 = .ok (.sipush 241, 3) := by decide +kernel
theorem dX3_init_18 : decode cX3_init 18 = .ok (.newarray .int, 2) := by decide +kernel
theorem dX3_init_20 : decode cX3_init 20 = .ok (.putfield 17, 3) := by decide +kernel
theorem dX3_init_23 : decode cX3_init 23 = .ok (.aload_n 0, 1) := by decide +kernel
theorem dX3_init_24 : decode cX3_init 24 = .ok (.new 11, 3) := by decide +kernel
theorem dX3_init_27 : decode cX3_init 27 = .ok (.dup, 1) := by decide +kernel
theorem dX3_init_28 : decode cX3_init 28 = .ok (.invokespecial 21, 3) := by decide +kernel
theorem dX3_init_31 : decode cX3_init 31 = .ok (.putfield 22, 3) := by decide +kernel
theorem dX3_init_34 : decode cX3_init 34 = .ok (.aload_n 0, 1) := by decide +kernel
theorem dX3_init_35 : decode cX3_init 35 = .ok (.iconst 0, 1) := by decide +kernel
theorem dX3_init_36 : decode cX3_init 36 = .ok (.putfield 26, 3) := by decide +kernel
theorem dX3_init_39 : decode cX3_init 39 = .ok (.iconst 0, 1) := by decide +kernel
theorem dX3_init_40 : decode cX3_init 40 = .ok (.istore_n 1, 1) := by decide +kernel
theorem dX3_init_41 : decode cX3_init 41 = .ok (.iload_n 1, 1) := by decide +kernel
theorem dX3_init_42 : decode cX3_init 42 = .ok (.sipush 241, 3) := by decide +kernel
theorem dX3_init_45 : decode cX3_init 45 = .ok (.if_icmp .ge 22, 3) := by decide +kernel
theorem dX3_init_48 : decode cX3_init 48 = .ok (.aload_n 0, 1) := by decide +kernel
theorem dX3_init_49 : decode cX3_init 49 = .ok (.getfield 13, 3) := by decide +kernel
theorem dX3_init_52 : decode cX3_init 52 = .ok (.iload_n 1, 1) := by decide +kernel
theorem dX3_init_53 : decode cX3_init 53 = .ok (.new 11, 3) := by decide +kernel
theorem dX3_init_56 : decode cX3_init 56 = .ok (.dup, 1) := by decide +kernel
theorem dX3_init_57 : decode cX3_init 57 = .ok (.invokespecial 21, 3) := by decide +kernel
theorem dX3_init_60 : decode cX3_init 60 = .ok (.aastore, 1) := by decide +kernel
theorem dX3_init_61 : decode cX3_init 61 = .ok (.iinc 1 1, 3) := by decide +kernel
theorem dX3_init_64 : decode cX3_init 64 = .ok (.goto (-23), 3) := by decide +kernel
theorem dX3_init_67 : decode cX3_init 67 = .ok (.return_, 1) := by decide +kernel
theorem dX3_gather_0 : decode cX3_gather 0 = .ok (.iconst 0, 1) := by decide +kernel
theorem dX3_gather_1 : decode cX3_gather 1 = .ok (.istore_n 3, 1) := by decide +kernel
theorem dX3_gather_2 : decode cX3_gather 2 = .ok (.iload_n 3, 1) := by decide +kernel
theorem dX3_gather_3 : decode cX3_gather 3 = .ok (.iconst 4, 1) := by decide +kernel
theorem dX3_gather_4 : decode cX3_gather 4 = .ok (.if_icmp .ge 34, 3) := by decide +kernel
theorem dX3_gather_7 : decode cX3_gather 7 = .ok (.aload_n 1, 1) := by decide +kernel
theorem dX3_gather_8 : decode cX3_gather 8 = .ok (.iload_n 3, 1) := by decide +kernel
theorem dX3_gather_9 : decode cX3_gather 9 = .ok (.invokevirtual 30, 3) := by decide +kernel
theorem dX3_gather_12 : decode cX3_gather 12 = .ok (.aload_n 2, 1) := by decide +kernel
theorem dX3_gather_13 : decode cX3_gather 13 = .ok (.getfield 34, 3) := by decide +kernel
theorem dX3_gather_16 : decode cX3_gather 16 = .ok (.i2l, 1) := by decide +kernel
theorem dX3_gather_17 : decode cX3_gather 17 = .ok (.lcmp, 1) := by decide +kernel
theorem dX3_gather_18 : decode cX3_gather 18 = .ok (.ifCond .gt 14, 3) := by decide +kernel
theorem dX3_gather_21 : decode cX3_gather 21 = .ok (.aload_n 2, 1) := by decide +kernel
theorem dX3_gather_22 : decode cX3_gather 22 = .ok (.aload_n 1, 1) := by decide +kernel
theorem dX3_gather_23 : decode cX3_gather 23 = .ok (.iload_n 3, 1) := by decide +kernel
theorem dX3_gather_24 : decode cX3_gather 24 = .ok (.invokevirtual 39, 3) := by decide +kernel
theorem dX3_gather_27 : decode cX3_gather 27 = .ok (.ifCond .ne 5, 3) := by decide +kernel
theorem dX3_gather_30 : decode cX3_gather 30 = .ok (.iconst 0, 1) := by decide +kernel
theorem dX3_gather_31 : decode cX3_gather 31 = .ok (.ireturn, 1) := by decide +kernel
theorem dX3_gather_32 : decode cX3_gather 32 = .ok (.iinc 3 1, 3) := by decide +kernel
theorem dX3_gather_35 : decode cX3_gather 35 = .ok (.goto (-33), 3) := by decide +kernel
theorem dX3_gather_38 : decode cX3_gather 38 = .ok (.aload_n 0, 1) := by decide +kernel
theorem dX3_gather_39 : decode cX3_gather 39 = .ok (.iconst 0, 1) := by decide +kernel
theorem dX3_gather_40 : decode cX3_gather 40 = .ok (.putfield 26, 3) := by decide +kernel
theorem dX3_gather_43 : decode cX3_gather 43 = .ok (.aload_n 1, 1) := by decide +kernel
theorem dX3_gather_44 : decode cX3_gather 44 = .ok (.aload_n 1, 1) := by decide +kernel
theorem dX3_gather_45 : decode cX3_gather 45 = .ok (.invokevirtual 43, 3) := by decide +kernel
theorem dX3_gather_48 : decode cX3_gather 48 = .ok (.invokevirtual 30, 3) := by decide +kernel
theorem dX3_gather_51 : decode cX3_gather 51 = .ok (.aload_n 2, 1) := by decide +kernel
theorem dX3_gather_52 : decode cX3_gather 52 = .ok (.getfield 34, 3) := by decide +kernel
theorem dX3_gather_55 : decode cX3_gather 55 = .ok (.i2l, 1) := by decide +kernel
theorem dX3_gather_56 : decode cX3_gather 56 = .ok (.lcmp, 1) := by decide +kernel
theorem dX3_gather_57 : decode cX3_gather 57 = .ok (.ifCond .gt 11, 3) := by decide +kernel
theorem dX3_gather_60 : decode cX3_gather 60 = .ok (.aload_n 0, 1) := by decide +kernel
theorem dX3_gather_61 : decode cX3_gather 61 = .ok (.aload_n 1, 1) := by decide +kernel
theorem dX3_gather_62 : decode cX3_gather 62 = .ok (.bipush (-3), 2) := by decide +kernel
theorem dX3_gather_64 : decode cX3_gather 64 = .ok (.invokevirtual 47, 3) := by decide +kernel
theorem dX3_gather_67 : decode cX3_gather 67 = .ok (.pop, 1) := by decide +kernel
theorem dX3_gather_68 : decode cX3_gather 68 = .ok (.iconst 0, 1) := by decide +kernel
theorem dX3_gather_69 : decode cX3_gather 69 = .ok (.istore_n 3, 1) := by decide +kernel
theorem dX3_gather_70 : decode cX3_gather 70 = .ok (.iload_n 3, 1) := by decide +kernel
theorem dX3_gather_71 : decode cX3_gather 71 = .ok (.aload_n 0, 1) := by decide +kernel
theorem dX3_gather_72 : decode cX3_gather 72 = .ok (.getfield 26, 3) := by decide +kernel
theorem dX3_gather_75 : decode cX3_gather 75 = .ok (.if_icmp .ge 27, 3) := by decide +kernel
theorem dX3_gather_78 : decode cX3_gather 78 = .ok (.iload_n 3, 1) := by decide +kernel
theorem dX3_gather_79 : decode cX3_gather 79 = .ok (.sipush 241, 3) := by decide +kernel
theorem dX3_gather_82 : decode cX3_gather 82 = .ok (.if_icmp .ge 20, 3) := by decide +kernel
theorem dX3_gather_85 : decode cX3_gather 85 = .ok (.aload_n 0, 1) := by decide +kernel
theorem dX3_gather_86 : decode cX3_gather 86 = .ok (.iload_n 3, 1) := by decide +kernel
theorem dX3_gather_87 : decode cX3_gather 87 = .ok (.aload_n 2, 1) := by decide +kernel
theorem dX3_gather_88 : decode cX3_gather 88 = .ok (.invokevirtual 50, 3) := by decide +kernel
theorem dX3_gather_91 : decode cX3_gather 91 = .ok (.ifCond .ne 5, 3) := by decide +kernel
theorem dX3_gather_94 : decode cX3_gather 94 = .ok (.iconst 0, 1) := by decide +kernel
theorem dX3_gather_95 : decode cX3_gather 95 = .ok (.ireturn, 1) := by decide +kernel
theorem dX3_gather_96 : decode cX3_gather 96 = .ok (.iinc 3 1, 3) := by decide +kernel
theorem dX3_gather_99 : decode cX3_gather 99 = .ok (.goto (-29), 3) := by decide +kernel
theorem dX3_gather_102 : decode cX3_gather 102 = .ok (.iconst 1, 1) := by decide +kernel
theorem dX3_gather_103 : decode cX3_gather 103 = .ok (.ireturn, 1) := by decide +kernel
theorem dX3_swapEachWay_0 : decode cX3_swapEachWay 0 = .ok (.iconst 0, 1) := by decide +kernel
theorem dX3_swapEachWay_1 : decode cX3_swapEachWay 1 = .ok (.istore_n 3, 1) := by decide +kernel
theorem dX3_swapEachWay_2 : decode cX3_swapEachWay 2 = .ok (.iload_n 3, 1) := by decide +kernel
theorem dX3_swapEachWay_3 : decode cX3_swapEachWay 3 = .ok (.iconst 4, 1) := by decide +kernel
theorem dX3_swapEachWay_4 : decode cX3_swapEachWay 4 = .ok (.if_icmp .ge 89, 3) := by decide +kernel
theorem dX3_swapEachWay_7 : decode cX3_swapEachWay 7 = .ok (.iload_n 3, 1) := by decide +kernel
theorem dX3_swapEachWay_8 : decode cX3_swapEachWay 8 = .ok (.aload_n 0, 1) := by decide +kernel
theorem dX3_swapEachWay_9 : decode cX3_swapEachWay 9 = .ok (.getfield 17, 3) := by decide +kernel
theorem dX3_swapEachWay_12 : decode cX3_swapEachWay 12 = .ok (.iload_n 1, 1) := by decide +kernel
theorem dX3_swapEachWay_13 : decode cX3_swapEachWay 13 = .ok (.iaload, 1) := by decide +kernel
theorem dX3_swapEachWay_14 : decode cX3_swapEachWay 14 = .ok (.if_icmp .eq 73, 3) := by decide +kernel
theorem dX3_swapEachWay_17 : decode cX3_swapEachWay 17 = .ok (.aload_n 0, 1) := by decide +kernel
theorem dX3_swapEachWay_18 : decode cX3_swapEachWay 18 = .ok (.getfield 13, 3) := by decide +kernel
theorem dX3_swapEachWay_21 : decode cX3_swapEachWay 21 = .ok (.iload_n 1, 1) := by decide +kernel
theorem dX3_swapEachWay_22 : decode cX3_swapEachWay 22 = .ok (.aaload, 1) := by decide +kernel
theorem dX3_swapEachWay_23 : decode cX3_swapEachWay 23 = .ok (.iload_n 3, 1) := by decide +kernel
theorem dX3_swapEachWay_24 : decode cX3_swapEachWay 24 = .ok (.iconst 0, 1) := by decide +kernel
theorem dX3_swapEachWay_25 : decode cX3_swapEachWay 25 = .ok (.invokevirtual 54, 3) := by decide +kernel
theorem dX3_swapEachWay_28 : decode cX3_swapEachWay 28 = .ok (.aload_n 2, 1) := by decide +kernel
theorem dX3_swapEachWay_29 : decode cX3_swapEachWay 29 = .ok (.getfield 34, 3) := by decide +kernel
theorem dX3_swapEachWay_32 : decode cX3_swapEachWay 32 = .ok (.i2l, 1) := by decide +kernel
theorem dX3_swapEachWay_33 : decode cX3_swapEachWay 33 = .ok (.lcmp, 1) := by decide +kernel
theorem dX3_swapEachWay_34 : decode cX3_swapEachWay 34 = .ok (.ifCond .le 6, 3) := by decide +kernel
theorem dX3_swapEachWay_37 : decode cX3_swapEachWay 37 = .ok (.goto 50, 3) := by decide +kernel
theorem dX3_swapEachWay_40 : decode cX3_swapEachWay 40 = .ok (.aload_n 0, 1) := by decide +kernel
theorem dX3_swapEachWay_41 : decode cX3_swapEachWay 41 = .ok (.getfield 22, 3) := by decide +kernel
theorem dX3_swapEachWay_44 : decode cX3_swapEachWay 44 = .ok (.aload_n 0, 1) := by decide +kernel
theorem dX3_swapEachWay_45 : decode cX3_swapEachWay 45 = .ok (.getfield 13, 3) := by decide +kernel
theorem dX3_swapEachWay_48 : decode cX3_swapEachWay 48 = .ok (.iload_n 1, 1) := by decide +kernel
theorem dX3_swapEachWay_49 : decode cX3_swapEachWay 49 = .ok (.aaload, 1) := by decide +kernel
theorem dX3_swapEachWay_50 : decode cX3_swapEachWay 50 = .ok (.invokevirtual 58, 3) := by decide +kernel
theorem dX3_swapEachWay_53 : decode cX3_swapEachWay 53 = .ok (.aload_n 0, 1) := by decide +kernel
theorem dX3_swapEachWay_54 : decode cX3_swapEachWay 54 = .ok (.getfield 22, 3) := by decide +kernel
theorem dX3_swapEachWay_57 : decode cX3_swapEachWay 57 = .ok (.iload_n 3, 1) := by decide +kernel
theorem dX3_swapEachWay_58 : decode cX3_swapEachWay 58 = .ok (.invokevirtual 62, 3) := by decide +kernel
theorem dX3_swapEachWay_61 : decode cX3_swapEachWay 61 = .ok (.aload_n 2, 1) := by decide +kernel
theorem dX3_swapEachWay_62 : decode cX3_swapEachWay 62 = .ok (.aload_n 0, 1) := by decide +kernel
theorem dX3_swapEachWay_63 : decode cX3_swapEachWay 63 = .ok (.getfield 22, 3) := by decide +kernel
theorem dX3_swapEachWay_66 : decode cX3_swapEachWay 66 = .ok (.iload_n 3, 1) := by decide +kernel
theorem dX3_swapEachWay_67 : decode cX3_swapEachWay 67 = .ok (.invokevirtual 39, 3) := by decide +kernel
theorem dX3_swapEachWay_70 : decode cX3_swapEachWay 70 = .ok (.ifCond .eq 15, 3) := by decide +kernel
theorem dX3_swapEachWay_73 : decode cX3_swapEachWay 73 = .ok (.aload_n 0, 1) := by decide +kernel
theorem dX3_swapEachWay_74 : decode cX3_swapEachWay 74 = .ok (.aload_n 0, 1) := by decide +kernel
theorem dX3_swapEachWay_75 : decode cX3_swapEachWay 75 = .ok (.getfield 22, 3) := by decide +kernel
theorem dX3_swapEachWay_78 : decode cX3_swapEachWay 78 = .ok (.iload_n 3, 1) := by decide +kernel
theorem dX3_swapEachWay_79 : decode cX3_swapEachWay 79 = .ok (.invokevirtual 47, 3) := by decide +kernel
theorem dX3_swapEachWay_82 : decode cX3_swapEachWay 82 = .ok (.ifCond .ne 5, 3) := by decide +kernel
theorem dX3_swapEachWay_85 : decode cX3_swapEachWay 85 = .ok (.iconst 0, 1) := by decide +kernel
theorem dX3_swapEachWay_86 : decode cX3_swapEachWay 86 = .ok (.ireturn, 1) := by decide +kernel
theorem dX3_swapEachWay_87 : decode cX3_swapEachWay 87 = .ok (.iinc 3 1, 3) := by decide +kernel
theorem dX3_swapEachWay_90 : decode cX3_swapEachWay 90 = .ok (.goto (-88), 3) := by decide +kernel
theorem dX3_swapEachWay_93 : decode cX3_swapEachWay 93 = .ok (.iconst 1, 1) := by decide +kernel
theorem dX3_swapEachWay_94 : decode cX3_swapEachWay 94 = .ok (.ireturn, 1) := by decide +kernel
theorem dX3_addWaiting_0 : decode cX3_addWaiting 0 = .ok (.aload_n 0, 1) := by decide +kernel
theorem dX3_addWaiting_1 : decode cX3_addWaiting 1 = .ok (.getfield 26, 3) := by decide +kernel
theorem dX3_addWaiting_4 : decode cX3_addWaiting 4 = .ok (.sipush 241, 3) := by decide +kernel
theorem dX3_addWaiting_7 : decode cX3_addWaiting 7 = .ok (.if_icmp .lt 5, 3) := by decide +kernel
theorem dX3_addWaiting_10 : decode cX3_addWaiting 10 = .ok (.iconst 0, 1) := by decide +kernel
theorem dX3_addWaiting_11 : decode cX3_addWaiting 11 = .ok (.ireturn, 1) := by decide +kernel
theorem dX3_addWaiting_12 : decode cX3_addWaiting 12 = .ok (.aload_n 0, 1) := by decide +kernel
theorem dX3_addWaiting_13 : decode cX3_addWaiting 13 = .ok (.getfield 13, 3) := by decide +kernel
theorem dX3_addWaiting_16 : decode cX3_addWaiting 16 = .ok (.aload_n 0, 1) := by decide +kernel
theorem dX3_addWaiting_17 : decode cX3_addWaiting 17 = .ok (.getfield 26, 3) := by decide +kernel
theorem dX3_addWaiting_20 : decode cX3_addWaiting 20 = .ok (.aaload, 1) := by decide +kernel
theorem dX3_addWaiting_21 : decode cX3_addWaiting 21 = .ok (.aload_n 1, 1) := by decide +kernel
theorem dX3_addWaiting_22 : decode cX3_addWaiting 22 = .ok (.invokevirtual 58, 3) := by decide +kernel
theorem dX3_addWaiting_25 : decode cX3_addWaiting 25 = .ok (.aload_n 0, 1) := by decide +kernel
theorem dX3_addWaiting_26 : decode cX3_addWaiting 26 = .ok (.getfield 17, 3) := by decide +kernel
theorem dX3_addWaiting_29 : decode cX3_addWaiting 29 = .ok (.aload_n 0, 1) := by decide +kernel
theorem dX3_addWaiting_30 : decode cX3_addWaiting 30 = .ok (.getfield 26, 3) := by decide +kernel
theorem dX3_addWaiting_33 : decode cX3_addWaiting 33 = .ok (.iload_n 2, 1) := by decide +kernel
theorem dX3_addWaiting_34 : decode cX3_addWaiting 34 = .ok (.iastore, 1) := by decide +kernel
theorem dX3_addWaiting_35 : decode cX3_addWaiting 35 = .ok (.aload_n 0, 1) := by decide +kernel
theorem dX3_addWaiting_36 : decode cX3_addWaiting 36 = .ok (.dup, 1) := by decide +kernel
theorem dX3_addWaiting_37 : decode cX3_addWaiting 37 = .ok (.getfield 26, 3) := by decide +kernel
theorem dX3_addWaiting_40 : decode cX3_addWaiting 40 = .ok (.iconst 1, 1) := by decide +kernel
theorem dX3_addWaiting_41 : decode cX3_addWaiting 41 = .ok (.iadd, 1) := by decide +kernel
theorem dX3_addWaiting_42 : decode cX3_addWaiting 42 = .ok (.putfield 26, 3) := by decide +kernel
theorem dX3_addWaiting_45 : decode cX3_addWaiting 45 = .ok (.iconst 1, 1) := by decide +kernel
theorem dX3_addWaiting_46 : decode cX3_addWaiting 46 = .ok (.ireturn, 1) := by decide +kernel
theorem dX4_init_0 : decode cX4_init 0 = .ok (.aload_n 0, 1) := by decide +kernel
theorem dX4_init_1 : decode cX4_init 1 = .ok (.invokespecial 3, 3) := by decide +kernel
theorem dX4_init_4 : decode cX4_init 4 = .ok (.aload_n 0, 1) := by decide +kernel
theorem dX4_init_5 : decode cX4_init 5 = .ok (.new 9, 3) := by decide +kernel
theorem dX4_init_8 : decode cX4_init 8 = .ok (.dup, 1) := by decide +kernel
theorem dX4_init_9 : decode cX4_init 9 = .ok (.invokespecial 11, 3) := by decide +kernel
theorem dX4_init_12 : decode cX4_init 12 = .ok (.putfield 12, 3) := by decide +kernel
theorem dX4_init_15 : decode cX4_init 15 = .ok (.aload_n 0, 1) := by decide +kernel
theorem dX4_init_16 : decode cX4_init 16 = .ok (.new 9, 3) := by decide +kernel
theorem dX4_init_19 : decode cX4_init 19 = .ok (.dup, 1) := by decide +kernel
theorem dX4_init_20 : decode cX4_init 20 = .ok (.invokespecial 11, 3) := by decide +kernel
theorem dX4_init_23 : decode cX4_init 23 = .ok (.putfield 18, 3) := by decide +kernel
theorem dX4_init_26 : decode cX4_init 26 = .ok (.aload_n 0, 1) := by decide +kernel
theorem dX4_init_27 : decode cX4_init 27 = .ok (.bipush (-3), 2) := by decide +kernel
theorem dX4_init_29 : decode cX4_init 29 = .ok (.putfield 21, 3) := by decide +kernel
theorem dX4_init_32 : decode cX4_init 32 = .ok (.aload_n 0, 1) := by decide +kernel
theorem dX4_init_33 : decode cX4_init 33 = .ok (.iconst 0, 1) := by decide +kernel
theorem dX4_init_34 : decode cX4_init 34 = .ok (.putfield 25, 3) := by decide +kernel
theorem dX4_init_37 : decode cX4_init 37 = .ok (.aload_n 0, 1) := by decide +kernel
theorem dX4_init_38 : decode cX4_init 38 = .ok (.iconst 0, 1) := by decide +kernel
theorem dX4_init_39 : decode cX4_init 39 = .ok (.putfield 28, 3) := by decide +kernel
theorem dX4_init_42 : decode cX4_init 42 = .ok (.return_, 1) := by decide +kernel
theorem dX4_become_0 : decode cX4_become 0 = .ok (.aload_n 0, 1) := by decide +kernel
theorem dX4_become_1 : decode cX4_become 1 = .ok (.getfield 12, 3) := by decide +kernel
theorem dX4_become_4 : decode cX4_become 4 = .ok (.aload_n 1, 1) := by decide +kernel
theorem dX4_become_5 : decode cX4_become 5 = .ok (.invokevirtual 31, 3) := by decide +kernel
theorem dX4_become_8 : decode cX4_become 8 = .ok (.aload_n 0, 1) := by decide +kernel
theorem dX4_become_9 : decode cX4_become 9 = .ok (.getfield 18, 3) := by decide +kernel
theorem dX4_become_12 : decode cX4_become 12 = .ok (.aload_n 1, 1) := by decide +kernel
theorem dX4_become_13 : decode cX4_become 13 = .ok (.invokevirtual 31, 3) := by decide +kernel
theorem dX4_become_16 : decode cX4_become 16 = .ok (.aload_n 0, 1) := by decide +kernel
theorem dX4_become_17 : decode cX4_become 17 = .ok (.aload_n 0, 1) := by decide +kernel
theorem dX4_become_18 : decode cX4_become 18 = .ok (.getfield 18, 3) := by decide +kernel
theorem dX4_become_21 : decode cX4_become 21 = .ok (.ldc 35, 2) := by decide +kernel
theorem dX4_become_23 : decode cX4_become 23 = .ok (.invokevirtual 36, 3) := by decide +kernel
theorem dX4_become_26 : decode cX4_become 26 = .ok (.putfield 25, 3) := by decide +kernel
theorem dX4_become_29 : decode cX4_become 29 = .ok (.aload_n 0, 1) := by decide +kernel
theorem dX4_become_30 : decode cX4_become 30 = .ok (.iload_n 2, 1) := by decide +kernel
theorem dX4_become_31 : decode cX4_become 31 = .ok (.putfield 21, 3) := by decide +kernel
theorem dX4_become_34 : decode cX4_become 34 = .ok (.aload_n 0, 1) := by decide +kernel
theorem dX4_become_35 : decode cX4_become 35 = .ok (.iload_n 3, 1) := by decide +kernel
theorem dX4_become_36 : decode cX4_become 36 = .ok (.putfield 28, 3) := by decide +kernel
theorem dX4_become_39 : decode cX4_become 39 = .ok (.return_, 1) := by decide +kernel
theorem dX5_init_0 : decode cX5_init 0 = .ok (.aload_n 0, 1) := by decide +kernel
theorem dX5_init_1 : decode cX5_init 1 = .ok (.invokespecial 3, 3) := by decide +kernel
theorem dX5_init_4 : decode cX5_init 4 = .ok (.aload_n 0, 1) := by decide +kernel
theorem dX5_init_5 : decode cX5_init 5 = .ok (.sipush 3840, 3) := by decide +kernel
theorem dX5_init_8 : decode cX5_init 8 = .ok (.newarray .int, 2) := by decide +kernel
theorem dX5_init_10 : decode cX5_init 10 = .ok (.putfield 9, 3) := by decide +kernel
theorem dX5_init_13 : decode cX5_init 13 = .ok (.aload_n 0, 1) := by decide +kernel
theorem dX5_init_14 : decode cX5_init 14 = .ok (.iconst 0, 1) := by decide +kernel
theorem dX5_init_15 : decode cX5_init 15 = .ok (.putfield 15, 3) := by decide +kernel
theorem dX5_init_18 : decode cX5_init 18 = .ok (.return_, 1) := by decide +kernel
theorem dX5_gather_0 : decode cX5_gather 0 = .ok (.iconst 0, 1) := by decide +kernel
theorem dX5_gather_1 : decode cX5_gather 1 = .ok (.istore_n 2, 1) := by decide +kernel
theorem dX5_gather_2 : decode cX5_gather 2 = .ok (.iconst 0, 1) := by decide +kernel
theorem dX5_gather_3 : decode cX5_gather 3 = .ok (.istore_n 3, 1) := by decide +kernel
theorem dX5_gather_4 : decode cX5_gather 4 = .ok (.iload_n 3, 1) := by decide +kernel
theorem dX5_gather_5 : decode cX5_gather 5 = .ok (.iconst 4, 1) := by decide +kernel
theorem dX5_gather_6 : decode cX5_gather 6 = .ok (.if_icmp .ge 30, 3) := by decide +kernel
theorem dX5_gather_9 : decode cX5_gather 9 = .ok (.iload_n 2, 1) := by decide +kernel
theorem dX5_gather_10 : decode cX5_gather 10 = .ok (.getstatic 21, 3) := by decide +kernel
theorem dX5_gather_13 : decode cX5_gather 13 = .ok (.iload_n 3, 1) := by decide +kernel
theorem dX5_gather_14 : decode cX5_gather 14 = .ok (.iaload, 1) := by decide +kernel
theorem dX5_gather_15 : decode cX5_gather 15 = .ok (.aload_n 1, 1) := by decide +kernel
theorem dX5_gather_16 : decode cX5_gather 16 = .ok (.iload_n 3, 1) := by decide +kernel
theorem dX5_gather_17 : decode cX5_gather 17 = .ok (.invokevirtual 24, 3) := by decide +kernel
theorem dX5_gather_20 : decode cX5_gather 20 = .ok (.ldc2_w 28, 3) := by decide +kernel
theorem dX5_gather_23 : decode cX5_gather 23 = .ok (.invokestatic 30, 3) := by decide +kernel
theorem dX5_gather_26 : decode cX5_gather 26 = .ok (.l2i, 1) := by decide +kernel
theorem dX5_gather_27 : decode cX5_gather 27 = .ok (.imul, 1) := by decide +kernel
theorem dX5_gather_28 : decode cX5_gather 28 = .ok (.iadd, 1) := by decide +kernel
theorem dX5_gather_29 : decode cX5_gather 29 = .ok (.istore_n 2, 1) := by decide +kernel
theorem dX5_gather_30 : decode cX5_gather 30 = .ok (.iinc 3 1, 3) := by decide +kernel
theorem dX5_gather_33 : decode cX5_gather 33 = .ok (.goto (-29), 3) := by decide +kernel
theorem dX5_gather_36 : decode cX5_gather 36 = .ok (.aload_n 0, 1) := by decide +kernel
theorem dX5_gather_37 : decode cX5_gather 37 = .ok (.iconst 0, 1) := by decide +kernel
theorem dX5_gather_38 : decode cX5_gather 38 = .ok (.putfield 15, 3) := by decide +kernel
theorem dX5_gather_41 : decode cX5_gather 41 = .ok (.aload_n 0, 1) := by decide +kernel
theorem dX5_gather_42 : decode cX5_gather 42 = .ok (.iload_n 2, 1) := by decide +kernel
theorem dX5_gather_43 : decode cX5_gather 43 = .ok (.invokevirtual 36, 3) := by decide +kernel
theorem dX5_gather_46 : decode cX5_gather 46 = .ok (.iconst 0, 1) := by decide +kernel
theorem dX5_gather_47 : decode cX5_gather 47 = .ok (.istore_n 3, 1) := by decide +kernel
theorem dX5_gather_48 : decode cX5_gather 48 = .ok (.iconst 0, 1) := by decide +kernel
theorem dX5_gather_49 : decode cX5_gather 49 = .ok (.istore 4, 2) := by decide +kernel
theorem dX5_gather_51 : decode cX5_gather 51 = .ok (.iload 4, 2) := by decide +kernel
theorem dX5_gather_53 : decode cX5_gather 53 = .ok (.aload_n 0, 1) := by decide +kernel
theorem dX5_gather_54 : decode cX5_gather 54 = .ok (.getfield 15, 3) := by decide +kernel
theorem dX5_gather_57 : decode cX5_gather 57 = .ok (.if_icmp .ge 65, 3) := by decide +kernel
theorem dX5_gather_60 : decode cX5_gather 60 = .ok (.iload 4, 2) := by decide +kernel
theorem dX5_gather_62 : decode cX5_gather 62 = .ok (.sipush 3840, 3) := by decide +kernel
theorem dX5_gather_65 : decode cX5_gather 65 = .ok (.if_icmp .ge 57, 3) := by decide +kernel
theorem dX5_gather_68 : decode cX5_gather 68 = .ok (.iconst 0, 1) := by decide +kernel
theorem dX5_gather_69 : decode cX5_gather 69 = .ok (.istore 5, 2) := by decide +kernel
theorem dX5_gather_71 : decode cX5_gather 71 = .ok (.iload 5, 2) := by decide +kernel
theorem dX5_gather_73 : decode cX5_gather 73 = .ok (.iconst 4, 1) := by decide +kernel
theorem dX5_gather_74 : decode cX5_gather 74 = .ok (.if_icmp .ge 42, 3) := by decide +kernel
theorem dX5_gather_77 : decode cX5_gather 77 = .ok (.iload_n 3, 1) := by decide +kernel
theorem dX5_gather_78 : decode cX5_gather 78 = .ok (.iconst 1, 1) := by decide +kernel
theorem dX5_gather_79 : decode cX5_gather 79 = .ok (.aload_n 0, 1) := by decide +kernel
theorem dX5_gather_80 : decode cX5_gather 80 = .ok (.getfield 9, 3) := by decide +kernel
theorem dX5_gather_83 : decode cX5_gather 83 = .ok (.iload 4, 2) := by decide +kernel
theorem dX5_gather_85 : decode cX5_gather 85 = .ok (.iaload, 1) := by decide +kernel
theorem dX5_gather_86 : decode cX5_gather 86 = .ok (.iload 5, 2) := by decide +kernel
theorem dX5_gather_88 : decode cX5_gather 88 = .ok (.invokestatic 40, 3) := by decide +kernel
theorem dX5_gather_91 : decode cX5_gather 91 = .ok (.ishl, 1) := by decide +kernel
theorem dX5_gather_92 : decode cX5_gather 92 = .ok (.ior, 1) := by decide +kernel
theorem dX5_gather_93 : decode cX5_gather 93 = .ok (.istore_n 3, 1) := by decide +kernel
theorem dX5_gather_94 : decode cX5_gather 94 = .ok (.aload_n 0, 1) := by decide +kernel
theorem dX5_gather_95 : decode cX5_gather 95 = .ok (.aload_n 0, 1) := by decide +kernel
theorem dX5_gather_96 : decode cX5_gather 96 = .ok (.getfield 9, 3) := by decide +kernel
theorem dX5_gather_99 : decode cX5_gather 99 = .ok (.iload 4, 2) := by decide +kernel
theorem dX5_gather_101 : decode cX5_gather 101 = .ok (.iaload, 1) := by decide +kernel
theorem dX5_gather_102 : decode cX5_gather 102 = .ok (.iload 5, 2) := by decide +kernel
theorem dX5_gather_104 : decode cX5_gather 104 = .ok (.invokestatic 44, 3) := by decide +kernel
theorem dX5_gather_107 : decode cX5_gather 107 = .ok (.invokevirtual 36, 3) := by decide +kernel
theorem dX5_gather_110 : decode cX5_gather 110 = .ok (.iinc 5 1, 3) := by decide +kernel
theorem dX5_gather_113 : decode cX5_gather 113 = .ok (.goto (-42), 3) := by decide +kernel
theorem dX5_gather_116 : decode cX5_gather 116 = .ok (.iinc 4 1, 3) := by decide +kernel
theorem dX5_gather_119 : decode cX5_gather 119 = .ok (.goto (-68), 3) := by decide +kernel
theorem dX5_gather_122 : decode cX5_gather 122 = .ok (.iload_n 3, 1) := by decide +kernel
theorem dX5_gather_123 : decode cX5_gather 123 = .ok (.ireturn, 1) := by decide +kernel
theorem dX5_digit_0 : decode cX5_digit 0 = .ok (.iload_n 0, 1) := by decide +kernel
theorem dX5_digit_1 : decode cX5_digit 1 = .ok (.getstatic 21, 3) := by decide +kernel
theorem dX5_digit_4 : decode cX5_digit 4 = .ok (.iload_n 1, 1) := by decide +kernel
theorem dX5_digit_5 : decode cX5_digit 5 = .ok (.iaload, 1) := by decide +kernel
theorem dX5_digit_6 : decode cX5_digit 6 = .ok (.idiv, 1) := by decide +kernel
theorem dX5_digit_7 : decode cX5_digit 7 = .ok (.bipush 24, 2) := by decide +kernel
theorem dX5_digit_9 : decode cX5_digit 9 = .ok (.irem, 1) := by decide +kernel
theorem dX5_digit_10 : decode cX5_digit 10 = .ok (.ireturn, 1) := by decide +kernel
theorem dX5_swapped_0 : decode cX5_swapped 0 = .ok (.iload_n 0, 1) := by decide +kernel
theorem dX5_swapped_1 : decode cX5_swapped 1 = .ok (.iconst 0, 1) := by decide +kernel
theorem dX5_swapped_2 : decode cX5_swapped 2 = .ok (.invokestatic 40, 3) := by decide +kernel
theorem dX5_swapped_5 : decode cX5_swapped 5 = .ok (.iload_n 0, 1) := by decide +kernel
theorem dX5_swapped_6 : decode cX5_swapped 6 = .ok (.iconst 1, 1) := by decide +kernel
theorem dX5_swapped_7 : decode cX5_swapped 7 = .ok (.invokestatic 40, 3) := by decide +kernel
theorem dX5_swapped_10 : decode cX5_swapped 10 = .ok (.iadd, 1) := by decide +kernel
theorem dX5_swapped_11 : decode cX5_swapped 11 = .ok (.iload_n 0, 1) := by decide +kernel
theorem dX5_swapped_12 : decode cX5_swapped 12 = .ok (.iconst 2, 1) := by decide +kernel
theorem dX5_swapped_13 : decode cX5_swapped 13 = .ok (.invokestatic 40, 3) := by decide +kernel
theorem dX5_swapped_16 : decode cX5_swapped 16 = .ok (.iadd, 1) := by decide +kernel
theorem dX5_swapped_17 : decode cX5_swapped 17 = .ok (.iload_n 0, 1) := by decide +kernel
theorem dX5_swapped_18 : decode cX5_swapped 18 = .ok (.iconst 3, 1) := by decide +kernel
theorem dX5_swapped_19 : decode cX5_swapped 19 = .ok (.invokestatic 40, 3) := by decide +kernel
theorem dX5_swapped_22 : decode cX5_swapped 22 = .ok (.iadd, 1) := by decide +kernel
theorem dX5_swapped_23 : decode cX5_swapped 23 = .ok (.istore_n 2, 1) := by decide +kernel
theorem dX5_swapped_24 : decode cX5_swapped 24 = .ok (.iload_n 0, 1) := by decide +kernel
theorem dX5_swapped_25 : decode cX5_swapped 25 = .ok (.iload_n 1, 1) := by decide +kernel
theorem dX5_swapped_26 : decode cX5_swapped 26 = .ok (.invokestatic 40, 3) := by decide +kernel
theorem dX5_swapped_29 : decode cX5_swapped 29 = .ok (.istore_n 3, 1) := by decide +kernel
theorem dX5_swapped_30 : decode cX5_swapped 30 = .ok (.iload_n 0, 1) := by decide +kernel
theorem dX5_swapped_31 : decode cX5_swapped 31 = .ok (.getstatic 21, 3) := by decide +kernel
theorem dX5_swapped_34 : decode cX5_swapped 34 = .ok (.iload_n 1, 1) := by decide +kernel
theorem dX5_swapped_35 : decode cX5_swapped 35 = .ok (.iaload, 1) := by decide +kernel
theorem dX5_swapped_36 : decode cX5_swapped 36 = .ok (.iconst 2, 1) := by decide +kernel
theorem dX5_swapped_37 : decode cX5_swapped 37 = .ok (.iload_n 2, 1) := by decide +kernel
theorem dX5_swapped_38 : decode cX5_swapped 38 = .ok (.imul, 1) := by decide +kernel
theorem dX5_swapped_39 : decode cX5_swapped 39 = .ok (.iconst 3, 1) := by decide +kernel
theorem dX5_swapped_40 : decode cX5_swapped 40 = .ok (.iload_n 3, 1) := by decide +kernel
theorem dX5_swapped_41 : decode cX5_swapped 41 = .ok (.imul, 1) := by decide +kernel
theorem dX5_swapped_42 : decode cX5_swapped 42 = .ok (.isub, 1) := by decide +kernel
theorem dX5_swapped_43 : decode cX5_swapped 43 = .ok (.bipush 24, 2) := by decide +kernel
theorem dX5_swapped_45 : decode cX5_swapped 45 = .ok (.invokestatic 47, 3) := by decide +kernel
theorem dX5_swapped_48 : decode cX5_swapped 48 = .ok (.iload_n 3, 1) := by decide +kernel
theorem dX5_swapped_49 : decode cX5_swapped 49 = .ok (.isub, 1) := by decide +kernel
theorem dX5_swapped_50 : decode cX5_swapped 50 = .ok (.imul, 1) := by decide +kernel
theorem dX5_swapped_51 : decode cX5_swapped 51 = .ok (.iadd, 1) := by decide +kernel
theorem dX5_swapped_52 : decode cX5_swapped 52 = .ok (.ireturn, 1) := by decide +kernel
theorem dX5_enter_0 : decode cX5_enter 0 = .ok (.iconst 0, 1) := by decide +kernel
theorem dX5_enter_1 : decode cX5_enter 1 = .ok (.istore_n 2, 1) := by decide +kernel
theorem dX5_enter_2 : decode cX5_enter 2 = .ok (.iload_n 2, 1) := by decide +kernel
theorem dX5_enter_3 : decode cX5_enter 3 = .ok (.aload_n 0, 1) := by decide +kernel
theorem dX5_enter_4 : decode cX5_enter 4 = .ok (.getfield 15, 3) := by decide +kernel
theorem dX5_enter_7 : decode cX5_enter 7 = .ok (.if_icmp .ge 20, 3) := by decide +kernel
theorem dX5_enter_10 : decode cX5_enter 10 = .ok (.aload_n 0, 1) := by decide +kernel
theorem dX5_enter_11 : decode cX5_enter 11 = .ok (.getfield 9, 3) := by decide +kernel
theorem dX5_enter_14 : decode cX5_enter 14 = .ok (.iload_n 2, 1) := by decide +kernel
theorem dX5_enter_15 : decode cX5_enter 15 = .ok (.iaload, 1) := by decide +kernel
theorem dX5_enter_16 : decode cX5_enter 16 = .ok (.iload_n 1, 1) := by decide +kernel
theorem dX5_enter_17 : decode cX5_enter 17 = .ok (.if_icmp .ne 4, 3) := by decide +kernel
theorem dX5_enter_20 : decode cX5_enter 20 = .ok (.return_, 1) := by decide +kernel
theorem dX5_enter_21 : decode cX5_enter 21 = .ok (.iinc 2 1, 3) := by decide +kernel
theorem dX5_enter_24 : decode cX5_enter 24 = .ok (.goto (-22), 3) := by decide +kernel
theorem dX5_enter_27 : decode cX5_enter 27 = .ok (.aload_n 0, 1) := by decide +kernel
theorem dX5_enter_28 : decode cX5_enter 28 = .ok (.getfield 15, 3) := by decide +kernel
theorem dX5_enter_31 : decode cX5_enter 31 = .ok (.sipush 3840, 3) := by decide +kernel
theorem dX5_enter_34 : decode cX5_enter 34 = .ok (.if_icmp .ge 23, 3) := by decide +kernel
theorem dX5_enter_37 : decode cX5_enter 37 = .ok (.aload_n 0, 1) := by decide +kernel
theorem dX5_enter_38 : decode cX5_enter 38 = .ok (.getfield 9, 3) := by decide +kernel
theorem dX5_enter_41 : decode cX5_enter 41 = .ok (.aload_n 0, 1) := by decide +kernel
theorem dX5_enter_42 : decode cX5_enter 42 = .ok (.getfield 15, 3) := by decide +kernel
theorem dX5_enter_45 : decode cX5_enter 45 = .ok (.iload_n 1, 1) := by decide +kernel
theorem dX5_enter_46 : decode cX5_enter 46 = .ok (.iastore, 1) := by decide +kernel
theorem dX5_enter_47 : decode cX5_enter 47 = .ok (.aload_n 0, 1) := by decide +kernel
theorem dX5_enter_48 : decode cX5_enter 48 = .ok (.dup, 1) := by decide +kernel
theorem dX5_enter_49 : decode cX5_enter 49 = .ok (.getfield 15, 3) := by decide +kernel
theorem dX5_enter_52 : decode cX5_enter 52 = .ok (.iconst 1, 1) := by decide +kernel
theorem dX5_enter_53 : decode cX5_enter 53 = .ok (.iadd, 1) := by decide +kernel
theorem dX5_enter_54 : decode cX5_enter 54 = .ok (.putfield 15, 3) := by decide +kernel
theorem dX5_enter_57 : decode cX5_enter 57 = .ok (.return_, 1) := by decide +kernel
theorem dJ7_fill_d0a16_0 : decode cJ7_fill_d0a16 0 = .ok (.iconst 0, 1) := by decide +kernel
theorem dJ7_fill_d0a16_1 : decode cJ7_fill_d0a16 1 = .ok (.istore_n 3, 1) := by decide +kernel
theorem dJ7_fill_d0a16_2 : decode cJ7_fill_d0a16 2 = .ok (.aload_n 0, 1) := by decide +kernel
theorem dJ7_fill_d0a16_3 : decode cJ7_fill_d0a16 3 = .ok (.arraylength, 1) := by decide +kernel
theorem dJ7_fill_d0a16_4 : decode cJ7_fill_d0a16 4 = .ok (.istore 4, 2) := by decide +kernel
theorem dJ7_fill_d0a16_6 : decode cJ7_fill_d0a16 6 = .ok (.iload_n 3, 1) := by decide +kernel
theorem dJ7_fill_d0a16_7 : decode cJ7_fill_d0a16 7 = .ok (.iload 4, 2) := by decide +kernel
theorem dJ7_fill_d0a16_9 : decode cJ7_fill_d0a16 9 = .ok (.if_icmp .ge 13, 3) := by decide +kernel
theorem dJ7_fill_d0a16_12 : decode cJ7_fill_d0a16 12 = .ok (.aload_n 0, 1) := by decide +kernel
theorem dJ7_fill_d0a16_13 : decode cJ7_fill_d0a16 13 = .ok (.iload_n 3, 1) := by decide +kernel
theorem dJ7_fill_d0a16_14 : decode cJ7_fill_d0a16 14 = .ok (.lload_n 1, 1) := by decide +kernel
theorem dJ7_fill_d0a16_15 : decode cJ7_fill_d0a16 15 = .ok (.lastore, 1) := by decide +kernel
theorem dJ7_fill_d0a16_16 : decode cJ7_fill_d0a16 16 = .ok (.iinc 3 1, 3) := by decide +kernel
theorem dJ7_fill_d0a16_19 : decode cJ7_fill_d0a16 19 = .ok (.goto (-13), 3) := by decide +kernel
theorem dJ7_fill_d0a16_22 : decode cJ7_fill_d0a16 22 = .ok (.return_, 1) := by decide +kernel
theorem dJ9_floorMod_7cf53_0 : decode cJ9_floorMod_7cf53 0 = .ok (.iload_n 0, 1) := by decide +kernel
theorem dJ9_floorMod_7cf53_1 : decode cJ9_floorMod_7cf53 1 = .ok (.iload_n 1, 1) := by decide +kernel
theorem dJ9_floorMod_7cf53_2 : decode cJ9_floorMod_7cf53 2 = .ok (.irem, 1) := by decide +kernel
theorem dJ9_floorMod_7cf53_3 : decode cJ9_floorMod_7cf53 3 = .ok (.istore_n 2, 1) := by decide +kernel
theorem dJ9_floorMod_7cf53_4 : decode cJ9_floorMod_7cf53 4 = .ok (.iload_n 0, 1) := by decide +kernel
theorem dJ9_floorMod_7cf53_5 : decode cJ9_floorMod_7cf53 5 = .ok (.iload_n 1, 1) := by decide +kernel
theorem dJ9_floorMod_7cf53_6 : decode cJ9_floorMod_7cf53 6 = .ok (.ixor, 1) := by decide +kernel
theorem dJ9_floorMod_7cf53_7 : decode cJ9_floorMod_7cf53 7 = .ok (.ifCond .ge 11, 3) := by decide +kernel
theorem dJ9_floorMod_7cf53_10 : decode cJ9_floorMod_7cf53 10 = .ok (.iload_n 2, 1) := by decide +kernel
theorem dJ9_floorMod_7cf53_11 : decode cJ9_floorMod_7cf53 11 = .ok (.ifCond .eq 7, 3) := by decide +kernel
theorem dJ9_floorMod_7cf53_14 : decode cJ9_floorMod_7cf53 14 = .ok (.iload_n 2, 1) := by decide +kernel
theorem dJ9_floorMod_7cf53_15 : decode cJ9_floorMod_7cf53 15 = .ok (.iload_n 1, 1) := by decide +kernel
theorem dJ9_floorMod_7cf53_16 : decode cJ9_floorMod_7cf53 16 = .ok (.iadd, 1) := by decide +kernel
theorem dJ9_floorMod_7cf53_17 : decode cJ9_floorMod_7cf53 17 = .ok (.ireturn, 1) := by decide +kernel
theorem dJ9_floorMod_7cf53_18 : decode cJ9_floorMod_7cf53 18 = .ok (.iload_n 2, 1) := by decide +kernel
theorem dJ9_floorMod_7cf53_19 : decode cJ9_floorMod_7cf53 19 = .ok (.ireturn, 1) := by decide +kernel
theorem dJ9_floorMod_f86c9_0 : decode cJ9_floorMod_f86c9 0 = .ok (.lload_n 0, 1) := by decide +kernel
theorem dJ9_floorMod_f86c9_1 : decode cJ9_floorMod_f86c9 1 = .ok (.lload_n 2, 1) := by decide +kernel
theorem dJ9_floorMod_f86c9_2 : decode cJ9_floorMod_f86c9 2 = .ok (.lrem, 1) := by decide +kernel
theorem dJ9_floorMod_f86c9_3 : decode cJ9_floorMod_f86c9 3 = .ok (.lstore 4, 2) := by decide +kernel
theorem dJ9_floorMod_f86c9_5 : decode cJ9_floorMod_f86c9 5 = .ok (.lload_n 0, 1) := by decide +kernel
theorem dJ9_floorMod_f86c9_6 : decode cJ9_floorMod_f86c9 6 = .ok (.lload_n 2, 1) := by decide +kernel
theorem dJ9_floorMod_f86c9_7 : decode cJ9_floorMod_f86c9 7 = .ok (.lxor, 1) := by decide +kernel
theorem dJ9_floorMod_f86c9_8 : decode cJ9_floorMod_f86c9 8 = .ok (.lconst 0, 1) := by decide +kernel
theorem dJ9_floorMod_f86c9_9 : decode cJ9_floorMod_f86c9 9 = .ok (.lcmp, 1) := by decide +kernel
theorem dJ9_floorMod_f86c9_10 : decode cJ9_floorMod_f86c9 10 = .ok (.ifCond .ge 15, 3) := by decide +kernel
theorem dJ9_floorMod_f86c9_13 : decode cJ9_floorMod_f86c9 13 = .ok (.lload 4, 2) := by decide +kernel
theorem dJ9_floorMod_f86c9_15 : decode cJ9_floorMod_f86c9 15 = .ok (.lconst 0, 1) := by decide +kernel
theorem dJ9_floorMod_f86c9_16 : decode cJ9_floorMod_f86c9 16 = .ok (.lcmp, 1) := by decide +kernel
theorem dJ9_floorMod_f86c9_17 : decode cJ9_floorMod_f86c9 17 = .ok (.ifCond .eq 8, 3) := by decide +kernel
theorem dJ9_floorMod_f86c9_20 : decode cJ9_floorMod_f86c9 20 = .ok (.lload 4, 2) := by decide +kernel
theorem dJ9_floorMod_f86c9_22 : decode cJ9_floorMod_f86c9 22 = .ok (.lload_n 2, 1) := by decide +kernel
theorem dJ9_floorMod_f86c9_23 : decode cJ9_floorMod_f86c9 23 = .ok (.ladd, 1) := by decide +kernel
theorem dJ9_floorMod_f86c9_24 : decode cJ9_floorMod_f86c9 24 = .ok (.lreturn, 1) := by decide +kernel
theorem dJ9_floorMod_f86c9_25 : decode cJ9_floorMod_f86c9 25 = .ok (.lload 4, 2) := by decide +kernel
theorem dJ9_floorMod_f86c9_27 : decode cJ9_floorMod_f86c9 27 = .ok (.lreturn, 1) := by decide +kernel
theorem dJ9_abs_067f4_0 : decode cJ9_abs_067f4 0 = .ok (.lload_n 0, 1) := by decide +kernel
theorem dJ9_abs_067f4_1 : decode cJ9_abs_067f4 1 = .ok (.lconst 0, 1) := by decide +kernel
theorem dJ9_abs_067f4_2 : decode cJ9_abs_067f4 2 = .ok (.lcmp, 1) := by decide +kernel
theorem dJ9_abs_067f4_3 : decode cJ9_abs_067f4 3 = .ok (.ifCond .ge 8, 3) := by decide +kernel
theorem dJ9_abs_067f4_6 : decode cJ9_abs_067f4 6 = .ok (.lload_n 0, 1) := by decide +kernel
theorem dJ9_abs_067f4_7 : decode cJ9_abs_067f4 7 = .ok (.lneg, 1) := by decide +kernel
theorem dJ9_abs_067f4_8 : decode cJ9_abs_067f4 8 = .ok (.goto 4, 3) := by decide +kernel
theorem dJ9_abs_067f4_11 : decode cJ9_abs_067f4 11 = .ok (.lload_n 0, 1) := by decide +kernel
theorem dJ9_abs_067f4_12 : decode cJ9_abs_067f4 12 = .ok (.lreturn, 1) := by decide +kernel
theorem dJ13_compare_74951_0 : decode cJ13_compare_74951 0 = .ok (.lload_n 0, 1) := by decide +kernel
theorem dJ13_compare_74951_1 : decode cJ13_compare_74951 1 = .ok (.lload_n 2, 1) := by decide +kernel
theorem dJ13_compare_74951_2 : decode cJ13_compare_74951 2 = .ok (.lcmp, 1) := by decide +kernel
theorem dJ13_compare_74951_3 : decode cJ13_compare_74951 3 = .ok (.ifCond .ge 7, 3) := by decide +kernel
theorem dJ13_compare_74951_6 : decode cJ13_compare_74951 6 = .ok (.iconst (-1), 1) := by decide +kernel
theorem dJ13_compare_74951_7 : decode cJ13_compare_74951 7 = .ok (.goto 14, 3) := by decide +kernel
theorem dJ13_compare_74951_10 : decode cJ13_compare_74951 10 = .ok (.lload_n 0, 1) := by decide +kernel
theorem dJ13_compare_74951_11 : decode cJ13_compare_74951 11 = .ok (.lload_n 2, 1) := by decide +kernel
theorem dJ13_compare_74951_12 : decode cJ13_compare_74951 12 = .ok (.lcmp, 1) := by decide +kernel
theorem dJ13_compare_74951_13 : decode cJ13_compare_74951 13 = .ok (.ifCond .ne 7, 3) := by decide +kernel
theorem dJ13_compare_74951_16 : decode cJ13_compare_74951 16 = .ok (.iconst 0, 1) := by decide +kernel
theorem dJ13_compare_74951_17 : decode cJ13_compare_74951 17 = .ok (.goto 4, 3) := by decide +kernel
theorem dJ13_compare_74951_20 : decode cJ13_compare_74951 20 = .ok (.iconst 1, 1) := by decide +kernel
theorem dJ13_compare_74951_21 : decode cJ13_compare_74951 21 = .ok (.ireturn, 1) := by decide +kernel
