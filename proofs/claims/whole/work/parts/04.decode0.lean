theorem dX0_clear_0 : decode cX0_clear 0 = .ok (.aload_n 0, 1) := by decide +kernel
theorem dX0_clear_1 : decode cX0_clear 1 = .ok (.iconst 0, 1) := by decide +kernel
theorem dX0_clear_2 : decode cX0_clear 2 = .ok (.putfield 27, 3) := by decide +kernel
theorem dX0_clear_5 : decode cX0_clear 5 = .ok (.return_, 1) := by decide +kernel
theorem dX0_isEmpty_0 : decode cX0_isEmpty 0 = .ok (.aload_n 0, 1) := by decide +kernel
theorem dX0_isEmpty_1 : decode cX0_isEmpty 1 = .ok (.getfield 27, 3) := by decide +kernel
theorem dX0_isEmpty_4 : decode cX0_isEmpty 4 = .ok (.ifCond .ne 7, 3) := by decide +kernel
theorem dX0_isEmpty_7 : decode cX0_isEmpty 7 = .ok (.iconst 1, 1) := by decide +kernel
theorem dX0_isEmpty_8 : decode cX0_isEmpty 8 = .ok (.goto 4, 3) := by decide +kernel
theorem dX0_isEmpty_11 : decode cX0_isEmpty 11 = .ok (.iconst 0, 1) := by decide +kernel
theorem dX0_isEmpty_12 : decode cX0_isEmpty 12 = .ok (.ireturn, 1) := by decide +kernel
theorem dX0_open_0 : decode cX0_open 0 = .ok (.aload_n 0, 1) := by decide +kernel
theorem dX0_open_1 : decode cX0_open 1 = .ok (.getfield 27, 3) := by decide +kernel
theorem dX0_open_4 : decode cX0_open 4 = .ok (.sipush 128, 3) := by decide +kernel
theorem dX0_open_7 : decode cX0_open 7 = .ok (.if_icmp .ge 33, 3) := by decide +kernel
theorem dX0_open_10 : decode cX0_open 10 = .ok (.aload_n 0, 1) := by decide +kernel
theorem dX0_open_11 : decode cX0_open 11 = .ok (.getfield 11, 3) := by decide +kernel
theorem dX0_open_14 : decode cX0_open 14 = .ok (.aload_n 0, 1) := by decide +kernel
theorem dX0_open_15 : decode cX0_open 15 = .ok (.getfield 27, 3) := by decide +kernel
theorem dX0_open_18 : decode cX0_open 18 = .ok (.iload_n 1, 1) := by decide +kernel
theorem dX0_open_19 : decode cX0_open 19 = .ok (.iastore, 1) := by decide +kernel
theorem dX0_open_20 : decode cX0_open 20 = .ok (.aload_n 0, 1) := by decide +kernel
theorem dX0_open_21 : decode cX0_open 21 = .ok (.getfield 15, 3) := by decide +kernel
theorem dX0_open_24 : decode cX0_open 24 = .ok (.aload_n 0, 1) := by decide +kernel
theorem dX0_open_25 : decode cX0_open 25 = .ok (.getfield 27, 3) := by decide +kernel
theorem dX0_open_28 : decode cX0_open 28 = .ok (.iconst 0, 1) := by decide +kernel
theorem dX0_open_29 : decode cX0_open 29 = .ok (.iastore, 1) := by decide +kernel
theorem dX0_open_30 : decode cX0_open 30 = .ok (.aload_n 0, 1) := by decide +kernel
theorem dX0_open_31 : decode cX0_open 31 = .ok (.dup, 1) := by decide +kernel
theorem dX0_open_32 : decode cX0_open 32 = .ok (.getfield 27, 3) := by decide +kernel
theorem dX0_open_35 : decode cX0_open 35 = .ok (.iconst 1, 1) := by decide +kernel
theorem dX0_open_36 : decode cX0_open 36 = .ok (.iadd, 1) := by decide +kernel
theorem dX0_open_37 : decode cX0_open 37 = .ok (.putfield 27, 3) := by decide +kernel
theorem dX0_open_40 : decode cX0_open 40 = .ok (.return_, 1) := by decide +kernel
theorem dX0_close_0 : decode cX0_close 0 = .ok (.aload_n 0, 1) := by decide +kernel
theorem dX0_close_1 : decode cX0_close 1 = .ok (.getfield 27, 3) := by decide +kernel
theorem dX0_close_4 : decode cX0_close 4 = .ok (.ifCond .le 13, 3) := by decide +kernel
theorem dX0_close_7 : decode cX0_close 7 = .ok (.aload_n 0, 1) := by decide +kernel
theorem dX0_close_8 : decode cX0_close 8 = .ok (.dup, 1) := by decide +kernel
theorem dX0_close_9 : decode cX0_close 9 = .ok (.getfield 27, 3) := by decide +kernel
theorem dX0_close_12 : decode cX0_close 12 = .ok (.iconst 1, 1) := by decide +kernel
theorem dX0_close_13 : decode cX0_close 13 = .ok (.isub, 1) := by decide +kernel
theorem dX0_close_14 : decode cX0_close 14 = .ok (.putfield 27, 3) := by decide +kernel
theorem dX0_close_17 : decode cX0_close 17 = .ok (.return_, 1) := by decide +kernel
theorem dX0_statement_0 : decode cX0_statement 0 = .ok (.aload_n 0, 1) := by decide +kernel
theorem dX0_statement_1 : decode cX0_statement 1 = .ok (.getfield 27, 3) := by decide +kernel
theorem dX0_statement_4 : decode cX0_statement 4 = .ok (.ifCond .le 17, 3) := by decide +kernel
theorem dX0_statement_7 : decode cX0_statement 7 = .ok (.aload_n 0, 1) := by decide +kernel
theorem dX0_statement_8 : decode cX0_statement 8 = .ok (.getfield 11, 3) := by decide +kernel
theorem dX0_statement_11 : decode cX0_statement 11 = .ok (.aload_n 0, 1) := by decide +kernel
theorem dX0_statement_12 : decode cX0_statement 12 = .ok (.getfield 27, 3) := by decide +kernel
theorem dX0_statement_15 : decode cX0_statement 15 = .ok (.iconst 1, 1) := by decide +kernel
theorem dX0_statement_16 : decode cX0_statement 16 = .ok (.isub, 1) := by decide +kernel
theorem dX0_statement_17 : decode cX0_statement 17 = .ok (.iaload, 1) := by decide +kernel
theorem dX0_statement_18 : decode cX0_statement 18 = .ok (.goto 4, 3) := by decide +kernel
theorem dX0_statement_21 : decode cX0_statement 21 = .ok (.iconst (-1), 1) := by decide +kernel
theorem dX0_statement_22 : decode cX0_statement 22 = .ok (.ireturn, 1) := by decide +kernel
theorem dX0_stage_0 : decode cX0_stage 0 = .ok (.aload_n 0, 1) := by decide +kernel
theorem dX0_stage_1 : decode cX0_stage 1 = .ok (.getfield 27, 3) := by decide +kernel
theorem dX0_stage_4 : decode cX0_stage 4 = .ok (.ifCond .le 17, 3) := by decide +kernel
theorem dX0_stage_7 : decode cX0_stage 7 = .ok (.aload_n 0, 1) := by decide +kernel
theorem dX0_stage_8 : decode cX0_stage 8 = .ok (.getfield 15, 3) := by decide +kernel
theorem dX0_stage_11 : decode cX0_stage 11 = .ok (.aload_n 0, 1) := by decide +kernel
theorem dX0_stage_12 : decode cX0_stage 12 = .ok (.getfield 27, 3) := by decide +kernel
theorem dX0_stage_15 : decode cX0_stage 15 = .ok (.iconst 1, 1) := by decide +kernel
theorem dX0_stage_16 : decode cX0_stage 16 = .ok (.isub, 1) := by decide +kernel
theorem dX0_stage_17 : decode cX0_stage 17 = .ok (.iaload, 1) := by decide +kernel
theorem dX0_stage_18 : decode cX0_stage 18 = .ok (.goto 4, 3) := by decide +kernel
theorem dX0_stage_21 : decode cX0_stage 21 = .ok (.iconst 0, 1) := by decide +kernel
theorem dX0_stage_22 : decode cX0_stage 22 = .ok (.ireturn, 1) := by decide +kernel
theorem dX0_setStage_0 : decode cX0_setStage 0 = .ok (.aload_n 0, 1) := by decide +kernel
theorem dX0_setStage_1 : decode cX0_setStage 1 = .ok (.getfield 27, 3) := by decide +kernel
theorem dX0_setStage_4 : decode cX0_setStage 4 = .ok (.ifCond .le 15, 3) := by decide +kernel
theorem dX0_setStage_7 : decode cX0_setStage 7 = .ok (.aload_n 0, 1) := by decide +kernel
theorem dX0_setStage_8 : decode cX0_setStage 8 = .ok (.getfield 15, 3) := by decide +kernel
theorem dX0_setStage_11 : decode cX0_setStage 11 = .ok (.aload_n 0, 1) := by decide +kernel
theorem dX0_setStage_12 : decode cX0_setStage 12 = .ok (.getfield 27, 3) := by decide +kernel
theorem dX0_setStage_15 : decode cX0_setStage 15 = .ok (.iconst 1, 1) := by decide +kernel
theorem dX0_setStage_16 : decode cX0_setStage 16 = .ok (.isub, 1) := by decide +kernel
theorem dX0_setStage_17 : decode cX0_setStage 17 = .ok (.iload_n 1, 1) := by decide +kernel
theorem dX0_setStage_18 : decode cX0_setStage 18 = .ok (.iastore, 1) := by decide +kernel
theorem dX0_setStage_19 : decode cX0_setStage 19 = .ok (.return_, 1) := by decide +kernel
theorem dX0_keep_0 : decode cX0_keep 0 = .ok (.aload_n 0, 1) := by decide +kernel
theorem dX0_keep_1 : decode cX0_keep 1 = .ok (.getfield 27, 3) := by decide +kernel
theorem dX0_keep_4 : decode cX0_keep 4 = .ok (.ifCond .le 39, 3) := by decide +kernel
theorem dX0_keep_7 : decode cX0_keep 7 = .ok (.aload_n 0, 1) := by decide +kernel
theorem dX0_keep_8 : decode cX0_keep 8 = .ok (.getfield 18, 3) := by decide +kernel
theorem dX0_keep_11 : decode cX0_keep 11 = .ok (.aload_n 0, 1) := by decide +kernel
theorem dX0_keep_12 : decode cX0_keep 12 = .ok (.getfield 27, 3) := by decide +kernel
theorem dX0_keep_15 : decode cX0_keep 15 = .ok (.iconst 1, 1) := by decide +kernel
theorem dX0_keep_16 : decode cX0_keep 16 = .ok (.isub, 1) := by decide +kernel
theorem dX0_keep_17 : decode cX0_keep 17 = .ok (.iload_n 1, 1) := by decide +kernel
theorem dX0_keep_18 : decode cX0_keep 18 = .ok (.iastore, 1) := by decide +kernel
theorem dX0_keep_19 : decode cX0_keep 19 = .ok (.aload_n 0, 1) := by decide +kernel
theorem dX0_keep_20 : decode cX0_keep 20 = .ok (.getfield 21, 3) := by decide +kernel
theorem dX0_keep_23 : decode cX0_keep 23 = .ok (.aload_n 0, 1) := by decide +kernel
theorem dX0_keep_24 : decode cX0_keep 24 = .ok (.getfield 27, 3) := by decide +kernel
theorem dX0_keep_27 : decode cX0_keep 27 = .ok (.iconst 1, 1) := by decide +kernel
theorem dX0_keep_28 : decode cX0_keep 28 = .ok (.isub, 1) := by decide +kernel
theorem dX0_keep_29 : decode cX0_keep 29 = .ok (.iload_n 2, 1) := by decide +kernel
theorem dX0_keep_30 : decode cX0_keep 30 = .ok (.iastore, 1) := by decide +kernel
theorem dX0_keep_31 : decode cX0_keep 31 = .ok (.aload_n 0, 1) := by decide +kernel
theorem dX0_keep_32 : decode cX0_keep 32 = .ok (.getfield 24, 3) := by decide +kernel
theorem dX0_keep_35 : decode cX0_keep 35 = .ok (.aload_n 0, 1) := by decide +kernel
theorem dX0_keep_36 : decode cX0_keep 36 = .ok (.getfield 27, 3) := by decide +kernel
theorem dX0_keep_39 : decode cX0_keep 39 = .ok (.iconst 1, 1) := by decide +kernel
theorem dX0_keep_40 : decode cX0_keep 40 = .ok (.isub, 1) := by decide +kernel
theorem dX0_keep_41 : decode cX0_keep 41 = .ok (.iload_n 3, 1) := by decide +kernel
theorem dX0_keep_42 : decode cX0_keep 42 = .ok (.iastore, 1) := by decide +kernel
theorem dX0_keep_43 : decode cX0_keep 43 = .ok (.return_, 1) := by decide +kernel
theorem dX0_keptEnding_0 : decode cX0_keptEnding 0 = .ok (.aload_n 0, 1) := by decide +kernel
theorem dX0_keptEnding_1 : decode cX0_keptEnding 1 = .ok (.getfield 27, 3) := by decide +kernel
theorem dX0_keptEnding_4 : decode cX0_keptEnding 4 = .ok (.ifCond .le 17, 3) := by decide +kernel
theorem dX0_keptEnding_7 : decode cX0_keptEnding 7 = .ok (.aload_n 0, 1) := by decide +kernel
theorem dX0_keptEnding_8 : decode cX0_keptEnding 8 = .ok (.getfield 18, 3) := by decide +kernel
theorem dX0_keptEnding_11 : decode cX0_keptEnding 11 = .ok (.aload_n 0, 1) := by decide +kernel
theorem dX0_keptEnding_12 : decode cX0_keptEnding 12 = .ok (.getfield 27, 3) := by decide +kernel
theorem dX0_keptEnding_15 : decode cX0_keptEnding 15 = .ok (.iconst 1, 1) := by decide +kernel
theorem dX0_keptEnding_16 : decode cX0_keptEnding 16 = .ok (.isub, 1) := by decide +kernel
theorem dX0_keptEnding_17 : decode cX0_keptEnding 17 = .ok (.iaload, 1) := by decide +kernel
theorem dX0_keptEnding_18 : decode cX0_keptEnding 18 = .ok (.goto 4, 3) := by decide +kernel
theorem dX0_keptEnding_21 : decode cX0_keptEnding 21 = .ok (.iconst 0, 1) := by decide +kernel
theorem dX0_keptEnding_22 : decode cX0_keptEnding 22 = .ok (.ireturn, 1) := by decide +kernel
theorem dX0_keptKind_0 : decode cX0_keptKind 0 = .ok (.aload_n 0, 1) := by decide +kernel
theorem dX0_keptKind_1 : decode cX0_keptKind 1 = .ok (.getfield 27, 3) := by decide +kernel
theorem dX0_keptKind_4 : decode cX0_keptKind 4 = .ok (.ifCond .le 17, 3) := by decide +kernel
theorem dX0_keptKind_7 : decode cX0_keptKind 7 = .ok (.aload_n 0, 1) := by decide +kernel
theorem dX0_keptKind_8 : decode cX0_keptKind 8 = .ok (.getfield 21, 3) := by decide +kernel
theorem dX0_keptKind_11 : decode cX0_keptKind 11 = .ok (.aload_n 0, 1) := by decide +kernel
theorem dX0_keptKind_12 : decode cX0_keptKind 12 = .ok (.getfield 27, 3) := by decide +kernel
theorem dX0_keptKind_15 : decode cX0_keptKind 15 = .ok (.iconst 1, 1) := by decide +kernel
theorem dX0_keptKind_16 : decode cX0_keptKind 16 = .ok (.isub, 1) := by decide +kernel
theorem dX0_keptKind_17 : decode cX0_keptKind 17 = .ok (.iaload, 1) := by decide +kernel
theorem dX0_keptKind_18 : decode cX0_keptKind 18 = .ok (.goto 4, 3) := by decide +kernel
theorem dX0_keptKind_21 : decode cX0_keptKind 21 = .ok (.iconst 0, 1) := by decide +kernel
theorem dX0_keptKind_22 : decode cX0_keptKind 22 = .ok (.ireturn, 1) := by decide +kernel
theorem dX0_keptNumber_0 : decode cX0_keptNumber 0 = .ok (.aload_n 0, 1) := by decide +kernel
theorem dX0_keptNumber_1 : decode cX0_keptNumber 1 = .ok (.getfield 27, 3) := by decide +kernel
theorem dX0_keptNumber_4 : decode cX0_keptNumber 4 = .ok (.ifCond .le 17, 3) := by decide +kernel
theorem dX0_keptNumber_7 : decode cX0_keptNumber 7 = .ok (.aload_n 0, 1) := by decide +kernel
theorem dX0_keptNumber_8 : decode cX0_keptNumber 8 = .ok (.getfield 24, 3) := by decide +kernel
theorem dX0_keptNumber_11 : decode cX0_keptNumber 11 = .ok (.aload_n 0, 1) := by decide +kernel
theorem dX0_keptNumber_12 : decode cX0_keptNumber 12 = .ok (.getfield 27, 3) := by decide +kernel
theorem dX0_keptNumber_15 : decode cX0_keptNumber 15 = .ok (.iconst 1, 1) := by decide +kernel
theorem dX0_keptNumber_16 : decode cX0_keptNumber 16 = .ok (.isub, 1) := by decide +kernel
theorem dX0_keptNumber_17 : decode cX0_keptNumber 17 = .ok (.iaload, 1) := by decide +kernel
theorem dX0_keptNumber_18 : decode cX0_keptNumber 18 = .ok (.goto 4, 3) := by decide +kernel
theorem dX0_keptNumber_21 : decode cX0_keptNumber 21 = .ok (.iconst 0, 1) := by decide +kernel
theorem dX0_keptNumber_22 : decode cX0_keptNumber 22 = .ok (.ireturn, 1) := by decide +kernel
theorem dX2_clear_0 : decode cX2_clear 0 = .ok (.aload_n 0, 1) := by decide +kernel
theorem dX2_clear_1 : decode cX2_clear 1 = .ok (.getfield 9, 3) := by decide +kernel
theorem dX2_clear_4 : decode cX2_clear 4 = .ok (.iconst 0, 1) := by decide +kernel
theorem dX2_clear_5 : decode cX2_clear 5 = .ok (.invokestatic 15, 3) := by decide +kernel
theorem dX2_clear_8 : decode cX2_clear 8 = .ok (.aload_n 0, 1) := by decide +kernel
theorem dX2_clear_9 : decode cX2_clear 9 = .ok (.iconst 0, 1) := by decide +kernel
theorem dX2_clear_10 : decode cX2_clear 10 = .ok (.putfield 21, 3) := by decide +kernel
theorem dX2_clear_13 : decode cX2_clear 13 = .ok (.return_, 1) := by decide +kernel
theorem dX2_take_0 : decode cX2_take 0 = .ok (.iload_n 1, 1) := by decide +kernel
theorem dX2_take_1 : decode cX2_take 1 = .ok (.iconst 4, 1) := by decide +kernel
theorem dX2_take_2 : decode cX2_take 2 = .ok (.invokestatic 25, 3) := by decide +kernel
theorem dX2_take_5 : decode cX2_take 5 = .ok (.ifCond .eq 30, 3) := by decide +kernel
theorem dX2_take_8 : decode cX2_take 8 = .ok (.aload_n 0, 1) := by decide +kernel
theorem dX2_take_9 : decode cX2_take 9 = .ok (.getfield 9, 3) := by decide +kernel
theorem dX2_take_12 : decode cX2_take 12 = .ok (.iload_n 1, 1) := by decide +kernel
theorem dX2_take_13 : decode cX2_take 13 = .ok (.dup2, 1) := by decide +kernel
theorem dX2_take_14 : decode cX2_take 14 = .ok (.iaload, 1) := by decide +kernel
theorem dX2_take_15 : decode cX2_take 15 = .ok (.iconst 1, 1) := by decide +kernel
theorem dX2_take_16 : decode cX2_take 16 = .ok (.iadd, 1) := by decide +kernel
theorem dX2_take_17 : decode cX2_take 17 = .ok (.iastore, 1) := by decide +kernel
theorem dX2_take_18 : decode cX2_take 18 = .ok (.aload_n 0, 1) := by decide +kernel
theorem dX2_take_19 : decode cX2_take 19 = .ok (.aload_n 0, 1) := by decide +kernel
theorem dX2_take_20 : decode cX2_take 20 = .ok (.getfield 21, 3) := by decide +kernel
theorem dX2_take_23 : decode cX2_take 23 = .ok (.aload_n 0, 1) := by decide +kernel
theorem dX2_take_24 : decode cX2_take 24 = .ok (.getfield 9, 3) := by decide +kernel
theorem dX2_take_27 : decode cX2_take 27 = .ok (.iload_n 1, 1) := by decide +kernel
theorem dX2_take_28 : decode cX2_take 28 = .ok (.iaload, 1) := by decide +kernel
theorem dX2_take_29 : decode cX2_take 29 = .ok (.invokestatic 29, 3) := by decide +kernel
theorem dX2_take_32 : decode cX2_take 32 = .ok (.putfield 21, 3) := by decide +kernel
theorem dX2_take_35 : decode cX2_take 35 = .ok (.return_, 1) := by decide +kernel
theorem dX2_free_0 : decode cX2_free 0 = .ok (.iload_n 1, 1) := by decide +kernel
theorem dX2_free_1 : decode cX2_free 1 = .ok (.iconst 4, 1) := by decide +kernel
theorem dX2_free_2 : decode cX2_free 2 = .ok (.invokestatic 25, 3) := by decide +kernel
theorem dX2_free_5 : decode cX2_free 5 = .ok (.ifCond .eq 13, 3) := by decide +kernel
theorem dX2_free_8 : decode cX2_free 8 = .ok (.aload_n 0, 1) := by decide +kernel
theorem dX2_free_9 : decode cX2_free 9 = .ok (.getfield 9, 3) := by decide +kernel
theorem dX2_free_12 : decode cX2_free 12 = .ok (.iload_n 1, 1) := by decide +kernel
theorem dX2_free_13 : decode cX2_free 13 = .ok (.dup2, 1) := by decide +kernel
theorem dX2_free_14 : decode cX2_free 14 = .ok (.iaload, 1) := by decide +kernel
theorem dX2_free_15 : decode cX2_free 15 = .ok (.iconst 1, 1) := by decide +kernel
theorem dX2_free_16 : decode cX2_free 16 = .ok (.isub, 1) := by decide +kernel
theorem dX2_free_17 : decode cX2_free 17 = .ok (.iastore, 1) := by decide +kernel
theorem dX2_free_18 : decode cX2_free 18 = .ok (.return_, 1) := by decide +kernel
theorem dX2_most_0 : decode cX2_most 0 = .ok (.aload_n 0, 1) := by decide +kernel
theorem dX2_most_1 : decode cX2_most 1 = .ok (.getfield 21, 3) := by decide +kernel
theorem dX2_most_4 : decode cX2_most 4 = .ok (.ireturn, 1) := by decide +kernel
theorem dX2_sum_0 : decode cX2_sum 0 = .ok (.iconst 0, 1) := by decide +kernel
theorem dX2_sum_1 : decode cX2_sum 1 = .ok (.istore_n 1, 1) := by decide +kernel
theorem dX2_sum_2 : decode cX2_sum 2 = .ok (.iconst 0, 1) := by decide +kernel
theorem dX2_sum_3 : decode cX2_sum 3 = .ok (.istore_n 2, 1) := by decide +kernel
theorem dX2_sum_4 : decode cX2_sum 4 = .ok (.iload_n 2, 1) := by decide +kernel
theorem dX2_sum_5 : decode cX2_sum 5 = .ok (.iconst 4, 1) := by decide +kernel
theorem dX2_sum_6 : decode cX2_sum 6 = .ok (.if_icmp .ge 18, 3) := by decide +kernel
theorem dX2_sum_9 : decode cX2_sum 9 = .ok (.iload_n 1, 1) := by decide +kernel
theorem dX2_sum_10 : decode cX2_sum 10 = .ok (.aload_n 0, 1) := by decide +kernel
theorem dX2_sum_11 : decode cX2_sum 11 = .ok (.getfield 9, 3) := by decide +kernel
theorem dX2_sum_14 : decode cX2_sum 14 = .ok (.iload_n 2, 1) := by decide +kernel
theorem dX2_sum_15 : decode cX2_sum 15 = .ok (.iaload, 1) := by decide +kernel
theorem dX2_sum_16 : decode cX2_sum 16 = .ok (.iadd, 1) := by decide +kernel
theorem dX2_sum_17 : decode cX2_sum 17 = .ok (.istore_n 1, 1) := by decide +kernel
theorem dX2_sum_18 : decode cX2_sum 18 = .ok (.iinc 2 1, 3) := by decide +kernel
theorem dX2_sum_21 : decode cX2_sum 21 = .ok (.goto (-17), 3) := by decide +kernel
theorem dX2_sum_24 : decode cX2_sum 24 = .ok (.iload_n 1, 1) := by decide +kernel
theorem dX2_sum_25 : decode cX2_sum 25 = .ok (.ireturn, 1) := by decide +kernel
theorem dX3_makingPrice_0 : decode cX3_makingPrice 0 = .ok (.iload_n 0, 1) := by decide +kernel
theorem dX3_makingPrice_1 : decode cX3_makingPrice 1 = .ok (.ifCond .ge 7, 3) := by decide +kernel
theorem dX3_makingPrice_4 : decode cX3_makingPrice 4 = .ok (.iconst 1, 1) := by decide +kernel
theorem dX3_makingPrice_5 : decode cX3_makingPrice 5 = .ok (.goto 8, 3) := by decide +kernel
theorem dX3_makingPrice_8 : decode cX3_makingPrice 8 = .ok (.iconst 1, 1) := by decide +kernel
theorem dX3_makingPrice_9 : decode cX3_makingPrice 9 = .ok (.iload_n 0, 1) := by decide +kernel
theorem dX3_makingPrice_10 : decode cX3_makingPrice 10 = .ok (.iconst 4, 1) := by decide +kernel
theorem dX3_makingPrice_11 : decode cX3_makingPrice 11 = .ok (.idiv, 1) := by decide +kernel
theorem dX3_makingPrice_12 : decode cX3_makingPrice 12 = .ok (.iadd, 1) := by decide +kernel
theorem dX3_makingPrice_13 : decode cX3_makingPrice 13 = .ok (.ireturn, 1) := by decide +kernel
theorem dX4_clear_0 : decode cX4_clear 0 = .ok (.aload_n 0, 1) := by decide +kernel
theorem dX4_clear_1 : decode cX4_clear 1 = .ok (.getfield 9, 3) := by decide +kernel
theorem dX4_clear_4 : decode cX4_clear 4 = .ok (.iconst 0, 1) := by decide +kernel
theorem dX4_clear_5 : decode cX4_clear 5 = .ok (.invokestatic 24, 3) := by decide +kernel
theorem dX4_clear_8 : decode cX4_clear 8 = .ok (.aload_n 0, 1) := by decide +kernel
theorem dX4_clear_9 : decode cX4_clear 9 = .ok (.getfield 18, 3) := by decide +kernel
theorem dX4_clear_12 : decode cX4_clear 12 = .ok (.iconst (-1), 1) := by decide +kernel
theorem dX4_clear_13 : decode cX4_clear 13 = .ok (.invokestatic 24, 3) := by decide +kernel
theorem dX4_clear_16 : decode cX4_clear 16 = .ok (.aload_n 0, 1) := by decide +kernel
theorem dX4_clear_17 : decode cX4_clear 17 = .ok (.getfield 21, 3) := by decide +kernel
theorem dX4_clear_20 : decode cX4_clear 20 = .ok (.iconst 0, 1) := by decide +kernel
theorem dX4_clear_21 : decode cX4_clear 21 = .ok (.invokestatic 24, 3) := by decide +kernel
theorem dX4_clear_24 : decode cX4_clear 24 = .ok (.aload_n 0, 1) := by decide +kernel
theorem dX4_clear_25 : decode cX4_clear 25 = .ok (.iconst 0, 1) := by decide +kernel
theorem dX4_clear_26 : decode cX4_clear 26 = .ok (.putfield 30, 3) := by decide +kernel
theorem dX4_clear_29 : decode cX4_clear 29 = .ok (.aload_n 0, 1) := by decide +kernel
theorem dX4_clear_30 : decode cX4_clear 30 = .ok (.iconst 0, 1) := by decide +kernel
theorem dX4_clear_31 : decode cX4_clear 31 = .ok (.putfield 34, 3) := by decide +kernel
theorem dX4_clear_34 : decode cX4_clear 34 = .ok (.return_, 1) := by decide +kernel
theorem dX4_read_0 : decode cX4_read 0 = .ok (.iload_n 1, 1) := by decide +kernel
theorem dX4_read_1 : decode cX4_read 1 = .ok (.bipush 8, 2) := by decide +kernel
theorem dX4_read_3 : decode cX4_read 3 = .ok (.invokestatic 37, 3) := by decide +kernel
theorem dX4_read_6 : decode cX4_read 6 = .ok (.ifCond .eq 12, 3) := by decide +kernel
theorem dX4_read_9 : decode cX4_read 9 = .ok (.aload_n 0, 1) := by decide +kernel
theorem dX4_read_10 : decode cX4_read 10 = .ok (.getfield 9, 3) := by decide +kernel
theorem dX4_read_13 : decode cX4_read 13 = .ok (.iload_n 1, 1) := by decide +kernel
theorem dX4_read_14 : decode cX4_read 14 = .ok (.iaload, 1) := by decide +kernel
theorem dX4_read_15 : decode cX4_read 15 = .ok (.goto 4, 3) := by decide +kernel
theorem dX4_read_18 : decode cX4_read 18 = .ok (.iconst 0, 1) := by decide +kernel
theorem dX4_read_19 : decode cX4_read 19 = .ok (.ireturn, 1) := by decide +kernel
theorem dX4_write_0 : decode cX4_write 0 = .ok (.iload_n 1, 1) := by decide +kernel
theorem dX4_write_1 : decode cX4_write 1 = .ok (.bipush 8, 2) := by decide +kernel
theorem dX4_write_3 : decode cX4_write 3 = .ok (.invokestatic 37, 3) := by decide +kernel
theorem dX4_write_6 : decode cX4_write 6 = .ok (.ifCond .eq 10, 3) := by decide +kernel
theorem dX4_write_9 : decode cX4_write 9 = .ok (.aload_n 0, 1) := by decide +kernel
theorem dX4_write_10 : decode cX4_write 10 = .ok (.getfield 9, 3) := by decide +kernel
theorem dX4_write_13 : decode cX4_write 13 = .ok (.iload_n 1, 1) := by decide +kernel
theorem dX4_write_14 : decode cX4_write 14 = .ok (.iload_n 2, 1) := by decide +kernel
theorem dX4_write_15 : decode cX4_write 15 = .ok (.iastore, 1) := by decide +kernel
theorem dX4_write_16 : decode cX4_write 16 = .ok (.return_, 1) := by decide +kernel
theorem dX4_result_0 : decode cX4_result 0 = .ok (.aload_n 0, 1) := by decide +kernel
theorem dX4_result_1 : decode cX4_result 1 = .ok (.getfield 34, 3) := by decide +kernel
theorem dX4_result_4 : decode cX4_result 4 = .ok (.ireturn, 1) := by decide +kernel
theorem dX4_setResult_0 : decode cX4_setResult 0 = .ok (.aload_n 0, 1) := by decide +kernel
theorem dX4_setResult_1 : decode cX4_setResult 1 = .ok (.iload_n 1, 1) := by decide +kernel
theorem dX4_setResult_2 : decode cX4_setResult 2 = .ok (.putfield 34, 3) := by decide +kernel
theorem dX4_setResult_5 : decode cX4_setResult 5 = .ok (.return_, 1) := by decide +kernel
theorem dX4_lengthOf_0 : decode cX4_lengthOf 0 = .ok (.iload_n 1, 1) := by decide +kernel
theorem dX4_lengthOf_1 : decode cX4_lengthOf 1 = .ok (.iconst 4, 1) := by decide +kernel
theorem dX4_lengthOf_2 : decode cX4_lengthOf 2 = .ok (.invokestatic 37, 3) := by decide +kernel
theorem dX4_lengthOf_5 : decode cX4_lengthOf 5 = .ok (.ifCond .eq 12, 3) := by decide +kernel
theorem dX4_lengthOf_8 : decode cX4_lengthOf 8 = .ok (.aload_n 0, 1) := by decide +kernel
theorem dX4_lengthOf_9 : decode cX4_lengthOf 9 = .ok (.getfield 18, 3) := by decide +kernel
theorem dX4_lengthOf_12 : decode cX4_lengthOf 12 = .ok (.iload_n 1, 1) := by decide +kernel
theorem dX4_lengthOf_13 : decode cX4_lengthOf 13 = .ok (.iaload, 1) := by decide +kernel
theorem dX4_lengthOf_14 : decode cX4_lengthOf 14 = .ok (.goto 4, 3) := by decide +kernel
theorem dX4_lengthOf_17 : decode cX4_lengthOf 17 = .ok (.iconst (-1), 1) := by decide +kernel
theorem dX4_lengthOf_18 : decode cX4_lengthOf 18 = .ok (.ireturn, 1) := by decide +kernel
theorem dX4_makeRow_0 : decode cX4_makeRow 0 = .ok (.iload_n 1, 1) := by decide +kernel
theorem dX4_makeRow_1 : decode cX4_makeRow 1 = .ok (.iconst 4, 1) := by decide +kernel
theorem dX4_makeRow_2 : decode cX4_makeRow 2 = .ok (.invokestatic 37, 3) := by decide +kernel
theorem dX4_makeRow_5 : decode cX4_makeRow 5 = .ok (.ifCond .eq 20, 3) := by decide +kernel
theorem dX4_makeRow_8 : decode cX4_makeRow 8 = .ok (.iload_n 2, 1) := by decide +kernel
theorem dX4_makeRow_9 : decode cX4_makeRow 9 = .ok (.sipush 800, 3) := by decide +kernel
theorem dX4_makeRow_12 : decode cX4_makeRow 12 = .ok (.aload_n 0, 1) := by decide +kernel
theorem dX4_makeRow_13 : decode cX4_makeRow 13 = .ok (.getfield 30, 3) := by decide +kernel
theorem dX4_makeRow_16 : decode cX4_makeRow 16 = .ok (.isub, 1) := by decide +kernel
theorem dX4_makeRow_17 : decode cX4_makeRow 17 = .ok (.iconst 1, 1) := by decide +kernel
theorem dX4_makeRow_18 : decode cX4_makeRow 18 = .ok (.iadd, 1) := by decide +kernel
theorem dX4_makeRow_19 : decode cX4_makeRow 19 = .ok (.invokestatic 37, 3) := by decide +kernel
theorem dX4_makeRow_22 : decode cX4_makeRow 22 = .ok (.ifCond .ne 4, 3) := by decide +kernel
theorem dX4_makeRow_25 : decode cX4_makeRow 25 = .ok (.return_, 1) := by decide +kernel
theorem dX4_makeRow_26 : decode cX4_makeRow 26 = .ok (.aload_n 0, 1) := by decide +kernel
theorem dX4_makeRow_27 : decode cX4_makeRow 27 = .ok (.getfield 15, 3) := by decide +kernel
theorem dX4_makeRow_30 : decode cX4_makeRow 30 = .ok (.iload_n 1, 1) := by decide +kernel
theorem dX4_makeRow_31 : decode cX4_makeRow 31 = .ok (.aload_n 0, 1) := by decide +kernel
theorem dX4_makeRow_32 : decode cX4_makeRow 32 = .ok (.getfield 30, 3) := by decide +kernel
theorem dX4_makeRow_35 : decode cX4_makeRow 35 = .ok (.iastore, 1) := by decide +kernel
theorem dX4_makeRow_36 : decode cX4_makeRow 36 = .ok (.aload_n 0, 1) := by decide +kernel
theorem dX4_makeRow_37 : decode cX4_makeRow 37 = .ok (.getfield 18, 3) := by decide +kernel
theorem dX4_makeRow_40 : decode cX4_makeRow 40 = .ok (.iload_n 1, 1) := by decide +kernel
theorem dX4_makeRow_41 : decode cX4_makeRow 41 = .ok (.iload_n 2, 1) := by decide +kernel
theorem dX4_makeRow_42 : decode cX4_makeRow 42 = .ok (.iastore, 1) := by decide +kernel
theorem dX4_makeRow_43 : decode cX4_makeRow 43 = .ok (.aload_n 0, 1) := by decide +kernel
theorem dX4_makeRow_44 : decode cX4_makeRow 44 = .ok (.dup, 1) := by decide +kernel
theorem dX4_makeRow_45 : decode cX4_makeRow 45 = .ok (.getfield 30, 3) := by decide +kernel
theorem dX4_makeRow_48 : decode cX4_makeRow 48 = .ok (.iload_n 2, 1) := by decide +kernel
theorem dX4_makeRow_49 : decode cX4_makeRow 49 = .ok (.iadd, 1) := by decide +kernel
theorem dX4_makeRow_50 : decode cX4_makeRow 50 = .ok (.putfield 30, 3) := by decide +kernel
theorem dX4_makeRow_53 : decode cX4_makeRow 53 = .ok (.return_, 1) := by decide +kernel
theorem dX4_forgetRow_0 : decode cX4_forgetRow 0 = .ok (.iload_n 1, 1) := by decide +kernel
theorem dX4_forgetRow_1 : decode cX4_forgetRow 1 = .ok (.iconst 4, 1) := by decide +kernel
theorem dX4_forgetRow_2 : decode cX4_forgetRow 2 = .ok (.invokestatic 37, 3) := by decide +kernel
theorem dX4_forgetRow_5 : decode cX4_forgetRow 5 = .ok (.ifCond .eq 10, 3) := by decide +kernel
theorem dX4_forgetRow_8 : decode cX4_forgetRow 8 = .ok (.aload_n 0, 1) := by decide +kernel
theorem dX4_forgetRow_9 : decode cX4_forgetRow 9 = .ok (.getfield 18, 3) := by decide +kernel
theorem dX4_forgetRow_12 : decode cX4_forgetRow 12 = .ok (.iload_n 1, 1) := by decide +kernel
theorem dX4_forgetRow_13 : decode cX4_forgetRow 13 = .ok (.iconst (-1), 1) := by decide +kernel
theorem dX4_forgetRow_14 : decode cX4_forgetRow 14 = .ok (.iastore, 1) := by decide +kernel
theorem dX4_forgetRow_15 : decode cX4_forgetRow 15 = .ok (.return_, 1) := by decide +kernel
theorem dX4_shareRow_0 : decode cX4_shareRow 0 = .ok (.iload_n 1, 1) := by decide +kernel
theorem dX4_shareRow_1 : decode cX4_shareRow 1 = .ok (.iconst 4, 1) := by decide +kernel
theorem dX4_shareRow_2 : decode cX4_shareRow 2 = .ok (.invokestatic 37, 3) := by decide +kernel
theorem dX4_shareRow_5 : decode cX4_shareRow 5 = .ok (.ifCond .eq 35, 3) := by decide +kernel
theorem dX4_shareRow_8 : decode cX4_shareRow 8 = .ok (.iload_n 2, 1) := by decide +kernel
theorem dX4_shareRow_9 : decode cX4_shareRow 9 = .ok (.iconst 4, 1) := by decide +kernel
theorem dX4_shareRow_10 : decode cX4_shareRow 10 = .ok (.invokestatic 37, 3) := by decide +kernel
theorem dX4_shareRow_13 : decode cX4_shareRow 13 = .ok (.ifCond .eq 27, 3) := by decide +kernel
theorem dX4_shareRow_16 : decode cX4_shareRow 16 = .ok (.aload_n 0, 1) := by decide +kernel
theorem dX4_shareRow_17 : decode cX4_shareRow 17 = .ok (.getfield 15, 3) := by decide +kernel
theorem dX4_shareRow_20 : decode cX4_shareRow 20 = .ok (.iload_n 1, 1) := by decide +kernel
theorem dX4_shareRow_21 : decode cX4_shareRow 21 = .ok (.aload_n 0, 1) := by decide +kernel
theorem dX4_shareRow_22 : decode cX4_shareRow 22 = .ok (.getfield 15, 3) := by decide +kernel
theorem dX4_shareRow_25 : decode cX4_shareRow 25 = .ok (.iload_n 2, 1) := by decide +kernel
theorem dX4_shareRow_26 : decode cX4_shareRow 26 = .ok (.iaload, 1) := by decide +kernel
theorem dX4_shareRow_27 : decode cX4_shareRow 27 = .ok (.iastore, 1) := by decide +kernel
theorem dX4_shareRow_28 : decode cX4_shareRow 28 = .ok (.aload_n 0, 1) := by decide +kernel
theorem dX4_shareRow_29 : decode cX4_shareRow 29 = .ok (.getfield 18, 3) := by decide +kernel
theorem dX4_shareRow_32 : decode cX4_shareRow 32 = .ok (.iload_n 1, 1) := by decide +kernel
theorem dX4_shareRow_33 : decode cX4_shareRow 33 = .ok (.aload_n 0, 1) := by decide +kernel
theorem dX4_shareRow_34 : decode cX4_shareRow 34 = .ok (.getfield 18, 3) := by decide +kernel
theorem dX4_shareRow_37 : decode cX4_shareRow 37 = .ok (.iload_n 2, 1) := by decide +kernel
theorem dX4_shareRow_38 : decode cX4_shareRow 38 = .ok (.iaload, 1) := by decide +kernel
theorem dX4_shareRow_39 : decode cX4_shareRow 39 = .ok (.iastore, 1) := by decide +kernel
theorem dX4_shareRow_40 : decode cX4_shareRow 40 = .ok (.return_, 1) := by decide +kernel
theorem dX4_load_0 : decode cX4_load 0 = .ok (.iload_n 1, 1) := by decide +kernel
theorem dX4_load_1 : decode cX4_load 1 = .ok (.iconst 4, 1) := by decide +kernel
theorem dX4_load_2 : decode cX4_load 2 = .ok (.invokestatic 37, 3) := by decide +kernel
theorem dX4_load_5 : decode cX4_load 5 = .ok (.ifCond .eq 16, 3) := by decide +kernel
theorem dX4_load_8 : decode cX4_load 8 = .ok (.iload_n 2, 1) := by decide +kernel
theorem dX4_load_9 : decode cX4_load 9 = .ok (.aload_n 0, 1) := by decide +kernel
theorem dX4_load_10 : decode cX4_load 10 = .ok (.getfield 18, 3) := by decide +kernel
theorem dX4_load_13 : decode cX4_load 13 = .ok (.iload_n 1, 1) := by decide +kernel
theorem dX4_load_14 : decode cX4_load 14 = .ok (.iaload, 1) := by decide +kernel
theorem dX4_load_15 : decode cX4_load 15 = .ok (.invokestatic 37, 3) := by decide +kernel
theorem dX4_load_18 : decode cX4_load 18 = .ok (.ifCond .ne 5, 3) := by decide +kernel
theorem dX4_load_21 : decode cX4_load 21 = .ok (.iconst 0, 1) := by decide +kernel
theorem dX4_load_22 : decode cX4_load 22 = .ok (.ireturn, 1) := by decide +kernel
theorem dX4_load_23 : decode cX4_load 23 = .ok (.aload_n 0, 1) := by decide +kernel
theorem dX4_load_24 : decode cX4_load 24 = .ok (.getfield 15, 3) := by decide +kernel
theorem dX4_load_27 : decode cX4_load 27 = .ok (.iload_n 1, 1) := by decide +kernel
theorem dX4_load_28 : decode cX4_load 28 = .ok (.iaload, 1) := by decide +kernel
theorem dX4_load_29 : decode cX4_load 29 = .ok (.iload_n 2, 1) := by decide +kernel
theorem dX4_load_30 : decode cX4_load 30 = .ok (.iadd, 1) := by decide +kernel
theorem dX4_load_31 : decode cX4_load 31 = .ok (.istore_n 3, 1) := by decide +kernel
theorem dX4_load_32 : decode cX4_load 32 = .ok (.iload_n 3, 1) := by decide +kernel
theorem dX4_load_33 : decode cX4_load 33 = .ok (.sipush 800, 3) := by decide +kernel
theorem dX4_load_36 : decode cX4_load 36 = .ok (.invokestatic 37, 3) := by decide +kernel
theorem dX4_load_39 : decode cX4_load 39 = .ok (.ifCond .eq 12, 3) := by decide +kernel
theorem dX4_load_42 : decode cX4_load 42 = .ok (.aload_n 0, 1) := by decide +kernel
theorem dX4_load_43 : decode cX4_load 43 = .ok (.getfield 21, 3) := by decide +kernel
theorem dX4_load_46 : decode cX4_load 46 = .ok (.iload_n 3, 1) := by decide +kernel
theorem dX4_load_47 : decode cX4_load 47 = .ok (.iaload, 1) := by decide +kernel
theorem dX4_load_48 : decode cX4_load 48 = .ok (.goto 4, 3) := by decide +kernel
theorem dX4_load_51 : decode cX4_load 51 = .ok (.iconst 0, 1) := by decide +kernel
theorem dX4_load_52 : decode cX4_load 52 = .ok (.ireturn, 1) := by decide +kernel
theorem dX4_store_0 : decode cX4_store 0 = .ok (.iload_n 1, 1) := by decide +kernel
theorem dX4_store_1 : decode cX4_store 1 = .ok (.iconst 4, 1) := by decide +kernel
theorem dX4_store_2 : decode cX4_store 2 = .ok (.invokestatic 37, 3) := by decide +kernel
theorem dX4_store_5 : decode cX4_store 5 = .ok (.ifCond .eq 16, 3) := by decide +kernel
theorem dX4_store_8 : decode cX4_store 8 = .ok (.iload_n 2, 1) := by decide +kernel
theorem dX4_store_9 : decode cX4_store 9 = .ok (.aload_n 0, 1) := by decide +kernel
theorem dX4_store_10 : decode cX4_store 10 = .ok (.getfield 18, 3) := by decide +kernel
theorem dX4_store_13 : decode cX4_store 13 = .ok (.iload_n 1, 1) := by decide +kernel
theorem dX4_store_14 : decode cX4_store 14 = .ok (.iaload, 1) := by decide +kernel
theorem dX4_store_15 : decode cX4_store 15 = .ok (.invokestatic 37, 3) := by decide +kernel
theorem dX4_store_18 : decode cX4_store 18 = .ok (.ifCond .ne 4, 3) := by decide +kernel
theorem dX4_store_21 : decode cX4_store 21 = .ok (.return_, 1) := by decide +kernel
theorem dX4_store_22 : decode cX4_store 22 = .ok (.aload_n 0, 1) := by decide +kernel
theorem dX4_store_23 : decode cX4_store 23 = .ok (.getfield 15, 3) := by decide +kernel
theorem dX4_store_26 : decode cX4_store 26 = .ok (.iload_n 1, 1) := by decide +kernel
theorem dX4_store_27 : decode cX4_store 27 = .ok (.iaload, 1) := by decide +kernel
theorem dX4_store_28 : decode cX4_store 28 = .ok (.iload_n 2, 1) := by decide +kernel
theorem dX4_store_29 : decode cX4_store 29 = .ok (.iadd, 1) := by decide +kernel
theorem dX4_store_30 : decode cX4_store 30 = .ok (.istore 4, 2) := by decide +kernel
theorem dX4_store_32 : decode cX4_store 32 = .ok (.iload 4, 2) := by decide +kernel
theorem dX4_store_34 : decode cX4_store 34 = .ok (.sipush 800, 3) := by decide +kernel
theorem dX4_store_37 : decode cX4_store 37 = .ok (.invokestatic 37, 3) := by decide +kernel
theorem dX4_store_40 : decode cX4_store 40 = .ok (.ifCond .eq 11, 3) := by decide +kernel
theorem dX4_store_43 : decode cX4_store 43 = .ok (.aload_n 0, 1) := by decide +kernel
theorem dX4_store_44 : decode cX4_store 44 = .ok (.getfield 21, 3) := by decide +kernel
theorem dX4_store_47 : decode cX4_store 47 = .ok (.iload 4, 2) := by decide +kernel
theorem dX4_store_49 : decode cX4_store 49 = .ok (.iload_n 3, 1) := by decide +kernel
theorem dX4_store_50 : decode cX4_store 50 = .ok (.iastore, 1) := by decide +kernel
theorem dX4_store_51 : decode cX4_store 51 = .ok (.return_, 1) := by decide +kernel
theorem dX4_equalTo_0 : decode cX4_equalTo 0 = .ok (.aload_n 1, 1) := by decide +kernel
theorem dX4_equalTo_1 : decode cX4_equalTo 1 = .ok (.ifnull 14, 3) := by decide +kernel
theorem dX4_equalTo_4 : decode cX4_equalTo 4 = .ok (.aload_n 0, 1) := by decide +kernel
theorem dX4_equalTo_5 : decode cX4_equalTo 5 = .ok (.getfield 34, 3) := by decide +kernel
theorem dX4_equalTo_8 : decode cX4_equalTo 8 = .ok (.aload_n 1, 1) := by decide +kernel
theorem dX4_equalTo_9 : decode cX4_equalTo 9 = .ok (.getfield 34, 3) := by decide +kernel
theorem dX4_equalTo_12 : decode cX4_equalTo 12 = .ok (.if_icmp .eq 5, 3) := by decide +kernel
theorem dX4_equalTo_15 : decode cX4_equalTo 15 = .ok (.iconst 0, 1) := by decide +kernel
theorem dX4_equalTo_16 : decode cX4_equalTo 16 = .ok (.ireturn, 1) := by decide +kernel
theorem dX4_equalTo_17 : decode cX4_equalTo 17 = .ok (.iconst 0, 1) := by decide +kernel
theorem dX4_equalTo_18 : decode cX4_equalTo 18 = .ok (.istore_n 2, 1) := by decide +kernel
theorem dX4_equalTo_19 : decode cX4_equalTo 19 = .ok (.iload_n 2, 1) := by decide +kernel
theorem dX4_equalTo_20 : decode cX4_equalTo 20 = .ok (.bipush 8, 2) := by decide +kernel
theorem dX4_equalTo_22 : decode cX4_equalTo 22 = .ok (.if_icmp .ge 26, 3) := by decide +kernel
theorem dX4_equalTo_25 : decode cX4_equalTo 25 = .ok (.aload_n 0, 1) := by decide +kernel
theorem dX4_equalTo_26 : decode cX4_equalTo 26 = .ok (.getfield 9, 3) := by decide +kernel
theorem dX4_equalTo_29 : decode cX4_equalTo 29 = .ok (.iload_n 2, 1) := by decide +kernel
theorem dX4_equalTo_30 : decode cX4_equalTo 30 = .ok (.iaload, 1) := by decide +kernel
theorem dX4_equalTo_31 : decode cX4_equalTo 31 = .ok (.aload_n 1, 1) := by decide +kernel
theorem dX4_equalTo_32 : decode cX4_equalTo 32 = .ok (.getfield 9, 3) := by decide +kernel
theorem dX4_equalTo_35 : decode cX4_equalTo 35 = .ok (.iload_n 2, 1) := by decide +kernel
theorem dX4_equalTo_36 : decode cX4_equalTo 36 = .ok (.iaload, 1) := by decide +kernel
theorem dX4_equalTo_37 : decode cX4_equalTo 37 = .ok (.if_icmp .eq 5, 3) := by decide +kernel
theorem dX4_equalTo_40 : decode cX4_equalTo 40 = .ok (.iconst 0, 1) := by decide +kernel
theorem dX4_equalTo_41 : decode cX4_equalTo 41 = .ok (.ireturn, 1) := by decide +kernel
theorem dX4_equalTo_42 : decode cX4_equalTo 42 = .ok (.iinc 2 1, 3) := by decide +kernel
theorem dX4_equalTo_45 : decode cX4_equalTo 45 = .ok (.goto (-26), 3) := by decide +kernel
theorem dX4_equalTo_48 : decode cX4_equalTo 48 = .ok (.iconst 0, 1) := by decide +kernel
theorem dX4_equalTo_49 : decode cX4_equalTo 49 = .ok (.istore_n 2, 1) := by decide +kernel
theorem dX4_equalTo_50 : decode cX4_equalTo 50 = .ok (.iload_n 2, 1) := by decide +kernel
theorem dX4_equalTo_51 : decode cX4_equalTo 51 = .ok (.iconst 4, 1) := by decide +kernel
theorem dX4_equalTo_52 : decode cX4_equalTo 52 = .ok (.if_icmp .ge 20, 3) := by decide +kernel
theorem dX4_equalTo_55 : decode cX4_equalTo 55 = .ok (.aload_n 0, 1) := by decide +kernel
theorem dX4_equalTo_56 : decode cX4_equalTo 56 = .ok (.aload_n 1, 1) := by decide +kernel
theorem dX4_equalTo_57 : decode cX4_equalTo 57 = .ok (.iload_n 2, 1) := by decide +kernel
theorem dX4_equalTo_58 : decode cX4_equalTo 58 = .ok (.invokevirtual 41, 3) := by decide +kernel
theorem dX4_equalTo_61 : decode cX4_equalTo 61 = .ok (.ifCond .ne 5, 3) := by decide +kernel
theorem dX4_equalTo_64 : decode cX4_equalTo 64 = .ok (.iconst 0, 1) := by decide +kernel
theorem dX4_equalTo_65 : decode cX4_equalTo 65 = .ok (.ireturn, 1) := by decide +kernel
theorem dX4_equalTo_66 : decode cX4_equalTo 66 = .ok (.iinc 2 1, 3) := by decide +kernel
theorem dX4_equalTo_69 : decode cX4_equalTo 69 = .ok (.goto (-19), 3) := by decide +kernel
theorem dX4_equalTo_72 : decode cX4_equalTo 72 = .ok (.iconst 1, 1) := by decide +kernel
theorem dX4_equalTo_73 : decode cX4_equalTo 73 = .ok (.ireturn, 1) := by decide +kernel
theorem dX4_rowEqualTo_0 : decode cX4_rowEqualTo 0 = .ok (.aload_n 0, 1) := by decide +kernel
theorem dX4_rowEqualTo_1 : decode cX4_rowEqualTo 1 = .ok (.iload_n 2, 1) := by decide +kernel
theorem dX4_rowEqualTo_2 : decode cX4_rowEqualTo 2 = .ok (.invokevirtual 45, 3) := by decide +kernel
theorem dX4_rowEqualTo_5 : decode cX4_rowEqualTo 5 = .ok (.istore_n 3, 1) := by decide +kernel
theorem dX4_rowEqualTo_6 : decode cX4_rowEqualTo 6 = .ok (.iload_n 3, 1) := by decide +kernel
theorem dX4_rowEqualTo_7 : decode cX4_rowEqualTo 7 = .ok (.aload_n 1, 1) := by decide +kernel
theorem dX4_rowEqualTo_8 : decode cX4_rowEqualTo 8 = .ok (.iload_n 2, 1) := by decide +kernel
theorem dX4_rowEqualTo_9 : decode cX4_rowEqualTo 9 = .ok (.invokevirtual 45, 3) := by decide +kernel
theorem dX4_rowEqualTo_12 : decode cX4_rowEqualTo 12 = .ok (.if_icmp .eq 5, 3) := by decide +kernel
theorem dX4_rowEqualTo_15 : decode cX4_rowEqualTo 15 = .ok (.iconst 0, 1) := by decide +kernel
theorem dX4_rowEqualTo_16 : decode cX4_rowEqualTo 16 = .ok (.ireturn, 1) := by decide +kernel
theorem dX4_rowEqualTo_17 : decode cX4_rowEqualTo 17 = .ok (.iconst 0, 1) := by decide +kernel
theorem dX4_rowEqualTo_18 : decode cX4_rowEqualTo 18 = .ok (.istore 4, 2) := by decide +kernel
theorem dX4_rowEqualTo_20 : decode cX4_rowEqualTo 20 = .ok (.iload 4, 2) := by decide +kernel
theorem dX4_rowEqualTo_22 : decode cX4_rowEqualTo 22 = .ok (.iload_n 3, 1) := by decide +kernel
theorem dX4_rowEqualTo_23 : decode cX4_rowEqualTo 23 = .ok (.if_icmp .ge 28, 3) := by decide +kernel
theorem dX4_rowEqualTo_26 : decode cX4_rowEqualTo 26 = .ok (.aload_n 0, 1) := by decide +kernel
theorem dX4_rowEqualTo_27 : decode cX4_rowEqualTo 27 = .ok (.iload_n 2, 1) := by decide +kernel
theorem dX4_rowEqualTo_28 : decode cX4_rowEqualTo 28 = .ok (.iload 4, 2) := by decide +kernel
theorem dX4_rowEqualTo_30 : decode cX4_rowEqualTo 30 = .ok (.invokevirtual 49, 3) := by decide +kernel
theorem dX4_rowEqualTo_33 : decode cX4_rowEqualTo 33 = .ok (.aload_n 1, 1) := by decide +kernel
theorem dX4_rowEqualTo_34 : decode cX4_rowEqualTo 34 = .ok (.iload_n 2, 1) := by decide +kernel
theorem dX4_rowEqualTo_35 : decode cX4_rowEqualTo 35 = .ok (.iload 4, 2) := by decide +kernel
theorem dX4_rowEqualTo_37 : decode cX4_rowEqualTo 37 = .ok (.invokevirtual 49, 3) := by decide +kernel
theorem dX4_rowEqualTo_40 : decode cX4_rowEqualTo 40 = .ok (.if_icmp .eq 5, 3) := by decide +kernel
theorem dX4_rowEqualTo_43 : decode cX4_rowEqualTo 43 = .ok (.iconst 0, 1) := by decide +kernel
theorem dX4_rowEqualTo_44 : decode cX4_rowEqualTo 44 = .ok (.ireturn, 1) := by decide +kernel
theorem dX4_rowEqualTo_45 : decode cX4_rowEqualTo 45 = .ok (.iinc 4 1, 3) := by decide +kernel
theorem dX4_rowEqualTo_48 : decode cX4_rowEqualTo 48 = .ok (.goto (-28), 3) := by decide +kernel
theorem dX4_rowEqualTo_51 : decode cX4_rowEqualTo 51 = .ok (.iconst 1, 1) := by decide +kernel
theorem dX4_rowEqualTo_52 : decode cX4_rowEqualTo 52 = .ok (.ireturn, 1) := by decide +kernel
theorem dX5_statements_0 : decode cX5_statements 0 = .ok (.aload_n 0, 1) := by decide +kernel
theorem dX5_statements_1 : decode cX5_statements 1 = .ok (.getfield 36, 3) := by decide +kernel
theorem dX5_statements_4 : decode cX5_statements 4 = .ok (.ireturn, 1) := by decide +kernel
theorem dX5_bodies_0 : decode cX5_bodies 0 = .ok (.iconst 0, 1) := by decide +kernel
theorem dX5_bodies_1 : decode cX5_bodies 1 = .ok (.istore_n 1, 1) := by decide +kernel
theorem dX5_bodies_2 : decode cX5_bodies 2 = .ok (.iconst 0, 1) := by decide +kernel
theorem dX5_bodies_3 : decode cX5_bodies 3 = .ok (.istore_n 2, 1) := by decide +kernel
theorem dX5_bodies_4 : decode cX5_bodies 4 = .ok (.iload_n 2, 1) := by decide +kernel
theorem dX5_bodies_5 : decode cX5_bodies 5 = .ok (.bipush 8, 2) := by decide +kernel
theorem dX5_bodies_7 : decode cX5_bodies 7 = .ok (.if_icmp .ge 22, 3) := by decide +kernel
theorem dX5_bodies_10 : decode cX5_bodies 10 = .ok (.aload_n 0, 1) := by decide +kernel
theorem dX5_bodies_11 : decode cX5_bodies 11 = .ok (.getfield 27, 3) := by decide +kernel
theorem dX5_bodies_14 : decode cX5_bodies 14 = .ok (.iload_n 2, 1) := by decide +kernel
theorem dX5_bodies_15 : decode cX5_bodies 15 = .ok (.iaload, 1) := by decide +kernel
theorem dX5_bodies_16 : decode cX5_bodies 16 = .ok (.iconst (-1), 1) := by decide +kernel
theorem dX5_bodies_17 : decode cX5_bodies 17 = .ok (.if_icmp .eq 6, 3) := by decide +kernel
theorem dX5_bodies_20 : decode cX5_bodies 20 = .ok (.iinc 1 1, 3) := by decide +kernel
theorem dX5_bodies_23 : decode cX5_bodies 23 = .ok (.iinc 2 1, 3) := by decide +kernel
theorem dX5_bodies_26 : decode cX5_bodies 26 = .ok (.goto (-22), 3) := by decide +kernel
theorem dX5_bodies_29 : decode cX5_bodies 29 = .ok (.iload_n 1, 1) := by decide +kernel
theorem dX5_bodies_30 : decode cX5_bodies 30 = .ok (.ireturn, 1) := by decide +kernel
theorem dX5_isFull_0 : decode cX5_isFull 0 = .ok (.aload_n 0, 1) := by decide +kernel
theorem dX5_isFull_1 : decode cX5_isFull 1 = .ok (.getfield 36, 3) := by decide +kernel
theorem dX5_isFull_4 : decode cX5_isFull 4 = .ok (.bipush 120, 2) := by decide +kernel
theorem dX5_isFull_6 : decode cX5_isFull 6 = .ok (.if_icmp .lt 7, 3) := by decide +kernel
theorem dX5_isFull_9 : decode cX5_isFull 9 = .ok (.iconst 1, 1) := by decide +kernel
theorem dX5_isFull_10 : decode cX5_isFull 10 = .ok (.goto 4, 3) := by decide +kernel
theorem dX5_isFull_13 : decode cX5_isFull 13 = .ok (.iconst 0, 1) := by decide +kernel
theorem dX5_isFull_14 : decode cX5_isFull 14 = .ok (.ireturn, 1) := by decide +kernel
theorem dX5_has_0 : decode cX5_has 0 = .ok (.iload_n 1, 1) := by decide +kernel
theorem dX5_has_1 : decode cX5_has 1 = .ok (.aload_n 0, 1) := by decide +kernel
theorem dX5_has_2 : decode cX5_has 2 = .ok (.getfield 36, 3) := by decide +kernel
theorem dX5_has_5 : decode cX5_has 5 = .ok (.invokestatic 40, 3) := by decide +kernel
theorem dX5_has_8 : decode cX5_has 8 = .ok (.ireturn, 1) := by decide +kernel
theorem dX5_sortOf_0 : decode cX5_sortOf 0 = .ok (.aload_n 0, 1) := by decide +kernel
theorem dX5_sortOf_1 : decode cX5_sortOf 1 = .ok (.iload_n 1, 1) := by decide +kernel
theorem dX5_sortOf_2 : decode cX5_sortOf 2 = .ok (.invokevirtual 44, 3) := by decide +kernel
theorem dX5_sortOf_5 : decode cX5_sortOf 5 = .ok (.ifCond .eq 12, 3) := by decide +kernel
theorem dX5_sortOf_8 : decode cX5_sortOf 8 = .ok (.aload_n 0, 1) := by decide +kernel
theorem dX5_sortOf_9 : decode cX5_sortOf 9 = .ok (.getfield 9, 3) := by decide +kernel
theorem dX5_sortOf_12 : decode cX5_sortOf 12 = .ok (.iload_n 1, 1) := by decide +kernel
theorem dX5_sortOf_13 : decode cX5_sortOf 13 = .ok (.iaload, 1) := by decide +kernel
theorem dX5_sortOf_14 : decode cX5_sortOf 14 = .ok (.goto 4, 3) := by decide +kernel
theorem dX5_sortOf_17 : decode cX5_sortOf 17 = .ok (.iconst (-1), 1) := by decide +kernel
theorem dX5_sortOf_18 : decode cX5_sortOf 18 = .ok (.ireturn, 1) := by decide +kernel
theorem dX5_firstOf_0 : decode cX5_firstOf 0 = .ok (.aload_n 0, 1) := by decide +kernel
theorem dX5_firstOf_1 : decode cX5_firstOf 1 = .ok (.iload_n 1, 1) := by decide +kernel
theorem dX5_firstOf_2 : decode cX5_firstOf 2 = .ok (.invokevirtual 44, 3) := by decide +kernel
theorem dX5_firstOf_5 : decode cX5_firstOf 5 = .ok (.ifCond .eq 12, 3) := by decide +kernel
theorem dX5_firstOf_8 : decode cX5_firstOf 8 = .ok (.aload_n 0, 1) := by decide +kernel
theorem dX5_firstOf_9 : decode cX5_firstOf 9 = .ok (.getfield 15, 3) := by decide +kernel
theorem dX5_firstOf_12 : decode cX5_firstOf 12 = .ok (.iload_n 1, 1) := by decide +kernel
theorem dX5_firstOf_13 : decode cX5_firstOf 13 = .ok (.iaload, 1) := by decide +kernel
theorem dX5_firstOf_14 : decode cX5_firstOf 14 = .ok (.goto 4, 3) := by decide +kernel
theorem dX5_firstOf_17 : decode cX5_firstOf 17 = .ok (.iconst (-1), 1) := by decide +kernel
theorem dX5_firstOf_18 : decode cX5_firstOf 18 = .ok (.ireturn, 1) := by decide +kernel
theorem dX5_secondOf_0 : decode cX5_secondOf 0 = .ok (.aload_n 0, 1) := by decide +kernel
theorem dX5_secondOf_1 : decode cX5_secondOf 1 = .ok (.iload_n 1, 1) := by decide +kernel
theorem dX5_secondOf_2 : decode cX5_secondOf 2 = .ok (.invokevirtual 44, 3) := by decide +kernel
theorem dX5_secondOf_5 : decode cX5_secondOf 5 = .ok (.ifCond .eq 12, 3) := by decide +kernel
theorem dX5_secondOf_8 : decode cX5_secondOf 8 = .ok (.aload_n 0, 1) := by decide +kernel
theorem dX5_secondOf_9 : decode cX5_secondOf 9 = .ok (.getfield 18, 3) := by decide +kernel
theorem dX5_secondOf_12 : decode cX5_secondOf 12 = .ok (.iload_n 1, 1) := by decide +kernel
theorem dX5_secondOf_13 : decode cX5_secondOf 13 = .ok (.iaload, 1) := by decide +kernel
theorem dX5_secondOf_14 : decode cX5_secondOf 14 = .ok (.goto 4, 3) := by decide +kernel
theorem dX5_secondOf_17 : decode cX5_secondOf 17 = .ok (.iconst (-1), 1) := by decide +kernel
theorem dX5_secondOf_18 : decode cX5_secondOf 18 = .ok (.ireturn, 1) := by decide +kernel
theorem dX5_thirdOf_0 : decode cX5_thirdOf 0 = .ok (.aload_n 0, 1) := by decide +kernel
theorem dX5_thirdOf_1 : decode cX5_thirdOf 1 = .ok (.iload_n 1, 1) := by decide +kernel
theorem dX5_thirdOf_2 : decode cX5_thirdOf 2 = .ok (.invokevirtual 44, 3) := by decide +kernel
theorem dX5_thirdOf_5 : decode cX5_thirdOf 5 = .ok (.ifCond .eq 12, 3) := by decide +kernel
theorem dX5_thirdOf_8 : decode cX5_thirdOf 8 = .ok (.aload_n 0, 1) := by decide +kernel
theorem dX5_thirdOf_9 : decode cX5_thirdOf 9 = .ok (.getfield 21, 3) := by decide +kernel
theorem dX5_thirdOf_12 : decode cX5_thirdOf 12 = .ok (.iload_n 1, 1) := by decide +kernel
theorem dX5_thirdOf_13 : decode cX5_thirdOf 13 = .ok (.iaload, 1) := by decide +kernel
theorem dX5_thirdOf_14 : decode cX5_thirdOf 14 = .ok (.goto 4, 3) := by decide +kernel
theorem dX5_thirdOf_17 : decode cX5_thirdOf 17 = .ok (.iconst (-1), 1) := by decide +kernel
theorem dX5_thirdOf_18 : decode cX5_thirdOf 18 = .ok (.ireturn, 1) := by decide +kernel
theorem dX5_bodyOf_0 : decode cX5_bodyOf 0 = .ok (.iload_n 1, 1) := by decide +kernel
theorem dX5_bodyOf_1 : decode cX5_bodyOf 1 = .ok (.bipush 8, 2) := by decide +kernel
theorem dX5_bodyOf_3 : decode cX5_bodyOf 3 = .ok (.invokestatic 40, 3) := by decide +kernel
theorem dX5_bodyOf_6 : decode cX5_bodyOf 6 = .ok (.ifCond .eq 12, 3) := by decide +kernel
theorem dX5_bodyOf_9 : decode cX5_bodyOf 9 = .ok (.aload_n 0, 1) := by decide +kernel
theorem dX5_bodyOf_10 : decode cX5_bodyOf 10 = .ok (.getfield 27, 3) := by decide +kernel
theorem dX5_bodyOf_13 : decode cX5_bodyOf 13 = .ok (.iload_n 1, 1) := by decide +kernel
theorem dX5_bodyOf_14 : decode cX5_bodyOf 14 = .ok (.iaload, 1) := by decide +kernel
theorem dX5_bodyOf_15 : decode cX5_bodyOf 15 = .ok (.goto 4, 3) := by decide +kernel
theorem dX5_bodyOf_18 : decode cX5_bodyOf 18 = .ok (.iconst (-1), 1) := by decide +kernel
theorem dX5_bodyOf_19 : decode cX5_bodyOf 19 = .ok (.ireturn, 1) := by decide +kernel
theorem dX5_setBody_0 : decode cX5_setBody 0 = .ok (.iload_n 1, 1) := by decide +kernel
theorem dX5_setBody_1 : decode cX5_setBody 1 = .ok (.bipush 8, 2) := by decide +kernel
theorem dX5_setBody_3 : decode cX5_setBody 3 = .ok (.invokestatic 40, 3) := by decide +kernel
theorem dX5_setBody_6 : decode cX5_setBody 6 = .ok (.ifCond .eq 10, 3) := by decide +kernel
theorem dX5_setBody_9 : decode cX5_setBody 9 = .ok (.aload_n 0, 1) := by decide +kernel
theorem dX5_setBody_10 : decode cX5_setBody 10 = .ok (.getfield 27, 3) := by decide +kernel
theorem dX5_setBody_13 : decode cX5_setBody 13 = .ok (.iload_n 1, 1) := by decide +kernel
theorem dX5_setBody_14 : decode cX5_setBody 14 = .ok (.iload_n 2, 1) := by decide +kernel
theorem dX5_setBody_15 : decode cX5_setBody 15 = .ok (.iastore, 1) := by decide +kernel
theorem dX5_setBody_16 : decode cX5_setBody 16 = .ok (.return_, 1) := by decide +kernel
theorem dX5_takes_0 : decode cX5_takes 0 = .ok (.aload_n 0, 1) := by decide +kernel
theorem dX5_takes_1 : decode cX5_takes 1 = .ok (.iload_n 1, 1) := by decide +kernel
theorem dX5_takes_2 : decode cX5_takes 2 = .ok (.iload_n 2, 1) := by decide +kernel
theorem dX5_takes_3 : decode cX5_takes 3 = .ok (.iload_n 3, 1) := by decide +kernel
theorem dX5_takes_4 : decode cX5_takes 4 = .ok (.iload 4, 2) := by decide +kernel
theorem dX5_takes_6 : decode cX5_takes 6 = .ok (.invokevirtual 48, 3) := by decide +kernel
theorem dX5_takes_9 : decode cX5_takes 9 = .ok (.ifCond .eq 21, 3) := by decide +kernel
theorem dX5_takes_12 : decode cX5_takes 12 = .ok (.aload_n 0, 1) := by decide +kernel
theorem dX5_takes_13 : decode cX5_takes 13 = .ok (.iload_n 1, 1) := by decide +kernel
theorem dX5_takes_14 : decode cX5_takes 14 = .ok (.iload_n 2, 1) := by decide +kernel
theorem dX5_takes_15 : decode cX5_takes 15 = .ok (.iload_n 3, 1) := by decide +kernel
theorem dX5_takes_16 : decode cX5_takes 16 = .ok (.iload 4, 2) := by decide +kernel
theorem dX5_takes_18 : decode cX5_takes 18 = .ok (.invokevirtual 52, 3) := by decide +kernel
theorem dX5_takes_21 : decode cX5_takes 21 = .ok (.bipush 16, 2) := by decide +kernel
theorem dX5_takes_23 : decode cX5_takes 23 = .ok (.if_icmp .gt 7, 3) := by decide +kernel
theorem dX5_takes_26 : decode cX5_takes 26 = .ok (.iconst 1, 1) := by decide +kernel
theorem dX5_takes_27 : decode cX5_takes 27 = .ok (.goto 4, 3) := by decide +kernel
theorem dX5_takes_30 : decode cX5_takes 30 = .ok (.iconst 0, 1) := by decide +kernel
theorem dX5_takes_31 : decode cX5_takes 31 = .ok (.ireturn, 1) := by decide +kernel
theorem dX5_add_0 : decode cX5_add 0 = .ok (.aload_n 0, 1) := by decide +kernel
theorem dX5_add_1 : decode cX5_add 1 = .ok (.invokevirtual 56, 3) := by decide +kernel
theorem dX5_add_4 : decode cX5_add 4 = .ok (.ifCond .eq 6, 3) := by decide +kernel
theorem dX5_add_7 : decode cX5_add 7 = .ok (.bipush (-3), 2) := by decide +kernel
theorem dX5_add_9 : decode cX5_add 9 = .ok (.ireturn, 1) := by decide +kernel
theorem dX5_add_10 : decode cX5_add 10 = .ok (.aload_n 0, 1) := by decide +kernel
theorem dX5_add_11 : decode cX5_add 11 = .ok (.getfield 9, 3) := by decide +kernel
theorem dX5_add_14 : decode cX5_add 14 = .ok (.aload_n 0, 1) := by decide +kernel
theorem dX5_add_15 : decode cX5_add 15 = .ok (.getfield 36, 3) := by decide +kernel
theorem dX5_add_18 : decode cX5_add 18 = .ok (.iload_n 1, 1) := by decide +kernel
theorem dX5_add_19 : decode cX5_add 19 = .ok (.iastore, 1) := by decide +kernel
theorem dX5_add_20 : decode cX5_add 20 = .ok (.aload_n 0, 1) := by decide +kernel
theorem dX5_add_21 : decode cX5_add 21 = .ok (.getfield 15, 3) := by decide +kernel
theorem dX5_add_24 : decode cX5_add 24 = .ok (.aload_n 0, 1) := by decide +kernel
theorem dX5_add_25 : decode cX5_add 25 = .ok (.getfield 36, 3) := by decide +kernel
theorem dX5_add_28 : decode cX5_add 28 = .ok (.iload_n 2, 1) := by decide +kernel
theorem dX5_add_29 : decode cX5_add 29 = .ok (.iastore, 1) := by decide +kernel
theorem dX5_add_30 : decode cX5_add 30 = .ok (.aload_n 0, 1) := by decide +kernel
theorem dX5_add_31 : decode cX5_add 31 = .ok (.getfield 18, 3) := by decide +kernel
theorem dX5_add_34 : decode cX5_add 34 = .ok (.aload_n 0, 1) := by decide +kernel
theorem dX5_add_35 : decode cX5_add 35 = .ok (.getfield 36, 3) := by decide +kernel
theorem dX5_add_38 : decode cX5_add 38 = .ok (.iload_n 3, 1) := by decide +kernel
theorem dX5_add_39 : decode cX5_add 39 = .ok (.iastore, 1) := by decide +kernel
theorem dX5_add_40 : decode cX5_add 40 = .ok (.aload_n 0, 1) := by decide +kernel
theorem dX5_add_41 : decode cX5_add 41 = .ok (.getfield 21, 3) := by decide +kernel
theorem dX5_add_44 : decode cX5_add 44 = .ok (.aload_n 0, 1) := by decide +kernel
theorem dX5_add_45 : decode cX5_add 45 = .ok (.getfield 36, 3) := by decide +kernel
theorem dX5_add_48 : decode cX5_add 48 = .ok (.iload 4, 2) := by decide +kernel
theorem dX5_add_50 : decode cX5_add 50 = .ok (.iastore, 1) := by decide +kernel
theorem dX5_add_51 : decode cX5_add 51 = .ok (.aload_n 0, 1) := by decide +kernel
theorem dX5_add_52 : decode cX5_add 52 = .ok (.getfield 24, 3) := by decide +kernel
theorem dX5_add_55 : decode cX5_add 55 = .ok (.aload_n 0, 1) := by decide +kernel
theorem dX5_add_56 : decode cX5_add 56 = .ok (.getfield 36, 3) := by decide +kernel
theorem dX5_add_59 : decode cX5_add 59 = .ok (.aload_n 0, 1) := by decide +kernel
theorem dX5_add_60 : decode cX5_add 60 = .ok (.iload_n 1, 1) := by decide +kernel
theorem dX5_add_61 : decode cX5_add 61 = .ok (.iload_n 2, 1) := by decide +kernel
theorem dX5_add_62 : decode cX5_add 62 = .ok (.iload_n 3, 1) := by decide +kernel
theorem dX5_add_63 : decode cX5_add 63 = .ok (.iload 4, 2) := by decide +kernel
theorem dX5_add_65 : decode cX5_add 65 = .ok (.invokevirtual 52, 3) := by decide +kernel
theorem dX5_add_68 : decode cX5_add 68 = .ok (.iastore, 1) := by decide +kernel
theorem dX5_add_69 : decode cX5_add 69 = .ok (.aload_n 0, 1) := by decide +kernel
theorem dX5_add_70 : decode cX5_add 70 = .ok (.dup, 1) := by decide +kernel
theorem dX5_add_71 : decode cX5_add 71 = .ok (.getfield 36, 3) := by decide +kernel
theorem dX5_add_74 : decode cX5_add 74 = .ok (.iconst 1, 1) := by decide +kernel
theorem dX5_add_75 : decode cX5_add 75 = .ok (.iadd, 1) := by decide +kernel
theorem dX5_add_76 : decode cX5_add 76 = .ok (.putfield 36, 3) := by decide +kernel
theorem dX5_add_79 : decode cX5_add 79 = .ok (.aload_n 0, 1) := by decide +kernel
theorem dX5_add_80 : decode cX5_add 80 = .ok (.getfield 36, 3) := by decide +kernel
theorem dX5_add_83 : decode cX5_add 83 = .ok (.iconst 1, 1) := by decide +kernel
theorem dX5_add_84 : decode cX5_add 84 = .ok (.isub, 1) := by decide +kernel
theorem dX5_add_85 : decode cX5_add 85 = .ok (.ireturn, 1) := by decide +kernel
theorem dX5_canLoseLast_0 : decode cX5_canLoseLast 0 = .ok (.aload_n 0, 1) := by decide +kernel
theorem dX5_canLoseLast_1 : decode cX5_canLoseLast 1 = .ok (.getfield 36, 3) := by decide +kernel
theorem dX5_canLoseLast_4 : decode cX5_canLoseLast 4 = .ok (.ifCond .ne 5, 3) := by decide +kernel
theorem dX5_canLoseLast_7 : decode cX5_canLoseLast 7 = .ok (.iconst 0, 1) := by decide +kernel
theorem dX5_canLoseLast_8 : decode cX5_canLoseLast 8 = .ok (.ireturn, 1) := by decide +kernel
theorem dX5_canLoseLast_9 : decode cX5_canLoseLast 9 = .ok (.iconst 0, 1) := by decide +kernel
theorem dX5_canLoseLast_10 : decode cX5_canLoseLast 10 = .ok (.istore_n 1, 1) := by decide +kernel
theorem dX5_canLoseLast_11 : decode cX5_canLoseLast 11 = .ok (.iload_n 1, 1) := by decide +kernel
theorem dX5_canLoseLast_12 : decode cX5_canLoseLast 12 = .ok (.bipush 8, 2) := by decide +kernel
theorem dX5_canLoseLast_14 : decode cX5_canLoseLast 14 = .ok (.if_icmp .ge 26, 3) := by decide +kernel
theorem dX5_canLoseLast_17 : decode cX5_canLoseLast 17 = .ok (.aload_n 0, 1) := by decide +kernel
theorem dX5_canLoseLast_18 : decode cX5_canLoseLast 18 = .ok (.getfield 27, 3) := by decide +kernel
theorem dX5_canLoseLast_21 : decode cX5_canLoseLast 21 = .ok (.iload_n 1, 1) := by decide +kernel
theorem dX5_canLoseLast_22 : decode cX5_canLoseLast 22 = .ok (.iaload, 1) := by decide +kernel
theorem dX5_canLoseLast_23 : decode cX5_canLoseLast 23 = .ok (.aload_n 0, 1) := by decide +kernel
theorem dX5_canLoseLast_24 : decode cX5_canLoseLast 24 = .ok (.getfield 36, 3) := by decide +kernel
theorem dX5_canLoseLast_27 : decode cX5_canLoseLast 27 = .ok (.iconst 1, 1) := by decide +kernel
theorem dX5_canLoseLast_28 : decode cX5_canLoseLast 28 = .ok (.isub, 1) := by decide +kernel
theorem dX5_canLoseLast_29 : decode cX5_canLoseLast 29 = .ok (.if_icmp .ne 5, 3) := by decide +kernel
theorem dX5_canLoseLast_32 : decode cX5_canLoseLast 32 = .ok (.iconst 0, 1) := by decide +kernel
theorem dX5_canLoseLast_33 : decode cX5_canLoseLast 33 = .ok (.ireturn, 1) := by decide +kernel
theorem dX5_canLoseLast_34 : decode cX5_canLoseLast 34 = .ok (.iinc 1 1, 3) := by decide +kernel
theorem dX5_canLoseLast_37 : decode cX5_canLoseLast 37 = .ok (.goto (-26), 3) := by decide +kernel
theorem dX5_canLoseLast_40 : decode cX5_canLoseLast 40 = .ok (.iconst 1, 1) := by decide +kernel
theorem dX5_canLoseLast_41 : decode cX5_canLoseLast 41 = .ok (.ireturn, 1) := by decide +kernel
theorem dX5_loseLast_0 : decode cX5_loseLast 0 = .ok (.aload_n 0, 1) := by decide +kernel
theorem dX5_loseLast_1 : decode cX5_loseLast 1 = .ok (.iconst 0, 1) := by decide +kernel
theorem dX5_loseLast_2 : decode cX5_loseLast 2 = .ok (.aload_n 0, 1) := by decide +kernel
theorem dX5_loseLast_3 : decode cX5_loseLast 3 = .ok (.getfield 36, 3) := by decide +kernel
theorem dX5_loseLast_6 : decode cX5_loseLast 6 = .ok (.iconst 1, 1) := by decide +kernel
theorem dX5_loseLast_7 : decode cX5_loseLast 7 = .ok (.isub, 1) := by decide +kernel
theorem dX5_loseLast_8 : decode cX5_loseLast 8 = .ok (.invokestatic 60, 3) := by decide +kernel
theorem dX5_loseLast_11 : decode cX5_loseLast 11 = .ok (.putfield 36, 3) := by decide +kernel
theorem dX5_loseLast_14 : decode cX5_loseLast 14 = .ok (.aload_n 0, 1) := by decide +kernel
theorem dX5_loseLast_15 : decode cX5_loseLast 15 = .ok (.getfield 36, 3) := by decide +kernel
theorem dX5_loseLast_18 : decode cX5_loseLast 18 = .ok (.ireturn, 1) := by decide +kernel
theorem dX5_operandsFit_0 : decode cX5_operandsFit 0 = .ok (.iload_n 1, 1) := by decide +kernel
theorem dX5_operandsFit_1 : decode cX5_operandsFit 1 = .ok (.tableswitch 392 0 21 #[103, 108, 108, 108, 108, 108, 136, 156, 184, 212, 232, 237, 257, 279, 309, 330, 103, 103, 337, 257, 370, 103], 103) := by decide +kernel
theorem dX5_operandsFit_104 : decode cX5_operandsFit 104 = .ok (.iload_n 2, 1) := by decide +kernel
theorem dX5_operandsFit_105 : decode cX5_operandsFit 105 = .ok (.invokestatic 66, 3) := by decide +kernel
theorem dX5_operandsFit_108 : decode cX5_operandsFit 108 = .ok (.ireturn, 1) := by decide +kernel
theorem dX5_operandsFit_109 : decode cX5_operandsFit 109 = .ok (.iload_n 2, 1) := by decide +kernel
theorem dX5_operandsFit_110 : decode cX5_operandsFit 110 = .ok (.invokestatic 66, 3) := by decide +kernel
theorem dX5_operandsFit_113 : decode cX5_operandsFit 113 = .ok (.ifCond .eq 22, 3) := by decide +kernel
theorem dX5_operandsFit_116 : decode cX5_operandsFit 116 = .ok (.iload_n 3, 1) := by decide +kernel
theorem dX5_operandsFit_117 : decode cX5_operandsFit 117 = .ok (.invokestatic 66, 3) := by decide +kernel
theorem dX5_operandsFit_120 : decode cX5_operandsFit 120 = .ok (.ifCond .eq 15, 3) := by decide +kernel
theorem dX5_operandsFit_123 : decode cX5_operandsFit 123 = .ok (.iload 4, 2) := by decide +kernel
theorem dX5_operandsFit_125 : decode cX5_operandsFit 125 = .ok (.invokestatic 66, 3) := by decide +kernel
theorem dX5_operandsFit_128 : decode cX5_operandsFit 128 = .ok (.ifCond .eq 7, 3) := by decide +kernel
theorem dX5_operandsFit_131 : decode cX5_operandsFit 131 = .ok (.iconst 1, 1) := by decide +kernel
theorem dX5_operandsFit_132 : decode cX5_operandsFit 132 = .ok (.goto 4, 3) := by decide +kernel
theorem dX5_operandsFit_135 : decode cX5_operandsFit 135 = .ok (.iconst 0, 1) := by decide +kernel
theorem dX5_operandsFit_136 : decode cX5_operandsFit 136 = .ok (.ireturn, 1) := by decide +kernel
theorem dX5_operandsFit_137 : decode cX5_operandsFit 137 = .ok (.iload_n 2, 1) := by decide +kernel
theorem dX5_operandsFit_138 : decode cX5_operandsFit 138 = .ok (.invokestatic 69, 3) := by decide +kernel
theorem dX5_operandsFit_141 : decode cX5_operandsFit 141 = .ok (.ifCond .eq 14, 3) := by decide +kernel
theorem dX5_operandsFit_144 : decode cX5_operandsFit 144 = .ok (.iload_n 3, 1) := by decide +kernel
theorem dX5_operandsFit_145 : decode cX5_operandsFit 145 = .ok (.invokestatic 66, 3) := by decide +kernel
theorem dX5_operandsFit_148 : decode cX5_operandsFit 148 = .ok (.ifCond .eq 7, 3) := by decide +kernel
theorem dX5_operandsFit_151 : decode cX5_operandsFit 151 = .ok (.iconst 1, 1) := by decide +kernel
theorem dX5_operandsFit_152 : decode cX5_operandsFit 152 = .ok (.goto 4, 3) := by decide +kernel
theorem dX5_operandsFit_155 : decode cX5_operandsFit 155 = .ok (.iconst 0, 1) := by decide +kernel
theorem dX5_operandsFit_156 : decode cX5_operandsFit 156 = .ok (.ireturn, 1) := by decide +kernel
theorem dX5_operandsFit_157 : decode cX5_operandsFit 157 = .ok (.iload_n 2, 1) := by decide +kernel
theorem dX5_operandsFit_158 : decode cX5_operandsFit 158 = .ok (.invokestatic 66, 3) := by decide +kernel
theorem dX5_operandsFit_161 : decode cX5_operandsFit 161 = .ok (.ifCond .eq 22, 3) := by decide +kernel
theorem dX5_operandsFit_164 : decode cX5_operandsFit 164 = .ok (.iload_n 3, 1) := by decide +kernel
theorem dX5_operandsFit_165 : decode cX5_operandsFit 165 = .ok (.invokestatic 69, 3) := by decide +kernel
theorem dX5_operandsFit_168 : decode cX5_operandsFit 168 = .ok (.ifCond .eq 15, 3) := by decide +kernel
theorem dX5_operandsFit_171 : decode cX5_operandsFit 171 = .ok (.iload 4, 2) := by decide +kernel
theorem dX5_operandsFit_173 : decode cX5_operandsFit 173 = .ok (.invokestatic 66, 3) := by decide +kernel
theorem dX5_operandsFit_176 : decode cX5_operandsFit 176 = .ok (.ifCond .eq 7, 3) := by decide +kernel
theorem dX5_operandsFit_179 : decode cX5_operandsFit 179 = .ok (.iconst 1, 1) := by decide +kernel
theorem dX5_operandsFit_180 : decode cX5_operandsFit 180 = .ok (.goto 4, 3) := by decide +kernel
theorem dX5_operandsFit_183 : decode cX5_operandsFit 183 = .ok (.iconst 0, 1) := by decide +kernel
theorem dX5_operandsFit_184 : decode cX5_operandsFit 184 = .ok (.ireturn, 1) := by decide +kernel
theorem dX5_operandsFit_185 : decode cX5_operandsFit 185 = .ok (.iload_n 2, 1) := by decide +kernel
theorem dX5_operandsFit_186 : decode cX5_operandsFit 186 = .ok (.invokestatic 69, 3) := by decide +kernel
theorem dX5_operandsFit_189 : decode cX5_operandsFit 189 = .ok (.ifCond .eq 22, 3) := by decide +kernel
theorem dX5_operandsFit_192 : decode cX5_operandsFit 192 = .ok (.iload_n 3, 1) := by decide +kernel
theorem dX5_operandsFit_193 : decode cX5_operandsFit 193 = .ok (.invokestatic 66, 3) := by decide +kernel
theorem dX5_operandsFit_196 : decode cX5_operandsFit 196 = .ok (.ifCond .eq 15, 3) := by decide +kernel
theorem dX5_operandsFit_199 : decode cX5_operandsFit 199 = .ok (.iload 4, 2) := by decide +kernel
theorem dX5_operandsFit_201 : decode cX5_operandsFit 201 = .ok (.invokestatic 66, 3) := by decide +kernel
theorem dX5_operandsFit_204 : decode cX5_operandsFit 204 = .ok (.ifCond .eq 7, 3) := by decide +kernel
theorem dX5_operandsFit_207 : decode cX5_operandsFit 207 = .ok (.iconst 1, 1) := by decide +kernel
theorem dX5_operandsFit_208 : decode cX5_operandsFit 208 = .ok (.goto 4, 3) := by decide +kernel
theorem dX5_operandsFit_211 : decode cX5_operandsFit 211 = .ok (.iconst 0, 1) := by decide +kernel
theorem dX5_operandsFit_212 : decode cX5_operandsFit 212 = .ok (.ireturn, 1) := by decide +kernel
theorem dX5_operandsFit_213 : decode cX5_operandsFit 213 = .ok (.iload_n 2, 1) := by decide +kernel
theorem dX5_operandsFit_214 : decode cX5_operandsFit 214 = .ok (.invokestatic 66, 3) := by decide +kernel
theorem dX5_operandsFit_217 : decode cX5_operandsFit 217 = .ok (.ifCond .eq 14, 3) := by decide +kernel
theorem dX5_operandsFit_220 : decode cX5_operandsFit 220 = .ok (.iload_n 3, 1) := by decide +kernel
theorem dX5_operandsFit_221 : decode cX5_operandsFit 221 = .ok (.invokestatic 69, 3) := by decide +kernel
theorem dX5_operandsFit_224 : decode cX5_operandsFit 224 = .ok (.ifCond .eq 7, 3) := by decide +kernel
theorem dX5_operandsFit_227 : decode cX5_operandsFit 227 = .ok (.iconst 1, 1) := by decide +kernel
theorem dX5_operandsFit_228 : decode cX5_operandsFit 228 = .ok (.goto 4, 3) := by decide +kernel
theorem dX5_operandsFit_231 : decode cX5_operandsFit 231 = .ok (.iconst 0, 1) := by decide +kernel
theorem dX5_operandsFit_232 : decode cX5_operandsFit 232 = .ok (.ireturn, 1) := by decide +kernel
theorem dX5_operandsFit_233 : decode cX5_operandsFit 233 = .ok (.iload_n 2, 1) := by decide +kernel
theorem dX5_operandsFit_234 : decode cX5_operandsFit 234 = .ok (.invokestatic 69, 3) := by decide +kernel
theorem dX5_operandsFit_237 : decode cX5_operandsFit 237 = .ok (.ireturn, 1) := by decide +kernel
theorem dX5_operandsFit_238 : decode cX5_operandsFit 238 = .ok (.iload_n 2, 1) := by decide +kernel
theorem dX5_operandsFit_239 : decode cX5_operandsFit 239 = .ok (.invokestatic 69, 3) := by decide +kernel
theorem dX5_operandsFit_242 : decode cX5_operandsFit 242 = .ok (.ifCond .eq 14, 3) := by decide +kernel
theorem dX5_operandsFit_245 : decode cX5_operandsFit 245 = .ok (.iload_n 3, 1) := by decide +kernel
theorem dX5_operandsFit_246 : decode cX5_operandsFit 246 = .ok (.invokestatic 69, 3) := by decide +kernel
theorem dX5_operandsFit_249 : decode cX5_operandsFit 249 = .ok (.ifCond .eq 7, 3) := by decide +kernel
theorem dX5_operandsFit_252 : decode cX5_operandsFit 252 = .ok (.iconst 1, 1) := by decide +kernel
theorem dX5_operandsFit_253 : decode cX5_operandsFit 253 = .ok (.goto 4, 3) := by decide +kernel
theorem dX5_operandsFit_256 : decode cX5_operandsFit 256 = .ok (.iconst 0, 1) := by decide +kernel
theorem dX5_operandsFit_257 : decode cX5_operandsFit 257 = .ok (.ireturn, 1) := by decide +kernel
theorem dX5_operandsFit_258 : decode cX5_operandsFit 258 = .ok (.aload_n 0, 1) := by decide +kernel
theorem dX5_operandsFit_259 : decode cX5_operandsFit 259 = .ok (.iload_n 2, 1) := by decide +kernel
theorem dX5_operandsFit_260 : decode cX5_operandsFit 260 = .ok (.invokevirtual 44, 3) := by decide +kernel
theorem dX5_operandsFit_263 : decode cX5_operandsFit 263 = .ok (.ifCond .eq 15, 3) := by decide +kernel
theorem dX5_operandsFit_266 : decode cX5_operandsFit 266 = .ok (.aload_n 0, 1) := by decide +kernel
theorem dX5_operandsFit_267 : decode cX5_operandsFit 267 = .ok (.iload_n 3, 1) := by decide +kernel
theorem dX5_operandsFit_268 : decode cX5_operandsFit 268 = .ok (.invokevirtual 44, 3) := by decide +kernel
theorem dX5_operandsFit_271 : decode cX5_operandsFit 271 = .ok (.ifCond .eq 7, 3) := by decide +kernel
theorem dX5_operandsFit_274 : decode cX5_operandsFit 274 = .ok (.iconst 1, 1) := by decide +kernel
theorem dX5_operandsFit_275 : decode cX5_operandsFit 275 = .ok (.goto 4, 3) := by decide +kernel
theorem dX5_operandsFit_278 : decode cX5_operandsFit 278 = .ok (.iconst 0, 1) := by decide +kernel
theorem dX5_operandsFit_279 : decode cX5_operandsFit 279 = .ok (.ireturn, 1) := by decide +kernel
theorem dX5_operandsFit_280 : decode cX5_operandsFit 280 = .ok (.iload_n 2, 1) := by decide +kernel
theorem dX5_operandsFit_281 : decode cX5_operandsFit 281 = .ok (.invokestatic 66, 3) := by decide +kernel
theorem dX5_operandsFit_284 : decode cX5_operandsFit 284 = .ok (.ifCond .eq 24, 3) := by decide +kernel
theorem dX5_operandsFit_287 : decode cX5_operandsFit 287 = .ok (.aload_n 0, 1) := by decide +kernel
theorem dX5_operandsFit_288 : decode cX5_operandsFit 288 = .ok (.iload_n 3, 1) := by decide +kernel
theorem dX5_operandsFit_289 : decode cX5_operandsFit 289 = .ok (.invokevirtual 44, 3) := by decide +kernel
theorem dX5_operandsFit_292 : decode cX5_operandsFit 292 = .ok (.ifCond .eq 16, 3) := by decide +kernel
theorem dX5_operandsFit_295 : decode cX5_operandsFit 295 = .ok (.aload_n 0, 1) := by decide +kernel
theorem dX5_operandsFit_296 : decode cX5_operandsFit 296 = .ok (.iload 4, 2) := by decide +kernel
theorem dX5_operandsFit_298 : decode cX5_operandsFit 298 = .ok (.invokevirtual 44, 3) := by decide +kernel
theorem dX5_operandsFit_301 : decode cX5_operandsFit 301 = .ok (.ifCond .eq 7, 3) := by decide +kernel
theorem dX5_operandsFit_304 : decode cX5_operandsFit 304 = .ok (.iconst 1, 1) := by decide +kernel
theorem dX5_operandsFit_305 : decode cX5_operandsFit 305 = .ok (.goto 4, 3) := by decide +kernel
theorem dX5_operandsFit_308 : decode cX5_operandsFit 308 = .ok (.iconst 0, 1) := by decide +kernel
theorem dX5_operandsFit_309 : decode cX5_operandsFit 309 = .ok (.ireturn, 1) := by decide +kernel
theorem dX5_operandsFit_310 : decode cX5_operandsFit 310 = .ok (.iload_n 2, 1) := by decide +kernel
theorem dX5_operandsFit_311 : decode cX5_operandsFit 311 = .ok (.invokestatic 66, 3) := by decide +kernel
theorem dX5_operandsFit_314 : decode cX5_operandsFit 314 = .ok (.ifCond .eq 15, 3) := by decide +kernel
theorem dX5_operandsFit_317 : decode cX5_operandsFit 317 = .ok (.aload_n 0, 1) := by decide +kernel
theorem dX5_operandsFit_318 : decode cX5_operandsFit 318 = .ok (.iload_n 3, 1) := by decide +kernel
theorem dX5_operandsFit_319 : decode cX5_operandsFit 319 = .ok (.invokevirtual 44, 3) := by decide +kernel
theorem dX5_operandsFit_322 : decode cX5_operandsFit 322 = .ok (.ifCond .eq 7, 3) := by decide +kernel
theorem dX5_operandsFit_325 : decode cX5_operandsFit 325 = .ok (.iconst 1, 1) := by decide +kernel
theorem dX5_operandsFit_326 : decode cX5_operandsFit 326 = .ok (.goto 4, 3) := by decide +kernel
theorem dX5_operandsFit_329 : decode cX5_operandsFit 329 = .ok (.iconst 0, 1) := by decide +kernel
theorem dX5_operandsFit_330 : decode cX5_operandsFit 330 = .ok (.ireturn, 1) := by decide +kernel
theorem dX5_operandsFit_331 : decode cX5_operandsFit 331 = .ok (.iload_n 2, 1) := by decide +kernel
theorem dX5_operandsFit_332 : decode cX5_operandsFit 332 = .ok (.bipush 8, 2) := by decide +kernel
theorem dX5_operandsFit_334 : decode cX5_operandsFit 334 = .ok (.invokestatic 40, 3) := by decide +kernel
theorem dX5_operandsFit_337 : decode cX5_operandsFit 337 = .ok (.ireturn, 1) := by decide +kernel
theorem dX5_operandsFit_338 : decode cX5_operandsFit 338 = .ok (.aload_n 0, 1) := by decide +kernel
theorem dX5_operandsFit_339 : decode cX5_operandsFit 339 = .ok (.iload_n 2, 1) := by decide +kernel
theorem dX5_operandsFit_340 : decode cX5_operandsFit 340 = .ok (.invokevirtual 44, 3) := by decide +kernel
theorem dX5_operandsFit_343 : decode cX5_operandsFit 343 = .ok (.ifCond .eq 26, 3) := by decide +kernel
theorem dX5_operandsFit_346 : decode cX5_operandsFit 346 = .ok (.iload_n 3, 1) := by decide +kernel
theorem dX5_operandsFit_347 : decode cX5_operandsFit 347 = .ok (.sipush 128, 3) := by decide +kernel
theorem dX5_operandsFit_350 : decode cX5_operandsFit 350 = .ok (.invokestatic 40, 3) := by decide +kernel
theorem dX5_operandsFit_353 : decode cX5_operandsFit 353 = .ok (.ifCond .eq 16, 3) := by decide +kernel
theorem dX5_operandsFit_356 : decode cX5_operandsFit 356 = .ok (.aload_n 0, 1) := by decide +kernel
theorem dX5_operandsFit_357 : decode cX5_operandsFit 357 = .ok (.iload 4, 2) := by decide +kernel
theorem dX5_operandsFit_359 : decode cX5_operandsFit 359 = .ok (.invokevirtual 44, 3) := by decide +kernel
theorem dX5_operandsFit_362 : decode cX5_operandsFit 362 = .ok (.ifCond .eq 7, 3) := by decide +kernel
theorem dX5_operandsFit_365 : decode cX5_operandsFit 365 = .ok (.iconst 1, 1) := by decide +kernel
theorem dX5_operandsFit_366 : decode cX5_operandsFit 366 = .ok (.goto 4, 3) := by decide +kernel
theorem dX5_operandsFit_369 : decode cX5_operandsFit 369 = .ok (.iconst 0, 1) := by decide +kernel
theorem dX5_operandsFit_370 : decode cX5_operandsFit 370 = .ok (.ireturn, 1) := by decide +kernel
theorem dX5_operandsFit_371 : decode cX5_operandsFit 371 = .ok (.iload_n 2, 1) := by decide +kernel
theorem dX5_operandsFit_372 : decode cX5_operandsFit 372 = .ok (.iconst 4, 1) := by decide +kernel
theorem dX5_operandsFit_373 : decode cX5_operandsFit 373 = .ok (.invokestatic 40, 3) := by decide +kernel
theorem dX5_operandsFit_376 : decode cX5_operandsFit 376 = .ok (.ifCond .eq 15, 3) := by decide +kernel
theorem dX5_operandsFit_379 : decode cX5_operandsFit 379 = .ok (.aload_n 0, 1) := by decide +kernel
theorem dX5_operandsFit_380 : decode cX5_operandsFit 380 = .ok (.iload_n 3, 1) := by decide +kernel
theorem dX5_operandsFit_381 : decode cX5_operandsFit 381 = .ok (.invokevirtual 44, 3) := by decide +kernel
theorem dX5_operandsFit_384 : decode cX5_operandsFit 384 = .ok (.ifCond .eq 7, 3) := by decide +kernel
theorem dX5_operandsFit_387 : decode cX5_operandsFit 387 = .ok (.iconst 1, 1) := by decide +kernel
theorem dX5_operandsFit_388 : decode cX5_operandsFit 388 = .ok (.goto 4, 3) := by decide +kernel
theorem dX5_operandsFit_391 : decode cX5_operandsFit 391 = .ok (.iconst 0, 1) := by decide +kernel
theorem dX5_operandsFit_392 : decode cX5_operandsFit 392 = .ok (.ireturn, 1) := by decide +kernel
theorem dX5_operandsFit_393 : decode cX5_operandsFit 393 = .ok (.iconst 0, 1) := by decide +kernel
theorem dX5_operandsFit_394 : decode cX5_operandsFit 394 = .ok (.ireturn, 1) := by decide +kernel
theorem dX5_heightWith_0 : decode cX5_heightWith 0 = .ok (.iload_n 1, 1) := by decide +kernel
theorem dX5_heightWith_1 : decode cX5_heightWith 1 = .ok (.tableswitch 109 12 20 #[51, 67, 84, 109, 109, 109, 92, 51, 84], 51) := by decide +kernel
theorem dX5_heightWith_52 : decode cX5_heightWith 52 = .ok (.iconst 1, 1) := by decide +kernel
theorem dX5_heightWith_53 : decode cX5_heightWith 53 = .ok (.aload_n 0, 1) := by decide +kernel
theorem dX5_heightWith_54 : decode cX5_heightWith 54 = .ok (.iload_n 2, 1) := by decide +kernel
theorem dX5_heightWith_55 : decode cX5_heightWith 55 = .ok (.invokevirtual 74, 3) := by decide +kernel
theorem dX5_heightWith_58 : decode cX5_heightWith 58 = .ok (.aload_n 0, 1) := by decide +kernel
theorem dX5_heightWith_59 : decode cX5_heightWith 59 = .ok (.iload_n 3, 1) := by decide +kernel
theorem dX5_heightWith_60 : decode cX5_heightWith 60 = .ok (.invokevirtual 74, 3) := by decide +kernel
theorem dX5_heightWith_63 : decode cX5_heightWith 63 = .ok (.invokestatic 60, 3) := by decide +kernel
theorem dX5_heightWith_66 : decode cX5_heightWith 66 = .ok (.iadd, 1) := by decide +kernel
theorem dX5_heightWith_67 : decode cX5_heightWith 67 = .ok (.ireturn, 1) := by decide +kernel
theorem dX5_heightWith_68 : decode cX5_heightWith 68 = .ok (.iconst 1, 1) := by decide +kernel
theorem dX5_heightWith_69 : decode cX5_heightWith 69 = .ok (.aload_n 0, 1) := by decide +kernel
theorem dX5_heightWith_70 : decode cX5_heightWith 70 = .ok (.iload_n 3, 1) := by decide +kernel
theorem dX5_heightWith_71 : decode cX5_heightWith 71 = .ok (.invokevirtual 74, 3) := by decide +kernel
theorem dX5_heightWith_74 : decode cX5_heightWith 74 = .ok (.aload_n 0, 1) := by decide +kernel
theorem dX5_heightWith_75 : decode cX5_heightWith 75 = .ok (.iload 4, 2) := by decide +kernel
theorem dX5_heightWith_77 : decode cX5_heightWith 77 = .ok (.invokevirtual 74, 3) := by decide +kernel
theorem dX5_heightWith_80 : decode cX5_heightWith 80 = .ok (.invokestatic 60, 3) := by decide +kernel
theorem dX5_heightWith_83 : decode cX5_heightWith 83 = .ok (.iadd, 1) := by decide +kernel
theorem dX5_heightWith_84 : decode cX5_heightWith 84 = .ok (.ireturn, 1) := by decide +kernel
theorem dX5_heightWith_85 : decode cX5_heightWith 85 = .ok (.iconst 1, 1) := by decide +kernel
theorem dX5_heightWith_86 : decode cX5_heightWith 86 = .ok (.aload_n 0, 1) := by decide +kernel
theorem dX5_heightWith_87 : decode cX5_heightWith 87 = .ok (.iload_n 3, 1) := by decide +kernel
theorem dX5_heightWith_88 : decode cX5_heightWith 88 = .ok (.invokevirtual 74, 3) := by decide +kernel
theorem dX5_heightWith_91 : decode cX5_heightWith 91 = .ok (.iadd, 1) := by decide +kernel
theorem dX5_heightWith_92 : decode cX5_heightWith 92 = .ok (.ireturn, 1) := by decide +kernel
theorem dX5_heightWith_93 : decode cX5_heightWith 93 = .ok (.iconst 1, 1) := by decide +kernel
theorem dX5_heightWith_94 : decode cX5_heightWith 94 = .ok (.aload_n 0, 1) := by decide +kernel
theorem dX5_heightWith_95 : decode cX5_heightWith 95 = .ok (.iload_n 2, 1) := by decide +kernel
theorem dX5_heightWith_96 : decode cX5_heightWith 96 = .ok (.invokevirtual 74, 3) := by decide +kernel
theorem dX5_heightWith_99 : decode cX5_heightWith 99 = .ok (.aload_n 0, 1) := by decide +kernel
theorem dX5_heightWith_100 : decode cX5_heightWith 100 = .ok (.iload 4, 2) := by decide +kernel
theorem dX5_heightWith_102 : decode cX5_heightWith 102 = .ok (.invokevirtual 74, 3) := by decide +kernel
theorem dX5_heightWith_105 : decode cX5_heightWith 105 = .ok (.invokestatic 60, 3) := by decide +kernel
theorem dX5_heightWith_108 : decode cX5_heightWith 108 = .ok (.iadd, 1) := by decide +kernel
theorem dX5_heightWith_109 : decode cX5_heightWith 109 = .ok (.ireturn, 1) := by decide +kernel
theorem dX5_heightWith_110 : decode cX5_heightWith 110 = .ok (.iconst 1, 1) := by decide +kernel
theorem dX5_heightWith_111 : decode cX5_heightWith 111 = .ok (.ireturn, 1) := by decide +kernel
theorem dX5_heightOf_0 : decode cX5_heightOf 0 = .ok (.aload_n 0, 1) := by decide +kernel
theorem dX5_heightOf_1 : decode cX5_heightOf 1 = .ok (.iload_n 1, 1) := by decide +kernel
theorem dX5_heightOf_2 : decode cX5_heightOf 2 = .ok (.invokevirtual 44, 3) := by decide +kernel
theorem dX5_heightOf_5 : decode cX5_heightOf 5 = .ok (.ifCond .eq 12, 3) := by decide +kernel
theorem dX5_heightOf_8 : decode cX5_heightOf 8 = .ok (.aload_n 0, 1) := by decide +kernel
theorem dX5_heightOf_9 : decode cX5_heightOf 9 = .ok (.getfield 24, 3) := by decide +kernel
theorem dX5_heightOf_12 : decode cX5_heightOf 12 = .ok (.iload_n 1, 1) := by decide +kernel
theorem dX5_heightOf_13 : decode cX5_heightOf 13 = .ok (.iaload, 1) := by decide +kernel
theorem dX5_heightOf_14 : decode cX5_heightOf 14 = .ok (.goto 4, 3) := by decide +kernel
theorem dX5_heightOf_17 : decode cX5_heightOf 17 = .ok (.iconst 0, 1) := by decide +kernel
theorem dX5_heightOf_18 : decode cX5_heightOf 18 = .ok (.ireturn, 1) := by decide +kernel
theorem dX5_isVariable_0 : decode cX5_isVariable 0 = .ok (.iload_n 0, 1) := by decide +kernel
theorem dX5_isVariable_1 : decode cX5_isVariable 1 = .ok (.bipush 8, 2) := by decide +kernel
theorem dX5_isVariable_3 : decode cX5_isVariable 3 = .ok (.invokestatic 40, 3) := by decide +kernel
theorem dX5_isVariable_6 : decode cX5_isVariable 6 = .ok (.ireturn, 1) := by decide +kernel
theorem dX5_isRow_0 : decode cX5_isRow 0 = .ok (.iload_n 0, 1) := by decide +kernel
theorem dX5_isRow_1 : decode cX5_isRow 1 = .ok (.iconst 4, 1) := by decide +kernel
theorem dX5_isRow_2 : decode cX5_isRow 2 = .ok (.invokestatic 40, 3) := by decide +kernel
theorem dX5_isRow_5 : decode cX5_isRow 5 = .ok (.ireturn, 1) := by decide +kernel
theorem dX6_fill_0 : decode cX6_fill 0 = .ok (.aload_n 0, 1) := by decide +kernel
theorem dX6_fill_1 : decode cX6_fill 1 = .ok (.getfield 11, 3) := by decide +kernel
theorem dX6_fill_4 : decode cX6_fill 4 = .ok (.iconst 0, 1) := by decide +kernel
theorem dX6_fill_5 : decode cX6_fill 5 = .ok (.invokestatic 20, 3) := by decide +kernel
theorem dX6_fill_8 : decode cX6_fill 8 = .ok (.aload_n 0, 1) := by decide +kernel
theorem dX6_fill_9 : decode cX6_fill 9 = .ok (.iconst 0, 1) := by decide +kernel
theorem dX6_fill_10 : decode cX6_fill 10 = .ok (.putfield 26, 3) := by decide +kernel
theorem dX6_fill_13 : decode cX6_fill 13 = .ok (.aload_n 0, 1) := by decide +kernel
theorem dX6_fill_14 : decode cX6_fill 14 = .ok (.iload_n 1, 1) := by decide +kernel
theorem dX6_fill_15 : decode cX6_fill 15 = .ok (.putfield 30, 3) := by decide +kernel
theorem dX6_fill_18 : decode cX6_fill 18 = .ok (.aload_n 0, 1) := by decide +kernel
theorem dX6_fill_19 : decode cX6_fill 19 = .ok (.bipush 40, 2) := by decide +kernel
theorem dX6_fill_21 : decode cX6_fill 21 = .ok (.putfield 33, 3) := by decide +kernel
theorem dX6_fill_24 : decode cX6_fill 24 = .ok (.aload_n 0, 1) := by decide +kernel
theorem dX6_fill_25 : decode cX6_fill 25 = .ok (.iconst 0, 1) := by decide +kernel
theorem dX6_fill_26 : decode cX6_fill 26 = .ok (.putfield 36, 3) := by decide +kernel
theorem dX6_fill_29 : decode cX6_fill 29 = .ok (.aload_n 0, 1) := by decide +kernel
theorem dX6_fill_30 : decode cX6_fill 30 = .ok (.iconst 0, 1) := by decide +kernel
theorem dX6_fill_31 : decode cX6_fill 31 = .ok (.putfield 39, 3) := by decide +kernel
theorem dX6_fill_34 : decode cX6_fill 34 = .ok (.aload_n 0, 1) := by decide +kernel
theorem dX6_fill_35 : decode cX6_fill 35 = .ok (.iconst 0, 1) := by decide +kernel
theorem dX6_fill_36 : decode cX6_fill 36 = .ok (.putfield 42, 3) := by decide +kernel
theorem dX6_fill_39 : decode cX6_fill 39 = .ok (.return_, 1) := by decide +kernel
theorem dX6_isByReserve_0 : decode cX6_isByReserve 0 = .ok (.aload_n 0, 1) := by decide +kernel
theorem dX6_isByReserve_1 : decode cX6_isByReserve 1 = .ok (.getfield 42, 3) := by decide +kernel
theorem dX6_isByReserve_4 : decode cX6_isByReserve 4 = .ok (.ireturn, 1) := by decide +kernel
theorem dX6_setByReserve_0 : decode cX6_setByReserve 0 = .ok (.aload_n 0, 1) := by decide +kernel
theorem dX6_setByReserve_1 : decode cX6_setByReserve 1 = .ok (.iload_n 1, 1) := by decide +kernel
theorem dX6_setByReserve_2 : decode cX6_setByReserve 2 = .ok (.putfield 42, 3) := by decide +kernel
theorem dX6_setByReserve_5 : decode cX6_setByReserve 5 = .ok (.return_, 1) := by decide +kernel
theorem dX6_pays_0 : decode cX6_pays 0 = .ok (.iload_n 2, 1) := by decide +kernel
theorem dX6_pays_1 : decode cX6_pays 1 = .ok (.aload_n 0, 1) := by decide +kernel
theorem dX6_pays_2 : decode cX6_pays 2 = .ok (.getfield 42, 3) := by decide +kernel
theorem dX6_pays_5 : decode cX6_pays 5 = .ok (.ifCond .eq 10, 3) := by decide +kernel
theorem dX6_pays_8 : decode cX6_pays 8 = .ok (.aload_n 0, 1) := by decide +kernel
theorem dX6_pays_9 : decode cX6_pays 9 = .ok (.getfield 33, 3) := by decide +kernel
theorem dX6_pays_12 : decode cX6_pays 12 = .ok (.goto 7, 3) := by decide +kernel
theorem dX6_pays_15 : decode cX6_pays 15 = .ok (.aload_n 0, 1) := by decide +kernel
theorem dX6_pays_16 : decode cX6_pays 16 = .ok (.getfield 30, 3) := by decide +kernel
theorem dX6_pays_19 : decode cX6_pays 19 = .ok (.if_icmp .gt 11, 3) := by decide +kernel
theorem dX6_pays_22 : decode cX6_pays 22 = .ok (.iload_n 1, 1) := by decide +kernel
theorem dX6_pays_23 : decode cX6_pays 23 = .ok (.iconst 5, 1) := by decide +kernel
theorem dX6_pays_24 : decode cX6_pays 24 = .ok (.invokestatic 46, 3) := by decide +kernel
theorem dX6_pays_27 : decode cX6_pays 27 = .ok (.ifCond .ne 5, 3) := by decide +kernel
theorem dX6_pays_30 : decode cX6_pays 30 = .ok (.iconst 0, 1) := by decide +kernel
theorem dX6_pays_31 : decode cX6_pays 31 = .ok (.ireturn, 1) := by decide +kernel
theorem dX6_pays_32 : decode cX6_pays 32 = .ok (.aload_n 0, 1) := by decide +kernel
theorem dX6_pays_33 : decode cX6_pays 33 = .ok (.getfield 42, 3) := by decide +kernel
theorem dX6_pays_36 : decode cX6_pays 36 = .ok (.ifCond .eq 26, 3) := by decide +kernel
theorem dX6_pays_39 : decode cX6_pays 39 = .ok (.aload_n 0, 1) := by decide +kernel
theorem dX6_pays_40 : decode cX6_pays 40 = .ok (.dup, 1) := by decide +kernel
theorem dX6_pays_41 : decode cX6_pays 41 = .ok (.getfield 33, 3) := by decide +kernel
theorem dX6_pays_44 : decode cX6_pays 44 = .ok (.iload_n 2, 1) := by decide +kernel
theorem dX6_pays_45 : decode cX6_pays 45 = .ok (.isub, 1) := by decide +kernel
theorem dX6_pays_46 : decode cX6_pays 46 = .ok (.putfield 33, 3) := by decide +kernel
theorem dX6_pays_49 : decode cX6_pays 49 = .ok (.aload_n 0, 1) := by decide +kernel
theorem dX6_pays_50 : decode cX6_pays 50 = .ok (.dup, 1) := by decide +kernel
theorem dX6_pays_51 : decode cX6_pays 51 = .ok (.getfield 39, 3) := by decide +kernel
theorem dX6_pays_54 : decode cX6_pays 54 = .ok (.iload_n 2, 1) := by decide +kernel
theorem dX6_pays_55 : decode cX6_pays 55 = .ok (.iadd, 1) := by decide +kernel
theorem dX6_pays_56 : decode cX6_pays 56 = .ok (.putfield 39, 3) := by decide +kernel
theorem dX6_pays_59 : decode cX6_pays 59 = .ok (.goto 23, 3) := by decide +kernel
theorem dX6_pays_62 : decode cX6_pays 62 = .ok (.aload_n 0, 1) := by decide +kernel
theorem dX6_pays_63 : decode cX6_pays 63 = .ok (.dup, 1) := by decide +kernel
theorem dX6_pays_64 : decode cX6_pays 64 = .ok (.getfield 30, 3) := by decide +kernel
theorem dX6_pays_67 : decode cX6_pays 67 = .ok (.iload_n 2, 1) := by decide +kernel
theorem dX6_pays_68 : decode cX6_pays 68 = .ok (.isub, 1) := by decide +kernel
theorem dX6_pays_69 : decode cX6_pays 69 = .ok (.putfield 30, 3) := by decide +kernel
theorem dX6_pays_72 : decode cX6_pays 72 = .ok (.aload_n 0, 1) := by decide +kernel
theorem dX6_pays_73 : decode cX6_pays 73 = .ok (.dup, 1) := by decide +kernel
theorem dX6_pays_74 : decode cX6_pays 74 = .ok (.getfield 36, 3) := by decide +kernel
theorem dX6_pays_77 : decode cX6_pays 77 = .ok (.iload_n 2, 1) := by decide +kernel
theorem dX6_pays_78 : decode cX6_pays 78 = .ok (.iadd, 1) := by decide +kernel
theorem dX6_pays_79 : decode cX6_pays 79 = .ok (.putfield 36, 3) := by decide +kernel
theorem dX6_pays_82 : decode cX6_pays 82 = .ok (.aload_n 0, 1) := by decide +kernel
theorem dX6_pays_83 : decode cX6_pays 83 = .ok (.getfield 11, 3) := by decide +kernel
theorem dX6_pays_86 : decode cX6_pays 86 = .ok (.iload_n 1, 1) := by decide +kernel
theorem dX6_pays_87 : decode cX6_pays 87 = .ok (.dup2, 1) := by decide +kernel
theorem dX6_pays_88 : decode cX6_pays 88 = .ok (.iaload, 1) := by decide +kernel
theorem dX6_pays_89 : decode cX6_pays 89 = .ok (.iconst 1, 1) := by decide +kernel
theorem dX6_pays_90 : decode cX6_pays 90 = .ok (.iadd, 1) := by decide +kernel
theorem dX6_pays_91 : decode cX6_pays 91 = .ok (.iastore, 1) := by decide +kernel
theorem dX6_pays_92 : decode cX6_pays 92 = .ok (.iconst 1, 1) := by decide +kernel
theorem dX6_pays_93 : decode cX6_pays 93 = .ok (.ireturn, 1) := by decide +kernel
theorem dX6_noteBegun_0 : decode cX6_noteBegun 0 = .ok (.aload_n 0, 1) := by decide +kernel
theorem dX6_noteBegun_1 : decode cX6_noteBegun 1 = .ok (.getfield 26, 3) := by decide +kernel
theorem dX6_noteBegun_4 : decode cX6_noteBegun 4 = .ok (.bipush 30, 2) := by decide +kernel
theorem dX6_noteBegun_6 : decode cX6_noteBegun 6 = .ok (.if_icmp .ge 23, 3) := by decide +kernel
theorem dX6_noteBegun_9 : decode cX6_noteBegun 9 = .ok (.aload_n 0, 1) := by decide +kernel
theorem dX6_noteBegun_10 : decode cX6_noteBegun 10 = .ok (.getfield 17, 3) := by decide +kernel
theorem dX6_noteBegun_13 : decode cX6_noteBegun 13 = .ok (.aload_n 0, 1) := by decide +kernel
theorem dX6_noteBegun_14 : decode cX6_noteBegun 14 = .ok (.getfield 26, 3) := by decide +kernel
theorem dX6_noteBegun_17 : decode cX6_noteBegun 17 = .ok (.iload_n 1, 1) := by decide +kernel
theorem dX6_noteBegun_18 : decode cX6_noteBegun 18 = .ok (.iastore, 1) := by decide +kernel
theorem dX6_noteBegun_19 : decode cX6_noteBegun 19 = .ok (.aload_n 0, 1) := by decide +kernel
theorem dX6_noteBegun_20 : decode cX6_noteBegun 20 = .ok (.dup, 1) := by decide +kernel
theorem dX6_noteBegun_21 : decode cX6_noteBegun 21 = .ok (.getfield 26, 3) := by decide +kernel
theorem dX6_noteBegun_24 : decode cX6_noteBegun 24 = .ok (.iconst 1, 1) := by decide +kernel
theorem dX6_noteBegun_25 : decode cX6_noteBegun 25 = .ok (.iadd, 1) := by decide +kernel
theorem dX6_noteBegun_26 : decode cX6_noteBegun 26 = .ok (.putfield 26, 3) := by decide +kernel
theorem dX6_noteBegun_29 : decode cX6_noteBegun 29 = .ok (.return_, 1) := by decide +kernel
theorem dX6_begunAt_0 : decode cX6_begunAt 0 = .ok (.iload_n 1, 1) := by decide +kernel
theorem dX6_begunAt_1 : decode cX6_begunAt 1 = .ok (.aload_n 0, 1) := by decide +kernel
theorem dX6_begunAt_2 : decode cX6_begunAt 2 = .ok (.getfield 26, 3) := by decide +kernel
theorem dX6_begunAt_5 : decode cX6_begunAt 5 = .ok (.invokestatic 46, 3) := by decide +kernel
