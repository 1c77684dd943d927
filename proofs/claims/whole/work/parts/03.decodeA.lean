theorem d_AR_fill_0 : decode b_AR_fill 0 = .ok (.iconst 0, 1) := by decide +kernel
theorem d_AR_fill_1 : decode b_AR_fill 1 = .ok (.istore_n 2, 1) := by decide +kernel
theorem d_AR_fill_2 : decode b_AR_fill 2 = .ok (.aload_n 0, 1) := by decide +kernel
theorem d_AR_fill_3 : decode b_AR_fill 3 = .ok (.arraylength, 1) := by decide +kernel
theorem d_AR_fill_4 : decode b_AR_fill 4 = .ok (.istore_n 3, 1) := by decide +kernel
theorem d_AR_fill_5 : decode b_AR_fill 5 = .ok (.iload_n 2, 1) := by decide +kernel
theorem d_AR_fill_6 : decode b_AR_fill 6 = .ok (.iload_n 3, 1) := by decide +kernel
theorem d_AR_fill_7 : decode b_AR_fill 7 = .ok (.if_icmp .ge 13, 3) := by decide +kernel
theorem d_AR_fill_10 : decode b_AR_fill 10 = .ok (.aload_n 0, 1) := by decide +kernel
theorem d_AR_fill_11 : decode b_AR_fill 11 = .ok (.iload_n 2, 1) := by decide +kernel
theorem d_AR_fill_12 : decode b_AR_fill 12 = .ok (.iload_n 1, 1) := by decide +kernel
theorem d_AR_fill_13 : decode b_AR_fill 13 = .ok (.iastore, 1) := by decide +kernel
theorem d_AR_fill_14 : decode b_AR_fill 14 = .ok (.iinc 2 1, 3) := by decide +kernel
theorem d_AR_fill_17 : decode b_AR_fill 17 = .ok (.goto (-12), 3) := by decide +kernel
theorem d_AR_fill_20 : decode b_AR_fill 20 = .ok (.return_, 1) := by decide +kernel
theorem d_AR_copyI_0 : decode b_AR_copyI 0 = .ok (.iload_n 1, 1) := by decide +kernel
theorem d_AR_copyI_1 : decode b_AR_copyI 1 = .ok (.aload_n 0, 1) := by decide +kernel
theorem d_AR_copyI_2 : decode b_AR_copyI 2 = .ok (.arraylength, 1) := by decide +kernel
theorem d_AR_copyI_3 : decode b_AR_copyI 3 = .ok (.if_icmp .ne 11, 3) := by decide +kernel
theorem d_AR_copyI_14 : decode b_AR_copyI 14 = .ok (.iload_n 1, 1) := by decide +kernel
theorem d_AR_copyI_15 : decode b_AR_copyI 15 = .ok (.newarray .int, 2) := by decide +kernel
theorem d_AR_copyI_17 : decode b_AR_copyI 17 = .ok (.astore_n 2, 1) := by decide +kernel
theorem d_AR_copyI_18 : decode b_AR_copyI 18 = .ok (.aload_n 0, 1) := by decide +kernel
theorem d_AR_copyI_19 : decode b_AR_copyI 19 = .ok (.iconst 0, 1) := by decide +kernel
theorem d_AR_copyI_20 : decode b_AR_copyI 20 = .ok (.aload_n 2, 1) := by decide +kernel
theorem d_AR_copyI_21 : decode b_AR_copyI 21 = .ok (.iconst 0, 1) := by decide +kernel
theorem d_AR_copyI_22 : decode b_AR_copyI 22 = .ok (.aload_n 0, 1) := by decide +kernel
theorem d_AR_copyI_23 : decode b_AR_copyI 23 = .ok (.arraylength, 1) := by decide +kernel
theorem d_AR_copyI_24 : decode b_AR_copyI 24 = .ok (.iload_n 1, 1) := by decide +kernel
theorem d_AR_copyI_25 : decode b_AR_copyI 25 = .ok (.invokestatic 304, 3) := by decide +kernel
theorem d_AR_copyI_28 : decode b_AR_copyI 28 = .ok (.invokestatic 150, 3) := by decide +kernel
theorem d_AR_copyI_31 : decode b_AR_copyI 31 = .ok (.aload_n 2, 1) := by decide +kernel
theorem d_AR_copyI_32 : decode b_AR_copyI 32 = .ok (.areturn, 1) := by decide +kernel
theorem d_AR_copyJ_0 : decode b_AR_copyJ 0 = .ok (.iload_n 1, 1) := by decide +kernel
theorem d_AR_copyJ_1 : decode b_AR_copyJ 1 = .ok (.aload_n 0, 1) := by decide +kernel
theorem d_AR_copyJ_2 : decode b_AR_copyJ 2 = .ok (.arraylength, 1) := by decide +kernel
theorem d_AR_copyJ_3 : decode b_AR_copyJ 3 = .ok (.if_icmp .ne 11, 3) := by decide +kernel
theorem d_AR_copyJ_14 : decode b_AR_copyJ 14 = .ok (.iload_n 1, 1) := by decide +kernel
theorem d_AR_copyJ_15 : decode b_AR_copyJ 15 = .ok (.newarray .long, 2) := by decide +kernel
theorem d_AR_copyJ_17 : decode b_AR_copyJ 17 = .ok (.astore_n 2, 1) := by decide +kernel
theorem d_AR_copyJ_18 : decode b_AR_copyJ 18 = .ok (.aload_n 0, 1) := by decide +kernel
theorem d_AR_copyJ_19 : decode b_AR_copyJ 19 = .ok (.iconst 0, 1) := by decide +kernel
theorem d_AR_copyJ_20 : decode b_AR_copyJ 20 = .ok (.aload_n 2, 1) := by decide +kernel
theorem d_AR_copyJ_21 : decode b_AR_copyJ 21 = .ok (.iconst 0, 1) := by decide +kernel
theorem d_AR_copyJ_22 : decode b_AR_copyJ 22 = .ok (.aload_n 0, 1) := by decide +kernel
theorem d_AR_copyJ_23 : decode b_AR_copyJ 23 = .ok (.arraylength, 1) := by decide +kernel
theorem d_AR_copyJ_24 : decode b_AR_copyJ 24 = .ok (.iload_n 1, 1) := by decide +kernel
theorem d_AR_copyJ_25 : decode b_AR_copyJ 25 = .ok (.invokestatic 304, 3) := by decide +kernel
theorem d_AR_copyJ_28 : decode b_AR_copyJ 28 = .ok (.invokestatic 150, 3) := by decide +kernel
theorem d_AR_copyJ_31 : decode b_AR_copyJ 31 = .ok (.aload_n 2, 1) := by decide +kernel
theorem d_AR_copyJ_32 : decode b_AR_copyJ 32 = .ok (.areturn, 1) := by decide +kernel
theorem d_IL_init_0 : decode b_IL_init 0 = .ok (.aload_n 0, 1) := by decide +kernel
theorem d_IL_init_1 : decode b_IL_init 1 = .ok (.invokespecial 3, 3) := by decide +kernel
theorem d_IL_init_4 : decode b_IL_init 4 = .ok (.aload_n 0, 1) := by decide +kernel
theorem d_IL_init_5 : decode b_IL_init 5 = .ok (.bipush 16, 2) := by decide +kernel
theorem d_IL_init_7 : decode b_IL_init 7 = .ok (.newarray .int, 2) := by decide +kernel
theorem d_IL_init_9 : decode b_IL_init 9 = .ok (.putfield 11, 3) := by decide +kernel
theorem d_IL_init_12 : decode b_IL_init 12 = .ok (.aload_n 0, 1) := by decide +kernel
theorem d_IL_init_13 : decode b_IL_init 13 = .ok (.iconst 0, 1) := by decide +kernel
theorem d_IL_init_14 : decode b_IL_init 14 = .ok (.putfield 15, 3) := by decide +kernel
theorem d_IL_init_17 : decode b_IL_init 17 = .ok (.return_, 1) := by decide +kernel
theorem d_IL_length_0 : decode b_IL_length 0 = .ok (.aload_n 0, 1) := by decide +kernel
theorem d_IL_length_1 : decode b_IL_length 1 = .ok (.getfield 15, 3) := by decide +kernel
theorem d_IL_length_4 : decode b_IL_length 4 = .ok (.ireturn, 1) := by decide +kernel
theorem d_IL_at_0 : decode b_IL_at 0 = .ok (.iload_n 1, 1) := by decide +kernel
theorem d_IL_at_1 : decode b_IL_at 1 = .ok (.ifCond .lt 20, 3) := by decide +kernel
theorem d_IL_at_4 : decode b_IL_at 4 = .ok (.iload_n 1, 1) := by decide +kernel
theorem d_IL_at_5 : decode b_IL_at 5 = .ok (.aload_n 0, 1) := by decide +kernel
theorem d_IL_at_6 : decode b_IL_at 6 = .ok (.getfield 15, 3) := by decide +kernel
theorem d_IL_at_9 : decode b_IL_at 9 = .ok (.if_icmp .ge 12, 3) := by decide +kernel
theorem d_IL_at_12 : decode b_IL_at 12 = .ok (.aload_n 0, 1) := by decide +kernel
theorem d_IL_at_13 : decode b_IL_at 13 = .ok (.getfield 11, 3) := by decide +kernel
theorem d_IL_at_16 : decode b_IL_at 16 = .ok (.iload_n 1, 1) := by decide +kernel
theorem d_IL_at_17 : decode b_IL_at 17 = .ok (.iaload, 1) := by decide +kernel
theorem d_IL_at_18 : decode b_IL_at 18 = .ok (.goto 4, 3) := by decide +kernel
theorem d_IL_at_21 : decode b_IL_at 21 = .ok (.iconst (-1), 1) := by decide +kernel
theorem d_IL_at_22 : decode b_IL_at 22 = .ok (.ireturn, 1) := by decide +kernel
theorem d_IL_add_0 : decode b_IL_add 0 = .ok (.aload_n 0, 1) := by decide +kernel
theorem d_IL_add_1 : decode b_IL_add 1 = .ok (.getfield 15, 3) := by decide +kernel
theorem d_IL_add_4 : decode b_IL_add 4 = .ok (.aload_n 0, 1) := by decide +kernel
theorem d_IL_add_5 : decode b_IL_add 5 = .ok (.getfield 11, 3) := by decide +kernel
theorem d_IL_add_8 : decode b_IL_add 8 = .ok (.arraylength, 1) := by decide +kernel
theorem d_IL_add_9 : decode b_IL_add 9 = .ok (.if_icmp .lt 20, 3) := by decide +kernel
theorem d_IL_add_12 : decode b_IL_add 12 = .ok (.aload_n 0, 1) := by decide +kernel
theorem d_IL_add_13 : decode b_IL_add 13 = .ok (.aload_n 0, 1) := by decide +kernel
theorem d_IL_add_14 : decode b_IL_add 14 = .ok (.getfield 11, 3) := by decide +kernel
theorem d_IL_add_17 : decode b_IL_add 17 = .ok (.iconst 2, 1) := by decide +kernel
theorem d_IL_add_18 : decode b_IL_add 18 = .ok (.aload_n 0, 1) := by decide +kernel
theorem d_IL_add_19 : decode b_IL_add 19 = .ok (.getfield 15, 3) := by decide +kernel
theorem d_IL_add_22 : decode b_IL_add 22 = .ok (.imul, 1) := by decide +kernel
theorem d_IL_add_23 : decode b_IL_add 23 = .ok (.invokestatic 19, 3) := by decide +kernel
theorem d_IL_add_26 : decode b_IL_add 26 = .ok (.putfield 11, 3) := by decide +kernel
theorem d_IL_add_29 : decode b_IL_add 29 = .ok (.aload_n 0, 1) := by decide +kernel
theorem d_IL_add_30 : decode b_IL_add 30 = .ok (.getfield 11, 3) := by decide +kernel
theorem d_IL_add_33 : decode b_IL_add 33 = .ok (.aload_n 0, 1) := by decide +kernel
theorem d_IL_add_34 : decode b_IL_add 34 = .ok (.getfield 15, 3) := by decide +kernel
theorem d_IL_add_37 : decode b_IL_add 37 = .ok (.iload_n 1, 1) := by decide +kernel
theorem d_IL_add_38 : decode b_IL_add 38 = .ok (.iastore, 1) := by decide +kernel
theorem d_IL_add_39 : decode b_IL_add 39 = .ok (.aload_n 0, 1) := by decide +kernel
theorem d_IL_add_40 : decode b_IL_add 40 = .ok (.dup, 1) := by decide +kernel
theorem d_IL_add_41 : decode b_IL_add 41 = .ok (.getfield 15, 3) := by decide +kernel
theorem d_IL_add_44 : decode b_IL_add 44 = .ok (.iconst 1, 1) := by decide +kernel
theorem d_IL_add_45 : decode b_IL_add 45 = .ok (.iadd, 1) := by decide +kernel
theorem d_IL_add_46 : decode b_IL_add 46 = .ok (.putfield 15, 3) := by decide +kernel
theorem d_IL_add_49 : decode b_IL_add 49 = .ok (.return_, 1) := by decide +kernel
theorem d_IL_put_0 : decode b_IL_put 0 = .ok (.iload_n 1, 1) := by decide +kernel
theorem d_IL_put_1 : decode b_IL_put 1 = .ok (.ifCond .lt 18, 3) := by decide +kernel
theorem d_IL_put_4 : decode b_IL_put 4 = .ok (.iload_n 1, 1) := by decide +kernel
theorem d_IL_put_5 : decode b_IL_put 5 = .ok (.aload_n 0, 1) := by decide +kernel
theorem d_IL_put_6 : decode b_IL_put 6 = .ok (.getfield 15, 3) := by decide +kernel
theorem d_IL_put_9 : decode b_IL_put 9 = .ok (.if_icmp .ge 10, 3) := by decide +kernel
theorem d_IL_put_12 : decode b_IL_put 12 = .ok (.aload_n 0, 1) := by decide +kernel
theorem d_IL_put_13 : decode b_IL_put 13 = .ok (.getfield 11, 3) := by decide +kernel
theorem d_IL_put_16 : decode b_IL_put 16 = .ok (.iload_n 1, 1) := by decide +kernel
theorem d_IL_put_17 : decode b_IL_put 17 = .ok (.iload_n 2, 1) := by decide +kernel
theorem d_IL_put_18 : decode b_IL_put 18 = .ok (.iastore, 1) := by decide +kernel
theorem d_IL_put_19 : decode b_IL_put 19 = .ok (.return_, 1) := by decide +kernel
theorem d_IL_cut_0 : decode b_IL_cut 0 = .ok (.iload_n 1, 1) := by decide +kernel
theorem d_IL_cut_1 : decode b_IL_cut 1 = .ok (.ifCond .lt 16, 3) := by decide +kernel
theorem d_IL_cut_4 : decode b_IL_cut 4 = .ok (.iload_n 1, 1) := by decide +kernel
theorem d_IL_cut_5 : decode b_IL_cut 5 = .ok (.aload_n 0, 1) := by decide +kernel
theorem d_IL_cut_6 : decode b_IL_cut 6 = .ok (.getfield 15, 3) := by decide +kernel
theorem d_IL_cut_9 : decode b_IL_cut 9 = .ok (.if_icmp .ge 8, 3) := by decide +kernel
theorem d_IL_cut_12 : decode b_IL_cut 12 = .ok (.aload_n 0, 1) := by decide +kernel
theorem d_IL_cut_13 : decode b_IL_cut 13 = .ok (.iload_n 1, 1) := by decide +kernel
theorem d_IL_cut_14 : decode b_IL_cut 14 = .ok (.putfield 15, 3) := by decide +kernel
theorem d_IL_cut_17 : decode b_IL_cut 17 = .ok (.return_, 1) := by decide +kernel
theorem d_IL_fill_0 : decode b_IL_fill 0 = .ok (.aload_n 0, 1) := by decide +kernel
theorem d_IL_fill_1 : decode b_IL_fill 1 = .ok (.iconst 0, 1) := by decide +kernel
theorem d_IL_fill_2 : decode b_IL_fill 2 = .ok (.putfield 15, 3) := by decide +kernel
theorem d_IL_fill_5 : decode b_IL_fill 5 = .ok (.iconst 0, 1) := by decide +kernel
theorem d_IL_fill_6 : decode b_IL_fill 6 = .ok (.istore_n 3, 1) := by decide +kernel
theorem d_IL_fill_7 : decode b_IL_fill 7 = .ok (.iload_n 3, 1) := by decide +kernel
theorem d_IL_fill_8 : decode b_IL_fill 8 = .ok (.iload_n 1, 1) := by decide +kernel
theorem d_IL_fill_9 : decode b_IL_fill 9 = .ok (.if_icmp .ge 14, 3) := by decide +kernel
theorem d_IL_fill_12 : decode b_IL_fill 12 = .ok (.aload_n 0, 1) := by decide +kernel
theorem d_IL_fill_13 : decode b_IL_fill 13 = .ok (.iload_n 2, 1) := by decide +kernel
theorem d_IL_fill_14 : decode b_IL_fill 14 = .ok (.invokevirtual 25, 3) := by decide +kernel
theorem d_IL_fill_17 : decode b_IL_fill 17 = .ok (.iinc 3 1, 3) := by decide +kernel
theorem d_IL_fill_20 : decode b_IL_fill 20 = .ok (.goto (-13), 3) := by decide +kernel
theorem d_IL_fill_23 : decode b_IL_fill 23 = .ok (.return_, 1) := by decide +kernel
theorem d_IL_turnRound_0 : decode b_IL_turnRound 0 = .ok (.iload_n 1, 1) := by decide +kernel
theorem d_IL_turnRound_1 : decode b_IL_turnRound 1 = .ok (.istore_n 2, 1) := by decide +kernel
theorem d_IL_turnRound_2 : decode b_IL_turnRound 2 = .ok (.aload_n 0, 1) := by decide +kernel
theorem d_IL_turnRound_3 : decode b_IL_turnRound 3 = .ok (.getfield 15, 3) := by decide +kernel
theorem d_IL_turnRound_6 : decode b_IL_turnRound 6 = .ok (.iconst 1, 1) := by decide +kernel
theorem d_IL_turnRound_7 : decode b_IL_turnRound 7 = .ok (.isub, 1) := by decide +kernel
theorem d_IL_turnRound_8 : decode b_IL_turnRound 8 = .ok (.istore_n 3, 1) := by decide +kernel
theorem d_IL_turnRound_9 : decode b_IL_turnRound 9 = .ok (.iload_n 2, 1) := by decide +kernel
theorem d_IL_turnRound_10 : decode b_IL_turnRound 10 = .ok (.iload_n 3, 1) := by decide +kernel
theorem d_IL_turnRound_11 : decode b_IL_turnRound 11 = .ok (.if_icmp .ge 36, 3) := by decide +kernel
theorem d_IL_turnRound_14 : decode b_IL_turnRound 14 = .ok (.aload_n 0, 1) := by decide +kernel
theorem d_IL_turnRound_15 : decode b_IL_turnRound 15 = .ok (.iload_n 2, 1) := by decide +kernel
theorem d_IL_turnRound_16 : decode b_IL_turnRound 16 = .ok (.invokevirtual 29, 3) := by decide +kernel
theorem d_IL_turnRound_19 : decode b_IL_turnRound 19 = .ok (.istore 4, 2) := by decide +kernel
theorem d_IL_turnRound_21 : decode b_IL_turnRound 21 = .ok (.aload_n 0, 1) := by decide +kernel
theorem d_IL_turnRound_22 : decode b_IL_turnRound 22 = .ok (.iload_n 2, 1) := by decide +kernel
theorem d_IL_turnRound_23 : decode b_IL_turnRound 23 = .ok (.aload_n 0, 1) := by decide +kernel
theorem d_IL_turnRound_24 : decode b_IL_turnRound 24 = .ok (.iload_n 3, 1) := by decide +kernel
theorem d_IL_turnRound_25 : decode b_IL_turnRound 25 = .ok (.invokevirtual 29, 3) := by decide +kernel
theorem d_IL_turnRound_28 : decode b_IL_turnRound 28 = .ok (.invokevirtual 33, 3) := by decide +kernel
theorem d_IL_turnRound_31 : decode b_IL_turnRound 31 = .ok (.aload_n 0, 1) := by decide +kernel
theorem d_IL_turnRound_32 : decode b_IL_turnRound 32 = .ok (.iload_n 3, 1) := by decide +kernel
theorem d_IL_turnRound_33 : decode b_IL_turnRound 33 = .ok (.iload 4, 2) := by decide +kernel
theorem d_IL_turnRound_35 : decode b_IL_turnRound 35 = .ok (.invokevirtual 33, 3) := by decide +kernel
theorem d_IL_turnRound_38 : decode b_IL_turnRound 38 = .ok (.iinc 2 1, 3) := by decide +kernel
theorem d_IL_turnRound_41 : decode b_IL_turnRound 41 = .ok (.iinc 3 (-1), 3) := by decide +kernel
theorem d_IL_turnRound_44 : decode b_IL_turnRound 44 = .ok (.goto (-35), 3) := by decide +kernel
theorem d_IL_turnRound_47 : decode b_IL_turnRound 47 = .ok (.return_, 1) := by decide +kernel
theorem d_LL_init_0 : decode b_LL_init 0 = .ok (.aload_n 0, 1) := by decide +kernel
theorem d_LL_init_1 : decode b_LL_init 1 = .ok (.invokespecial 1, 3) := by decide +kernel
theorem d_LL_init_4 : decode b_LL_init 4 = .ok (.aload_n 0, 1) := by decide +kernel
theorem d_LL_init_5 : decode b_LL_init 5 = .ok (.new 7, 3) := by decide +kernel
theorem d_LL_init_8 : decode b_LL_init 8 = .ok (.dup, 1) := by decide +kernel
theorem d_LL_init_9 : decode b_LL_init 9 = .ok (.invokespecial 9, 3) := by decide +kernel
theorem d_LL_init_12 : decode b_LL_init 12 = .ok (.putfield 10, 3) := by decide +kernel
theorem d_LL_init_15 : decode b_LL_init 15 = .ok (.return_, 1) := by decide +kernel
theorem d_LL_forget_0 : decode b_LL_forget 0 = .ok (.aload_n 0, 1) := by decide +kernel
theorem d_LL_forget_1 : decode b_LL_forget 1 = .ok (.getfield 10, 3) := by decide +kernel
theorem d_LL_forget_4 : decode b_LL_forget 4 = .ok (.iconst 0, 1) := by decide +kernel
theorem d_LL_forget_5 : decode b_LL_forget 5 = .ok (.invokevirtual 16, 3) := by decide +kernel
theorem d_LL_forget_8 : decode b_LL_forget 8 = .ok (.return_, 1) := by decide +kernel
theorem d_LL_amount_0 : decode b_LL_amount 0 = .ok (.aload_n 0, 1) := by decide +kernel
theorem d_LL_amount_1 : decode b_LL_amount 1 = .ok (.getfield 10, 3) := by decide +kernel
theorem d_LL_amount_4 : decode b_LL_amount 4 = .ok (.invokevirtual 20, 3) := by decide +kernel
theorem d_LL_amount_7 : decode b_LL_amount 7 = .ok (.ireturn, 1) := by decide +kernel
theorem d_LL_letterAt_0 : decode b_LL_letterAt 0 = .ok (.aload_n 0, 1) := by decide +kernel
theorem d_LL_letterAt_1 : decode b_LL_letterAt 1 = .ok (.getfield 10, 3) := by decide +kernel
theorem d_LL_letterAt_4 : decode b_LL_letterAt 4 = .ok (.iload_n 1, 1) := by decide +kernel
theorem d_LL_letterAt_5 : decode b_LL_letterAt 5 = .ok (.invokevirtual 24, 3) := by decide +kernel
theorem d_LL_letterAt_8 : decode b_LL_letterAt 8 = .ok (.ireturn, 1) := by decide +kernel
theorem d_LL_addMark_0 : decode b_LL_addMark 0 = .ok (.aload_n 0, 1) := by decide +kernel
theorem d_LL_addMark_1 : decode b_LL_addMark 1 = .ok (.getfield 10, 3) := by decide +kernel
theorem d_LL_addMark_4 : decode b_LL_addMark 4 = .ok (.bipush 90, 2) := by decide +kernel
theorem d_LL_addMark_6 : decode b_LL_addMark 6 = .ok (.invokevirtual 28, 3) := by decide +kernel
theorem d_LL_addMark_9 : decode b_LL_addMark 9 = .ok (.return_, 1) := by decide +kernel
theorem d_LL_addNumber_0 : decode b_LL_addNumber 0 = .ok (.aload_n 0, 1) := by decide +kernel
theorem d_LL_addNumber_1 : decode b_LL_addNumber 1 = .ok (.getfield 10, 3) := by decide +kernel
theorem d_LL_addNumber_4 : decode b_LL_addNumber 4 = .ok (.invokevirtual 20, 3) := by decide +kernel
theorem d_LL_addNumber_7 : decode b_LL_addNumber 7 = .ok (.istore_n 2, 1) := by decide +kernel
theorem d_LL_addNumber_8 : decode b_LL_addNumber 8 = .ok (.aload_n 0, 1) := by decide +kernel
theorem d_LL_addNumber_9 : decode b_LL_addNumber 9 = .ok (.getfield 10, 3) := by decide +kernel
theorem d_LL_addNumber_12 : decode b_LL_addNumber 12 = .ok (.bipush 65, 2) := by decide +kernel
theorem d_LL_addNumber_14 : decode b_LL_addNumber 14 = .ok (.iload_n 1, 1) := by decide +kernel
theorem d_LL_addNumber_15 : decode b_LL_addNumber 15 = .ok (.iconst 1, 1) := by decide +kernel
theorem d_LL_addNumber_16 : decode b_LL_addNumber 16 = .ok (.isub, 1) := by decide +kernel
theorem d_LL_addNumber_17 : decode b_LL_addNumber 17 = .ok (.bipush 20, 2) := by decide +kernel
theorem d_LL_addNumber_19 : decode b_LL_addNumber 19 = .ok (.irem, 1) := by decide +kernel
theorem d_LL_addNumber_20 : decode b_LL_addNumber 20 = .ok (.iadd, 1) := by decide +kernel
theorem d_LL_addNumber_21 : decode b_LL_addNumber 21 = .ok (.invokevirtual 28, 3) := by decide +kernel
theorem d_LL_addNumber_24 : decode b_LL_addNumber 24 = .ok (.iload_n 1, 1) := by decide +kernel
theorem d_LL_addNumber_25 : decode b_LL_addNumber 25 = .ok (.iconst 1, 1) := by decide +kernel
theorem d_LL_addNumber_26 : decode b_LL_addNumber 26 = .ok (.isub, 1) := by decide +kernel
theorem d_LL_addNumber_27 : decode b_LL_addNumber 27 = .ok (.bipush 20, 2) := by decide +kernel
theorem d_LL_addNumber_29 : decode b_LL_addNumber 29 = .ok (.idiv, 1) := by decide +kernel
theorem d_LL_addNumber_30 : decode b_LL_addNumber 30 = .ok (.istore_n 3, 1) := by decide +kernel
theorem d_LL_addNumber_31 : decode b_LL_addNumber 31 = .ok (.iconst 0, 1) := by decide +kernel
theorem d_LL_addNumber_32 : decode b_LL_addNumber 32 = .ok (.istore 4, 2) := by decide +kernel
theorem d_LL_addNumber_34 : decode b_LL_addNumber 34 = .ok (.iload 4, 2) := by decide +kernel
theorem d_LL_addNumber_36 : decode b_LL_addNumber 36 = .ok (.bipush 14, 2) := by decide +kernel
theorem d_LL_addNumber_38 : decode b_LL_addNumber 38 = .ok (.if_icmp .ge 34, 3) := by decide +kernel
theorem d_LL_addNumber_41 : decode b_LL_addNumber 41 = .ok (.iload_n 3, 1) := by decide +kernel
theorem d_LL_addNumber_42 : decode b_LL_addNumber 42 = .ok (.ifCond .le 30, 3) := by decide +kernel
theorem d_LL_addNumber_45 : decode b_LL_addNumber 45 = .ok (.aload_n 0, 1) := by decide +kernel
theorem d_LL_addNumber_46 : decode b_LL_addNumber 46 = .ok (.getfield 10, 3) := by decide +kernel
theorem d_LL_addNumber_49 : decode b_LL_addNumber 49 = .ok (.bipush 85, 2) := by decide +kernel
theorem d_LL_addNumber_51 : decode b_LL_addNumber 51 = .ok (.iload_n 3, 1) := by decide +kernel
theorem d_LL_addNumber_52 : decode b_LL_addNumber 52 = .ok (.iconst 1, 1) := by decide +kernel
theorem d_LL_addNumber_53 : decode b_LL_addNumber 53 = .ok (.isub, 1) := by decide +kernel
theorem d_LL_addNumber_54 : decode b_LL_addNumber 54 = .ok (.iconst 5, 1) := by decide +kernel
theorem d_LL_addNumber_55 : decode b_LL_addNumber 55 = .ok (.irem, 1) := by decide +kernel
theorem d_LL_addNumber_56 : decode b_LL_addNumber 56 = .ok (.iadd, 1) := by decide +kernel
theorem d_LL_addNumber_57 : decode b_LL_addNumber 57 = .ok (.invokevirtual 28, 3) := by decide +kernel
theorem d_LL_addNumber_60 : decode b_LL_addNumber 60 = .ok (.iload_n 3, 1) := by decide +kernel
theorem d_LL_addNumber_61 : decode b_LL_addNumber 61 = .ok (.iconst 1, 1) := by decide +kernel
theorem d_LL_addNumber_62 : decode b_LL_addNumber 62 = .ok (.isub, 1) := by decide +kernel
theorem d_LL_addNumber_63 : decode b_LL_addNumber 63 = .ok (.iconst 5, 1) := by decide +kernel
theorem d_LL_addNumber_64 : decode b_LL_addNumber 64 = .ok (.idiv, 1) := by decide +kernel
theorem d_LL_addNumber_65 : decode b_LL_addNumber 65 = .ok (.istore_n 3, 1) := by decide +kernel
theorem d_LL_addNumber_66 : decode b_LL_addNumber 66 = .ok (.iinc 4 1, 3) := by decide +kernel
theorem d_LL_addNumber_69 : decode b_LL_addNumber 69 = .ok (.goto (-35), 3) := by decide +kernel
theorem d_LL_addNumber_72 : decode b_LL_addNumber 72 = .ok (.aload_n 0, 1) := by decide +kernel
theorem d_LL_addNumber_73 : decode b_LL_addNumber 73 = .ok (.getfield 10, 3) := by decide +kernel
theorem d_LL_addNumber_76 : decode b_LL_addNumber 76 = .ok (.iload_n 2, 1) := by decide +kernel
theorem d_LL_addNumber_77 : decode b_LL_addNumber 77 = .ok (.invokevirtual 31, 3) := by decide +kernel
theorem d_LL_addNumber_80 : decode b_LL_addNumber 80 = .ok (.return_, 1) := by decide +kernel
theorem d_ST_init_0 : decode b_ST_init 0 = .ok (.aload_n 0, 1) := by decide +kernel
theorem d_ST_init_1 : decode b_ST_init 1 = .ok (.invokespecial 3, 3) := by decide +kernel
theorem d_ST_init_4 : decode b_ST_init 4 = .ok (.aload_n 0, 1) := by decide +kernel
theorem d_ST_init_5 : decode b_ST_init 5 = .ok (.new 9, 3) := by decide +kernel
theorem d_ST_init_8 : decode b_ST_init 8 = .ok (.dup, 1) := by decide +kernel
theorem d_ST_init_9 : decode b_ST_init 9 = .ok (.invokespecial 11, 3) := by decide +kernel
theorem d_ST_init_12 : decode b_ST_init 12 = .ok (.putfield 12, 3) := by decide +kernel
theorem d_ST_init_15 : decode b_ST_init 15 = .ok (.aload_n 0, 1) := by decide +kernel
theorem d_ST_init_16 : decode b_ST_init 16 = .ok (.new 9, 3) := by decide +kernel
theorem d_ST_init_19 : decode b_ST_init 19 = .ok (.dup, 1) := by decide +kernel
theorem d_ST_init_20 : decode b_ST_init 20 = .ok (.invokespecial 11, 3) := by decide +kernel
theorem d_ST_init_23 : decode b_ST_init 23 = .ok (.putfield 18, 3) := by decide +kernel
theorem d_ST_init_26 : decode b_ST_init 26 = .ok (.aload_n 0, 1) := by decide +kernel
theorem d_ST_init_27 : decode b_ST_init 27 = .ok (.iconst 0, 1) := by decide +kernel
theorem d_ST_init_28 : decode b_ST_init 28 = .ok (.putfield 21, 3) := by decide +kernel
theorem d_ST_init_31 : decode b_ST_init 31 = .ok (.return_, 1) := by decide +kernel
theorem d_ST_amount_0 : decode b_ST_amount 0 = .ok (.aload_n 0, 1) := by decide +kernel
theorem d_ST_amount_1 : decode b_ST_amount 1 = .ok (.getfield 12, 3) := by decide +kernel
theorem d_ST_amount_4 : decode b_ST_amount 4 = .ok (.invokevirtual 25, 3) := by decide +kernel
theorem d_ST_amount_7 : decode b_ST_amount 7 = .ok (.ireturn, 1) := by decide +kernel
theorem d_ST_mandatories_0 : decode b_ST_mandatories 0 = .ok (.aload_n 0, 1) := by decide +kernel
theorem d_ST_mandatories_1 : decode b_ST_mandatories 1 = .ok (.getfield 21, 3) := by decide +kernel
theorem d_ST_mandatories_4 : decode b_ST_mandatories 4 = .ok (.ireturn, 1) := by decide +kernel
theorem d_ST_has_0 : decode b_ST_has 0 = .ok (.iload_n 1, 1) := by decide +kernel
theorem d_ST_has_1 : decode b_ST_has 1 = .ok (.ifCond .lt 18, 3) := by decide +kernel
theorem d_ST_has_4 : decode b_ST_has 4 = .ok (.iload_n 1, 1) := by decide +kernel
theorem d_ST_has_5 : decode b_ST_has 5 = .ok (.aload_n 0, 1) := by decide +kernel
theorem d_ST_has_6 : decode b_ST_has 6 = .ok (.getfield 12, 3) := by decide +kernel
theorem d_ST_has_9 : decode b_ST_has 9 = .ok (.invokevirtual 25, 3) := by decide +kernel
theorem d_ST_has_12 : decode b_ST_has 12 = .ok (.if_icmp .ge 7, 3) := by decide +kernel
theorem d_ST_has_15 : decode b_ST_has 15 = .ok (.iconst 1, 1) := by decide +kernel
theorem d_ST_has_16 : decode b_ST_has 16 = .ok (.goto 4, 3) := by decide +kernel
theorem d_ST_has_19 : decode b_ST_has 19 = .ok (.iconst 0, 1) := by decide +kernel
theorem d_ST_has_20 : decode b_ST_has 20 = .ok (.ireturn, 1) := by decide +kernel
theorem d_ST_taking_0 : decode b_ST_taking 0 = .ok (.aload_n 0, 1) := by decide +kernel
theorem d_ST_taking_1 : decode b_ST_taking 1 = .ok (.getfield 12, 3) := by decide +kernel
theorem d_ST_taking_4 : decode b_ST_taking 4 = .ok (.iload_n 1, 1) := by decide +kernel
theorem d_ST_taking_5 : decode b_ST_taking 5 = .ok (.invokevirtual 29, 3) := by decide +kernel
theorem d_ST_taking_8 : decode b_ST_taking 8 = .ok (.ireturn, 1) := by decide +kernel
theorem d_ST_isMandatory_0 : decode b_ST_isMandatory 0 = .ok (.aload_n 0, 1) := by decide +kernel
theorem d_ST_isMandatory_1 : decode b_ST_isMandatory 1 = .ok (.getfield 18, 3) := by decide +kernel
theorem d_ST_isMandatory_4 : decode b_ST_isMandatory 4 = .ok (.iload_n 1, 1) := by decide +kernel
theorem d_ST_isMandatory_5 : decode b_ST_isMandatory 5 = .ok (.invokevirtual 29, 3) := by decide +kernel
theorem d_ST_isMandatory_8 : decode b_ST_isMandatory 8 = .ok (.iconst (-1), 1) := by decide +kernel
theorem d_ST_isMandatory_9 : decode b_ST_isMandatory 9 = .ok (.if_icmp .eq 7, 3) := by decide +kernel
theorem d_ST_isMandatory_12 : decode b_ST_isMandatory 12 = .ok (.iconst 1, 1) := by decide +kernel
theorem d_ST_isMandatory_13 : decode b_ST_isMandatory 13 = .ok (.goto 4, 3) := by decide +kernel
theorem d_ST_isMandatory_16 : decode b_ST_isMandatory 16 = .ok (.iconst 0, 1) := by decide +kernel
theorem d_ST_isMandatory_17 : decode b_ST_isMandatory 17 = .ok (.ireturn, 1) := by decide +kernel
theorem d_ST_placeOf_0 : decode b_ST_placeOf 0 = .ok (.aload_n 0, 1) := by decide +kernel
theorem d_ST_placeOf_1 : decode b_ST_placeOf 1 = .ok (.getfield 18, 3) := by decide +kernel
theorem d_ST_placeOf_4 : decode b_ST_placeOf 4 = .ok (.iload_n 1, 1) := by decide +kernel
theorem d_ST_placeOf_5 : decode b_ST_placeOf 5 = .ok (.invokevirtual 29, 3) := by decide +kernel
theorem d_ST_placeOf_8 : decode b_ST_placeOf 8 = .ok (.ireturn, 1) := by decide +kernel
theorem d_ST_add_0 : decode b_ST_add 0 = .ok (.aload_n 0, 1) := by decide +kernel
theorem d_ST_add_1 : decode b_ST_add 1 = .ok (.getfield 12, 3) := by decide +kernel
theorem d_ST_add_4 : decode b_ST_add 4 = .ok (.iload_n 1, 1) := by decide +kernel
theorem d_ST_add_5 : decode b_ST_add 5 = .ok (.invokevirtual 33, 3) := by decide +kernel
theorem d_ST_add_8 : decode b_ST_add 8 = .ok (.aload_n 0, 1) := by decide +kernel
theorem d_ST_add_9 : decode b_ST_add 9 = .ok (.getfield 18, 3) := by decide +kernel
theorem d_ST_add_12 : decode b_ST_add 12 = .ok (.iconst (-1), 1) := by decide +kernel
theorem d_ST_add_13 : decode b_ST_add 13 = .ok (.invokevirtual 33, 3) := by decide +kernel
theorem d_ST_add_16 : decode b_ST_add 16 = .ok (.aload_n 0, 1) := by decide +kernel
theorem d_ST_add_17 : decode b_ST_add 17 = .ok (.getfield 12, 3) := by decide +kernel
theorem d_ST_add_20 : decode b_ST_add 20 = .ok (.invokevirtual 25, 3) := by decide +kernel
theorem d_ST_add_23 : decode b_ST_add 23 = .ok (.iconst 1, 1) := by decide +kernel
theorem d_ST_add_24 : decode b_ST_add 24 = .ok (.isub, 1) := by decide +kernel
theorem d_ST_add_25 : decode b_ST_add 25 = .ok (.ireturn, 1) := by decide +kernel
theorem d_ST_addMandatory_0 : decode b_ST_addMandatory 0 = .ok (.aload_n 0, 1) := by decide +kernel
theorem d_ST_addMandatory_1 : decode b_ST_addMandatory 1 = .ok (.getfield 18, 3) := by decide +kernel
theorem d_ST_addMandatory_4 : decode b_ST_addMandatory 4 = .ok (.iload_n 1, 1) := by decide +kernel
theorem d_ST_addMandatory_5 : decode b_ST_addMandatory 5 = .ok (.aload_n 0, 1) := by decide +kernel
theorem d_ST_addMandatory_6 : decode b_ST_addMandatory 6 = .ok (.getfield 21, 3) := by decide +kernel
theorem d_ST_addMandatory_9 : decode b_ST_addMandatory 9 = .ok (.invokevirtual 37, 3) := by decide +kernel
theorem d_ST_addMandatory_12 : decode b_ST_addMandatory 12 = .ok (.aload_n 0, 1) := by decide +kernel
theorem d_ST_addMandatory_13 : decode b_ST_addMandatory 13 = .ok (.dup, 1) := by decide +kernel
theorem d_ST_addMandatory_14 : decode b_ST_addMandatory 14 = .ok (.getfield 21, 3) := by decide +kernel
theorem d_ST_addMandatory_17 : decode b_ST_addMandatory 17 = .ok (.iconst 1, 1) := by decide +kernel
theorem d_ST_addMandatory_18 : decode b_ST_addMandatory 18 = .ok (.iadd, 1) := by decide +kernel
theorem d_ST_addMandatory_19 : decode b_ST_addMandatory 19 = .ok (.putfield 21, 3) := by decide +kernel
theorem d_ST_addMandatory_22 : decode b_ST_addMandatory 22 = .ok (.aload_n 0, 1) := by decide +kernel
theorem d_ST_addMandatory_23 : decode b_ST_addMandatory 23 = .ok (.getfield 21, 3) := by decide +kernel
theorem d_ST_addMandatory_26 : decode b_ST_addMandatory 26 = .ok (.ireturn, 1) := by decide +kernel
