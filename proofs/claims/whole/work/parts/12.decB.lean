theorem d_RW_init_0 : decode b_RW_init 0 = .ok (.aload_n 0, 1) := by decide +kernel
theorem d_RW_init_1 : decode b_RW_init 1 = .ok (.invokespecial 3, 3) := by decide +kernel
theorem d_RW_init_4 : decode b_RW_init 4 = .ok (.aload_n 0, 1) := by decide +kernel
theorem d_RW_init_5 : decode b_RW_init 5 = .ok (.new 9, 3) := by decide +kernel
theorem d_RW_init_8 : decode b_RW_init 8 = .ok (.dup, 1) := by decide +kernel
theorem d_RW_init_9 : decode b_RW_init 9 = .ok (.invokespecial 11, 3) := by decide +kernel
theorem d_RW_init_12 : decode b_RW_init 12 = .ok (.putfield 12, 3) := by decide +kernel
theorem d_RW_init_15 : decode b_RW_init 15 = .ok (.aload_n 0, 1) := by decide +kernel
theorem d_RW_init_16 : decode b_RW_init 16 = .ok (.new 9, 3) := by decide +kernel
theorem d_RW_init_19 : decode b_RW_init 19 = .ok (.dup, 1) := by decide +kernel
theorem d_RW_init_20 : decode b_RW_init 20 = .ok (.invokespecial 11, 3) := by decide +kernel
theorem d_RW_init_23 : decode b_RW_init 23 = .ok (.putfield 18, 3) := by decide +kernel
theorem d_RW_init_26 : decode b_RW_init 26 = .ok (.aload_n 0, 1) := by decide +kernel
theorem d_RW_init_27 : decode b_RW_init 27 = .ok (.getfield 18, 3) := by decide +kernel
theorem d_RW_init_30 : decode b_RW_init 30 = .ok (.iconst 0, 1) := by decide +kernel
theorem d_RW_init_31 : decode b_RW_init 31 = .ok (.invokevirtual 21, 3) := by decide +kernel
theorem d_RW_init_34 : decode b_RW_init 34 = .ok (.aload_n 0, 1) := by decide +kernel
theorem d_RW_init_35 : decode b_RW_init 35 = .ok (.new 9, 3) := by decide +kernel
theorem d_RW_init_38 : decode b_RW_init 38 = .ok (.dup, 1) := by decide +kernel
theorem d_RW_init_39 : decode b_RW_init 39 = .ok (.invokespecial 11, 3) := by decide +kernel
theorem d_RW_init_42 : decode b_RW_init 42 = .ok (.putfield 25, 3) := by decide +kernel
theorem d_RW_init_45 : decode b_RW_init 45 = .ok (.aload_n 0, 1) := by decide +kernel
theorem d_RW_init_46 : decode b_RW_init 46 = .ok (.new 9, 3) := by decide +kernel
theorem d_RW_init_49 : decode b_RW_init 49 = .ok (.dup, 1) := by decide +kernel
theorem d_RW_init_50 : decode b_RW_init 50 = .ok (.invokespecial 11, 3) := by decide +kernel
theorem d_RW_init_53 : decode b_RW_init 53 = .ok (.putfield 28, 3) := by decide +kernel
theorem d_RW_init_56 : decode b_RW_init 56 = .ok (.aload_n 0, 1) := by decide +kernel
theorem d_RW_init_57 : decode b_RW_init 57 = .ok (.new 9, 3) := by decide +kernel
theorem d_RW_init_60 : decode b_RW_init 60 = .ok (.dup, 1) := by decide +kernel
theorem d_RW_init_61 : decode b_RW_init 61 = .ok (.invokespecial 11, 3) := by decide +kernel
theorem d_RW_init_64 : decode b_RW_init 64 = .ok (.putfield 31, 3) := by decide +kernel
theorem d_RW_init_67 : decode b_RW_init 67 = .ok (.aload_n 0, 1) := by decide +kernel
theorem d_RW_init_68 : decode b_RW_init 68 = .ok (.new 9, 3) := by decide +kernel
theorem d_RW_init_71 : decode b_RW_init 71 = .ok (.dup, 1) := by decide +kernel
theorem d_RW_init_72 : decode b_RW_init 72 = .ok (.invokespecial 11, 3) := by decide +kernel
theorem d_RW_init_75 : decode b_RW_init 75 = .ok (.putfield 34, 3) := by decide +kernel
theorem d_RW_init_78 : decode b_RW_init 78 = .ok (.aload_n 0, 1) := by decide +kernel
theorem d_RW_init_79 : decode b_RW_init 79 = .ok (.new 9, 3) := by decide +kernel
theorem d_RW_init_82 : decode b_RW_init 82 = .ok (.dup, 1) := by decide +kernel
theorem d_RW_init_83 : decode b_RW_init 83 = .ok (.invokespecial 11, 3) := by decide +kernel
theorem d_RW_init_86 : decode b_RW_init 86 = .ok (.putfield 37, 3) := by decide +kernel
theorem d_RW_init_89 : decode b_RW_init 89 = .ok (.aload_n 0, 1) := by decide +kernel
theorem d_RW_init_90 : decode b_RW_init 90 = .ok (.sipush 512, 3) := by decide +kernel
theorem d_RW_init_93 : decode b_RW_init 93 = .ok (.newarray .int, 2) := by decide +kernel
theorem d_RW_init_95 : decode b_RW_init 95 = .ok (.putfield 40, 3) := by decide +kernel
theorem d_RW_init_98 : decode b_RW_init 98 = .ok (.aload_n 0, 1) := by decide +kernel
theorem d_RW_init_99 : decode b_RW_init 99 = .ok (.getfield 40, 3) := by decide +kernel
theorem d_RW_init_102 : decode b_RW_init 102 = .ok (.iconst (-1), 1) := by decide +kernel
theorem d_RW_init_103 : decode b_RW_init 103 = .ok (.invokestatic 44, 3) := by decide +kernel
theorem d_RW_init_106 : decode b_RW_init 106 = .ok (.aload_n 0, 1) := by decide +kernel
theorem d_RW_init_107 : decode b_RW_init 107 = .ok (.bipush 16, 2) := by decide +kernel
theorem d_RW_init_109 : decode b_RW_init 109 = .ok (.newarray .long, 2) := by decide +kernel
theorem d_RW_init_111 : decode b_RW_init 111 = .ok (.putfield 50, 3) := by decide +kernel
theorem d_RW_init_114 : decode b_RW_init 114 = .ok (.return_, 1) := by decide +kernel
theorem d_RW_forget_0 : decode b_RW_forget 0 = .ok (.aload_n 0, 1) := by decide +kernel
theorem d_RW_forget_1 : decode b_RW_forget 1 = .ok (.getfield 12, 3) := by decide +kernel
theorem d_RW_forget_4 : decode b_RW_forget 4 = .ok (.iconst 0, 1) := by decide +kernel
theorem d_RW_forget_5 : decode b_RW_forget 5 = .ok (.invokevirtual 54, 3) := by decide +kernel
theorem d_RW_forget_8 : decode b_RW_forget 8 = .ok (.aload_n 0, 1) := by decide +kernel
theorem d_RW_forget_9 : decode b_RW_forget 9 = .ok (.getfield 18, 3) := by decide +kernel
theorem d_RW_forget_12 : decode b_RW_forget 12 = .ok (.iconst 1, 1) := by decide +kernel
theorem d_RW_forget_13 : decode b_RW_forget 13 = .ok (.invokevirtual 54, 3) := by decide +kernel
theorem d_RW_forget_16 : decode b_RW_forget 16 = .ok (.aload_n 0, 1) := by decide +kernel
theorem d_RW_forget_17 : decode b_RW_forget 17 = .ok (.getfield 25, 3) := by decide +kernel
theorem d_RW_forget_20 : decode b_RW_forget 20 = .ok (.iconst 0, 1) := by decide +kernel
theorem d_RW_forget_21 : decode b_RW_forget 21 = .ok (.invokevirtual 54, 3) := by decide +kernel
theorem d_RW_forget_24 : decode b_RW_forget 24 = .ok (.aload_n 0, 1) := by decide +kernel
theorem d_RW_forget_25 : decode b_RW_forget 25 = .ok (.getfield 28, 3) := by decide +kernel
theorem d_RW_forget_28 : decode b_RW_forget 28 = .ok (.iconst 0, 1) := by decide +kernel
theorem d_RW_forget_29 : decode b_RW_forget 29 = .ok (.invokevirtual 54, 3) := by decide +kernel
theorem d_RW_forget_32 : decode b_RW_forget 32 = .ok (.aload_n 0, 1) := by decide +kernel
theorem d_RW_forget_33 : decode b_RW_forget 33 = .ok (.getfield 31, 3) := by decide +kernel
theorem d_RW_forget_36 : decode b_RW_forget 36 = .ok (.iconst 0, 1) := by decide +kernel
theorem d_RW_forget_37 : decode b_RW_forget 37 = .ok (.invokevirtual 54, 3) := by decide +kernel
theorem d_RW_forget_40 : decode b_RW_forget 40 = .ok (.aload_n 0, 1) := by decide +kernel
theorem d_RW_forget_41 : decode b_RW_forget 41 = .ok (.getfield 34, 3) := by decide +kernel
theorem d_RW_forget_44 : decode b_RW_forget 44 = .ok (.iconst 0, 1) := by decide +kernel
theorem d_RW_forget_45 : decode b_RW_forget 45 = .ok (.invokevirtual 54, 3) := by decide +kernel
theorem d_RW_forget_48 : decode b_RW_forget 48 = .ok (.aload_n 0, 1) := by decide +kernel
theorem d_RW_forget_49 : decode b_RW_forget 49 = .ok (.getfield 37, 3) := by decide +kernel
theorem d_RW_forget_52 : decode b_RW_forget 52 = .ok (.iconst 0, 1) := by decide +kernel
theorem d_RW_forget_53 : decode b_RW_forget 53 = .ok (.invokevirtual 54, 3) := by decide +kernel
theorem d_RW_forget_56 : decode b_RW_forget 56 = .ok (.aload_n 0, 1) := by decide +kernel
theorem d_RW_forget_57 : decode b_RW_forget 57 = .ok (.getfield 40, 3) := by decide +kernel
theorem d_RW_forget_60 : decode b_RW_forget 60 = .ok (.iconst (-1), 1) := by decide +kernel
theorem d_RW_forget_61 : decode b_RW_forget 61 = .ok (.invokestatic 44, 3) := by decide +kernel
theorem d_RW_forget_64 : decode b_RW_forget 64 = .ok (.return_, 1) := by decide +kernel
theorem d_RW_amount_0 : decode b_RW_amount 0 = .ok (.aload_n 0, 1) := by decide +kernel
theorem d_RW_amount_1 : decode b_RW_amount 1 = .ok (.getfield 12, 3) := by decide +kernel
theorem d_RW_amount_4 : decode b_RW_amount 4 = .ok (.invokevirtual 57, 3) := by decide +kernel
theorem d_RW_amount_7 : decode b_RW_amount 7 = .ok (.ireturn, 1) := by decide +kernel
theorem d_RW_amountOfKinds_0 : decode b_RW_amountOfKinds 0 = .ok (.aload_n 0, 1) := by decide +kernel
theorem d_RW_amountOfKinds_1 : decode b_RW_amountOfKinds 1 = .ok (.getfield 34, 3) := by decide +kernel
theorem d_RW_amountOfKinds_4 : decode b_RW_amountOfKinds 4 = .ok (.invokevirtual 57, 3) := by decide +kernel
theorem d_RW_amountOfKinds_7 : decode b_RW_amountOfKinds 7 = .ok (.ireturn, 1) := by decide +kernel
theorem d_RW_has_0 : decode b_RW_has 0 = .ok (.iload_n 1, 1) := by decide +kernel
theorem d_RW_has_1 : decode b_RW_has 1 = .ok (.ifCond .lt 18, 3) := by decide +kernel
theorem d_RW_has_4 : decode b_RW_has 4 = .ok (.iload_n 1, 1) := by decide +kernel
theorem d_RW_has_5 : decode b_RW_has 5 = .ok (.aload_n 0, 1) := by decide +kernel
theorem d_RW_has_6 : decode b_RW_has 6 = .ok (.getfield 12, 3) := by decide +kernel
theorem d_RW_has_9 : decode b_RW_has 9 = .ok (.invokevirtual 57, 3) := by decide +kernel
theorem d_RW_has_12 : decode b_RW_has 12 = .ok (.if_icmp .ge 7, 3) := by decide +kernel
theorem d_RW_has_15 : decode b_RW_has 15 = .ok (.iconst 1, 1) := by decide +kernel
theorem d_RW_has_16 : decode b_RW_has 16 = .ok (.goto 4, 3) := by decide +kernel
theorem d_RW_has_19 : decode b_RW_has 19 = .ok (.iconst 0, 1) := by decide +kernel
theorem d_RW_has_20 : decode b_RW_has 20 = .ok (.ireturn, 1) := by decide +kernel
theorem d_RW_statementOf_0 : decode b_RW_statementOf 0 = .ok (.aload_n 0, 1) := by decide +kernel
theorem d_RW_statementOf_1 : decode b_RW_statementOf 1 = .ok (.getfield 12, 3) := by decide +kernel
theorem d_RW_statementOf_4 : decode b_RW_statementOf 4 = .ok (.iload_n 1, 1) := by decide +kernel
theorem d_RW_statementOf_5 : decode b_RW_statementOf 5 = .ok (.invokevirtual 61, 3) := by decide +kernel
theorem d_RW_statementOf_8 : decode b_RW_statementOf 8 = .ok (.ireturn, 1) := by decide +kernel
theorem d_RW_kindOf_0 : decode b_RW_kindOf 0 = .ok (.aload_n 0, 1) := by decide +kernel
theorem d_RW_kindOf_1 : decode b_RW_kindOf 1 = .ok (.getfield 31, 3) := by decide +kernel
theorem d_RW_kindOf_4 : decode b_RW_kindOf 4 = .ok (.iload_n 1, 1) := by decide +kernel
theorem d_RW_kindOf_5 : decode b_RW_kindOf 5 = .ok (.invokevirtual 61, 3) := by decide +kernel
theorem d_RW_kindOf_8 : decode b_RW_kindOf 8 = .ok (.ireturn, 1) := by decide +kernel
theorem d_RW_amountOfParts_0 : decode b_RW_amountOfParts 0 = .ok (.aload_n 0, 1) := by decide +kernel
theorem d_RW_amountOfParts_1 : decode b_RW_amountOfParts 1 = .ok (.iload_n 1, 1) := by decide +kernel
theorem d_RW_amountOfParts_2 : decode b_RW_amountOfParts 2 = .ok (.invokevirtual 65, 3) := by decide +kernel
theorem d_RW_amountOfParts_5 : decode b_RW_amountOfParts 5 = .ok (.ifCond .eq 25, 3) := by decide +kernel
theorem d_RW_amountOfParts_8 : decode b_RW_amountOfParts 8 = .ok (.aload_n 0, 1) := by decide +kernel
theorem d_RW_amountOfParts_9 : decode b_RW_amountOfParts 9 = .ok (.getfield 18, 3) := by decide +kernel
theorem d_RW_amountOfParts_12 : decode b_RW_amountOfParts 12 = .ok (.iload_n 1, 1) := by decide +kernel
theorem d_RW_amountOfParts_13 : decode b_RW_amountOfParts 13 = .ok (.iconst 1, 1) := by decide +kernel
theorem d_RW_amountOfParts_14 : decode b_RW_amountOfParts 14 = .ok (.iadd, 1) := by decide +kernel
theorem d_RW_amountOfParts_15 : decode b_RW_amountOfParts 15 = .ok (.invokevirtual 61, 3) := by decide +kernel
theorem d_RW_amountOfParts_18 : decode b_RW_amountOfParts 18 = .ok (.aload_n 0, 1) := by decide +kernel
theorem d_RW_amountOfParts_19 : decode b_RW_amountOfParts 19 = .ok (.getfield 18, 3) := by decide +kernel
theorem d_RW_amountOfParts_22 : decode b_RW_amountOfParts 22 = .ok (.iload_n 1, 1) := by decide +kernel
theorem d_RW_amountOfParts_23 : decode b_RW_amountOfParts 23 = .ok (.invokevirtual 61, 3) := by decide +kernel
theorem d_RW_amountOfParts_26 : decode b_RW_amountOfParts 26 = .ok (.isub, 1) := by decide +kernel
theorem d_RW_amountOfParts_27 : decode b_RW_amountOfParts 27 = .ok (.goto 4, 3) := by decide +kernel
theorem d_RW_amountOfParts_30 : decode b_RW_amountOfParts 30 = .ok (.iconst 0, 1) := by decide +kernel
theorem d_RW_amountOfParts_31 : decode b_RW_amountOfParts 31 = .ok (.ireturn, 1) := by decide +kernel
theorem d_RW_part_0 : decode b_RW_part 0 = .ok (.iload_n 2, 1) := by decide +kernel
theorem d_RW_part_1 : decode b_RW_part 1 = .ok (.ifCond .lt 32, 3) := by decide +kernel
theorem d_RW_part_4 : decode b_RW_part 4 = .ok (.iload_n 2, 1) := by decide +kernel
theorem d_RW_part_5 : decode b_RW_part 5 = .ok (.aload_n 0, 1) := by decide +kernel
theorem d_RW_part_6 : decode b_RW_part 6 = .ok (.iload_n 1, 1) := by decide +kernel
theorem d_RW_part_7 : decode b_RW_part 7 = .ok (.invokevirtual 69, 3) := by decide +kernel
theorem d_RW_part_10 : decode b_RW_part 10 = .ok (.if_icmp .ge 23, 3) := by decide +kernel
theorem d_RW_part_13 : decode b_RW_part 13 = .ok (.aload_n 0, 1) := by decide +kernel
theorem d_RW_part_14 : decode b_RW_part 14 = .ok (.getfield 25, 3) := by decide +kernel
theorem d_RW_part_17 : decode b_RW_part 17 = .ok (.aload_n 0, 1) := by decide +kernel
theorem d_RW_part_18 : decode b_RW_part 18 = .ok (.getfield 18, 3) := by decide +kernel
theorem d_RW_part_21 : decode b_RW_part 21 = .ok (.iload_n 1, 1) := by decide +kernel
theorem d_RW_part_22 : decode b_RW_part 22 = .ok (.invokevirtual 61, 3) := by decide +kernel
theorem d_RW_part_25 : decode b_RW_part 25 = .ok (.iload_n 2, 1) := by decide +kernel
theorem d_RW_part_26 : decode b_RW_part 26 = .ok (.iadd, 1) := by decide +kernel
theorem d_RW_part_27 : decode b_RW_part 27 = .ok (.invokevirtual 61, 3) := by decide +kernel
theorem d_RW_part_30 : decode b_RW_part 30 = .ok (.goto 4, 3) := by decide +kernel
theorem d_RW_part_33 : decode b_RW_part 33 = .ok (.iconst (-1), 1) := by decide +kernel
theorem d_RW_part_34 : decode b_RW_part 34 = .ok (.ireturn, 1) := by decide +kernel
theorem d_RW_stepsInFull_0 : decode b_RW_stepsInFull 0 = .ok (.aload_n 0, 1) := by decide +kernel
theorem d_RW_stepsInFull_1 : decode b_RW_stepsInFull 1 = .ok (.iload_n 1, 1) := by decide +kernel
theorem d_RW_stepsInFull_2 : decode b_RW_stepsInFull 2 = .ok (.invokevirtual 65, 3) := by decide +kernel
theorem d_RW_stepsInFull_5 : decode b_RW_stepsInFull 5 = .ok (.ifCond .eq 21, 3) := by decide +kernel
theorem d_RW_stepsInFull_8 : decode b_RW_stepsInFull 8 = .ok (.iload_n 1, 1) := by decide +kernel
theorem d_RW_stepsInFull_9 : decode b_RW_stepsInFull 9 = .ok (.aload_n 0, 1) := by decide +kernel
theorem d_RW_stepsInFull_10 : decode b_RW_stepsInFull 10 = .ok (.getfield 50, 3) := by decide +kernel
theorem d_RW_stepsInFull_13 : decode b_RW_stepsInFull 13 = .ok (.arraylength, 1) := by decide +kernel
theorem d_RW_stepsInFull_14 : decode b_RW_stepsInFull 14 = .ok (.if_icmp .ge 12, 3) := by decide +kernel
theorem d_RW_stepsInFull_17 : decode b_RW_stepsInFull 17 = .ok (.aload_n 0, 1) := by decide +kernel
theorem d_RW_stepsInFull_18 : decode b_RW_stepsInFull 18 = .ok (.getfield 50, 3) := by decide +kernel
theorem d_RW_stepsInFull_21 : decode b_RW_stepsInFull 21 = .ok (.iload_n 1, 1) := by decide +kernel
theorem d_RW_stepsInFull_22 : decode b_RW_stepsInFull 22 = .ok (.laload, 1) := by decide +kernel
theorem d_RW_stepsInFull_23 : decode b_RW_stepsInFull 23 = .ok (.goto 4, 3) := by decide +kernel
theorem d_RW_stepsInFull_26 : decode b_RW_stepsInFull 26 = .ok (.lconst 0, 1) := by decide +kernel
theorem d_RW_stepsInFull_27 : decode b_RW_stepsInFull 27 = .ok (.lreturn, 1) := by decide +kernel
theorem d_RW_add_0 : decode b_RW_add 0 = .ok (.aload_n 0, 1) := by decide +kernel
theorem d_RW_add_1 : decode b_RW_add 1 = .ok (.invokevirtual 72, 3) := by decide +kernel
theorem d_RW_add_4 : decode b_RW_add 4 = .ok (.istore 4, 2) := by decide +kernel
theorem d_RW_add_6 : decode b_RW_add 6 = .ok (.aload_n 0, 1) := by decide +kernel
theorem d_RW_add_7 : decode b_RW_add 7 = .ok (.getfield 25, 3) := by decide +kernel
theorem d_RW_add_10 : decode b_RW_add 10 = .ok (.invokevirtual 57, 3) := by decide +kernel
theorem d_RW_add_13 : decode b_RW_add 13 = .ok (.istore 5, 2) := by decide +kernel
theorem d_RW_add_15 : decode b_RW_add 15 = .ok (.iload_n 3, 1) := by decide +kernel
theorem d_RW_add_16 : decode b_RW_add 16 = .ok (.istore 6, 2) := by decide +kernel
theorem d_RW_add_18 : decode b_RW_add 18 = .ok (.iload 6, 2) := by decide +kernel
theorem d_RW_add_20 : decode b_RW_add 20 = .ok (.aload_n 2, 1) := by decide +kernel
theorem d_RW_add_21 : decode b_RW_add 21 = .ok (.invokevirtual 57, 3) := by decide +kernel
theorem d_RW_add_24 : decode b_RW_add 24 = .ok (.if_icmp .ge 39, 3) := by decide +kernel
theorem d_RW_add_27 : decode b_RW_add 27 = .ok (.aload_n 0, 1) := by decide +kernel
theorem d_RW_add_28 : decode b_RW_add 28 = .ok (.getfield 25, 3) := by decide +kernel
theorem d_RW_add_31 : decode b_RW_add 31 = .ok (.aload_n 2, 1) := by decide +kernel
theorem d_RW_add_32 : decode b_RW_add 32 = .ok (.iload 6, 2) := by decide +kernel
theorem d_RW_add_34 : decode b_RW_add 34 = .ok (.invokevirtual 61, 3) := by decide +kernel
theorem d_RW_add_37 : decode b_RW_add 37 = .ok (.invokevirtual 21, 3) := by decide +kernel
theorem d_RW_add_40 : decode b_RW_add 40 = .ok (.aload_n 0, 1) := by decide +kernel
theorem d_RW_add_41 : decode b_RW_add 41 = .ok (.getfield 28, 3) := by decide +kernel
theorem d_RW_add_44 : decode b_RW_add 44 = .ok (.aload_n 0, 1) := by decide +kernel
theorem d_RW_add_45 : decode b_RW_add 45 = .ok (.aload_n 2, 1) := by decide +kernel
theorem d_RW_add_46 : decode b_RW_add 46 = .ok (.iload 6, 2) := by decide +kernel
theorem d_RW_add_48 : decode b_RW_add 48 = .ok (.invokevirtual 61, 3) := by decide +kernel
theorem d_RW_add_51 : decode b_RW_add 51 = .ok (.invokevirtual 75, 3) := by decide +kernel
theorem d_RW_add_54 : decode b_RW_add 54 = .ok (.invokevirtual 21, 3) := by decide +kernel
theorem d_RW_add_57 : decode b_RW_add 57 = .ok (.iinc 6 1, 3) := by decide +kernel
theorem d_RW_add_60 : decode b_RW_add 60 = .ok (.goto (-42), 3) := by decide +kernel
theorem d_RW_add_63 : decode b_RW_add 63 = .ok (.aload_n 0, 1) := by decide +kernel
theorem d_RW_add_64 : decode b_RW_add 64 = .ok (.getfield 18, 3) := by decide +kernel
theorem d_RW_add_67 : decode b_RW_add 67 = .ok (.aload_n 0, 1) := by decide +kernel
theorem d_RW_add_68 : decode b_RW_add 68 = .ok (.getfield 25, 3) := by decide +kernel
theorem d_RW_add_71 : decode b_RW_add 71 = .ok (.invokevirtual 57, 3) := by decide +kernel
theorem d_RW_add_74 : decode b_RW_add 74 = .ok (.invokevirtual 21, 3) := by decide +kernel
theorem d_RW_add_77 : decode b_RW_add 77 = .ok (.aload_n 0, 1) := by decide +kernel
theorem d_RW_add_78 : decode b_RW_add 78 = .ok (.getfield 12, 3) := by decide +kernel
theorem d_RW_add_81 : decode b_RW_add 81 = .ok (.iload_n 1, 1) := by decide +kernel
theorem d_RW_add_82 : decode b_RW_add 82 = .ok (.invokevirtual 21, 3) := by decide +kernel
theorem d_RW_add_85 : decode b_RW_add 85 = .ok (.aload_n 0, 1) := by decide +kernel
theorem d_RW_add_86 : decode b_RW_add 86 = .ok (.getfield 31, 3) := by decide +kernel
theorem d_RW_add_89 : decode b_RW_add 89 = .ok (.aload_n 0, 1) := by decide +kernel
theorem d_RW_add_90 : decode b_RW_add 90 = .ok (.iload 4, 2) := by decide +kernel
theorem d_RW_add_92 : decode b_RW_add 92 = .ok (.iload 5, 2) := by decide +kernel
theorem d_RW_add_94 : decode b_RW_add 94 = .ok (.invokevirtual 78, 3) := by decide +kernel
theorem d_RW_add_97 : decode b_RW_add 97 = .ok (.invokevirtual 21, 3) := by decide +kernel
theorem d_RW_add_100 : decode b_RW_add 100 = .ok (.aload_n 0, 1) := by decide +kernel
theorem d_RW_add_101 : decode b_RW_add 101 = .ok (.iload 4, 2) := by decide +kernel
theorem d_RW_add_103 : decode b_RW_add 103 = .ok (.aload_n 0, 1) := by decide +kernel
theorem d_RW_add_104 : decode b_RW_add 104 = .ok (.iload 4, 2) := by decide +kernel
theorem d_RW_add_106 : decode b_RW_add 106 = .ok (.invokevirtual 82, 3) := by decide +kernel
theorem d_RW_add_109 : decode b_RW_add 109 = .ok (.invokevirtual 86, 3) := by decide +kernel
theorem d_RW_add_112 : decode b_RW_add 112 = .ok (.iload 4, 2) := by decide +kernel
theorem d_RW_add_114 : decode b_RW_add 114 = .ok (.ireturn, 1) := by decide +kernel
theorem d_RW_kindOfNewRow_0 : decode b_RW_kindOfNewRow 0 = .ok (.aload_n 0, 1) := by decide +kernel
theorem d_RW_kindOfNewRow_1 : decode b_RW_kindOfNewRow 1 = .ok (.aload_n 0, 1) := by decide +kernel
theorem d_RW_kindOfNewRow_2 : decode b_RW_kindOfNewRow 2 = .ok (.iload_n 1, 1) := by decide +kernel
theorem d_RW_kindOfNewRow_3 : decode b_RW_kindOfNewRow 3 = .ok (.invokevirtual 90, 3) := by decide +kernel
theorem d_RW_kindOfNewRow_6 : decode b_RW_kindOfNewRow 6 = .ok (.aload_n 0, 1) := by decide +kernel
theorem d_RW_kindOfNewRow_7 : decode b_RW_kindOfNewRow 7 = .ok (.getfield 28, 3) := by decide +kernel
theorem d_RW_kindOfNewRow_10 : decode b_RW_kindOfNewRow 10 = .ok (.iload_n 2, 1) := by decide +kernel
theorem d_RW_kindOfNewRow_11 : decode b_RW_kindOfNewRow 11 = .ok (.invokevirtual 93, 3) := by decide +kernel
theorem d_RW_kindOfNewRow_14 : decode b_RW_kindOfNewRow 14 = .ok (.istore_n 3, 1) := by decide +kernel
theorem d_RW_kindOfNewRow_15 : decode b_RW_kindOfNewRow 15 = .ok (.iload_n 3, 1) := by decide +kernel
theorem d_RW_kindOfNewRow_16 : decode b_RW_kindOfNewRow 16 = .ok (.iconst (-1), 1) := by decide +kernel
theorem d_RW_kindOfNewRow_17 : decode b_RW_kindOfNewRow 17 = .ok (.if_icmp .eq 5, 3) := by decide +kernel
theorem d_RW_kindOfNewRow_20 : decode b_RW_kindOfNewRow 20 = .ok (.iload_n 3, 1) := by decide +kernel
theorem d_RW_kindOfNewRow_21 : decode b_RW_kindOfNewRow 21 = .ok (.ireturn, 1) := by decide +kernel
theorem d_RW_kindOfNewRow_22 : decode b_RW_kindOfNewRow 22 = .ok (.aload_n 0, 1) := by decide +kernel
theorem d_RW_kindOfNewRow_23 : decode b_RW_kindOfNewRow 23 = .ok (.invokevirtual 97, 3) := by decide +kernel
theorem d_RW_kindOfNewRow_26 : decode b_RW_kindOfNewRow 26 = .ok (.istore 4, 2) := by decide +kernel
theorem d_RW_kindOfNewRow_28 : decode b_RW_kindOfNewRow 28 = .ok (.aload_n 0, 1) := by decide +kernel
theorem d_RW_kindOfNewRow_29 : decode b_RW_kindOfNewRow 29 = .ok (.aload_n 0, 1) := by decide +kernel
theorem d_RW_kindOfNewRow_30 : decode b_RW_kindOfNewRow 30 = .ok (.iload_n 1, 1) := by decide +kernel
theorem d_RW_kindOfNewRow_31 : decode b_RW_kindOfNewRow 31 = .ok (.invokevirtual 90, 3) := by decide +kernel
theorem d_RW_kindOfNewRow_34 : decode b_RW_kindOfNewRow 34 = .ok (.aload_n 0, 1) := by decide +kernel
theorem d_RW_kindOfNewRow_35 : decode b_RW_kindOfNewRow 35 = .ok (.getfield 28, 3) := by decide +kernel
theorem d_RW_kindOfNewRow_38 : decode b_RW_kindOfNewRow 38 = .ok (.iload_n 2, 1) := by decide +kernel
theorem d_RW_kindOfNewRow_39 : decode b_RW_kindOfNewRow 39 = .ok (.invokevirtual 100, 3) := by decide +kernel
theorem d_RW_kindOfNewRow_42 : decode b_RW_kindOfNewRow 42 = .ok (.istore 5, 2) := by decide +kernel
theorem d_RW_kindOfNewRow_44 : decode b_RW_kindOfNewRow 44 = .ok (.aload_n 0, 1) := by decide +kernel
theorem d_RW_kindOfNewRow_45 : decode b_RW_kindOfNewRow 45 = .ok (.getfield 34, 3) := by decide +kernel
theorem d_RW_kindOfNewRow_48 : decode b_RW_kindOfNewRow 48 = .ok (.iload_n 1, 1) := by decide +kernel
theorem d_RW_kindOfNewRow_49 : decode b_RW_kindOfNewRow 49 = .ok (.invokevirtual 21, 3) := by decide +kernel
theorem d_RW_kindOfNewRow_52 : decode b_RW_kindOfNewRow 52 = .ok (.aload_n 0, 1) := by decide +kernel
theorem d_RW_kindOfNewRow_53 : decode b_RW_kindOfNewRow 53 = .ok (.getfield 37, 3) := by decide +kernel
theorem d_RW_kindOfNewRow_56 : decode b_RW_kindOfNewRow 56 = .ok (.aload_n 0, 1) := by decide +kernel
theorem d_RW_kindOfNewRow_57 : decode b_RW_kindOfNewRow 57 = .ok (.getfield 40, 3) := by decide +kernel
theorem d_RW_kindOfNewRow_60 : decode b_RW_kindOfNewRow 60 = .ok (.iload 5, 2) := by decide +kernel
theorem d_RW_kindOfNewRow_62 : decode b_RW_kindOfNewRow 62 = .ok (.iaload, 1) := by decide +kernel
theorem d_RW_kindOfNewRow_63 : decode b_RW_kindOfNewRow 63 = .ok (.invokevirtual 21, 3) := by decide +kernel
theorem d_RW_kindOfNewRow_66 : decode b_RW_kindOfNewRow 66 = .ok (.aload_n 0, 1) := by decide +kernel
theorem d_RW_kindOfNewRow_67 : decode b_RW_kindOfNewRow 67 = .ok (.getfield 40, 3) := by decide +kernel
theorem d_RW_kindOfNewRow_70 : decode b_RW_kindOfNewRow 70 = .ok (.iload 5, 2) := by decide +kernel
theorem d_RW_kindOfNewRow_72 : decode b_RW_kindOfNewRow 72 = .ok (.iload 4, 2) := by decide +kernel
theorem d_RW_kindOfNewRow_74 : decode b_RW_kindOfNewRow 74 = .ok (.iastore, 1) := by decide +kernel
theorem d_RW_kindOfNewRow_75 : decode b_RW_kindOfNewRow 75 = .ok (.iload 4, 2) := by decide +kernel
theorem d_RW_kindOfNewRow_77 : decode b_RW_kindOfNewRow 77 = .ok (.ireturn, 1) := by decide +kernel
theorem d_RW_kindMadeOf_0 : decode b_RW_kindMadeOf 0 = .ok (.aload_n 0, 1) := by decide +kernel
theorem d_RW_kindMadeOf_1 : decode b_RW_kindMadeOf 1 = .ok (.getfield 40, 3) := by decide +kernel
theorem d_RW_kindMadeOf_4 : decode b_RW_kindMadeOf 4 = .ok (.aload_n 0, 1) := by decide +kernel
theorem d_RW_kindMadeOf_5 : decode b_RW_kindMadeOf 5 = .ok (.iload_n 1, 1) := by decide +kernel
theorem d_RW_kindMadeOf_6 : decode b_RW_kindMadeOf 6 = .ok (.aload_n 2, 1) := by decide +kernel
theorem d_RW_kindMadeOf_7 : decode b_RW_kindMadeOf 7 = .ok (.iload_n 3, 1) := by decide +kernel
theorem d_RW_kindMadeOf_8 : decode b_RW_kindMadeOf 8 = .ok (.invokevirtual 100, 3) := by decide +kernel
theorem d_RW_kindMadeOf_11 : decode b_RW_kindMadeOf 11 = .ok (.iaload, 1) := by decide +kernel
theorem d_RW_kindMadeOf_12 : decode b_RW_kindMadeOf 12 = .ok (.istore 4, 2) := by decide +kernel
theorem d_RW_kindMadeOf_14 : decode b_RW_kindMadeOf 14 = .ok (.iconst 0, 1) := by decide +kernel
theorem d_RW_kindMadeOf_15 : decode b_RW_kindMadeOf 15 = .ok (.istore 5, 2) := by decide +kernel
theorem d_RW_kindMadeOf_17 : decode b_RW_kindMadeOf 17 = .ok (.iload 5, 2) := by decide +kernel
theorem d_RW_kindMadeOf_19 : decode b_RW_kindMadeOf 19 = .ok (.aload_n 0, 1) := by decide +kernel
theorem d_RW_kindMadeOf_20 : decode b_RW_kindMadeOf 20 = .ok (.invokevirtual 97, 3) := by decide +kernel
theorem d_RW_kindMadeOf_23 : decode b_RW_kindMadeOf 23 = .ok (.if_icmp .ge 41, 3) := by decide +kernel
theorem d_RW_kindMadeOf_26 : decode b_RW_kindMadeOf 26 = .ok (.iload 4, 2) := by decide +kernel
theorem d_RW_kindMadeOf_28 : decode b_RW_kindMadeOf 28 = .ok (.iconst (-1), 1) := by decide +kernel
theorem d_RW_kindMadeOf_29 : decode b_RW_kindMadeOf 29 = .ok (.if_icmp .eq 35, 3) := by decide +kernel
theorem d_RW_kindMadeOf_32 : decode b_RW_kindMadeOf 32 = .ok (.aload_n 0, 1) := by decide +kernel
theorem d_RW_kindMadeOf_33 : decode b_RW_kindMadeOf 33 = .ok (.iload 4, 2) := by decide +kernel
theorem d_RW_kindMadeOf_35 : decode b_RW_kindMadeOf 35 = .ok (.iload_n 1, 1) := by decide +kernel
theorem d_RW_kindMadeOf_36 : decode b_RW_kindMadeOf 36 = .ok (.aload_n 2, 1) := by decide +kernel
theorem d_RW_kindMadeOf_37 : decode b_RW_kindMadeOf 37 = .ok (.iload_n 3, 1) := by decide +kernel
theorem d_RW_kindMadeOf_38 : decode b_RW_kindMadeOf 38 = .ok (.invokevirtual 103, 3) := by decide +kernel
theorem d_RW_kindMadeOf_41 : decode b_RW_kindMadeOf 41 = .ok (.ifCond .eq 6, 3) := by decide +kernel
theorem d_RW_kindMadeOf_44 : decode b_RW_kindMadeOf 44 = .ok (.iload 4, 2) := by decide +kernel
theorem d_RW_kindMadeOf_46 : decode b_RW_kindMadeOf 46 = .ok (.ireturn, 1) := by decide +kernel
theorem d_RW_kindMadeOf_47 : decode b_RW_kindMadeOf 47 = .ok (.aload_n 0, 1) := by decide +kernel
theorem d_RW_kindMadeOf_48 : decode b_RW_kindMadeOf 48 = .ok (.getfield 37, 3) := by decide +kernel
theorem d_RW_kindMadeOf_51 : decode b_RW_kindMadeOf 51 = .ok (.iload 4, 2) := by decide +kernel
theorem d_RW_kindMadeOf_53 : decode b_RW_kindMadeOf 53 = .ok (.invokevirtual 61, 3) := by decide +kernel
theorem d_RW_kindMadeOf_56 : decode b_RW_kindMadeOf 56 = .ok (.istore 4, 2) := by decide +kernel
theorem d_RW_kindMadeOf_58 : decode b_RW_kindMadeOf 58 = .ok (.iinc 5 1, 3) := by decide +kernel
theorem d_RW_kindMadeOf_61 : decode b_RW_kindMadeOf 61 = .ok (.goto (-44), 3) := by decide +kernel
theorem d_RW_kindMadeOf_64 : decode b_RW_kindMadeOf 64 = .ok (.iconst (-1), 1) := by decide +kernel
theorem d_RW_kindMadeOf_65 : decode b_RW_kindMadeOf 65 = .ok (.ireturn, 1) := by decide +kernel
theorem d_RW_isMadeOf_0 : decode b_RW_isMadeOf 0 = .ok (.aload_n 0, 1) := by decide +kernel
theorem d_RW_isMadeOf_1 : decode b_RW_isMadeOf 1 = .ok (.getfield 34, 3) := by decide +kernel
theorem d_RW_isMadeOf_4 : decode b_RW_isMadeOf 4 = .ok (.iload_n 1, 1) := by decide +kernel
theorem d_RW_isMadeOf_5 : decode b_RW_isMadeOf 5 = .ok (.invokevirtual 61, 3) := by decide +kernel
theorem d_RW_isMadeOf_8 : decode b_RW_isMadeOf 8 = .ok (.istore 5, 2) := by decide +kernel
theorem d_RW_isMadeOf_10 : decode b_RW_isMadeOf 10 = .ok (.aload_n 0, 1) := by decide +kernel
theorem d_RW_isMadeOf_11 : decode b_RW_isMadeOf 11 = .ok (.iload 5, 2) := by decide +kernel
theorem d_RW_isMadeOf_13 : decode b_RW_isMadeOf 13 = .ok (.invokevirtual 90, 3) := by decide +kernel
theorem d_RW_isMadeOf_16 : decode b_RW_isMadeOf 16 = .ok (.iload_n 2, 1) := by decide +kernel
theorem d_RW_isMadeOf_17 : decode b_RW_isMadeOf 17 = .ok (.if_icmp .eq 5, 3) := by decide +kernel
theorem d_RW_isMadeOf_20 : decode b_RW_isMadeOf 20 = .ok (.iconst 0, 1) := by decide +kernel
theorem d_RW_isMadeOf_21 : decode b_RW_isMadeOf 21 = .ok (.ireturn, 1) := by decide +kernel
theorem d_RW_isMadeOf_22 : decode b_RW_isMadeOf 22 = .ok (.iconst 0, 1) := by decide +kernel
theorem d_RW_isMadeOf_23 : decode b_RW_isMadeOf 23 = .ok (.istore 6, 2) := by decide +kernel
theorem d_RW_isMadeOf_25 : decode b_RW_isMadeOf 25 = .ok (.iload 6, 2) := by decide +kernel
theorem d_RW_isMadeOf_27 : decode b_RW_isMadeOf 27 = .ok (.aload_n 3, 1) := by decide +kernel
theorem d_RW_isMadeOf_28 : decode b_RW_isMadeOf 28 = .ok (.invokevirtual 57, 3) := by decide +kernel
theorem d_RW_isMadeOf_31 : decode b_RW_isMadeOf 31 = .ok (.iload 4, 2) := by decide +kernel
theorem d_RW_isMadeOf_33 : decode b_RW_isMadeOf 33 = .ok (.isub, 1) := by decide +kernel
theorem d_RW_isMadeOf_34 : decode b_RW_isMadeOf 34 = .ok (.if_icmp .ge 42, 3) := by decide +kernel
theorem d_RW_isMadeOf_37 : decode b_RW_isMadeOf 37 = .ok (.aload_n 0, 1) := by decide +kernel
theorem d_RW_isMadeOf_38 : decode b_RW_isMadeOf 38 = .ok (.getfield 28, 3) := by decide +kernel
theorem d_RW_isMadeOf_41 : decode b_RW_isMadeOf 41 = .ok (.aload_n 0, 1) := by decide +kernel
theorem d_RW_isMadeOf_42 : decode b_RW_isMadeOf 42 = .ok (.getfield 18, 3) := by decide +kernel
theorem d_RW_isMadeOf_45 : decode b_RW_isMadeOf 45 = .ok (.iload 5, 2) := by decide +kernel
theorem d_RW_isMadeOf_47 : decode b_RW_isMadeOf 47 = .ok (.invokevirtual 61, 3) := by decide +kernel
theorem d_RW_isMadeOf_50 : decode b_RW_isMadeOf 50 = .ok (.iload 6, 2) := by decide +kernel
theorem d_RW_isMadeOf_52 : decode b_RW_isMadeOf 52 = .ok (.iadd, 1) := by decide +kernel
theorem d_RW_isMadeOf_53 : decode b_RW_isMadeOf 53 = .ok (.invokevirtual 61, 3) := by decide +kernel
theorem d_RW_isMadeOf_56 : decode b_RW_isMadeOf 56 = .ok (.aload_n 3, 1) := by decide +kernel
theorem d_RW_isMadeOf_57 : decode b_RW_isMadeOf 57 = .ok (.iload 4, 2) := by decide +kernel
theorem d_RW_isMadeOf_59 : decode b_RW_isMadeOf 59 = .ok (.iload 6, 2) := by decide +kernel
theorem d_RW_isMadeOf_61 : decode b_RW_isMadeOf 61 = .ok (.iadd, 1) := by decide +kernel
theorem d_RW_isMadeOf_62 : decode b_RW_isMadeOf 62 = .ok (.invokevirtual 61, 3) := by decide +kernel
theorem d_RW_isMadeOf_65 : decode b_RW_isMadeOf 65 = .ok (.if_icmp .eq 5, 3) := by decide +kernel
theorem d_RW_isMadeOf_68 : decode b_RW_isMadeOf 68 = .ok (.iconst 0, 1) := by decide +kernel
theorem d_RW_isMadeOf_69 : decode b_RW_isMadeOf 69 = .ok (.ireturn, 1) := by decide +kernel
theorem d_RW_isMadeOf_70 : decode b_RW_isMadeOf 70 = .ok (.iinc 6 1, 3) := by decide +kernel
theorem d_RW_isMadeOf_73 : decode b_RW_isMadeOf 73 = .ok (.goto (-48), 3) := by decide +kernel
theorem d_RW_isMadeOf_76 : decode b_RW_isMadeOf 76 = .ok (.iconst 1, 1) := by decide +kernel
theorem d_RW_isMadeOf_77 : decode b_RW_isMadeOf 77 = .ok (.ireturn, 1) := by decide +kernel
theorem d_RW_bucketOf_0 : decode b_RW_bucketOf 0 = .ok (.iload_n 1, 1) := by decide +kernel
theorem d_RW_bucketOf_1 : decode b_RW_bucketOf 1 = .ok (.istore 4, 2) := by decide +kernel
theorem d_RW_bucketOf_3 : decode b_RW_bucketOf 3 = .ok (.iload_n 3, 1) := by decide +kernel
theorem d_RW_bucketOf_4 : decode b_RW_bucketOf 4 = .ok (.istore 5, 2) := by decide +kernel
theorem d_RW_bucketOf_6 : decode b_RW_bucketOf 6 = .ok (.iload 5, 2) := by decide +kernel
theorem d_RW_bucketOf_8 : decode b_RW_bucketOf 8 = .ok (.aload_n 2, 1) := by decide +kernel
theorem d_RW_bucketOf_9 : decode b_RW_bucketOf 9 = .ok (.invokevirtual 57, 3) := by decide +kernel
theorem d_RW_bucketOf_12 : decode b_RW_bucketOf 12 = .ok (.if_icmp .ge 23, 3) := by decide +kernel
theorem d_RW_bucketOf_15 : decode b_RW_bucketOf 15 = .ok (.bipush 31, 2) := by decide +kernel
theorem d_RW_bucketOf_17 : decode b_RW_bucketOf 17 = .ok (.iload 4, 2) := by decide +kernel
theorem d_RW_bucketOf_19 : decode b_RW_bucketOf 19 = .ok (.imul, 1) := by decide +kernel
theorem d_RW_bucketOf_20 : decode b_RW_bucketOf 20 = .ok (.aload_n 2, 1) := by decide +kernel
theorem d_RW_bucketOf_21 : decode b_RW_bucketOf 21 = .ok (.iload 5, 2) := by decide +kernel
theorem d_RW_bucketOf_23 : decode b_RW_bucketOf 23 = .ok (.invokevirtual 61, 3) := by decide +kernel
theorem d_RW_bucketOf_26 : decode b_RW_bucketOf 26 = .ok (.iadd, 1) := by decide +kernel
theorem d_RW_bucketOf_27 : decode b_RW_bucketOf 27 = .ok (.istore 4, 2) := by decide +kernel
theorem d_RW_bucketOf_29 : decode b_RW_bucketOf 29 = .ok (.iinc 5 1, 3) := by decide +kernel
theorem d_RW_bucketOf_32 : decode b_RW_bucketOf 32 = .ok (.goto (-26), 3) := by decide +kernel
theorem d_RW_bucketOf_35 : decode b_RW_bucketOf 35 = .ok (.iload 4, 2) := by decide +kernel
theorem d_RW_bucketOf_37 : decode b_RW_bucketOf 37 = .ok (.sipush 511, 3) := by decide +kernel
theorem d_RW_bucketOf_40 : decode b_RW_bucketOf 40 = .ok (.iand, 1) := by decide +kernel
theorem d_RW_bucketOf_41 : decode b_RW_bucketOf 41 = .ok (.ireturn, 1) := by decide +kernel
theorem d_RW_countSteps_0 : decode b_RW_countSteps 0 = .ok (.lconst 1, 1) := by decide +kernel
theorem d_RW_countSteps_1 : decode b_RW_countSteps 1 = .ok (.lstore_n 2, 1) := by decide +kernel
theorem d_RW_countSteps_2 : decode b_RW_countSteps 2 = .ok (.iconst 0, 1) := by decide +kernel
theorem d_RW_countSteps_3 : decode b_RW_countSteps 3 = .ok (.istore 4, 2) := by decide +kernel
theorem d_RW_countSteps_5 : decode b_RW_countSteps 5 = .ok (.iload 4, 2) := by decide +kernel
theorem d_RW_countSteps_7 : decode b_RW_countSteps 7 = .ok (.aload_n 0, 1) := by decide +kernel
theorem d_RW_countSteps_8 : decode b_RW_countSteps 8 = .ok (.iload_n 1, 1) := by decide +kernel
theorem d_RW_countSteps_9 : decode b_RW_countSteps 9 = .ok (.invokevirtual 69, 3) := by decide +kernel
theorem d_RW_countSteps_12 : decode b_RW_countSteps 12 = .ok (.if_icmp .ge 29, 3) := by decide +kernel
theorem d_RW_countSteps_15 : decode b_RW_countSteps 15 = .ok (.lload_n 2, 1) := by decide +kernel
theorem d_RW_countSteps_16 : decode b_RW_countSteps 16 = .ok (.aload_n 0, 1) := by decide +kernel
theorem d_RW_countSteps_17 : decode b_RW_countSteps 17 = .ok (.aload_n 0, 1) := by decide +kernel
theorem d_RW_countSteps_18 : decode b_RW_countSteps 18 = .ok (.iload_n 1, 1) := by decide +kernel
theorem d_RW_countSteps_19 : decode b_RW_countSteps 19 = .ok (.iload 4, 2) := by decide +kernel
theorem d_RW_countSteps_21 : decode b_RW_countSteps 21 = .ok (.invokevirtual 107, 3) := by decide +kernel
theorem d_RW_countSteps_24 : decode b_RW_countSteps 24 = .ok (.invokevirtual 110, 3) := by decide +kernel
theorem d_RW_countSteps_27 : decode b_RW_countSteps 27 = .ok (.ladd, 1) := by decide +kernel
theorem d_RW_countSteps_28 : decode b_RW_countSteps 28 = .ok (.ldc2_w 113, 3) := by decide +kernel
theorem d_RW_countSteps_31 : decode b_RW_countSteps 31 = .ok (.invokestatic 115, 3) := by decide +kernel
theorem d_RW_countSteps_34 : decode b_RW_countSteps 34 = .ok (.lstore_n 2, 1) := by decide +kernel
theorem d_RW_countSteps_35 : decode b_RW_countSteps 35 = .ok (.iinc 4 1, 3) := by decide +kernel
theorem d_RW_countSteps_38 : decode b_RW_countSteps 38 = .ok (.goto (-33), 3) := by decide +kernel
theorem d_RW_countSteps_41 : decode b_RW_countSteps 41 = .ok (.lload_n 2, 1) := by decide +kernel
theorem d_RW_countSteps_42 : decode b_RW_countSteps 42 = .ok (.lreturn, 1) := by decide +kernel
theorem d_RW_keepSteps_0 : decode b_RW_keepSteps 0 = .ok (.iload_n 1, 1) := by decide +kernel
theorem d_RW_keepSteps_1 : decode b_RW_keepSteps 1 = .ok (.aload_n 0, 1) := by decide +kernel
theorem d_RW_keepSteps_2 : decode b_RW_keepSteps 2 = .ok (.getfield 50, 3) := by decide +kernel
theorem d_RW_keepSteps_5 : decode b_RW_keepSteps 5 = .ok (.arraylength, 1) := by decide +kernel
theorem d_RW_keepSteps_6 : decode b_RW_keepSteps 6 = .ok (.if_icmp .lt 17, 3) := by decide +kernel
theorem d_RW_keepSteps_9 : decode b_RW_keepSteps 9 = .ok (.aload_n 0, 1) := by decide +kernel
theorem d_RW_keepSteps_10 : decode b_RW_keepSteps 10 = .ok (.aload_n 0, 1) := by decide +kernel
theorem d_RW_keepSteps_11 : decode b_RW_keepSteps 11 = .ok (.getfield 50, 3) := by decide +kernel
theorem d_RW_keepSteps_14 : decode b_RW_keepSteps 14 = .ok (.iconst 2, 1) := by decide +kernel
theorem d_RW_keepSteps_15 : decode b_RW_keepSteps 15 = .ok (.iload_n 1, 1) := by decide +kernel
theorem d_RW_keepSteps_16 : decode b_RW_keepSteps 16 = .ok (.imul, 1) := by decide +kernel
theorem d_RW_keepSteps_17 : decode b_RW_keepSteps 17 = .ok (.invokestatic 121, 3) := by decide +kernel
theorem d_RW_keepSteps_20 : decode b_RW_keepSteps 20 = .ok (.putfield 50, 3) := by decide +kernel
theorem d_RW_keepSteps_23 : decode b_RW_keepSteps 23 = .ok (.aload_n 0, 1) := by decide +kernel
theorem d_RW_keepSteps_24 : decode b_RW_keepSteps 24 = .ok (.getfield 50, 3) := by decide +kernel
theorem d_RW_keepSteps_27 : decode b_RW_keepSteps 27 = .ok (.iload_n 1, 1) := by decide +kernel
theorem d_RW_keepSteps_28 : decode b_RW_keepSteps 28 = .ok (.lload_n 2, 1) := by decide +kernel
theorem d_RW_keepSteps_29 : decode b_RW_keepSteps 29 = .ok (.lastore, 1) := by decide +kernel
theorem d_RW_keepSteps_30 : decode b_RW_keepSteps 30 = .ok (.return_, 1) := by decide +kernel
theorem d_RW_statementInFull_0 : decode b_RW_statementInFull 0 = .ok (.iload_n 1, 1) := by decide +kernel
theorem d_RW_statementInFull_1 : decode b_RW_statementInFull 1 = .ok (.istore_n 3, 1) := by decide +kernel
theorem d_RW_statementInFull_2 : decode b_RW_statementInFull 2 = .ok (.iload_n 2, 1) := by decide +kernel
theorem d_RW_statementInFull_3 : decode b_RW_statementInFull 3 = .ok (.i2l, 1) := by decide +kernel
theorem d_RW_statementInFull_4 : decode b_RW_statementInFull 4 = .ok (.lstore 4, 2) := by decide +kernel
theorem d_RW_statementInFull_6 : decode b_RW_statementInFull 6 = .ok (.iconst 0, 1) := by decide +kernel
theorem d_RW_statementInFull_7 : decode b_RW_statementInFull 7 = .ok (.istore 6, 2) := by decide +kernel
theorem d_RW_statementInFull_9 : decode b_RW_statementInFull 9 = .ok (.iload 6, 2) := by decide +kernel
theorem d_RW_statementInFull_11 : decode b_RW_statementInFull 11 = .ok (.sipush 4000, 3) := by decide +kernel
theorem d_RW_statementInFull_14 : decode b_RW_statementInFull 14 = .ok (.if_icmp .ge 96, 3) := by decide +kernel
theorem d_RW_statementInFull_17 : decode b_RW_statementInFull 17 = .ok (.aload_n 0, 1) := by decide +kernel
theorem d_RW_statementInFull_18 : decode b_RW_statementInFull 18 = .ok (.iload_n 3, 1) := by decide +kernel
theorem d_RW_statementInFull_19 : decode b_RW_statementInFull 19 = .ok (.invokevirtual 65, 3) := by decide +kernel
theorem d_RW_statementInFull_22 : decode b_RW_statementInFull 22 = .ok (.ifCond .eq 88, 3) := by decide +kernel
theorem d_RW_statementInFull_25 : decode b_RW_statementInFull 25 = .ok (.lload 4, 2) := by decide +kernel
theorem d_RW_statementInFull_27 : decode b_RW_statementInFull 27 = .ok (.aload_n 0, 1) := by decide +kernel
theorem d_RW_statementInFull_28 : decode b_RW_statementInFull 28 = .ok (.iload_n 3, 1) := by decide +kernel
theorem d_RW_statementInFull_29 : decode b_RW_statementInFull 29 = .ok (.invokevirtual 110, 3) := by decide +kernel
theorem d_RW_statementInFull_32 : decode b_RW_statementInFull 32 = .ok (.lconst 1, 1) := by decide +kernel
theorem d_RW_statementInFull_33 : decode b_RW_statementInFull 33 = .ok (.lsub, 1) := by decide +kernel
theorem d_RW_statementInFull_34 : decode b_RW_statementInFull 34 = .ok (.lcmp, 1) := by decide +kernel
theorem d_RW_statementInFull_35 : decode b_RW_statementInFull 35 = .ok (.ifCond .lt 9, 3) := by decide +kernel
theorem d_RW_statementInFull_38 : decode b_RW_statementInFull 38 = .ok (.aload_n 0, 1) := by decide +kernel
theorem d_RW_statementInFull_39 : decode b_RW_statementInFull 39 = .ok (.iload_n 3, 1) := by decide +kernel
theorem d_RW_statementInFull_40 : decode b_RW_statementInFull 40 = .ok (.invokevirtual 90, 3) := by decide +kernel
theorem d_RW_statementInFull_43 : decode b_RW_statementInFull 43 = .ok (.ireturn, 1) := by decide +kernel
theorem d_RW_statementInFull_44 : decode b_RW_statementInFull 44 = .ok (.iconst 0, 1) := by decide +kernel
theorem d_RW_statementInFull_45 : decode b_RW_statementInFull 45 = .ok (.istore 7, 2) := by decide +kernel
theorem d_RW_statementInFull_47 : decode b_RW_statementInFull 47 = .ok (.iload 7, 2) := by decide +kernel
theorem d_RW_statementInFull_49 : decode b_RW_statementInFull 49 = .ok (.aload_n 0, 1) := by decide +kernel
theorem d_RW_statementInFull_50 : decode b_RW_statementInFull 50 = .ok (.iload_n 3, 1) := by decide +kernel
theorem d_RW_statementInFull_51 : decode b_RW_statementInFull 51 = .ok (.invokevirtual 69, 3) := by decide +kernel
theorem d_RW_statementInFull_54 : decode b_RW_statementInFull 54 = .ok (.if_icmp .ge 42, 3) := by decide +kernel
theorem d_RW_statementInFull_57 : decode b_RW_statementInFull 57 = .ok (.lload 4, 2) := by decide +kernel
theorem d_RW_statementInFull_59 : decode b_RW_statementInFull 59 = .ok (.aload_n 0, 1) := by decide +kernel
theorem d_RW_statementInFull_60 : decode b_RW_statementInFull 60 = .ok (.aload_n 0, 1) := by decide +kernel
theorem d_RW_statementInFull_61 : decode b_RW_statementInFull 61 = .ok (.iload_n 3, 1) := by decide +kernel
theorem d_RW_statementInFull_62 : decode b_RW_statementInFull 62 = .ok (.iload 7, 2) := by decide +kernel
theorem d_RW_statementInFull_64 : decode b_RW_statementInFull 64 = .ok (.invokevirtual 107, 3) := by decide +kernel
theorem d_RW_statementInFull_67 : decode b_RW_statementInFull 67 = .ok (.invokevirtual 110, 3) := by decide +kernel
theorem d_RW_statementInFull_70 : decode b_RW_statementInFull 70 = .ok (.lcmp, 1) := by decide +kernel
theorem d_RW_statementInFull_71 : decode b_RW_statementInFull 71 = .ok (.ifCond .lt 25, 3) := by decide +kernel
theorem d_RW_statementInFull_74 : decode b_RW_statementInFull 74 = .ok (.lload 4, 2) := by decide +kernel
theorem d_RW_statementInFull_76 : decode b_RW_statementInFull 76 = .ok (.aload_n 0, 1) := by decide +kernel
theorem d_RW_statementInFull_77 : decode b_RW_statementInFull 77 = .ok (.aload_n 0, 1) := by decide +kernel
theorem d_RW_statementInFull_78 : decode b_RW_statementInFull 78 = .ok (.iload_n 3, 1) := by decide +kernel
theorem d_RW_statementInFull_79 : decode b_RW_statementInFull 79 = .ok (.iload 7, 2) := by decide +kernel
theorem d_RW_statementInFull_81 : decode b_RW_statementInFull 81 = .ok (.invokevirtual 107, 3) := by decide +kernel
theorem d_RW_statementInFull_84 : decode b_RW_statementInFull 84 = .ok (.invokevirtual 110, 3) := by decide +kernel
theorem d_RW_statementInFull_87 : decode b_RW_statementInFull 87 = .ok (.lsub, 1) := by decide +kernel
theorem d_RW_statementInFull_88 : decode b_RW_statementInFull 88 = .ok (.lstore 4, 2) := by decide +kernel
theorem d_RW_statementInFull_90 : decode b_RW_statementInFull 90 = .ok (.iinc 7 1, 3) := by decide +kernel
theorem d_RW_statementInFull_93 : decode b_RW_statementInFull 93 = .ok (.goto (-46), 3) := by decide +kernel
theorem d_RW_statementInFull_96 : decode b_RW_statementInFull 96 = .ok (.aload_n 0, 1) := by decide +kernel
theorem d_RW_statementInFull_97 : decode b_RW_statementInFull 97 = .ok (.iload_n 3, 1) := by decide +kernel
theorem d_RW_statementInFull_98 : decode b_RW_statementInFull 98 = .ok (.iload 7, 2) := by decide +kernel
theorem d_RW_statementInFull_100 : decode b_RW_statementInFull 100 = .ok (.invokevirtual 107, 3) := by decide +kernel
theorem d_RW_statementInFull_103 : decode b_RW_statementInFull 103 = .ok (.istore_n 3, 1) := by decide +kernel
theorem d_RW_statementInFull_104 : decode b_RW_statementInFull 104 = .ok (.iinc 6 1, 3) := by decide +kernel
theorem d_RW_statementInFull_107 : decode b_RW_statementInFull 107 = .ok (.goto (-98), 3) := by decide +kernel
theorem d_RW_statementInFull_110 : decode b_RW_statementInFull 110 = .ok (.iconst (-1), 1) := by decide +kernel
theorem d_RW_statementInFull_111 : decode b_RW_statementInFull 111 = .ok (.ireturn, 1) := by decide +kernel
