theorem d_TL_init_0 : decode b_TL_init 0 = .ok (.aload_n 0, 1) := by decide +kernel
theorem d_TL_init_1 : decode b_TL_init 1 = .ok (.invokespecial 3, 3) := by decide +kernel
theorem d_TL_init_4 : decode b_TL_init 4 = .ok (.aload_n 0, 1) := by decide +kernel
theorem d_TL_init_5 : decode b_TL_init 5 = .ok (.aload_n 1, 1) := by decide +kernel
theorem d_TL_init_6 : decode b_TL_init 6 = .ok (.putfield 9, 3) := by decide +kernel
theorem d_TL_init_9 : decode b_TL_init 9 = .ok (.aload_n 0, 1) := by decide +kernel
theorem d_TL_init_10 : decode b_TL_init 10 = .ok (.aload_n 2, 1) := by decide +kernel
theorem d_TL_init_11 : decode b_TL_init 11 = .ok (.putfield 15, 3) := by decide +kernel
theorem d_TL_init_14 : decode b_TL_init 14 = .ok (.aload_n 0, 1) := by decide +kernel
theorem d_TL_init_15 : decode b_TL_init 15 = .ok (.new 19, 3) := by decide +kernel
theorem d_TL_init_18 : decode b_TL_init 18 = .ok (.dup, 1) := by decide +kernel
theorem d_TL_init_19 : decode b_TL_init 19 = .ok (.invokespecial 21, 3) := by decide +kernel
theorem d_TL_init_22 : decode b_TL_init 22 = .ok (.putfield 22, 3) := by decide +kernel
theorem d_TL_init_25 : decode b_TL_init 25 = .ok (.aload_n 0, 1) := by decide +kernel
theorem d_TL_init_26 : decode b_TL_init 26 = .ok (.new 19, 3) := by decide +kernel
theorem d_TL_init_29 : decode b_TL_init 29 = .ok (.dup, 1) := by decide +kernel
theorem d_TL_init_30 : decode b_TL_init 30 = .ok (.invokespecial 21, 3) := by decide +kernel
theorem d_TL_init_33 : decode b_TL_init 33 = .ok (.putfield 26, 3) := by decide +kernel
theorem d_TL_init_36 : decode b_TL_init 36 = .ok (.aload_n 0, 1) := by decide +kernel
theorem d_TL_init_37 : decode b_TL_init 37 = .ok (.new 19, 3) := by decide +kernel
theorem d_TL_init_40 : decode b_TL_init 40 = .ok (.dup, 1) := by decide +kernel
theorem d_TL_init_41 : decode b_TL_init 41 = .ok (.invokespecial 21, 3) := by decide +kernel
theorem d_TL_init_44 : decode b_TL_init 44 = .ok (.putfield 29, 3) := by decide +kernel
theorem d_TL_init_47 : decode b_TL_init 47 = .ok (.aload_n 0, 1) := by decide +kernel
theorem d_TL_init_48 : decode b_TL_init 48 = .ok (.new 32, 3) := by decide +kernel
theorem d_TL_init_51 : decode b_TL_init 51 = .ok (.dup, 1) := by decide +kernel
theorem d_TL_init_52 : decode b_TL_init 52 = .ok (.invokespecial 34, 3) := by decide +kernel
theorem d_TL_init_55 : decode b_TL_init 55 = .ok (.putfield 35, 3) := by decide +kernel
theorem d_TL_init_58 : decode b_TL_init 58 = .ok (.aload_n 0, 1) := by decide +kernel
theorem d_TL_init_59 : decode b_TL_init 59 = .ok (.iconst (-1), 1) := by decide +kernel
theorem d_TL_init_60 : decode b_TL_init 60 = .ok (.putfield 39, 3) := by decide +kernel
theorem d_TL_init_63 : decode b_TL_init 63 = .ok (.aload_n 0, 1) := by decide +kernel
theorem d_TL_init_64 : decode b_TL_init 64 = .ok (.iconst 0, 1) := by decide +kernel
theorem d_TL_init_65 : decode b_TL_init 65 = .ok (.putfield 43, 3) := by decide +kernel
theorem d_TL_init_68 : decode b_TL_init 68 = .ok (.aload_n 0, 1) := by decide +kernel
theorem d_TL_init_69 : decode b_TL_init 69 = .ok (.new 19, 3) := by decide +kernel
theorem d_TL_init_72 : decode b_TL_init 72 = .ok (.dup, 1) := by decide +kernel
theorem d_TL_init_73 : decode b_TL_init 73 = .ok (.invokespecial 21, 3) := by decide +kernel
theorem d_TL_init_76 : decode b_TL_init 76 = .ok (.putfield 46, 3) := by decide +kernel
theorem d_TL_init_79 : decode b_TL_init 79 = .ok (.aload_n 0, 1) := by decide +kernel
theorem d_TL_init_80 : decode b_TL_init 80 = .ok (.new 19, 3) := by decide +kernel
theorem d_TL_init_83 : decode b_TL_init 83 = .ok (.dup, 1) := by decide +kernel
theorem d_TL_init_84 : decode b_TL_init 84 = .ok (.invokespecial 21, 3) := by decide +kernel
theorem d_TL_init_87 : decode b_TL_init 87 = .ok (.putfield 49, 3) := by decide +kernel
theorem d_TL_init_90 : decode b_TL_init 90 = .ok (.aload_n 0, 1) := by decide +kernel
theorem d_TL_init_91 : decode b_TL_init 91 = .ok (.new 19, 3) := by decide +kernel
theorem d_TL_init_94 : decode b_TL_init 94 = .ok (.dup, 1) := by decide +kernel
theorem d_TL_init_95 : decode b_TL_init 95 = .ok (.invokespecial 21, 3) := by decide +kernel
theorem d_TL_init_98 : decode b_TL_init 98 = .ok (.putfield 52, 3) := by decide +kernel
theorem d_TL_init_101 : decode b_TL_init 101 = .ok (.aload_n 0, 1) := by decide +kernel
theorem d_TL_init_102 : decode b_TL_init 102 = .ok (.new 19, 3) := by decide +kernel
theorem d_TL_init_105 : decode b_TL_init 105 = .ok (.dup, 1) := by decide +kernel
theorem d_TL_init_106 : decode b_TL_init 106 = .ok (.invokespecial 21, 3) := by decide +kernel
theorem d_TL_init_109 : decode b_TL_init 109 = .ok (.putfield 55, 3) := by decide +kernel
theorem d_TL_init_112 : decode b_TL_init 112 = .ok (.aload_n 0, 1) := by decide +kernel
theorem d_TL_init_113 : decode b_TL_init 113 = .ok (.new 19, 3) := by decide +kernel
theorem d_TL_init_116 : decode b_TL_init 116 = .ok (.dup, 1) := by decide +kernel
theorem d_TL_init_117 : decode b_TL_init 117 = .ok (.invokespecial 21, 3) := by decide +kernel
theorem d_TL_init_120 : decode b_TL_init 120 = .ok (.putfield 58, 3) := by decide +kernel
theorem d_TL_init_123 : decode b_TL_init 123 = .ok (.aload_n 0, 1) := by decide +kernel
theorem d_TL_init_124 : decode b_TL_init 124 = .ok (.new 19, 3) := by decide +kernel
theorem d_TL_init_127 : decode b_TL_init 127 = .ok (.dup, 1) := by decide +kernel
theorem d_TL_init_128 : decode b_TL_init 128 = .ok (.invokespecial 21, 3) := by decide +kernel
theorem d_TL_init_131 : decode b_TL_init 131 = .ok (.putfield 61, 3) := by decide +kernel
theorem d_TL_init_134 : decode b_TL_init 134 = .ok (.return_, 1) := by decide +kernel
theorem d_TL_forget_0 : decode b_TL_forget 0 = .ok (.aload_n 0, 1) := by decide +kernel
theorem d_TL_forget_1 : decode b_TL_forget 1 = .ok (.getfield 22, 3) := by decide +kernel
theorem d_TL_forget_4 : decode b_TL_forget 4 = .ok (.iconst 0, 1) := by decide +kernel
theorem d_TL_forget_5 : decode b_TL_forget 5 = .ok (.invokevirtual 64, 3) := by decide +kernel
theorem d_TL_forget_8 : decode b_TL_forget 8 = .ok (.aload_n 0, 1) := by decide +kernel
theorem d_TL_forget_9 : decode b_TL_forget 9 = .ok (.getfield 26, 3) := by decide +kernel
theorem d_TL_forget_12 : decode b_TL_forget 12 = .ok (.iconst 0, 1) := by decide +kernel
theorem d_TL_forget_13 : decode b_TL_forget 13 = .ok (.invokevirtual 64, 3) := by decide +kernel
theorem d_TL_forget_16 : decode b_TL_forget 16 = .ok (.aload_n 0, 1) := by decide +kernel
theorem d_TL_forget_17 : decode b_TL_forget 17 = .ok (.getfield 29, 3) := by decide +kernel
theorem d_TL_forget_20 : decode b_TL_forget 20 = .ok (.iconst 0, 1) := by decide +kernel
theorem d_TL_forget_21 : decode b_TL_forget 21 = .ok (.invokevirtual 64, 3) := by decide +kernel
theorem d_TL_forget_24 : decode b_TL_forget 24 = .ok (.aload_n 0, 1) := by decide +kernel
theorem d_TL_forget_25 : decode b_TL_forget 25 = .ok (.getfield 35, 3) := by decide +kernel
theorem d_TL_forget_28 : decode b_TL_forget 28 = .ok (.invokevirtual 68, 3) := by decide +kernel
theorem d_TL_forget_31 : decode b_TL_forget 31 = .ok (.aload_n 0, 1) := by decide +kernel
theorem d_TL_forget_32 : decode b_TL_forget 32 = .ok (.iconst (-1), 1) := by decide +kernel
theorem d_TL_forget_33 : decode b_TL_forget 33 = .ok (.putfield 39, 3) := by decide +kernel
theorem d_TL_forget_36 : decode b_TL_forget 36 = .ok (.aload_n 0, 1) := by decide +kernel
theorem d_TL_forget_37 : decode b_TL_forget 37 = .ok (.iconst 0, 1) := by decide +kernel
theorem d_TL_forget_38 : decode b_TL_forget 38 = .ok (.putfield 43, 3) := by decide +kernel
theorem d_TL_forget_41 : decode b_TL_forget 41 = .ok (.return_, 1) := by decide +kernel
theorem d_TL_amountOfSteps_0 : decode b_TL_amountOfSteps 0 = .ok (.aload_n 0, 1) := by decide +kernel
theorem d_TL_amountOfSteps_1 : decode b_TL_amountOfSteps 1 = .ok (.getfield 22, 3) := by decide +kernel
theorem d_TL_amountOfSteps_4 : decode b_TL_amountOfSteps 4 = .ok (.invokevirtual 71, 3) := by decide +kernel
theorem d_TL_amountOfSteps_7 : decode b_TL_amountOfSteps 7 = .ok (.ireturn, 1) := by decide +kernel
theorem d_TL_amountOfLabels_0 : decode b_TL_amountOfLabels 0 = .ok (.aload_n 0, 1) := by decide +kernel
theorem d_TL_amountOfLabels_1 : decode b_TL_amountOfLabels 1 = .ok (.getfield 29, 3) := by decide +kernel
theorem d_TL_amountOfLabels_4 : decode b_TL_amountOfLabels 4 = .ok (.invokevirtual 71, 3) := by decide +kernel
theorem d_TL_amountOfLabels_7 : decode b_TL_amountOfLabels 7 = .ok (.ireturn, 1) := by decide +kernel
theorem d_TL_amountOfLetters_0 : decode b_TL_amountOfLetters 0 = .ok (.aload_n 0, 1) := by decide +kernel
theorem d_TL_amountOfLetters_1 : decode b_TL_amountOfLetters 1 = .ok (.getfield 35, 3) := by decide +kernel
theorem d_TL_amountOfLetters_4 : decode b_TL_amountOfLetters 4 = .ok (.invokevirtual 75, 3) := by decide +kernel
theorem d_TL_amountOfLetters_7 : decode b_TL_amountOfLetters 7 = .ok (.ireturn, 1) := by decide +kernel
theorem d_TL_amountOfSaved_0 : decode b_TL_amountOfSaved 0 = .ok (.aload_n 0, 1) := by decide +kernel
theorem d_TL_amountOfSaved_1 : decode b_TL_amountOfSaved 1 = .ok (.getfield 43, 3) := by decide +kernel
theorem d_TL_amountOfSaved_4 : decode b_TL_amountOfSaved 4 = .ok (.ireturn, 1) := by decide +kernel
theorem d_TL_stepAt_0 : decode b_TL_stepAt 0 = .ok (.aload_n 0, 1) := by decide +kernel
theorem d_TL_stepAt_1 : decode b_TL_stepAt 1 = .ok (.getfield 22, 3) := by decide +kernel
theorem d_TL_stepAt_4 : decode b_TL_stepAt 4 = .ok (.iload_n 1, 1) := by decide +kernel
theorem d_TL_stepAt_5 : decode b_TL_stepAt 5 = .ok (.invokevirtual 78, 3) := by decide +kernel
theorem d_TL_stepAt_8 : decode b_TL_stepAt 8 = .ok (.ireturn, 1) := by decide +kernel
theorem d_TL_isSavedAt_0 : decode b_TL_isSavedAt 0 = .ok (.aload_n 0, 1) := by decide +kernel
theorem d_TL_isSavedAt_1 : decode b_TL_isSavedAt 1 = .ok (.getfield 26, 3) := by decide +kernel
theorem d_TL_isSavedAt_4 : decode b_TL_isSavedAt 4 = .ok (.iload_n 1, 1) := by decide +kernel
theorem d_TL_isSavedAt_5 : decode b_TL_isSavedAt 5 = .ok (.invokevirtual 78, 3) := by decide +kernel
theorem d_TL_isSavedAt_8 : decode b_TL_isSavedAt 8 = .ok (.iconst (-1), 1) := by decide +kernel
theorem d_TL_isSavedAt_9 : decode b_TL_isSavedAt 9 = .ok (.if_icmp .eq 7, 3) := by decide +kernel
theorem d_TL_isSavedAt_12 : decode b_TL_isSavedAt 12 = .ok (.iconst 1, 1) := by decide +kernel
theorem d_TL_isSavedAt_13 : decode b_TL_isSavedAt 13 = .ok (.goto 4, 3) := by decide +kernel
theorem d_TL_isSavedAt_16 : decode b_TL_isSavedAt 16 = .ok (.iconst 0, 1) := by decide +kernel
theorem d_TL_isSavedAt_17 : decode b_TL_isSavedAt 17 = .ok (.ireturn, 1) := by decide +kernel
theorem d_TL_labelAt_0 : decode b_TL_labelAt 0 = .ok (.aload_n 0, 1) := by decide +kernel
theorem d_TL_labelAt_1 : decode b_TL_labelAt 1 = .ok (.getfield 29, 3) := by decide +kernel
theorem d_TL_labelAt_4 : decode b_TL_labelAt 4 = .ok (.iload_n 1, 1) := by decide +kernel
theorem d_TL_labelAt_5 : decode b_TL_labelAt 5 = .ok (.invokevirtual 78, 3) := by decide +kernel
theorem d_TL_labelAt_8 : decode b_TL_labelAt 8 = .ok (.ireturn, 1) := by decide +kernel
theorem d_TL_letterAt_0 : decode b_TL_letterAt 0 = .ok (.aload_n 0, 1) := by decide +kernel
theorem d_TL_letterAt_1 : decode b_TL_letterAt 1 = .ok (.getfield 35, 3) := by decide +kernel
theorem d_TL_letterAt_4 : decode b_TL_letterAt 4 = .ok (.iload_n 1, 1) := by decide +kernel
theorem d_TL_letterAt_5 : decode b_TL_letterAt 5 = .ok (.invokevirtual 82, 3) := by decide +kernel
theorem d_TL_letterAt_8 : decode b_TL_letterAt 8 = .ok (.ireturn, 1) := by decide +kernel
theorem d_TL_tell_0 : decode b_TL_tell 0 = .ok (.aload_n 0, 1) := by decide +kernel
theorem d_TL_tell_1 : decode b_TL_tell 1 = .ok (.invokevirtual 85, 3) := by decide +kernel
theorem d_TL_tell_4 : decode b_TL_tell 4 = .ok (.aload_n 0, 1) := by decide +kernel
theorem d_TL_tell_5 : decode b_TL_tell 5 = .ok (.iload_n 1, 1) := by decide +kernel
theorem d_TL_tell_6 : decode b_TL_tell 6 = .ok (.putfield 39, 3) := by decide +kernel
theorem d_TL_tell_9 : decode b_TL_tell 9 = .ok (.aload_n 0, 1) := by decide +kernel
theorem d_TL_tell_10 : decode b_TL_tell 10 = .ok (.invokevirtual 86, 3) := by decide +kernel
theorem d_TL_tell_13 : decode b_TL_tell 13 = .ok (.aload_n 0, 1) := by decide +kernel
theorem d_TL_tell_14 : decode b_TL_tell 14 = .ok (.invokevirtual 89, 3) := by decide +kernel
theorem d_TL_tell_17 : decode b_TL_tell 17 = .ok (.aload_n 0, 1) := by decide +kernel
theorem d_TL_tell_18 : decode b_TL_tell 18 = .ok (.invokevirtual 92, 3) := by decide +kernel
theorem d_TL_tell_21 : decode b_TL_tell 21 = .ok (.aload_n 0, 1) := by decide +kernel
theorem d_TL_tell_22 : decode b_TL_tell 22 = .ok (.invokevirtual 95, 3) := by decide +kernel
theorem d_TL_tell_25 : decode b_TL_tell 25 = .ok (.return_, 1) := by decide +kernel
theorem d_TL_tellSteps_0 : decode b_TL_tellSteps 0 = .ok (.aload_n 0, 1) := by decide +kernel
theorem d_TL_tellSteps_1 : decode b_TL_tellSteps 1 = .ok (.getfield 52, 3) := by decide +kernel
theorem d_TL_tellSteps_4 : decode b_TL_tellSteps 4 = .ok (.aload_n 0, 1) := by decide +kernel
theorem d_TL_tellSteps_5 : decode b_TL_tellSteps 5 = .ok (.getfield 15, 3) := by decide +kernel
theorem d_TL_tellSteps_8 : decode b_TL_tellSteps 8 = .ok (.invokevirtual 98, 3) := by decide +kernel
theorem d_TL_tellSteps_11 : decode b_TL_tellSteps 11 = .ok (.iconst (-1), 1) := by decide +kernel
theorem d_TL_tellSteps_12 : decode b_TL_tellSteps 12 = .ok (.invokevirtual 103, 3) := by decide +kernel
theorem d_TL_tellSteps_15 : decode b_TL_tellSteps 15 = .ok (.aload_n 0, 1) := by decide +kernel
theorem d_TL_tellSteps_16 : decode b_TL_tellSteps 16 = .ok (.getfield 46, 3) := by decide +kernel
theorem d_TL_tellSteps_19 : decode b_TL_tellSteps 19 = .ok (.iconst 0, 1) := by decide +kernel
theorem d_TL_tellSteps_20 : decode b_TL_tellSteps 20 = .ok (.invokevirtual 64, 3) := by decide +kernel
theorem d_TL_tellSteps_23 : decode b_TL_tellSteps 23 = .ok (.aload_n 0, 1) := by decide +kernel
theorem d_TL_tellSteps_24 : decode b_TL_tellSteps 24 = .ok (.getfield 49, 3) := by decide +kernel
theorem d_TL_tellSteps_27 : decode b_TL_tellSteps 27 = .ok (.iconst 0, 1) := by decide +kernel
theorem d_TL_tellSteps_28 : decode b_TL_tellSteps 28 = .ok (.invokevirtual 64, 3) := by decide +kernel
theorem d_TL_tellSteps_31 : decode b_TL_tellSteps 31 = .ok (.aload_n 0, 1) := by decide +kernel
theorem d_TL_tellSteps_32 : decode b_TL_tellSteps 32 = .ok (.aload_n 0, 1) := by decide +kernel
theorem d_TL_tellSteps_33 : decode b_TL_tellSteps 33 = .ok (.getfield 39, 3) := by decide +kernel
theorem d_TL_tellSteps_36 : decode b_TL_tellSteps 36 = .ok (.invokevirtual 107, 3) := by decide +kernel
theorem d_TL_tellSteps_39 : decode b_TL_tellSteps 39 = .ok (.iconst 0, 1) := by decide +kernel
theorem d_TL_tellSteps_40 : decode b_TL_tellSteps 40 = .ok (.istore_n 1, 1) := by decide +kernel
theorem d_TL_tellSteps_41 : decode b_TL_tellSteps 41 = .ok (.iload_n 1, 1) := by decide +kernel
theorem d_TL_tellSteps_42 : decode b_TL_tellSteps 42 = .ok (.ldc 110, 2) := by decide +kernel
theorem d_TL_tellSteps_44 : decode b_TL_tellSteps 44 = .ok (.if_icmp .ge 140, 3) := by decide +kernel
theorem d_TL_tellSteps_47 : decode b_TL_tellSteps 47 = .ok (.aload_n 0, 1) := by decide +kernel
theorem d_TL_tellSteps_48 : decode b_TL_tellSteps 48 = .ok (.getfield 46, 3) := by decide +kernel
theorem d_TL_tellSteps_51 : decode b_TL_tellSteps 51 = .ok (.invokevirtual 71, 3) := by decide +kernel
theorem d_TL_tellSteps_54 : decode b_TL_tellSteps 54 = .ok (.ifCond .le 130, 3) := by decide +kernel
theorem d_TL_tellSteps_57 : decode b_TL_tellSteps 57 = .ok (.aload_n 0, 1) := by decide +kernel
theorem d_TL_tellSteps_58 : decode b_TL_tellSteps 58 = .ok (.getfield 46, 3) := by decide +kernel
theorem d_TL_tellSteps_61 : decode b_TL_tellSteps 61 = .ok (.invokevirtual 71, 3) := by decide +kernel
theorem d_TL_tellSteps_64 : decode b_TL_tellSteps 64 = .ok (.iconst 1, 1) := by decide +kernel
theorem d_TL_tellSteps_65 : decode b_TL_tellSteps 65 = .ok (.isub, 1) := by decide +kernel
theorem d_TL_tellSteps_66 : decode b_TL_tellSteps 66 = .ok (.istore_n 2, 1) := by decide +kernel
theorem d_TL_tellSteps_67 : decode b_TL_tellSteps 67 = .ok (.aload_n 0, 1) := by decide +kernel
theorem d_TL_tellSteps_68 : decode b_TL_tellSteps 68 = .ok (.getfield 46, 3) := by decide +kernel
theorem d_TL_tellSteps_71 : decode b_TL_tellSteps 71 = .ok (.iload_n 2, 1) := by decide +kernel
theorem d_TL_tellSteps_72 : decode b_TL_tellSteps 72 = .ok (.invokevirtual 78, 3) := by decide +kernel
theorem d_TL_tellSteps_75 : decode b_TL_tellSteps 75 = .ok (.istore_n 3, 1) := by decide +kernel
theorem d_TL_tellSteps_76 : decode b_TL_tellSteps 76 = .ok (.aload_n 0, 1) := by decide +kernel
theorem d_TL_tellSteps_77 : decode b_TL_tellSteps 77 = .ok (.getfield 49, 3) := by decide +kernel
theorem d_TL_tellSteps_80 : decode b_TL_tellSteps 80 = .ok (.iload_n 2, 1) := by decide +kernel
theorem d_TL_tellSteps_81 : decode b_TL_tellSteps 81 = .ok (.invokevirtual 78, 3) := by decide +kernel
theorem d_TL_tellSteps_84 : decode b_TL_tellSteps 84 = .ok (.istore 4, 2) := by decide +kernel
theorem d_TL_tellSteps_86 : decode b_TL_tellSteps 86 = .ok (.iload 4, 2) := by decide +kernel
theorem d_TL_tellSteps_88 : decode b_TL_tellSteps 88 = .ok (.aload_n 0, 1) := by decide +kernel
theorem d_TL_tellSteps_89 : decode b_TL_tellSteps 89 = .ok (.getfield 15, 3) := by decide +kernel
theorem d_TL_tellSteps_92 : decode b_TL_tellSteps 92 = .ok (.iload_n 3, 1) := by decide +kernel
theorem d_TL_tellSteps_93 : decode b_TL_tellSteps 93 = .ok (.invokevirtual 111, 3) := by decide +kernel
theorem d_TL_tellSteps_96 : decode b_TL_tellSteps 96 = .ok (.if_icmp .ge 32, 3) := by decide +kernel
theorem d_TL_tellSteps_99 : decode b_TL_tellSteps 99 = .ok (.aload_n 0, 1) := by decide +kernel
theorem d_TL_tellSteps_100 : decode b_TL_tellSteps 100 = .ok (.getfield 49, 3) := by decide +kernel
theorem d_TL_tellSteps_103 : decode b_TL_tellSteps 103 = .ok (.iload_n 2, 1) := by decide +kernel
theorem d_TL_tellSteps_104 : decode b_TL_tellSteps 104 = .ok (.iload 4, 2) := by decide +kernel
theorem d_TL_tellSteps_106 : decode b_TL_tellSteps 106 = .ok (.iconst 1, 1) := by decide +kernel
theorem d_TL_tellSteps_107 : decode b_TL_tellSteps 107 = .ok (.iadd, 1) := by decide +kernel
theorem d_TL_tellSteps_108 : decode b_TL_tellSteps 108 = .ok (.invokevirtual 114, 3) := by decide +kernel
theorem d_TL_tellSteps_111 : decode b_TL_tellSteps 111 = .ok (.aload_n 0, 1) := by decide +kernel
theorem d_TL_tellSteps_112 : decode b_TL_tellSteps 112 = .ok (.aload_n 0, 1) := by decide +kernel
theorem d_TL_tellSteps_113 : decode b_TL_tellSteps 113 = .ok (.getfield 15, 3) := by decide +kernel
theorem d_TL_tellSteps_116 : decode b_TL_tellSteps 116 = .ok (.iload_n 3, 1) := by decide +kernel
theorem d_TL_tellSteps_117 : decode b_TL_tellSteps 117 = .ok (.iload 4, 2) := by decide +kernel
theorem d_TL_tellSteps_119 : decode b_TL_tellSteps 119 = .ok (.invokevirtual 117, 3) := by decide +kernel
theorem d_TL_tellSteps_122 : decode b_TL_tellSteps 122 = .ok (.invokevirtual 121, 3) := by decide +kernel
theorem d_TL_tellSteps_125 : decode b_TL_tellSteps 125 = .ok (.goto 53, 3) := by decide +kernel
theorem d_TL_tellSteps_128 : decode b_TL_tellSteps 128 = .ok (.aload_n 0, 1) := by decide +kernel
theorem d_TL_tellSteps_129 : decode b_TL_tellSteps 129 = .ok (.getfield 46, 3) := by decide +kernel
theorem d_TL_tellSteps_132 : decode b_TL_tellSteps 132 = .ok (.iload_n 2, 1) := by decide +kernel
theorem d_TL_tellSteps_133 : decode b_TL_tellSteps 133 = .ok (.invokevirtual 64, 3) := by decide +kernel
theorem d_TL_tellSteps_136 : decode b_TL_tellSteps 136 = .ok (.aload_n 0, 1) := by decide +kernel
theorem d_TL_tellSteps_137 : decode b_TL_tellSteps 137 = .ok (.getfield 49, 3) := by decide +kernel
theorem d_TL_tellSteps_140 : decode b_TL_tellSteps 140 = .ok (.iload_n 2, 1) := by decide +kernel
theorem d_TL_tellSteps_141 : decode b_TL_tellSteps 141 = .ok (.invokevirtual 64, 3) := by decide +kernel
theorem d_TL_tellSteps_144 : decode b_TL_tellSteps 144 = .ok (.aload_n 0, 1) := by decide +kernel
theorem d_TL_tellSteps_145 : decode b_TL_tellSteps 145 = .ok (.getfield 52, 3) := by decide +kernel
theorem d_TL_tellSteps_148 : decode b_TL_tellSteps 148 = .ok (.aload_n 0, 1) := by decide +kernel
theorem d_TL_tellSteps_149 : decode b_TL_tellSteps 149 = .ok (.getfield 15, 3) := by decide +kernel
theorem d_TL_tellSteps_152 : decode b_TL_tellSteps 152 = .ok (.iload_n 3, 1) := by decide +kernel
theorem d_TL_tellSteps_153 : decode b_TL_tellSteps 153 = .ok (.invokevirtual 124, 3) := by decide +kernel
theorem d_TL_tellSteps_156 : decode b_TL_tellSteps 156 = .ok (.aload_n 0, 1) := by decide +kernel
theorem d_TL_tellSteps_157 : decode b_TL_tellSteps 157 = .ok (.getfield 22, 3) := by decide +kernel
theorem d_TL_tellSteps_160 : decode b_TL_tellSteps 160 = .ok (.invokevirtual 71, 3) := by decide +kernel
theorem d_TL_tellSteps_163 : decode b_TL_tellSteps 163 = .ok (.invokevirtual 114, 3) := by decide +kernel
theorem d_TL_tellSteps_166 : decode b_TL_tellSteps 166 = .ok (.aload_n 0, 1) := by decide +kernel
theorem d_TL_tellSteps_167 : decode b_TL_tellSteps 167 = .ok (.aload_n 0, 1) := by decide +kernel
theorem d_TL_tellSteps_168 : decode b_TL_tellSteps 168 = .ok (.getfield 15, 3) := by decide +kernel
theorem d_TL_tellSteps_171 : decode b_TL_tellSteps 171 = .ok (.iload_n 3, 1) := by decide +kernel
theorem d_TL_tellSteps_172 : decode b_TL_tellSteps 172 = .ok (.invokevirtual 127, 3) := by decide +kernel
theorem d_TL_tellSteps_175 : decode b_TL_tellSteps 175 = .ok (.invokevirtual 130, 3) := by decide +kernel
theorem d_TL_tellSteps_178 : decode b_TL_tellSteps 178 = .ok (.iinc 1 1, 3) := by decide +kernel
theorem d_TL_tellSteps_181 : decode b_TL_tellSteps 181 = .ok (.goto (-140), 3) := by decide +kernel
theorem d_TL_tellSteps_184 : decode b_TL_tellSteps 184 = .ok (.return_, 1) := by decide +kernel
theorem d_TL_opn_0 : decode b_TL_opn 0 = .ok (.aload_n 0, 1) := by decide +kernel
theorem d_TL_opn_1 : decode b_TL_opn 1 = .ok (.getfield 46, 3) := by decide +kernel
theorem d_TL_opn_4 : decode b_TL_opn 4 = .ok (.iload_n 1, 1) := by decide +kernel
theorem d_TL_opn_5 : decode b_TL_opn 5 = .ok (.invokevirtual 133, 3) := by decide +kernel
theorem d_TL_opn_8 : decode b_TL_opn 8 = .ok (.aload_n 0, 1) := by decide +kernel
theorem d_TL_opn_9 : decode b_TL_opn 9 = .ok (.getfield 49, 3) := by decide +kernel
theorem d_TL_opn_12 : decode b_TL_opn 12 = .ok (.iconst 0, 1) := by decide +kernel
theorem d_TL_opn_13 : decode b_TL_opn 13 = .ok (.invokevirtual 133, 3) := by decide +kernel
theorem d_TL_opn_16 : decode b_TL_opn 16 = .ok (.return_, 1) := by decide +kernel
theorem d_TL_tellPart_0 : decode b_TL_tellPart 0 = .ok (.aload_n 0, 1) := by decide +kernel
theorem d_TL_tellPart_1 : decode b_TL_tellPart 1 = .ok (.getfield 52, 3) := by decide +kernel
theorem d_TL_tellPart_4 : decode b_TL_tellPart 4 = .ok (.aload_n 0, 1) := by decide +kernel
theorem d_TL_tellPart_5 : decode b_TL_tellPart 5 = .ok (.getfield 15, 3) := by decide +kernel
theorem d_TL_tellPart_8 : decode b_TL_tellPart 8 = .ok (.iload_n 1, 1) := by decide +kernel
theorem d_TL_tellPart_9 : decode b_TL_tellPart 9 = .ok (.invokevirtual 124, 3) := by decide +kernel
theorem d_TL_tellPart_12 : decode b_TL_tellPart 12 = .ok (.invokevirtual 78, 3) := by decide +kernel
theorem d_TL_tellPart_15 : decode b_TL_tellPart 15 = .ok (.istore_n 2, 1) := by decide +kernel
theorem d_TL_tellPart_16 : decode b_TL_tellPart 16 = .ok (.iload_n 2, 1) := by decide +kernel
theorem d_TL_tellPart_17 : decode b_TL_tellPart 17 = .ok (.iconst (-1), 1) := by decide +kernel
theorem d_TL_tellPart_18 : decode b_TL_tellPart 18 = .ok (.if_icmp .eq 14, 3) := by decide +kernel
theorem d_TL_tellPart_21 : decode b_TL_tellPart 21 = .ok (.aload_n 0, 1) := by decide +kernel
theorem d_TL_tellPart_22 : decode b_TL_tellPart 22 = .ok (.getfield 15, 3) := by decide +kernel
theorem d_TL_tellPart_25 : decode b_TL_tellPart 25 = .ok (.iload_n 1, 1) := by decide +kernel
theorem d_TL_tellPart_26 : decode b_TL_tellPart 26 = .ok (.invokevirtual 111, 3) := by decide +kernel
theorem d_TL_tellPart_29 : decode b_TL_tellPart 29 = .ok (.ifCond .ne 9, 3) := by decide +kernel
theorem d_TL_tellPart_32 : decode b_TL_tellPart 32 = .ok (.aload_n 0, 1) := by decide +kernel
theorem d_TL_tellPart_33 : decode b_TL_tellPart 33 = .ok (.iload_n 1, 1) := by decide +kernel
theorem d_TL_tellPart_34 : decode b_TL_tellPart 34 = .ok (.invokevirtual 107, 3) := by decide +kernel
theorem d_TL_tellPart_37 : decode b_TL_tellPart 37 = .ok (.return_, 1) := by decide +kernel
theorem d_TL_tellPart_38 : decode b_TL_tellPart 38 = .ok (.aload_n 0, 1) := by decide +kernel
theorem d_TL_tellPart_39 : decode b_TL_tellPart 39 = .ok (.getfield 26, 3) := by decide +kernel
theorem d_TL_tellPart_42 : decode b_TL_tellPart 42 = .ok (.iload_n 2, 1) := by decide +kernel
theorem d_TL_tellPart_43 : decode b_TL_tellPart 43 = .ok (.iconst 0, 1) := by decide +kernel
theorem d_TL_tellPart_44 : decode b_TL_tellPart 44 = .ok (.invokevirtual 114, 3) := by decide +kernel
theorem d_TL_tellPart_47 : decode b_TL_tellPart 47 = .ok (.aload_n 0, 1) := by decide +kernel
theorem d_TL_tellPart_48 : decode b_TL_tellPart 48 = .ok (.bipush (-2), 2) := by decide +kernel
theorem d_TL_tellPart_50 : decode b_TL_tellPart 50 = .ok (.iload_n 2, 1) := by decide +kernel
theorem d_TL_tellPart_51 : decode b_TL_tellPart 51 = .ok (.isub, 1) := by decide +kernel
theorem d_TL_tellPart_52 : decode b_TL_tellPart 52 = .ok (.invokevirtual 130, 3) := by decide +kernel
theorem d_TL_tellPart_55 : decode b_TL_tellPart 55 = .ok (.return_, 1) := by decide +kernel
theorem d_TL_addStep_0 : decode b_TL_addStep 0 = .ok (.aload_n 0, 1) := by decide +kernel
theorem d_TL_addStep_1 : decode b_TL_addStep 1 = .ok (.getfield 22, 3) := by decide +kernel
theorem d_TL_addStep_4 : decode b_TL_addStep 4 = .ok (.iload_n 1, 1) := by decide +kernel
theorem d_TL_addStep_5 : decode b_TL_addStep 5 = .ok (.invokevirtual 133, 3) := by decide +kernel
theorem d_TL_addStep_8 : decode b_TL_addStep 8 = .ok (.aload_n 0, 1) := by decide +kernel
theorem d_TL_addStep_9 : decode b_TL_addStep 9 = .ok (.getfield 26, 3) := by decide +kernel
theorem d_TL_addStep_12 : decode b_TL_addStep 12 = .ok (.iconst (-1), 1) := by decide +kernel
theorem d_TL_addStep_13 : decode b_TL_addStep 13 = .ok (.invokevirtual 133, 3) := by decide +kernel
theorem d_TL_addStep_16 : decode b_TL_addStep 16 = .ok (.return_, 1) := by decide +kernel
theorem d_TL_numberSavedRows_0 : decode b_TL_numberSavedRows 0 = .ok (.iconst 0, 1) := by decide +kernel
theorem d_TL_numberSavedRows_1 : decode b_TL_numberSavedRows 1 = .ok (.istore_n 1, 1) := by decide +kernel
theorem d_TL_numberSavedRows_2 : decode b_TL_numberSavedRows 2 = .ok (.iload_n 1, 1) := by decide +kernel
theorem d_TL_numberSavedRows_3 : decode b_TL_numberSavedRows 3 = .ok (.aload_n 0, 1) := by decide +kernel
theorem d_TL_numberSavedRows_4 : decode b_TL_numberSavedRows 4 = .ok (.getfield 22, 3) := by decide +kernel
theorem d_TL_numberSavedRows_7 : decode b_TL_numberSavedRows 7 = .ok (.invokevirtual 71, 3) := by decide +kernel
theorem d_TL_numberSavedRows_10 : decode b_TL_numberSavedRows 10 = .ok (.if_icmp .ge 76, 3) := by decide +kernel
theorem d_TL_numberSavedRows_13 : decode b_TL_numberSavedRows 13 = .ok (.aload_n 0, 1) := by decide +kernel
theorem d_TL_numberSavedRows_14 : decode b_TL_numberSavedRows 14 = .ok (.iload_n 1, 1) := by decide +kernel
theorem d_TL_numberSavedRows_15 : decode b_TL_numberSavedRows 15 = .ok (.invokevirtual 136, 3) := by decide +kernel
theorem d_TL_numberSavedRows_18 : decode b_TL_numberSavedRows 18 = .ok (.ifCond .eq 25, 3) := by decide +kernel
theorem d_TL_numberSavedRows_21 : decode b_TL_numberSavedRows 21 = .ok (.aload_n 0, 1) := by decide +kernel
theorem d_TL_numberSavedRows_22 : decode b_TL_numberSavedRows 22 = .ok (.getfield 26, 3) := by decide +kernel
theorem d_TL_numberSavedRows_25 : decode b_TL_numberSavedRows 25 = .ok (.iload_n 1, 1) := by decide +kernel
theorem d_TL_numberSavedRows_26 : decode b_TL_numberSavedRows 26 = .ok (.aload_n 0, 1) := by decide +kernel
theorem d_TL_numberSavedRows_27 : decode b_TL_numberSavedRows 27 = .ok (.getfield 43, 3) := by decide +kernel
theorem d_TL_numberSavedRows_30 : decode b_TL_numberSavedRows 30 = .ok (.invokevirtual 114, 3) := by decide +kernel
theorem d_TL_numberSavedRows_33 : decode b_TL_numberSavedRows 33 = .ok (.aload_n 0, 1) := by decide +kernel
theorem d_TL_numberSavedRows_34 : decode b_TL_numberSavedRows 34 = .ok (.dup, 1) := by decide +kernel
theorem d_TL_numberSavedRows_35 : decode b_TL_numberSavedRows 35 = .ok (.getfield 43, 3) := by decide +kernel
theorem d_TL_numberSavedRows_38 : decode b_TL_numberSavedRows 38 = .ok (.iconst 1, 1) := by decide +kernel
theorem d_TL_numberSavedRows_39 : decode b_TL_numberSavedRows 39 = .ok (.iadd, 1) := by decide +kernel
theorem d_TL_numberSavedRows_40 : decode b_TL_numberSavedRows 40 = .ok (.putfield 43, 3) := by decide +kernel
theorem d_TL_numberSavedRows_43 : decode b_TL_numberSavedRows 43 = .ok (.aload_n 0, 1) := by decide +kernel
theorem d_TL_numberSavedRows_44 : decode b_TL_numberSavedRows 44 = .ok (.getfield 22, 3) := by decide +kernel
theorem d_TL_numberSavedRows_47 : decode b_TL_numberSavedRows 47 = .ok (.iload_n 1, 1) := by decide +kernel
theorem d_TL_numberSavedRows_48 : decode b_TL_numberSavedRows 48 = .ok (.invokevirtual 78, 3) := by decide +kernel
theorem d_TL_numberSavedRows_51 : decode b_TL_numberSavedRows 51 = .ok (.istore_n 2, 1) := by decide +kernel
theorem d_TL_numberSavedRows_52 : decode b_TL_numberSavedRows 52 = .ok (.iload_n 2, 1) := by decide +kernel
theorem d_TL_numberSavedRows_53 : decode b_TL_numberSavedRows 53 = .ok (.bipush (-2), 2) := by decide +kernel
theorem d_TL_numberSavedRows_55 : decode b_TL_numberSavedRows 55 = .ok (.if_icmp .gt 25, 3) := by decide +kernel
theorem d_TL_numberSavedRows_58 : decode b_TL_numberSavedRows 58 = .ok (.aload_n 0, 1) := by decide +kernel
theorem d_TL_numberSavedRows_59 : decode b_TL_numberSavedRows 59 = .ok (.getfield 22, 3) := by decide +kernel
theorem d_TL_numberSavedRows_62 : decode b_TL_numberSavedRows 62 = .ok (.iload_n 1, 1) := by decide +kernel
theorem d_TL_numberSavedRows_63 : decode b_TL_numberSavedRows 63 = .ok (.bipush (-2), 2) := by decide +kernel
theorem d_TL_numberSavedRows_65 : decode b_TL_numberSavedRows 65 = .ok (.aload_n 0, 1) := by decide +kernel
theorem d_TL_numberSavedRows_66 : decode b_TL_numberSavedRows 66 = .ok (.getfield 26, 3) := by decide +kernel
theorem d_TL_numberSavedRows_69 : decode b_TL_numberSavedRows 69 = .ok (.bipush (-2), 2) := by decide +kernel
theorem d_TL_numberSavedRows_71 : decode b_TL_numberSavedRows 71 = .ok (.iload_n 2, 1) := by decide +kernel
theorem d_TL_numberSavedRows_72 : decode b_TL_numberSavedRows 72 = .ok (.isub, 1) := by decide +kernel
theorem d_TL_numberSavedRows_73 : decode b_TL_numberSavedRows 73 = .ok (.invokevirtual 78, 3) := by decide +kernel
theorem d_TL_numberSavedRows_76 : decode b_TL_numberSavedRows 76 = .ok (.isub, 1) := by decide +kernel
theorem d_TL_numberSavedRows_77 : decode b_TL_numberSavedRows 77 = .ok (.invokevirtual 114, 3) := by decide +kernel
theorem d_TL_numberSavedRows_80 : decode b_TL_numberSavedRows 80 = .ok (.iinc 1 1, 3) := by decide +kernel
theorem d_TL_numberSavedRows_83 : decode b_TL_numberSavedRows 83 = .ok (.goto (-81), 3) := by decide +kernel
theorem d_TL_numberSavedRows_86 : decode b_TL_numberSavedRows 86 = .ok (.return_, 1) := by decide +kernel
theorem d_TL_numberStatements_0 : decode b_TL_numberStatements 0 = .ok (.aload_n 0, 1) := by decide +kernel
theorem d_TL_numberStatements_1 : decode b_TL_numberStatements 1 = .ok (.getfield 55, 3) := by decide +kernel
theorem d_TL_numberStatements_4 : decode b_TL_numberStatements 4 = .ok (.aload_n 0, 1) := by decide +kernel
theorem d_TL_numberStatements_5 : decode b_TL_numberStatements 5 = .ok (.getfield 9, 3) := by decide +kernel
theorem d_TL_numberStatements_8 : decode b_TL_numberStatements 8 = .ok (.invokevirtual 140, 3) := by decide +kernel
theorem d_TL_numberStatements_11 : decode b_TL_numberStatements 11 = .ok (.iconst (-1), 1) := by decide +kernel
theorem d_TL_numberStatements_12 : decode b_TL_numberStatements 12 = .ok (.invokevirtual 103, 3) := by decide +kernel
theorem d_TL_numberStatements_15 : decode b_TL_numberStatements 15 = .ok (.iconst 0, 1) := by decide +kernel
theorem d_TL_numberStatements_16 : decode b_TL_numberStatements 16 = .ok (.istore_n 1, 1) := by decide +kernel
theorem d_TL_numberStatements_17 : decode b_TL_numberStatements 17 = .ok (.iload_n 1, 1) := by decide +kernel
theorem d_TL_numberStatements_18 : decode b_TL_numberStatements 18 = .ok (.aload_n 0, 1) := by decide +kernel
theorem d_TL_numberStatements_19 : decode b_TL_numberStatements 19 = .ok (.getfield 22, 3) := by decide +kernel
theorem d_TL_numberStatements_22 : decode b_TL_numberStatements 22 = .ok (.invokevirtual 71, 3) := by decide +kernel
theorem d_TL_numberStatements_25 : decode b_TL_numberStatements 25 = .ok (.if_icmp .ge 49, 3) := by decide +kernel
theorem d_TL_numberStatements_28 : decode b_TL_numberStatements 28 = .ok (.aload_n 0, 1) := by decide +kernel
theorem d_TL_numberStatements_29 : decode b_TL_numberStatements 29 = .ok (.getfield 22, 3) := by decide +kernel
theorem d_TL_numberStatements_32 : decode b_TL_numberStatements 32 = .ok (.iload_n 1, 1) := by decide +kernel
theorem d_TL_numberStatements_33 : decode b_TL_numberStatements 33 = .ok (.invokevirtual 78, 3) := by decide +kernel
theorem d_TL_numberStatements_36 : decode b_TL_numberStatements 36 = .ok (.istore_n 2, 1) := by decide +kernel
theorem d_TL_numberStatements_37 : decode b_TL_numberStatements 37 = .ok (.iload_n 2, 1) := by decide +kernel
theorem d_TL_numberStatements_38 : decode b_TL_numberStatements 38 = .ok (.bipush (-2), 2) := by decide +kernel
theorem d_TL_numberStatements_40 : decode b_TL_numberStatements 40 = .ok (.if_icmp .le 28, 3) := by decide +kernel
theorem d_TL_numberStatements_43 : decode b_TL_numberStatements 43 = .ok (.aload_n 0, 1) := by decide +kernel
theorem d_TL_numberStatements_44 : decode b_TL_numberStatements 44 = .ok (.getfield 55, 3) := by decide +kernel
theorem d_TL_numberStatements_47 : decode b_TL_numberStatements 47 = .ok (.iload_n 2, 1) := by decide +kernel
theorem d_TL_numberStatements_48 : decode b_TL_numberStatements 48 = .ok (.invokevirtual 78, 3) := by decide +kernel
theorem d_TL_numberStatements_51 : decode b_TL_numberStatements 51 = .ok (.iconst (-1), 1) := by decide +kernel
theorem d_TL_numberStatements_52 : decode b_TL_numberStatements 52 = .ok (.if_icmp .ne 16, 3) := by decide +kernel
theorem d_TL_numberStatements_55 : decode b_TL_numberStatements 55 = .ok (.aload_n 0, 1) := by decide +kernel
theorem d_TL_numberStatements_56 : decode b_TL_numberStatements 56 = .ok (.getfield 55, 3) := by decide +kernel
theorem d_TL_numberStatements_59 : decode b_TL_numberStatements 59 = .ok (.iload_n 2, 1) := by decide +kernel
theorem d_TL_numberStatements_60 : decode b_TL_numberStatements 60 = .ok (.aload_n 0, 1) := by decide +kernel
theorem d_TL_numberStatements_61 : decode b_TL_numberStatements 61 = .ok (.iload_n 2, 1) := by decide +kernel
theorem d_TL_numberStatements_62 : decode b_TL_numberStatements 62 = .ok (.invokevirtual 143, 3) := by decide +kernel
theorem d_TL_numberStatements_65 : decode b_TL_numberStatements 65 = .ok (.invokevirtual 114, 3) := by decide +kernel
theorem d_TL_numberStatements_68 : decode b_TL_numberStatements 68 = .ok (.iinc 1 1, 3) := by decide +kernel
theorem d_TL_numberStatements_71 : decode b_TL_numberStatements 71 = .ok (.goto (-54), 3) := by decide +kernel
theorem d_TL_numberStatements_74 : decode b_TL_numberStatements 74 = .ok (.return_, 1) := by decide +kernel
theorem d_TL_numberOfNew_0 : decode b_TL_numberOfNew 0 = .ok (.aload_n 0, 1) := by decide +kernel
theorem d_TL_numberOfNew_1 : decode b_TL_numberOfNew 1 = .ok (.getfield 9, 3) := by decide +kernel
theorem d_TL_numberOfNew_4 : decode b_TL_numberOfNew 4 = .ok (.iload_n 1, 1) := by decide +kernel
theorem d_TL_numberOfNew_5 : decode b_TL_numberOfNew 5 = .ok (.invokevirtual 146, 3) := by decide +kernel
theorem d_TL_numberOfNew_8 : decode b_TL_numberOfNew 8 = .ok (.ifCond .eq 14, 3) := by decide +kernel
theorem d_TL_numberOfNew_11 : decode b_TL_numberOfNew 11 = .ok (.aload_n 0, 1) := by decide +kernel
theorem d_TL_numberOfNew_12 : decode b_TL_numberOfNew 12 = .ok (.getfield 9, 3) := by decide +kernel
theorem d_TL_numberOfNew_15 : decode b_TL_numberOfNew 15 = .ok (.iload_n 1, 1) := by decide +kernel
theorem d_TL_numberOfNew_16 : decode b_TL_numberOfNew 16 = .ok (.invokevirtual 149, 3) := by decide +kernel
theorem d_TL_numberOfNew_19 : decode b_TL_numberOfNew 19 = .ok (.iconst 1, 1) := by decide +kernel
theorem d_TL_numberOfNew_20 : decode b_TL_numberOfNew 20 = .ok (.iadd, 1) := by decide +kernel
theorem d_TL_numberOfNew_21 : decode b_TL_numberOfNew 21 = .ok (.ireturn, 1) := by decide +kernel
theorem d_TL_numberOfNew_22 : decode b_TL_numberOfNew 22 = .ok (.aload_n 0, 1) := by decide +kernel
theorem d_TL_numberOfNew_23 : decode b_TL_numberOfNew 23 = .ok (.getfield 29, 3) := by decide +kernel
theorem d_TL_numberOfNew_26 : decode b_TL_numberOfNew 26 = .ok (.iload_n 1, 1) := by decide +kernel
theorem d_TL_numberOfNew_27 : decode b_TL_numberOfNew 27 = .ok (.invokevirtual 133, 3) := by decide +kernel
theorem d_TL_numberOfNew_30 : decode b_TL_numberOfNew 30 = .ok (.aload_n 0, 1) := by decide +kernel
theorem d_TL_numberOfNew_31 : decode b_TL_numberOfNew 31 = .ok (.getfield 9, 3) := by decide +kernel
theorem d_TL_numberOfNew_34 : decode b_TL_numberOfNew 34 = .ok (.invokevirtual 152, 3) := by decide +kernel
theorem d_TL_numberOfNew_37 : decode b_TL_numberOfNew 37 = .ok (.aload_n 0, 1) := by decide +kernel
theorem d_TL_numberOfNew_38 : decode b_TL_numberOfNew 38 = .ok (.getfield 29, 3) := by decide +kernel
theorem d_TL_numberOfNew_41 : decode b_TL_numberOfNew 41 = .ok (.invokevirtual 71, 3) := by decide +kernel
theorem d_TL_numberOfNew_44 : decode b_TL_numberOfNew 44 = .ok (.iadd, 1) := by decide +kernel
theorem d_TL_numberOfNew_45 : decode b_TL_numberOfNew 45 = .ok (.ireturn, 1) := by decide +kernel
theorem d_TL_tellLetters_0 : decode b_TL_tellLetters 0 = .ok (.aload_n 0, 1) := by decide +kernel
theorem d_TL_tellLetters_1 : decode b_TL_tellLetters 1 = .ok (.getfield 9, 3) := by decide +kernel
theorem d_TL_tellLetters_4 : decode b_TL_tellLetters 4 = .ok (.invokevirtual 152, 3) := by decide +kernel
theorem d_TL_tellLetters_7 : decode b_TL_tellLetters 7 = .ok (.aload_n 0, 1) := by decide +kernel
theorem d_TL_tellLetters_8 : decode b_TL_tellLetters 8 = .ok (.getfield 29, 3) := by decide +kernel
theorem d_TL_tellLetters_11 : decode b_TL_tellLetters 11 = .ok (.invokevirtual 71, 3) := by decide +kernel
theorem d_TL_tellLetters_14 : decode b_TL_tellLetters 14 = .ok (.iadd, 1) := by decide +kernel
theorem d_TL_tellLetters_15 : decode b_TL_tellLetters 15 = .ok (.iconst 1, 1) := by decide +kernel
theorem d_TL_tellLetters_16 : decode b_TL_tellLetters 16 = .ok (.iadd, 1) := by decide +kernel
theorem d_TL_tellLetters_17 : decode b_TL_tellLetters 17 = .ok (.istore_n 1, 1) := by decide +kernel
theorem d_TL_tellLetters_18 : decode b_TL_tellLetters 18 = .ok (.iconst 0, 1) := by decide +kernel
theorem d_TL_tellLetters_19 : decode b_TL_tellLetters 19 = .ok (.istore_n 2, 1) := by decide +kernel
theorem d_TL_tellLetters_20 : decode b_TL_tellLetters 20 = .ok (.iload_n 2, 1) := by decide +kernel
theorem d_TL_tellLetters_21 : decode b_TL_tellLetters 21 = .ok (.aload_n 0, 1) := by decide +kernel
theorem d_TL_tellLetters_22 : decode b_TL_tellLetters 22 = .ok (.getfield 22, 3) := by decide +kernel
theorem d_TL_tellLetters_25 : decode b_TL_tellLetters 25 = .ok (.invokevirtual 71, 3) := by decide +kernel
theorem d_TL_tellLetters_28 : decode b_TL_tellLetters 28 = .ok (.if_icmp .ge 70, 3) := by decide +kernel
theorem d_TL_tellLetters_31 : decode b_TL_tellLetters 31 = .ok (.aload_n 0, 1) := by decide +kernel
theorem d_TL_tellLetters_32 : decode b_TL_tellLetters 32 = .ok (.getfield 22, 3) := by decide +kernel
theorem d_TL_tellLetters_35 : decode b_TL_tellLetters 35 = .ok (.iload_n 2, 1) := by decide +kernel
theorem d_TL_tellLetters_36 : decode b_TL_tellLetters 36 = .ok (.invokevirtual 78, 3) := by decide +kernel
theorem d_TL_tellLetters_39 : decode b_TL_tellLetters 39 = .ok (.istore_n 3, 1) := by decide +kernel
theorem d_TL_tellLetters_40 : decode b_TL_tellLetters 40 = .ok (.iload_n 3, 1) := by decide +kernel
theorem d_TL_tellLetters_41 : decode b_TL_tellLetters 41 = .ok (.bipush (-2), 2) := by decide +kernel
theorem d_TL_tellLetters_43 : decode b_TL_tellLetters 43 = .ok (.if_icmp .gt 19, 3) := by decide +kernel
theorem d_TL_tellLetters_46 : decode b_TL_tellLetters 46 = .ok (.aload_n 0, 1) := by decide +kernel
theorem d_TL_tellLetters_47 : decode b_TL_tellLetters 47 = .ok (.getfield 35, 3) := by decide +kernel
theorem d_TL_tellLetters_50 : decode b_TL_tellLetters 50 = .ok (.iload_n 1, 1) := by decide +kernel
theorem d_TL_tellLetters_51 : decode b_TL_tellLetters 51 = .ok (.bipush (-2), 2) := by decide +kernel
theorem d_TL_tellLetters_53 : decode b_TL_tellLetters 53 = .ok (.iadd, 1) := by decide +kernel
theorem d_TL_tellLetters_54 : decode b_TL_tellLetters 54 = .ok (.iload_n 3, 1) := by decide +kernel
theorem d_TL_tellLetters_55 : decode b_TL_tellLetters 55 = .ok (.isub, 1) := by decide +kernel
theorem d_TL_tellLetters_56 : decode b_TL_tellLetters 56 = .ok (.invokevirtual 155, 3) := by decide +kernel
theorem d_TL_tellLetters_59 : decode b_TL_tellLetters 59 = .ok (.goto 18, 3) := by decide +kernel
theorem d_TL_tellLetters_62 : decode b_TL_tellLetters 62 = .ok (.aload_n 0, 1) := by decide +kernel
theorem d_TL_tellLetters_63 : decode b_TL_tellLetters 63 = .ok (.getfield 35, 3) := by decide +kernel
theorem d_TL_tellLetters_66 : decode b_TL_tellLetters 66 = .ok (.aload_n 0, 1) := by decide +kernel
theorem d_TL_tellLetters_67 : decode b_TL_tellLetters 67 = .ok (.getfield 55, 3) := by decide +kernel
theorem d_TL_tellLetters_70 : decode b_TL_tellLetters 70 = .ok (.iload_n 3, 1) := by decide +kernel
theorem d_TL_tellLetters_71 : decode b_TL_tellLetters 71 = .ok (.invokevirtual 78, 3) := by decide +kernel
theorem d_TL_tellLetters_74 : decode b_TL_tellLetters 74 = .ok (.invokevirtual 155, 3) := by decide +kernel
theorem d_TL_tellLetters_77 : decode b_TL_tellLetters 77 = .ok (.aload_n 0, 1) := by decide +kernel
theorem d_TL_tellLetters_78 : decode b_TL_tellLetters 78 = .ok (.iload_n 2, 1) := by decide +kernel
theorem d_TL_tellLetters_79 : decode b_TL_tellLetters 79 = .ok (.invokevirtual 136, 3) := by decide +kernel
theorem d_TL_tellLetters_82 : decode b_TL_tellLetters 82 = .ok (.ifCond .eq 10, 3) := by decide +kernel
theorem d_TL_tellLetters_85 : decode b_TL_tellLetters 85 = .ok (.aload_n 0, 1) := by decide +kernel
theorem d_TL_tellLetters_86 : decode b_TL_tellLetters 86 = .ok (.getfield 35, 3) := by decide +kernel
theorem d_TL_tellLetters_89 : decode b_TL_tellLetters 89 = .ok (.invokevirtual 158, 3) := by decide +kernel
theorem d_TL_tellLetters_92 : decode b_TL_tellLetters 92 = .ok (.iinc 2 1, 3) := by decide +kernel
theorem d_TL_tellLetters_95 : decode b_TL_tellLetters 95 = .ok (.goto (-75), 3) := by decide +kernel
theorem d_TL_tellLetters_98 : decode b_TL_tellLetters 98 = .ok (.return_, 1) := by decide +kernel
theorem d_TL_makesItsRow_0 : decode b_TL_makesItsRow 0 = .ok (.aload_n 0, 1) := by decide +kernel
theorem d_TL_makesItsRow_1 : decode b_TL_makesItsRow 1 = .ok (.getfield 39, 3) := by decide +kernel
theorem d_TL_makesItsRow_4 : decode b_TL_makesItsRow 4 = .ok (.iconst (-1), 1) := by decide +kernel
theorem d_TL_makesItsRow_5 : decode b_TL_makesItsRow 5 = .ok (.if_icmp .ne 5, 3) := by decide +kernel
theorem d_TL_makesItsRow_8 : decode b_TL_makesItsRow 8 = .ok (.iconst 1, 1) := by decide +kernel
theorem d_TL_makesItsRow_9 : decode b_TL_makesItsRow 9 = .ok (.ireturn, 1) := by decide +kernel
theorem d_TL_makesItsRow_10 : decode b_TL_makesItsRow 10 = .ok (.aload_n 0, 1) := by decide +kernel
theorem d_TL_makesItsRow_11 : decode b_TL_makesItsRow 11 = .ok (.getfield 58, 3) := by decide +kernel
theorem d_TL_makesItsRow_14 : decode b_TL_makesItsRow 14 = .ok (.iconst 0, 1) := by decide +kernel
theorem d_TL_makesItsRow_15 : decode b_TL_makesItsRow 15 = .ok (.invokevirtual 64, 3) := by decide +kernel
theorem d_TL_makesItsRow_18 : decode b_TL_makesItsRow 18 = .ok (.aload_n 0, 1) := by decide +kernel
theorem d_TL_makesItsRow_19 : decode b_TL_makesItsRow 19 = .ok (.getfield 61, 3) := by decide +kernel
theorem d_TL_makesItsRow_22 : decode b_TL_makesItsRow 22 = .ok (.iconst 0, 1) := by decide +kernel
theorem d_TL_makesItsRow_23 : decode b_TL_makesItsRow 23 = .ok (.invokevirtual 64, 3) := by decide +kernel
theorem d_TL_makesItsRow_26 : decode b_TL_makesItsRow 26 = .ok (.iconst 0, 1) := by decide +kernel
theorem d_TL_makesItsRow_27 : decode b_TL_makesItsRow 27 = .ok (.istore_n 1, 1) := by decide +kernel
theorem d_TL_makesItsRow_28 : decode b_TL_makesItsRow 28 = .ok (.iload_n 1, 1) := by decide +kernel
theorem d_TL_makesItsRow_29 : decode b_TL_makesItsRow 29 = .ok (.aload_n 0, 1) := by decide +kernel
theorem d_TL_makesItsRow_30 : decode b_TL_makesItsRow 30 = .ok (.getfield 22, 3) := by decide +kernel
theorem d_TL_makesItsRow_33 : decode b_TL_makesItsRow 33 = .ok (.invokevirtual 71, 3) := by decide +kernel
theorem d_TL_makesItsRow_36 : decode b_TL_makesItsRow 36 = .ok (.if_icmp .ge 77, 3) := by decide +kernel
theorem d_TL_makesItsRow_39 : decode b_TL_makesItsRow 39 = .ok (.aload_n 0, 1) := by decide +kernel
theorem d_TL_makesItsRow_40 : decode b_TL_makesItsRow 40 = .ok (.getfield 58, 3) := by decide +kernel
theorem d_TL_makesItsRow_43 : decode b_TL_makesItsRow 43 = .ok (.invokevirtual 71, 3) := by decide +kernel
theorem d_TL_makesItsRow_46 : decode b_TL_makesItsRow 46 = .ok (.aload_n 0, 1) := by decide +kernel
theorem d_TL_makesItsRow_47 : decode b_TL_makesItsRow 47 = .ok (.iload_n 1, 1) := by decide +kernel
theorem d_TL_makesItsRow_48 : decode b_TL_makesItsRow 48 = .ok (.invokevirtual 161, 3) := by decide +kernel
theorem d_TL_makesItsRow_51 : decode b_TL_makesItsRow 51 = .ok (.isub, 1) := by decide +kernel
theorem d_TL_makesItsRow_52 : decode b_TL_makesItsRow 52 = .ok (.istore_n 2, 1) := by decide +kernel
theorem d_TL_makesItsRow_53 : decode b_TL_makesItsRow 53 = .ok (.iload_n 2, 1) := by decide +kernel
theorem d_TL_makesItsRow_54 : decode b_TL_makesItsRow 54 = .ok (.ifCond .ge 7, 3) := by decide +kernel
theorem d_TL_makesItsRow_57 : decode b_TL_makesItsRow 57 = .ok (.iconst (-1), 1) := by decide +kernel
theorem d_TL_makesItsRow_58 : decode b_TL_makesItsRow 58 = .ok (.goto 9, 3) := by decide +kernel
theorem d_TL_makesItsRow_61 : decode b_TL_makesItsRow 61 = .ok (.aload_n 0, 1) := by decide +kernel
theorem d_TL_makesItsRow_62 : decode b_TL_makesItsRow 62 = .ok (.iload_n 1, 1) := by decide +kernel
theorem d_TL_makesItsRow_63 : decode b_TL_makesItsRow 63 = .ok (.iload_n 2, 1) := by decide +kernel
theorem d_TL_makesItsRow_64 : decode b_TL_makesItsRow 64 = .ok (.invokevirtual 164, 3) := by decide +kernel
theorem d_TL_makesItsRow_67 : decode b_TL_makesItsRow 67 = .ok (.istore_n 3, 1) := by decide +kernel
theorem d_TL_makesItsRow_68 : decode b_TL_makesItsRow 68 = .ok (.iload_n 3, 1) := by decide +kernel
theorem d_TL_makesItsRow_69 : decode b_TL_makesItsRow 69 = .ok (.iconst (-1), 1) := by decide +kernel
theorem d_TL_makesItsRow_70 : decode b_TL_makesItsRow 70 = .ok (.if_icmp .ne 5, 3) := by decide +kernel
theorem d_TL_makesItsRow_73 : decode b_TL_makesItsRow 73 = .ok (.iconst 0, 1) := by decide +kernel
theorem d_TL_makesItsRow_74 : decode b_TL_makesItsRow 74 = .ok (.ireturn, 1) := by decide +kernel
theorem d_TL_makesItsRow_75 : decode b_TL_makesItsRow 75 = .ok (.aload_n 0, 1) := by decide +kernel
theorem d_TL_makesItsRow_76 : decode b_TL_makesItsRow 76 = .ok (.getfield 58, 3) := by decide +kernel
theorem d_TL_makesItsRow_79 : decode b_TL_makesItsRow 79 = .ok (.iload_n 2, 1) := by decide +kernel
theorem d_TL_makesItsRow_80 : decode b_TL_makesItsRow 80 = .ok (.invokevirtual 64, 3) := by decide +kernel
theorem d_TL_makesItsRow_83 : decode b_TL_makesItsRow 83 = .ok (.aload_n 0, 1) := by decide +kernel
theorem d_TL_makesItsRow_84 : decode b_TL_makesItsRow 84 = .ok (.getfield 58, 3) := by decide +kernel
theorem d_TL_makesItsRow_87 : decode b_TL_makesItsRow 87 = .ok (.iload_n 3, 1) := by decide +kernel
theorem d_TL_makesItsRow_88 : decode b_TL_makesItsRow 88 = .ok (.invokevirtual 133, 3) := by decide +kernel
theorem d_TL_makesItsRow_91 : decode b_TL_makesItsRow 91 = .ok (.aload_n 0, 1) := by decide +kernel
theorem d_TL_makesItsRow_92 : decode b_TL_makesItsRow 92 = .ok (.iload_n 1, 1) := by decide +kernel
theorem d_TL_makesItsRow_93 : decode b_TL_makesItsRow 93 = .ok (.invokevirtual 136, 3) := by decide +kernel
theorem d_TL_makesItsRow_96 : decode b_TL_makesItsRow 96 = .ok (.ifCond .eq 11, 3) := by decide +kernel
theorem d_TL_makesItsRow_99 : decode b_TL_makesItsRow 99 = .ok (.aload_n 0, 1) := by decide +kernel
theorem d_TL_makesItsRow_100 : decode b_TL_makesItsRow 100 = .ok (.getfield 61, 3) := by decide +kernel
theorem d_TL_makesItsRow_103 : decode b_TL_makesItsRow 103 = .ok (.iload_n 3, 1) := by decide +kernel
theorem d_TL_makesItsRow_104 : decode b_TL_makesItsRow 104 = .ok (.invokevirtual 133, 3) := by decide +kernel
theorem d_TL_makesItsRow_107 : decode b_TL_makesItsRow 107 = .ok (.iinc 1 1, 3) := by decide +kernel
theorem d_TL_makesItsRow_110 : decode b_TL_makesItsRow 110 = .ok (.goto (-82), 3) := by decide +kernel
theorem d_TL_makesItsRow_113 : decode b_TL_makesItsRow 113 = .ok (.aload_n 0, 1) := by decide +kernel
theorem d_TL_makesItsRow_114 : decode b_TL_makesItsRow 114 = .ok (.getfield 58, 3) := by decide +kernel
theorem d_TL_makesItsRow_117 : decode b_TL_makesItsRow 117 = .ok (.invokevirtual 71, 3) := by decide +kernel
theorem d_TL_makesItsRow_120 : decode b_TL_makesItsRow 120 = .ok (.iconst 1, 1) := by decide +kernel
theorem d_TL_makesItsRow_121 : decode b_TL_makesItsRow 121 = .ok (.if_icmp .ne 29, 3) := by decide +kernel
theorem d_TL_makesItsRow_124 : decode b_TL_makesItsRow 124 = .ok (.aload_n 0, 1) := by decide +kernel
theorem d_TL_makesItsRow_125 : decode b_TL_makesItsRow 125 = .ok (.getfield 58, 3) := by decide +kernel
theorem d_TL_makesItsRow_128 : decode b_TL_makesItsRow 128 = .ok (.iconst 0, 1) := by decide +kernel
theorem d_TL_makesItsRow_129 : decode b_TL_makesItsRow 129 = .ok (.invokevirtual 78, 3) := by decide +kernel
theorem d_TL_makesItsRow_132 : decode b_TL_makesItsRow 132 = .ok (.aload_n 0, 1) := by decide +kernel
theorem d_TL_makesItsRow_133 : decode b_TL_makesItsRow 133 = .ok (.getfield 15, 3) := by decide +kernel
theorem d_TL_makesItsRow_136 : decode b_TL_makesItsRow 136 = .ok (.aload_n 0, 1) := by decide +kernel
theorem d_TL_makesItsRow_137 : decode b_TL_makesItsRow 137 = .ok (.getfield 39, 3) := by decide +kernel
theorem d_TL_makesItsRow_140 : decode b_TL_makesItsRow 140 = .ok (.invokevirtual 124, 3) := by decide +kernel
theorem d_TL_makesItsRow_143 : decode b_TL_makesItsRow 143 = .ok (.if_icmp .ne 7, 3) := by decide +kernel
theorem d_TL_makesItsRow_146 : decode b_TL_makesItsRow 146 = .ok (.iconst 1, 1) := by decide +kernel
theorem d_TL_makesItsRow_147 : decode b_TL_makesItsRow 147 = .ok (.goto 4, 3) := by decide +kernel
theorem d_TL_makesItsRow_150 : decode b_TL_makesItsRow 150 = .ok (.iconst 0, 1) := by decide +kernel
theorem d_TL_makesItsRow_151 : decode b_TL_makesItsRow 151 = .ok (.ireturn, 1) := by decide +kernel
theorem d_TL_rowsTakenAt_0 : decode b_TL_rowsTakenAt 0 = .ok (.aload_n 0, 1) := by decide +kernel
theorem d_TL_rowsTakenAt_1 : decode b_TL_rowsTakenAt 1 = .ok (.getfield 22, 3) := by decide +kernel
theorem d_TL_rowsTakenAt_4 : decode b_TL_rowsTakenAt 4 = .ok (.iload_n 1, 1) := by decide +kernel
theorem d_TL_rowsTakenAt_5 : decode b_TL_rowsTakenAt 5 = .ok (.invokevirtual 78, 3) := by decide +kernel
theorem d_TL_rowsTakenAt_8 : decode b_TL_rowsTakenAt 8 = .ok (.istore_n 2, 1) := by decide +kernel
theorem d_TL_rowsTakenAt_9 : decode b_TL_rowsTakenAt 9 = .ok (.iload_n 2, 1) := by decide +kernel
theorem d_TL_rowsTakenAt_10 : decode b_TL_rowsTakenAt 10 = .ok (.bipush (-2), 2) := by decide +kernel
theorem d_TL_rowsTakenAt_12 : decode b_TL_rowsTakenAt 12 = .ok (.if_icmp .gt 7, 3) := by decide +kernel
theorem d_TL_rowsTakenAt_15 : decode b_TL_rowsTakenAt 15 = .ok (.iconst 0, 1) := by decide +kernel
theorem d_TL_rowsTakenAt_16 : decode b_TL_rowsTakenAt 16 = .ok (.goto 11, 3) := by decide +kernel
theorem d_TL_rowsTakenAt_19 : decode b_TL_rowsTakenAt 19 = .ok (.aload_n 0, 1) := by decide +kernel
theorem d_TL_rowsTakenAt_20 : decode b_TL_rowsTakenAt 20 = .ok (.getfield 9, 3) := by decide +kernel
theorem d_TL_rowsTakenAt_23 : decode b_TL_rowsTakenAt 23 = .ok (.iload_n 2, 1) := by decide +kernel
theorem d_TL_rowsTakenAt_24 : decode b_TL_rowsTakenAt 24 = .ok (.invokevirtual 167, 3) := by decide +kernel
theorem d_TL_rowsTakenAt_27 : decode b_TL_rowsTakenAt 27 = .ok (.ireturn, 1) := by decide +kernel
theorem d_TL_kindMadeAt_0 : decode b_TL_kindMadeAt 0 = .ok (.aload_n 0, 1) := by decide +kernel
theorem d_TL_kindMadeAt_1 : decode b_TL_kindMadeAt 1 = .ok (.getfield 22, 3) := by decide +kernel
theorem d_TL_kindMadeAt_4 : decode b_TL_kindMadeAt 4 = .ok (.iload_n 1, 1) := by decide +kernel
theorem d_TL_kindMadeAt_5 : decode b_TL_kindMadeAt 5 = .ok (.invokevirtual 78, 3) := by decide +kernel
theorem d_TL_kindMadeAt_8 : decode b_TL_kindMadeAt 8 = .ok (.istore_n 3, 1) := by decide +kernel
theorem d_TL_kindMadeAt_9 : decode b_TL_kindMadeAt 9 = .ok (.iload_n 3, 1) := by decide +kernel
theorem d_TL_kindMadeAt_10 : decode b_TL_kindMadeAt 10 = .ok (.bipush (-2), 2) := by decide +kernel
theorem d_TL_kindMadeAt_12 : decode b_TL_kindMadeAt 12 = .ok (.if_icmp .gt 15, 3) := by decide +kernel
theorem d_TL_kindMadeAt_15 : decode b_TL_kindMadeAt 15 = .ok (.aload_n 0, 1) := by decide +kernel
theorem d_TL_kindMadeAt_16 : decode b_TL_kindMadeAt 16 = .ok (.getfield 61, 3) := by decide +kernel
theorem d_TL_kindMadeAt_19 : decode b_TL_kindMadeAt 19 = .ok (.bipush (-2), 2) := by decide +kernel
theorem d_TL_kindMadeAt_21 : decode b_TL_kindMadeAt 21 = .ok (.iload_n 3, 1) := by decide +kernel
theorem d_TL_kindMadeAt_22 : decode b_TL_kindMadeAt 22 = .ok (.isub, 1) := by decide +kernel
theorem d_TL_kindMadeAt_23 : decode b_TL_kindMadeAt 23 = .ok (.invokevirtual 78, 3) := by decide +kernel
theorem d_TL_kindMadeAt_26 : decode b_TL_kindMadeAt 26 = .ok (.ireturn, 1) := by decide +kernel
theorem d_TL_kindMadeAt_27 : decode b_TL_kindMadeAt 27 = .ok (.aload_n 0, 1) := by decide +kernel
theorem d_TL_kindMadeAt_28 : decode b_TL_kindMadeAt 28 = .ok (.getfield 15, 3) := by decide +kernel
theorem d_TL_kindMadeAt_31 : decode b_TL_kindMadeAt 31 = .ok (.iload_n 3, 1) := by decide +kernel
theorem d_TL_kindMadeAt_32 : decode b_TL_kindMadeAt 32 = .ok (.aload_n 0, 1) := by decide +kernel
theorem d_TL_kindMadeAt_33 : decode b_TL_kindMadeAt 33 = .ok (.getfield 58, 3) := by decide +kernel
theorem d_TL_kindMadeAt_36 : decode b_TL_kindMadeAt 36 = .ok (.iload_n 2, 1) := by decide +kernel
theorem d_TL_kindMadeAt_37 : decode b_TL_kindMadeAt 37 = .ok (.invokevirtual 170, 3) := by decide +kernel
theorem d_TL_kindMadeAt_40 : decode b_TL_kindMadeAt 40 = .ok (.ireturn, 1) := by decide +kernel
