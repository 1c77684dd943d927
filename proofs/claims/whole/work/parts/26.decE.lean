theorem d_MD_init_0 : decode b_MD_init 0 = .ok (.aload_n 0, 1) := by decide +kernel
theorem d_MD_init_1 : decode b_MD_init 1 = .ok (.invokespecial 1, 3) := by decide +kernel
theorem d_MD_init_4 : decode b_MD_init 4 = .ok (.aload_n 0, 1) := by decide +kernel
theorem d_MD_init_5 : decode b_MD_init 5 = .ok (.sipush 1500, 3) := by decide +kernel
theorem d_MD_init_8 : decode b_MD_init 8 = .ok (.newarray .int, 2) := by decide +kernel
theorem d_MD_init_10 : decode b_MD_init 10 = .ok (.putfield 7, 3) := by decide +kernel
theorem d_MD_init_13 : decode b_MD_init 13 = .ok (.aload_n 0, 1) := by decide +kernel
theorem d_MD_init_14 : decode b_MD_init 14 = .ok (.bipush 60, 2) := by decide +kernel
theorem d_MD_init_16 : decode b_MD_init 16 = .ok (.newarray .int, 2) := by decide +kernel
theorem d_MD_init_18 : decode b_MD_init 18 = .ok (.putfield 13, 3) := by decide +kernel
theorem d_MD_init_21 : decode b_MD_init 21 = .ok (.aload_n 0, 1) := by decide +kernel
theorem d_MD_init_22 : decode b_MD_init 22 = .ok (.sipush 4000, 3) := by decide +kernel
theorem d_MD_init_25 : decode b_MD_init 25 = .ok (.newarray .int, 2) := by decide +kernel
theorem d_MD_init_27 : decode b_MD_init 27 = .ok (.putfield 16, 3) := by decide +kernel
theorem d_MD_init_30 : decode b_MD_init 30 = .ok (.aload_n 0, 1) := by decide +kernel
theorem d_MD_init_31 : decode b_MD_init 31 = .ok (.sipush 4000, 3) := by decide +kernel
theorem d_MD_init_34 : decode b_MD_init 34 = .ok (.newarray .int, 2) := by decide +kernel
theorem d_MD_init_36 : decode b_MD_init 36 = .ok (.putfield 19, 3) := by decide +kernel
theorem d_MD_init_39 : decode b_MD_init 39 = .ok (.aload_n 0, 1) := by decide +kernel
theorem d_MD_init_40 : decode b_MD_init 40 = .ok (.sipush 4000, 3) := by decide +kernel
theorem d_MD_init_43 : decode b_MD_init 43 = .ok (.newarray .int, 2) := by decide +kernel
theorem d_MD_init_45 : decode b_MD_init 45 = .ok (.putfield 22, 3) := by decide +kernel
theorem d_MD_init_48 : decode b_MD_init 48 = .ok (.aload_n 0, 1) := by decide +kernel
theorem d_MD_init_49 : decode b_MD_init 49 = .ok (.sipush 4000, 3) := by decide +kernel
theorem d_MD_init_52 : decode b_MD_init 52 = .ok (.newarray .long, 2) := by decide +kernel
theorem d_MD_init_54 : decode b_MD_init 54 = .ok (.putfield 25, 3) := by decide +kernel
theorem d_MD_init_57 : decode b_MD_init 57 = .ok (.aload_n 0, 1) := by decide +kernel
theorem d_MD_init_58 : decode b_MD_init 58 = .ok (.sipush 20100, 3) := by decide +kernel
theorem d_MD_init_61 : decode b_MD_init 61 = .ok (.newarray .int, 2) := by decide +kernel
theorem d_MD_init_63 : decode b_MD_init 63 = .ok (.putfield 29, 3) := by decide +kernel
theorem d_MD_init_66 : decode b_MD_init 66 = .ok (.aload_n 0, 1) := by decide +kernel
theorem d_MD_init_67 : decode b_MD_init 67 = .ok (.sipush 200, 3) := by decide +kernel
theorem d_MD_init_70 : decode b_MD_init 70 = .ok (.newarray .int, 2) := by decide +kernel
theorem d_MD_init_72 : decode b_MD_init 72 = .ok (.putfield 32, 3) := by decide +kernel
theorem d_MD_init_75 : decode b_MD_init 75 = .ok (.aload_n 0, 1) := by decide +kernel
theorem d_MD_init_76 : decode b_MD_init 76 = .ok (.sipush 26000, 3) := by decide +kernel
theorem d_MD_init_79 : decode b_MD_init 79 = .ok (.newarray .int, 2) := by decide +kernel
theorem d_MD_init_81 : decode b_MD_init 81 = .ok (.putfield 35, 3) := by decide +kernel
theorem d_MD_init_84 : decode b_MD_init 84 = .ok (.aload_n 0, 1) := by decide +kernel
theorem d_MD_init_85 : decode b_MD_init 85 = .ok (.sipush 26000, 3) := by decide +kernel
theorem d_MD_init_88 : decode b_MD_init 88 = .ok (.newarray .int, 2) := by decide +kernel
theorem d_MD_init_90 : decode b_MD_init 90 = .ok (.putfield 38, 3) := by decide +kernel
theorem d_MD_init_93 : decode b_MD_init 93 = .ok (.aload_n 0, 1) := by decide +kernel
theorem d_MD_init_94 : decode b_MD_init 94 = .ok (.sipush 4000, 3) := by decide +kernel
theorem d_MD_init_97 : decode b_MD_init 97 = .ok (.newarray .boolean, 2) := by decide +kernel
theorem d_MD_init_99 : decode b_MD_init 99 = .ok (.putfield 41, 3) := by decide +kernel
theorem d_MD_init_102 : decode b_MD_init 102 = .ok (.aload_n 0, 1) := by decide +kernel
theorem d_MD_init_103 : decode b_MD_init 103 = .ok (.sipush 4000, 3) := by decide +kernel
theorem d_MD_init_106 : decode b_MD_init 106 = .ok (.newarray .boolean, 2) := by decide +kernel
theorem d_MD_init_108 : decode b_MD_init 108 = .ok (.putfield 45, 3) := by decide +kernel
theorem d_MD_init_111 : decode b_MD_init 111 = .ok (.aload_n 0, 1) := by decide +kernel
theorem d_MD_init_112 : decode b_MD_init 112 = .ok (.sipush 4000, 3) := by decide +kernel
theorem d_MD_init_115 : decode b_MD_init 115 = .ok (.newarray .int, 2) := by decide +kernel
theorem d_MD_init_117 : decode b_MD_init 117 = .ok (.putfield 48, 3) := by decide +kernel
theorem d_MD_init_120 : decode b_MD_init 120 = .ok (.aload_n 0, 1) := by decide +kernel
theorem d_MD_init_121 : decode b_MD_init 121 = .ok (.sipush 1500, 3) := by decide +kernel
theorem d_MD_init_124 : decode b_MD_init 124 = .ok (.newarray .int, 2) := by decide +kernel
theorem d_MD_init_126 : decode b_MD_init 126 = .ok (.putfield 51, 3) := by decide +kernel
theorem d_MD_init_129 : decode b_MD_init 129 = .ok (.aload_n 0, 1) := by decide +kernel
theorem d_MD_init_130 : decode b_MD_init 130 = .ok (.ldc 54, 2) := by decide +kernel
theorem d_MD_init_132 : decode b_MD_init 132 = .ok (.newarray .int, 2) := by decide +kernel
theorem d_MD_init_134 : decode b_MD_init 134 = .ok (.putfield 55, 3) := by decide +kernel
theorem d_MD_init_137 : decode b_MD_init 137 = .ok (.aload_n 0, 1) := by decide +kernel
theorem d_MD_init_138 : decode b_MD_init 138 = .ok (.sipush 26000, 3) := by decide +kernel
theorem d_MD_init_141 : decode b_MD_init 141 = .ok (.newarray .boolean, 2) := by decide +kernel
theorem d_MD_init_143 : decode b_MD_init 143 = .ok (.putfield 58, 3) := by decide +kernel
theorem d_MD_init_146 : decode b_MD_init 146 = .ok (.aload_n 0, 1) := by decide +kernel
theorem d_MD_init_147 : decode b_MD_init 147 = .ok (.sipush 4001, 3) := by decide +kernel
theorem d_MD_init_150 : decode b_MD_init 150 = .ok (.newarray .int, 2) := by decide +kernel
theorem d_MD_init_152 : decode b_MD_init 152 = .ok (.putfield 61, 3) := by decide +kernel
theorem d_MD_init_155 : decode b_MD_init 155 = .ok (.aload_n 0, 1) := by decide +kernel
theorem d_MD_init_156 : decode b_MD_init 156 = .ok (.sipush 4001, 3) := by decide +kernel
theorem d_MD_init_159 : decode b_MD_init 159 = .ok (.newarray .int, 2) := by decide +kernel
theorem d_MD_init_161 : decode b_MD_init 161 = .ok (.putfield 64, 3) := by decide +kernel
theorem d_MD_init_164 : decode b_MD_init 164 = .ok (.return_, 1) := by decide +kernel
theorem d_MD_statement_0 : decode b_MD_statement 0 = .ok (.iload_n 1, 1) := by decide +kernel
theorem d_MD_statement_1 : decode b_MD_statement 1 = .ok (.ifCond .lt 19, 3) := by decide +kernel
theorem d_MD_statement_4 : decode b_MD_statement 4 = .ok (.iload_n 1, 1) := by decide +kernel
theorem d_MD_statement_5 : decode b_MD_statement 5 = .ok (.bipush 60, 2) := by decide +kernel
theorem d_MD_statement_7 : decode b_MD_statement 7 = .ok (.if_icmp .gt 13, 3) := by decide +kernel
theorem d_MD_statement_10 : decode b_MD_statement 10 = .ok (.aload_n 0, 1) := by decide +kernel
theorem d_MD_statement_11 : decode b_MD_statement 11 = .ok (.getfield 67, 3) := by decide +kernel
theorem d_MD_statement_14 : decode b_MD_statement 14 = .ok (.sipush 1500, 3) := by decide +kernel
theorem d_MD_statement_17 : decode b_MD_statement 17 = .ok (.if_icmp .ne 5, 3) := by decide +kernel
theorem d_MD_statement_20 : decode b_MD_statement 20 = .ok (.iconst (-1), 1) := by decide +kernel
theorem d_MD_statement_21 : decode b_MD_statement 21 = .ok (.ireturn, 1) := by decide +kernel
theorem d_MD_statement_22 : decode b_MD_statement 22 = .ok (.aload_n 0, 1) := by decide +kernel
theorem d_MD_statement_23 : decode b_MD_statement 23 = .ok (.getfield 7, 3) := by decide +kernel
theorem d_MD_statement_26 : decode b_MD_statement 26 = .ok (.aload_n 0, 1) := by decide +kernel
theorem d_MD_statement_27 : decode b_MD_statement 27 = .ok (.getfield 67, 3) := by decide +kernel
theorem d_MD_statement_30 : decode b_MD_statement 30 = .ok (.iload_n 1, 1) := by decide +kernel
theorem d_MD_statement_31 : decode b_MD_statement 31 = .ok (.iastore, 1) := by decide +kernel
theorem d_MD_statement_32 : decode b_MD_statement 32 = .ok (.aload_n 0, 1) := by decide +kernel
theorem d_MD_statement_33 : decode b_MD_statement 33 = .ok (.dup, 1) := by decide +kernel
theorem d_MD_statement_34 : decode b_MD_statement 34 = .ok (.getfield 67, 3) := by decide +kernel
theorem d_MD_statement_37 : decode b_MD_statement 37 = .ok (.iconst 1, 1) := by decide +kernel
theorem d_MD_statement_38 : decode b_MD_statement 38 = .ok (.iadd, 1) := by decide +kernel
theorem d_MD_statement_39 : decode b_MD_statement 39 = .ok (.putfield 67, 3) := by decide +kernel
theorem d_MD_statement_42 : decode b_MD_statement 42 = .ok (.aload_n 0, 1) := by decide +kernel
theorem d_MD_statement_43 : decode b_MD_statement 43 = .ok (.getfield 67, 3) := by decide +kernel
theorem d_MD_statement_46 : decode b_MD_statement 46 = .ok (.iconst 1, 1) := by decide +kernel
theorem d_MD_statement_47 : decode b_MD_statement 47 = .ok (.isub, 1) := by decide +kernel
theorem d_MD_statement_48 : decode b_MD_statement 48 = .ok (.ireturn, 1) := by decide +kernel
theorem d_MD_isStatement_0 : decode b_MD_isStatement 0 = .ok (.iload_n 1, 1) := by decide +kernel
theorem d_MD_isStatement_1 : decode b_MD_isStatement 1 = .ok (.ifCond .lt 15, 3) := by decide +kernel
theorem d_MD_isStatement_4 : decode b_MD_isStatement 4 = .ok (.iload_n 1, 1) := by decide +kernel
theorem d_MD_isStatement_5 : decode b_MD_isStatement 5 = .ok (.aload_n 0, 1) := by decide +kernel
theorem d_MD_isStatement_6 : decode b_MD_isStatement 6 = .ok (.getfield 67, 3) := by decide +kernel
theorem d_MD_isStatement_9 : decode b_MD_isStatement 9 = .ok (.if_icmp .ge 7, 3) := by decide +kernel
theorem d_MD_isStatement_12 : decode b_MD_isStatement 12 = .ok (.iconst 1, 1) := by decide +kernel
theorem d_MD_isStatement_13 : decode b_MD_isStatement 13 = .ok (.goto 4, 3) := by decide +kernel
theorem d_MD_isStatement_16 : decode b_MD_isStatement 16 = .ok (.iconst 0, 1) := by decide +kernel
theorem d_MD_isStatement_17 : decode b_MD_isStatement 17 = .ok (.ireturn, 1) := by decide +kernel
theorem d_MD_mandatoryOf_0 : decode b_MD_mandatoryOf 0 = .ok (.iconst 0, 1) := by decide +kernel
theorem d_MD_mandatoryOf_1 : decode b_MD_mandatoryOf 1 = .ok (.istore_n 2, 1) := by decide +kernel
theorem d_MD_mandatoryOf_2 : decode b_MD_mandatoryOf 2 = .ok (.iload_n 2, 1) := by decide +kernel
theorem d_MD_mandatoryOf_3 : decode b_MD_mandatoryOf 3 = .ok (.aload_n 0, 1) := by decide +kernel
theorem d_MD_mandatoryOf_4 : decode b_MD_mandatoryOf 4 = .ok (.getfield 71, 3) := by decide +kernel
theorem d_MD_mandatoryOf_7 : decode b_MD_mandatoryOf 7 = .ok (.if_icmp .ge 21, 3) := by decide +kernel
theorem d_MD_mandatoryOf_10 : decode b_MD_mandatoryOf 10 = .ok (.aload_n 0, 1) := by decide +kernel
theorem d_MD_mandatoryOf_11 : decode b_MD_mandatoryOf 11 = .ok (.getfield 13, 3) := by decide +kernel
theorem d_MD_mandatoryOf_14 : decode b_MD_mandatoryOf 14 = .ok (.iload_n 2, 1) := by decide +kernel
theorem d_MD_mandatoryOf_15 : decode b_MD_mandatoryOf 15 = .ok (.iaload, 1) := by decide +kernel
theorem d_MD_mandatoryOf_16 : decode b_MD_mandatoryOf 16 = .ok (.iload_n 1, 1) := by decide +kernel
theorem d_MD_mandatoryOf_17 : decode b_MD_mandatoryOf 17 = .ok (.if_icmp .ne 5, 3) := by decide +kernel
theorem d_MD_mandatoryOf_20 : decode b_MD_mandatoryOf 20 = .ok (.iload_n 2, 1) := by decide +kernel
theorem d_MD_mandatoryOf_21 : decode b_MD_mandatoryOf 21 = .ok (.ireturn, 1) := by decide +kernel
theorem d_MD_mandatoryOf_22 : decode b_MD_mandatoryOf 22 = .ok (.iinc 2 1, 3) := by decide +kernel
theorem d_MD_mandatoryOf_25 : decode b_MD_mandatoryOf 25 = .ok (.goto (-23), 3) := by decide +kernel
theorem d_MD_mandatoryOf_28 : decode b_MD_mandatoryOf 28 = .ok (.iconst (-1), 1) := by decide +kernel
theorem d_MD_mandatoryOf_29 : decode b_MD_mandatoryOf 29 = .ok (.ireturn, 1) := by decide +kernel
theorem d_MD_mandatory_0 : decode b_MD_mandatory 0 = .ok (.aload_n 0, 1) := by decide +kernel
theorem d_MD_mandatory_1 : decode b_MD_mandatory 1 = .ok (.iload_n 1, 1) := by decide +kernel
theorem d_MD_mandatory_2 : decode b_MD_mandatory 2 = .ok (.invokevirtual 74, 3) := by decide +kernel
theorem d_MD_mandatory_5 : decode b_MD_mandatory 5 = .ok (.ifCond .eq 29, 3) := by decide +kernel
theorem d_MD_mandatory_8 : decode b_MD_mandatory 8 = .ok (.aload_n 0, 1) := by decide +kernel
theorem d_MD_mandatory_9 : decode b_MD_mandatory 9 = .ok (.getfield 7, 3) := by decide +kernel
theorem d_MD_mandatory_12 : decode b_MD_mandatory 12 = .ok (.iload_n 1, 1) := by decide +kernel
theorem d_MD_mandatory_13 : decode b_MD_mandatory 13 = .ok (.iaload, 1) := by decide +kernel
theorem d_MD_mandatory_14 : decode b_MD_mandatory 14 = .ok (.ifCond .gt 20, 3) := by decide +kernel
theorem d_MD_mandatory_17 : decode b_MD_mandatory 17 = .ok (.aload_n 0, 1) := by decide +kernel
theorem d_MD_mandatory_18 : decode b_MD_mandatory 18 = .ok (.iload_n 1, 1) := by decide +kernel
theorem d_MD_mandatory_19 : decode b_MD_mandatory 19 = .ok (.invokevirtual 78, 3) := by decide +kernel
theorem d_MD_mandatory_22 : decode b_MD_mandatory 22 = .ok (.ifCond .ge 12, 3) := by decide +kernel
theorem d_MD_mandatory_25 : decode b_MD_mandatory 25 = .ok (.aload_n 0, 1) := by decide +kernel
theorem d_MD_mandatory_26 : decode b_MD_mandatory 26 = .ok (.getfield 71, 3) := by decide +kernel
theorem d_MD_mandatory_29 : decode b_MD_mandatory 29 = .ok (.bipush 60, 2) := by decide +kernel
theorem d_MD_mandatory_31 : decode b_MD_mandatory 31 = .ok (.if_icmp .ne 5, 3) := by decide +kernel
theorem d_MD_mandatory_34 : decode b_MD_mandatory 34 = .ok (.iconst (-1), 1) := by decide +kernel
theorem d_MD_mandatory_35 : decode b_MD_mandatory 35 = .ok (.ireturn, 1) := by decide +kernel
theorem d_MD_mandatory_36 : decode b_MD_mandatory 36 = .ok (.aload_n 0, 1) := by decide +kernel
theorem d_MD_mandatory_37 : decode b_MD_mandatory 37 = .ok (.getfield 13, 3) := by decide +kernel
theorem d_MD_mandatory_40 : decode b_MD_mandatory 40 = .ok (.aload_n 0, 1) := by decide +kernel
theorem d_MD_mandatory_41 : decode b_MD_mandatory 41 = .ok (.getfield 71, 3) := by decide +kernel
theorem d_MD_mandatory_44 : decode b_MD_mandatory 44 = .ok (.iload_n 1, 1) := by decide +kernel
theorem d_MD_mandatory_45 : decode b_MD_mandatory 45 = .ok (.iastore, 1) := by decide +kernel
theorem d_MD_mandatory_46 : decode b_MD_mandatory 46 = .ok (.aload_n 0, 1) := by decide +kernel
theorem d_MD_mandatory_47 : decode b_MD_mandatory 47 = .ok (.dup, 1) := by decide +kernel
theorem d_MD_mandatory_48 : decode b_MD_mandatory 48 = .ok (.getfield 71, 3) := by decide +kernel
theorem d_MD_mandatory_51 : decode b_MD_mandatory 51 = .ok (.iconst 1, 1) := by decide +kernel
theorem d_MD_mandatory_52 : decode b_MD_mandatory 52 = .ok (.iadd, 1) := by decide +kernel
theorem d_MD_mandatory_53 : decode b_MD_mandatory 53 = .ok (.putfield 71, 3) := by decide +kernel
theorem d_MD_mandatory_56 : decode b_MD_mandatory 56 = .ok (.aload_n 0, 1) := by decide +kernel
theorem d_MD_mandatory_57 : decode b_MD_mandatory 57 = .ok (.getfield 71, 3) := by decide +kernel
theorem d_MD_mandatory_60 : decode b_MD_mandatory 60 = .ok (.ireturn, 1) := by decide +kernel
theorem d_MD_isAlike_0 : decode b_MD_isAlike 0 = .ok (.aload_n 0, 1) := by decide +kernel
theorem d_MD_isAlike_1 : decode b_MD_isAlike 1 = .ok (.getfield 16, 3) := by decide +kernel
theorem d_MD_isAlike_4 : decode b_MD_isAlike 4 = .ok (.iload_n 1, 1) := by decide +kernel
theorem d_MD_isAlike_5 : decode b_MD_isAlike 5 = .ok (.iaload, 1) := by decide +kernel
theorem d_MD_isAlike_6 : decode b_MD_isAlike 6 = .ok (.aload_n 0, 1) := by decide +kernel
theorem d_MD_isAlike_7 : decode b_MD_isAlike 7 = .ok (.getfield 16, 3) := by decide +kernel
theorem d_MD_isAlike_10 : decode b_MD_isAlike 10 = .ok (.iload_n 2, 1) := by decide +kernel
theorem d_MD_isAlike_11 : decode b_MD_isAlike 11 = .ok (.iaload, 1) := by decide +kernel
theorem d_MD_isAlike_12 : decode b_MD_isAlike 12 = .ok (.if_icmp .ne 7, 3) := by decide +kernel
theorem d_MD_isAlike_15 : decode b_MD_isAlike 15 = .ok (.iconst 1, 1) := by decide +kernel
theorem d_MD_isAlike_16 : decode b_MD_isAlike 16 = .ok (.goto 4, 3) := by decide +kernel
theorem d_MD_isAlike_19 : decode b_MD_isAlike 19 = .ok (.iconst 0, 1) := by decide +kernel
theorem d_MD_isAlike_20 : decode b_MD_isAlike 20 = .ok (.istore_n 3, 1) := by decide +kernel
theorem d_MD_isAlike_21 : decode b_MD_isAlike 21 = .ok (.iconst 0, 1) := by decide +kernel
theorem d_MD_isAlike_22 : decode b_MD_isAlike 22 = .ok (.istore 4, 2) := by decide +kernel
theorem d_MD_isAlike_24 : decode b_MD_isAlike 24 = .ok (.iload 4, 2) := by decide +kernel
theorem d_MD_isAlike_26 : decode b_MD_isAlike 26 = .ok (.aload_n 0, 1) := by decide +kernel
theorem d_MD_isAlike_27 : decode b_MD_isAlike 27 = .ok (.getfield 7, 3) := by decide +kernel
theorem d_MD_isAlike_30 : decode b_MD_isAlike 30 = .ok (.aload_n 0, 1) := by decide +kernel
theorem d_MD_isAlike_31 : decode b_MD_isAlike 31 = .ok (.getfield 16, 3) := by decide +kernel
theorem d_MD_isAlike_34 : decode b_MD_isAlike 34 = .ok (.iload_n 1, 1) := by decide +kernel
theorem d_MD_isAlike_35 : decode b_MD_isAlike 35 = .ok (.iaload, 1) := by decide +kernel
theorem d_MD_isAlike_36 : decode b_MD_isAlike 36 = .ok (.iaload, 1) := by decide +kernel
theorem d_MD_isAlike_37 : decode b_MD_isAlike 37 = .ok (.if_icmp .ge 60, 3) := by decide +kernel
theorem d_MD_isAlike_40 : decode b_MD_isAlike 40 = .ok (.iload_n 3, 1) := by decide +kernel
theorem d_MD_isAlike_41 : decode b_MD_isAlike 41 = .ok (.ifCond .eq 56, 3) := by decide +kernel
theorem d_MD_isAlike_44 : decode b_MD_isAlike 44 = .ok (.aload_n 0, 1) := by decide +kernel
theorem d_MD_isAlike_45 : decode b_MD_isAlike 45 = .ok (.getfield 22, 3) := by decide +kernel
theorem d_MD_isAlike_48 : decode b_MD_isAlike 48 = .ok (.aload_n 0, 1) := by decide +kernel
theorem d_MD_isAlike_49 : decode b_MD_isAlike 49 = .ok (.getfield 29, 3) := by decide +kernel
theorem d_MD_isAlike_52 : decode b_MD_isAlike 52 = .ok (.aload_n 0, 1) := by decide +kernel
theorem d_MD_isAlike_53 : decode b_MD_isAlike 53 = .ok (.getfield 19, 3) := by decide +kernel
theorem d_MD_isAlike_56 : decode b_MD_isAlike 56 = .ok (.iload_n 1, 1) := by decide +kernel
theorem d_MD_isAlike_57 : decode b_MD_isAlike 57 = .ok (.iaload, 1) := by decide +kernel
theorem d_MD_isAlike_58 : decode b_MD_isAlike 58 = .ok (.iload 4, 2) := by decide +kernel
theorem d_MD_isAlike_60 : decode b_MD_isAlike 60 = .ok (.iadd, 1) := by decide +kernel
theorem d_MD_isAlike_61 : decode b_MD_isAlike 61 = .ok (.iaload, 1) := by decide +kernel
theorem d_MD_isAlike_62 : decode b_MD_isAlike 62 = .ok (.iaload, 1) := by decide +kernel
theorem d_MD_isAlike_63 : decode b_MD_isAlike 63 = .ok (.aload_n 0, 1) := by decide +kernel
theorem d_MD_isAlike_64 : decode b_MD_isAlike 64 = .ok (.getfield 22, 3) := by decide +kernel
theorem d_MD_isAlike_67 : decode b_MD_isAlike 67 = .ok (.aload_n 0, 1) := by decide +kernel
theorem d_MD_isAlike_68 : decode b_MD_isAlike 68 = .ok (.getfield 29, 3) := by decide +kernel
theorem d_MD_isAlike_71 : decode b_MD_isAlike 71 = .ok (.aload_n 0, 1) := by decide +kernel
theorem d_MD_isAlike_72 : decode b_MD_isAlike 72 = .ok (.getfield 19, 3) := by decide +kernel
theorem d_MD_isAlike_75 : decode b_MD_isAlike 75 = .ok (.iload_n 2, 1) := by decide +kernel
theorem d_MD_isAlike_76 : decode b_MD_isAlike 76 = .ok (.iaload, 1) := by decide +kernel
theorem d_MD_isAlike_77 : decode b_MD_isAlike 77 = .ok (.iload 4, 2) := by decide +kernel
theorem d_MD_isAlike_79 : decode b_MD_isAlike 79 = .ok (.iadd, 1) := by decide +kernel
theorem d_MD_isAlike_80 : decode b_MD_isAlike 80 = .ok (.iaload, 1) := by decide +kernel
theorem d_MD_isAlike_81 : decode b_MD_isAlike 81 = .ok (.iaload, 1) := by decide +kernel
theorem d_MD_isAlike_82 : decode b_MD_isAlike 82 = .ok (.if_icmp .ne 7, 3) := by decide +kernel
theorem d_MD_isAlike_85 : decode b_MD_isAlike 85 = .ok (.iconst 1, 1) := by decide +kernel
theorem d_MD_isAlike_86 : decode b_MD_isAlike 86 = .ok (.goto 4, 3) := by decide +kernel
theorem d_MD_isAlike_89 : decode b_MD_isAlike 89 = .ok (.iconst 0, 1) := by decide +kernel
theorem d_MD_isAlike_90 : decode b_MD_isAlike 90 = .ok (.istore_n 3, 1) := by decide +kernel
theorem d_MD_isAlike_91 : decode b_MD_isAlike 91 = .ok (.iinc 4 1, 3) := by decide +kernel
theorem d_MD_isAlike_94 : decode b_MD_isAlike 94 = .ok (.goto (-70), 3) := by decide +kernel
theorem d_MD_isAlike_97 : decode b_MD_isAlike 97 = .ok (.iload_n 3, 1) := by decide +kernel
theorem d_MD_isAlike_98 : decode b_MD_isAlike 98 = .ok (.ireturn, 1) := by decide +kernel
theorem d_MD_findSame_0 : decode b_MD_findSame 0 = .ok (.aload_n 0, 1) := by decide +kernel
theorem d_MD_findSame_1 : decode b_MD_findSame 1 = .ok (.getfield 22, 3) := by decide +kernel
theorem d_MD_findSame_4 : decode b_MD_findSame 4 = .ok (.iload_n 1, 1) := by decide +kernel
theorem d_MD_findSame_5 : decode b_MD_findSame 5 = .ok (.iload_n 1, 1) := by decide +kernel
theorem d_MD_findSame_6 : decode b_MD_findSame 6 = .ok (.iastore, 1) := by decide +kernel
theorem d_MD_findSame_7 : decode b_MD_findSame 7 = .ok (.iconst 0, 1) := by decide +kernel
theorem d_MD_findSame_8 : decode b_MD_findSame 8 = .ok (.istore_n 2, 1) := by decide +kernel
theorem d_MD_findSame_9 : decode b_MD_findSame 9 = .ok (.iload_n 2, 1) := by decide +kernel
theorem d_MD_findSame_10 : decode b_MD_findSame 10 = .ok (.iload_n 1, 1) := by decide +kernel
theorem d_MD_findSame_11 : decode b_MD_findSame 11 = .ok (.if_icmp .ge 45, 3) := by decide +kernel
theorem d_MD_findSame_14 : decode b_MD_findSame 14 = .ok (.aload_n 0, 1) := by decide +kernel
theorem d_MD_findSame_15 : decode b_MD_findSame 15 = .ok (.getfield 22, 3) := by decide +kernel
theorem d_MD_findSame_18 : decode b_MD_findSame 18 = .ok (.iload_n 1, 1) := by decide +kernel
theorem d_MD_findSame_19 : decode b_MD_findSame 19 = .ok (.iaload, 1) := by decide +kernel
theorem d_MD_findSame_20 : decode b_MD_findSame 20 = .ok (.iload_n 1, 1) := by decide +kernel
theorem d_MD_findSame_21 : decode b_MD_findSame 21 = .ok (.if_icmp .ne 35, 3) := by decide +kernel
theorem d_MD_findSame_24 : decode b_MD_findSame 24 = .ok (.aload_n 0, 1) := by decide +kernel
theorem d_MD_findSame_25 : decode b_MD_findSame 25 = .ok (.getfield 22, 3) := by decide +kernel
theorem d_MD_findSame_28 : decode b_MD_findSame 28 = .ok (.iload_n 2, 1) := by decide +kernel
theorem d_MD_findSame_29 : decode b_MD_findSame 29 = .ok (.iaload, 1) := by decide +kernel
theorem d_MD_findSame_30 : decode b_MD_findSame 30 = .ok (.iload_n 2, 1) := by decide +kernel
theorem d_MD_findSame_31 : decode b_MD_findSame 31 = .ok (.if_icmp .ne 19, 3) := by decide +kernel
theorem d_MD_findSame_34 : decode b_MD_findSame 34 = .ok (.aload_n 0, 1) := by decide +kernel
theorem d_MD_findSame_35 : decode b_MD_findSame 35 = .ok (.iload_n 2, 1) := by decide +kernel
theorem d_MD_findSame_36 : decode b_MD_findSame 36 = .ok (.iload_n 1, 1) := by decide +kernel
theorem d_MD_findSame_37 : decode b_MD_findSame 37 = .ok (.invokevirtual 82, 3) := by decide +kernel
theorem d_MD_findSame_40 : decode b_MD_findSame 40 = .ok (.ifCond .eq 10, 3) := by decide +kernel
theorem d_MD_findSame_43 : decode b_MD_findSame 43 = .ok (.aload_n 0, 1) := by decide +kernel
theorem d_MD_findSame_44 : decode b_MD_findSame 44 = .ok (.getfield 22, 3) := by decide +kernel
theorem d_MD_findSame_47 : decode b_MD_findSame 47 = .ok (.iload_n 1, 1) := by decide +kernel
theorem d_MD_findSame_48 : decode b_MD_findSame 48 = .ok (.iload_n 2, 1) := by decide +kernel
theorem d_MD_findSame_49 : decode b_MD_findSame 49 = .ok (.iastore, 1) := by decide +kernel
theorem d_MD_findSame_50 : decode b_MD_findSame 50 = .ok (.iinc 2 1, 3) := by decide +kernel
theorem d_MD_findSame_53 : decode b_MD_findSame 53 = .ok (.goto (-44), 3) := by decide +kernel
theorem d_MD_findSame_56 : decode b_MD_findSame 56 = .ok (.return_, 1) := by decide +kernel
theorem d_MD_findSize_0 : decode b_MD_findSize 0 = .ok (.lconst 1, 1) := by decide +kernel
theorem d_MD_findSize_1 : decode b_MD_findSize 1 = .ok (.lstore_n 2, 1) := by decide +kernel
theorem d_MD_findSize_2 : decode b_MD_findSize 2 = .ok (.iconst 0, 1) := by decide +kernel
theorem d_MD_findSize_3 : decode b_MD_findSize 3 = .ok (.istore 4, 2) := by decide +kernel
theorem d_MD_findSize_5 : decode b_MD_findSize 5 = .ok (.iload 4, 2) := by decide +kernel
theorem d_MD_findSize_7 : decode b_MD_findSize 7 = .ok (.aload_n 0, 1) := by decide +kernel
theorem d_MD_findSize_8 : decode b_MD_findSize 8 = .ok (.getfield 7, 3) := by decide +kernel
theorem d_MD_findSize_11 : decode b_MD_findSize 11 = .ok (.aload_n 0, 1) := by decide +kernel
theorem d_MD_findSize_12 : decode b_MD_findSize 12 = .ok (.getfield 16, 3) := by decide +kernel
theorem d_MD_findSize_15 : decode b_MD_findSize 15 = .ok (.iload_n 1, 1) := by decide +kernel
theorem d_MD_findSize_16 : decode b_MD_findSize 16 = .ok (.iaload, 1) := by decide +kernel
theorem d_MD_findSize_17 : decode b_MD_findSize 17 = .ok (.iaload, 1) := by decide +kernel
theorem d_MD_findSize_18 : decode b_MD_findSize 18 = .ok (.if_icmp .ge 47, 3) := by decide +kernel
theorem d_MD_findSize_21 : decode b_MD_findSize 21 = .ok (.lload_n 2, 1) := by decide +kernel
theorem d_MD_findSize_22 : decode b_MD_findSize 22 = .ok (.aload_n 0, 1) := by decide +kernel
theorem d_MD_findSize_23 : decode b_MD_findSize 23 = .ok (.getfield 25, 3) := by decide +kernel
theorem d_MD_findSize_26 : decode b_MD_findSize 26 = .ok (.aload_n 0, 1) := by decide +kernel
theorem d_MD_findSize_27 : decode b_MD_findSize 27 = .ok (.getfield 29, 3) := by decide +kernel
theorem d_MD_findSize_30 : decode b_MD_findSize 30 = .ok (.aload_n 0, 1) := by decide +kernel
theorem d_MD_findSize_31 : decode b_MD_findSize 31 = .ok (.getfield 19, 3) := by decide +kernel
theorem d_MD_findSize_34 : decode b_MD_findSize 34 = .ok (.iload_n 1, 1) := by decide +kernel
theorem d_MD_findSize_35 : decode b_MD_findSize 35 = .ok (.iaload, 1) := by decide +kernel
theorem d_MD_findSize_36 : decode b_MD_findSize 36 = .ok (.iload 4, 2) := by decide +kernel
theorem d_MD_findSize_38 : decode b_MD_findSize 38 = .ok (.iadd, 1) := by decide +kernel
theorem d_MD_findSize_39 : decode b_MD_findSize 39 = .ok (.iaload, 1) := by decide +kernel
theorem d_MD_findSize_40 : decode b_MD_findSize 40 = .ok (.laload, 1) := by decide +kernel
theorem d_MD_findSize_41 : decode b_MD_findSize 41 = .ok (.ladd, 1) := by decide +kernel
theorem d_MD_findSize_42 : decode b_MD_findSize 42 = .ok (.lstore_n 2, 1) := by decide +kernel
theorem d_MD_findSize_43 : decode b_MD_findSize 43 = .ok (.lload_n 2, 1) := by decide +kernel
theorem d_MD_findSize_44 : decode b_MD_findSize 44 = .ok (.ldc2_w 86, 3) := by decide +kernel
theorem d_MD_findSize_47 : decode b_MD_findSize 47 = .ok (.lcmp, 1) := by decide +kernel
theorem d_MD_findSize_48 : decode b_MD_findSize 48 = .ok (.ifCond .le 9, 3) := by decide +kernel
theorem d_MD_findSize_51 : decode b_MD_findSize 51 = .ok (.ldc2_w 88, 3) := by decide +kernel
theorem d_MD_findSize_54 : decode b_MD_findSize 54 = .ok (.goto 4, 3) := by decide +kernel
theorem d_MD_findSize_57 : decode b_MD_findSize 57 = .ok (.lload_n 2, 1) := by decide +kernel
theorem d_MD_findSize_58 : decode b_MD_findSize 58 = .ok (.lstore_n 2, 1) := by decide +kernel
theorem d_MD_findSize_59 : decode b_MD_findSize 59 = .ok (.iinc 4 1, 3) := by decide +kernel
theorem d_MD_findSize_62 : decode b_MD_findSize 62 = .ok (.goto (-57), 3) := by decide +kernel
theorem d_MD_findSize_65 : decode b_MD_findSize 65 = .ok (.aload_n 0, 1) := by decide +kernel
theorem d_MD_findSize_66 : decode b_MD_findSize 66 = .ok (.getfield 25, 3) := by decide +kernel
theorem d_MD_findSize_69 : decode b_MD_findSize 69 = .ok (.iload_n 1, 1) := by decide +kernel
theorem d_MD_findSize_70 : decode b_MD_findSize 70 = .ok (.lload_n 2, 1) := by decide +kernel
theorem d_MD_findSize_71 : decode b_MD_findSize 71 = .ok (.lastore, 1) := by decide +kernel
theorem d_MD_findSize_72 : decode b_MD_findSize 72 = .ok (.return_, 1) := by decide +kernel
theorem d_MD_make_0 : decode b_MD_make 0 = .ok (.aload_n 0, 1) := by decide +kernel
theorem d_MD_make_1 : decode b_MD_make 1 = .ok (.iload_n 1, 1) := by decide +kernel
theorem d_MD_make_2 : decode b_MD_make 2 = .ok (.invokevirtual 74, 3) := by decide +kernel
theorem d_MD_make_5 : decode b_MD_make 5 = .ok (.ifCond .eq 53, 3) := by decide +kernel
theorem d_MD_make_8 : decode b_MD_make 8 = .ok (.aload_n 0, 1) := by decide +kernel
theorem d_MD_make_9 : decode b_MD_make 9 = .ok (.getfield 90, 3) := by decide +kernel
theorem d_MD_make_12 : decode b_MD_make 12 = .ok (.aload_n 0, 1) := by decide +kernel
theorem d_MD_make_13 : decode b_MD_make 13 = .ok (.getfield 7, 3) := by decide +kernel
theorem d_MD_make_16 : decode b_MD_make 16 = .ok (.iload_n 1, 1) := by decide +kernel
theorem d_MD_make_17 : decode b_MD_make 17 = .ok (.iaload, 1) := by decide +kernel
theorem d_MD_make_18 : decode b_MD_make 18 = .ok (.if_icmp .lt 40, 3) := by decide +kernel
theorem d_MD_make_21 : decode b_MD_make 21 = .ok (.aload_n 0, 1) := by decide +kernel
theorem d_MD_make_22 : decode b_MD_make 22 = .ok (.getfield 93, 3) := by decide +kernel
theorem d_MD_make_25 : decode b_MD_make 25 = .ok (.sipush 4000, 3) := by decide +kernel
theorem d_MD_make_28 : decode b_MD_make 28 = .ok (.if_icmp .eq 30, 3) := by decide +kernel
theorem d_MD_make_31 : decode b_MD_make 31 = .ok (.aload_n 0, 1) := by decide +kernel
theorem d_MD_make_32 : decode b_MD_make 32 = .ok (.getfield 90, 3) := by decide +kernel
theorem d_MD_make_35 : decode b_MD_make 35 = .ok (.aload_n 0, 1) := by decide +kernel
theorem d_MD_make_36 : decode b_MD_make 36 = .ok (.getfield 7, 3) := by decide +kernel
theorem d_MD_make_39 : decode b_MD_make 39 = .ok (.iload_n 1, 1) := by decide +kernel
theorem d_MD_make_40 : decode b_MD_make 40 = .ok (.iaload, 1) := by decide +kernel
theorem d_MD_make_41 : decode b_MD_make 41 = .ok (.isub, 1) := by decide +kernel
theorem d_MD_make_42 : decode b_MD_make 42 = .ok (.sipush 200, 3) := by decide +kernel
theorem d_MD_make_45 : decode b_MD_make 45 = .ok (.if_icmp .eq 13, 3) := by decide +kernel
theorem d_MD_make_48 : decode b_MD_make 48 = .ok (.aload_n 0, 1) := by decide +kernel
theorem d_MD_make_49 : decode b_MD_make 49 = .ok (.getfield 96, 3) := by decide +kernel
theorem d_MD_make_52 : decode b_MD_make 52 = .ok (.sipush 20000, 3) := by decide +kernel
theorem d_MD_make_55 : decode b_MD_make 55 = .ok (.if_icmp .ne 5, 3) := by decide +kernel
theorem d_MD_make_58 : decode b_MD_make 58 = .ok (.iconst (-1), 1) := by decide +kernel
theorem d_MD_make_59 : decode b_MD_make 59 = .ok (.ireturn, 1) := by decide +kernel
theorem d_MD_make_60 : decode b_MD_make 60 = .ok (.aload_n 0, 1) := by decide +kernel
theorem d_MD_make_61 : decode b_MD_make 61 = .ok (.getfield 7, 3) := by decide +kernel
theorem d_MD_make_64 : decode b_MD_make 64 = .ok (.iload_n 1, 1) := by decide +kernel
theorem d_MD_make_65 : decode b_MD_make 65 = .ok (.iaload, 1) := by decide +kernel
theorem d_MD_make_66 : decode b_MD_make 66 = .ok (.istore_n 2, 1) := by decide +kernel
theorem d_MD_make_67 : decode b_MD_make 67 = .ok (.aload_n 0, 1) := by decide +kernel
theorem d_MD_make_68 : decode b_MD_make 68 = .ok (.getfield 16, 3) := by decide +kernel
theorem d_MD_make_71 : decode b_MD_make 71 = .ok (.aload_n 0, 1) := by decide +kernel
theorem d_MD_make_72 : decode b_MD_make 72 = .ok (.getfield 93, 3) := by decide +kernel
theorem d_MD_make_75 : decode b_MD_make 75 = .ok (.iload_n 1, 1) := by decide +kernel
theorem d_MD_make_76 : decode b_MD_make 76 = .ok (.iastore, 1) := by decide +kernel
theorem d_MD_make_77 : decode b_MD_make 77 = .ok (.aload_n 0, 1) := by decide +kernel
theorem d_MD_make_78 : decode b_MD_make 78 = .ok (.getfield 19, 3) := by decide +kernel
theorem d_MD_make_81 : decode b_MD_make 81 = .ok (.aload_n 0, 1) := by decide +kernel
theorem d_MD_make_82 : decode b_MD_make 82 = .ok (.getfield 93, 3) := by decide +kernel
theorem d_MD_make_85 : decode b_MD_make 85 = .ok (.aload_n 0, 1) := by decide +kernel
theorem d_MD_make_86 : decode b_MD_make 86 = .ok (.getfield 99, 3) := by decide +kernel
theorem d_MD_make_89 : decode b_MD_make 89 = .ok (.iastore, 1) := by decide +kernel
theorem d_MD_make_90 : decode b_MD_make 90 = .ok (.iconst 0, 1) := by decide +kernel
theorem d_MD_make_91 : decode b_MD_make 91 = .ok (.istore_n 3, 1) := by decide +kernel
theorem d_MD_make_92 : decode b_MD_make 92 = .ok (.iload_n 3, 1) := by decide +kernel
theorem d_MD_make_93 : decode b_MD_make 93 = .ok (.iload_n 2, 1) := by decide +kernel
theorem d_MD_make_94 : decode b_MD_make 94 = .ok (.if_icmp .ge 41, 3) := by decide +kernel
theorem d_MD_make_97 : decode b_MD_make 97 = .ok (.aload_n 0, 1) := by decide +kernel
theorem d_MD_make_98 : decode b_MD_make 98 = .ok (.getfield 29, 3) := by decide +kernel
theorem d_MD_make_101 : decode b_MD_make 101 = .ok (.aload_n 0, 1) := by decide +kernel
theorem d_MD_make_102 : decode b_MD_make 102 = .ok (.getfield 99, 3) := by decide +kernel
theorem d_MD_make_105 : decode b_MD_make 105 = .ok (.aload_n 0, 1) := by decide +kernel
theorem d_MD_make_106 : decode b_MD_make 106 = .ok (.getfield 32, 3) := by decide +kernel
theorem d_MD_make_109 : decode b_MD_make 109 = .ok (.aload_n 0, 1) := by decide +kernel
theorem d_MD_make_110 : decode b_MD_make 110 = .ok (.getfield 90, 3) := by decide +kernel
theorem d_MD_make_113 : decode b_MD_make 113 = .ok (.iload_n 2, 1) := by decide +kernel
theorem d_MD_make_114 : decode b_MD_make 114 = .ok (.isub, 1) := by decide +kernel
theorem d_MD_make_115 : decode b_MD_make 115 = .ok (.iload_n 3, 1) := by decide +kernel
theorem d_MD_make_116 : decode b_MD_make 116 = .ok (.iadd, 1) := by decide +kernel
theorem d_MD_make_117 : decode b_MD_make 117 = .ok (.iaload, 1) := by decide +kernel
theorem d_MD_make_118 : decode b_MD_make 118 = .ok (.iastore, 1) := by decide +kernel
theorem d_MD_make_119 : decode b_MD_make 119 = .ok (.aload_n 0, 1) := by decide +kernel
theorem d_MD_make_120 : decode b_MD_make 120 = .ok (.dup, 1) := by decide +kernel
theorem d_MD_make_121 : decode b_MD_make 121 = .ok (.getfield 99, 3) := by decide +kernel
theorem d_MD_make_124 : decode b_MD_make 124 = .ok (.iconst 1, 1) := by decide +kernel
theorem d_MD_make_125 : decode b_MD_make 125 = .ok (.iadd, 1) := by decide +kernel
theorem d_MD_make_126 : decode b_MD_make 126 = .ok (.putfield 99, 3) := by decide +kernel
theorem d_MD_make_129 : decode b_MD_make 129 = .ok (.iinc 3 1, 3) := by decide +kernel
theorem d_MD_make_132 : decode b_MD_make 132 = .ok (.goto (-40), 3) := by decide +kernel
theorem d_MD_make_135 : decode b_MD_make 135 = .ok (.aload_n 0, 1) := by decide +kernel
theorem d_MD_make_136 : decode b_MD_make 136 = .ok (.dup, 1) := by decide +kernel
theorem d_MD_make_137 : decode b_MD_make 137 = .ok (.getfield 90, 3) := by decide +kernel
theorem d_MD_make_140 : decode b_MD_make 140 = .ok (.iload_n 2, 1) := by decide +kernel
theorem d_MD_make_141 : decode b_MD_make 141 = .ok (.isub, 1) := by decide +kernel
theorem d_MD_make_142 : decode b_MD_make 142 = .ok (.putfield 90, 3) := by decide +kernel
theorem d_MD_make_145 : decode b_MD_make 145 = .ok (.aload_n 0, 1) := by decide +kernel
theorem d_MD_make_146 : decode b_MD_make 146 = .ok (.aload_n 0, 1) := by decide +kernel
theorem d_MD_make_147 : decode b_MD_make 147 = .ok (.getfield 93, 3) := by decide +kernel
theorem d_MD_make_150 : decode b_MD_make 150 = .ok (.invokevirtual 102, 3) := by decide +kernel
theorem d_MD_make_153 : decode b_MD_make 153 = .ok (.aload_n 0, 1) := by decide +kernel
theorem d_MD_make_154 : decode b_MD_make 154 = .ok (.aload_n 0, 1) := by decide +kernel
theorem d_MD_make_155 : decode b_MD_make 155 = .ok (.getfield 93, 3) := by decide +kernel
theorem d_MD_make_158 : decode b_MD_make 158 = .ok (.invokevirtual 106, 3) := by decide +kernel
theorem d_MD_make_161 : decode b_MD_make 161 = .ok (.aload_n 0, 1) := by decide +kernel
theorem d_MD_make_162 : decode b_MD_make 162 = .ok (.getfield 32, 3) := by decide +kernel
theorem d_MD_make_165 : decode b_MD_make 165 = .ok (.aload_n 0, 1) := by decide +kernel
theorem d_MD_make_166 : decode b_MD_make 166 = .ok (.getfield 90, 3) := by decide +kernel
theorem d_MD_make_169 : decode b_MD_make 169 = .ok (.aload_n 0, 1) := by decide +kernel
theorem d_MD_make_170 : decode b_MD_make 170 = .ok (.getfield 93, 3) := by decide +kernel
theorem d_MD_make_173 : decode b_MD_make 173 = .ok (.iastore, 1) := by decide +kernel
theorem d_MD_make_174 : decode b_MD_make 174 = .ok (.aload_n 0, 1) := by decide +kernel
theorem d_MD_make_175 : decode b_MD_make 175 = .ok (.dup, 1) := by decide +kernel
theorem d_MD_make_176 : decode b_MD_make 176 = .ok (.getfield 90, 3) := by decide +kernel
theorem d_MD_make_179 : decode b_MD_make 179 = .ok (.iconst 1, 1) := by decide +kernel
theorem d_MD_make_180 : decode b_MD_make 180 = .ok (.iadd, 1) := by decide +kernel
theorem d_MD_make_181 : decode b_MD_make 181 = .ok (.putfield 90, 3) := by decide +kernel
theorem d_MD_make_184 : decode b_MD_make 184 = .ok (.aload_n 0, 1) := by decide +kernel
theorem d_MD_make_185 : decode b_MD_make 185 = .ok (.dup, 1) := by decide +kernel
theorem d_MD_make_186 : decode b_MD_make 186 = .ok (.getfield 96, 3) := by decide +kernel
theorem d_MD_make_189 : decode b_MD_make 189 = .ok (.iconst 1, 1) := by decide +kernel
theorem d_MD_make_190 : decode b_MD_make 190 = .ok (.iadd, 1) := by decide +kernel
theorem d_MD_make_191 : decode b_MD_make 191 = .ok (.putfield 96, 3) := by decide +kernel
theorem d_MD_make_194 : decode b_MD_make 194 = .ok (.aload_n 0, 1) := by decide +kernel
theorem d_MD_make_195 : decode b_MD_make 195 = .ok (.dup, 1) := by decide +kernel
theorem d_MD_make_196 : decode b_MD_make 196 = .ok (.getfield 93, 3) := by decide +kernel
theorem d_MD_make_199 : decode b_MD_make 199 = .ok (.iconst 1, 1) := by decide +kernel
theorem d_MD_make_200 : decode b_MD_make 200 = .ok (.iadd, 1) := by decide +kernel
theorem d_MD_make_201 : decode b_MD_make 201 = .ok (.putfield 93, 3) := by decide +kernel
theorem d_MD_make_204 : decode b_MD_make 204 = .ok (.aload_n 0, 1) := by decide +kernel
theorem d_MD_make_205 : decode b_MD_make 205 = .ok (.getfield 93, 3) := by decide +kernel
theorem d_MD_make_208 : decode b_MD_make 208 = .ok (.iconst 1, 1) := by decide +kernel
theorem d_MD_make_209 : decode b_MD_make 209 = .ok (.isub, 1) := by decide +kernel
theorem d_MD_make_210 : decode b_MD_make 210 = .ok (.ireturn, 1) := by decide +kernel
theorem d_MD_isRow_0 : decode b_MD_isRow 0 = .ok (.iload_n 1, 1) := by decide +kernel
theorem d_MD_isRow_1 : decode b_MD_isRow 1 = .ok (.ifCond .lt 15, 3) := by decide +kernel
theorem d_MD_isRow_4 : decode b_MD_isRow 4 = .ok (.iload_n 1, 1) := by decide +kernel
theorem d_MD_isRow_5 : decode b_MD_isRow 5 = .ok (.aload_n 0, 1) := by decide +kernel
theorem d_MD_isRow_6 : decode b_MD_isRow 6 = .ok (.getfield 93, 3) := by decide +kernel
theorem d_MD_isRow_9 : decode b_MD_isRow 9 = .ok (.if_icmp .ge 7, 3) := by decide +kernel
theorem d_MD_isRow_12 : decode b_MD_isRow 12 = .ok (.iconst 1, 1) := by decide +kernel
theorem d_MD_isRow_13 : decode b_MD_isRow 13 = .ok (.goto 4, 3) := by decide +kernel
theorem d_MD_isRow_16 : decode b_MD_isRow 16 = .ok (.iconst 0, 1) := by decide +kernel
theorem d_MD_isRow_17 : decode b_MD_isRow 17 = .ok (.ireturn, 1) := by decide +kernel
theorem d_MD_again_0 : decode b_MD_again 0 = .ok (.aload_n 0, 1) := by decide +kernel
theorem d_MD_again_1 : decode b_MD_again 1 = .ok (.iload_n 1, 1) := by decide +kernel
theorem d_MD_again_2 : decode b_MD_again 2 = .ok (.invokevirtual 109, 3) := by decide +kernel
theorem d_MD_again_5 : decode b_MD_again 5 = .ok (.ifCond .eq 23, 3) := by decide +kernel
theorem d_MD_again_8 : decode b_MD_again 8 = .ok (.aload_n 0, 1) := by decide +kernel
theorem d_MD_again_9 : decode b_MD_again 9 = .ok (.getfield 90, 3) := by decide +kernel
theorem d_MD_again_12 : decode b_MD_again 12 = .ok (.sipush 200, 3) := by decide +kernel
theorem d_MD_again_15 : decode b_MD_again 15 = .ok (.if_icmp .eq 13, 3) := by decide +kernel
theorem d_MD_again_18 : decode b_MD_again 18 = .ok (.aload_n 0, 1) := by decide +kernel
theorem d_MD_again_19 : decode b_MD_again 19 = .ok (.getfield 96, 3) := by decide +kernel
theorem d_MD_again_22 : decode b_MD_again 22 = .ok (.sipush 20000, 3) := by decide +kernel
theorem d_MD_again_25 : decode b_MD_again 25 = .ok (.if_icmp .ne 5, 3) := by decide +kernel
theorem d_MD_again_28 : decode b_MD_again 28 = .ok (.iconst (-1), 1) := by decide +kernel
theorem d_MD_again_29 : decode b_MD_again 29 = .ok (.ireturn, 1) := by decide +kernel
theorem d_MD_again_30 : decode b_MD_again 30 = .ok (.aload_n 0, 1) := by decide +kernel
theorem d_MD_again_31 : decode b_MD_again 31 = .ok (.getfield 32, 3) := by decide +kernel
theorem d_MD_again_34 : decode b_MD_again 34 = .ok (.aload_n 0, 1) := by decide +kernel
theorem d_MD_again_35 : decode b_MD_again 35 = .ok (.getfield 90, 3) := by decide +kernel
theorem d_MD_again_38 : decode b_MD_again 38 = .ok (.iload_n 1, 1) := by decide +kernel
theorem d_MD_again_39 : decode b_MD_again 39 = .ok (.iastore, 1) := by decide +kernel
theorem d_MD_again_40 : decode b_MD_again 40 = .ok (.aload_n 0, 1) := by decide +kernel
theorem d_MD_again_41 : decode b_MD_again 41 = .ok (.dup, 1) := by decide +kernel
theorem d_MD_again_42 : decode b_MD_again 42 = .ok (.getfield 90, 3) := by decide +kernel
theorem d_MD_again_45 : decode b_MD_again 45 = .ok (.iconst 1, 1) := by decide +kernel
theorem d_MD_again_46 : decode b_MD_again 46 = .ok (.iadd, 1) := by decide +kernel
theorem d_MD_again_47 : decode b_MD_again 47 = .ok (.putfield 90, 3) := by decide +kernel
theorem d_MD_again_50 : decode b_MD_again 50 = .ok (.aload_n 0, 1) := by decide +kernel
theorem d_MD_again_51 : decode b_MD_again 51 = .ok (.dup, 1) := by decide +kernel
theorem d_MD_again_52 : decode b_MD_again 52 = .ok (.getfield 96, 3) := by decide +kernel
theorem d_MD_again_55 : decode b_MD_again 55 = .ok (.iconst 1, 1) := by decide +kernel
theorem d_MD_again_56 : decode b_MD_again 56 = .ok (.iadd, 1) := by decide +kernel
theorem d_MD_again_57 : decode b_MD_again 57 = .ok (.putfield 96, 3) := by decide +kernel
theorem d_MD_again_60 : decode b_MD_again 60 = .ok (.aload_n 0, 1) := by decide +kernel
theorem d_MD_again_61 : decode b_MD_again 61 = .ok (.getfield 90, 3) := by decide +kernel
theorem d_MD_again_64 : decode b_MD_again 64 = .ok (.ireturn, 1) := by decide +kernel
theorem d_MD_clear_0 : decode b_MD_clear 0 = .ok (.aload_n 0, 1) := by decide +kernel
theorem d_MD_clear_1 : decode b_MD_clear 1 = .ok (.getfield 93, 3) := by decide +kernel
theorem d_MD_clear_4 : decode b_MD_clear 4 = .ok (.istore_n 1, 1) := by decide +kernel
theorem d_MD_clear_5 : decode b_MD_clear 5 = .ok (.aload_n 0, 1) := by decide +kernel
theorem d_MD_clear_6 : decode b_MD_clear 6 = .ok (.iconst 0, 1) := by decide +kernel
theorem d_MD_clear_7 : decode b_MD_clear 7 = .ok (.putfield 93, 3) := by decide +kernel
theorem d_MD_clear_10 : decode b_MD_clear 10 = .ok (.aload_n 0, 1) := by decide +kernel
theorem d_MD_clear_11 : decode b_MD_clear 11 = .ok (.iconst 0, 1) := by decide +kernel
theorem d_MD_clear_12 : decode b_MD_clear 12 = .ok (.putfield 99, 3) := by decide +kernel
theorem d_MD_clear_15 : decode b_MD_clear 15 = .ok (.aload_n 0, 1) := by decide +kernel
theorem d_MD_clear_16 : decode b_MD_clear 16 = .ok (.iconst 0, 1) := by decide +kernel
theorem d_MD_clear_17 : decode b_MD_clear 17 = .ok (.putfield 90, 3) := by decide +kernel
theorem d_MD_clear_20 : decode b_MD_clear 20 = .ok (.aload_n 0, 1) := by decide +kernel
theorem d_MD_clear_21 : decode b_MD_clear 21 = .ok (.iconst 0, 1) := by decide +kernel
theorem d_MD_clear_22 : decode b_MD_clear 22 = .ok (.putfield 96, 3) := by decide +kernel
theorem d_MD_clear_25 : decode b_MD_clear 25 = .ok (.aload_n 0, 1) := by decide +kernel
theorem d_MD_clear_26 : decode b_MD_clear 26 = .ok (.iconst 0, 1) := by decide +kernel
theorem d_MD_clear_27 : decode b_MD_clear 27 = .ok (.putfield 112, 3) := by decide +kernel
theorem d_MD_clear_30 : decode b_MD_clear 30 = .ok (.aload_n 0, 1) := by decide +kernel
theorem d_MD_clear_31 : decode b_MD_clear 31 = .ok (.iconst 0, 1) := by decide +kernel
theorem d_MD_clear_32 : decode b_MD_clear 32 = .ok (.putfield 115, 3) := by decide +kernel
theorem d_MD_clear_35 : decode b_MD_clear 35 = .ok (.aload_n 0, 1) := by decide +kernel
theorem d_MD_clear_36 : decode b_MD_clear 36 = .ok (.iconst 0, 1) := by decide +kernel
theorem d_MD_clear_37 : decode b_MD_clear 37 = .ok (.putfield 118, 3) := by decide +kernel
theorem d_MD_clear_40 : decode b_MD_clear 40 = .ok (.aload_n 0, 1) := by decide +kernel
theorem d_MD_clear_41 : decode b_MD_clear 41 = .ok (.iconst 0, 1) := by decide +kernel
theorem d_MD_clear_42 : decode b_MD_clear 42 = .ok (.putfield 121, 3) := by decide +kernel
theorem d_MD_clear_45 : decode b_MD_clear 45 = .ok (.iload_n 1, 1) := by decide +kernel
theorem d_MD_clear_46 : decode b_MD_clear 46 = .ok (.ireturn, 1) := by decide +kernel
theorem d_MD_count_0 : decode b_MD_count 0 = .ok (.iload_n 1, 1) := by decide +kernel
theorem d_MD_count_1 : decode b_MD_count 1 = .ok (.tableswitch 102 0 5 #[39, 44, 49, 54, 59, 64], 39) := by decide +kernel
theorem d_MD_count_40 : decode b_MD_count 40 = .ok (.aload_n 0, 1) := by decide +kernel
theorem d_MD_count_41 : decode b_MD_count 41 = .ok (.getfield 67, 3) := by decide +kernel
theorem d_MD_count_44 : decode b_MD_count 44 = .ok (.ireturn, 1) := by decide +kernel
theorem d_MD_count_45 : decode b_MD_count 45 = .ok (.aload_n 0, 1) := by decide +kernel
theorem d_MD_count_46 : decode b_MD_count 46 = .ok (.getfield 71, 3) := by decide +kernel
theorem d_MD_count_49 : decode b_MD_count 49 = .ok (.ireturn, 1) := by decide +kernel
theorem d_MD_count_50 : decode b_MD_count 50 = .ok (.aload_n 0, 1) := by decide +kernel
theorem d_MD_count_51 : decode b_MD_count 51 = .ok (.getfield 93, 3) := by decide +kernel
theorem d_MD_count_54 : decode b_MD_count 54 = .ok (.ireturn, 1) := by decide +kernel
theorem d_MD_count_55 : decode b_MD_count 55 = .ok (.aload_n 0, 1) := by decide +kernel
theorem d_MD_count_56 : decode b_MD_count 56 = .ok (.getfield 90, 3) := by decide +kernel
theorem d_MD_count_59 : decode b_MD_count 59 = .ok (.ireturn, 1) := by decide +kernel
theorem d_MD_count_60 : decode b_MD_count 60 = .ok (.aload_n 0, 1) := by decide +kernel
theorem d_MD_count_61 : decode b_MD_count 61 = .ok (.getfield 96, 3) := by decide +kernel
theorem d_MD_count_64 : decode b_MD_count 64 = .ok (.ireturn, 1) := by decide +kernel
theorem d_MD_count_65 : decode b_MD_count 65 = .ok (.iconst 0, 1) := by decide +kernel
theorem d_MD_count_66 : decode b_MD_count 66 = .ok (.istore_n 2, 1) := by decide +kernel
theorem d_MD_count_67 : decode b_MD_count 67 = .ok (.iconst 0, 1) := by decide +kernel
theorem d_MD_count_68 : decode b_MD_count 68 = .ok (.istore_n 3, 1) := by decide +kernel
theorem d_MD_count_69 : decode b_MD_count 69 = .ok (.iload_n 3, 1) := by decide +kernel
theorem d_MD_count_70 : decode b_MD_count 70 = .ok (.aload_n 0, 1) := by decide +kernel
theorem d_MD_count_71 : decode b_MD_count 71 = .ok (.getfield 93, 3) := by decide +kernel
theorem d_MD_count_74 : decode b_MD_count 74 = .ok (.if_icmp .ge 27, 3) := by decide +kernel
theorem d_MD_count_77 : decode b_MD_count 77 = .ok (.iload_n 2, 1) := by decide +kernel
theorem d_MD_count_78 : decode b_MD_count 78 = .ok (.aload_n 0, 1) := by decide +kernel
theorem d_MD_count_79 : decode b_MD_count 79 = .ok (.getfield 22, 3) := by decide +kernel
theorem d_MD_count_82 : decode b_MD_count 82 = .ok (.iload_n 3, 1) := by decide +kernel
theorem d_MD_count_83 : decode b_MD_count 83 = .ok (.iaload, 1) := by decide +kernel
theorem d_MD_count_84 : decode b_MD_count 84 = .ok (.iload_n 3, 1) := by decide +kernel
theorem d_MD_count_85 : decode b_MD_count 85 = .ok (.if_icmp .ne 7, 3) := by decide +kernel
theorem d_MD_count_88 : decode b_MD_count 88 = .ok (.iconst 1, 1) := by decide +kernel
theorem d_MD_count_89 : decode b_MD_count 89 = .ok (.goto 4, 3) := by decide +kernel
theorem d_MD_count_92 : decode b_MD_count 92 = .ok (.iconst 0, 1) := by decide +kernel
theorem d_MD_count_93 : decode b_MD_count 93 = .ok (.iadd, 1) := by decide +kernel
theorem d_MD_count_94 : decode b_MD_count 94 = .ok (.istore_n 2, 1) := by decide +kernel
theorem d_MD_count_95 : decode b_MD_count 95 = .ok (.iinc 3 1, 3) := by decide +kernel
theorem d_MD_count_98 : decode b_MD_count 98 = .ok (.goto (-29), 3) := by decide +kernel
theorem d_MD_count_101 : decode b_MD_count 101 = .ok (.iload_n 2, 1) := by decide +kernel
theorem d_MD_count_102 : decode b_MD_count 102 = .ok (.ireturn, 1) := by decide +kernel
theorem d_MD_count_103 : decode b_MD_count 103 = .ok (.iconst (-1), 1) := by decide +kernel
theorem d_MD_count_104 : decode b_MD_count 104 = .ok (.ireturn, 1) := by decide +kernel
theorem d_MD_row_0 : decode b_MD_row 0 = .ok (.aload_n 0, 1) := by decide +kernel
theorem d_MD_row_1 : decode b_MD_row 1 = .ok (.iload_n 1, 1) := by decide +kernel
theorem d_MD_row_2 : decode b_MD_row 2 = .ok (.invokevirtual 109, 3) := by decide +kernel
theorem d_MD_row_5 : decode b_MD_row 5 = .ok (.ifCond .eq 12, 3) := by decide +kernel
theorem d_MD_row_8 : decode b_MD_row 8 = .ok (.aload_n 0, 1) := by decide +kernel
theorem d_MD_row_9 : decode b_MD_row 9 = .ok (.getfield 16, 3) := by decide +kernel
theorem d_MD_row_12 : decode b_MD_row 12 = .ok (.iload_n 1, 1) := by decide +kernel
theorem d_MD_row_13 : decode b_MD_row 13 = .ok (.iaload, 1) := by decide +kernel
theorem d_MD_row_14 : decode b_MD_row 14 = .ok (.goto 4, 3) := by decide +kernel
theorem d_MD_row_17 : decode b_MD_row 17 = .ok (.iconst (-1), 1) := by decide +kernel
theorem d_MD_row_18 : decode b_MD_row 18 = .ok (.ireturn, 1) := by decide +kernel
theorem d_MD_frm_0 : decode b_MD_frm 0 = .ok (.aload_n 0, 1) := by decide +kernel
theorem d_MD_frm_1 : decode b_MD_frm 1 = .ok (.iload_n 1, 1) := by decide +kernel
theorem d_MD_frm_2 : decode b_MD_frm 2 = .ok (.invokevirtual 109, 3) := by decide +kernel
theorem d_MD_frm_5 : decode b_MD_frm 5 = .ok (.ifCond .eq 38, 3) := by decide +kernel
theorem d_MD_frm_8 : decode b_MD_frm 8 = .ok (.iload_n 2, 1) := by decide +kernel
theorem d_MD_frm_9 : decode b_MD_frm 9 = .ok (.ifCond .lt 34, 3) := by decide +kernel
theorem d_MD_frm_12 : decode b_MD_frm 12 = .ok (.iload_n 2, 1) := by decide +kernel
theorem d_MD_frm_13 : decode b_MD_frm 13 = .ok (.aload_n 0, 1) := by decide +kernel
theorem d_MD_frm_14 : decode b_MD_frm 14 = .ok (.getfield 7, 3) := by decide +kernel
theorem d_MD_frm_17 : decode b_MD_frm 17 = .ok (.aload_n 0, 1) := by decide +kernel
theorem d_MD_frm_18 : decode b_MD_frm 18 = .ok (.getfield 16, 3) := by decide +kernel
theorem d_MD_frm_21 : decode b_MD_frm 21 = .ok (.iload_n 1, 1) := by decide +kernel
theorem d_MD_frm_22 : decode b_MD_frm 22 = .ok (.iaload, 1) := by decide +kernel
theorem d_MD_frm_23 : decode b_MD_frm 23 = .ok (.iaload, 1) := by decide +kernel
theorem d_MD_frm_24 : decode b_MD_frm 24 = .ok (.if_icmp .ge 19, 3) := by decide +kernel
theorem d_MD_frm_27 : decode b_MD_frm 27 = .ok (.aload_n 0, 1) := by decide +kernel
theorem d_MD_frm_28 : decode b_MD_frm 28 = .ok (.getfield 29, 3) := by decide +kernel
theorem d_MD_frm_31 : decode b_MD_frm 31 = .ok (.aload_n 0, 1) := by decide +kernel
theorem d_MD_frm_32 : decode b_MD_frm 32 = .ok (.getfield 19, 3) := by decide +kernel
theorem d_MD_frm_35 : decode b_MD_frm 35 = .ok (.iload_n 1, 1) := by decide +kernel
theorem d_MD_frm_36 : decode b_MD_frm 36 = .ok (.iaload, 1) := by decide +kernel
theorem d_MD_frm_37 : decode b_MD_frm 37 = .ok (.iload_n 2, 1) := by decide +kernel
theorem d_MD_frm_38 : decode b_MD_frm 38 = .ok (.iadd, 1) := by decide +kernel
theorem d_MD_frm_39 : decode b_MD_frm 39 = .ok (.iaload, 1) := by decide +kernel
theorem d_MD_frm_40 : decode b_MD_frm 40 = .ok (.goto 4, 3) := by decide +kernel
theorem d_MD_frm_43 : decode b_MD_frm 43 = .ok (.iconst (-1), 1) := by decide +kernel
theorem d_MD_frm_44 : decode b_MD_frm 44 = .ok (.ireturn, 1) := by decide +kernel
theorem d_MD_same_0 : decode b_MD_same 0 = .ok (.aload_n 0, 1) := by decide +kernel
theorem d_MD_same_1 : decode b_MD_same 1 = .ok (.iload_n 1, 1) := by decide +kernel
theorem d_MD_same_2 : decode b_MD_same 2 = .ok (.invokevirtual 109, 3) := by decide +kernel
theorem d_MD_same_5 : decode b_MD_same 5 = .ok (.ifCond .eq 11, 3) := by decide +kernel
theorem d_MD_same_8 : decode b_MD_same 8 = .ok (.aload_n 0, 1) := by decide +kernel
theorem d_MD_same_9 : decode b_MD_same 9 = .ok (.iload_n 2, 1) := by decide +kernel
theorem d_MD_same_10 : decode b_MD_same 10 = .ok (.invokevirtual 109, 3) := by decide +kernel
theorem d_MD_same_13 : decode b_MD_same 13 = .ok (.ifCond .ne 7, 3) := by decide +kernel
theorem d_MD_same_16 : decode b_MD_same 16 = .ok (.iconst (-1), 1) := by decide +kernel
theorem d_MD_same_17 : decode b_MD_same 17 = .ok (.goto 23, 3) := by decide +kernel
theorem d_MD_same_20 : decode b_MD_same 20 = .ok (.aload_n 0, 1) := by decide +kernel
theorem d_MD_same_21 : decode b_MD_same 21 = .ok (.getfield 22, 3) := by decide +kernel
theorem d_MD_same_24 : decode b_MD_same 24 = .ok (.iload_n 1, 1) := by decide +kernel
theorem d_MD_same_25 : decode b_MD_same 25 = .ok (.iaload, 1) := by decide +kernel
theorem d_MD_same_26 : decode b_MD_same 26 = .ok (.aload_n 0, 1) := by decide +kernel
theorem d_MD_same_27 : decode b_MD_same 27 = .ok (.getfield 22, 3) := by decide +kernel
theorem d_MD_same_30 : decode b_MD_same 30 = .ok (.iload_n 2, 1) := by decide +kernel
theorem d_MD_same_31 : decode b_MD_same 31 = .ok (.iaload, 1) := by decide +kernel
theorem d_MD_same_32 : decode b_MD_same 32 = .ok (.if_icmp .ne 7, 3) := by decide +kernel
theorem d_MD_same_35 : decode b_MD_same 35 = .ok (.iconst 1, 1) := by decide +kernel
theorem d_MD_same_36 : decode b_MD_same 36 = .ok (.goto 4, 3) := by decide +kernel
theorem d_MD_same_39 : decode b_MD_same 39 = .ok (.iconst 0, 1) := by decide +kernel
theorem d_MD_same_40 : decode b_MD_same 40 = .ok (.ireturn, 1) := by decide +kernel
theorem d_MD_tell_0 : decode b_MD_tell 0 = .ok (.aload_n 0, 1) := by decide +kernel
theorem d_MD_tell_1 : decode b_MD_tell 1 = .ok (.getfield 35, 3) := by decide +kernel
theorem d_MD_tell_4 : decode b_MD_tell 4 = .ok (.aload_n 0, 1) := by decide +kernel
theorem d_MD_tell_5 : decode b_MD_tell 5 = .ok (.getfield 112, 3) := by decide +kernel
theorem d_MD_tell_8 : decode b_MD_tell 8 = .ok (.iload_n 1, 1) := by decide +kernel
theorem d_MD_tell_9 : decode b_MD_tell 9 = .ok (.iastore, 1) := by decide +kernel
theorem d_MD_tell_10 : decode b_MD_tell 10 = .ok (.aload_n 0, 1) := by decide +kernel
theorem d_MD_tell_11 : decode b_MD_tell 11 = .ok (.getfield 38, 3) := by decide +kernel
theorem d_MD_tell_14 : decode b_MD_tell 14 = .ok (.aload_n 0, 1) := by decide +kernel
theorem d_MD_tell_15 : decode b_MD_tell 15 = .ok (.getfield 112, 3) := by decide +kernel
theorem d_MD_tell_18 : decode b_MD_tell 18 = .ok (.iload_n 2, 1) := by decide +kernel
theorem d_MD_tell_19 : decode b_MD_tell 19 = .ok (.iastore, 1) := by decide +kernel
theorem d_MD_tell_20 : decode b_MD_tell 20 = .ok (.aload_n 0, 1) := by decide +kernel
theorem d_MD_tell_21 : decode b_MD_tell 21 = .ok (.dup, 1) := by decide +kernel
theorem d_MD_tell_22 : decode b_MD_tell 22 = .ok (.getfield 112, 3) := by decide +kernel
theorem d_MD_tell_25 : decode b_MD_tell 25 = .ok (.iconst 1, 1) := by decide +kernel
theorem d_MD_tell_26 : decode b_MD_tell 26 = .ok (.iadd, 1) := by decide +kernel
theorem d_MD_tell_27 : decode b_MD_tell 27 = .ok (.putfield 112, 3) := by decide +kernel
theorem d_MD_tell_30 : decode b_MD_tell 30 = .ok (.return_, 1) := by decide +kernel
theorem d_MD_tellAll_0 : decode b_MD_tellAll 0 = .ok (.aload_n 0, 1) := by decide +kernel
theorem d_MD_tellAll_1 : decode b_MD_tellAll 1 = .ok (.iconst 0, 1) := by decide +kernel
theorem d_MD_tellAll_2 : decode b_MD_tellAll 2 = .ok (.putfield 112, 3) := by decide +kernel
theorem d_MD_tellAll_5 : decode b_MD_tellAll 5 = .ok (.iconst 0, 1) := by decide +kernel
theorem d_MD_tellAll_6 : decode b_MD_tellAll 6 = .ok (.istore_n 2, 1) := by decide +kernel
theorem d_MD_tellAll_7 : decode b_MD_tellAll 7 = .ok (.iload_n 2, 1) := by decide +kernel
theorem d_MD_tellAll_8 : decode b_MD_tellAll 8 = .ok (.aload_n 0, 1) := by decide +kernel
theorem d_MD_tellAll_9 : decode b_MD_tellAll 9 = .ok (.getfield 93, 3) := by decide +kernel
theorem d_MD_tellAll_12 : decode b_MD_tellAll 12 = .ok (.if_icmp .ge 23, 3) := by decide +kernel
theorem d_MD_tellAll_15 : decode b_MD_tellAll 15 = .ok (.aload_n 0, 1) := by decide +kernel
theorem d_MD_tellAll_16 : decode b_MD_tellAll 16 = .ok (.getfield 45, 3) := by decide +kernel
theorem d_MD_tellAll_19 : decode b_MD_tellAll 19 = .ok (.iload_n 2, 1) := by decide +kernel
theorem d_MD_tellAll_20 : decode b_MD_tellAll 20 = .ok (.iconst 0, 1) := by decide +kernel
theorem d_MD_tellAll_21 : decode b_MD_tellAll 21 = .ok (.bastore, 1) := by decide +kernel
theorem d_MD_tellAll_22 : decode b_MD_tellAll 22 = .ok (.aload_n 0, 1) := by decide +kernel
theorem d_MD_tellAll_23 : decode b_MD_tellAll 23 = .ok (.getfield 41, 3) := by decide +kernel
theorem d_MD_tellAll_26 : decode b_MD_tellAll 26 = .ok (.iload_n 2, 1) := by decide +kernel
theorem d_MD_tellAll_27 : decode b_MD_tellAll 27 = .ok (.iconst 0, 1) := by decide +kernel
theorem d_MD_tellAll_28 : decode b_MD_tellAll 28 = .ok (.bastore, 1) := by decide +kernel
theorem d_MD_tellAll_29 : decode b_MD_tellAll 29 = .ok (.iinc 2 1, 3) := by decide +kernel
theorem d_MD_tellAll_32 : decode b_MD_tellAll 32 = .ok (.goto (-25), 3) := by decide +kernel
theorem d_MD_tellAll_35 : decode b_MD_tellAll 35 = .ok (.iconst 0, 1) := by decide +kernel
theorem d_MD_tellAll_36 : decode b_MD_tellAll 36 = .ok (.istore_n 2, 1) := by decide +kernel
theorem d_MD_tellAll_37 : decode b_MD_tellAll 37 = .ok (.aload_n 0, 1) := by decide +kernel
theorem d_MD_tellAll_38 : decode b_MD_tellAll 38 = .ok (.getfield 61, 3) := by decide +kernel
theorem d_MD_tellAll_41 : decode b_MD_tellAll 41 = .ok (.iconst 0, 1) := by decide +kernel
theorem d_MD_tellAll_42 : decode b_MD_tellAll 42 = .ok (.iload_n 1, 1) := by decide +kernel
theorem d_MD_tellAll_43 : decode b_MD_tellAll 43 = .ok (.iastore, 1) := by decide +kernel
theorem d_MD_tellAll_44 : decode b_MD_tellAll 44 = .ok (.aload_n 0, 1) := by decide +kernel
theorem d_MD_tellAll_45 : decode b_MD_tellAll 45 = .ok (.getfield 64, 3) := by decide +kernel
theorem d_MD_tellAll_48 : decode b_MD_tellAll 48 = .ok (.iconst 0, 1) := by decide +kernel
theorem d_MD_tellAll_49 : decode b_MD_tellAll 49 = .ok (.iconst 0, 1) := by decide +kernel
theorem d_MD_tellAll_50 : decode b_MD_tellAll 50 = .ok (.iastore, 1) := by decide +kernel
theorem d_MD_tellAll_51 : decode b_MD_tellAll 51 = .ok (.iload_n 2, 1) := by decide +kernel
theorem d_MD_tellAll_52 : decode b_MD_tellAll 52 = .ok (.ifCond .lt 177, 3) := by decide +kernel
theorem d_MD_tellAll_55 : decode b_MD_tellAll 55 = .ok (.aload_n 0, 1) := by decide +kernel
theorem d_MD_tellAll_56 : decode b_MD_tellAll 56 = .ok (.getfield 61, 3) := by decide +kernel
theorem d_MD_tellAll_59 : decode b_MD_tellAll 59 = .ok (.iload_n 2, 1) := by decide +kernel
theorem d_MD_tellAll_60 : decode b_MD_tellAll 60 = .ok (.iaload, 1) := by decide +kernel
theorem d_MD_tellAll_61 : decode b_MD_tellAll 61 = .ok (.istore_n 3, 1) := by decide +kernel
theorem d_MD_tellAll_62 : decode b_MD_tellAll 62 = .ok (.aload_n 0, 1) := by decide +kernel
theorem d_MD_tellAll_63 : decode b_MD_tellAll 63 = .ok (.getfield 22, 3) := by decide +kernel
theorem d_MD_tellAll_66 : decode b_MD_tellAll 66 = .ok (.iload_n 3, 1) := by decide +kernel
theorem d_MD_tellAll_67 : decode b_MD_tellAll 67 = .ok (.iaload, 1) := by decide +kernel
theorem d_MD_tellAll_68 : decode b_MD_tellAll 68 = .ok (.istore 4, 2) := by decide +kernel
theorem d_MD_tellAll_70 : decode b_MD_tellAll 70 = .ok (.aload_n 0, 1) := by decide +kernel
theorem d_MD_tellAll_71 : decode b_MD_tellAll 71 = .ok (.getfield 7, 3) := by decide +kernel
theorem d_MD_tellAll_74 : decode b_MD_tellAll 74 = .ok (.aload_n 0, 1) := by decide +kernel
theorem d_MD_tellAll_75 : decode b_MD_tellAll 75 = .ok (.getfield 16, 3) := by decide +kernel
theorem d_MD_tellAll_78 : decode b_MD_tellAll 78 = .ok (.iload_n 3, 1) := by decide +kernel
theorem d_MD_tellAll_79 : decode b_MD_tellAll 79 = .ok (.iaload, 1) := by decide +kernel
theorem d_MD_tellAll_80 : decode b_MD_tellAll 80 = .ok (.iaload, 1) := by decide +kernel
theorem d_MD_tellAll_81 : decode b_MD_tellAll 81 = .ok (.istore 5, 2) := by decide +kernel
theorem d_MD_tellAll_83 : decode b_MD_tellAll 83 = .ok (.aload_n 0, 1) := by decide +kernel
theorem d_MD_tellAll_84 : decode b_MD_tellAll 84 = .ok (.getfield 64, 3) := by decide +kernel
theorem d_MD_tellAll_87 : decode b_MD_tellAll 87 = .ok (.iload_n 2, 1) := by decide +kernel
theorem d_MD_tellAll_88 : decode b_MD_tellAll 88 = .ok (.iaload, 1) := by decide +kernel
theorem d_MD_tellAll_89 : decode b_MD_tellAll 89 = .ok (.ifCond .ne 43, 3) := by decide +kernel
theorem d_MD_tellAll_92 : decode b_MD_tellAll 92 = .ok (.iload 5, 2) := by decide +kernel
theorem d_MD_tellAll_94 : decode b_MD_tellAll 94 = .ok (.ifCond .le 38, 3) := by decide +kernel
theorem d_MD_tellAll_97 : decode b_MD_tellAll 97 = .ok (.aload_n 0, 1) := by decide +kernel
theorem d_MD_tellAll_98 : decode b_MD_tellAll 98 = .ok (.getfield 45, 3) := by decide +kernel
theorem d_MD_tellAll_101 : decode b_MD_tellAll 101 = .ok (.iload 4, 2) := by decide +kernel
theorem d_MD_tellAll_103 : decode b_MD_tellAll 103 = .ok (.baload, 1) := by decide +kernel
theorem d_MD_tellAll_104 : decode b_MD_tellAll 104 = .ok (.ifCond .eq 28, 3) := by decide +kernel
theorem d_MD_tellAll_107 : decode b_MD_tellAll 107 = .ok (.aload_n 0, 1) := by decide +kernel
theorem d_MD_tellAll_108 : decode b_MD_tellAll 108 = .ok (.getfield 41, 3) := by decide +kernel
theorem d_MD_tellAll_111 : decode b_MD_tellAll 111 = .ok (.iload 4, 2) := by decide +kernel
theorem d_MD_tellAll_113 : decode b_MD_tellAll 113 = .ok (.iconst 1, 1) := by decide +kernel
theorem d_MD_tellAll_114 : decode b_MD_tellAll 114 = .ok (.bastore, 1) := by decide +kernel
theorem d_MD_tellAll_115 : decode b_MD_tellAll 115 = .ok (.aload_n 0, 1) := by decide +kernel
theorem d_MD_tellAll_116 : decode b_MD_tellAll 116 = .ok (.bipush (-2), 2) := by decide +kernel
theorem d_MD_tellAll_118 : decode b_MD_tellAll 118 = .ok (.iload 4, 2) := by decide +kernel
theorem d_MD_tellAll_120 : decode b_MD_tellAll 120 = .ok (.isub, 1) := by decide +kernel
theorem d_MD_tellAll_121 : decode b_MD_tellAll 121 = .ok (.iload 4, 2) := by decide +kernel
theorem d_MD_tellAll_123 : decode b_MD_tellAll 123 = .ok (.invokevirtual 124, 3) := by decide +kernel
theorem d_MD_tellAll_126 : decode b_MD_tellAll 126 = .ok (.iinc 2 (-1), 3) := by decide +kernel
theorem d_MD_tellAll_129 : decode b_MD_tellAll 129 = .ok (.goto 97, 3) := by decide +kernel
theorem d_MD_tellAll_132 : decode b_MD_tellAll 132 = .ok (.aload_n 0, 1) := by decide +kernel
theorem d_MD_tellAll_133 : decode b_MD_tellAll 133 = .ok (.getfield 64, 3) := by decide +kernel
theorem d_MD_tellAll_136 : decode b_MD_tellAll 136 = .ok (.iload_n 2, 1) := by decide +kernel
theorem d_MD_tellAll_137 : decode b_MD_tellAll 137 = .ok (.iaload, 1) := by decide +kernel
theorem d_MD_tellAll_138 : decode b_MD_tellAll 138 = .ok (.iload 5, 2) := by decide +kernel
theorem d_MD_tellAll_140 : decode b_MD_tellAll 140 = .ok (.if_icmp .ge 54, 3) := by decide +kernel
theorem d_MD_tellAll_143 : decode b_MD_tellAll 143 = .ok (.aload_n 0, 1) := by decide +kernel
theorem d_MD_tellAll_144 : decode b_MD_tellAll 144 = .ok (.getfield 29, 3) := by decide +kernel
theorem d_MD_tellAll_147 : decode b_MD_tellAll 147 = .ok (.aload_n 0, 1) := by decide +kernel
theorem d_MD_tellAll_148 : decode b_MD_tellAll 148 = .ok (.getfield 19, 3) := by decide +kernel
theorem d_MD_tellAll_151 : decode b_MD_tellAll 151 = .ok (.iload_n 3, 1) := by decide +kernel
theorem d_MD_tellAll_152 : decode b_MD_tellAll 152 = .ok (.iaload, 1) := by decide +kernel
theorem d_MD_tellAll_153 : decode b_MD_tellAll 153 = .ok (.aload_n 0, 1) := by decide +kernel
theorem d_MD_tellAll_154 : decode b_MD_tellAll 154 = .ok (.getfield 64, 3) := by decide +kernel
theorem d_MD_tellAll_157 : decode b_MD_tellAll 157 = .ok (.iload_n 2, 1) := by decide +kernel
theorem d_MD_tellAll_158 : decode b_MD_tellAll 158 = .ok (.iaload, 1) := by decide +kernel
theorem d_MD_tellAll_159 : decode b_MD_tellAll 159 = .ok (.iadd, 1) := by decide +kernel
theorem d_MD_tellAll_160 : decode b_MD_tellAll 160 = .ok (.iaload, 1) := by decide +kernel
theorem d_MD_tellAll_161 : decode b_MD_tellAll 161 = .ok (.istore 6, 2) := by decide +kernel
theorem d_MD_tellAll_163 : decode b_MD_tellAll 163 = .ok (.aload_n 0, 1) := by decide +kernel
theorem d_MD_tellAll_164 : decode b_MD_tellAll 164 = .ok (.getfield 64, 3) := by decide +kernel
theorem d_MD_tellAll_167 : decode b_MD_tellAll 167 = .ok (.iload_n 2, 1) := by decide +kernel
theorem d_MD_tellAll_168 : decode b_MD_tellAll 168 = .ok (.dup2, 1) := by decide +kernel
theorem d_MD_tellAll_169 : decode b_MD_tellAll 169 = .ok (.iaload, 1) := by decide +kernel
theorem d_MD_tellAll_170 : decode b_MD_tellAll 170 = .ok (.iconst 1, 1) := by decide +kernel
theorem d_MD_tellAll_171 : decode b_MD_tellAll 171 = .ok (.iadd, 1) := by decide +kernel
theorem d_MD_tellAll_172 : decode b_MD_tellAll 172 = .ok (.iastore, 1) := by decide +kernel
theorem d_MD_tellAll_173 : decode b_MD_tellAll 173 = .ok (.iinc 2 1, 3) := by decide +kernel
theorem d_MD_tellAll_176 : decode b_MD_tellAll 176 = .ok (.aload_n 0, 1) := by decide +kernel
theorem d_MD_tellAll_177 : decode b_MD_tellAll 177 = .ok (.getfield 61, 3) := by decide +kernel
theorem d_MD_tellAll_180 : decode b_MD_tellAll 180 = .ok (.iload_n 2, 1) := by decide +kernel
theorem d_MD_tellAll_181 : decode b_MD_tellAll 181 = .ok (.iload 6, 2) := by decide +kernel
theorem d_MD_tellAll_183 : decode b_MD_tellAll 183 = .ok (.iastore, 1) := by decide +kernel
theorem d_MD_tellAll_184 : decode b_MD_tellAll 184 = .ok (.aload_n 0, 1) := by decide +kernel
theorem d_MD_tellAll_185 : decode b_MD_tellAll 185 = .ok (.getfield 64, 3) := by decide +kernel
theorem d_MD_tellAll_188 : decode b_MD_tellAll 188 = .ok (.iload_n 2, 1) := by decide +kernel
theorem d_MD_tellAll_189 : decode b_MD_tellAll 189 = .ok (.iconst 0, 1) := by decide +kernel
theorem d_MD_tellAll_190 : decode b_MD_tellAll 190 = .ok (.iastore, 1) := by decide +kernel
theorem d_MD_tellAll_191 : decode b_MD_tellAll 191 = .ok (.goto 35, 3) := by decide +kernel
theorem d_MD_tellAll_194 : decode b_MD_tellAll 194 = .ok (.aload_n 0, 1) := by decide +kernel
theorem d_MD_tellAll_195 : decode b_MD_tellAll 195 = .ok (.getfield 45, 3) := by decide +kernel
theorem d_MD_tellAll_198 : decode b_MD_tellAll 198 = .ok (.iload 4, 2) := by decide +kernel
theorem d_MD_tellAll_200 : decode b_MD_tellAll 200 = .ok (.iload 5, 2) := by decide +kernel
theorem d_MD_tellAll_202 : decode b_MD_tellAll 202 = .ok (.ifCond .le 7, 3) := by decide +kernel
theorem d_MD_tellAll_205 : decode b_MD_tellAll 205 = .ok (.iconst 1, 1) := by decide +kernel
theorem d_MD_tellAll_206 : decode b_MD_tellAll 206 = .ok (.goto 4, 3) := by decide +kernel
theorem d_MD_tellAll_209 : decode b_MD_tellAll 209 = .ok (.iconst 0, 1) := by decide +kernel
theorem d_MD_tellAll_210 : decode b_MD_tellAll 210 = .ok (.bastore, 1) := by decide +kernel
theorem d_MD_tellAll_211 : decode b_MD_tellAll 211 = .ok (.aload_n 0, 1) := by decide +kernel
theorem d_MD_tellAll_212 : decode b_MD_tellAll 212 = .ok (.aload_n 0, 1) := by decide +kernel
theorem d_MD_tellAll_213 : decode b_MD_tellAll 213 = .ok (.getfield 16, 3) := by decide +kernel
theorem d_MD_tellAll_216 : decode b_MD_tellAll 216 = .ok (.iload_n 3, 1) := by decide +kernel
theorem d_MD_tellAll_217 : decode b_MD_tellAll 217 = .ok (.iaload, 1) := by decide +kernel
theorem d_MD_tellAll_218 : decode b_MD_tellAll 218 = .ok (.iload 4, 2) := by decide +kernel
theorem d_MD_tellAll_220 : decode b_MD_tellAll 220 = .ok (.invokevirtual 124, 3) := by decide +kernel
theorem d_MD_tellAll_223 : decode b_MD_tellAll 223 = .ok (.iinc 2 (-1), 3) := by decide +kernel
theorem d_MD_tellAll_226 : decode b_MD_tellAll 226 = .ok (.goto (-175), 3) := by decide +kernel
theorem d_MD_tellAll_229 : decode b_MD_tellAll 229 = .ok (.return_, 1) := by decide +kernel
theorem d_MD_numberSaved_0 : decode b_MD_numberSaved 0 = .ok (.aload_n 0, 1) := by decide +kernel
theorem d_MD_numberSaved_1 : decode b_MD_numberSaved 1 = .ok (.iconst 0, 1) := by decide +kernel
theorem d_MD_numberSaved_2 : decode b_MD_numberSaved 2 = .ok (.putfield 121, 3) := by decide +kernel
theorem d_MD_numberSaved_5 : decode b_MD_numberSaved 5 = .ok (.iconst 0, 1) := by decide +kernel
theorem d_MD_numberSaved_6 : decode b_MD_numberSaved 6 = .ok (.istore_n 1, 1) := by decide +kernel
theorem d_MD_numberSaved_7 : decode b_MD_numberSaved 7 = .ok (.iload_n 1, 1) := by decide +kernel
theorem d_MD_numberSaved_8 : decode b_MD_numberSaved 8 = .ok (.aload_n 0, 1) := by decide +kernel
theorem d_MD_numberSaved_9 : decode b_MD_numberSaved 9 = .ok (.getfield 112, 3) := by decide +kernel
theorem d_MD_numberSaved_12 : decode b_MD_numberSaved 12 = .ok (.if_icmp .ge 91, 3) := by decide +kernel
theorem d_MD_numberSaved_15 : decode b_MD_numberSaved 15 = .ok (.aload_n 0, 1) := by decide +kernel
theorem d_MD_numberSaved_16 : decode b_MD_numberSaved 16 = .ok (.getfield 58, 3) := by decide +kernel
theorem d_MD_numberSaved_19 : decode b_MD_numberSaved 19 = .ok (.iload_n 1, 1) := by decide +kernel
theorem d_MD_numberSaved_20 : decode b_MD_numberSaved 20 = .ok (.aload_n 0, 1) := by decide +kernel
theorem d_MD_numberSaved_21 : decode b_MD_numberSaved 21 = .ok (.getfield 35, 3) := by decide +kernel
theorem d_MD_numberSaved_24 : decode b_MD_numberSaved 24 = .ok (.iload_n 1, 1) := by decide +kernel
theorem d_MD_numberSaved_25 : decode b_MD_numberSaved 25 = .ok (.iaload, 1) := by decide +kernel
theorem d_MD_numberSaved_26 : decode b_MD_numberSaved 26 = .ok (.ifCond .lt 35, 3) := by decide +kernel
theorem d_MD_numberSaved_29 : decode b_MD_numberSaved 29 = .ok (.aload_n 0, 1) := by decide +kernel
theorem d_MD_numberSaved_30 : decode b_MD_numberSaved 30 = .ok (.getfield 7, 3) := by decide +kernel
theorem d_MD_numberSaved_33 : decode b_MD_numberSaved 33 = .ok (.aload_n 0, 1) := by decide +kernel
theorem d_MD_numberSaved_34 : decode b_MD_numberSaved 34 = .ok (.getfield 35, 3) := by decide +kernel
theorem d_MD_numberSaved_37 : decode b_MD_numberSaved 37 = .ok (.iload_n 1, 1) := by decide +kernel
theorem d_MD_numberSaved_38 : decode b_MD_numberSaved 38 = .ok (.iaload, 1) := by decide +kernel
theorem d_MD_numberSaved_39 : decode b_MD_numberSaved 39 = .ok (.iaload, 1) := by decide +kernel
theorem d_MD_numberSaved_40 : decode b_MD_numberSaved 40 = .ok (.ifCond .le 21, 3) := by decide +kernel
theorem d_MD_numberSaved_43 : decode b_MD_numberSaved 43 = .ok (.aload_n 0, 1) := by decide +kernel
theorem d_MD_numberSaved_44 : decode b_MD_numberSaved 44 = .ok (.getfield 41, 3) := by decide +kernel
theorem d_MD_numberSaved_47 : decode b_MD_numberSaved 47 = .ok (.aload_n 0, 1) := by decide +kernel
theorem d_MD_numberSaved_48 : decode b_MD_numberSaved 48 = .ok (.getfield 38, 3) := by decide +kernel
theorem d_MD_numberSaved_51 : decode b_MD_numberSaved 51 = .ok (.iload_n 1, 1) := by decide +kernel
theorem d_MD_numberSaved_52 : decode b_MD_numberSaved 52 = .ok (.iaload, 1) := by decide +kernel
theorem d_MD_numberSaved_53 : decode b_MD_numberSaved 53 = .ok (.baload, 1) := by decide +kernel
theorem d_MD_numberSaved_54 : decode b_MD_numberSaved 54 = .ok (.ifCond .eq 7, 3) := by decide +kernel
theorem d_MD_numberSaved_57 : decode b_MD_numberSaved 57 = .ok (.iconst 1, 1) := by decide +kernel
theorem d_MD_numberSaved_58 : decode b_MD_numberSaved 58 = .ok (.goto 4, 3) := by decide +kernel
theorem d_MD_numberSaved_61 : decode b_MD_numberSaved 61 = .ok (.iconst 0, 1) := by decide +kernel
theorem d_MD_numberSaved_62 : decode b_MD_numberSaved 62 = .ok (.bastore, 1) := by decide +kernel
theorem d_MD_numberSaved_63 : decode b_MD_numberSaved 63 = .ok (.aload_n 0, 1) := by decide +kernel
theorem d_MD_numberSaved_64 : decode b_MD_numberSaved 64 = .ok (.getfield 58, 3) := by decide +kernel
theorem d_MD_numberSaved_67 : decode b_MD_numberSaved 67 = .ok (.iload_n 1, 1) := by decide +kernel
theorem d_MD_numberSaved_68 : decode b_MD_numberSaved 68 = .ok (.baload, 1) := by decide +kernel
theorem d_MD_numberSaved_69 : decode b_MD_numberSaved 69 = .ok (.ifCond .eq 28, 3) := by decide +kernel
theorem d_MD_numberSaved_72 : decode b_MD_numberSaved 72 = .ok (.aload_n 0, 1) := by decide +kernel
theorem d_MD_numberSaved_73 : decode b_MD_numberSaved 73 = .ok (.getfield 48, 3) := by decide +kernel
theorem d_MD_numberSaved_76 : decode b_MD_numberSaved 76 = .ok (.aload_n 0, 1) := by decide +kernel
theorem d_MD_numberSaved_77 : decode b_MD_numberSaved 77 = .ok (.getfield 38, 3) := by decide +kernel
theorem d_MD_numberSaved_80 : decode b_MD_numberSaved 80 = .ok (.iload_n 1, 1) := by decide +kernel
theorem d_MD_numberSaved_81 : decode b_MD_numberSaved 81 = .ok (.iaload, 1) := by decide +kernel
theorem d_MD_numberSaved_82 : decode b_MD_numberSaved 82 = .ok (.aload_n 0, 1) := by decide +kernel
theorem d_MD_numberSaved_83 : decode b_MD_numberSaved 83 = .ok (.getfield 121, 3) := by decide +kernel
theorem d_MD_numberSaved_86 : decode b_MD_numberSaved 86 = .ok (.iastore, 1) := by decide +kernel
theorem d_MD_numberSaved_87 : decode b_MD_numberSaved 87 = .ok (.aload_n 0, 1) := by decide +kernel
theorem d_MD_numberSaved_88 : decode b_MD_numberSaved 88 = .ok (.dup, 1) := by decide +kernel
theorem d_MD_numberSaved_89 : decode b_MD_numberSaved 89 = .ok (.getfield 121, 3) := by decide +kernel
theorem d_MD_numberSaved_92 : decode b_MD_numberSaved 92 = .ok (.iconst 1, 1) := by decide +kernel
theorem d_MD_numberSaved_93 : decode b_MD_numberSaved 93 = .ok (.iadd, 1) := by decide +kernel
theorem d_MD_numberSaved_94 : decode b_MD_numberSaved 94 = .ok (.putfield 121, 3) := by decide +kernel
theorem d_MD_numberSaved_97 : decode b_MD_numberSaved 97 = .ok (.iinc 1 1, 3) := by decide +kernel
theorem d_MD_numberSaved_100 : decode b_MD_numberSaved 100 = .ok (.goto (-93), 3) := by decide +kernel
theorem d_MD_numberSaved_103 : decode b_MD_numberSaved 103 = .ok (.iconst 0, 1) := by decide +kernel
theorem d_MD_numberSaved_104 : decode b_MD_numberSaved 104 = .ok (.istore_n 1, 1) := by decide +kernel
theorem d_MD_numberSaved_105 : decode b_MD_numberSaved 105 = .ok (.iload_n 1, 1) := by decide +kernel
theorem d_MD_numberSaved_106 : decode b_MD_numberSaved 106 = .ok (.aload_n 0, 1) := by decide +kernel
theorem d_MD_numberSaved_107 : decode b_MD_numberSaved 107 = .ok (.getfield 112, 3) := by decide +kernel
theorem d_MD_numberSaved_110 : decode b_MD_numberSaved 110 = .ok (.if_icmp .ge 47, 3) := by decide +kernel
theorem d_MD_numberSaved_113 : decode b_MD_numberSaved 113 = .ok (.aload_n 0, 1) := by decide +kernel
theorem d_MD_numberSaved_114 : decode b_MD_numberSaved 114 = .ok (.getfield 35, 3) := by decide +kernel
theorem d_MD_numberSaved_117 : decode b_MD_numberSaved 117 = .ok (.iload_n 1, 1) := by decide +kernel
theorem d_MD_numberSaved_118 : decode b_MD_numberSaved 118 = .ok (.aload_n 0, 1) := by decide +kernel
theorem d_MD_numberSaved_119 : decode b_MD_numberSaved 119 = .ok (.getfield 35, 3) := by decide +kernel
theorem d_MD_numberSaved_122 : decode b_MD_numberSaved 122 = .ok (.iload_n 1, 1) := by decide +kernel
theorem d_MD_numberSaved_123 : decode b_MD_numberSaved 123 = .ok (.iaload, 1) := by decide +kernel
theorem d_MD_numberSaved_124 : decode b_MD_numberSaved 124 = .ok (.ifCond .ge 20, 3) := by decide +kernel
theorem d_MD_numberSaved_127 : decode b_MD_numberSaved 127 = .ok (.bipush (-2), 2) := by decide +kernel
theorem d_MD_numberSaved_129 : decode b_MD_numberSaved 129 = .ok (.aload_n 0, 1) := by decide +kernel
theorem d_MD_numberSaved_130 : decode b_MD_numberSaved 130 = .ok (.getfield 48, 3) := by decide +kernel
theorem d_MD_numberSaved_133 : decode b_MD_numberSaved 133 = .ok (.aload_n 0, 1) := by decide +kernel
theorem d_MD_numberSaved_134 : decode b_MD_numberSaved 134 = .ok (.getfield 38, 3) := by decide +kernel
theorem d_MD_numberSaved_137 : decode b_MD_numberSaved 137 = .ok (.iload_n 1, 1) := by decide +kernel
theorem d_MD_numberSaved_138 : decode b_MD_numberSaved 138 = .ok (.iaload, 1) := by decide +kernel
theorem d_MD_numberSaved_139 : decode b_MD_numberSaved 139 = .ok (.iaload, 1) := by decide +kernel
theorem d_MD_numberSaved_140 : decode b_MD_numberSaved 140 = .ok (.isub, 1) := by decide +kernel
theorem d_MD_numberSaved_141 : decode b_MD_numberSaved 141 = .ok (.goto 9, 3) := by decide +kernel
theorem d_MD_numberSaved_144 : decode b_MD_numberSaved 144 = .ok (.aload_n 0, 1) := by decide +kernel
theorem d_MD_numberSaved_145 : decode b_MD_numberSaved 145 = .ok (.getfield 35, 3) := by decide +kernel
theorem d_MD_numberSaved_148 : decode b_MD_numberSaved 148 = .ok (.iload_n 1, 1) := by decide +kernel
theorem d_MD_numberSaved_149 : decode b_MD_numberSaved 149 = .ok (.iaload, 1) := by decide +kernel
theorem d_MD_numberSaved_150 : decode b_MD_numberSaved 150 = .ok (.iastore, 1) := by decide +kernel
theorem d_MD_numberSaved_151 : decode b_MD_numberSaved 151 = .ok (.iinc 1 1, 3) := by decide +kernel
theorem d_MD_numberSaved_154 : decode b_MD_numberSaved 154 = .ok (.goto (-49), 3) := by decide +kernel
theorem d_MD_numberSaved_157 : decode b_MD_numberSaved 157 = .ok (.return_, 1) := by decide +kernel
theorem d_MD_labelOf_0 : decode b_MD_labelOf 0 = .ok (.iconst 0, 1) := by decide +kernel
theorem d_MD_labelOf_1 : decode b_MD_labelOf 1 = .ok (.istore_n 2, 1) := by decide +kernel
theorem d_MD_labelOf_2 : decode b_MD_labelOf 2 = .ok (.iload_n 2, 1) := by decide +kernel
theorem d_MD_labelOf_3 : decode b_MD_labelOf 3 = .ok (.aload_n 0, 1) := by decide +kernel
theorem d_MD_labelOf_4 : decode b_MD_labelOf 4 = .ok (.getfield 115, 3) := by decide +kernel
theorem d_MD_labelOf_7 : decode b_MD_labelOf 7 = .ok (.if_icmp .ge 21, 3) := by decide +kernel
theorem d_MD_labelOf_10 : decode b_MD_labelOf 10 = .ok (.aload_n 0, 1) := by decide +kernel
theorem d_MD_labelOf_11 : decode b_MD_labelOf 11 = .ok (.getfield 51, 3) := by decide +kernel
theorem d_MD_labelOf_14 : decode b_MD_labelOf 14 = .ok (.iload_n 2, 1) := by decide +kernel
theorem d_MD_labelOf_15 : decode b_MD_labelOf 15 = .ok (.iaload, 1) := by decide +kernel
theorem d_MD_labelOf_16 : decode b_MD_labelOf 16 = .ok (.iload_n 1, 1) := by decide +kernel
theorem d_MD_labelOf_17 : decode b_MD_labelOf 17 = .ok (.if_icmp .ne 5, 3) := by decide +kernel
theorem d_MD_labelOf_20 : decode b_MD_labelOf 20 = .ok (.iload_n 2, 1) := by decide +kernel
theorem d_MD_labelOf_21 : decode b_MD_labelOf 21 = .ok (.ireturn, 1) := by decide +kernel
theorem d_MD_labelOf_22 : decode b_MD_labelOf 22 = .ok (.iinc 2 1, 3) := by decide +kernel
theorem d_MD_labelOf_25 : decode b_MD_labelOf 25 = .ok (.goto (-23), 3) := by decide +kernel
theorem d_MD_labelOf_28 : decode b_MD_labelOf 28 = .ok (.iconst (-1), 1) := by decide +kernel
theorem d_MD_labelOf_29 : decode b_MD_labelOf 29 = .ok (.ireturn, 1) := by decide +kernel
theorem d_MD_findLabels_0 : decode b_MD_findLabels 0 = .ok (.aload_n 0, 1) := by decide +kernel
theorem d_MD_findLabels_1 : decode b_MD_findLabels 1 = .ok (.iconst 0, 1) := by decide +kernel
theorem d_MD_findLabels_2 : decode b_MD_findLabels 2 = .ok (.putfield 115, 3) := by decide +kernel
theorem d_MD_findLabels_5 : decode b_MD_findLabels 5 = .ok (.iconst 0, 1) := by decide +kernel
theorem d_MD_findLabels_6 : decode b_MD_findLabels 6 = .ok (.istore_n 1, 1) := by decide +kernel
theorem d_MD_findLabels_7 : decode b_MD_findLabels 7 = .ok (.iload_n 1, 1) := by decide +kernel
theorem d_MD_findLabels_8 : decode b_MD_findLabels 8 = .ok (.aload_n 0, 1) := by decide +kernel
theorem d_MD_findLabels_9 : decode b_MD_findLabels 9 = .ok (.getfield 112, 3) := by decide +kernel
theorem d_MD_findLabels_12 : decode b_MD_findLabels 12 = .ok (.if_icmp .ge 69, 3) := by decide +kernel
theorem d_MD_findLabels_15 : decode b_MD_findLabels 15 = .ok (.aload_n 0, 1) := by decide +kernel
theorem d_MD_findLabels_16 : decode b_MD_findLabels 16 = .ok (.getfield 35, 3) := by decide +kernel
theorem d_MD_findLabels_19 : decode b_MD_findLabels 19 = .ok (.iload_n 1, 1) := by decide +kernel
theorem d_MD_findLabels_20 : decode b_MD_findLabels 20 = .ok (.iaload, 1) := by decide +kernel
theorem d_MD_findLabels_21 : decode b_MD_findLabels 21 = .ok (.ifCond .lt 54, 3) := by decide +kernel
theorem d_MD_findLabels_24 : decode b_MD_findLabels 24 = .ok (.aload_n 0, 1) := by decide +kernel
theorem d_MD_findLabels_25 : decode b_MD_findLabels 25 = .ok (.aload_n 0, 1) := by decide +kernel
theorem d_MD_findLabels_26 : decode b_MD_findLabels 26 = .ok (.getfield 35, 3) := by decide +kernel
theorem d_MD_findLabels_29 : decode b_MD_findLabels 29 = .ok (.iload_n 1, 1) := by decide +kernel
theorem d_MD_findLabels_30 : decode b_MD_findLabels 30 = .ok (.iaload, 1) := by decide +kernel
theorem d_MD_findLabels_31 : decode b_MD_findLabels 31 = .ok (.invokevirtual 78, 3) := by decide +kernel
theorem d_MD_findLabels_34 : decode b_MD_findLabels 34 = .ok (.ifCond .ge 41, 3) := by decide +kernel
theorem d_MD_findLabels_37 : decode b_MD_findLabels 37 = .ok (.aload_n 0, 1) := by decide +kernel
theorem d_MD_findLabels_38 : decode b_MD_findLabels 38 = .ok (.aload_n 0, 1) := by decide +kernel
theorem d_MD_findLabels_39 : decode b_MD_findLabels 39 = .ok (.getfield 35, 3) := by decide +kernel
theorem d_MD_findLabels_42 : decode b_MD_findLabels 42 = .ok (.iload_n 1, 1) := by decide +kernel
theorem d_MD_findLabels_43 : decode b_MD_findLabels 43 = .ok (.iaload, 1) := by decide +kernel
theorem d_MD_findLabels_44 : decode b_MD_findLabels 44 = .ok (.invokevirtual 128, 3) := by decide +kernel
theorem d_MD_findLabels_47 : decode b_MD_findLabels 47 = .ok (.ifCond .ge 28, 3) := by decide +kernel
theorem d_MD_findLabels_50 : decode b_MD_findLabels 50 = .ok (.aload_n 0, 1) := by decide +kernel
theorem d_MD_findLabels_51 : decode b_MD_findLabels 51 = .ok (.getfield 51, 3) := by decide +kernel
theorem d_MD_findLabels_54 : decode b_MD_findLabels 54 = .ok (.aload_n 0, 1) := by decide +kernel
theorem d_MD_findLabels_55 : decode b_MD_findLabels 55 = .ok (.getfield 115, 3) := by decide +kernel
theorem d_MD_findLabels_58 : decode b_MD_findLabels 58 = .ok (.aload_n 0, 1) := by decide +kernel
theorem d_MD_findLabels_59 : decode b_MD_findLabels 59 = .ok (.getfield 35, 3) := by decide +kernel
theorem d_MD_findLabels_62 : decode b_MD_findLabels 62 = .ok (.iload_n 1, 1) := by decide +kernel
theorem d_MD_findLabels_63 : decode b_MD_findLabels 63 = .ok (.iaload, 1) := by decide +kernel
theorem d_MD_findLabels_64 : decode b_MD_findLabels 64 = .ok (.iastore, 1) := by decide +kernel
theorem d_MD_findLabels_65 : decode b_MD_findLabels 65 = .ok (.aload_n 0, 1) := by decide +kernel
theorem d_MD_findLabels_66 : decode b_MD_findLabels 66 = .ok (.dup, 1) := by decide +kernel
theorem d_MD_findLabels_67 : decode b_MD_findLabels 67 = .ok (.getfield 115, 3) := by decide +kernel
theorem d_MD_findLabels_70 : decode b_MD_findLabels 70 = .ok (.iconst 1, 1) := by decide +kernel
theorem d_MD_findLabels_71 : decode b_MD_findLabels 71 = .ok (.iadd, 1) := by decide +kernel
theorem d_MD_findLabels_72 : decode b_MD_findLabels 72 = .ok (.putfield 115, 3) := by decide +kernel
theorem d_MD_findLabels_75 : decode b_MD_findLabels 75 = .ok (.iinc 1 1, 3) := by decide +kernel
theorem d_MD_findLabels_78 : decode b_MD_findLabels 78 = .ok (.goto (-71), 3) := by decide +kernel
theorem d_MD_findLabels_81 : decode b_MD_findLabels 81 = .ok (.return_, 1) := by decide +kernel
theorem d_MD_putLetter_0 : decode b_MD_putLetter 0 = .ok (.aload_n 0, 1) := by decide +kernel
theorem d_MD_putLetter_1 : decode b_MD_putLetter 1 = .ok (.getfield 55, 3) := by decide +kernel
theorem d_MD_putLetter_4 : decode b_MD_putLetter 4 = .ok (.aload_n 0, 1) := by decide +kernel
theorem d_MD_putLetter_5 : decode b_MD_putLetter 5 = .ok (.getfield 118, 3) := by decide +kernel
theorem d_MD_putLetter_8 : decode b_MD_putLetter 8 = .ok (.iload_n 1, 1) := by decide +kernel
theorem d_MD_putLetter_9 : decode b_MD_putLetter 9 = .ok (.iload_n 2, 1) := by decide +kernel
theorem d_MD_putLetter_10 : decode b_MD_putLetter 10 = .ok (.iadd, 1) := by decide +kernel
theorem d_MD_putLetter_11 : decode b_MD_putLetter 11 = .ok (.iastore, 1) := by decide +kernel
theorem d_MD_putLetter_12 : decode b_MD_putLetter 12 = .ok (.aload_n 0, 1) := by decide +kernel
theorem d_MD_putLetter_13 : decode b_MD_putLetter 13 = .ok (.dup, 1) := by decide +kernel
theorem d_MD_putLetter_14 : decode b_MD_putLetter 14 = .ok (.getfield 118, 3) := by decide +kernel
theorem d_MD_putLetter_17 : decode b_MD_putLetter 17 = .ok (.iconst 1, 1) := by decide +kernel
theorem d_MD_putLetter_18 : decode b_MD_putLetter 18 = .ok (.iadd, 1) := by decide +kernel
theorem d_MD_putLetter_19 : decode b_MD_putLetter 19 = .ok (.putfield 118, 3) := by decide +kernel
theorem d_MD_putLetter_22 : decode b_MD_putLetter 22 = .ok (.return_, 1) := by decide +kernel
theorem d_MD_layNumber_0 : decode b_MD_layNumber 0 = .ok (.iload_n 1, 1) := by decide +kernel
theorem d_MD_layNumber_1 : decode b_MD_layNumber 1 = .ok (.iconst 1, 1) := by decide +kernel
theorem d_MD_layNumber_2 : decode b_MD_layNumber 2 = .ok (.isub, 1) := by decide +kernel
theorem d_MD_layNumber_3 : decode b_MD_layNumber 3 = .ok (.bipush 20, 2) := by decide +kernel
theorem d_MD_layNumber_5 : decode b_MD_layNumber 5 = .ok (.idiv, 1) := by decide +kernel
theorem d_MD_layNumber_6 : decode b_MD_layNumber 6 = .ok (.istore_n 2, 1) := by decide +kernel
theorem d_MD_layNumber_7 : decode b_MD_layNumber 7 = .ok (.iconst 0, 1) := by decide +kernel
theorem d_MD_layNumber_8 : decode b_MD_layNumber 8 = .ok (.istore_n 3, 1) := by decide +kernel
theorem d_MD_layNumber_9 : decode b_MD_layNumber 9 = .ok (.iconst 1, 1) := by decide +kernel
theorem d_MD_layNumber_10 : decode b_MD_layNumber 10 = .ok (.istore 4, 2) := by decide +kernel
theorem d_MD_layNumber_12 : decode b_MD_layNumber 12 = .ok (.iload_n 2, 1) := by decide +kernel
theorem d_MD_layNumber_13 : decode b_MD_layNumber 13 = .ok (.istore 5, 2) := by decide +kernel
theorem d_MD_layNumber_15 : decode b_MD_layNumber 15 = .ok (.iload 5, 2) := by decide +kernel
theorem d_MD_layNumber_17 : decode b_MD_layNumber 17 = .ok (.ifCond .le 17, 3) := by decide +kernel
theorem d_MD_layNumber_20 : decode b_MD_layNumber 20 = .ok (.iinc 3 1, 3) := by decide +kernel
theorem d_MD_layNumber_23 : decode b_MD_layNumber 23 = .ok (.iload 5, 2) := by decide +kernel
theorem d_MD_layNumber_25 : decode b_MD_layNumber 25 = .ok (.iconst 1, 1) := by decide +kernel
theorem d_MD_layNumber_26 : decode b_MD_layNumber 26 = .ok (.isub, 1) := by decide +kernel
theorem d_MD_layNumber_27 : decode b_MD_layNumber 27 = .ok (.iconst 5, 1) := by decide +kernel
theorem d_MD_layNumber_28 : decode b_MD_layNumber 28 = .ok (.idiv, 1) := by decide +kernel
theorem d_MD_layNumber_29 : decode b_MD_layNumber 29 = .ok (.istore 5, 2) := by decide +kernel
theorem d_MD_layNumber_31 : decode b_MD_layNumber 31 = .ok (.goto (-16), 3) := by decide +kernel
theorem d_MD_layNumber_34 : decode b_MD_layNumber 34 = .ok (.iload_n 3, 1) := by decide +kernel
theorem d_MD_layNumber_35 : decode b_MD_layNumber 35 = .ok (.iconst 1, 1) := by decide +kernel
theorem d_MD_layNumber_36 : decode b_MD_layNumber 36 = .ok (.isub, 1) := by decide +kernel
theorem d_MD_layNumber_37 : decode b_MD_layNumber 37 = .ok (.istore 5, 2) := by decide +kernel
theorem d_MD_layNumber_39 : decode b_MD_layNumber 39 = .ok (.iload 5, 2) := by decide +kernel
theorem d_MD_layNumber_41 : decode b_MD_layNumber 41 = .ok (.ifCond .lt 48, 3) := by decide +kernel
theorem d_MD_layNumber_44 : decode b_MD_layNumber 44 = .ok (.iload_n 2, 1) := by decide +kernel
theorem d_MD_layNumber_45 : decode b_MD_layNumber 45 = .ok (.istore 6, 2) := by decide +kernel
theorem d_MD_layNumber_47 : decode b_MD_layNumber 47 = .ok (.iconst 0, 1) := by decide +kernel
theorem d_MD_layNumber_48 : decode b_MD_layNumber 48 = .ok (.istore 7, 2) := by decide +kernel
theorem d_MD_layNumber_50 : decode b_MD_layNumber 50 = .ok (.iload 7, 2) := by decide +kernel
theorem d_MD_layNumber_52 : decode b_MD_layNumber 52 = .ok (.iload 5, 2) := by decide +kernel
theorem d_MD_layNumber_54 : decode b_MD_layNumber 54 = .ok (.if_icmp .ge 17, 3) := by decide +kernel
theorem d_MD_layNumber_57 : decode b_MD_layNumber 57 = .ok (.iload 6, 2) := by decide +kernel
theorem d_MD_layNumber_59 : decode b_MD_layNumber 59 = .ok (.iconst 1, 1) := by decide +kernel
theorem d_MD_layNumber_60 : decode b_MD_layNumber 60 = .ok (.isub, 1) := by decide +kernel
theorem d_MD_layNumber_61 : decode b_MD_layNumber 61 = .ok (.iconst 5, 1) := by decide +kernel
theorem d_MD_layNumber_62 : decode b_MD_layNumber 62 = .ok (.idiv, 1) := by decide +kernel
theorem d_MD_layNumber_63 : decode b_MD_layNumber 63 = .ok (.istore 6, 2) := by decide +kernel
theorem d_MD_layNumber_65 : decode b_MD_layNumber 65 = .ok (.iinc 7 1, 3) := by decide +kernel
theorem d_MD_layNumber_68 : decode b_MD_layNumber 68 = .ok (.goto (-18), 3) := by decide +kernel
theorem d_MD_layNumber_71 : decode b_MD_layNumber 71 = .ok (.aload_n 0, 1) := by decide +kernel
theorem d_MD_layNumber_72 : decode b_MD_layNumber 72 = .ok (.bipush 85, 2) := by decide +kernel
theorem d_MD_layNumber_74 : decode b_MD_layNumber 74 = .ok (.iload 6, 2) := by decide +kernel
theorem d_MD_layNumber_76 : decode b_MD_layNumber 76 = .ok (.iconst 1, 1) := by decide +kernel
theorem d_MD_layNumber_77 : decode b_MD_layNumber 77 = .ok (.isub, 1) := by decide +kernel
theorem d_MD_layNumber_78 : decode b_MD_layNumber 78 = .ok (.iconst 5, 1) := by decide +kernel
theorem d_MD_layNumber_79 : decode b_MD_layNumber 79 = .ok (.irem, 1) := by decide +kernel
theorem d_MD_layNumber_80 : decode b_MD_layNumber 80 = .ok (.invokevirtual 131, 3) := by decide +kernel
theorem d_MD_layNumber_83 : decode b_MD_layNumber 83 = .ok (.iinc 5 (-1), 3) := by decide +kernel
theorem d_MD_layNumber_86 : decode b_MD_layNumber 86 = .ok (.goto (-47), 3) := by decide +kernel
theorem d_MD_layNumber_89 : decode b_MD_layNumber 89 = .ok (.aload_n 0, 1) := by decide +kernel
theorem d_MD_layNumber_90 : decode b_MD_layNumber 90 = .ok (.bipush 65, 2) := by decide +kernel
theorem d_MD_layNumber_92 : decode b_MD_layNumber 92 = .ok (.iload_n 1, 1) := by decide +kernel
theorem d_MD_layNumber_93 : decode b_MD_layNumber 93 = .ok (.iload 4, 2) := by decide +kernel
theorem d_MD_layNumber_95 : decode b_MD_layNumber 95 = .ok (.isub, 1) := by decide +kernel
theorem d_MD_layNumber_96 : decode b_MD_layNumber 96 = .ok (.bipush 20, 2) := by decide +kernel
theorem d_MD_layNumber_98 : decode b_MD_layNumber 98 = .ok (.irem, 1) := by decide +kernel
theorem d_MD_layNumber_99 : decode b_MD_layNumber 99 = .ok (.invokevirtual 131, 3) := by decide +kernel
theorem d_MD_layNumber_102 : decode b_MD_layNumber 102 = .ok (.return_, 1) := by decide +kernel
theorem d_MD_layLetters_0 : decode b_MD_layLetters 0 = .ok (.aload_n 0, 1) := by decide +kernel
theorem d_MD_layLetters_1 : decode b_MD_layLetters 1 = .ok (.iconst 0, 1) := by decide +kernel
theorem d_MD_layLetters_2 : decode b_MD_layLetters 2 = .ok (.putfield 118, 3) := by decide +kernel
theorem d_MD_layLetters_5 : decode b_MD_layLetters 5 = .ok (.iconst 0, 1) := by decide +kernel
theorem d_MD_layLetters_6 : decode b_MD_layLetters 6 = .ok (.istore_n 1, 1) := by decide +kernel
theorem d_MD_layLetters_7 : decode b_MD_layLetters 7 = .ok (.iload_n 1, 1) := by decide +kernel
theorem d_MD_layLetters_8 : decode b_MD_layLetters 8 = .ok (.aload_n 0, 1) := by decide +kernel
theorem d_MD_layLetters_9 : decode b_MD_layLetters 9 = .ok (.getfield 112, 3) := by decide +kernel
theorem d_MD_layLetters_12 : decode b_MD_layLetters 12 = .ok (.if_icmp .ge 105, 3) := by decide +kernel
theorem d_MD_layLetters_15 : decode b_MD_layLetters 15 = .ok (.iconst 0, 1) := by decide +kernel
theorem d_MD_layLetters_16 : decode b_MD_layLetters 16 = .ok (.istore_n 2, 1) := by decide +kernel
theorem d_MD_layLetters_17 : decode b_MD_layLetters 17 = .ok (.aload_n 0, 1) := by decide +kernel
theorem d_MD_layLetters_18 : decode b_MD_layLetters 18 = .ok (.getfield 35, 3) := by decide +kernel
theorem d_MD_layLetters_21 : decode b_MD_layLetters 21 = .ok (.iload_n 1, 1) := by decide +kernel
theorem d_MD_layLetters_22 : decode b_MD_layLetters 22 = .ok (.iaload, 1) := by decide +kernel
theorem d_MD_layLetters_23 : decode b_MD_layLetters 23 = .ok (.ifCond .ge 28, 3) := by decide +kernel
theorem d_MD_layLetters_26 : decode b_MD_layLetters 26 = .ok (.aload_n 0, 1) := by decide +kernel
theorem d_MD_layLetters_27 : decode b_MD_layLetters 27 = .ok (.getfield 71, 3) := by decide +kernel
theorem d_MD_layLetters_30 : decode b_MD_layLetters 30 = .ok (.aload_n 0, 1) := by decide +kernel
theorem d_MD_layLetters_31 : decode b_MD_layLetters 31 = .ok (.getfield 115, 3) := by decide +kernel
theorem d_MD_layLetters_34 : decode b_MD_layLetters 34 = .ok (.iadd, 1) := by decide +kernel
theorem d_MD_layLetters_35 : decode b_MD_layLetters 35 = .ok (.iconst 1, 1) := by decide +kernel
theorem d_MD_layLetters_36 : decode b_MD_layLetters 36 = .ok (.iadd, 1) := by decide +kernel
theorem d_MD_layLetters_37 : decode b_MD_layLetters 37 = .ok (.bipush (-2), 2) := by decide +kernel
theorem d_MD_layLetters_39 : decode b_MD_layLetters 39 = .ok (.aload_n 0, 1) := by decide +kernel
theorem d_MD_layLetters_40 : decode b_MD_layLetters 40 = .ok (.getfield 35, 3) := by decide +kernel
theorem d_MD_layLetters_43 : decode b_MD_layLetters 43 = .ok (.iload_n 1, 1) := by decide +kernel
theorem d_MD_layLetters_44 : decode b_MD_layLetters 44 = .ok (.iaload, 1) := by decide +kernel
theorem d_MD_layLetters_45 : decode b_MD_layLetters 45 = .ok (.isub, 1) := by decide +kernel
theorem d_MD_layLetters_46 : decode b_MD_layLetters 46 = .ok (.iadd, 1) := by decide +kernel
theorem d_MD_layLetters_47 : decode b_MD_layLetters 47 = .ok (.istore_n 2, 1) := by decide +kernel
theorem d_MD_layLetters_48 : decode b_MD_layLetters 48 = .ok (.goto 42, 3) := by decide +kernel
theorem d_MD_layLetters_51 : decode b_MD_layLetters 51 = .ok (.aload_n 0, 1) := by decide +kernel
theorem d_MD_layLetters_52 : decode b_MD_layLetters 52 = .ok (.aload_n 0, 1) := by decide +kernel
theorem d_MD_layLetters_53 : decode b_MD_layLetters 53 = .ok (.getfield 35, 3) := by decide +kernel
theorem d_MD_layLetters_56 : decode b_MD_layLetters 56 = .ok (.iload_n 1, 1) := by decide +kernel
theorem d_MD_layLetters_57 : decode b_MD_layLetters 57 = .ok (.iaload, 1) := by decide +kernel
theorem d_MD_layLetters_58 : decode b_MD_layLetters 58 = .ok (.invokevirtual 78, 3) := by decide +kernel
theorem d_MD_layLetters_61 : decode b_MD_layLetters 61 = .ok (.istore_n 3, 1) := by decide +kernel
theorem d_MD_layLetters_62 : decode b_MD_layLetters 62 = .ok (.iload_n 3, 1) := by decide +kernel
theorem d_MD_layLetters_63 : decode b_MD_layLetters 63 = .ok (.ifCond .lt 9, 3) := by decide +kernel
theorem d_MD_layLetters_66 : decode b_MD_layLetters 66 = .ok (.iload_n 3, 1) := by decide +kernel
theorem d_MD_layLetters_67 : decode b_MD_layLetters 67 = .ok (.iconst 1, 1) := by decide +kernel
theorem d_MD_layLetters_68 : decode b_MD_layLetters 68 = .ok (.iadd, 1) := by decide +kernel
theorem d_MD_layLetters_69 : decode b_MD_layLetters 69 = .ok (.goto 20, 3) := by decide +kernel
theorem d_MD_layLetters_72 : decode b_MD_layLetters 72 = .ok (.aload_n 0, 1) := by decide +kernel
theorem d_MD_layLetters_73 : decode b_MD_layLetters 73 = .ok (.getfield 71, 3) := by decide +kernel
theorem d_MD_layLetters_76 : decode b_MD_layLetters 76 = .ok (.iconst 1, 1) := by decide +kernel
theorem d_MD_layLetters_77 : decode b_MD_layLetters 77 = .ok (.iadd, 1) := by decide +kernel
theorem d_MD_layLetters_78 : decode b_MD_layLetters 78 = .ok (.aload_n 0, 1) := by decide +kernel
theorem d_MD_layLetters_79 : decode b_MD_layLetters 79 = .ok (.aload_n 0, 1) := by decide +kernel
theorem d_MD_layLetters_80 : decode b_MD_layLetters 80 = .ok (.getfield 35, 3) := by decide +kernel
theorem d_MD_layLetters_83 : decode b_MD_layLetters 83 = .ok (.iload_n 1, 1) := by decide +kernel
theorem d_MD_layLetters_84 : decode b_MD_layLetters 84 = .ok (.iaload, 1) := by decide +kernel
theorem d_MD_layLetters_85 : decode b_MD_layLetters 85 = .ok (.invokevirtual 128, 3) := by decide +kernel
theorem d_MD_layLetters_88 : decode b_MD_layLetters 88 = .ok (.iadd, 1) := by decide +kernel
theorem d_MD_layLetters_89 : decode b_MD_layLetters 89 = .ok (.istore_n 2, 1) := by decide +kernel
theorem d_MD_layLetters_90 : decode b_MD_layLetters 90 = .ok (.aload_n 0, 1) := by decide +kernel
theorem d_MD_layLetters_91 : decode b_MD_layLetters 91 = .ok (.iload_n 2, 1) := by decide +kernel
theorem d_MD_layLetters_92 : decode b_MD_layLetters 92 = .ok (.invokevirtual 135, 3) := by decide +kernel
theorem d_MD_layLetters_95 : decode b_MD_layLetters 95 = .ok (.aload_n 0, 1) := by decide +kernel
theorem d_MD_layLetters_96 : decode b_MD_layLetters 96 = .ok (.getfield 58, 3) := by decide +kernel
theorem d_MD_layLetters_99 : decode b_MD_layLetters 99 = .ok (.iload_n 1, 1) := by decide +kernel
theorem d_MD_layLetters_100 : decode b_MD_layLetters 100 = .ok (.baload, 1) := by decide +kernel
theorem d_MD_layLetters_101 : decode b_MD_layLetters 101 = .ok (.ifCond .eq 10, 3) := by decide +kernel
theorem d_MD_layLetters_104 : decode b_MD_layLetters 104 = .ok (.aload_n 0, 1) := by decide +kernel
theorem d_MD_layLetters_105 : decode b_MD_layLetters 105 = .ok (.bipush 90, 2) := by decide +kernel
theorem d_MD_layLetters_107 : decode b_MD_layLetters 107 = .ok (.iconst 0, 1) := by decide +kernel
theorem d_MD_layLetters_108 : decode b_MD_layLetters 108 = .ok (.invokevirtual 131, 3) := by decide +kernel
theorem d_MD_layLetters_111 : decode b_MD_layLetters 111 = .ok (.iinc 1 1, 3) := by decide +kernel
theorem d_MD_layLetters_114 : decode b_MD_layLetters 114 = .ok (.goto (-107), 3) := by decide +kernel
theorem d_MD_layLetters_117 : decode b_MD_layLetters 117 = .ok (.return_, 1) := by decide +kernel
theorem d_MD_pack_0 : decode b_MD_pack 0 = .ok (.aload_n 0, 1) := by decide +kernel
theorem d_MD_pack_1 : decode b_MD_pack 1 = .ok (.getfield 90, 3) := by decide +kernel
theorem d_MD_pack_4 : decode b_MD_pack 4 = .ok (.iconst 1, 1) := by decide +kernel
theorem d_MD_pack_5 : decode b_MD_pack 5 = .ok (.if_icmp .eq 5, 3) := by decide +kernel
theorem d_MD_pack_8 : decode b_MD_pack 8 = .ok (.iconst (-1), 1) := by decide +kernel
theorem d_MD_pack_9 : decode b_MD_pack 9 = .ok (.ireturn, 1) := by decide +kernel
theorem d_MD_pack_10 : decode b_MD_pack 10 = .ok (.aload_n 0, 1) := by decide +kernel
theorem d_MD_pack_11 : decode b_MD_pack 11 = .ok (.aload_n 0, 1) := by decide +kernel
theorem d_MD_pack_12 : decode b_MD_pack 12 = .ok (.getfield 32, 3) := by decide +kernel
theorem d_MD_pack_15 : decode b_MD_pack 15 = .ok (.iconst 0, 1) := by decide +kernel
theorem d_MD_pack_16 : decode b_MD_pack 16 = .ok (.iaload, 1) := by decide +kernel
theorem d_MD_pack_17 : decode b_MD_pack 17 = .ok (.invokevirtual 138, 3) := by decide +kernel
theorem d_MD_pack_20 : decode b_MD_pack 20 = .ok (.aload_n 0, 1) := by decide +kernel
theorem d_MD_pack_21 : decode b_MD_pack 21 = .ok (.invokevirtual 141, 3) := by decide +kernel
theorem d_MD_pack_24 : decode b_MD_pack 24 = .ok (.aload_n 0, 1) := by decide +kernel
theorem d_MD_pack_25 : decode b_MD_pack 25 = .ok (.invokevirtual 144, 3) := by decide +kernel
theorem d_MD_pack_28 : decode b_MD_pack 28 = .ok (.aload_n 0, 1) := by decide +kernel
theorem d_MD_pack_29 : decode b_MD_pack 29 = .ok (.invokevirtual 147, 3) := by decide +kernel
theorem d_MD_pack_32 : decode b_MD_pack 32 = .ok (.aload_n 0, 1) := by decide +kernel
theorem d_MD_pack_33 : decode b_MD_pack 33 = .ok (.getfield 112, 3) := by decide +kernel
theorem d_MD_pack_36 : decode b_MD_pack 36 = .ok (.ireturn, 1) := by decide +kernel
theorem d_MD_step_0 : decode b_MD_step 0 = .ok (.iload_n 1, 1) := by decide +kernel
theorem d_MD_step_1 : decode b_MD_step 1 = .ok (.ifCond .lt 20, 3) := by decide +kernel
theorem d_MD_step_4 : decode b_MD_step 4 = .ok (.iload_n 1, 1) := by decide +kernel
theorem d_MD_step_5 : decode b_MD_step 5 = .ok (.aload_n 0, 1) := by decide +kernel
theorem d_MD_step_6 : decode b_MD_step 6 = .ok (.getfield 112, 3) := by decide +kernel
theorem d_MD_step_9 : decode b_MD_step 9 = .ok (.if_icmp .ge 12, 3) := by decide +kernel
theorem d_MD_step_12 : decode b_MD_step 12 = .ok (.aload_n 0, 1) := by decide +kernel
theorem d_MD_step_13 : decode b_MD_step 13 = .ok (.getfield 35, 3) := by decide +kernel
theorem d_MD_step_16 : decode b_MD_step 16 = .ok (.iload_n 1, 1) := by decide +kernel
theorem d_MD_step_17 : decode b_MD_step 17 = .ok (.iaload, 1) := by decide +kernel
theorem d_MD_step_18 : decode b_MD_step 18 = .ok (.goto 4, 3) := by decide +kernel
theorem d_MD_step_21 : decode b_MD_step 21 = .ok (.iconst (-1), 1) := by decide +kernel
theorem d_MD_step_22 : decode b_MD_step 22 = .ok (.ireturn, 1) := by decide +kernel
theorem d_MD_saves_0 : decode b_MD_saves 0 = .ok (.iload_n 1, 1) := by decide +kernel
theorem d_MD_saves_1 : decode b_MD_saves 1 = .ok (.ifCond .lt 11, 3) := by decide +kernel
theorem d_MD_saves_4 : decode b_MD_saves 4 = .ok (.iload_n 1, 1) := by decide +kernel
theorem d_MD_saves_5 : decode b_MD_saves 5 = .ok (.aload_n 0, 1) := by decide +kernel
theorem d_MD_saves_6 : decode b_MD_saves 6 = .ok (.getfield 112, 3) := by decide +kernel
theorem d_MD_saves_9 : decode b_MD_saves 9 = .ok (.if_icmp .lt 7, 3) := by decide +kernel
theorem d_MD_saves_12 : decode b_MD_saves 12 = .ok (.iconst (-1), 1) := by decide +kernel
theorem d_MD_saves_13 : decode b_MD_saves 13 = .ok (.goto 17, 3) := by decide +kernel
theorem d_MD_saves_16 : decode b_MD_saves 16 = .ok (.aload_n 0, 1) := by decide +kernel
theorem d_MD_saves_17 : decode b_MD_saves 17 = .ok (.getfield 58, 3) := by decide +kernel
theorem d_MD_saves_20 : decode b_MD_saves 20 = .ok (.iload_n 1, 1) := by decide +kernel
theorem d_MD_saves_21 : decode b_MD_saves 21 = .ok (.baload, 1) := by decide +kernel
theorem d_MD_saves_22 : decode b_MD_saves 22 = .ok (.ifCond .eq 7, 3) := by decide +kernel
theorem d_MD_saves_25 : decode b_MD_saves 25 = .ok (.iconst 1, 1) := by decide +kernel
theorem d_MD_saves_26 : decode b_MD_saves 26 = .ok (.goto 4, 3) := by decide +kernel
theorem d_MD_saves_29 : decode b_MD_saves 29 = .ok (.iconst 0, 1) := by decide +kernel
theorem d_MD_saves_30 : decode b_MD_saves 30 = .ok (.ireturn, 1) := by decide +kernel
theorem d_MD_label_0 : decode b_MD_label 0 = .ok (.iload_n 1, 1) := by decide +kernel
theorem d_MD_label_1 : decode b_MD_label 1 = .ok (.ifCond .lt 20, 3) := by decide +kernel
theorem d_MD_label_4 : decode b_MD_label 4 = .ok (.iload_n 1, 1) := by decide +kernel
theorem d_MD_label_5 : decode b_MD_label 5 = .ok (.aload_n 0, 1) := by decide +kernel
theorem d_MD_label_6 : decode b_MD_label 6 = .ok (.getfield 115, 3) := by decide +kernel
theorem d_MD_label_9 : decode b_MD_label 9 = .ok (.if_icmp .ge 12, 3) := by decide +kernel
theorem d_MD_label_12 : decode b_MD_label 12 = .ok (.aload_n 0, 1) := by decide +kernel
theorem d_MD_label_13 : decode b_MD_label 13 = .ok (.getfield 51, 3) := by decide +kernel
theorem d_MD_label_16 : decode b_MD_label 16 = .ok (.iload_n 1, 1) := by decide +kernel
theorem d_MD_label_17 : decode b_MD_label 17 = .ok (.iaload, 1) := by decide +kernel
theorem d_MD_label_18 : decode b_MD_label 18 = .ok (.goto 4, 3) := by decide +kernel
theorem d_MD_label_21 : decode b_MD_label 21 = .ok (.iconst (-1), 1) := by decide +kernel
theorem d_MD_label_22 : decode b_MD_label 22 = .ok (.ireturn, 1) := by decide +kernel
theorem d_MD_packed_0 : decode b_MD_packed 0 = .ok (.iload_n 1, 1) := by decide +kernel
theorem d_MD_packed_1 : decode b_MD_packed 1 = .ok (.ifCond .ne 10, 3) := by decide +kernel
theorem d_MD_packed_4 : decode b_MD_packed 4 = .ok (.aload_n 0, 1) := by decide +kernel
theorem d_MD_packed_5 : decode b_MD_packed 5 = .ok (.getfield 115, 3) := by decide +kernel
theorem d_MD_packed_8 : decode b_MD_packed 8 = .ok (.goto 28, 3) := by decide +kernel
theorem d_MD_packed_11 : decode b_MD_packed 11 = .ok (.iload_n 1, 1) := by decide +kernel
theorem d_MD_packed_12 : decode b_MD_packed 12 = .ok (.iconst 1, 1) := by decide +kernel
theorem d_MD_packed_13 : decode b_MD_packed 13 = .ok (.if_icmp .ne 10, 3) := by decide +kernel
theorem d_MD_packed_16 : decode b_MD_packed 16 = .ok (.aload_n 0, 1) := by decide +kernel
theorem d_MD_packed_17 : decode b_MD_packed 17 = .ok (.getfield 118, 3) := by decide +kernel
theorem d_MD_packed_20 : decode b_MD_packed 20 = .ok (.goto 16, 3) := by decide +kernel
theorem d_MD_packed_23 : decode b_MD_packed 23 = .ok (.iload_n 1, 1) := by decide +kernel
theorem d_MD_packed_24 : decode b_MD_packed 24 = .ok (.iconst 2, 1) := by decide +kernel
theorem d_MD_packed_25 : decode b_MD_packed 25 = .ok (.if_icmp .ne 10, 3) := by decide +kernel
theorem d_MD_packed_28 : decode b_MD_packed 28 = .ok (.aload_n 0, 1) := by decide +kernel
theorem d_MD_packed_29 : decode b_MD_packed 29 = .ok (.getfield 121, 3) := by decide +kernel
theorem d_MD_packed_32 : decode b_MD_packed 32 = .ok (.goto 4, 3) := by decide +kernel
theorem d_MD_packed_35 : decode b_MD_packed 35 = .ok (.iconst (-1), 1) := by decide +kernel
theorem d_MD_packed_36 : decode b_MD_packed 36 = .ok (.ireturn, 1) := by decide +kernel
theorem d_MD_letter_0 : decode b_MD_letter 0 = .ok (.iload_n 1, 1) := by decide +kernel
theorem d_MD_letter_1 : decode b_MD_letter 1 = .ok (.ifCond .lt 20, 3) := by decide +kernel
theorem d_MD_letter_4 : decode b_MD_letter 4 = .ok (.iload_n 1, 1) := by decide +kernel
theorem d_MD_letter_5 : decode b_MD_letter 5 = .ok (.aload_n 0, 1) := by decide +kernel
theorem d_MD_letter_6 : decode b_MD_letter 6 = .ok (.getfield 118, 3) := by decide +kernel
theorem d_MD_letter_9 : decode b_MD_letter 9 = .ok (.if_icmp .ge 12, 3) := by decide +kernel
theorem d_MD_letter_12 : decode b_MD_letter 12 = .ok (.aload_n 0, 1) := by decide +kernel
theorem d_MD_letter_13 : decode b_MD_letter 13 = .ok (.getfield 55, 3) := by decide +kernel
theorem d_MD_letter_16 : decode b_MD_letter 16 = .ok (.iload_n 1, 1) := by decide +kernel
theorem d_MD_letter_17 : decode b_MD_letter 17 = .ok (.iaload, 1) := by decide +kernel
theorem d_MD_letter_18 : decode b_MD_letter 18 = .ok (.goto 4, 3) := by decide +kernel
theorem d_MD_letter_21 : decode b_MD_letter 21 = .ok (.iconst (-1), 1) := by decide +kernel
theorem d_MD_letter_22 : decode b_MD_letter 22 = .ok (.ireturn, 1) := by decide +kernel
theorem d_MD_size_0 : decode b_MD_size 0 = .ok (.aload_n 0, 1) := by decide +kernel
theorem d_MD_size_1 : decode b_MD_size 1 = .ok (.iload_n 1, 1) := by decide +kernel
theorem d_MD_size_2 : decode b_MD_size 2 = .ok (.invokevirtual 109, 3) := by decide +kernel
theorem d_MD_size_5 : decode b_MD_size 5 = .ok (.ifCond .ne 9, 3) := by decide +kernel
theorem d_MD_size_8 : decode b_MD_size 8 = .ok (.ldc2_w 150, 3) := by decide +kernel
theorem d_MD_size_11 : decode b_MD_size 11 = .ok (.goto 28, 3) := by decide +kernel
theorem d_MD_size_14 : decode b_MD_size 14 = .ok (.aload_n 0, 1) := by decide +kernel
theorem d_MD_size_15 : decode b_MD_size 15 = .ok (.getfield 25, 3) := by decide +kernel
theorem d_MD_size_18 : decode b_MD_size 18 = .ok (.iload_n 1, 1) := by decide +kernel
theorem d_MD_size_19 : decode b_MD_size 19 = .ok (.laload, 1) := by decide +kernel
theorem d_MD_size_20 : decode b_MD_size 20 = .ok (.ldc2_w 86, 3) := by decide +kernel
theorem d_MD_size_23 : decode b_MD_size 23 = .ok (.lcmp, 1) := by decide +kernel
theorem d_MD_size_24 : decode b_MD_size 24 = .ok (.ifCond .le 9, 3) := by decide +kernel
theorem d_MD_size_27 : decode b_MD_size 27 = .ok (.ldc2_w 152, 3) := by decide +kernel
theorem d_MD_size_30 : decode b_MD_size 30 = .ok (.goto 9, 3) := by decide +kernel
theorem d_MD_size_33 : decode b_MD_size 33 = .ok (.aload_n 0, 1) := by decide +kernel
theorem d_MD_size_34 : decode b_MD_size 34 = .ok (.getfield 25, 3) := by decide +kernel
theorem d_MD_size_37 : decode b_MD_size 37 = .ok (.iload_n 1, 1) := by decide +kernel
theorem d_MD_size_38 : decode b_MD_size 38 = .ok (.laload, 1) := by decide +kernel
theorem d_MD_size_39 : decode b_MD_size 39 = .ok (.lreturn, 1) := by decide +kernel
theorem d_MD_full_0 : decode b_MD_full 0 = .ok (.aload_n 0, 1) := by decide +kernel
theorem d_MD_full_1 : decode b_MD_full 1 = .ok (.iload_n 1, 1) := by decide +kernel
theorem d_MD_full_2 : decode b_MD_full 2 = .ok (.invokevirtual 109, 3) := by decide +kernel
theorem d_MD_full_5 : decode b_MD_full 5 = .ok (.ifCond .eq 32, 3) := by decide +kernel
theorem d_MD_full_8 : decode b_MD_full 8 = .ok (.aload_n 0, 1) := by decide +kernel
theorem d_MD_full_9 : decode b_MD_full 9 = .ok (.getfield 25, 3) := by decide +kernel
theorem d_MD_full_12 : decode b_MD_full 12 = .ok (.iload_n 1, 1) := by decide +kernel
theorem d_MD_full_13 : decode b_MD_full 13 = .ok (.laload, 1) := by decide +kernel
theorem d_MD_full_14 : decode b_MD_full 14 = .ok (.ldc2_w 154, 3) := by decide +kernel
theorem d_MD_full_17 : decode b_MD_full 17 = .ok (.lcmp, 1) := by decide +kernel
theorem d_MD_full_18 : decode b_MD_full 18 = .ok (.ifCond .gt 19, 3) := by decide +kernel
theorem d_MD_full_21 : decode b_MD_full 21 = .ok (.iload_n 2, 1) := by decide +kernel
theorem d_MD_full_22 : decode b_MD_full 22 = .ok (.ifCond .lt 15, 3) := by decide +kernel
theorem d_MD_full_25 : decode b_MD_full 25 = .ok (.iload_n 2, 1) := by decide +kernel
theorem d_MD_full_26 : decode b_MD_full 26 = .ok (.i2l, 1) := by decide +kernel
theorem d_MD_full_27 : decode b_MD_full 27 = .ok (.aload_n 0, 1) := by decide +kernel
theorem d_MD_full_28 : decode b_MD_full 28 = .ok (.getfield 25, 3) := by decide +kernel
theorem d_MD_full_31 : decode b_MD_full 31 = .ok (.iload_n 1, 1) := by decide +kernel
theorem d_MD_full_32 : decode b_MD_full 32 = .ok (.laload, 1) := by decide +kernel
theorem d_MD_full_33 : decode b_MD_full 33 = .ok (.lcmp, 1) := by decide +kernel
theorem d_MD_full_34 : decode b_MD_full 34 = .ok (.ifCond .lt 5, 3) := by decide +kernel
theorem d_MD_full_37 : decode b_MD_full 37 = .ok (.iconst (-1), 1) := by decide +kernel
theorem d_MD_full_38 : decode b_MD_full 38 = .ok (.ireturn, 1) := by decide +kernel
theorem d_MD_full_39 : decode b_MD_full 39 = .ok (.iload_n 1, 1) := by decide +kernel
theorem d_MD_full_40 : decode b_MD_full 40 = .ok (.istore_n 3, 1) := by decide +kernel
theorem d_MD_full_41 : decode b_MD_full 41 = .ok (.iload_n 2, 1) := by decide +kernel
theorem d_MD_full_42 : decode b_MD_full 42 = .ok (.i2l, 1) := by decide +kernel
theorem d_MD_full_43 : decode b_MD_full 43 = .ok (.lstore 4, 2) := by decide +kernel
theorem d_MD_full_45 : decode b_MD_full 45 = .ok (.lload 4, 2) := by decide +kernel
theorem d_MD_full_47 : decode b_MD_full 47 = .ok (.aload_n 0, 1) := by decide +kernel
theorem d_MD_full_48 : decode b_MD_full 48 = .ok (.getfield 25, 3) := by decide +kernel
theorem d_MD_full_51 : decode b_MD_full 51 = .ok (.iload_n 3, 1) := by decide +kernel
theorem d_MD_full_52 : decode b_MD_full 52 = .ok (.laload, 1) := by decide +kernel
theorem d_MD_full_53 : decode b_MD_full 53 = .ok (.lconst 1, 1) := by decide +kernel
theorem d_MD_full_54 : decode b_MD_full 54 = .ok (.lsub, 1) := by decide +kernel
theorem d_MD_full_55 : decode b_MD_full 55 = .ok (.lcmp, 1) := by decide +kernel
theorem d_MD_full_56 : decode b_MD_full 56 = .ok (.ifCond .ge 63, 3) := by decide +kernel
theorem d_MD_full_59 : decode b_MD_full 59 = .ok (.aload_n 0, 1) := by decide +kernel
theorem d_MD_full_60 : decode b_MD_full 60 = .ok (.getfield 19, 3) := by decide +kernel
theorem d_MD_full_63 : decode b_MD_full 63 = .ok (.iload_n 3, 1) := by decide +kernel
theorem d_MD_full_64 : decode b_MD_full 64 = .ok (.iaload, 1) := by decide +kernel
theorem d_MD_full_65 : decode b_MD_full 65 = .ok (.istore 6, 2) := by decide +kernel
theorem d_MD_full_67 : decode b_MD_full 67 = .ok (.lload 4, 2) := by decide +kernel
theorem d_MD_full_69 : decode b_MD_full 69 = .ok (.aload_n 0, 1) := by decide +kernel
theorem d_MD_full_70 : decode b_MD_full 70 = .ok (.getfield 25, 3) := by decide +kernel
theorem d_MD_full_73 : decode b_MD_full 73 = .ok (.aload_n 0, 1) := by decide +kernel
theorem d_MD_full_74 : decode b_MD_full 74 = .ok (.getfield 29, 3) := by decide +kernel
theorem d_MD_full_77 : decode b_MD_full 77 = .ok (.iload 6, 2) := by decide +kernel
theorem d_MD_full_79 : decode b_MD_full 79 = .ok (.iaload, 1) := by decide +kernel
theorem d_MD_full_80 : decode b_MD_full 80 = .ok (.laload, 1) := by decide +kernel
theorem d_MD_full_81 : decode b_MD_full 81 = .ok (.lcmp, 1) := by decide +kernel
theorem d_MD_full_82 : decode b_MD_full 82 = .ok (.ifCond .lt 26, 3) := by decide +kernel
theorem d_MD_full_85 : decode b_MD_full 85 = .ok (.lload 4, 2) := by decide +kernel
theorem d_MD_full_87 : decode b_MD_full 87 = .ok (.aload_n 0, 1) := by decide +kernel
theorem d_MD_full_88 : decode b_MD_full 88 = .ok (.getfield 25, 3) := by decide +kernel
theorem d_MD_full_91 : decode b_MD_full 91 = .ok (.aload_n 0, 1) := by decide +kernel
theorem d_MD_full_92 : decode b_MD_full 92 = .ok (.getfield 29, 3) := by decide +kernel
theorem d_MD_full_95 : decode b_MD_full 95 = .ok (.iload 6, 2) := by decide +kernel
theorem d_MD_full_97 : decode b_MD_full 97 = .ok (.iaload, 1) := by decide +kernel
theorem d_MD_full_98 : decode b_MD_full 98 = .ok (.laload, 1) := by decide +kernel
theorem d_MD_full_99 : decode b_MD_full 99 = .ok (.lsub, 1) := by decide +kernel
theorem d_MD_full_100 : decode b_MD_full 100 = .ok (.lstore 4, 2) := by decide +kernel
theorem d_MD_full_102 : decode b_MD_full 102 = .ok (.iinc 6 1, 3) := by decide +kernel
theorem d_MD_full_105 : decode b_MD_full 105 = .ok (.goto (-38), 3) := by decide +kernel
theorem d_MD_full_108 : decode b_MD_full 108 = .ok (.aload_n 0, 1) := by decide +kernel
theorem d_MD_full_109 : decode b_MD_full 109 = .ok (.getfield 29, 3) := by decide +kernel
theorem d_MD_full_112 : decode b_MD_full 112 = .ok (.iload 6, 2) := by decide +kernel
theorem d_MD_full_114 : decode b_MD_full 114 = .ok (.iaload, 1) := by decide +kernel
theorem d_MD_full_115 : decode b_MD_full 115 = .ok (.istore_n 3, 1) := by decide +kernel
theorem d_MD_full_116 : decode b_MD_full 116 = .ok (.goto (-71), 3) := by decide +kernel
theorem d_MD_full_119 : decode b_MD_full 119 = .ok (.aload_n 0, 1) := by decide +kernel
theorem d_MD_full_120 : decode b_MD_full 120 = .ok (.getfield 16, 3) := by decide +kernel
theorem d_MD_full_123 : decode b_MD_full 123 = .ok (.iload_n 3, 1) := by decide +kernel
theorem d_MD_full_124 : decode b_MD_full 124 = .ok (.iaload, 1) := by decide +kernel
theorem d_MD_full_125 : decode b_MD_full 125 = .ok (.ireturn, 1) := by decide +kernel
theorem d_MD_check_0 : decode b_MD_check 0 = .ok (.iconst 1, 1) := by decide +kernel
theorem d_MD_check_1 : decode b_MD_check 1 = .ok (.ireturn, 1) := by decide +kernel
