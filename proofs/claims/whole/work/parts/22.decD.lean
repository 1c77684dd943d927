theorem d_PP_init_0 : decode b_PP_init 0 = .ok (.aload_n 0, 1) := by decide +kernel
theorem d_PP_init_1 : decode b_PP_init 1 = .ok (.invokespecial 1, 3) := by decide +kernel
theorem d_PP_init_4 : decode b_PP_init 4 = .ok (.aload_n 0, 1) := by decide +kernel
theorem d_PP_init_5 : decode b_PP_init 5 = .ok (.new 7, 3) := by decide +kernel
theorem d_PP_init_8 : decode b_PP_init 8 = .ok (.dup, 1) := by decide +kernel
theorem d_PP_init_9 : decode b_PP_init 9 = .ok (.invokespecial 9, 3) := by decide +kernel
theorem d_PP_init_12 : decode b_PP_init 12 = .ok (.putfield 10, 3) := by decide +kernel
theorem d_PP_init_15 : decode b_PP_init 15 = .ok (.aload_n 0, 1) := by decide +kernel
theorem d_PP_init_16 : decode b_PP_init 16 = .ok (.new 16, 3) := by decide +kernel
theorem d_PP_init_19 : decode b_PP_init 19 = .ok (.dup, 1) := by decide +kernel
theorem d_PP_init_20 : decode b_PP_init 20 = .ok (.invokespecial 18, 3) := by decide +kernel
theorem d_PP_init_23 : decode b_PP_init 23 = .ok (.putfield 19, 3) := by decide +kernel
theorem d_PP_init_26 : decode b_PP_init 26 = .ok (.aload_n 0, 1) := by decide +kernel
theorem d_PP_init_27 : decode b_PP_init 27 = .ok (.new 23, 3) := by decide +kernel
theorem d_PP_init_30 : decode b_PP_init 30 = .ok (.dup, 1) := by decide +kernel
theorem d_PP_init_31 : decode b_PP_init 31 = .ok (.aload_n 0, 1) := by decide +kernel
theorem d_PP_init_32 : decode b_PP_init 32 = .ok (.getfield 10, 3) := by decide +kernel
theorem d_PP_init_35 : decode b_PP_init 35 = .ok (.aload_n 0, 1) := by decide +kernel
theorem d_PP_init_36 : decode b_PP_init 36 = .ok (.getfield 19, 3) := by decide +kernel
theorem d_PP_init_39 : decode b_PP_init 39 = .ok (.invokespecial 25, 3) := by decide +kernel
theorem d_PP_init_42 : decode b_PP_init 42 = .ok (.putfield 28, 3) := by decide +kernel
theorem d_PP_init_45 : decode b_PP_init 45 = .ok (.aload_n 0, 1) := by decide +kernel
theorem d_PP_init_46 : decode b_PP_init 46 = .ok (.new 32, 3) := by decide +kernel
theorem d_PP_init_49 : decode b_PP_init 49 = .ok (.dup, 1) := by decide +kernel
theorem d_PP_init_50 : decode b_PP_init 50 = .ok (.invokespecial 34, 3) := by decide +kernel
theorem d_PP_init_53 : decode b_PP_init 53 = .ok (.putfield 35, 3) := by decide +kernel
theorem d_PP_init_56 : decode b_PP_init 56 = .ok (.aload_n 0, 1) := by decide +kernel
theorem d_PP_init_57 : decode b_PP_init 57 = .ok (.iconst 0, 1) := by decide +kernel
theorem d_PP_init_58 : decode b_PP_init 58 = .ok (.putfield 39, 3) := by decide +kernel
theorem d_PP_init_61 : decode b_PP_init 61 = .ok (.return_, 1) := by decide +kernel
theorem d_PP_statement_0 : decode b_PP_statement 0 = .ok (.iload_n 1, 1) := by decide +kernel
theorem d_PP_statement_1 : decode b_PP_statement 1 = .ok (.ifCond .lt 22, 3) := by decide +kernel
theorem d_PP_statement_4 : decode b_PP_statement 4 = .ok (.iload_n 1, 1) := by decide +kernel
theorem d_PP_statement_5 : decode b_PP_statement 5 = .ok (.bipush 60, 2) := by decide +kernel
theorem d_PP_statement_7 : decode b_PP_statement 7 = .ok (.if_icmp .gt 16, 3) := by decide +kernel
theorem d_PP_statement_10 : decode b_PP_statement 10 = .ok (.aload_n 0, 1) := by decide +kernel
theorem d_PP_statement_11 : decode b_PP_statement 11 = .ok (.getfield 10, 3) := by decide +kernel
theorem d_PP_statement_14 : decode b_PP_statement 14 = .ok (.invokevirtual 43, 3) := by decide +kernel
theorem d_PP_statement_17 : decode b_PP_statement 17 = .ok (.sipush 1500, 3) := by decide +kernel
theorem d_PP_statement_20 : decode b_PP_statement 20 = .ok (.if_icmp .lt 5, 3) := by decide +kernel
theorem d_PP_statement_23 : decode b_PP_statement 23 = .ok (.iconst (-1), 1) := by decide +kernel
theorem d_PP_statement_24 : decode b_PP_statement 24 = .ok (.ireturn, 1) := by decide +kernel
theorem d_PP_statement_25 : decode b_PP_statement 25 = .ok (.aload_n 0, 1) := by decide +kernel
theorem d_PP_statement_26 : decode b_PP_statement 26 = .ok (.getfield 10, 3) := by decide +kernel
theorem d_PP_statement_29 : decode b_PP_statement 29 = .ok (.iload_n 1, 1) := by decide +kernel
theorem d_PP_statement_30 : decode b_PP_statement 30 = .ok (.invokevirtual 47, 3) := by decide +kernel
theorem d_PP_statement_33 : decode b_PP_statement 33 = .ok (.ireturn, 1) := by decide +kernel
theorem d_PP_mandatory_0 : decode b_PP_mandatory 0 = .ok (.aload_n 0, 1) := by decide +kernel
theorem d_PP_mandatory_1 : decode b_PP_mandatory 1 = .ok (.getfield 10, 3) := by decide +kernel
theorem d_PP_mandatory_4 : decode b_PP_mandatory 4 = .ok (.iload_n 1, 1) := by decide +kernel
theorem d_PP_mandatory_5 : decode b_PP_mandatory 5 = .ok (.invokevirtual 51, 3) := by decide +kernel
theorem d_PP_mandatory_8 : decode b_PP_mandatory 8 = .ok (.ifCond .eq 14, 3) := by decide +kernel
theorem d_PP_mandatory_11 : decode b_PP_mandatory 11 = .ok (.aload_n 0, 1) := by decide +kernel
theorem d_PP_mandatory_12 : decode b_PP_mandatory 12 = .ok (.getfield 10, 3) := by decide +kernel
theorem d_PP_mandatory_15 : decode b_PP_mandatory 15 = .ok (.iload_n 1, 1) := by decide +kernel
theorem d_PP_mandatory_16 : decode b_PP_mandatory 16 = .ok (.invokevirtual 55, 3) := by decide +kernel
theorem d_PP_mandatory_19 : decode b_PP_mandatory 19 = .ok (.ifCond .eq 5, 3) := by decide +kernel
theorem d_PP_mandatory_22 : decode b_PP_mandatory 22 = .ok (.iconst (-1), 1) := by decide +kernel
theorem d_PP_mandatory_23 : decode b_PP_mandatory 23 = .ok (.ireturn, 1) := by decide +kernel
theorem d_PP_mandatory_24 : decode b_PP_mandatory 24 = .ok (.aload_n 0, 1) := by decide +kernel
theorem d_PP_mandatory_25 : decode b_PP_mandatory 25 = .ok (.getfield 10, 3) := by decide +kernel
theorem d_PP_mandatory_28 : decode b_PP_mandatory 28 = .ok (.iload_n 1, 1) := by decide +kernel
theorem d_PP_mandatory_29 : decode b_PP_mandatory 29 = .ok (.invokevirtual 58, 3) := by decide +kernel
theorem d_PP_mandatory_32 : decode b_PP_mandatory 32 = .ok (.ifCond .ne 15, 3) := by decide +kernel
theorem d_PP_mandatory_35 : decode b_PP_mandatory 35 = .ok (.aload_n 0, 1) := by decide +kernel
theorem d_PP_mandatory_36 : decode b_PP_mandatory 36 = .ok (.getfield 10, 3) := by decide +kernel
theorem d_PP_mandatory_39 : decode b_PP_mandatory 39 = .ok (.invokevirtual 61, 3) := by decide +kernel
theorem d_PP_mandatory_42 : decode b_PP_mandatory 42 = .ok (.bipush 60, 2) := by decide +kernel
theorem d_PP_mandatory_44 : decode b_PP_mandatory 44 = .ok (.if_icmp .lt 5, 3) := by decide +kernel
theorem d_PP_mandatory_47 : decode b_PP_mandatory 47 = .ok (.iconst (-1), 1) := by decide +kernel
theorem d_PP_mandatory_48 : decode b_PP_mandatory 48 = .ok (.ireturn, 1) := by decide +kernel
theorem d_PP_mandatory_49 : decode b_PP_mandatory 49 = .ok (.aload_n 0, 1) := by decide +kernel
theorem d_PP_mandatory_50 : decode b_PP_mandatory 50 = .ok (.getfield 10, 3) := by decide +kernel
theorem d_PP_mandatory_53 : decode b_PP_mandatory 53 = .ok (.iload_n 1, 1) := by decide +kernel
theorem d_PP_mandatory_54 : decode b_PP_mandatory 54 = .ok (.invokevirtual 64, 3) := by decide +kernel
theorem d_PP_mandatory_57 : decode b_PP_mandatory 57 = .ok (.ireturn, 1) := by decide +kernel
theorem d_PP_make_0 : decode b_PP_make 0 = .ok (.aload_n 0, 1) := by decide +kernel
theorem d_PP_make_1 : decode b_PP_make 1 = .ok (.getfield 10, 3) := by decide +kernel
theorem d_PP_make_4 : decode b_PP_make 4 = .ok (.iload_n 1, 1) := by decide +kernel
theorem d_PP_make_5 : decode b_PP_make 5 = .ok (.invokevirtual 51, 3) := by decide +kernel
theorem d_PP_make_8 : decode b_PP_make 8 = .ok (.ifCond .ne 5, 3) := by decide +kernel
theorem d_PP_make_11 : decode b_PP_make 11 = .ok (.iconst (-1), 1) := by decide +kernel
theorem d_PP_make_12 : decode b_PP_make 12 = .ok (.ireturn, 1) := by decide +kernel
theorem d_PP_make_13 : decode b_PP_make 13 = .ok (.aload_n 0, 1) := by decide +kernel
theorem d_PP_make_14 : decode b_PP_make 14 = .ok (.getfield 35, 3) := by decide +kernel
theorem d_PP_make_17 : decode b_PP_make 17 = .ok (.invokevirtual 67, 3) := by decide +kernel
theorem d_PP_make_20 : decode b_PP_make 20 = .ok (.aload_n 0, 1) := by decide +kernel
theorem d_PP_make_21 : decode b_PP_make 21 = .ok (.getfield 10, 3) := by decide +kernel
theorem d_PP_make_24 : decode b_PP_make 24 = .ok (.iload_n 1, 1) := by decide +kernel
theorem d_PP_make_25 : decode b_PP_make 25 = .ok (.invokevirtual 55, 3) := by decide +kernel
theorem d_PP_make_28 : decode b_PP_make 28 = .ok (.isub, 1) := by decide +kernel
theorem d_PP_make_29 : decode b_PP_make 29 = .ok (.istore_n 2, 1) := by decide +kernel
theorem d_PP_make_30 : decode b_PP_make 30 = .ok (.iload_n 2, 1) := by decide +kernel
theorem d_PP_make_31 : decode b_PP_make 31 = .ok (.ifCond .lt 24, 3) := by decide +kernel
theorem d_PP_make_34 : decode b_PP_make 34 = .ok (.aload_n 0, 1) := by decide +kernel
theorem d_PP_make_35 : decode b_PP_make 35 = .ok (.getfield 19, 3) := by decide +kernel
theorem d_PP_make_38 : decode b_PP_make 38 = .ok (.invokevirtual 70, 3) := by decide +kernel
theorem d_PP_make_41 : decode b_PP_make 41 = .ok (.sipush 4000, 3) := by decide +kernel
theorem d_PP_make_44 : decode b_PP_make 44 = .ok (.if_icmp .ge 11, 3) := by decide +kernel
theorem d_PP_make_47 : decode b_PP_make 47 = .ok (.aload_n 0, 1) := by decide +kernel
theorem d_PP_make_48 : decode b_PP_make 48 = .ok (.iload_n 2, 1) := by decide +kernel
theorem d_PP_make_49 : decode b_PP_make 49 = .ok (.invokevirtual 71, 3) := by decide +kernel
theorem d_PP_make_52 : decode b_PP_make 52 = .ok (.ifCond .ne 5, 3) := by decide +kernel
theorem d_PP_make_55 : decode b_PP_make 55 = .ok (.iconst (-1), 1) := by decide +kernel
theorem d_PP_make_56 : decode b_PP_make 56 = .ok (.ireturn, 1) := by decide +kernel
theorem d_PP_make_57 : decode b_PP_make 57 = .ok (.aload_n 0, 1) := by decide +kernel
theorem d_PP_make_58 : decode b_PP_make 58 = .ok (.getfield 19, 3) := by decide +kernel
theorem d_PP_make_61 : decode b_PP_make 61 = .ok (.iload_n 1, 1) := by decide +kernel
theorem d_PP_make_62 : decode b_PP_make 62 = .ok (.aload_n 0, 1) := by decide +kernel
theorem d_PP_make_63 : decode b_PP_make 63 = .ok (.getfield 35, 3) := by decide +kernel
theorem d_PP_make_66 : decode b_PP_make 66 = .ok (.iload_n 2, 1) := by decide +kernel
theorem d_PP_make_67 : decode b_PP_make 67 = .ok (.invokevirtual 74, 3) := by decide +kernel
theorem d_PP_make_70 : decode b_PP_make 70 = .ok (.istore_n 3, 1) := by decide +kernel
theorem d_PP_make_71 : decode b_PP_make 71 = .ok (.aload_n 0, 1) := by decide +kernel
theorem d_PP_make_72 : decode b_PP_make 72 = .ok (.getfield 35, 3) := by decide +kernel
theorem d_PP_make_75 : decode b_PP_make 75 = .ok (.iload_n 2, 1) := by decide +kernel
theorem d_PP_make_76 : decode b_PP_make 76 = .ok (.invokevirtual 77, 3) := by decide +kernel
theorem d_PP_make_79 : decode b_PP_make 79 = .ok (.aload_n 0, 1) := by decide +kernel
theorem d_PP_make_80 : decode b_PP_make 80 = .ok (.iload_n 3, 1) := by decide +kernel
theorem d_PP_make_81 : decode b_PP_make 81 = .ok (.invokevirtual 81, 3) := by decide +kernel
theorem d_PP_make_84 : decode b_PP_make 84 = .ok (.iload_n 3, 1) := by decide +kernel
theorem d_PP_make_85 : decode b_PP_make 85 = .ok (.ireturn, 1) := by decide +kernel
theorem d_PP_again_0 : decode b_PP_again 0 = .ok (.aload_n 0, 1) := by decide +kernel
theorem d_PP_again_1 : decode b_PP_again 1 = .ok (.getfield 19, 3) := by decide +kernel
theorem d_PP_again_4 : decode b_PP_again 4 = .ok (.iload_n 1, 1) := by decide +kernel
theorem d_PP_again_5 : decode b_PP_again 5 = .ok (.invokevirtual 84, 3) := by decide +kernel
theorem d_PP_again_8 : decode b_PP_again 8 = .ok (.ifCond .eq 17, 3) := by decide +kernel
theorem d_PP_again_11 : decode b_PP_again 11 = .ok (.aload_n 0, 1) := by decide +kernel
theorem d_PP_again_12 : decode b_PP_again 12 = .ok (.aload_n 0, 1) := by decide +kernel
theorem d_PP_again_13 : decode b_PP_again 13 = .ok (.getfield 35, 3) := by decide +kernel
theorem d_PP_again_16 : decode b_PP_again 16 = .ok (.invokevirtual 67, 3) := by decide +kernel
theorem d_PP_again_19 : decode b_PP_again 19 = .ok (.invokevirtual 71, 3) := by decide +kernel
theorem d_PP_again_22 : decode b_PP_again 22 = .ok (.ifCond .ne 5, 3) := by decide +kernel
theorem d_PP_again_25 : decode b_PP_again 25 = .ok (.iconst (-1), 1) := by decide +kernel
theorem d_PP_again_26 : decode b_PP_again 26 = .ok (.ireturn, 1) := by decide +kernel
theorem d_PP_again_27 : decode b_PP_again 27 = .ok (.aload_n 0, 1) := by decide +kernel
theorem d_PP_again_28 : decode b_PP_again 28 = .ok (.iload_n 1, 1) := by decide +kernel
theorem d_PP_again_29 : decode b_PP_again 29 = .ok (.invokevirtual 81, 3) := by decide +kernel
theorem d_PP_again_32 : decode b_PP_again 32 = .ok (.aload_n 0, 1) := by decide +kernel
theorem d_PP_again_33 : decode b_PP_again 33 = .ok (.getfield 35, 3) := by decide +kernel
theorem d_PP_again_36 : decode b_PP_again 36 = .ok (.invokevirtual 67, 3) := by decide +kernel
theorem d_PP_again_39 : decode b_PP_again 39 = .ok (.ireturn, 1) := by decide +kernel
theorem d_PP_clear_0 : decode b_PP_clear 0 = .ok (.aload_n 0, 1) := by decide +kernel
theorem d_PP_clear_1 : decode b_PP_clear 1 = .ok (.getfield 19, 3) := by decide +kernel
theorem d_PP_clear_4 : decode b_PP_clear 4 = .ok (.invokevirtual 70, 3) := by decide +kernel
theorem d_PP_clear_7 : decode b_PP_clear 7 = .ok (.istore_n 1, 1) := by decide +kernel
theorem d_PP_clear_8 : decode b_PP_clear 8 = .ok (.aload_n 0, 1) := by decide +kernel
theorem d_PP_clear_9 : decode b_PP_clear 9 = .ok (.getfield 19, 3) := by decide +kernel
theorem d_PP_clear_12 : decode b_PP_clear 12 = .ok (.invokevirtual 85, 3) := by decide +kernel
theorem d_PP_clear_15 : decode b_PP_clear 15 = .ok (.aload_n 0, 1) := by decide +kernel
theorem d_PP_clear_16 : decode b_PP_clear 16 = .ok (.getfield 28, 3) := by decide +kernel
theorem d_PP_clear_19 : decode b_PP_clear 19 = .ok (.invokevirtual 88, 3) := by decide +kernel
theorem d_PP_clear_22 : decode b_PP_clear 22 = .ok (.aload_n 0, 1) := by decide +kernel
theorem d_PP_clear_23 : decode b_PP_clear 23 = .ok (.getfield 35, 3) := by decide +kernel
theorem d_PP_clear_26 : decode b_PP_clear 26 = .ok (.iconst 0, 1) := by decide +kernel
theorem d_PP_clear_27 : decode b_PP_clear 27 = .ok (.invokevirtual 77, 3) := by decide +kernel
theorem d_PP_clear_30 : decode b_PP_clear 30 = .ok (.aload_n 0, 1) := by decide +kernel
theorem d_PP_clear_31 : decode b_PP_clear 31 = .ok (.iconst 0, 1) := by decide +kernel
theorem d_PP_clear_32 : decode b_PP_clear 32 = .ok (.putfield 39, 3) := by decide +kernel
theorem d_PP_clear_35 : decode b_PP_clear 35 = .ok (.iload_n 1, 1) := by decide +kernel
theorem d_PP_clear_36 : decode b_PP_clear 36 = .ok (.ireturn, 1) := by decide +kernel
theorem d_PP_count_0 : decode b_PP_count 0 = .ok (.iload_n 1, 1) := by decide +kernel
theorem d_PP_count_1 : decode b_PP_count 1 = .ok (.tableswitch 84 0 5 #[39, 47, 55, 63, 71, 76], 39) := by decide +kernel
theorem d_PP_count_40 : decode b_PP_count 40 = .ok (.aload_n 0, 1) := by decide +kernel
theorem d_PP_count_41 : decode b_PP_count 41 = .ok (.getfield 10, 3) := by decide +kernel
theorem d_PP_count_44 : decode b_PP_count 44 = .ok (.invokevirtual 43, 3) := by decide +kernel
theorem d_PP_count_47 : decode b_PP_count 47 = .ok (.ireturn, 1) := by decide +kernel
theorem d_PP_count_48 : decode b_PP_count 48 = .ok (.aload_n 0, 1) := by decide +kernel
theorem d_PP_count_49 : decode b_PP_count 49 = .ok (.getfield 10, 3) := by decide +kernel
theorem d_PP_count_52 : decode b_PP_count 52 = .ok (.invokevirtual 61, 3) := by decide +kernel
theorem d_PP_count_55 : decode b_PP_count 55 = .ok (.ireturn, 1) := by decide +kernel
theorem d_PP_count_56 : decode b_PP_count 56 = .ok (.aload_n 0, 1) := by decide +kernel
theorem d_PP_count_57 : decode b_PP_count 57 = .ok (.getfield 19, 3) := by decide +kernel
theorem d_PP_count_60 : decode b_PP_count 60 = .ok (.invokevirtual 70, 3) := by decide +kernel
theorem d_PP_count_63 : decode b_PP_count 63 = .ok (.ireturn, 1) := by decide +kernel
theorem d_PP_count_64 : decode b_PP_count 64 = .ok (.aload_n 0, 1) := by decide +kernel
theorem d_PP_count_65 : decode b_PP_count 65 = .ok (.getfield 35, 3) := by decide +kernel
theorem d_PP_count_68 : decode b_PP_count 68 = .ok (.invokevirtual 67, 3) := by decide +kernel
theorem d_PP_count_71 : decode b_PP_count 71 = .ok (.ireturn, 1) := by decide +kernel
theorem d_PP_count_72 : decode b_PP_count 72 = .ok (.aload_n 0, 1) := by decide +kernel
theorem d_PP_count_73 : decode b_PP_count 73 = .ok (.getfield 39, 3) := by decide +kernel
theorem d_PP_count_76 : decode b_PP_count 76 = .ok (.ireturn, 1) := by decide +kernel
theorem d_PP_count_77 : decode b_PP_count 77 = .ok (.aload_n 0, 1) := by decide +kernel
theorem d_PP_count_78 : decode b_PP_count 78 = .ok (.getfield 19, 3) := by decide +kernel
theorem d_PP_count_81 : decode b_PP_count 81 = .ok (.invokevirtual 89, 3) := by decide +kernel
theorem d_PP_count_84 : decode b_PP_count 84 = .ok (.ireturn, 1) := by decide +kernel
theorem d_PP_count_85 : decode b_PP_count 85 = .ok (.iconst (-1), 1) := by decide +kernel
theorem d_PP_count_86 : decode b_PP_count 86 = .ok (.ireturn, 1) := by decide +kernel
theorem d_PP_row_0 : decode b_PP_row 0 = .ok (.aload_n 0, 1) := by decide +kernel
theorem d_PP_row_1 : decode b_PP_row 1 = .ok (.getfield 19, 3) := by decide +kernel
theorem d_PP_row_4 : decode b_PP_row 4 = .ok (.iload_n 1, 1) := by decide +kernel
theorem d_PP_row_5 : decode b_PP_row 5 = .ok (.invokevirtual 92, 3) := by decide +kernel
theorem d_PP_row_8 : decode b_PP_row 8 = .ok (.ireturn, 1) := by decide +kernel
theorem d_PP_frm_0 : decode b_PP_frm 0 = .ok (.aload_n 0, 1) := by decide +kernel
theorem d_PP_frm_1 : decode b_PP_frm 1 = .ok (.getfield 19, 3) := by decide +kernel
theorem d_PP_frm_4 : decode b_PP_frm 4 = .ok (.iload_n 1, 1) := by decide +kernel
theorem d_PP_frm_5 : decode b_PP_frm 5 = .ok (.iload_n 2, 1) := by decide +kernel
theorem d_PP_frm_6 : decode b_PP_frm 6 = .ok (.invokevirtual 95, 3) := by decide +kernel
theorem d_PP_frm_9 : decode b_PP_frm 9 = .ok (.ireturn, 1) := by decide +kernel
theorem d_PP_same_0 : decode b_PP_same 0 = .ok (.aload_n 0, 1) := by decide +kernel
theorem d_PP_same_1 : decode b_PP_same 1 = .ok (.getfield 19, 3) := by decide +kernel
theorem d_PP_same_4 : decode b_PP_same 4 = .ok (.iload_n 1, 1) := by decide +kernel
theorem d_PP_same_5 : decode b_PP_same 5 = .ok (.invokevirtual 84, 3) := by decide +kernel
theorem d_PP_same_8 : decode b_PP_same 8 = .ok (.ifCond .eq 14, 3) := by decide +kernel
theorem d_PP_same_11 : decode b_PP_same 11 = .ok (.aload_n 0, 1) := by decide +kernel
theorem d_PP_same_12 : decode b_PP_same 12 = .ok (.getfield 19, 3) := by decide +kernel
theorem d_PP_same_15 : decode b_PP_same 15 = .ok (.iload_n 2, 1) := by decide +kernel
theorem d_PP_same_16 : decode b_PP_same 16 = .ok (.invokevirtual 84, 3) := by decide +kernel
theorem d_PP_same_19 : decode b_PP_same 19 = .ok (.ifCond .ne 5, 3) := by decide +kernel
theorem d_PP_same_22 : decode b_PP_same 22 = .ok (.iconst (-1), 1) := by decide +kernel
theorem d_PP_same_23 : decode b_PP_same 23 = .ok (.ireturn, 1) := by decide +kernel
theorem d_PP_same_24 : decode b_PP_same 24 = .ok (.aload_n 0, 1) := by decide +kernel
theorem d_PP_same_25 : decode b_PP_same 25 = .ok (.getfield 19, 3) := by decide +kernel
theorem d_PP_same_28 : decode b_PP_same 28 = .ok (.iload_n 1, 1) := by decide +kernel
theorem d_PP_same_29 : decode b_PP_same 29 = .ok (.invokevirtual 99, 3) := by decide +kernel
theorem d_PP_same_32 : decode b_PP_same 32 = .ok (.aload_n 0, 1) := by decide +kernel
theorem d_PP_same_33 : decode b_PP_same 33 = .ok (.getfield 19, 3) := by decide +kernel
theorem d_PP_same_36 : decode b_PP_same 36 = .ok (.iload_n 2, 1) := by decide +kernel
theorem d_PP_same_37 : decode b_PP_same 37 = .ok (.invokevirtual 99, 3) := by decide +kernel
theorem d_PP_same_40 : decode b_PP_same 40 = .ok (.if_icmp .ne 7, 3) := by decide +kernel
theorem d_PP_same_43 : decode b_PP_same 43 = .ok (.iconst 1, 1) := by decide +kernel
theorem d_PP_same_44 : decode b_PP_same 44 = .ok (.goto 4, 3) := by decide +kernel
theorem d_PP_same_47 : decode b_PP_same 47 = .ok (.iconst 0, 1) := by decide +kernel
theorem d_PP_same_48 : decode b_PP_same 48 = .ok (.ireturn, 1) := by decide +kernel
theorem d_PP_pack_0 : decode b_PP_pack 0 = .ok (.aload_n 0, 1) := by decide +kernel
theorem d_PP_pack_1 : decode b_PP_pack 1 = .ok (.getfield 35, 3) := by decide +kernel
theorem d_PP_pack_4 : decode b_PP_pack 4 = .ok (.invokevirtual 67, 3) := by decide +kernel
theorem d_PP_pack_7 : decode b_PP_pack 7 = .ok (.iconst 1, 1) := by decide +kernel
theorem d_PP_pack_8 : decode b_PP_pack 8 = .ok (.if_icmp .eq 5, 3) := by decide +kernel
theorem d_PP_pack_11 : decode b_PP_pack 11 = .ok (.iconst (-1), 1) := by decide +kernel
theorem d_PP_pack_12 : decode b_PP_pack 12 = .ok (.ireturn, 1) := by decide +kernel
theorem d_PP_pack_13 : decode b_PP_pack 13 = .ok (.aload_n 0, 1) := by decide +kernel
theorem d_PP_pack_14 : decode b_PP_pack 14 = .ok (.getfield 28, 3) := by decide +kernel
theorem d_PP_pack_17 : decode b_PP_pack 17 = .ok (.aload_n 0, 1) := by decide +kernel
theorem d_PP_pack_18 : decode b_PP_pack 18 = .ok (.getfield 35, 3) := by decide +kernel
theorem d_PP_pack_21 : decode b_PP_pack 21 = .ok (.iconst 0, 1) := by decide +kernel
theorem d_PP_pack_22 : decode b_PP_pack 22 = .ok (.invokevirtual 102, 3) := by decide +kernel
theorem d_PP_pack_25 : decode b_PP_pack 25 = .ok (.invokevirtual 105, 3) := by decide +kernel
theorem d_PP_pack_28 : decode b_PP_pack 28 = .ok (.aload_n 0, 1) := by decide +kernel
theorem d_PP_pack_29 : decode b_PP_pack 29 = .ok (.getfield 28, 3) := by decide +kernel
theorem d_PP_pack_32 : decode b_PP_pack 32 = .ok (.invokevirtual 108, 3) := by decide +kernel
theorem d_PP_pack_35 : decode b_PP_pack 35 = .ok (.ireturn, 1) := by decide +kernel
theorem d_PP_step_0 : decode b_PP_step 0 = .ok (.aload_n 0, 1) := by decide +kernel
theorem d_PP_step_1 : decode b_PP_step 1 = .ok (.getfield 28, 3) := by decide +kernel
theorem d_PP_step_4 : decode b_PP_step 4 = .ok (.iload_n 1, 1) := by decide +kernel
theorem d_PP_step_5 : decode b_PP_step 5 = .ok (.invokevirtual 111, 3) := by decide +kernel
theorem d_PP_step_8 : decode b_PP_step 8 = .ok (.ireturn, 1) := by decide +kernel
theorem d_PP_saves_0 : decode b_PP_saves 0 = .ok (.iload_n 1, 1) := by decide +kernel
theorem d_PP_saves_1 : decode b_PP_saves 1 = .ok (.ifCond .lt 14, 3) := by decide +kernel
theorem d_PP_saves_4 : decode b_PP_saves 4 = .ok (.iload_n 1, 1) := by decide +kernel
theorem d_PP_saves_5 : decode b_PP_saves 5 = .ok (.aload_n 0, 1) := by decide +kernel
theorem d_PP_saves_6 : decode b_PP_saves 6 = .ok (.getfield 28, 3) := by decide +kernel
theorem d_PP_saves_9 : decode b_PP_saves 9 = .ok (.invokevirtual 108, 3) := by decide +kernel
theorem d_PP_saves_12 : decode b_PP_saves 12 = .ok (.if_icmp .lt 5, 3) := by decide +kernel
theorem d_PP_saves_15 : decode b_PP_saves 15 = .ok (.iconst (-1), 1) := by decide +kernel
theorem d_PP_saves_16 : decode b_PP_saves 16 = .ok (.ireturn, 1) := by decide +kernel
theorem d_PP_saves_17 : decode b_PP_saves 17 = .ok (.aload_n 0, 1) := by decide +kernel
theorem d_PP_saves_18 : decode b_PP_saves 18 = .ok (.getfield 28, 3) := by decide +kernel
theorem d_PP_saves_21 : decode b_PP_saves 21 = .ok (.iload_n 1, 1) := by decide +kernel
theorem d_PP_saves_22 : decode b_PP_saves 22 = .ok (.invokevirtual 114, 3) := by decide +kernel
theorem d_PP_saves_25 : decode b_PP_saves 25 = .ok (.ifCond .eq 7, 3) := by decide +kernel
theorem d_PP_saves_28 : decode b_PP_saves 28 = .ok (.iconst 1, 1) := by decide +kernel
theorem d_PP_saves_29 : decode b_PP_saves 29 = .ok (.goto 4, 3) := by decide +kernel
theorem d_PP_saves_32 : decode b_PP_saves 32 = .ok (.iconst 0, 1) := by decide +kernel
theorem d_PP_saves_33 : decode b_PP_saves 33 = .ok (.ireturn, 1) := by decide +kernel
theorem d_PP_label_0 : decode b_PP_label 0 = .ok (.aload_n 0, 1) := by decide +kernel
theorem d_PP_label_1 : decode b_PP_label 1 = .ok (.getfield 28, 3) := by decide +kernel
theorem d_PP_label_4 : decode b_PP_label 4 = .ok (.iload_n 1, 1) := by decide +kernel
theorem d_PP_label_5 : decode b_PP_label 5 = .ok (.invokevirtual 117, 3) := by decide +kernel
theorem d_PP_label_8 : decode b_PP_label 8 = .ok (.ireturn, 1) := by decide +kernel
theorem d_PP_packed_0 : decode b_PP_packed 0 = .ok (.iload_n 1, 1) := by decide +kernel
theorem d_PP_packed_1 : decode b_PP_packed 1 = .ok (.tableswitch 51 0 2 #[27, 35, 43], 27) := by decide +kernel
theorem d_PP_packed_28 : decode b_PP_packed 28 = .ok (.aload_n 0, 1) := by decide +kernel
theorem d_PP_packed_29 : decode b_PP_packed 29 = .ok (.getfield 28, 3) := by decide +kernel
theorem d_PP_packed_32 : decode b_PP_packed 32 = .ok (.invokevirtual 120, 3) := by decide +kernel
theorem d_PP_packed_35 : decode b_PP_packed 35 = .ok (.ireturn, 1) := by decide +kernel
theorem d_PP_packed_36 : decode b_PP_packed 36 = .ok (.aload_n 0, 1) := by decide +kernel
theorem d_PP_packed_37 : decode b_PP_packed 37 = .ok (.getfield 28, 3) := by decide +kernel
theorem d_PP_packed_40 : decode b_PP_packed 40 = .ok (.invokevirtual 123, 3) := by decide +kernel
theorem d_PP_packed_43 : decode b_PP_packed 43 = .ok (.ireturn, 1) := by decide +kernel
theorem d_PP_packed_44 : decode b_PP_packed 44 = .ok (.aload_n 0, 1) := by decide +kernel
theorem d_PP_packed_45 : decode b_PP_packed 45 = .ok (.getfield 28, 3) := by decide +kernel
theorem d_PP_packed_48 : decode b_PP_packed 48 = .ok (.invokevirtual 126, 3) := by decide +kernel
theorem d_PP_packed_51 : decode b_PP_packed 51 = .ok (.ireturn, 1) := by decide +kernel
theorem d_PP_packed_52 : decode b_PP_packed 52 = .ok (.iconst (-1), 1) := by decide +kernel
theorem d_PP_packed_53 : decode b_PP_packed 53 = .ok (.ireturn, 1) := by decide +kernel
theorem d_PP_letter_0 : decode b_PP_letter 0 = .ok (.aload_n 0, 1) := by decide +kernel
theorem d_PP_letter_1 : decode b_PP_letter 1 = .ok (.getfield 28, 3) := by decide +kernel
theorem d_PP_letter_4 : decode b_PP_letter 4 = .ok (.iload_n 1, 1) := by decide +kernel
theorem d_PP_letter_5 : decode b_PP_letter 5 = .ok (.invokevirtual 129, 3) := by decide +kernel
theorem d_PP_letter_8 : decode b_PP_letter 8 = .ok (.ireturn, 1) := by decide +kernel
theorem d_PP_size_0 : decode b_PP_size 0 = .ok (.aload_n 0, 1) := by decide +kernel
theorem d_PP_size_1 : decode b_PP_size 1 = .ok (.getfield 19, 3) := by decide +kernel
theorem d_PP_size_4 : decode b_PP_size 4 = .ok (.iload_n 1, 1) := by decide +kernel
theorem d_PP_size_5 : decode b_PP_size 5 = .ok (.invokevirtual 84, 3) := by decide +kernel
theorem d_PP_size_8 : decode b_PP_size 8 = .ok (.ifCond .ne 7, 3) := by decide +kernel
theorem d_PP_size_11 : decode b_PP_size 11 = .ok (.ldc2_w 132, 3) := by decide +kernel
theorem d_PP_size_14 : decode b_PP_size 14 = .ok (.lreturn, 1) := by decide +kernel
theorem d_PP_size_15 : decode b_PP_size 15 = .ok (.aload_n 0, 1) := by decide +kernel
theorem d_PP_size_16 : decode b_PP_size 16 = .ok (.getfield 19, 3) := by decide +kernel
theorem d_PP_size_19 : decode b_PP_size 19 = .ok (.iload_n 1, 1) := by decide +kernel
theorem d_PP_size_20 : decode b_PP_size 20 = .ok (.invokevirtual 134, 3) := by decide +kernel
theorem d_PP_size_23 : decode b_PP_size 23 = .ok (.lstore_n 2, 1) := by decide +kernel
theorem d_PP_size_24 : decode b_PP_size 24 = .ok (.lload_n 2, 1) := by decide +kernel
theorem d_PP_size_25 : decode b_PP_size 25 = .ok (.ldc2_w 138, 3) := by decide +kernel
theorem d_PP_size_28 : decode b_PP_size 28 = .ok (.lcmp, 1) := by decide +kernel
theorem d_PP_size_29 : decode b_PP_size 29 = .ok (.ifCond .le 9, 3) := by decide +kernel
theorem d_PP_size_32 : decode b_PP_size 32 = .ok (.ldc2_w 140, 3) := by decide +kernel
theorem d_PP_size_35 : decode b_PP_size 35 = .ok (.goto 4, 3) := by decide +kernel
theorem d_PP_size_38 : decode b_PP_size 38 = .ok (.lload_n 2, 1) := by decide +kernel
theorem d_PP_size_39 : decode b_PP_size 39 = .ok (.lreturn, 1) := by decide +kernel
theorem d_PP_full_0 : decode b_PP_full 0 = .ok (.aload_n 0, 1) := by decide +kernel
theorem d_PP_full_1 : decode b_PP_full 1 = .ok (.getfield 19, 3) := by decide +kernel
theorem d_PP_full_4 : decode b_PP_full 4 = .ok (.iload_n 1, 1) := by decide +kernel
theorem d_PP_full_5 : decode b_PP_full 5 = .ok (.invokevirtual 134, 3) := by decide +kernel
theorem d_PP_full_8 : decode b_PP_full 8 = .ok (.lstore_n 3, 1) := by decide +kernel
theorem d_PP_full_9 : decode b_PP_full 9 = .ok (.lload_n 3, 1) := by decide +kernel
theorem d_PP_full_10 : decode b_PP_full 10 = .ok (.ldc2_w 142, 3) := by decide +kernel
theorem d_PP_full_13 : decode b_PP_full 13 = .ok (.lcmp, 1) := by decide +kernel
theorem d_PP_full_14 : decode b_PP_full 14 = .ok (.ifCond .gt 14, 3) := by decide +kernel
theorem d_PP_full_17 : decode b_PP_full 17 = .ok (.iload_n 2, 1) := by decide +kernel
theorem d_PP_full_18 : decode b_PP_full 18 = .ok (.ifCond .lt 10, 3) := by decide +kernel
theorem d_PP_full_21 : decode b_PP_full 21 = .ok (.iload_n 2, 1) := by decide +kernel
theorem d_PP_full_22 : decode b_PP_full 22 = .ok (.i2l, 1) := by decide +kernel
theorem d_PP_full_23 : decode b_PP_full 23 = .ok (.lload_n 3, 1) := by decide +kernel
theorem d_PP_full_24 : decode b_PP_full 24 = .ok (.lcmp, 1) := by decide +kernel
theorem d_PP_full_25 : decode b_PP_full 25 = .ok (.ifCond .lt 5, 3) := by decide +kernel
theorem d_PP_full_28 : decode b_PP_full 28 = .ok (.iconst (-1), 1) := by decide +kernel
theorem d_PP_full_29 : decode b_PP_full 29 = .ok (.ireturn, 1) := by decide +kernel
theorem d_PP_full_30 : decode b_PP_full 30 = .ok (.aload_n 0, 1) := by decide +kernel
theorem d_PP_full_31 : decode b_PP_full 31 = .ok (.getfield 19, 3) := by decide +kernel
theorem d_PP_full_34 : decode b_PP_full 34 = .ok (.iload_n 1, 1) := by decide +kernel
theorem d_PP_full_35 : decode b_PP_full 35 = .ok (.iload_n 2, 1) := by decide +kernel
theorem d_PP_full_36 : decode b_PP_full 36 = .ok (.invokevirtual 144, 3) := by decide +kernel
theorem d_PP_full_39 : decode b_PP_full 39 = .ok (.ireturn, 1) := by decide +kernel
theorem d_PP_check_0 : decode b_PP_check 0 = .ok (.aload_n 0, 1) := by decide +kernel
theorem d_PP_check_1 : decode b_PP_check 1 = .ok (.getfield 28, 3) := by decide +kernel
theorem d_PP_check_4 : decode b_PP_check 4 = .ok (.invokevirtual 147, 3) := by decide +kernel
theorem d_PP_check_7 : decode b_PP_check 7 = .ok (.ifCond .eq 7, 3) := by decide +kernel
theorem d_PP_check_10 : decode b_PP_check 10 = .ok (.iconst 1, 1) := by decide +kernel
theorem d_PP_check_11 : decode b_PP_check 11 = .ok (.goto 4, 3) := by decide +kernel
theorem d_PP_check_14 : decode b_PP_check 14 = .ok (.iconst 0, 1) := by decide +kernel
theorem d_PP_check_15 : decode b_PP_check 15 = .ok (.ireturn, 1) := by decide +kernel
theorem d_PP_mayPutOn_0 : decode b_PP_mayPutOn 0 = .ok (.iload_n 1, 1) := by decide +kernel
theorem d_PP_mayPutOn_1 : decode b_PP_mayPutOn 1 = .ok (.sipush 200, 3) := by decide +kernel
theorem d_PP_mayPutOn_4 : decode b_PP_mayPutOn 4 = .ok (.if_icmp .ge 17, 3) := by decide +kernel
theorem d_PP_mayPutOn_7 : decode b_PP_mayPutOn 7 = .ok (.aload_n 0, 1) := by decide +kernel
theorem d_PP_mayPutOn_8 : decode b_PP_mayPutOn 8 = .ok (.getfield 39, 3) := by decide +kernel
theorem d_PP_mayPutOn_11 : decode b_PP_mayPutOn 11 = .ok (.sipush 20000, 3) := by decide +kernel
theorem d_PP_mayPutOn_14 : decode b_PP_mayPutOn 14 = .ok (.if_icmp .ge 7, 3) := by decide +kernel
theorem d_PP_mayPutOn_17 : decode b_PP_mayPutOn 17 = .ok (.iconst 1, 1) := by decide +kernel
theorem d_PP_mayPutOn_18 : decode b_PP_mayPutOn 18 = .ok (.goto 4, 3) := by decide +kernel
theorem d_PP_mayPutOn_21 : decode b_PP_mayPutOn 21 = .ok (.iconst 0, 1) := by decide +kernel
theorem d_PP_mayPutOn_22 : decode b_PP_mayPutOn 22 = .ok (.ireturn, 1) := by decide +kernel
theorem d_PP_putOn_0 : decode b_PP_putOn 0 = .ok (.aload_n 0, 1) := by decide +kernel
theorem d_PP_putOn_1 : decode b_PP_putOn 1 = .ok (.getfield 35, 3) := by decide +kernel
theorem d_PP_putOn_4 : decode b_PP_putOn 4 = .ok (.iload_n 1, 1) := by decide +kernel
theorem d_PP_putOn_5 : decode b_PP_putOn 5 = .ok (.invokevirtual 151, 3) := by decide +kernel
theorem d_PP_putOn_8 : decode b_PP_putOn 8 = .ok (.aload_n 0, 1) := by decide +kernel
theorem d_PP_putOn_9 : decode b_PP_putOn 9 = .ok (.dup, 1) := by decide +kernel
theorem d_PP_putOn_10 : decode b_PP_putOn 10 = .ok (.getfield 39, 3) := by decide +kernel
theorem d_PP_putOn_13 : decode b_PP_putOn 13 = .ok (.iconst 1, 1) := by decide +kernel
theorem d_PP_putOn_14 : decode b_PP_putOn 14 = .ok (.iadd, 1) := by decide +kernel
theorem d_PP_putOn_15 : decode b_PP_putOn 15 = .ok (.putfield 39, 3) := by decide +kernel
theorem d_PP_putOn_18 : decode b_PP_putOn 18 = .ok (.return_, 1) := by decide +kernel
