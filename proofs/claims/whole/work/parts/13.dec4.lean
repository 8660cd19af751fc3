theorem d_Mo_init_0 : decode prog_10_method_1_code 0 = .ok (.aload_n 0, 1) := by decide +kernel
theorem d_Mo_init_1 : decode prog_10_method_1_code 1 = .ok (.invokespecial 1, 3) := by decide +kernel
theorem d_Mo_init_4 : decode prog_10_method_1_code 4 = .ok (.aload_n 0, 1) := by decide +kernel
theorem d_Mo_init_5 : decode prog_10_method_1_code 5 = .ok (.sipush 160, 3) := by decide +kernel
theorem d_Mo_init_8 : decode prog_10_method_1_code 8 = .ok (.newarray .int, 2) := by decide +kernel
theorem d_Mo_init_10 : decode prog_10_method_1_code 10 = .ok (.putfield 7, 3) := by decide +kernel
theorem d_Mo_init_13 : decode prog_10_method_1_code 13 = .ok (.aload_n 0, 1) := by decide +kernel
theorem d_Mo_init_14 : decode prog_10_method_1_code 14 = .ok (.bipush 31, 2) := by decide +kernel
theorem d_Mo_init_16 : decode prog_10_method_1_code 16 = .ok (.newarray .int, 2) := by decide +kernel
theorem d_Mo_init_18 : decode prog_10_method_1_code 18 = .ok (.putfield 13, 3) := by decide +kernel
theorem d_Mo_init_21 : decode prog_10_method_1_code 21 = .ok (.aload_n 0, 1) := by decide +kernel
theorem d_Mo_init_22 : decode prog_10_method_1_code 22 = .ok (.bipush 31, 2) := by decide +kernel
theorem d_Mo_init_24 : decode prog_10_method_1_code 24 = .ok (.newarray .int, 2) := by decide +kernel
theorem d_Mo_init_26 : decode prog_10_method_1_code 26 = .ok (.putfield 16, 3) := by decide +kernel
theorem d_Mo_init_29 : decode prog_10_method_1_code 29 = .ok (.aload_n 0, 1) := by decide +kernel
theorem d_Mo_init_30 : decode prog_10_method_1_code 30 = .ok (.bipush 31, 2) := by decide +kernel
theorem d_Mo_init_32 : decode prog_10_method_1_code 32 = .ok (.newarray .int, 2) := by decide +kernel
theorem d_Mo_init_34 : decode prog_10_method_1_code 34 = .ok (.putfield 19, 3) := by decide +kernel
theorem d_Mo_init_37 : decode prog_10_method_1_code 37 = .ok (.aload_n 0, 1) := by decide +kernel
theorem d_Mo_init_38 : decode prog_10_method_1_code 38 = .ok (.bipush 31, 2) := by decide +kernel
theorem d_Mo_init_40 : decode prog_10_method_1_code 40 = .ok (.newarray .int, 2) := by decide +kernel
theorem d_Mo_init_42 : decode prog_10_method_1_code 42 = .ok (.putfield 22, 3) := by decide +kernel
theorem d_Mo_init_45 : decode prog_10_method_1_code 45 = .ok (.aload_n 0, 1) := by decide +kernel
theorem d_Mo_init_46 : decode prog_10_method_1_code 46 = .ok (.sipush 372, 3) := by decide +kernel
theorem d_Mo_init_49 : decode prog_10_method_1_code 49 = .ok (.newarray .int, 2) := by decide +kernel
theorem d_Mo_init_51 : decode prog_10_method_1_code 51 = .ok (.putfield 25, 3) := by decide +kernel
theorem d_Mo_init_54 : decode prog_10_method_1_code 54 = .ok (.aload_n 0, 1) := by decide +kernel
theorem d_Mo_init_55 : decode prog_10_method_1_code 55 = .ok (.sipush 372, 3) := by decide +kernel
theorem d_Mo_init_58 : decode prog_10_method_1_code 58 = .ok (.newarray .int, 2) := by decide +kernel
theorem d_Mo_init_60 : decode prog_10_method_1_code 60 = .ok (.putfield 28, 3) := by decide +kernel
theorem d_Mo_init_63 : decode prog_10_method_1_code 63 = .ok (.aload_n 0, 1) := by decide +kernel
theorem d_Mo_init_64 : decode prog_10_method_1_code 64 = .ok (.sipush 6000, 3) := by decide +kernel
theorem d_Mo_init_67 : decode prog_10_method_1_code 67 = .ok (.newarray .int, 2) := by decide +kernel
theorem d_Mo_init_69 : decode prog_10_method_1_code 69 = .ok (.putfield 31, 3) := by decide +kernel
theorem d_Mo_init_72 : decode prog_10_method_1_code 72 = .ok (.aload_n 0, 1) := by decide +kernel
theorem d_Mo_init_73 : decode prog_10_method_1_code 73 = .ok (.bipush 59, 2) := by decide +kernel
theorem d_Mo_init_75 : decode prog_10_method_1_code 75 = .ok (.newarray .int, 2) := by decide +kernel
theorem d_Mo_init_77 : decode prog_10_method_1_code 77 = .ok (.putfield 34, 3) := by decide +kernel
theorem d_Mo_init_80 : decode prog_10_method_1_code 80 = .ok (.aload_n 0, 1) := by decide +kernel
theorem d_Mo_init_81 : decode prog_10_method_1_code 81 = .ok (.sipush 600, 3) := by decide +kernel
theorem d_Mo_init_84 : decode prog_10_method_1_code 84 = .ok (.newarray .int, 2) := by decide +kernel
theorem d_Mo_init_86 : decode prog_10_method_1_code 86 = .ok (.putfield 37, 3) := by decide +kernel
theorem d_Mo_init_89 : decode prog_10_method_1_code 89 = .ok (.aload_n 0, 1) := by decide +kernel
theorem d_Mo_init_90 : decode prog_10_method_1_code 90 = .ok (.sipush 700, 3) := by decide +kernel
theorem d_Mo_init_93 : decode prog_10_method_1_code 93 = .ok (.newarray .int, 2) := by decide +kernel
theorem d_Mo_init_95 : decode prog_10_method_1_code 95 = .ok (.putfield 40, 3) := by decide +kernel
theorem d_Mo_init_98 : decode prog_10_method_1_code 98 = .ok (.aload_n 0, 1) := by decide +kernel
theorem d_Mo_init_99 : decode prog_10_method_1_code 99 = .ok (.bipush 24, 2) := by decide +kernel
theorem d_Mo_init_101 : decode prog_10_method_1_code 101 = .ok (.newarray .int, 2) := by decide +kernel
theorem d_Mo_init_103 : decode prog_10_method_1_code 103 = .ok (.putfield 43, 3) := by decide +kernel
theorem d_Mo_init_106 : decode prog_10_method_1_code 106 = .ok (.return_, 1) := by decide +kernel
theorem d_Mo_thrown_0 : decode prog_10_method_2_code 0 = .ok (.aload_n 0, 1) := by decide +kernel
theorem d_Mo_thrown_1 : decode prog_10_method_2_code 1 = .ok (.getfield 46, 3) := by decide +kernel
theorem d_Mo_thrown_4 : decode prog_10_method_2_code 4 = .ok (.ireturn, 1) := by decide +kernel
theorem d_Mo_refer_0 : decode prog_10_method_3_code 0 = .ok (.aload_n 0, 1) := by decide +kernel
theorem d_Mo_refer_1 : decode prog_10_method_3_code 1 = .ok (.iload_n 2, 1) := by decide +kernel
theorem d_Mo_refer_2 : decode prog_10_method_3_code 2 = .ok (.iconst 1, 1) := by decide +kernel
theorem d_Mo_refer_3 : decode prog_10_method_3_code 3 = .ok (.if_icmp .lt 9, 3) := by decide +kernel
theorem d_Mo_refer_6 : decode prog_10_method_3_code 6 = .ok (.iload_n 2, 1) := by decide +kernel
theorem d_Mo_refer_7 : decode prog_10_method_3_code 7 = .ok (.bipush 16, 2) := by decide +kernel
theorem d_Mo_refer_9 : decode prog_10_method_3_code 9 = .ok (.if_icmp .le 7, 3) := by decide +kernel
theorem d_Mo_refer_12 : decode prog_10_method_3_code 12 = .ok (.iconst 1, 1) := by decide +kernel
theorem d_Mo_refer_13 : decode prog_10_method_3_code 13 = .ok (.goto 38, 3) := by decide +kernel
theorem d_Mo_refer_16 : decode prog_10_method_3_code 16 = .ok (.aload_n 0, 1) := by decide +kernel
theorem d_Mo_refer_17 : decode prog_10_method_3_code 17 = .ok (.getfield 50, 3) := by decide +kernel
theorem d_Mo_refer_20 : decode prog_10_method_3_code 20 = .ok (.ifCond .gt 10, 3) := by decide +kernel
theorem d_Mo_refer_23 : decode prog_10_method_3_code 23 = .ok (.aload_n 0, 1) := by decide +kernel
theorem d_Mo_refer_24 : decode prog_10_method_3_code 24 = .ok (.getfield 53, 3) := by decide +kernel
theorem d_Mo_refer_27 : decode prog_10_method_3_code 27 = .ok (.ifCond .eq 7, 3) := by decide +kernel
theorem d_Mo_refer_30 : decode prog_10_method_3_code 30 = .ok (.iconst 2, 1) := by decide +kernel
theorem d_Mo_refer_31 : decode prog_10_method_3_code 31 = .ok (.goto 20, 3) := by decide +kernel
theorem d_Mo_refer_34 : decode prog_10_method_3_code 34 = .ok (.aload_n 0, 1) := by decide +kernel
theorem d_Mo_refer_35 : decode prog_10_method_3_code 35 = .ok (.getfield 57, 3) := by decide +kernel
theorem d_Mo_refer_38 : decode prog_10_method_3_code 38 = .ok (.iload_n 2, 1) := by decide +kernel
theorem d_Mo_refer_39 : decode prog_10_method_3_code 39 = .ok (.iadd, 1) := by decide +kernel
theorem d_Mo_refer_40 : decode prog_10_method_3_code 40 = .ok (.sipush 160, 3) := by decide +kernel
theorem d_Mo_refer_43 : decode prog_10_method_3_code 43 = .ok (.if_icmp .le 7, 3) := by decide +kernel
theorem d_Mo_refer_46 : decode prog_10_method_3_code 46 = .ok (.iconst 3, 1) := by decide +kernel
theorem d_Mo_refer_47 : decode prog_10_method_3_code 47 = .ok (.goto 4, 3) := by decide +kernel
theorem d_Mo_refer_50 : decode prog_10_method_3_code 50 = .ok (.iconst 0, 1) := by decide +kernel
theorem d_Mo_refer_51 : decode prog_10_method_3_code 51 = .ok (.putfield 46, 3) := by decide +kernel
theorem d_Mo_refer_54 : decode prog_10_method_3_code 54 = .ok (.aload_n 0, 1) := by decide +kernel
theorem d_Mo_refer_55 : decode prog_10_method_3_code 55 = .ok (.getfield 46, 3) := by decide +kernel
theorem d_Mo_refer_58 : decode prog_10_method_3_code 58 = .ok (.ifCond .le 5, 3) := by decide +kernel
theorem d_Mo_refer_61 : decode prog_10_method_3_code 61 = .ok (.iconst 0, 1) := by decide +kernel
theorem d_Mo_refer_62 : decode prog_10_method_3_code 62 = .ok (.ireturn, 1) := by decide +kernel
theorem d_Mo_refer_63 : decode prog_10_method_3_code 63 = .ok (.iconst 0, 1) := by decide +kernel
theorem d_Mo_refer_64 : decode prog_10_method_3_code 64 = .ok (.istore_n 3, 1) := by decide +kernel
theorem d_Mo_refer_65 : decode prog_10_method_3_code 65 = .ok (.iload_n 3, 1) := by decide +kernel
theorem d_Mo_refer_66 : decode prog_10_method_3_code 66 = .ok (.iload_n 2, 1) := by decide +kernel
theorem d_Mo_refer_67 : decode prog_10_method_3_code 67 = .ok (.if_icmp .ge 35, 3) := by decide +kernel
theorem d_Mo_refer_70 : decode prog_10_method_3_code 70 = .ok (.aload_n 0, 1) := by decide +kernel
theorem d_Mo_refer_71 : decode prog_10_method_3_code 71 = .ok (.getfield 7, 3) := by decide +kernel
theorem d_Mo_refer_74 : decode prog_10_method_3_code 74 = .ok (.aload_n 0, 1) := by decide +kernel
theorem d_Mo_refer_75 : decode prog_10_method_3_code 75 = .ok (.getfield 57, 3) := by decide +kernel
theorem d_Mo_refer_78 : decode prog_10_method_3_code 78 = .ok (.iload_n 1, 1) := by decide +kernel
theorem d_Mo_refer_79 : decode prog_10_method_3_code 79 = .ok (.iconst 2, 1) := by decide +kernel
theorem d_Mo_refer_80 : decode prog_10_method_3_code 80 = .ok (.iload_n 3, 1) := by decide +kernel
theorem d_Mo_refer_81 : decode prog_10_method_3_code 81 = .ok (.imul, 1) := by decide +kernel
theorem d_Mo_refer_82 : decode prog_10_method_3_code 82 = .ok (.ishr, 1) := by decide +kernel
theorem d_Mo_refer_83 : decode prog_10_method_3_code 83 = .ok (.iconst 3, 1) := by decide +kernel
theorem d_Mo_refer_84 : decode prog_10_method_3_code 84 = .ok (.iand, 1) := by decide +kernel
theorem d_Mo_refer_85 : decode prog_10_method_3_code 85 = .ok (.iastore, 1) := by decide +kernel
theorem d_Mo_refer_86 : decode prog_10_method_3_code 86 = .ok (.aload_n 0, 1) := by decide +kernel
theorem d_Mo_refer_87 : decode prog_10_method_3_code 87 = .ok (.dup, 1) := by decide +kernel
theorem d_Mo_refer_88 : decode prog_10_method_3_code 88 = .ok (.getfield 57, 3) := by decide +kernel
theorem d_Mo_refer_91 : decode prog_10_method_3_code 91 = .ok (.iconst 1, 1) := by decide +kernel
theorem d_Mo_refer_92 : decode prog_10_method_3_code 92 = .ok (.iadd, 1) := by decide +kernel
theorem d_Mo_refer_93 : decode prog_10_method_3_code 93 = .ok (.putfield 57, 3) := by decide +kernel
theorem d_Mo_refer_96 : decode prog_10_method_3_code 96 = .ok (.iinc 3 1, 3) := by decide +kernel
theorem d_Mo_refer_99 : decode prog_10_method_3_code 99 = .ok (.goto (-34), 3) := by decide +kernel
theorem d_Mo_refer_102 : decode prog_10_method_3_code 102 = .ok (.aload_n 0, 1) := by decide +kernel
theorem d_Mo_refer_103 : decode prog_10_method_3_code 103 = .ok (.getfield 57, 3) := by decide +kernel
theorem d_Mo_refer_106 : decode prog_10_method_3_code 106 = .ok (.ireturn, 1) := by decide +kernel
theorem d_Mo_clear_0 : decode prog_10_method_4_code 0 = .ok (.aload_n 0, 1) := by decide +kernel
theorem d_Mo_clear_1 : decode prog_10_method_4_code 1 = .ok (.iconst 0, 1) := by decide +kernel
theorem d_Mo_clear_2 : decode prog_10_method_4_code 2 = .ok (.putfield 46, 3) := by decide +kernel
theorem d_Mo_clear_5 : decode prog_10_method_4_code 5 = .ok (.aload_n 0, 1) := by decide +kernel
theorem d_Mo_clear_6 : decode prog_10_method_4_code 6 = .ok (.iconst 0, 1) := by decide +kernel
theorem d_Mo_clear_7 : decode prog_10_method_4_code 7 = .ok (.putfield 50, 3) := by decide +kernel
theorem d_Mo_clear_10 : decode prog_10_method_4_code 10 = .ok (.aload_n 0, 1) := by decide +kernel
theorem d_Mo_clear_11 : decode prog_10_method_4_code 11 = .ok (.iconst 0, 1) := by decide +kernel
theorem d_Mo_clear_12 : decode prog_10_method_4_code 12 = .ok (.putfield 53, 3) := by decide +kernel
theorem d_Mo_clear_15 : decode prog_10_method_4_code 15 = .ok (.iload_n 1, 1) := by decide +kernel
theorem d_Mo_clear_16 : decode prog_10_method_4_code 16 = .ok (.ifCond .eq 13, 3) := by decide +kernel
theorem d_Mo_clear_19 : decode prog_10_method_4_code 19 = .ok (.aload_n 0, 1) := by decide +kernel
theorem d_Mo_clear_20 : decode prog_10_method_4_code 20 = .ok (.iconst 0, 1) := by decide +kernel
theorem d_Mo_clear_21 : decode prog_10_method_4_code 21 = .ok (.putfield 57, 3) := by decide +kernel
theorem d_Mo_clear_24 : decode prog_10_method_4_code 24 = .ok (.aload_n 0, 1) := by decide +kernel
theorem d_Mo_clear_25 : decode prog_10_method_4_code 25 = .ok (.iconst 0, 1) := by decide +kernel
theorem d_Mo_clear_26 : decode prog_10_method_4_code 26 = .ok (.putfield 60, 3) := by decide +kernel
theorem d_Mo_clear_29 : decode prog_10_method_4_code 29 = .ok (.return_, 1) := by decide +kernel
theorem d_Mo_start_0 : decode prog_10_method_6_code 0 = .ok (.aload_n 0, 1) := by decide +kernel
theorem d_Mo_start_1 : decode prog_10_method_6_code 1 = .ok (.iload_n 1, 1) := by decide +kernel
theorem d_Mo_start_2 : decode prog_10_method_6_code 2 = .ok (.ifCond .lt 11, 3) := by decide +kernel
theorem d_Mo_start_5 : decode prog_10_method_6_code 5 = .ok (.iload_n 1, 1) := by decide +kernel
theorem d_Mo_start_6 : decode prog_10_method_6_code 6 = .ok (.aload_n 0, 1) := by decide +kernel
theorem d_Mo_start_7 : decode prog_10_method_6_code 7 = .ok (.getfield 57, 3) := by decide +kernel
theorem d_Mo_start_10 : decode prog_10_method_6_code 10 = .ok (.if_icmp .le 7, 3) := by decide +kernel
theorem d_Mo_start_13 : decode prog_10_method_6_code 13 = .ok (.iconst 1, 1) := by decide +kernel
theorem d_Mo_start_14 : decode prog_10_method_6_code 14 = .ok (.goto 4, 3) := by decide +kernel
theorem d_Mo_start_17 : decode prog_10_method_6_code 17 = .ok (.iconst 0, 1) := by decide +kernel
theorem d_Mo_start_18 : decode prog_10_method_6_code 18 = .ok (.putfield 46, 3) := by decide +kernel
theorem d_Mo_start_21 : decode prog_10_method_6_code 21 = .ok (.aload_n 0, 1) := by decide +kernel
theorem d_Mo_start_22 : decode prog_10_method_6_code 22 = .ok (.getfield 46, 3) := by decide +kernel
theorem d_Mo_start_25 : decode prog_10_method_6_code 25 = .ok (.ifCond .le 4, 3) := by decide +kernel
theorem d_Mo_start_28 : decode prog_10_method_6_code 28 = .ok (.return_, 1) := by decide +kernel
theorem d_Mo_start_29 : decode prog_10_method_6_code 29 = .ok (.aload_n 0, 1) := by decide +kernel
theorem d_Mo_start_30 : decode prog_10_method_6_code 30 = .ok (.bipush 30, 2) := by decide +kernel
theorem d_Mo_start_32 : decode prog_10_method_6_code 32 = .ok (.iload_n 1, 1) := by decide +kernel
theorem d_Mo_start_33 : decode prog_10_method_6_code 33 = .ok (.invokevirtual 63, 3) := by decide +kernel
theorem d_Mo_start_36 : decode prog_10_method_6_code 36 = .ok (.aload_n 0, 1) := by decide +kernel
theorem d_Mo_start_37 : decode prog_10_method_6_code 37 = .ok (.iconst 1, 1) := by decide +kernel
theorem d_Mo_start_38 : decode prog_10_method_6_code 38 = .ok (.putfield 53, 3) := by decide +kernel
theorem d_Mo_start_41 : decode prog_10_method_6_code 41 = .ok (.return_, 1) := by decide +kernel
theorem d_Mo_open_0 : decode prog_10_method_5_code 0 = .ok (.aload_n 0, 1) := by decide +kernel
theorem d_Mo_open_1 : decode prog_10_method_5_code 1 = .ok (.getfield 13, 3) := by decide +kernel
theorem d_Mo_open_4 : decode prog_10_method_5_code 4 = .ok (.iload_n 1, 1) := by decide +kernel
theorem d_Mo_open_5 : decode prog_10_method_5_code 5 = .ok (.iload_n 2, 1) := by decide +kernel
theorem d_Mo_open_6 : decode prog_10_method_5_code 6 = .ok (.iastore, 1) := by decide +kernel
theorem d_Mo_open_7 : decode prog_10_method_5_code 7 = .ok (.aload_n 0, 1) := by decide +kernel
theorem d_Mo_open_8 : decode prog_10_method_5_code 8 = .ok (.getfield 16, 3) := by decide +kernel
theorem d_Mo_open_11 : decode prog_10_method_5_code 11 = .ok (.iload_n 1, 1) := by decide +kernel
theorem d_Mo_open_12 : decode prog_10_method_5_code 12 = .ok (.iconst 0, 1) := by decide +kernel
theorem d_Mo_open_13 : decode prog_10_method_5_code 13 = .ok (.iastore, 1) := by decide +kernel
theorem d_Mo_open_14 : decode prog_10_method_5_code 14 = .ok (.aload_n 0, 1) := by decide +kernel
theorem d_Mo_open_15 : decode prog_10_method_5_code 15 = .ok (.getfield 19, 3) := by decide +kernel
theorem d_Mo_open_18 : decode prog_10_method_5_code 18 = .ok (.iload_n 1, 1) := by decide +kernel
theorem d_Mo_open_19 : decode prog_10_method_5_code 19 = .ok (.iconst 0, 1) := by decide +kernel
theorem d_Mo_open_20 : decode prog_10_method_5_code 20 = .ok (.iastore, 1) := by decide +kernel
theorem d_Mo_open_21 : decode prog_10_method_5_code 21 = .ok (.aload_n 0, 1) := by decide +kernel
theorem d_Mo_open_22 : decode prog_10_method_5_code 22 = .ok (.getfield 22, 3) := by decide +kernel
theorem d_Mo_open_25 : decode prog_10_method_5_code 25 = .ok (.iload_n 1, 1) := by decide +kernel
theorem d_Mo_open_26 : decode prog_10_method_5_code 26 = .ok (.iconst 0, 1) := by decide +kernel
theorem d_Mo_open_27 : decode prog_10_method_5_code 27 = .ok (.iastore, 1) := by decide +kernel
theorem d_Mo_open_28 : decode prog_10_method_5_code 28 = .ok (.return_, 1) := by decide +kernel
theorem d_Mo_edit_0 : decode prog_10_method_9_code 0 = .ok (.aload_n 0, 1) := by decide +kernel
theorem d_Mo_edit_1 : decode prog_10_method_9_code 1 = .ok (.iconst 1, 1) := by decide +kernel
theorem d_Mo_edit_2 : decode prog_10_method_9_code 2 = .ok (.putfield 46, 3) := by decide +kernel
theorem d_Mo_edit_5 : decode prog_10_method_9_code 5 = .ok (.aload_n 0, 1) := by decide +kernel
theorem d_Mo_edit_6 : decode prog_10_method_9_code 6 = .ok (.getfield 53, 3) := by decide +kernel
theorem d_Mo_edit_9 : decode prog_10_method_9_code 9 = .ok (.ifCond .ne 4, 3) := by decide +kernel
theorem d_Mo_edit_12 : decode prog_10_method_9_code 12 = .ok (.return_, 1) := by decide +kernel
theorem d_Mo_edit_13 : decode prog_10_method_9_code 13 = .ok (.aload_n 0, 1) := by decide +kernel
theorem d_Mo_edit_14 : decode prog_10_method_9_code 14 = .ok (.bipush 30, 2) := by decide +kernel
theorem d_Mo_edit_16 : decode prog_10_method_9_code 16 = .ok (.iload_n 1, 1) := by decide +kernel
theorem d_Mo_edit_17 : decode prog_10_method_9_code 17 = .ok (.iload_n 2, 1) := by decide +kernel
theorem d_Mo_edit_18 : decode prog_10_method_9_code 18 = .ok (.invokevirtual 67, 3) := by decide +kernel
theorem d_Mo_edit_21 : decode prog_10_method_9_code 21 = .ok (.istore_n 3, 1) := by decide +kernel
theorem d_Mo_edit_22 : decode prog_10_method_9_code 22 = .ok (.aload_n 0, 1) := by decide +kernel
theorem d_Mo_edit_23 : decode prog_10_method_9_code 23 = .ok (.iload_n 3, 1) := by decide +kernel
theorem d_Mo_edit_24 : decode prog_10_method_9_code 24 = .ok (.ifCond .le 9, 3) := by decide +kernel
theorem d_Mo_edit_27 : decode prog_10_method_9_code 27 = .ok (.iload_n 3, 1) := by decide +kernel
theorem d_Mo_edit_28 : decode prog_10_method_9_code 28 = .ok (.iconst 1, 1) := by decide +kernel
theorem d_Mo_edit_29 : decode prog_10_method_9_code 29 = .ok (.iadd, 1) := by decide +kernel
theorem d_Mo_edit_30 : decode prog_10_method_9_code 30 = .ok (.goto 4, 3) := by decide +kernel
theorem d_Mo_edit_33 : decode prog_10_method_9_code 33 = .ok (.iconst 0, 1) := by decide +kernel
theorem d_Mo_edit_34 : decode prog_10_method_9_code 34 = .ok (.putfield 46, 3) := by decide +kernel
theorem d_Mo_edit_37 : decode prog_10_method_9_code 37 = .ok (.aload_n 0, 1) := by decide +kernel
theorem d_Mo_edit_38 : decode prog_10_method_9_code 38 = .ok (.getfield 46, 3) := by decide +kernel
theorem d_Mo_edit_41 : decode prog_10_method_9_code 41 = .ok (.ifCond .ne 11, 3) := by decide +kernel
theorem d_Mo_edit_44 : decode prog_10_method_9_code 44 = .ok (.aload_n 0, 1) := by decide +kernel
theorem d_Mo_edit_45 : decode prog_10_method_9_code 45 = .ok (.bipush 30, 2) := by decide +kernel
theorem d_Mo_edit_47 : decode prog_10_method_9_code 47 = .ok (.iload_n 1, 1) := by decide +kernel
theorem d_Mo_edit_48 : decode prog_10_method_9_code 48 = .ok (.iload_n 2, 1) := by decide +kernel
theorem d_Mo_edit_49 : decode prog_10_method_9_code 49 = .ok (.invokevirtual 71, 3) := by decide +kernel
theorem d_Mo_edit_52 : decode prog_10_method_9_code 52 = .ok (.return_, 1) := by decide +kernel
theorem d_Mo_barred_0 : decode prog_10_method_7_code 0 = .ok (.aload_n 0, 1) := by decide +kernel
theorem d_Mo_barred_1 : decode prog_10_method_7_code 1 = .ok (.getfield 57, 3) := by decide +kernel
theorem d_Mo_barred_4 : decode prog_10_method_7_code 4 = .ok (.aload_n 0, 1) := by decide +kernel
theorem d_Mo_barred_5 : decode prog_10_method_7_code 5 = .ok (.getfield 13, 3) := by decide +kernel
theorem d_Mo_barred_8 : decode prog_10_method_7_code 8 = .ok (.iload_n 1, 1) := by decide +kernel
theorem d_Mo_barred_9 : decode prog_10_method_7_code 9 = .ok (.iaload, 1) := by decide +kernel
theorem d_Mo_barred_10 : decode prog_10_method_7_code 10 = .ok (.isub, 1) := by decide +kernel
theorem d_Mo_barred_11 : decode prog_10_method_7_code 11 = .ok (.aload_n 0, 1) := by decide +kernel
theorem d_Mo_barred_12 : decode prog_10_method_7_code 12 = .ok (.getfield 22, 3) := by decide +kernel
theorem d_Mo_barred_15 : decode prog_10_method_7_code 15 = .ok (.iload_n 1, 1) := by decide +kernel
theorem d_Mo_barred_16 : decode prog_10_method_7_code 16 = .ok (.iaload, 1) := by decide +kernel
theorem d_Mo_barred_17 : decode prog_10_method_7_code 17 = .ok (.isub, 1) := by decide +kernel
theorem d_Mo_barred_18 : decode prog_10_method_7_code 18 = .ok (.istore 4, 2) := by decide +kernel
theorem d_Mo_barred_20 : decode prog_10_method_7_code 20 = .ok (.iload_n 2, 1) := by decide +kernel
theorem d_Mo_barred_21 : decode prog_10_method_7_code 21 = .ok (.ifCond .eq 8, 3) := by decide +kernel
theorem d_Mo_barred_24 : decode prog_10_method_7_code 24 = .ok (.iload_n 2, 1) := by decide +kernel
theorem d_Mo_barred_25 : decode prog_10_method_7_code 25 = .ok (.iconst 3, 1) := by decide +kernel
theorem d_Mo_barred_26 : decode prog_10_method_7_code 26 = .ok (.if_icmp .ne 7, 3) := by decide +kernel
theorem d_Mo_barred_29 : decode prog_10_method_7_code 29 = .ok (.iconst 1, 1) := by decide +kernel
theorem d_Mo_barred_30 : decode prog_10_method_7_code 30 = .ok (.goto 4, 3) := by decide +kernel
theorem d_Mo_barred_33 : decode prog_10_method_7_code 33 = .ok (.iconst 0, 1) := by decide +kernel
theorem d_Mo_barred_34 : decode prog_10_method_7_code 34 = .ok (.istore 5, 2) := by decide +kernel
theorem d_Mo_barred_36 : decode prog_10_method_7_code 36 = .ok (.iload_n 2, 1) := by decide +kernel
theorem d_Mo_barred_37 : decode prog_10_method_7_code 37 = .ok (.ifCond .lt 38, 3) := by decide +kernel
theorem d_Mo_barred_40 : decode prog_10_method_7_code 40 = .ok (.iload_n 2, 1) := by decide +kernel
theorem d_Mo_barred_41 : decode prog_10_method_7_code 41 = .ok (.iconst 3, 1) := by decide +kernel
theorem d_Mo_barred_42 : decode prog_10_method_7_code 42 = .ok (.if_icmp .gt 33, 3) := by decide +kernel
theorem d_Mo_barred_45 : decode prog_10_method_7_code 45 = .ok (.iload 5, 2) := by decide +kernel
theorem d_Mo_barred_47 : decode prog_10_method_7_code 47 = .ok (.ifCond .eq 14, 3) := by decide +kernel
theorem d_Mo_barred_50 : decode prog_10_method_7_code 50 = .ok (.iload_n 3, 1) := by decide +kernel
theorem d_Mo_barred_51 : decode prog_10_method_7_code 51 = .ok (.iconst 1, 1) := by decide +kernel
theorem d_Mo_barred_52 : decode prog_10_method_7_code 52 = .ok (.if_icmp .lt 23, 3) := by decide +kernel
theorem d_Mo_barred_55 : decode prog_10_method_7_code 55 = .ok (.iload_n 3, 1) := by decide +kernel
theorem d_Mo_barred_56 : decode prog_10_method_7_code 56 = .ok (.iload 4, 2) := by decide +kernel
theorem d_Mo_barred_58 : decode prog_10_method_7_code 58 = .ok (.if_icmp .gt 17, 3) := by decide +kernel
theorem d_Mo_barred_61 : decode prog_10_method_7_code 61 = .ok (.iload 5, 2) := by decide +kernel
theorem d_Mo_barred_63 : decode prog_10_method_7_code 63 = .ok (.ifCond .ne 14, 3) := by decide +kernel
theorem d_Mo_barred_66 : decode prog_10_method_7_code 66 = .ok (.iload_n 3, 1) := by decide +kernel
theorem d_Mo_barred_67 : decode prog_10_method_7_code 67 = .ok (.ifCond .lt 8, 3) := by decide +kernel
theorem d_Mo_barred_70 : decode prog_10_method_7_code 70 = .ok (.iload_n 3, 1) := by decide +kernel
theorem d_Mo_barred_71 : decode prog_10_method_7_code 71 = .ok (.iconst 3, 1) := by decide +kernel
theorem d_Mo_barred_72 : decode prog_10_method_7_code 72 = .ok (.if_icmp .le 5, 3) := by decide +kernel
theorem d_Mo_barred_75 : decode prog_10_method_7_code 75 = .ok (.iconst 1, 1) := by decide +kernel
theorem d_Mo_barred_76 : decode prog_10_method_7_code 76 = .ok (.ireturn, 1) := by decide +kernel
theorem d_Mo_barred_77 : decode prog_10_method_7_code 77 = .ok (.iload_n 2, 1) := by decide +kernel
theorem d_Mo_barred_78 : decode prog_10_method_7_code 78 = .ok (.iconst 1, 1) := by decide +kernel
theorem d_Mo_barred_79 : decode prog_10_method_7_code 79 = .ok (.if_icmp .ne 33, 3) := by decide +kernel
theorem d_Mo_barred_82 : decode prog_10_method_7_code 82 = .ok (.iload 4, 2) := by decide +kernel
theorem d_Mo_barred_84 : decode prog_10_method_7_code 84 = .ok (.iconst 1, 1) := by decide +kernel
theorem d_Mo_barred_85 : decode prog_10_method_7_code 85 = .ok (.if_icmp .lt 25, 3) := by decide +kernel
theorem d_Mo_barred_88 : decode prog_10_method_7_code 88 = .ok (.aload_n 0, 1) := by decide +kernel
theorem d_Mo_barred_89 : decode prog_10_method_7_code 89 = .ok (.getfield 7, 3) := by decide +kernel
theorem d_Mo_barred_92 : decode prog_10_method_7_code 92 = .ok (.aload_n 0, 1) := by decide +kernel
theorem d_Mo_barred_93 : decode prog_10_method_7_code 93 = .ok (.getfield 13, 3) := by decide +kernel
theorem d_Mo_barred_96 : decode prog_10_method_7_code 96 = .ok (.iload_n 1, 1) := by decide +kernel
theorem d_Mo_barred_97 : decode prog_10_method_7_code 97 = .ok (.iaload, 1) := by decide +kernel
theorem d_Mo_barred_98 : decode prog_10_method_7_code 98 = .ok (.aload_n 0, 1) := by decide +kernel
theorem d_Mo_barred_99 : decode prog_10_method_7_code 99 = .ok (.getfield 22, 3) := by decide +kernel
theorem d_Mo_barred_102 : decode prog_10_method_7_code 102 = .ok (.iload_n 1, 1) := by decide +kernel
theorem d_Mo_barred_103 : decode prog_10_method_7_code 103 = .ok (.iaload, 1) := by decide +kernel
theorem d_Mo_barred_104 : decode prog_10_method_7_code 104 = .ok (.iadd, 1) := by decide +kernel
theorem d_Mo_barred_105 : decode prog_10_method_7_code 105 = .ok (.iaload, 1) := by decide +kernel
theorem d_Mo_barred_106 : decode prog_10_method_7_code 106 = .ok (.iload_n 3, 1) := by decide +kernel
theorem d_Mo_barred_107 : decode prog_10_method_7_code 107 = .ok (.if_icmp .ne 5, 3) := by decide +kernel
theorem d_Mo_barred_110 : decode prog_10_method_7_code 110 = .ok (.iconst 1, 1) := by decide +kernel
theorem d_Mo_barred_111 : decode prog_10_method_7_code 111 = .ok (.ireturn, 1) := by decide +kernel
theorem d_Mo_barred_112 : decode prog_10_method_7_code 112 = .ok (.iload_n 2, 1) := by decide +kernel
theorem d_Mo_barred_113 : decode prog_10_method_7_code 113 = .ok (.ifCond .ne 7, 3) := by decide +kernel
theorem d_Mo_barred_116 : decode prog_10_method_7_code 116 = .ok (.iload_n 3, 1) := by decide +kernel
theorem d_Mo_barred_117 : decode prog_10_method_7_code 117 = .ok (.goto 13, 3) := by decide +kernel
theorem d_Mo_barred_120 : decode prog_10_method_7_code 120 = .ok (.iload_n 2, 1) := by decide +kernel
theorem d_Mo_barred_121 : decode prog_10_method_7_code 121 = .ok (.iconst 3, 1) := by decide +kernel
theorem d_Mo_barred_122 : decode prog_10_method_7_code 122 = .ok (.if_icmp .ne 7, 3) := by decide +kernel
theorem d_Mo_barred_125 : decode prog_10_method_7_code 125 = .ok (.iconst 0, 1) := by decide +kernel
theorem d_Mo_barred_126 : decode prog_10_method_7_code 126 = .ok (.goto 4, 3) := by decide +kernel
theorem d_Mo_barred_129 : decode prog_10_method_7_code 129 = .ok (.iconst 1, 1) := by decide +kernel
theorem d_Mo_barred_130 : decode prog_10_method_7_code 130 = .ok (.istore 6, 2) := by decide +kernel
theorem d_Mo_barred_132 : decode prog_10_method_7_code 132 = .ok (.iload 5, 2) := by decide +kernel
theorem d_Mo_barred_134 : decode prog_10_method_7_code 134 = .ok (.ifCond .eq 38, 3) := by decide +kernel
theorem d_Mo_barred_137 : decode prog_10_method_7_code 137 = .ok (.aload_n 0, 1) := by decide +kernel
theorem d_Mo_barred_138 : decode prog_10_method_7_code 138 = .ok (.getfield 16, 3) := by decide +kernel
theorem d_Mo_barred_141 : decode prog_10_method_7_code 141 = .ok (.iload_n 1, 1) := by decide +kernel
theorem d_Mo_barred_142 : decode prog_10_method_7_code 142 = .ok (.iaload, 1) := by decide +kernel
theorem d_Mo_barred_143 : decode prog_10_method_7_code 143 = .ok (.ifCond .le 29, 3) := by decide +kernel
theorem d_Mo_barred_146 : decode prog_10_method_7_code 146 = .ok (.aload_n 0, 1) := by decide +kernel
theorem d_Mo_barred_147 : decode prog_10_method_7_code 147 = .ok (.getfield 25, 3) := by decide +kernel
theorem d_Mo_barred_150 : decode prog_10_method_7_code 150 = .ok (.bipush 12, 2) := by decide +kernel
theorem d_Mo_barred_152 : decode prog_10_method_7_code 152 = .ok (.iload_n 1, 1) := by decide +kernel
theorem d_Mo_barred_153 : decode prog_10_method_7_code 153 = .ok (.imul, 1) := by decide +kernel
theorem d_Mo_barred_154 : decode prog_10_method_7_code 154 = .ok (.aload_n 0, 1) := by decide +kernel
theorem d_Mo_barred_155 : decode prog_10_method_7_code 155 = .ok (.getfield 16, 3) := by decide +kernel
theorem d_Mo_barred_158 : decode prog_10_method_7_code 158 = .ok (.iload_n 1, 1) := by decide +kernel
theorem d_Mo_barred_159 : decode prog_10_method_7_code 159 = .ok (.iaload, 1) := by decide +kernel
theorem d_Mo_barred_160 : decode prog_10_method_7_code 160 = .ok (.iadd, 1) := by decide +kernel
theorem d_Mo_barred_161 : decode prog_10_method_7_code 161 = .ok (.iconst 1, 1) := by decide +kernel
theorem d_Mo_barred_162 : decode prog_10_method_7_code 162 = .ok (.isub, 1) := by decide +kernel
theorem d_Mo_barred_163 : decode prog_10_method_7_code 163 = .ok (.iaload, 1) := by decide +kernel
theorem d_Mo_barred_164 : decode prog_10_method_7_code 164 = .ok (.iload_n 2, 1) := by decide +kernel
theorem d_Mo_barred_165 : decode prog_10_method_7_code 165 = .ok (.if_icmp .ne 7, 3) := by decide +kernel
theorem d_Mo_barred_168 : decode prog_10_method_7_code 168 = .ok (.iconst 1, 1) := by decide +kernel
theorem d_Mo_barred_169 : decode prog_10_method_7_code 169 = .ok (.goto 4, 3) := by decide +kernel
theorem d_Mo_barred_172 : decode prog_10_method_7_code 172 = .ok (.iconst 0, 1) := by decide +kernel
theorem d_Mo_barred_173 : decode prog_10_method_7_code 173 = .ok (.istore 7, 2) := by decide +kernel
theorem d_Mo_barred_175 : decode prog_10_method_7_code 175 = .ok (.aload_n 0, 1) := by decide +kernel
theorem d_Mo_barred_176 : decode prog_10_method_7_code 176 = .ok (.getfield 19, 3) := by decide +kernel
theorem d_Mo_barred_179 : decode prog_10_method_7_code 179 = .ok (.iload_n 1, 1) := by decide +kernel
theorem d_Mo_barred_180 : decode prog_10_method_7_code 180 = .ok (.iaload, 1) := by decide +kernel
theorem d_Mo_barred_181 : decode prog_10_method_7_code 181 = .ok (.iload 6, 2) := by decide +kernel
theorem d_Mo_barred_183 : decode prog_10_method_7_code 183 = .ok (.iadd, 1) := by decide +kernel
theorem d_Mo_barred_184 : decode prog_10_method_7_code 184 = .ok (.bipush 20, 2) := by decide +kernel
theorem d_Mo_barred_186 : decode prog_10_method_7_code 186 = .ok (.if_icmp .gt 19, 3) := by decide +kernel
theorem d_Mo_barred_189 : decode prog_10_method_7_code 189 = .ok (.aload_n 0, 1) := by decide +kernel
theorem d_Mo_barred_190 : decode prog_10_method_7_code 190 = .ok (.getfield 16, 3) := by decide +kernel
theorem d_Mo_barred_193 : decode prog_10_method_7_code 193 = .ok (.iload_n 1, 1) := by decide +kernel
theorem d_Mo_barred_194 : decode prog_10_method_7_code 194 = .ok (.iaload, 1) := by decide +kernel
theorem d_Mo_barred_195 : decode prog_10_method_7_code 195 = .ok (.bipush 12, 2) := by decide +kernel
theorem d_Mo_barred_197 : decode prog_10_method_7_code 197 = .ok (.if_icmp .ne 12, 3) := by decide +kernel
theorem d_Mo_barred_200 : decode prog_10_method_7_code 200 = .ok (.iload 7, 2) := by decide +kernel
theorem d_Mo_barred_202 : decode prog_10_method_7_code 202 = .ok (.ifCond .ne 7, 3) := by decide +kernel
theorem d_Mo_barred_205 : decode prog_10_method_7_code 205 = .ok (.iconst 2, 1) := by decide +kernel
theorem d_Mo_barred_206 : decode prog_10_method_7_code 206 = .ok (.goto 4, 3) := by decide +kernel
theorem d_Mo_barred_209 : decode prog_10_method_7_code 209 = .ok (.iconst 0, 1) := by decide +kernel
theorem d_Mo_barred_210 : decode prog_10_method_7_code 210 = .ok (.ireturn, 1) := by decide +kernel
theorem d_Mo_append_0 : decode prog_10_method_8_code 0 = .ok (.iload_n 2, 1) := by decide +kernel
theorem d_Mo_append_1 : decode prog_10_method_8_code 1 = .ok (.ifCond .eq 8, 3) := by decide +kernel
theorem d_Mo_append_4 : decode prog_10_method_8_code 4 = .ok (.iload_n 2, 1) := by decide +kernel
theorem d_Mo_append_5 : decode prog_10_method_8_code 5 = .ok (.iconst 3, 1) := by decide +kernel
theorem d_Mo_append_6 : decode prog_10_method_8_code 6 = .ok (.if_icmp .ne 7, 3) := by decide +kernel
theorem d_Mo_append_9 : decode prog_10_method_8_code 9 = .ok (.iconst 1, 1) := by decide +kernel
theorem d_Mo_append_10 : decode prog_10_method_8_code 10 = .ok (.goto 4, 3) := by decide +kernel
theorem d_Mo_append_13 : decode prog_10_method_8_code 13 = .ok (.iconst 0, 1) := by decide +kernel
theorem d_Mo_append_14 : decode prog_10_method_8_code 14 = .ok (.istore 4, 2) := by decide +kernel
theorem d_Mo_append_16 : decode prog_10_method_8_code 16 = .ok (.iload 4, 2) := by decide +kernel
theorem d_Mo_append_18 : decode prog_10_method_8_code 18 = .ok (.ifCond .eq 38, 3) := by decide +kernel
theorem d_Mo_append_21 : decode prog_10_method_8_code 21 = .ok (.aload_n 0, 1) := by decide +kernel
theorem d_Mo_append_22 : decode prog_10_method_8_code 22 = .ok (.getfield 16, 3) := by decide +kernel
theorem d_Mo_append_25 : decode prog_10_method_8_code 25 = .ok (.iload_n 1, 1) := by decide +kernel
theorem d_Mo_append_26 : decode prog_10_method_8_code 26 = .ok (.iaload, 1) := by decide +kernel
theorem d_Mo_append_27 : decode prog_10_method_8_code 27 = .ok (.ifCond .le 29, 3) := by decide +kernel
theorem d_Mo_append_30 : decode prog_10_method_8_code 30 = .ok (.aload_n 0, 1) := by decide +kernel
theorem d_Mo_append_31 : decode prog_10_method_8_code 31 = .ok (.getfield 25, 3) := by decide +kernel
theorem d_Mo_append_34 : decode prog_10_method_8_code 34 = .ok (.bipush 12, 2) := by decide +kernel
theorem d_Mo_append_36 : decode prog_10_method_8_code 36 = .ok (.iload_n 1, 1) := by decide +kernel
theorem d_Mo_append_37 : decode prog_10_method_8_code 37 = .ok (.imul, 1) := by decide +kernel
theorem d_Mo_append_38 : decode prog_10_method_8_code 38 = .ok (.aload_n 0, 1) := by decide +kernel
theorem d_Mo_append_39 : decode prog_10_method_8_code 39 = .ok (.getfield 16, 3) := by decide +kernel
theorem d_Mo_append_42 : decode prog_10_method_8_code 42 = .ok (.iload_n 1, 1) := by decide +kernel
theorem d_Mo_append_43 : decode prog_10_method_8_code 43 = .ok (.iaload, 1) := by decide +kernel
theorem d_Mo_append_44 : decode prog_10_method_8_code 44 = .ok (.iadd, 1) := by decide +kernel
theorem d_Mo_append_45 : decode prog_10_method_8_code 45 = .ok (.iconst 1, 1) := by decide +kernel
theorem d_Mo_append_46 : decode prog_10_method_8_code 46 = .ok (.isub, 1) := by decide +kernel
theorem d_Mo_append_47 : decode prog_10_method_8_code 47 = .ok (.iaload, 1) := by decide +kernel
theorem d_Mo_append_48 : decode prog_10_method_8_code 48 = .ok (.iload_n 2, 1) := by decide +kernel
theorem d_Mo_append_49 : decode prog_10_method_8_code 49 = .ok (.if_icmp .ne 7, 3) := by decide +kernel
theorem d_Mo_append_52 : decode prog_10_method_8_code 52 = .ok (.iconst 1, 1) := by decide +kernel
theorem d_Mo_append_53 : decode prog_10_method_8_code 53 = .ok (.goto 4, 3) := by decide +kernel
theorem d_Mo_append_56 : decode prog_10_method_8_code 56 = .ok (.iconst 0, 1) := by decide +kernel
theorem d_Mo_append_57 : decode prog_10_method_8_code 57 = .ok (.istore 5, 2) := by decide +kernel
theorem d_Mo_append_59 : decode prog_10_method_8_code 59 = .ok (.iload 5, 2) := by decide +kernel
theorem d_Mo_append_61 : decode prog_10_method_8_code 61 = .ok (.ifCond .eq 44, 3) := by decide +kernel
theorem d_Mo_append_64 : decode prog_10_method_8_code 64 = .ok (.aload_n 0, 1) := by decide +kernel
theorem d_Mo_append_65 : decode prog_10_method_8_code 65 = .ok (.getfield 28, 3) := by decide +kernel
theorem d_Mo_append_68 : decode prog_10_method_8_code 68 = .ok (.bipush 12, 2) := by decide +kernel
theorem d_Mo_append_70 : decode prog_10_method_8_code 70 = .ok (.iload_n 1, 1) := by decide +kernel
theorem d_Mo_append_71 : decode prog_10_method_8_code 71 = .ok (.imul, 1) := by decide +kernel
theorem d_Mo_append_72 : decode prog_10_method_8_code 72 = .ok (.aload_n 0, 1) := by decide +kernel
theorem d_Mo_append_73 : decode prog_10_method_8_code 73 = .ok (.getfield 16, 3) := by decide +kernel
theorem d_Mo_append_76 : decode prog_10_method_8_code 76 = .ok (.iload_n 1, 1) := by decide +kernel
theorem d_Mo_append_77 : decode prog_10_method_8_code 77 = .ok (.iaload, 1) := by decide +kernel
theorem d_Mo_append_78 : decode prog_10_method_8_code 78 = .ok (.iadd, 1) := by decide +kernel
theorem d_Mo_append_79 : decode prog_10_method_8_code 79 = .ok (.iconst 1, 1) := by decide +kernel
theorem d_Mo_append_80 : decode prog_10_method_8_code 80 = .ok (.isub, 1) := by decide +kernel
theorem d_Mo_append_81 : decode prog_10_method_8_code 81 = .ok (.aload_n 0, 1) := by decide +kernel
theorem d_Mo_append_82 : decode prog_10_method_8_code 82 = .ok (.getfield 28, 3) := by decide +kernel
theorem d_Mo_append_85 : decode prog_10_method_8_code 85 = .ok (.bipush 12, 2) := by decide +kernel
theorem d_Mo_append_87 : decode prog_10_method_8_code 87 = .ok (.iload_n 1, 1) := by decide +kernel
theorem d_Mo_append_88 : decode prog_10_method_8_code 88 = .ok (.imul, 1) := by decide +kernel
theorem d_Mo_append_89 : decode prog_10_method_8_code 89 = .ok (.aload_n 0, 1) := by decide +kernel
theorem d_Mo_append_90 : decode prog_10_method_8_code 90 = .ok (.getfield 16, 3) := by decide +kernel
theorem d_Mo_append_93 : decode prog_10_method_8_code 93 = .ok (.iload_n 1, 1) := by decide +kernel
theorem d_Mo_append_94 : decode prog_10_method_8_code 94 = .ok (.iaload, 1) := by decide +kernel
theorem d_Mo_append_95 : decode prog_10_method_8_code 95 = .ok (.iadd, 1) := by decide +kernel
theorem d_Mo_append_96 : decode prog_10_method_8_code 96 = .ok (.iconst 1, 1) := by decide +kernel
theorem d_Mo_append_97 : decode prog_10_method_8_code 97 = .ok (.isub, 1) := by decide +kernel
theorem d_Mo_append_98 : decode prog_10_method_8_code 98 = .ok (.iaload, 1) := by decide +kernel
theorem d_Mo_append_99 : decode prog_10_method_8_code 99 = .ok (.iload_n 3, 1) := by decide +kernel
theorem d_Mo_append_100 : decode prog_10_method_8_code 100 = .ok (.iadd, 1) := by decide +kernel
theorem d_Mo_append_101 : decode prog_10_method_8_code 101 = .ok (.iastore, 1) := by decide +kernel
theorem d_Mo_append_102 : decode prog_10_method_8_code 102 = .ok (.goto 47, 3) := by decide +kernel
theorem d_Mo_append_105 : decode prog_10_method_8_code 105 = .ok (.aload_n 0, 1) := by decide +kernel
theorem d_Mo_append_106 : decode prog_10_method_8_code 106 = .ok (.getfield 25, 3) := by decide +kernel
theorem d_Mo_append_109 : decode prog_10_method_8_code 109 = .ok (.bipush 12, 2) := by decide +kernel
theorem d_Mo_append_111 : decode prog_10_method_8_code 111 = .ok (.iload_n 1, 1) := by decide +kernel
theorem d_Mo_append_112 : decode prog_10_method_8_code 112 = .ok (.imul, 1) := by decide +kernel
theorem d_Mo_append_113 : decode prog_10_method_8_code 113 = .ok (.aload_n 0, 1) := by decide +kernel
theorem d_Mo_append_114 : decode prog_10_method_8_code 114 = .ok (.getfield 16, 3) := by decide +kernel
theorem d_Mo_append_117 : decode prog_10_method_8_code 117 = .ok (.iload_n 1, 1) := by decide +kernel
theorem d_Mo_append_118 : decode prog_10_method_8_code 118 = .ok (.iaload, 1) := by decide +kernel
theorem d_Mo_append_119 : decode prog_10_method_8_code 119 = .ok (.iadd, 1) := by decide +kernel
theorem d_Mo_append_120 : decode prog_10_method_8_code 120 = .ok (.iload_n 2, 1) := by decide +kernel
theorem d_Mo_append_121 : decode prog_10_method_8_code 121 = .ok (.iastore, 1) := by decide +kernel
theorem d_Mo_append_122 : decode prog_10_method_8_code 122 = .ok (.aload_n 0, 1) := by decide +kernel
theorem d_Mo_append_123 : decode prog_10_method_8_code 123 = .ok (.getfield 28, 3) := by decide +kernel
theorem d_Mo_append_126 : decode prog_10_method_8_code 126 = .ok (.bipush 12, 2) := by decide +kernel
theorem d_Mo_append_128 : decode prog_10_method_8_code 128 = .ok (.iload_n 1, 1) := by decide +kernel
theorem d_Mo_append_129 : decode prog_10_method_8_code 129 = .ok (.imul, 1) := by decide +kernel
theorem d_Mo_append_130 : decode prog_10_method_8_code 130 = .ok (.aload_n 0, 1) := by decide +kernel
theorem d_Mo_append_131 : decode prog_10_method_8_code 131 = .ok (.getfield 16, 3) := by decide +kernel
theorem d_Mo_append_134 : decode prog_10_method_8_code 134 = .ok (.iload_n 1, 1) := by decide +kernel
theorem d_Mo_append_135 : decode prog_10_method_8_code 135 = .ok (.iaload, 1) := by decide +kernel
theorem d_Mo_append_136 : decode prog_10_method_8_code 136 = .ok (.iadd, 1) := by decide +kernel
theorem d_Mo_append_137 : decode prog_10_method_8_code 137 = .ok (.iload_n 3, 1) := by decide +kernel
theorem d_Mo_append_138 : decode prog_10_method_8_code 138 = .ok (.iastore, 1) := by decide +kernel
theorem d_Mo_append_139 : decode prog_10_method_8_code 139 = .ok (.aload_n 0, 1) := by decide +kernel
theorem d_Mo_append_140 : decode prog_10_method_8_code 140 = .ok (.getfield 16, 3) := by decide +kernel
theorem d_Mo_append_143 : decode prog_10_method_8_code 143 = .ok (.iload_n 1, 1) := by decide +kernel
theorem d_Mo_append_144 : decode prog_10_method_8_code 144 = .ok (.dup2, 1) := by decide +kernel
theorem d_Mo_append_145 : decode prog_10_method_8_code 145 = .ok (.iaload, 1) := by decide +kernel
theorem d_Mo_append_146 : decode prog_10_method_8_code 146 = .ok (.iconst 1, 1) := by decide +kernel
theorem d_Mo_append_147 : decode prog_10_method_8_code 147 = .ok (.iadd, 1) := by decide +kernel
theorem d_Mo_append_148 : decode prog_10_method_8_code 148 = .ok (.iastore, 1) := by decide +kernel
theorem d_Mo_append_149 : decode prog_10_method_8_code 149 = .ok (.aload_n 0, 1) := by decide +kernel
theorem d_Mo_append_150 : decode prog_10_method_8_code 150 = .ok (.getfield 19, 3) := by decide +kernel
theorem d_Mo_append_153 : decode prog_10_method_8_code 153 = .ok (.iload_n 1, 1) := by decide +kernel
theorem d_Mo_append_154 : decode prog_10_method_8_code 154 = .ok (.iload_n 2, 1) := by decide +kernel
theorem d_Mo_append_155 : decode prog_10_method_8_code 155 = .ok (.ifCond .ne 14, 3) := by decide +kernel
theorem d_Mo_append_158 : decode prog_10_method_8_code 158 = .ok (.aload_n 0, 1) := by decide +kernel
theorem d_Mo_append_159 : decode prog_10_method_8_code 159 = .ok (.getfield 19, 3) := by decide +kernel
theorem d_Mo_append_162 : decode prog_10_method_8_code 162 = .ok (.iload_n 1, 1) := by decide +kernel
theorem d_Mo_append_163 : decode prog_10_method_8_code 163 = .ok (.iaload, 1) := by decide +kernel
theorem d_Mo_append_164 : decode prog_10_method_8_code 164 = .ok (.iload_n 3, 1) := by decide +kernel
theorem d_Mo_append_165 : decode prog_10_method_8_code 165 = .ok (.iadd, 1) := by decide +kernel
theorem d_Mo_append_166 : decode prog_10_method_8_code 166 = .ok (.goto 25, 3) := by decide +kernel
theorem d_Mo_append_169 : decode prog_10_method_8_code 169 = .ok (.iload_n 2, 1) := by decide +kernel
theorem d_Mo_append_170 : decode prog_10_method_8_code 170 = .ok (.iconst 3, 1) := by decide +kernel
theorem d_Mo_append_171 : decode prog_10_method_8_code 171 = .ok (.if_icmp .ne 12, 3) := by decide +kernel
theorem d_Mo_append_174 : decode prog_10_method_8_code 174 = .ok (.aload_n 0, 1) := by decide +kernel
theorem d_Mo_append_175 : decode prog_10_method_8_code 175 = .ok (.getfield 19, 3) := by decide +kernel
theorem d_Mo_append_178 : decode prog_10_method_8_code 178 = .ok (.iload_n 1, 1) := by decide +kernel
theorem d_Mo_append_179 : decode prog_10_method_8_code 179 = .ok (.iaload, 1) := by decide +kernel
theorem d_Mo_append_180 : decode prog_10_method_8_code 180 = .ok (.goto 11, 3) := by decide +kernel
theorem d_Mo_append_183 : decode prog_10_method_8_code 183 = .ok (.aload_n 0, 1) := by decide +kernel
theorem d_Mo_append_184 : decode prog_10_method_8_code 184 = .ok (.getfield 19, 3) := by decide +kernel
theorem d_Mo_append_187 : decode prog_10_method_8_code 187 = .ok (.iload_n 1, 1) := by decide +kernel
theorem d_Mo_append_188 : decode prog_10_method_8_code 188 = .ok (.iaload, 1) := by decide +kernel
theorem d_Mo_append_189 : decode prog_10_method_8_code 189 = .ok (.iconst 1, 1) := by decide +kernel
theorem d_Mo_append_190 : decode prog_10_method_8_code 190 = .ok (.iadd, 1) := by decide +kernel
theorem d_Mo_append_191 : decode prog_10_method_8_code 191 = .ok (.iastore, 1) := by decide +kernel
theorem d_Mo_append_192 : decode prog_10_method_8_code 192 = .ok (.aload_n 0, 1) := by decide +kernel
theorem d_Mo_append_193 : decode prog_10_method_8_code 193 = .ok (.getfield 22, 3) := by decide +kernel
theorem d_Mo_append_196 : decode prog_10_method_8_code 196 = .ok (.iload_n 1, 1) := by decide +kernel
theorem d_Mo_append_197 : decode prog_10_method_8_code 197 = .ok (.iload 4, 2) := by decide +kernel
theorem d_Mo_append_199 : decode prog_10_method_8_code 199 = .ok (.ifCond .eq 14, 3) := by decide +kernel
theorem d_Mo_append_202 : decode prog_10_method_8_code 202 = .ok (.aload_n 0, 1) := by decide +kernel
theorem d_Mo_append_203 : decode prog_10_method_8_code 203 = .ok (.getfield 22, 3) := by decide +kernel
theorem d_Mo_append_206 : decode prog_10_method_8_code 206 = .ok (.iload_n 1, 1) := by decide +kernel
theorem d_Mo_append_207 : decode prog_10_method_8_code 207 = .ok (.iaload, 1) := by decide +kernel
theorem d_Mo_append_208 : decode prog_10_method_8_code 208 = .ok (.iload_n 3, 1) := by decide +kernel
theorem d_Mo_append_209 : decode prog_10_method_8_code 209 = .ok (.iadd, 1) := by decide +kernel
theorem d_Mo_append_210 : decode prog_10_method_8_code 210 = .ok (.goto 25, 3) := by decide +kernel
theorem d_Mo_append_213 : decode prog_10_method_8_code 213 = .ok (.iload_n 2, 1) := by decide +kernel
theorem d_Mo_append_214 : decode prog_10_method_8_code 214 = .ok (.iconst 1, 1) := by decide +kernel
theorem d_Mo_append_215 : decode prog_10_method_8_code 215 = .ok (.if_icmp .ne 14, 3) := by decide +kernel
theorem d_Mo_append_218 : decode prog_10_method_8_code 218 = .ok (.aload_n 0, 1) := by decide +kernel
theorem d_Mo_append_219 : decode prog_10_method_8_code 219 = .ok (.getfield 22, 3) := by decide +kernel
theorem d_Mo_append_222 : decode prog_10_method_8_code 222 = .ok (.iload_n 1, 1) := by decide +kernel
theorem d_Mo_append_223 : decode prog_10_method_8_code 223 = .ok (.iaload, 1) := by decide +kernel
theorem d_Mo_append_224 : decode prog_10_method_8_code 224 = .ok (.iconst 1, 1) := by decide +kernel
theorem d_Mo_append_225 : decode prog_10_method_8_code 225 = .ok (.iadd, 1) := by decide +kernel
theorem d_Mo_append_226 : decode prog_10_method_8_code 226 = .ok (.goto 9, 3) := by decide +kernel
theorem d_Mo_append_229 : decode prog_10_method_8_code 229 = .ok (.aload_n 0, 1) := by decide +kernel
theorem d_Mo_append_230 : decode prog_10_method_8_code 230 = .ok (.getfield 22, 3) := by decide +kernel
theorem d_Mo_append_233 : decode prog_10_method_8_code 233 = .ok (.iload_n 1, 1) := by decide +kernel
theorem d_Mo_append_234 : decode prog_10_method_8_code 234 = .ok (.iaload, 1) := by decide +kernel
theorem d_Mo_append_235 : decode prog_10_method_8_code 235 = .ok (.iastore, 1) := by decide +kernel
theorem d_Mo_append_236 : decode prog_10_method_8_code 236 = .ok (.return_, 1) := by decide +kernel
theorem d_Mo_finish_0 : decode prog_10_method_11_code 0 = .ok (.aload_n 0, 1) := by decide +kernel
theorem d_Mo_finish_1 : decode prog_10_method_11_code 1 = .ok (.aload_n 0, 1) := by decide +kernel
theorem d_Mo_finish_2 : decode prog_10_method_11_code 2 = .ok (.getfield 53, 3) := by decide +kernel
theorem d_Mo_finish_5 : decode prog_10_method_11_code 5 = .ok (.ifCond .eq 13, 3) := by decide +kernel
theorem d_Mo_finish_8 : decode prog_10_method_11_code 8 = .ok (.aload_n 0, 1) := by decide +kernel
theorem d_Mo_finish_9 : decode prog_10_method_11_code 9 = .ok (.getfield 19, 3) := by decide +kernel
theorem d_Mo_finish_12 : decode prog_10_method_11_code 12 = .ok (.bipush 30, 2) := by decide +kernel
theorem d_Mo_finish_14 : decode prog_10_method_11_code 14 = .ok (.iaload, 1) := by decide +kernel
theorem d_Mo_finish_15 : decode prog_10_method_11_code 15 = .ok (.ifCond .ne 7, 3) := by decide +kernel
theorem d_Mo_finish_18 : decode prog_10_method_11_code 18 = .ok (.iconst 1, 1) := by decide +kernel
theorem d_Mo_finish_19 : decode prog_10_method_11_code 19 = .ok (.goto 17, 3) := by decide +kernel
theorem d_Mo_finish_22 : decode prog_10_method_11_code 22 = .ok (.aload_n 0, 1) := by decide +kernel
theorem d_Mo_finish_23 : decode prog_10_method_11_code 23 = .ok (.getfield 50, 3) := by decide +kernel
theorem d_Mo_finish_26 : decode prog_10_method_11_code 26 = .ok (.bipush 24, 2) := by decide +kernel
theorem d_Mo_finish_28 : decode prog_10_method_11_code 28 = .ok (.if_icmp .ne 7, 3) := by decide +kernel
theorem d_Mo_finish_31 : decode prog_10_method_11_code 31 = .ok (.iconst 2, 1) := by decide +kernel
theorem d_Mo_finish_32 : decode prog_10_method_11_code 32 = .ok (.goto 4, 3) := by decide +kernel
theorem d_Mo_finish_35 : decode prog_10_method_11_code 35 = .ok (.iconst 0, 1) := by decide +kernel
theorem d_Mo_finish_36 : decode prog_10_method_11_code 36 = .ok (.putfield 46, 3) := by decide +kernel
theorem d_Mo_finish_39 : decode prog_10_method_11_code 39 = .ok (.aload_n 0, 1) := by decide +kernel
theorem d_Mo_finish_40 : decode prog_10_method_11_code 40 = .ok (.getfield 46, 3) := by decide +kernel
theorem d_Mo_finish_43 : decode prog_10_method_11_code 43 = .ok (.ifCond .le 5, 3) := by decide +kernel
theorem d_Mo_finish_46 : decode prog_10_method_11_code 46 = .ok (.iconst 0, 1) := by decide +kernel
theorem d_Mo_finish_47 : decode prog_10_method_11_code 47 = .ok (.ireturn, 1) := by decide +kernel
theorem d_Mo_finish_48 : decode prog_10_method_11_code 48 = .ok (.aload_n 0, 1) := by decide +kernel
theorem d_Mo_finish_49 : decode prog_10_method_11_code 49 = .ok (.bipush 30, 2) := by decide +kernel
theorem d_Mo_finish_51 : decode prog_10_method_11_code 51 = .ok (.aload_n 0, 1) := by decide +kernel
theorem d_Mo_finish_52 : decode prog_10_method_11_code 52 = .ok (.getfield 50, 3) := by decide +kernel
theorem d_Mo_finish_55 : decode prog_10_method_11_code 55 = .ok (.invokevirtual 75, 3) := by decide +kernel
theorem d_Mo_finish_58 : decode prog_10_method_11_code 58 = .ok (.aload_n 0, 1) := by decide +kernel
theorem d_Mo_finish_59 : decode prog_10_method_11_code 59 = .ok (.iconst 0, 1) := by decide +kernel
theorem d_Mo_finish_60 : decode prog_10_method_11_code 60 = .ok (.putfield 53, 3) := by decide +kernel
theorem d_Mo_finish_63 : decode prog_10_method_11_code 63 = .ok (.aload_n 0, 1) := by decide +kernel
theorem d_Mo_finish_64 : decode prog_10_method_11_code 64 = .ok (.dup, 1) := by decide +kernel
theorem d_Mo_finish_65 : decode prog_10_method_11_code 65 = .ok (.getfield 50, 3) := by decide +kernel
theorem d_Mo_finish_68 : decode prog_10_method_11_code 68 = .ok (.iconst 1, 1) := by decide +kernel
theorem d_Mo_finish_69 : decode prog_10_method_11_code 69 = .ok (.iadd, 1) := by decide +kernel
theorem d_Mo_finish_70 : decode prog_10_method_11_code 70 = .ok (.putfield 50, 3) := by decide +kernel
theorem d_Mo_finish_73 : decode prog_10_method_11_code 73 = .ok (.aload_n 0, 1) := by decide +kernel
theorem d_Mo_finish_74 : decode prog_10_method_11_code 74 = .ok (.getfield 50, 3) := by decide +kernel
theorem d_Mo_finish_77 : decode prog_10_method_11_code 77 = .ok (.iconst 1, 1) := by decide +kernel
theorem d_Mo_finish_78 : decode prog_10_method_11_code 78 = .ok (.isub, 1) := by decide +kernel
theorem d_Mo_finish_79 : decode prog_10_method_11_code 79 = .ok (.ireturn, 1) := by decide +kernel
theorem d_Mo_copy_0 : decode prog_10_method_10_code 0 = .ok (.aload_n 0, 1) := by decide +kernel
theorem d_Mo_copy_1 : decode prog_10_method_10_code 1 = .ok (.getfield 13, 3) := by decide +kernel
theorem d_Mo_copy_4 : decode prog_10_method_10_code 4 = .ok (.iload_n 2, 1) := by decide +kernel
theorem d_Mo_copy_5 : decode prog_10_method_10_code 5 = .ok (.aload_n 0, 1) := by decide +kernel
theorem d_Mo_copy_6 : decode prog_10_method_10_code 6 = .ok (.getfield 13, 3) := by decide +kernel
theorem d_Mo_copy_9 : decode prog_10_method_10_code 9 = .ok (.iload_n 1, 1) := by decide +kernel
theorem d_Mo_copy_10 : decode prog_10_method_10_code 10 = .ok (.iaload, 1) := by decide +kernel
theorem d_Mo_copy_11 : decode prog_10_method_10_code 11 = .ok (.iastore, 1) := by decide +kernel
theorem d_Mo_copy_12 : decode prog_10_method_10_code 12 = .ok (.aload_n 0, 1) := by decide +kernel
theorem d_Mo_copy_13 : decode prog_10_method_10_code 13 = .ok (.getfield 16, 3) := by decide +kernel
theorem d_Mo_copy_16 : decode prog_10_method_10_code 16 = .ok (.iload_n 2, 1) := by decide +kernel
theorem d_Mo_copy_17 : decode prog_10_method_10_code 17 = .ok (.aload_n 0, 1) := by decide +kernel
theorem d_Mo_copy_18 : decode prog_10_method_10_code 18 = .ok (.getfield 16, 3) := by decide +kernel
theorem d_Mo_copy_21 : decode prog_10_method_10_code 21 = .ok (.iload_n 1, 1) := by decide +kernel
theorem d_Mo_copy_22 : decode prog_10_method_10_code 22 = .ok (.iaload, 1) := by decide +kernel
theorem d_Mo_copy_23 : decode prog_10_method_10_code 23 = .ok (.iastore, 1) := by decide +kernel
theorem d_Mo_copy_24 : decode prog_10_method_10_code 24 = .ok (.aload_n 0, 1) := by decide +kernel
theorem d_Mo_copy_25 : decode prog_10_method_10_code 25 = .ok (.getfield 19, 3) := by decide +kernel
theorem d_Mo_copy_28 : decode prog_10_method_10_code 28 = .ok (.iload_n 2, 1) := by decide +kernel
theorem d_Mo_copy_29 : decode prog_10_method_10_code 29 = .ok (.aload_n 0, 1) := by decide +kernel
theorem d_Mo_copy_30 : decode prog_10_method_10_code 30 = .ok (.getfield 19, 3) := by decide +kernel
theorem d_Mo_copy_33 : decode prog_10_method_10_code 33 = .ok (.iload_n 1, 1) := by decide +kernel
theorem d_Mo_copy_34 : decode prog_10_method_10_code 34 = .ok (.iaload, 1) := by decide +kernel
theorem d_Mo_copy_35 : decode prog_10_method_10_code 35 = .ok (.iastore, 1) := by decide +kernel
theorem d_Mo_copy_36 : decode prog_10_method_10_code 36 = .ok (.aload_n 0, 1) := by decide +kernel
theorem d_Mo_copy_37 : decode prog_10_method_10_code 37 = .ok (.getfield 22, 3) := by decide +kernel
theorem d_Mo_copy_40 : decode prog_10_method_10_code 40 = .ok (.iload_n 2, 1) := by decide +kernel
theorem d_Mo_copy_41 : decode prog_10_method_10_code 41 = .ok (.aload_n 0, 1) := by decide +kernel
theorem d_Mo_copy_42 : decode prog_10_method_10_code 42 = .ok (.getfield 22, 3) := by decide +kernel
theorem d_Mo_copy_45 : decode prog_10_method_10_code 45 = .ok (.iload_n 1, 1) := by decide +kernel
theorem d_Mo_copy_46 : decode prog_10_method_10_code 46 = .ok (.iaload, 1) := by decide +kernel
theorem d_Mo_copy_47 : decode prog_10_method_10_code 47 = .ok (.iastore, 1) := by decide +kernel
theorem d_Mo_copy_48 : decode prog_10_method_10_code 48 = .ok (.iconst 0, 1) := by decide +kernel
theorem d_Mo_copy_49 : decode prog_10_method_10_code 49 = .ok (.istore_n 3, 1) := by decide +kernel
theorem d_Mo_copy_50 : decode prog_10_method_10_code 50 = .ok (.iload_n 3, 1) := by decide +kernel
theorem d_Mo_copy_51 : decode prog_10_method_10_code 51 = .ok (.bipush 12, 2) := by decide +kernel
theorem d_Mo_copy_53 : decode prog_10_method_10_code 53 = .ok (.if_icmp .ge 53, 3) := by decide +kernel
theorem d_Mo_copy_56 : decode prog_10_method_10_code 56 = .ok (.aload_n 0, 1) := by decide +kernel
theorem d_Mo_copy_57 : decode prog_10_method_10_code 57 = .ok (.getfield 25, 3) := by decide +kernel
theorem d_Mo_copy_60 : decode prog_10_method_10_code 60 = .ok (.bipush 12, 2) := by decide +kernel
theorem d_Mo_copy_62 : decode prog_10_method_10_code 62 = .ok (.iload_n 2, 1) := by decide +kernel
theorem d_Mo_copy_63 : decode prog_10_method_10_code 63 = .ok (.imul, 1) := by decide +kernel
theorem d_Mo_copy_64 : decode prog_10_method_10_code 64 = .ok (.iload_n 3, 1) := by decide +kernel
theorem d_Mo_copy_65 : decode prog_10_method_10_code 65 = .ok (.iadd, 1) := by decide +kernel
theorem d_Mo_copy_66 : decode prog_10_method_10_code 66 = .ok (.aload_n 0, 1) := by decide +kernel
theorem d_Mo_copy_67 : decode prog_10_method_10_code 67 = .ok (.getfield 25, 3) := by decide +kernel
theorem d_Mo_copy_70 : decode prog_10_method_10_code 70 = .ok (.bipush 12, 2) := by decide +kernel
theorem d_Mo_copy_72 : decode prog_10_method_10_code 72 = .ok (.iload_n 1, 1) := by decide +kernel
theorem d_Mo_copy_73 : decode prog_10_method_10_code 73 = .ok (.imul, 1) := by decide +kernel
theorem d_Mo_copy_74 : decode prog_10_method_10_code 74 = .ok (.iload_n 3, 1) := by decide +kernel
theorem d_Mo_copy_75 : decode prog_10_method_10_code 75 = .ok (.iadd, 1) := by decide +kernel
theorem d_Mo_copy_76 : decode prog_10_method_10_code 76 = .ok (.iaload, 1) := by decide +kernel
theorem d_Mo_copy_77 : decode prog_10_method_10_code 77 = .ok (.iastore, 1) := by decide +kernel
theorem d_Mo_copy_78 : decode prog_10_method_10_code 78 = .ok (.aload_n 0, 1) := by decide +kernel
theorem d_Mo_copy_79 : decode prog_10_method_10_code 79 = .ok (.getfield 28, 3) := by decide +kernel
theorem d_Mo_copy_82 : decode prog_10_method_10_code 82 = .ok (.bipush 12, 2) := by decide +kernel
theorem d_Mo_copy_84 : decode prog_10_method_10_code 84 = .ok (.iload_n 2, 1) := by decide +kernel
theorem d_Mo_copy_85 : decode prog_10_method_10_code 85 = .ok (.imul, 1) := by decide +kernel
theorem d_Mo_copy_86 : decode prog_10_method_10_code 86 = .ok (.iload_n 3, 1) := by decide +kernel
theorem d_Mo_copy_87 : decode prog_10_method_10_code 87 = .ok (.iadd, 1) := by decide +kernel
theorem d_Mo_copy_88 : decode prog_10_method_10_code 88 = .ok (.aload_n 0, 1) := by decide +kernel
theorem d_Mo_copy_89 : decode prog_10_method_10_code 89 = .ok (.getfield 28, 3) := by decide +kernel
theorem d_Mo_copy_92 : decode prog_10_method_10_code 92 = .ok (.bipush 12, 2) := by decide +kernel
theorem d_Mo_copy_94 : decode prog_10_method_10_code 94 = .ok (.iload_n 1, 1) := by decide +kernel
theorem d_Mo_copy_95 : decode prog_10_method_10_code 95 = .ok (.imul, 1) := by decide +kernel
theorem d_Mo_copy_96 : decode prog_10_method_10_code 96 = .ok (.iload_n 3, 1) := by decide +kernel
theorem d_Mo_copy_97 : decode prog_10_method_10_code 97 = .ok (.iadd, 1) := by decide +kernel
theorem d_Mo_copy_98 : decode prog_10_method_10_code 98 = .ok (.iaload, 1) := by decide +kernel
theorem d_Mo_copy_99 : decode prog_10_method_10_code 99 = .ok (.iastore, 1) := by decide +kernel
theorem d_Mo_copy_100 : decode prog_10_method_10_code 100 = .ok (.iinc 3 1, 3) := by decide +kernel
theorem d_Mo_copy_103 : decode prog_10_method_10_code 103 = .ok (.goto (-53), 3) := by decide +kernel
theorem d_Mo_copy_106 : decode prog_10_method_10_code 106 = .ok (.return_, 1) := by decide +kernel
theorem d_Mo_reads_0 : decode prog_10_method_12_code 0 = .ok (.aload_n 0, 1) := by decide +kernel
theorem d_Mo_reads_1 : decode prog_10_method_12_code 1 = .ok (.iconst 0, 1) := by decide +kernel
theorem d_Mo_reads_2 : decode prog_10_method_12_code 2 = .ok (.putfield 46, 3) := by decide +kernel
theorem d_Mo_reads_5 : decode prog_10_method_12_code 5 = .ok (.aload_n 0, 1) := by decide +kernel
theorem d_Mo_reads_6 : decode prog_10_method_12_code 6 = .ok (.getfield 50, 3) := by decide +kernel
theorem d_Mo_reads_9 : decode prog_10_method_12_code 9 = .ok (.ireturn, 1) := by decide +kernel
theorem d_Mo_about_0 : decode prog_10_method_14_code 0 = .ok (.aload_n 0, 1) := by decide +kernel
theorem d_Mo_about_1 : decode prog_10_method_14_code 1 = .ok (.aload_n 0, 1) := by decide +kernel
theorem d_Mo_about_2 : decode prog_10_method_14_code 2 = .ok (.iload_n 1, 1) := by decide +kernel
theorem d_Mo_about_3 : decode prog_10_method_14_code 3 = .ok (.iload_n 3, 1) := by decide +kernel
theorem d_Mo_about_4 : decode prog_10_method_14_code 4 = .ok (.invokevirtual 78, 3) := by decide +kernel
theorem d_Mo_about_7 : decode prog_10_method_14_code 7 = .ok (.ifCond .eq 7, 3) := by decide +kernel
theorem d_Mo_about_10 : decode prog_10_method_14_code 10 = .ok (.iconst 1, 1) := by decide +kernel
theorem d_Mo_about_11 : decode prog_10_method_14_code 11 = .ok (.goto 17, 3) := by decide +kernel
theorem d_Mo_about_14 : decode prog_10_method_14_code 14 = .ok (.iload_n 2, 1) := by decide +kernel
theorem d_Mo_about_15 : decode prog_10_method_14_code 15 = .ok (.ifCond .lt 8, 3) := by decide +kernel
theorem d_Mo_about_18 : decode prog_10_method_14_code 18 = .ok (.iload_n 2, 1) := by decide +kernel
theorem d_Mo_about_19 : decode prog_10_method_14_code 19 = .ok (.iconst 3, 1) := by decide +kernel
theorem d_Mo_about_20 : decode prog_10_method_14_code 20 = .ok (.if_icmp .le 7, 3) := by decide +kernel
theorem d_Mo_about_23 : decode prog_10_method_14_code 23 = .ok (.iconst 2, 1) := by decide +kernel
theorem d_Mo_about_24 : decode prog_10_method_14_code 24 = .ok (.goto 4, 3) := by decide +kernel
theorem d_Mo_about_27 : decode prog_10_method_14_code 27 = .ok (.iconst 0, 1) := by decide +kernel
theorem d_Mo_about_28 : decode prog_10_method_14_code 28 = .ok (.putfield 46, 3) := by decide +kernel
theorem d_Mo_about_31 : decode prog_10_method_14_code 31 = .ok (.aload_n 0, 1) := by decide +kernel
theorem d_Mo_about_32 : decode prog_10_method_14_code 32 = .ok (.getfield 46, 3) := by decide +kernel
theorem d_Mo_about_35 : decode prog_10_method_14_code 35 = .ok (.ifCond .le 5, 3) := by decide +kernel
theorem d_Mo_about_38 : decode prog_10_method_14_code 38 = .ok (.iconst 0, 1) := by decide +kernel
theorem d_Mo_about_39 : decode prog_10_method_14_code 39 = .ok (.ireturn, 1) := by decide +kernel
theorem d_Mo_about_40 : decode prog_10_method_14_code 40 = .ok (.iload_n 3, 1) := by decide +kernel
theorem d_Mo_about_41 : decode prog_10_method_14_code 41 = .ok (.ifCond .eq 10, 3) := by decide +kernel
theorem d_Mo_about_44 : decode prog_10_method_14_code 44 = .ok (.bipush 24, 2) := by decide +kernel
theorem d_Mo_about_46 : decode prog_10_method_14_code 46 = .ok (.iload_n 1, 1) := by decide +kernel
theorem d_Mo_about_47 : decode prog_10_method_14_code 47 = .ok (.iadd, 1) := by decide +kernel
theorem d_Mo_about_48 : decode prog_10_method_14_code 48 = .ok (.goto 4, 3) := by decide +kernel
theorem d_Mo_about_51 : decode prog_10_method_14_code 51 = .ok (.iload_n 1, 1) := by decide +kernel
theorem d_Mo_about_52 : decode prog_10_method_14_code 52 = .ok (.istore 4, 2) := by decide +kernel
theorem d_Mo_about_54 : decode prog_10_method_14_code 54 = .ok (.iload_n 2, 1) := by decide +kernel
theorem d_Mo_about_55 : decode prog_10_method_14_code 55 = .ok (.ifCond .ne 13, 3) := by decide +kernel
theorem d_Mo_about_58 : decode prog_10_method_14_code 58 = .ok (.aload_n 0, 1) := by decide +kernel
theorem d_Mo_about_59 : decode prog_10_method_14_code 59 = .ok (.getfield 13, 3) := by decide +kernel
theorem d_Mo_about_62 : decode prog_10_method_14_code 62 = .ok (.iload 4, 2) := by decide +kernel
theorem d_Mo_about_64 : decode prog_10_method_14_code 64 = .ok (.iaload, 1) := by decide +kernel
theorem d_Mo_about_65 : decode prog_10_method_14_code 65 = .ok (.goto 40, 3) := by decide +kernel
theorem d_Mo_about_68 : decode prog_10_method_14_code 68 = .ok (.iload_n 2, 1) := by decide +kernel
theorem d_Mo_about_69 : decode prog_10_method_14_code 69 = .ok (.iconst 1, 1) := by decide +kernel
theorem d_Mo_about_70 : decode prog_10_method_14_code 70 = .ok (.if_icmp .ne 13, 3) := by decide +kernel
theorem d_Mo_about_73 : decode prog_10_method_14_code 73 = .ok (.aload_n 0, 1) := by decide +kernel
theorem d_Mo_about_74 : decode prog_10_method_14_code 74 = .ok (.getfield 19, 3) := by decide +kernel
theorem d_Mo_about_77 : decode prog_10_method_14_code 77 = .ok (.iload 4, 2) := by decide +kernel
theorem d_Mo_about_79 : decode prog_10_method_14_code 79 = .ok (.iaload, 1) := by decide +kernel
theorem d_Mo_about_80 : decode prog_10_method_14_code 80 = .ok (.goto 25, 3) := by decide +kernel
theorem d_Mo_about_83 : decode prog_10_method_14_code 83 = .ok (.iload_n 2, 1) := by decide +kernel
theorem d_Mo_about_84 : decode prog_10_method_14_code 84 = .ok (.iconst 2, 1) := by decide +kernel
theorem d_Mo_about_85 : decode prog_10_method_14_code 85 = .ok (.if_icmp .ne 13, 3) := by decide +kernel
theorem d_Mo_about_88 : decode prog_10_method_14_code 88 = .ok (.aload_n 0, 1) := by decide +kernel
theorem d_Mo_about_89 : decode prog_10_method_14_code 89 = .ok (.getfield 16, 3) := by decide +kernel
theorem d_Mo_about_92 : decode prog_10_method_14_code 92 = .ok (.iload 4, 2) := by decide +kernel
theorem d_Mo_about_94 : decode prog_10_method_14_code 94 = .ok (.iaload, 1) := by decide +kernel
theorem d_Mo_about_95 : decode prog_10_method_14_code 95 = .ok (.goto 10, 3) := by decide +kernel
theorem d_Mo_about_98 : decode prog_10_method_14_code 98 = .ok (.aload_n 0, 1) := by decide +kernel
theorem d_Mo_about_99 : decode prog_10_method_14_code 99 = .ok (.getfield 22, 3) := by decide +kernel
theorem d_Mo_about_102 : decode prog_10_method_14_code 102 = .ok (.iload 4, 2) := by decide +kernel
theorem d_Mo_about_104 : decode prog_10_method_14_code 104 = .ok (.iaload, 1) := by decide +kernel
theorem d_Mo_about_105 : decode prog_10_method_14_code 105 = .ok (.ireturn, 1) := by decide +kernel
theorem d_Mo_noRead_0 : decode prog_10_method_13_code 0 = .ok (.iload_n 1, 1) := by decide +kernel
theorem d_Mo_noRead_1 : decode prog_10_method_13_code 1 = .ok (.ifCond .lt 22, 3) := by decide +kernel
theorem d_Mo_noRead_4 : decode prog_10_method_13_code 4 = .ok (.iload_n 1, 1) := by decide +kernel
theorem d_Mo_noRead_5 : decode prog_10_method_13_code 5 = .ok (.iload_n 2, 1) := by decide +kernel
theorem d_Mo_noRead_6 : decode prog_10_method_13_code 6 = .ok (.ifCond .eq 10, 3) := by decide +kernel
theorem d_Mo_noRead_9 : decode prog_10_method_13_code 9 = .ok (.aload_n 0, 1) := by decide +kernel
theorem d_Mo_noRead_10 : decode prog_10_method_13_code 10 = .ok (.getfield 60, 3) := by decide +kernel
theorem d_Mo_noRead_13 : decode prog_10_method_13_code 13 = .ok (.goto 7, 3) := by decide +kernel
theorem d_Mo_noRead_16 : decode prog_10_method_13_code 16 = .ok (.aload_n 0, 1) := by decide +kernel
theorem d_Mo_noRead_17 : decode prog_10_method_13_code 17 = .ok (.getfield 50, 3) := by decide +kernel
theorem d_Mo_noRead_20 : decode prog_10_method_13_code 20 = .ok (.if_icmp .lt 7, 3) := by decide +kernel
theorem d_Mo_noRead_23 : decode prog_10_method_13_code 23 = .ok (.iconst 1, 1) := by decide +kernel
theorem d_Mo_noRead_24 : decode prog_10_method_13_code 24 = .ok (.goto 4, 3) := by decide +kernel
theorem d_Mo_noRead_27 : decode prog_10_method_13_code 27 = .ok (.iconst 0, 1) := by decide +kernel
theorem d_Mo_noRead_28 : decode prog_10_method_13_code 28 = .ok (.ireturn, 1) := by decide +kernel
theorem d_Mo_base_0 : decode prog_10_method_15_code 0 = .ok (.iload_n 3, 1) := by decide +kernel
theorem d_Mo_base_1 : decode prog_10_method_15_code 1 = .ok (.ifCond .eq 10, 3) := by decide +kernel
theorem d_Mo_base_4 : decode prog_10_method_15_code 4 = .ok (.bipush 24, 2) := by decide +kernel
theorem d_Mo_base_6 : decode prog_10_method_15_code 6 = .ok (.iload_n 1, 1) := by decide +kernel
theorem d_Mo_base_7 : decode prog_10_method_15_code 7 = .ok (.iadd, 1) := by decide +kernel
theorem d_Mo_base_8 : decode prog_10_method_15_code 8 = .ok (.goto 4, 3) := by decide +kernel
theorem d_Mo_base_11 : decode prog_10_method_15_code 11 = .ok (.iload_n 1, 1) := by decide +kernel
theorem d_Mo_base_12 : decode prog_10_method_15_code 12 = .ok (.istore 4, 2) := by decide +kernel
theorem d_Mo_base_14 : decode prog_10_method_15_code 14 = .ok (.aload_n 0, 1) := by decide +kernel
theorem d_Mo_base_15 : decode prog_10_method_15_code 15 = .ok (.aload_n 0, 1) := by decide +kernel
theorem d_Mo_base_16 : decode prog_10_method_15_code 16 = .ok (.iload_n 1, 1) := by decide +kernel
theorem d_Mo_base_17 : decode prog_10_method_15_code 17 = .ok (.iload_n 3, 1) := by decide +kernel
theorem d_Mo_base_18 : decode prog_10_method_15_code 18 = .ok (.invokevirtual 78, 3) := by decide +kernel
theorem d_Mo_base_21 : decode prog_10_method_15_code 21 = .ok (.ifCond .ne 18, 3) := by decide +kernel
theorem d_Mo_base_24 : decode prog_10_method_15_code 24 = .ok (.iload_n 2, 1) := by decide +kernel
theorem d_Mo_base_25 : decode prog_10_method_15_code 25 = .ok (.ifCond .lt 14, 3) := by decide +kernel
theorem d_Mo_base_28 : decode prog_10_method_15_code 28 = .ok (.iload_n 2, 1) := by decide +kernel
theorem d_Mo_base_29 : decode prog_10_method_15_code 29 = .ok (.aload_n 0, 1) := by decide +kernel
theorem d_Mo_base_30 : decode prog_10_method_15_code 30 = .ok (.getfield 19, 3) := by decide +kernel
theorem d_Mo_base_33 : decode prog_10_method_15_code 33 = .ok (.iload 4, 2) := by decide +kernel
theorem d_Mo_base_35 : decode prog_10_method_15_code 35 = .ok (.iaload, 1) := by decide +kernel
theorem d_Mo_base_36 : decode prog_10_method_15_code 36 = .ok (.if_icmp .lt 7, 3) := by decide +kernel
theorem d_Mo_base_39 : decode prog_10_method_15_code 39 = .ok (.iconst 1, 1) := by decide +kernel
theorem d_Mo_base_40 : decode prog_10_method_15_code 40 = .ok (.goto 4, 3) := by decide +kernel
theorem d_Mo_base_43 : decode prog_10_method_15_code 43 = .ok (.iconst 0, 1) := by decide +kernel
theorem d_Mo_base_44 : decode prog_10_method_15_code 44 = .ok (.putfield 46, 3) := by decide +kernel
theorem d_Mo_base_47 : decode prog_10_method_15_code 47 = .ok (.aload_n 0, 1) := by decide +kernel
theorem d_Mo_base_48 : decode prog_10_method_15_code 48 = .ok (.getfield 46, 3) := by decide +kernel
theorem d_Mo_base_51 : decode prog_10_method_15_code 51 = .ok (.ifCond .le 5, 3) := by decide +kernel
theorem d_Mo_base_54 : decode prog_10_method_15_code 54 = .ok (.iconst 0, 1) := by decide +kernel
theorem d_Mo_base_55 : decode prog_10_method_15_code 55 = .ok (.ireturn, 1) := by decide +kernel
theorem d_Mo_base_56 : decode prog_10_method_15_code 56 = .ok (.aload_n 0, 1) := by decide +kernel
theorem d_Mo_base_57 : decode prog_10_method_15_code 57 = .ok (.getfield 13, 3) := by decide +kernel
theorem d_Mo_base_60 : decode prog_10_method_15_code 60 = .ok (.iload 4, 2) := by decide +kernel
theorem d_Mo_base_62 : decode prog_10_method_15_code 62 = .ok (.iaload, 1) := by decide +kernel
theorem d_Mo_base_63 : decode prog_10_method_15_code 63 = .ok (.istore 5, 2) := by decide +kernel
theorem d_Mo_base_65 : decode prog_10_method_15_code 65 = .ok (.iload_n 2, 1) := by decide +kernel
theorem d_Mo_base_66 : decode prog_10_method_15_code 66 = .ok (.istore 6, 2) := by decide +kernel
theorem d_Mo_base_68 : decode prog_10_method_15_code 68 = .ok (.bipush 12, 2) := by decide +kernel
theorem d_Mo_base_70 : decode prog_10_method_15_code 70 = .ok (.iload 4, 2) := by decide +kernel
theorem d_Mo_base_72 : decode prog_10_method_15_code 72 = .ok (.imul, 1) := by decide +kernel
theorem d_Mo_base_73 : decode prog_10_method_15_code 73 = .ok (.istore 7, 2) := by decide +kernel
theorem d_Mo_base_75 : decode prog_10_method_15_code 75 = .ok (.iconst 0, 1) := by decide +kernel
theorem d_Mo_base_76 : decode prog_10_method_15_code 76 = .ok (.istore 8, 2) := by decide +kernel
theorem d_Mo_base_78 : decode prog_10_method_15_code 78 = .ok (.iload 8, 2) := by decide +kernel
theorem d_Mo_base_80 : decode prog_10_method_15_code 80 = .ok (.ifCond .ne 119, 3) := by decide +kernel
theorem d_Mo_base_83 : decode prog_10_method_15_code 83 = .ok (.aload_n 0, 1) := by decide +kernel
theorem d_Mo_base_84 : decode prog_10_method_15_code 84 = .ok (.getfield 25, 3) := by decide +kernel
theorem d_Mo_base_87 : decode prog_10_method_15_code 87 = .ok (.iload 7, 2) := by decide +kernel
theorem d_Mo_base_89 : decode prog_10_method_15_code 89 = .ok (.iaload, 1) := by decide +kernel
theorem d_Mo_base_90 : decode prog_10_method_15_code 90 = .ok (.ifCond .ne 13, 3) := by decide +kernel
theorem d_Mo_base_93 : decode prog_10_method_15_code 93 = .ok (.aload_n 0, 1) := by decide +kernel
theorem d_Mo_base_94 : decode prog_10_method_15_code 94 = .ok (.getfield 28, 3) := by decide +kernel
theorem d_Mo_base_97 : decode prog_10_method_15_code 97 = .ok (.iload 7, 2) := by decide +kernel
theorem d_Mo_base_99 : decode prog_10_method_15_code 99 = .ok (.iaload, 1) := by decide +kernel
theorem d_Mo_base_100 : decode prog_10_method_15_code 100 = .ok (.goto 19, 3) := by decide +kernel
theorem d_Mo_base_103 : decode prog_10_method_15_code 103 = .ok (.aload_n 0, 1) := by decide +kernel
theorem d_Mo_base_104 : decode prog_10_method_15_code 104 = .ok (.getfield 25, 3) := by decide +kernel
theorem d_Mo_base_107 : decode prog_10_method_15_code 107 = .ok (.iload 7, 2) := by decide +kernel
theorem d_Mo_base_109 : decode prog_10_method_15_code 109 = .ok (.iaload, 1) := by decide +kernel
theorem d_Mo_base_110 : decode prog_10_method_15_code 110 = .ok (.iconst 3, 1) := by decide +kernel
theorem d_Mo_base_111 : decode prog_10_method_15_code 111 = .ok (.if_icmp .ne 7, 3) := by decide +kernel
theorem d_Mo_base_114 : decode prog_10_method_15_code 114 = .ok (.iconst 0, 1) := by decide +kernel
theorem d_Mo_base_115 : decode prog_10_method_15_code 115 = .ok (.goto 4, 3) := by decide +kernel
theorem d_Mo_base_118 : decode prog_10_method_15_code 118 = .ok (.iconst 1, 1) := by decide +kernel
theorem d_Mo_base_119 : decode prog_10_method_15_code 119 = .ok (.istore 9, 2) := by decide +kernel
theorem d_Mo_base_121 : decode prog_10_method_15_code 121 = .ok (.iload 6, 2) := by decide +kernel
theorem d_Mo_base_123 : decode prog_10_method_15_code 123 = .ok (.iload 9, 2) := by decide +kernel
theorem d_Mo_base_125 : decode prog_10_method_15_code 125 = .ok (.if_icmp .ge 7, 3) := by decide +kernel
theorem d_Mo_base_128 : decode prog_10_method_15_code 128 = .ok (.iconst 1, 1) := by decide +kernel
theorem d_Mo_base_129 : decode prog_10_method_15_code 129 = .ok (.goto 4, 3) := by decide +kernel
theorem d_Mo_base_132 : decode prog_10_method_15_code 132 = .ok (.iconst 0, 1) := by decide +kernel
theorem d_Mo_base_133 : decode prog_10_method_15_code 133 = .ok (.istore 8, 2) := by decide +kernel
theorem d_Mo_base_135 : decode prog_10_method_15_code 135 = .ok (.iload 8, 2) := by decide +kernel
theorem d_Mo_base_137 : decode prog_10_method_15_code 137 = .ok (.ifCond .ne 59, 3) := by decide +kernel
theorem d_Mo_base_140 : decode prog_10_method_15_code 140 = .ok (.iload 6, 2) := by decide +kernel
theorem d_Mo_base_142 : decode prog_10_method_15_code 142 = .ok (.iload 9, 2) := by decide +kernel
theorem d_Mo_base_144 : decode prog_10_method_15_code 144 = .ok (.isub, 1) := by decide +kernel
theorem d_Mo_base_145 : decode prog_10_method_15_code 145 = .ok (.istore 6, 2) := by decide +kernel
theorem d_Mo_base_147 : decode prog_10_method_15_code 147 = .ok (.aload_n 0, 1) := by decide +kernel
theorem d_Mo_base_148 : decode prog_10_method_15_code 148 = .ok (.getfield 25, 3) := by decide +kernel
theorem d_Mo_base_151 : decode prog_10_method_15_code 151 = .ok (.iload 7, 2) := by decide +kernel
theorem d_Mo_base_153 : decode prog_10_method_15_code 153 = .ok (.iaload, 1) := by decide +kernel
theorem d_Mo_base_154 : decode prog_10_method_15_code 154 = .ok (.iconst 2, 1) := by decide +kernel
theorem d_Mo_base_155 : decode prog_10_method_15_code 155 = .ok (.if_icmp .ne 8, 3) := by decide +kernel
theorem d_Mo_base_158 : decode prog_10_method_15_code 158 = .ok (.iload 5, 2) := by decide +kernel
theorem d_Mo_base_160 : decode prog_10_method_15_code 160 = .ok (.goto 31, 3) := by decide +kernel
theorem d_Mo_base_163 : decode prog_10_method_15_code 163 = .ok (.aload_n 0, 1) := by decide +kernel
theorem d_Mo_base_164 : decode prog_10_method_15_code 164 = .ok (.getfield 25, 3) := by decide +kernel
theorem d_Mo_base_167 : decode prog_10_method_15_code 167 = .ok (.iload 7, 2) := by decide +kernel
theorem d_Mo_base_169 : decode prog_10_method_15_code 169 = .ok (.iaload, 1) := by decide +kernel
theorem d_Mo_base_170 : decode prog_10_method_15_code 170 = .ok (.iconst 1, 1) := by decide +kernel
theorem d_Mo_base_171 : decode prog_10_method_15_code 171 = .ok (.if_icmp .ne 10, 3) := by decide +kernel
theorem d_Mo_base_174 : decode prog_10_method_15_code 174 = .ok (.iload 5, 2) := by decide +kernel
theorem d_Mo_base_176 : decode prog_10_method_15_code 176 = .ok (.iconst 1, 1) := by decide +kernel
theorem d_Mo_base_177 : decode prog_10_method_15_code 177 = .ok (.iadd, 1) := by decide +kernel
theorem d_Mo_base_178 : decode prog_10_method_15_code 178 = .ok (.goto 13, 3) := by decide +kernel
theorem d_Mo_base_181 : decode prog_10_method_15_code 181 = .ok (.iload 5, 2) := by decide +kernel
theorem d_Mo_base_183 : decode prog_10_method_15_code 183 = .ok (.aload_n 0, 1) := by decide +kernel
theorem d_Mo_base_184 : decode prog_10_method_15_code 184 = .ok (.getfield 28, 3) := by decide +kernel
theorem d_Mo_base_187 : decode prog_10_method_15_code 187 = .ok (.iload 7, 2) := by decide +kernel
theorem d_Mo_base_189 : decode prog_10_method_15_code 189 = .ok (.iaload, 1) := by decide +kernel
theorem d_Mo_base_190 : decode prog_10_method_15_code 190 = .ok (.iadd, 1) := by decide +kernel
theorem d_Mo_base_191 : decode prog_10_method_15_code 191 = .ok (.istore 5, 2) := by decide +kernel
theorem d_Mo_base_193 : decode prog_10_method_15_code 193 = .ok (.iinc 7 1, 3) := by decide +kernel
theorem d_Mo_base_196 : decode prog_10_method_15_code 196 = .ok (.goto (-118), 3) := by decide +kernel
theorem d_Mo_base_199 : decode prog_10_method_15_code 199 = .ok (.aload_n 0, 1) := by decide +kernel
theorem d_Mo_base_200 : decode prog_10_method_15_code 200 = .ok (.getfield 25, 3) := by decide +kernel
theorem d_Mo_base_203 : decode prog_10_method_15_code 203 = .ok (.iload 7, 2) := by decide +kernel
theorem d_Mo_base_205 : decode prog_10_method_15_code 205 = .ok (.iaload, 1) := by decide +kernel
theorem d_Mo_base_206 : decode prog_10_method_15_code 206 = .ok (.ifCond .ne 16, 3) := by decide +kernel
theorem d_Mo_base_209 : decode prog_10_method_15_code 209 = .ok (.aload_n 0, 1) := by decide +kernel
theorem d_Mo_base_210 : decode prog_10_method_15_code 210 = .ok (.getfield 7, 3) := by decide +kernel
theorem d_Mo_base_213 : decode prog_10_method_15_code 213 = .ok (.iload 5, 2) := by decide +kernel
theorem d_Mo_base_215 : decode prog_10_method_15_code 215 = .ok (.iload 6, 2) := by decide +kernel
theorem d_Mo_base_217 : decode prog_10_method_15_code 217 = .ok (.iadd, 1) := by decide +kernel
theorem d_Mo_base_218 : decode prog_10_method_15_code 218 = .ok (.iaload, 1) := by decide +kernel
theorem d_Mo_base_219 : decode prog_10_method_15_code 219 = .ok (.goto 10, 3) := by decide +kernel
theorem d_Mo_base_222 : decode prog_10_method_15_code 222 = .ok (.aload_n 0, 1) := by decide +kernel
theorem d_Mo_base_223 : decode prog_10_method_15_code 223 = .ok (.getfield 28, 3) := by decide +kernel
theorem d_Mo_base_226 : decode prog_10_method_15_code 226 = .ok (.iload 7, 2) := by decide +kernel
theorem d_Mo_base_228 : decode prog_10_method_15_code 228 = .ok (.iaload, 1) := by decide +kernel
theorem d_Mo_base_229 : decode prog_10_method_15_code 229 = .ok (.ireturn, 1) := by decide +kernel
theorem d_Mo_pack_0 : decode prog_10_method_26_code 0 = .ok (.aload_n 0, 1) := by decide +kernel
theorem d_Mo_pack_1 : decode prog_10_method_26_code 1 = .ok (.iconst 0, 1) := by decide +kernel
theorem d_Mo_pack_2 : decode prog_10_method_26_code 2 = .ok (.putfield 46, 3) := by decide +kernel
theorem d_Mo_pack_5 : decode prog_10_method_26_code 5 = .ok (.iconst 0, 1) := by decide +kernel
theorem d_Mo_pack_6 : decode prog_10_method_26_code 6 = .ok (.istore_n 1, 1) := by decide +kernel
theorem d_Mo_pack_7 : decode prog_10_method_26_code 7 = .ok (.iload_n 1, 1) := by decide +kernel
theorem d_Mo_pack_8 : decode prog_10_method_26_code 8 = .ok (.aload_n 0, 1) := by decide +kernel
theorem d_Mo_pack_9 : decode prog_10_method_26_code 9 = .ok (.getfield 50, 3) := by decide +kernel
theorem d_Mo_pack_12 : decode prog_10_method_26_code 12 = .ok (.if_icmp .ge 64, 3) := by decide +kernel
theorem d_Mo_pack_15 : decode prog_10_method_26_code 15 = .ok (.iload_n 1, 1) := by decide +kernel
theorem d_Mo_pack_16 : decode prog_10_method_26_code 16 = .ok (.istore_n 2, 1) := by decide +kernel
theorem d_Mo_pack_17 : decode prog_10_method_26_code 17 = .ok (.iload_n 2, 1) := by decide +kernel
theorem d_Mo_pack_18 : decode prog_10_method_26_code 18 = .ok (.ifCond .le 45, 3) := by decide +kernel
theorem d_Mo_pack_21 : decode prog_10_method_26_code 21 = .ok (.aload_n 0, 1) := by decide +kernel
theorem d_Mo_pack_22 : decode prog_10_method_26_code 22 = .ok (.getfield 13, 3) := by decide +kernel
theorem d_Mo_pack_25 : decode prog_10_method_26_code 25 = .ok (.aload_n 0, 1) := by decide +kernel
theorem d_Mo_pack_26 : decode prog_10_method_26_code 26 = .ok (.getfield 43, 3) := by decide +kernel
theorem d_Mo_pack_29 : decode prog_10_method_26_code 29 = .ok (.iload_n 2, 1) := by decide +kernel
theorem d_Mo_pack_30 : decode prog_10_method_26_code 30 = .ok (.iconst 1, 1) := by decide +kernel
theorem d_Mo_pack_31 : decode prog_10_method_26_code 31 = .ok (.isub, 1) := by decide +kernel
theorem d_Mo_pack_32 : decode prog_10_method_26_code 32 = .ok (.iaload, 1) := by decide +kernel
theorem d_Mo_pack_33 : decode prog_10_method_26_code 33 = .ok (.iaload, 1) := by decide +kernel
theorem d_Mo_pack_34 : decode prog_10_method_26_code 34 = .ok (.aload_n 0, 1) := by decide +kernel
theorem d_Mo_pack_35 : decode prog_10_method_26_code 35 = .ok (.getfield 13, 3) := by decide +kernel
theorem d_Mo_pack_38 : decode prog_10_method_26_code 38 = .ok (.iload_n 1, 1) := by decide +kernel
theorem d_Mo_pack_39 : decode prog_10_method_26_code 39 = .ok (.iaload, 1) := by decide +kernel
theorem d_Mo_pack_40 : decode prog_10_method_26_code 40 = .ok (.if_icmp .le 23, 3) := by decide +kernel
theorem d_Mo_pack_43 : decode prog_10_method_26_code 43 = .ok (.aload_n 0, 1) := by decide +kernel
theorem d_Mo_pack_44 : decode prog_10_method_26_code 44 = .ok (.getfield 43, 3) := by decide +kernel
theorem d_Mo_pack_47 : decode prog_10_method_26_code 47 = .ok (.iload_n 2, 1) := by decide +kernel
theorem d_Mo_pack_48 : decode prog_10_method_26_code 48 = .ok (.aload_n 0, 1) := by decide +kernel
theorem d_Mo_pack_49 : decode prog_10_method_26_code 49 = .ok (.getfield 43, 3) := by decide +kernel
theorem d_Mo_pack_52 : decode prog_10_method_26_code 52 = .ok (.iload_n 2, 1) := by decide +kernel
theorem d_Mo_pack_53 : decode prog_10_method_26_code 53 = .ok (.iconst 1, 1) := by decide +kernel
theorem d_Mo_pack_54 : decode prog_10_method_26_code 54 = .ok (.isub, 1) := by decide +kernel
theorem d_Mo_pack_55 : decode prog_10_method_26_code 55 = .ok (.iaload, 1) := by decide +kernel
theorem d_Mo_pack_56 : decode prog_10_method_26_code 56 = .ok (.iastore, 1) := by decide +kernel
theorem d_Mo_pack_57 : decode prog_10_method_26_code 57 = .ok (.iinc 2 (-1), 3) := by decide +kernel
theorem d_Mo_pack_60 : decode prog_10_method_26_code 60 = .ok (.goto (-43), 3) := by decide +kernel
theorem d_Mo_pack_63 : decode prog_10_method_26_code 63 = .ok (.aload_n 0, 1) := by decide +kernel
theorem d_Mo_pack_64 : decode prog_10_method_26_code 64 = .ok (.getfield 43, 3) := by decide +kernel
theorem d_Mo_pack_67 : decode prog_10_method_26_code 67 = .ok (.iload_n 2, 1) := by decide +kernel
theorem d_Mo_pack_68 : decode prog_10_method_26_code 68 = .ok (.iload_n 1, 1) := by decide +kernel
theorem d_Mo_pack_69 : decode prog_10_method_26_code 69 = .ok (.iastore, 1) := by decide +kernel
theorem d_Mo_pack_70 : decode prog_10_method_26_code 70 = .ok (.iinc 1 1, 3) := by decide +kernel
theorem d_Mo_pack_73 : decode prog_10_method_26_code 73 = .ok (.goto (-66), 3) := by decide +kernel
theorem d_Mo_pack_76 : decode prog_10_method_26_code 76 = .ok (.aload_n 0, 1) := by decide +kernel
theorem d_Mo_pack_77 : decode prog_10_method_26_code 77 = .ok (.iconst 0, 1) := by decide +kernel
theorem d_Mo_pack_78 : decode prog_10_method_26_code 78 = .ok (.putfield 136, 3) := by decide +kernel
theorem d_Mo_pack_81 : decode prog_10_method_26_code 81 = .ok (.iconst 0, 1) := by decide +kernel
theorem d_Mo_pack_82 : decode prog_10_method_26_code 82 = .ok (.istore_n 1, 1) := by decide +kernel
theorem d_Mo_pack_83 : decode prog_10_method_26_code 83 = .ok (.iload_n 1, 1) := by decide +kernel
theorem d_Mo_pack_84 : decode prog_10_method_26_code 84 = .ok (.aload_n 0, 1) := by decide +kernel
theorem d_Mo_pack_85 : decode prog_10_method_26_code 85 = .ok (.getfield 50, 3) := by decide +kernel
theorem d_Mo_pack_88 : decode prog_10_method_26_code 88 = .ok (.if_icmp .ge 75, 3) := by decide +kernel
theorem d_Mo_pack_91 : decode prog_10_method_26_code 91 = .ok (.aload_n 0, 1) := by decide +kernel
theorem d_Mo_pack_92 : decode prog_10_method_26_code 92 = .ok (.iload_n 1, 1) := by decide +kernel
theorem d_Mo_pack_93 : decode prog_10_method_26_code 93 = .ok (.aload_n 0, 1) := by decide +kernel
theorem d_Mo_pack_94 : decode prog_10_method_26_code 94 = .ok (.getfield 50, 3) := by decide +kernel
theorem d_Mo_pack_97 : decode prog_10_method_26_code 97 = .ok (.iload_n 1, 1) := by decide +kernel
theorem d_Mo_pack_98 : decode prog_10_method_26_code 98 = .ok (.isub, 1) := by decide +kernel
theorem d_Mo_pack_99 : decode prog_10_method_26_code 99 = .ok (.iconst 3, 1) := by decide +kernel
theorem d_Mo_pack_100 : decode prog_10_method_26_code 100 = .ok (.if_icmp .ge 12, 3) := by decide +kernel
theorem d_Mo_pack_103 : decode prog_10_method_26_code 103 = .ok (.aload_n 0, 1) := by decide +kernel
theorem d_Mo_pack_104 : decode prog_10_method_26_code 104 = .ok (.getfield 50, 3) := by decide +kernel
theorem d_Mo_pack_107 : decode prog_10_method_26_code 107 = .ok (.iload_n 1, 1) := by decide +kernel
theorem d_Mo_pack_108 : decode prog_10_method_26_code 108 = .ok (.isub, 1) := by decide +kernel
theorem d_Mo_pack_109 : decode prog_10_method_26_code 109 = .ok (.goto 4, 3) := by decide +kernel
theorem d_Mo_pack_112 : decode prog_10_method_26_code 112 = .ok (.iconst 3, 1) := by decide +kernel
theorem d_Mo_pack_113 : decode prog_10_method_26_code 113 = .ok (.invokevirtual 139, 3) := by decide +kernel
theorem d_Mo_pack_116 : decode prog_10_method_26_code 116 = .ok (.iconst 0, 1) := by decide +kernel
theorem d_Mo_pack_117 : decode prog_10_method_26_code 117 = .ok (.istore_n 2, 1) := by decide +kernel
theorem d_Mo_pack_118 : decode prog_10_method_26_code 118 = .ok (.iload_n 2, 1) := by decide +kernel
theorem d_Mo_pack_119 : decode prog_10_method_26_code 119 = .ok (.aload_n 0, 1) := by decide +kernel
theorem d_Mo_pack_120 : decode prog_10_method_26_code 120 = .ok (.getfield 119, 3) := by decide +kernel
theorem d_Mo_pack_123 : decode prog_10_method_26_code 123 = .ok (.if_icmp .ge 34, 3) := by decide +kernel
theorem d_Mo_pack_126 : decode prog_10_method_26_code 126 = .ok (.aload_n 0, 1) := by decide +kernel
theorem d_Mo_pack_127 : decode prog_10_method_26_code 127 = .ok (.getfield 31, 3) := by decide +kernel
theorem d_Mo_pack_130 : decode prog_10_method_26_code 130 = .ok (.aload_n 0, 1) := by decide +kernel
theorem d_Mo_pack_131 : decode prog_10_method_26_code 131 = .ok (.getfield 136, 3) := by decide +kernel
theorem d_Mo_pack_134 : decode prog_10_method_26_code 134 = .ok (.aload_n 0, 1) := by decide +kernel
theorem d_Mo_pack_135 : decode prog_10_method_26_code 135 = .ok (.getfield 40, 3) := by decide +kernel
theorem d_Mo_pack_138 : decode prog_10_method_26_code 138 = .ok (.iload_n 2, 1) := by decide +kernel
theorem d_Mo_pack_139 : decode prog_10_method_26_code 139 = .ok (.iaload, 1) := by decide +kernel
theorem d_Mo_pack_140 : decode prog_10_method_26_code 140 = .ok (.iastore, 1) := by decide +kernel
theorem d_Mo_pack_141 : decode prog_10_method_26_code 141 = .ok (.aload_n 0, 1) := by decide +kernel
theorem d_Mo_pack_142 : decode prog_10_method_26_code 142 = .ok (.dup, 1) := by decide +kernel
theorem d_Mo_pack_143 : decode prog_10_method_26_code 143 = .ok (.getfield 136, 3) := by decide +kernel
theorem d_Mo_pack_146 : decode prog_10_method_26_code 146 = .ok (.iconst 1, 1) := by decide +kernel
theorem d_Mo_pack_147 : decode prog_10_method_26_code 147 = .ok (.iadd, 1) := by decide +kernel
theorem d_Mo_pack_148 : decode prog_10_method_26_code 148 = .ok (.putfield 136, 3) := by decide +kernel
theorem d_Mo_pack_151 : decode prog_10_method_26_code 151 = .ok (.iinc 2 1, 3) := by decide +kernel
theorem d_Mo_pack_154 : decode prog_10_method_26_code 154 = .ok (.goto (-36), 3) := by decide +kernel
theorem d_Mo_pack_157 : decode prog_10_method_26_code 157 = .ok (.iinc 1 3, 3) := by decide +kernel
theorem d_Mo_pack_160 : decode prog_10_method_26_code 160 = .ok (.goto (-77), 3) := by decide +kernel
theorem d_Mo_pack_163 : decode prog_10_method_26_code 163 = .ok (.aload_n 0, 1) := by decide +kernel
theorem d_Mo_pack_164 : decode prog_10_method_26_code 164 = .ok (.getfield 136, 3) := by decide +kernel
theorem d_Mo_pack_167 : decode prog_10_method_26_code 167 = .ok (.ireturn, 1) := by decide +kernel
theorem d_Mo_write_0 : decode prog_10_method_25_code 0 = .ok (.aload_n 0, 1) := by decide +kernel
theorem d_Mo_write_1 : decode prog_10_method_25_code 1 = .ok (.invokevirtual 122, 3) := by decide +kernel
theorem d_Mo_write_4 : decode prog_10_method_25_code 4 = .ok (.aload_n 0, 1) := by decide +kernel
theorem d_Mo_write_5 : decode prog_10_method_25_code 5 = .ok (.getfield 13, 3) := by decide +kernel
theorem d_Mo_write_8 : decode prog_10_method_25_code 8 = .ok (.aload_n 0, 1) := by decide +kernel
theorem d_Mo_write_9 : decode prog_10_method_25_code 9 = .ok (.getfield 43, 3) := by decide +kernel
theorem d_Mo_write_12 : decode prog_10_method_25_code 12 = .ok (.iload_n 1, 1) := by decide +kernel
theorem d_Mo_write_13 : decode prog_10_method_25_code 13 = .ok (.iaload, 1) := by decide +kernel
theorem d_Mo_write_14 : decode prog_10_method_25_code 14 = .ok (.iaload, 1) := by decide +kernel
theorem d_Mo_write_15 : decode prog_10_method_25_code 15 = .ok (.istore_n 3, 1) := by decide +kernel
theorem d_Mo_write_16 : decode prog_10_method_25_code 16 = .ok (.iconst 0, 1) := by decide +kernel
theorem d_Mo_write_17 : decode prog_10_method_25_code 17 = .ok (.istore 4, 2) := by decide +kernel
theorem d_Mo_write_19 : decode prog_10_method_25_code 19 = .ok (.iload 4, 2) := by decide +kernel
theorem d_Mo_write_21 : decode prog_10_method_25_code 21 = .ok (.iload_n 2, 1) := by decide +kernel
theorem d_Mo_write_22 : decode prog_10_method_25_code 22 = .ok (.if_icmp .ge 38, 3) := by decide +kernel
theorem d_Mo_write_25 : decode prog_10_method_25_code 25 = .ok (.aload_n 0, 1) := by decide +kernel
theorem d_Mo_write_26 : decode prog_10_method_25_code 26 = .ok (.aload_n 0, 1) := by decide +kernel
theorem d_Mo_write_27 : decode prog_10_method_25_code 27 = .ok (.getfield 43, 3) := by decide +kernel
theorem d_Mo_write_30 : decode prog_10_method_25_code 30 = .ok (.iload_n 1, 1) := by decide +kernel
theorem d_Mo_write_31 : decode prog_10_method_25_code 31 = .ok (.iload 4, 2) := by decide +kernel
theorem d_Mo_write_33 : decode prog_10_method_25_code 33 = .ok (.iadd, 1) := by decide +kernel
theorem d_Mo_write_34 : decode prog_10_method_25_code 34 = .ok (.iaload, 1) := by decide +kernel
theorem d_Mo_write_35 : decode prog_10_method_25_code 35 = .ok (.iload_n 3, 1) := by decide +kernel
theorem d_Mo_write_36 : decode prog_10_method_25_code 36 = .ok (.invokevirtual 125, 3) := by decide +kernel
theorem d_Mo_write_39 : decode prog_10_method_25_code 39 = .ok (.aload_n 0, 1) := by decide +kernel
theorem d_Mo_write_40 : decode prog_10_method_25_code 40 = .ok (.getfield 13, 3) := by decide +kernel
theorem d_Mo_write_43 : decode prog_10_method_25_code 43 = .ok (.aload_n 0, 1) := by decide +kernel
theorem d_Mo_write_44 : decode prog_10_method_25_code 44 = .ok (.getfield 43, 3) := by decide +kernel
theorem d_Mo_write_47 : decode prog_10_method_25_code 47 = .ok (.iload_n 1, 1) := by decide +kernel
theorem d_Mo_write_48 : decode prog_10_method_25_code 48 = .ok (.iload 4, 2) := by decide +kernel
theorem d_Mo_write_50 : decode prog_10_method_25_code 50 = .ok (.iadd, 1) := by decide +kernel
theorem d_Mo_write_51 : decode prog_10_method_25_code 51 = .ok (.iaload, 1) := by decide +kernel
theorem d_Mo_write_52 : decode prog_10_method_25_code 52 = .ok (.iaload, 1) := by decide +kernel
theorem d_Mo_write_53 : decode prog_10_method_25_code 53 = .ok (.istore_n 3, 1) := by decide +kernel
theorem d_Mo_write_54 : decode prog_10_method_25_code 54 = .ok (.iinc 4 1, 3) := by decide +kernel
theorem d_Mo_write_57 : decode prog_10_method_25_code 57 = .ok (.goto (-38), 3) := by decide +kernel
theorem d_Mo_write_60 : decode prog_10_method_25_code 60 = .ok (.aload_n 0, 1) := by decide +kernel
theorem d_Mo_write_61 : decode prog_10_method_25_code 61 = .ok (.invokevirtual 128, 3) := by decide +kernel
theorem d_Mo_write_64 : decode prog_10_method_25_code 64 = .ok (.aload_n 0, 1) := by decide +kernel
theorem d_Mo_write_65 : decode prog_10_method_25_code 65 = .ok (.iconst 0, 1) := by decide +kernel
theorem d_Mo_write_66 : decode prog_10_method_25_code 66 = .ok (.putfield 119, 3) := by decide +kernel
theorem d_Mo_write_69 : decode prog_10_method_25_code 69 = .ok (.aload_n 0, 1) := by decide +kernel
theorem d_Mo_write_70 : decode prog_10_method_25_code 70 = .ok (.iload_n 2, 1) := by decide +kernel
theorem d_Mo_write_71 : decode prog_10_method_25_code 71 = .ok (.invokevirtual 131, 3) := by decide +kernel
theorem d_Mo_write_74 : decode prog_10_method_25_code 74 = .ok (.aload_n 0, 1) := by decide +kernel
theorem d_Mo_write_75 : decode prog_10_method_25_code 75 = .ok (.aload_n 0, 1) := by decide +kernel
theorem d_Mo_write_76 : decode prog_10_method_25_code 76 = .ok (.getfield 13, 3) := by decide +kernel
theorem d_Mo_write_79 : decode prog_10_method_25_code 79 = .ok (.aload_n 0, 1) := by decide +kernel
theorem d_Mo_write_80 : decode prog_10_method_25_code 80 = .ok (.getfield 43, 3) := by decide +kernel
theorem d_Mo_write_83 : decode prog_10_method_25_code 83 = .ok (.iload_n 1, 1) := by decide +kernel
theorem d_Mo_write_84 : decode prog_10_method_25_code 84 = .ok (.iaload, 1) := by decide +kernel
theorem d_Mo_write_85 : decode prog_10_method_25_code 85 = .ok (.iaload, 1) := by decide +kernel
theorem d_Mo_write_86 : decode prog_10_method_25_code 86 = .ok (.invokevirtual 131, 3) := by decide +kernel
theorem d_Mo_write_89 : decode prog_10_method_25_code 89 = .ok (.aload_n 0, 1) := by decide +kernel
theorem d_Mo_write_90 : decode prog_10_method_25_code 90 = .ok (.aload_n 0, 1) := by decide +kernel
theorem d_Mo_write_91 : decode prog_10_method_25_code 91 = .ok (.getfield 91, 3) := by decide +kernel
theorem d_Mo_write_94 : decode prog_10_method_25_code 94 = .ok (.invokevirtual 131, 3) := by decide +kernel
theorem d_Mo_write_97 : decode prog_10_method_25_code 97 = .ok (.iconst 0, 1) := by decide +kernel
theorem d_Mo_write_98 : decode prog_10_method_25_code 98 = .ok (.istore 4, 2) := by decide +kernel
theorem d_Mo_write_100 : decode prog_10_method_25_code 100 = .ok (.iload 4, 2) := by decide +kernel
theorem d_Mo_write_102 : decode prog_10_method_25_code 102 = .ok (.aload_n 0, 1) := by decide +kernel
theorem d_Mo_write_103 : decode prog_10_method_25_code 103 = .ok (.getfield 91, 3) := by decide +kernel
theorem d_Mo_write_106 : decode prog_10_method_25_code 106 = .ok (.if_icmp .ge 20, 3) := by decide +kernel
theorem d_Mo_write_109 : decode prog_10_method_25_code 109 = .ok (.aload_n 0, 1) := by decide +kernel
theorem d_Mo_write_110 : decode prog_10_method_25_code 110 = .ok (.aload_n 0, 1) := by decide +kernel
theorem d_Mo_write_111 : decode prog_10_method_25_code 111 = .ok (.getfield 37, 3) := by decide +kernel
theorem d_Mo_write_114 : decode prog_10_method_25_code 114 = .ok (.iload 4, 2) := by decide +kernel
theorem d_Mo_write_116 : decode prog_10_method_25_code 116 = .ok (.iaload, 1) := by decide +kernel
theorem d_Mo_write_117 : decode prog_10_method_25_code 117 = .ok (.invokevirtual 131, 3) := by decide +kernel
theorem d_Mo_write_120 : decode prog_10_method_25_code 120 = .ok (.iinc 4 1, 3) := by decide +kernel
theorem d_Mo_write_123 : decode prog_10_method_25_code 123 = .ok (.goto (-23), 3) := by decide +kernel
theorem d_Mo_write_126 : decode prog_10_method_25_code 126 = .ok (.bipush 7, 2) := by decide +kernel
theorem d_Mo_write_128 : decode prog_10_method_25_code 128 = .ok (.istore 4, 2) := by decide +kernel
theorem d_Mo_write_130 : decode prog_10_method_25_code 130 = .ok (.iconst 0, 1) := by decide +kernel
theorem d_Mo_write_131 : decode prog_10_method_25_code 131 = .ok (.istore 5, 2) := by decide +kernel
theorem d_Mo_write_133 : decode prog_10_method_25_code 133 = .ok (.iload 5, 2) := by decide +kernel
theorem d_Mo_write_135 : decode prog_10_method_25_code 135 = .ok (.aload_n 0, 1) := by decide +kernel
theorem d_Mo_write_136 : decode prog_10_method_25_code 136 = .ok (.getfield 119, 3) := by decide +kernel
theorem d_Mo_write_139 : decode prog_10_method_25_code 139 = .ok (.if_icmp .ge 27, 3) := by decide +kernel
theorem d_Mo_write_142 : decode prog_10_method_25_code 142 = .ok (.bipush 31, 2) := by decide +kernel
theorem d_Mo_write_144 : decode prog_10_method_25_code 144 = .ok (.iload 4, 2) := by decide +kernel
theorem d_Mo_write_146 : decode prog_10_method_25_code 146 = .ok (.imul, 1) := by decide +kernel
theorem d_Mo_write_147 : decode prog_10_method_25_code 147 = .ok (.aload_n 0, 1) := by decide +kernel
theorem d_Mo_write_148 : decode prog_10_method_25_code 148 = .ok (.getfield 40, 3) := by decide +kernel
theorem d_Mo_write_151 : decode prog_10_method_25_code 151 = .ok (.iload 5, 2) := by decide +kernel
theorem d_Mo_write_153 : decode prog_10_method_25_code 153 = .ok (.iaload, 1) := by decide +kernel
theorem d_Mo_write_154 : decode prog_10_method_25_code 154 = .ok (.iadd, 1) := by decide +kernel
theorem d_Mo_write_155 : decode prog_10_method_25_code 155 = .ok (.ldc 135, 2) := by decide +kernel
theorem d_Mo_write_157 : decode prog_10_method_25_code 157 = .ok (.irem, 1) := by decide +kernel
theorem d_Mo_write_158 : decode prog_10_method_25_code 158 = .ok (.istore 4, 2) := by decide +kernel
theorem d_Mo_write_160 : decode prog_10_method_25_code 160 = .ok (.iinc 5 1, 3) := by decide +kernel
theorem d_Mo_write_163 : decode prog_10_method_25_code 163 = .ok (.goto (-30), 3) := by decide +kernel
theorem d_Mo_write_166 : decode prog_10_method_25_code 166 = .ok (.aload_n 0, 1) := by decide +kernel
theorem d_Mo_write_167 : decode prog_10_method_25_code 167 = .ok (.iload 4, 2) := by decide +kernel
theorem d_Mo_write_169 : decode prog_10_method_25_code 169 = .ok (.sipush 256, 3) := by decide +kernel
theorem d_Mo_write_172 : decode prog_10_method_25_code 172 = .ok (.idiv, 1) := by decide +kernel
theorem d_Mo_write_173 : decode prog_10_method_25_code 173 = .ok (.invokevirtual 131, 3) := by decide +kernel
theorem d_Mo_write_176 : decode prog_10_method_25_code 176 = .ok (.aload_n 0, 1) := by decide +kernel
theorem d_Mo_write_177 : decode prog_10_method_25_code 177 = .ok (.iload 4, 2) := by decide +kernel
theorem d_Mo_write_179 : decode prog_10_method_25_code 179 = .ok (.sipush 256, 3) := by decide +kernel
theorem d_Mo_write_182 : decode prog_10_method_25_code 182 = .ok (.irem, 1) := by decide +kernel
theorem d_Mo_write_183 : decode prog_10_method_25_code 183 = .ok (.invokevirtual 131, 3) := by decide +kernel
theorem d_Mo_write_186 : decode prog_10_method_25_code 186 = .ok (.return_, 1) := by decide +kernel
theorem d_Mo_fresh_0 : decode prog_10_method_16_code 0 = .ok (.aload_n 0, 1) := by decide +kernel
theorem d_Mo_fresh_1 : decode prog_10_method_16_code 1 = .ok (.lconst 0, 1) := by decide +kernel
theorem d_Mo_fresh_2 : decode prog_10_method_16_code 2 = .ok (.putfield 82, 3) := by decide +kernel
theorem d_Mo_fresh_5 : decode prog_10_method_16_code 5 = .ok (.aload_n 0, 1) := by decide +kernel
theorem d_Mo_fresh_6 : decode prog_10_method_16_code 6 = .ok (.ldc2_w 86, 3) := by decide +kernel
theorem d_Mo_fresh_9 : decode prog_10_method_16_code 9 = .ok (.putfield 88, 3) := by decide +kernel
theorem d_Mo_fresh_12 : decode prog_10_method_16_code 12 = .ok (.aload_n 0, 1) := by decide +kernel
theorem d_Mo_fresh_13 : decode prog_10_method_16_code 13 = .ok (.iconst 0, 1) := by decide +kernel
theorem d_Mo_fresh_14 : decode prog_10_method_16_code 14 = .ok (.putfield 91, 3) := by decide +kernel
theorem d_Mo_fresh_17 : decode prog_10_method_16_code 17 = .ok (.iconst 0, 1) := by decide +kernel
theorem d_Mo_fresh_18 : decode prog_10_method_16_code 18 = .ok (.istore_n 1, 1) := by decide +kernel
theorem d_Mo_fresh_19 : decode prog_10_method_16_code 19 = .ok (.iload_n 1, 1) := by decide +kernel
theorem d_Mo_fresh_20 : decode prog_10_method_16_code 20 = .ok (.bipush 59, 2) := by decide +kernel
theorem d_Mo_fresh_22 : decode prog_10_method_16_code 22 = .ok (.if_icmp .ge 18, 3) := by decide +kernel
theorem d_Mo_fresh_25 : decode prog_10_method_16_code 25 = .ok (.aload_n 0, 1) := by decide +kernel
theorem d_Mo_fresh_26 : decode prog_10_method_16_code 26 = .ok (.getfield 34, 3) := by decide +kernel
theorem d_Mo_fresh_29 : decode prog_10_method_16_code 29 = .ok (.iload_n 1, 1) := by decide +kernel
theorem d_Mo_fresh_30 : decode prog_10_method_16_code 30 = .ok (.sipush 1024, 3) := by decide +kernel
theorem d_Mo_fresh_33 : decode prog_10_method_16_code 33 = .ok (.iastore, 1) := by decide +kernel
theorem d_Mo_fresh_34 : decode prog_10_method_16_code 34 = .ok (.iinc 1 1, 3) := by decide +kernel
theorem d_Mo_fresh_37 : decode prog_10_method_16_code 37 = .ok (.goto (-18), 3) := by decide +kernel
theorem d_Mo_fresh_40 : decode prog_10_method_16_code 40 = .ok (.return_, 1) := by decide +kernel
theorem d_Mo_putRead_0 : decode prog_10_method_22_code 0 = .ok (.aload_n 0, 1) := by decide +kernel
theorem d_Mo_putRead_1 : decode prog_10_method_22_code 1 = .ok (.iconst 0, 1) := by decide +kernel
theorem d_Mo_putRead_2 : decode prog_10_method_22_code 2 = .ok (.aload_n 0, 1) := by decide +kernel
theorem d_Mo_putRead_3 : decode prog_10_method_22_code 3 = .ok (.getfield 13, 3) := by decide +kernel
theorem d_Mo_putRead_6 : decode prog_10_method_22_code 6 = .ok (.iload_n 1, 1) := by decide +kernel
theorem d_Mo_putRead_7 : decode prog_10_method_22_code 7 = .ok (.iaload, 1) := by decide +kernel
theorem d_Mo_putRead_8 : decode prog_10_method_22_code 8 = .ok (.iload_n 2, 1) := by decide +kernel
theorem d_Mo_putRead_9 : decode prog_10_method_22_code 9 = .ok (.isub, 1) := by decide +kernel
theorem d_Mo_putRead_10 : decode prog_10_method_22_code 10 = .ok (.invokevirtual 111, 3) := by decide +kernel
theorem d_Mo_putRead_13 : decode prog_10_method_22_code 13 = .ok (.aload_n 0, 1) := by decide +kernel
theorem d_Mo_putRead_14 : decode prog_10_method_22_code 14 = .ok (.getfield 13, 3) := by decide +kernel
theorem d_Mo_putRead_17 : decode prog_10_method_22_code 17 = .ok (.iload_n 1, 1) := by decide +kernel
theorem d_Mo_putRead_18 : decode prog_10_method_22_code 18 = .ok (.iaload, 1) := by decide +kernel
theorem d_Mo_putRead_19 : decode prog_10_method_22_code 19 = .ok (.istore_n 3, 1) := by decide +kernel
theorem d_Mo_putRead_20 : decode prog_10_method_22_code 20 = .ok (.iconst 4, 1) := by decide +kernel
theorem d_Mo_putRead_21 : decode prog_10_method_22_code 21 = .ok (.istore 4, 2) := by decide +kernel
theorem d_Mo_putRead_23 : decode prog_10_method_22_code 23 = .ok (.bipush 12, 2) := by decide +kernel
theorem d_Mo_putRead_25 : decode prog_10_method_22_code 25 = .ok (.iload_n 1, 1) := by decide +kernel
theorem d_Mo_putRead_26 : decode prog_10_method_22_code 26 = .ok (.imul, 1) := by decide +kernel
theorem d_Mo_putRead_27 : decode prog_10_method_22_code 27 = .ok (.istore 5, 2) := by decide +kernel
theorem d_Mo_putRead_29 : decode prog_10_method_22_code 29 = .ok (.iload 5, 2) := by decide +kernel
theorem d_Mo_putRead_31 : decode prog_10_method_22_code 31 = .ok (.bipush 12, 2) := by decide +kernel
theorem d_Mo_putRead_33 : decode prog_10_method_22_code 33 = .ok (.iload_n 1, 1) := by decide +kernel
theorem d_Mo_putRead_34 : decode prog_10_method_22_code 34 = .ok (.imul, 1) := by decide +kernel
theorem d_Mo_putRead_35 : decode prog_10_method_22_code 35 = .ok (.aload_n 0, 1) := by decide +kernel
theorem d_Mo_putRead_36 : decode prog_10_method_22_code 36 = .ok (.getfield 16, 3) := by decide +kernel
theorem d_Mo_putRead_39 : decode prog_10_method_22_code 39 = .ok (.iload_n 1, 1) := by decide +kernel
theorem d_Mo_putRead_40 : decode prog_10_method_22_code 40 = .ok (.iaload, 1) := by decide +kernel
theorem d_Mo_putRead_41 : decode prog_10_method_22_code 41 = .ok (.iadd, 1) := by decide +kernel
theorem d_Mo_putRead_42 : decode prog_10_method_22_code 42 = .ok (.if_icmp .ge 189, 3) := by decide +kernel
theorem d_Mo_putRead_45 : decode prog_10_method_22_code 45 = .ok (.aload_n 0, 1) := by decide +kernel
theorem d_Mo_putRead_46 : decode prog_10_method_22_code 46 = .ok (.getfield 25, 3) := by decide +kernel
theorem d_Mo_putRead_49 : decode prog_10_method_22_code 49 = .ok (.iload 5, 2) := by decide +kernel
theorem d_Mo_putRead_51 : decode prog_10_method_22_code 51 = .ok (.iaload, 1) := by decide +kernel
theorem d_Mo_putRead_52 : decode prog_10_method_22_code 52 = .ok (.istore 6, 2) := by decide +kernel
theorem d_Mo_putRead_54 : decode prog_10_method_22_code 54 = .ok (.aload_n 0, 1) := by decide +kernel
theorem d_Mo_putRead_55 : decode prog_10_method_22_code 55 = .ok (.getfield 28, 3) := by decide +kernel
theorem d_Mo_putRead_58 : decode prog_10_method_22_code 58 = .ok (.iload 5, 2) := by decide +kernel
theorem d_Mo_putRead_60 : decode prog_10_method_22_code 60 = .ok (.iaload, 1) := by decide +kernel
theorem d_Mo_putRead_61 : decode prog_10_method_22_code 61 = .ok (.istore 7, 2) := by decide +kernel
theorem d_Mo_putRead_63 : decode prog_10_method_22_code 63 = .ok (.aload_n 0, 1) := by decide +kernel
theorem d_Mo_putRead_64 : decode prog_10_method_22_code 64 = .ok (.iload 4, 2) := by decide +kernel
theorem d_Mo_putRead_66 : decode prog_10_method_22_code 66 = .ok (.iload 6, 2) := by decide +kernel
theorem d_Mo_putRead_68 : decode prog_10_method_22_code 68 = .ok (.invokevirtual 114, 3) := by decide +kernel
theorem d_Mo_putRead_71 : decode prog_10_method_22_code 71 = .ok (.iload 6, 2) := by decide +kernel
theorem d_Mo_putRead_73 : decode prog_10_method_22_code 73 = .ok (.istore 4, 2) := by decide +kernel
theorem d_Mo_putRead_75 : decode prog_10_method_22_code 75 = .ok (.iload 6, 2) := by decide +kernel
theorem d_Mo_putRead_77 : decode prog_10_method_22_code 77 = .ok (.ifCond .eq 9, 3) := by decide +kernel
theorem d_Mo_putRead_80 : decode prog_10_method_22_code 80 = .ok (.iload 6, 2) := by decide +kernel
theorem d_Mo_putRead_82 : decode prog_10_method_22_code 82 = .ok (.iconst 3, 1) := by decide +kernel
theorem d_Mo_putRead_83 : decode prog_10_method_22_code 83 = .ok (.if_icmp .ne 29, 3) := by decide +kernel
theorem d_Mo_putRead_86 : decode prog_10_method_22_code 86 = .ok (.aload_n 0, 1) := by decide +kernel
theorem d_Mo_putRead_87 : decode prog_10_method_22_code 87 = .ok (.iload 6, 2) := by decide +kernel
theorem d_Mo_putRead_89 : decode prog_10_method_22_code 89 = .ok (.ifCond .ne 7, 3) := by decide +kernel
theorem d_Mo_putRead_92 : decode prog_10_method_22_code 92 = .ok (.iconst 1, 1) := by decide +kernel
theorem d_Mo_putRead_93 : decode prog_10_method_22_code 93 = .ok (.goto 4, 3) := by decide +kernel
theorem d_Mo_putRead_96 : decode prog_10_method_22_code 96 = .ok (.iconst 2, 1) := by decide +kernel
theorem d_Mo_putRead_97 : decode prog_10_method_22_code 97 = .ok (.iload 7, 2) := by decide +kernel
theorem d_Mo_putRead_99 : decode prog_10_method_22_code 99 = .ok (.iconst 1, 1) := by decide +kernel
theorem d_Mo_putRead_100 : decode prog_10_method_22_code 100 = .ok (.isub, 1) := by decide +kernel
theorem d_Mo_putRead_101 : decode prog_10_method_22_code 101 = .ok (.invokevirtual 111, 3) := by decide +kernel
theorem d_Mo_putRead_104 : decode prog_10_method_22_code 104 = .ok (.iload_n 3, 1) := by decide +kernel
theorem d_Mo_putRead_105 : decode prog_10_method_22_code 105 = .ok (.iload 7, 2) := by decide +kernel
theorem d_Mo_putRead_107 : decode prog_10_method_22_code 107 = .ok (.iadd, 1) := by decide +kernel
theorem d_Mo_putRead_108 : decode prog_10_method_22_code 108 = .ok (.istore_n 3, 1) := by decide +kernel
theorem d_Mo_putRead_109 : decode prog_10_method_22_code 109 = .ok (.goto 116, 3) := by decide +kernel
theorem d_Mo_putRead_112 : decode prog_10_method_22_code 112 = .ok (.iload 6, 2) := by decide +kernel
theorem d_Mo_putRead_114 : decode prog_10_method_22_code 114 = .ok (.iconst 1, 1) := by decide +kernel
theorem d_Mo_putRead_115 : decode prog_10_method_22_code 115 = .ok (.if_icmp .ne 85, 3) := by decide +kernel
theorem d_Mo_putRead_118 : decode prog_10_method_22_code 118 = .ok (.aload_n 0, 1) := by decide +kernel
theorem d_Mo_putRead_119 : decode prog_10_method_22_code 119 = .ok (.getfield 7, 3) := by decide +kernel
theorem d_Mo_putRead_122 : decode prog_10_method_22_code 122 = .ok (.iload_n 3, 1) := by decide +kernel
theorem d_Mo_putRead_123 : decode prog_10_method_22_code 123 = .ok (.iaload, 1) := by decide +kernel
theorem d_Mo_putRead_124 : decode prog_10_method_22_code 124 = .ok (.istore 8, 2) := by decide +kernel
theorem d_Mo_putRead_126 : decode prog_10_method_22_code 126 = .ok (.iload 7, 2) := by decide +kernel
theorem d_Mo_putRead_128 : decode prog_10_method_22_code 128 = .ok (.iload 8, 2) := by decide +kernel
theorem d_Mo_putRead_130 : decode prog_10_method_22_code 130 = .ok (.if_icmp .ge 8, 3) := by decide +kernel
theorem d_Mo_putRead_133 : decode prog_10_method_22_code 133 = .ok (.iload 7, 2) := by decide +kernel
theorem d_Mo_putRead_135 : decode prog_10_method_22_code 135 = .ok (.goto 7, 3) := by decide +kernel
theorem d_Mo_putRead_138 : decode prog_10_method_22_code 138 = .ok (.iload 7, 2) := by decide +kernel
theorem d_Mo_putRead_140 : decode prog_10_method_22_code 140 = .ok (.iconst 1, 1) := by decide +kernel
theorem d_Mo_putRead_141 : decode prog_10_method_22_code 141 = .ok (.isub, 1) := by decide +kernel
theorem d_Mo_putRead_142 : decode prog_10_method_22_code 142 = .ok (.istore 9, 2) := by decide +kernel
theorem d_Mo_putRead_144 : decode prog_10_method_22_code 144 = .ok (.aload_n 0, 1) := by decide +kernel
theorem d_Mo_putRead_145 : decode prog_10_method_22_code 145 = .ok (.bipush 47, 2) := by decide +kernel
theorem d_Mo_putRead_147 : decode prog_10_method_22_code 147 = .ok (.iconst 2, 1) := by decide +kernel
theorem d_Mo_putRead_148 : decode prog_10_method_22_code 148 = .ok (.iload 8, 2) := by decide +kernel
theorem d_Mo_putRead_150 : decode prog_10_method_22_code 150 = .ok (.imul, 1) := by decide +kernel
theorem d_Mo_putRead_151 : decode prog_10_method_22_code 151 = .ok (.iadd, 1) := by decide +kernel
theorem d_Mo_putRead_152 : decode prog_10_method_22_code 152 = .ok (.iload 9, 2) := by decide +kernel
theorem d_Mo_putRead_154 : decode prog_10_method_22_code 154 = .ok (.ifCond .ne 7, 3) := by decide +kernel
theorem d_Mo_putRead_157 : decode prog_10_method_22_code 157 = .ok (.iconst 0, 1) := by decide +kernel
theorem d_Mo_putRead_158 : decode prog_10_method_22_code 158 = .ok (.goto 4, 3) := by decide +kernel
theorem d_Mo_putRead_161 : decode prog_10_method_22_code 161 = .ok (.iconst 1, 1) := by decide +kernel
theorem d_Mo_putRead_162 : decode prog_10_method_22_code 162 = .ok (.invokevirtual 108, 3) := by decide +kernel
theorem d_Mo_putRead_165 : decode prog_10_method_22_code 165 = .ok (.iload 9, 2) := by decide +kernel
theorem d_Mo_putRead_167 : decode prog_10_method_22_code 167 = .ok (.ifCond .le 27, 3) := by decide +kernel
theorem d_Mo_putRead_170 : decode prog_10_method_22_code 170 = .ok (.aload_n 0, 1) := by decide +kernel
theorem d_Mo_putRead_171 : decode prog_10_method_22_code 171 = .ok (.bipush 47, 2) := by decide +kernel
theorem d_Mo_putRead_173 : decode prog_10_method_22_code 173 = .ok (.iconst 2, 1) := by decide +kernel
theorem d_Mo_putRead_174 : decode prog_10_method_22_code 174 = .ok (.iload 8, 2) := by decide +kernel
theorem d_Mo_putRead_176 : decode prog_10_method_22_code 176 = .ok (.imul, 1) := by decide +kernel
theorem d_Mo_putRead_177 : decode prog_10_method_22_code 177 = .ok (.iadd, 1) := by decide +kernel
theorem d_Mo_putRead_178 : decode prog_10_method_22_code 178 = .ok (.iconst 1, 1) := by decide +kernel
theorem d_Mo_putRead_179 : decode prog_10_method_22_code 179 = .ok (.iadd, 1) := by decide +kernel
theorem d_Mo_putRead_180 : decode prog_10_method_22_code 180 = .ok (.iload 9, 2) := by decide +kernel
theorem d_Mo_putRead_182 : decode prog_10_method_22_code 182 = .ok (.iconst 1, 1) := by decide +kernel
theorem d_Mo_putRead_183 : decode prog_10_method_22_code 183 = .ok (.if_icmp .ne 7, 3) := by decide +kernel
theorem d_Mo_putRead_186 : decode prog_10_method_22_code 186 = .ok (.iconst 0, 1) := by decide +kernel
theorem d_Mo_putRead_187 : decode prog_10_method_22_code 187 = .ok (.goto 4, 3) := by decide +kernel
theorem d_Mo_putRead_190 : decode prog_10_method_22_code 190 = .ok (.iconst 1, 1) := by decide +kernel
theorem d_Mo_putRead_191 : decode prog_10_method_22_code 191 = .ok (.invokevirtual 108, 3) := by decide +kernel
theorem d_Mo_putRead_194 : decode prog_10_method_22_code 194 = .ok (.iinc 3 1, 3) := by decide +kernel
theorem d_Mo_putRead_197 : decode prog_10_method_22_code 197 = .ok (.goto 28, 3) := by decide +kernel
theorem d_Mo_putRead_200 : decode prog_10_method_22_code 200 = .ok (.aload_n 0, 1) := by decide +kernel
theorem d_Mo_putRead_201 : decode prog_10_method_22_code 201 = .ok (.bipush 55, 2) := by decide +kernel
theorem d_Mo_putRead_203 : decode prog_10_method_22_code 203 = .ok (.iload 7, 2) := by decide +kernel
theorem d_Mo_putRead_205 : decode prog_10_method_22_code 205 = .ok (.iconst 2, 1) := by decide +kernel
theorem d_Mo_putRead_206 : decode prog_10_method_22_code 206 = .ok (.idiv, 1) := by decide +kernel
theorem d_Mo_putRead_207 : decode prog_10_method_22_code 207 = .ok (.invokevirtual 108, 3) := by decide +kernel
theorem d_Mo_putRead_210 : decode prog_10_method_22_code 210 = .ok (.aload_n 0, 1) := by decide +kernel
theorem d_Mo_putRead_211 : decode prog_10_method_22_code 211 = .ok (.bipush 56, 2) := by decide +kernel
theorem d_Mo_putRead_213 : decode prog_10_method_22_code 213 = .ok (.iload 7, 2) := by decide +kernel
theorem d_Mo_putRead_215 : decode prog_10_method_22_code 215 = .ok (.iconst 2, 1) := by decide +kernel
theorem d_Mo_putRead_216 : decode prog_10_method_22_code 216 = .ok (.idiv, 1) := by decide +kernel
theorem d_Mo_putRead_217 : decode prog_10_method_22_code 217 = .ok (.iadd, 1) := by decide +kernel
theorem d_Mo_putRead_218 : decode prog_10_method_22_code 218 = .ok (.iload 7, 2) := by decide +kernel
theorem d_Mo_putRead_220 : decode prog_10_method_22_code 220 = .ok (.iconst 2, 1) := by decide +kernel
theorem d_Mo_putRead_221 : decode prog_10_method_22_code 221 = .ok (.irem, 1) := by decide +kernel
theorem d_Mo_putRead_222 : decode prog_10_method_22_code 222 = .ok (.invokevirtual 108, 3) := by decide +kernel
theorem d_Mo_putRead_225 : decode prog_10_method_22_code 225 = .ok (.iinc 5 1, 3) := by decide +kernel
theorem d_Mo_putRead_228 : decode prog_10_method_22_code 228 = .ok (.goto (-199), 3) := by decide +kernel
theorem d_Mo_putRead_231 : decode prog_10_method_22_code 231 = .ok (.aload_n 0, 1) := by decide +kernel
theorem d_Mo_putRead_232 : decode prog_10_method_22_code 232 = .ok (.iload 4, 2) := by decide +kernel
theorem d_Mo_putRead_234 : decode prog_10_method_22_code 234 = .ok (.iconst 4, 1) := by decide +kernel
theorem d_Mo_putRead_235 : decode prog_10_method_22_code 235 = .ok (.invokevirtual 114, 3) := by decide +kernel
theorem d_Mo_putRead_238 : decode prog_10_method_22_code 238 = .ok (.return_, 1) := by decide +kernel
