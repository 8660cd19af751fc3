theorem d_En_init_0 : decode prog_5_method_1_code 0 = .ok (.aload_n 0, 1) := by decide +kernel
theorem d_En_init_1 : decode prog_5_method_1_code 1 = .ok (.invokespecial 3, 3) := by decide +kernel
theorem d_En_init_4 : decode prog_5_method_1_code 4 = .ok (.aload_n 0, 1) := by decide +kernel
theorem d_En_init_5 : decode prog_5_method_1_code 5 = .ok (.sipush 260, 3) := by decide +kernel
theorem d_En_init_8 : decode prog_5_method_1_code 8 = .ok (.newarray .int, 2) := by decide +kernel
theorem d_En_init_10 : decode prog_5_method_1_code 10 = .ok (.putfield 9, 3) := by decide +kernel
theorem d_En_init_13 : decode prog_5_method_1_code 13 = .ok (.aload_n 0, 1) := by decide +kernel
theorem d_En_init_14 : decode prog_5_method_1_code 14 = .ok (.iconst 0, 1) := by decide +kernel
theorem d_En_init_15 : decode prog_5_method_1_code 15 = .ok (.putfield 15, 3) := by decide +kernel
theorem d_En_init_18 : decode prog_5_method_1_code 18 = .ok (.aload_n 0, 1) := by decide +kernel
theorem d_En_init_19 : decode prog_5_method_1_code 19 = .ok (.lconst 0, 1) := by decide +kernel
theorem d_En_init_20 : decode prog_5_method_1_code 20 = .ok (.putfield 19, 3) := by decide +kernel
theorem d_En_init_23 : decode prog_5_method_1_code 23 = .ok (.return_, 1) := by decide +kernel
theorem d_Co_init_0 : decode prog_3_method_1_code 0 = .ok (.aload_n 0, 1) := by decide +kernel
theorem d_Co_init_1 : decode prog_3_method_1_code 1 = .ok (.invokespecial 3, 3) := by decide +kernel
theorem d_Co_init_4 : decode prog_3_method_1_code 4 = .ok (.aload_n 0, 1) := by decide +kernel
theorem d_Co_init_5 : decode prog_3_method_1_code 5 = .ok (.bipush 58, 2) := by decide +kernel
theorem d_Co_init_7 : decode prog_3_method_1_code 7 = .ok (.newarray .int, 2) := by decide +kernel
theorem d_Co_init_9 : decode prog_3_method_1_code 9 = .ok (.putfield 9, 3) := by decide +kernel
theorem d_Co_init_12 : decode prog_3_method_1_code 12 = .ok (.aload_n 0, 1) := by decide +kernel
theorem d_Co_init_13 : decode prog_3_method_1_code 13 = .ok (.ldc2_w 15, 3) := by decide +kernel
theorem d_Co_init_16 : decode prog_3_method_1_code 16 = .ok (.putfield 17, 3) := by decide +kernel
theorem d_Co_init_19 : decode prog_3_method_1_code 19 = .ok (.return_, 1) := by decide +kernel
theorem d_De_init_0 : decode prog_4_method_1_code 0 = .ok (.aload_n 0, 1) := by decide +kernel
theorem d_De_init_1 : decode prog_4_method_1_code 1 = .ok (.invokespecial 3, 3) := by decide +kernel
theorem d_De_init_4 : decode prog_4_method_1_code 4 = .ok (.aload_n 0, 1) := by decide +kernel
theorem d_De_init_5 : decode prog_4_method_1_code 5 = .ok (.sipush 255, 3) := by decide +kernel
theorem d_De_init_8 : decode prog_4_method_1_code 8 = .ok (.newarray .int, 2) := by decide +kernel
theorem d_De_init_10 : decode prog_4_method_1_code 10 = .ok (.putfield 9, 3) := by decide +kernel
theorem d_De_init_13 : decode prog_4_method_1_code 13 = .ok (.aload_n 0, 1) := by decide +kernel
theorem d_De_init_14 : decode prog_4_method_1_code 14 = .ok (.iconst 0, 1) := by decide +kernel
theorem d_De_init_15 : decode prog_4_method_1_code 15 = .ok (.putfield 15, 3) := by decide +kernel
theorem d_De_init_18 : decode prog_4_method_1_code 18 = .ok (.aload_n 0, 1) := by decide +kernel
theorem d_De_init_19 : decode prog_4_method_1_code 19 = .ok (.iconst 0, 1) := by decide +kernel
theorem d_De_init_20 : decode prog_4_method_1_code 20 = .ok (.putfield 19, 3) := by decide +kernel
theorem d_De_init_23 : decode prog_4_method_1_code 23 = .ok (.aload_n 0, 1) := by decide +kernel
theorem d_De_init_24 : decode prog_4_method_1_code 24 = .ok (.lconst 0, 1) := by decide +kernel
theorem d_De_init_25 : decode prog_4_method_1_code 25 = .ok (.putfield 22, 3) := by decide +kernel
theorem d_De_init_28 : decode prog_4_method_1_code 28 = .ok (.return_, 1) := by decide +kernel
theorem d_En_writeBlock_0 : decode prog_5_method_2_code 0 = .ok (.aload_n 0, 1) := by decide +kernel
theorem d_En_writeBlock_1 : decode prog_5_method_2_code 1 = .ok (.invokevirtual 23, 3) := by decide +kernel
theorem d_En_writeBlock_4 : decode prog_5_method_2_code 4 = .ok (.aload_n 0, 1) := by decide +kernel
theorem d_En_writeBlock_5 : decode prog_5_method_2_code 5 = .ok (.lconst 0, 1) := by decide +kernel
theorem d_En_writeBlock_6 : decode prog_5_method_2_code 6 = .ok (.putfield 19, 3) := by decide +kernel
theorem d_En_writeBlock_9 : decode prog_5_method_2_code 9 = .ok (.aload_n 0, 1) := by decide +kernel
theorem d_En_writeBlock_10 : decode prog_5_method_2_code 10 = .ok (.iconst 3, 1) := by decide +kernel
theorem d_En_writeBlock_11 : decode prog_5_method_2_code 11 = .ok (.putfield 15, 3) := by decide +kernel
theorem d_En_writeBlock_14 : decode prog_5_method_2_code 14 = .ok (.aload_n 2, 1) := by decide +kernel
theorem d_En_writeBlock_15 : decode prog_5_method_2_code 15 = .ok (.iload_n 3, 1) := by decide +kernel
theorem d_En_writeBlock_16 : decode prog_5_method_2_code 16 = .ok (.aaload, 1) := by decide +kernel
theorem d_En_writeBlock_17 : decode prog_5_method_2_code 17 = .ok (.getfield 26, 3) := by decide +kernel
theorem d_En_writeBlock_20 : decode prog_5_method_2_code 20 = .ok (.istore 5, 2) := by decide +kernel
theorem d_En_writeBlock_22 : decode prog_5_method_2_code 22 = .ok (.aload_n 0, 1) := by decide +kernel
theorem d_En_writeBlock_23 : decode prog_5_method_2_code 23 = .ok (.getfield 9, 3) := by decide +kernel
theorem d_En_writeBlock_26 : decode prog_5_method_2_code 26 = .ok (.iconst 0, 1) := by decide +kernel
theorem d_En_writeBlock_27 : decode prog_5_method_2_code 27 = .ok (.iload 4, 2) := by decide +kernel
theorem d_En_writeBlock_29 : decode prog_5_method_2_code 29 = .ok (.iastore, 1) := by decide +kernel
theorem d_En_writeBlock_30 : decode prog_5_method_2_code 30 = .ok (.aload_n 0, 1) := by decide +kernel
theorem d_En_writeBlock_31 : decode prog_5_method_2_code 31 = .ok (.getfield 9, 3) := by decide +kernel
theorem d_En_writeBlock_34 : decode prog_5_method_2_code 34 = .ok (.iconst 1, 1) := by decide +kernel
theorem d_En_writeBlock_35 : decode prog_5_method_2_code 35 = .ok (.iload 5, 2) := by decide +kernel
theorem d_En_writeBlock_37 : decode prog_5_method_2_code 37 = .ok (.iastore, 1) := by decide +kernel
theorem d_En_writeBlock_38 : decode prog_5_method_2_code 38 = .ok (.iload_n 3, 1) := by decide +kernel
theorem d_En_writeBlock_39 : decode prog_5_method_2_code 39 = .ok (.istore 6, 2) := by decide +kernel
theorem d_En_writeBlock_41 : decode prog_5_method_2_code 41 = .ok (.iload 6, 2) := by decide +kernel
theorem d_En_writeBlock_43 : decode prog_5_method_2_code 43 = .ok (.iload_n 3, 1) := by decide +kernel
theorem d_En_writeBlock_44 : decode prog_5_method_2_code 44 = .ok (.iload 4, 2) := by decide +kernel
theorem d_En_writeBlock_46 : decode prog_5_method_2_code 46 = .ok (.iadd, 1) := by decide +kernel
theorem d_En_writeBlock_47 : decode prog_5_method_2_code 47 = .ok (.if_icmp .ge 37, 3) := by decide +kernel
theorem d_En_writeBlock_50 : decode prog_5_method_2_code 50 = .ok (.aload_n 0, 1) := by decide +kernel
theorem d_En_writeBlock_51 : decode prog_5_method_2_code 51 = .ok (.aload_n 1, 1) := by decide +kernel
theorem d_En_writeBlock_52 : decode prog_5_method_2_code 52 = .ok (.aload_n 2, 1) := by decide +kernel
theorem d_En_writeBlock_53 : decode prog_5_method_2_code 53 = .ok (.iload 6, 2) := by decide +kernel
theorem d_En_writeBlock_55 : decode prog_5_method_2_code 55 = .ok (.aaload, 1) := by decide +kernel
theorem d_En_writeBlock_56 : decode prog_5_method_2_code 56 = .ok (.aload_n 2, 1) := by decide +kernel
theorem d_En_writeBlock_57 : decode prog_5_method_2_code 57 = .ok (.iload 6, 2) := by decide +kernel
theorem d_En_writeBlock_59 : decode prog_5_method_2_code 59 = .ok (.aaload, 1) := by decide +kernel
theorem d_En_writeBlock_60 : decode prog_5_method_2_code 60 = .ok (.getfield 26, 3) := by decide +kernel
theorem d_En_writeBlock_63 : decode prog_5_method_2_code 63 = .ok (.iload 5, 2) := by decide +kernel
theorem d_En_writeBlock_65 : decode prog_5_method_2_code 65 = .ok (.isub, 1) := by decide +kernel
theorem d_En_writeBlock_66 : decode prog_5_method_2_code 66 = .ok (.invokevirtual 31, 3) := by decide +kernel
theorem d_En_writeBlock_69 : decode prog_5_method_2_code 69 = .ok (.aload_n 2, 1) := by decide +kernel
theorem d_En_writeBlock_70 : decode prog_5_method_2_code 70 = .ok (.iload 6, 2) := by decide +kernel
theorem d_En_writeBlock_72 : decode prog_5_method_2_code 72 = .ok (.aaload, 1) := by decide +kernel
theorem d_En_writeBlock_73 : decode prog_5_method_2_code 73 = .ok (.getfield 26, 3) := by decide +kernel
theorem d_En_writeBlock_76 : decode prog_5_method_2_code 76 = .ok (.istore 5, 2) := by decide +kernel
theorem d_En_writeBlock_78 : decode prog_5_method_2_code 78 = .ok (.iinc 6 1, 3) := by decide +kernel
theorem d_En_writeBlock_81 : decode prog_5_method_2_code 81 = .ok (.goto (-40), 3) := by decide +kernel
theorem d_En_writeBlock_84 : decode prog_5_method_2_code 84 = .ok (.aload_n 0, 1) := by decide +kernel
theorem d_En_writeBlock_85 : decode prog_5_method_2_code 85 = .ok (.invokevirtual 35, 3) := by decide +kernel
theorem d_En_writeBlock_88 : decode prog_5_method_2_code 88 = .ok (.aload_n 0, 1) := by decide +kernel
theorem d_En_writeBlock_89 : decode prog_5_method_2_code 89 = .ok (.invokevirtual 38, 3) := by decide +kernel
theorem d_En_writeBlock_92 : decode prog_5_method_2_code 92 = .ok (.return_, 1) := by decide +kernel
theorem d_Co_renew_0 : decode prog_3_method_4_code 0 = .ok (.aload_n 0, 1) := by decide +kernel
theorem d_Co_renew_1 : decode prog_3_method_4_code 1 = .ok (.getfield 9, 3) := by decide +kernel
theorem d_Co_renew_4 : decode prog_3_method_4_code 4 = .ok (.sipush 1024, 3) := by decide +kernel
theorem d_Co_renew_7 : decode prog_3_method_4_code 7 = .ok (.invokestatic 21, 3) := by decide +kernel
theorem d_Co_renew_10 : decode prog_3_method_4_code 10 = .ok (.aload_n 0, 1) := by decide +kernel
theorem d_Co_renew_11 : decode prog_3_method_4_code 11 = .ok (.ldc2_w 15, 3) := by decide +kernel
theorem d_Co_renew_14 : decode prog_3_method_4_code 14 = .ok (.putfield 17, 3) := by decide +kernel
theorem d_Co_renew_17 : decode prog_3_method_4_code 17 = .ok (.return_, 1) := by decide +kernel
theorem d_JA_fill_0 : decode prog_21_method_103_code 0 = .ok (.iconst 0, 1) := by decide +kernel
theorem d_JA_fill_1 : decode prog_21_method_103_code 1 = .ok (.istore_n 2, 1) := by decide +kernel
theorem d_JA_fill_2 : decode prog_21_method_103_code 2 = .ok (.aload_n 0, 1) := by decide +kernel
theorem d_JA_fill_3 : decode prog_21_method_103_code 3 = .ok (.arraylength, 1) := by decide +kernel
theorem d_JA_fill_4 : decode prog_21_method_103_code 4 = .ok (.istore_n 3, 1) := by decide +kernel
theorem d_JA_fill_5 : decode prog_21_method_103_code 5 = .ok (.iload_n 2, 1) := by decide +kernel
theorem d_JA_fill_6 : decode prog_21_method_103_code 6 = .ok (.iload_n 3, 1) := by decide +kernel
theorem d_JA_fill_7 : decode prog_21_method_103_code 7 = .ok (.if_icmp .ge 13, 3) := by decide +kernel
theorem d_JA_fill_10 : decode prog_21_method_103_code 10 = .ok (.aload_n 0, 1) := by decide +kernel
theorem d_JA_fill_11 : decode prog_21_method_103_code 11 = .ok (.iload_n 2, 1) := by decide +kernel
theorem d_JA_fill_12 : decode prog_21_method_103_code 12 = .ok (.iload_n 1, 1) := by decide +kernel
theorem d_JA_fill_13 : decode prog_21_method_103_code 13 = .ok (.iastore, 1) := by decide +kernel
theorem d_JA_fill_14 : decode prog_21_method_103_code 14 = .ok (.iinc 2 1, 3) := by decide +kernel
theorem d_JA_fill_17 : decode prog_21_method_103_code 17 = .ok (.goto (-12), 3) := by decide +kernel
theorem d_JA_fill_20 : decode prog_21_method_103_code 20 = .ok (.return_, 1) := by decide +kernel
theorem d_En_writeRead_0 : decode prog_5_method_3_code 0 = .ok (.aload_n 0, 1) := by decide +kernel
theorem d_En_writeRead_1 : decode prog_5_method_3_code 1 = .ok (.iconst 0, 1) := by decide +kernel
theorem d_En_writeRead_2 : decode prog_5_method_3_code 2 = .ok (.iload_n 3, 1) := by decide +kernel
theorem d_En_writeRead_3 : decode prog_5_method_3_code 3 = .ok (.invokevirtual 41, 3) := by decide +kernel
theorem d_En_writeRead_6 : decode prog_5_method_3_code 6 = .ok (.pop, 1) := by decide +kernel
theorem d_En_writeRead_7 : decode prog_5_method_3_code 7 = .ok (.iconst 4, 1) := by decide +kernel
theorem d_En_writeRead_8 : decode prog_5_method_3_code 8 = .ok (.istore 4, 2) := by decide +kernel
theorem d_En_writeRead_10 : decode prog_5_method_3_code 10 = .ok (.aload_n 2, 1) := by decide +kernel
theorem d_En_writeRead_11 : decode prog_5_method_3_code 11 = .ok (.getfield 26, 3) := by decide +kernel
theorem d_En_writeRead_14 : decode prog_5_method_3_code 14 = .ok (.istore 5, 2) := by decide +kernel
theorem d_En_writeRead_16 : decode prog_5_method_3_code 16 = .ok (.iconst 0, 1) := by decide +kernel
theorem d_En_writeRead_17 : decode prog_5_method_3_code 17 = .ok (.istore 6, 2) := by decide +kernel
theorem d_En_writeRead_19 : decode prog_5_method_3_code 19 = .ok (.iload 6, 2) := by decide +kernel
theorem d_En_writeRead_21 : decode prog_5_method_3_code 21 = .ok (.aload_n 2, 1) := by decide +kernel
theorem d_En_writeRead_22 : decode prog_5_method_3_code 22 = .ok (.getfield 45, 3) := by decide +kernel
theorem d_En_writeRead_25 : decode prog_5_method_3_code 25 = .ok (.if_icmp .ge 75, 3) := by decide +kernel
theorem d_En_writeRead_28 : decode prog_5_method_3_code 28 = .ok (.aload_n 2, 1) := by decide +kernel
theorem d_En_writeRead_29 : decode prog_5_method_3_code 29 = .ok (.getfield 48, 3) := by decide +kernel
theorem d_En_writeRead_32 : decode prog_5_method_3_code 32 = .ok (.iload 6, 2) := by decide +kernel
theorem d_En_writeRead_34 : decode prog_5_method_3_code 34 = .ok (.iaload, 1) := by decide +kernel
theorem d_En_writeRead_35 : decode prog_5_method_3_code 35 = .ok (.istore 7, 2) := by decide +kernel
theorem d_En_writeRead_37 : decode prog_5_method_3_code 37 = .ok (.aload_n 2, 1) := by decide +kernel
theorem d_En_writeRead_38 : decode prog_5_method_3_code 38 = .ok (.getfield 51, 3) := by decide +kernel
theorem d_En_writeRead_41 : decode prog_5_method_3_code 41 = .ok (.iload 6, 2) := by decide +kernel
theorem d_En_writeRead_43 : decode prog_5_method_3_code 43 = .ok (.iaload, 1) := by decide +kernel
theorem d_En_writeRead_44 : decode prog_5_method_3_code 44 = .ok (.istore 8, 2) := by decide +kernel
theorem d_En_writeRead_46 : decode prog_5_method_3_code 46 = .ok (.aload_n 0, 1) := by decide +kernel
theorem d_En_writeRead_47 : decode prog_5_method_3_code 47 = .ok (.iload 4, 2) := by decide +kernel
theorem d_En_writeRead_49 : decode prog_5_method_3_code 49 = .ok (.iload 7, 2) := by decide +kernel
theorem d_En_writeRead_51 : decode prog_5_method_3_code 51 = .ok (.invokevirtual 54, 3) := by decide +kernel
theorem d_En_writeRead_54 : decode prog_5_method_3_code 54 = .ok (.pop, 1) := by decide +kernel
theorem d_En_writeRead_55 : decode prog_5_method_3_code 55 = .ok (.aload_n 0, 1) := by decide +kernel
theorem d_En_writeRead_56 : decode prog_5_method_3_code 56 = .ok (.aload_n 1, 1) := by decide +kernel
theorem d_En_writeRead_57 : decode prog_5_method_3_code 57 = .ok (.iload 5, 2) := by decide +kernel
theorem d_En_writeRead_59 : decode prog_5_method_3_code 59 = .ok (.iload 7, 2) := by decide +kernel
theorem d_En_writeRead_61 : decode prog_5_method_3_code 61 = .ok (.iload 8, 2) := by decide +kernel
theorem d_En_writeRead_63 : decode prog_5_method_3_code 63 = .ok (.invokevirtual 57, 3) := by decide +kernel
theorem d_En_writeRead_66 : decode prog_5_method_3_code 66 = .ok (.pop, 1) := by decide +kernel
theorem d_En_writeRead_67 : decode prog_5_method_3_code 67 = .ok (.iload 7, 2) := by decide +kernel
theorem d_En_writeRead_69 : decode prog_5_method_3_code 69 = .ok (.iconst 2, 1) := by decide +kernel
theorem d_En_writeRead_70 : decode prog_5_method_3_code 70 = .ok (.if_icmp .eq 20, 3) := by decide +kernel
theorem d_En_writeRead_73 : decode prog_5_method_3_code 73 = .ok (.iload 5, 2) := by decide +kernel
theorem d_En_writeRead_75 : decode prog_5_method_3_code 75 = .ok (.iload 7, 2) := by decide +kernel
theorem d_En_writeRead_77 : decode prog_5_method_3_code 77 = .ok (.iconst 1, 1) := by decide +kernel
theorem d_En_writeRead_78 : decode prog_5_method_3_code 78 = .ok (.if_icmp .ne 7, 3) := by decide +kernel
theorem d_En_writeRead_81 : decode prog_5_method_3_code 81 = .ok (.iconst 1, 1) := by decide +kernel
theorem d_En_writeRead_82 : decode prog_5_method_3_code 82 = .ok (.goto 5, 3) := by decide +kernel
theorem d_En_writeRead_85 : decode prog_5_method_3_code 85 = .ok (.iload 8, 2) := by decide +kernel
theorem d_En_writeRead_87 : decode prog_5_method_3_code 87 = .ok (.iadd, 1) := by decide +kernel
theorem d_En_writeRead_88 : decode prog_5_method_3_code 88 = .ok (.istore 5, 2) := by decide +kernel
theorem d_En_writeRead_90 : decode prog_5_method_3_code 90 = .ok (.iload 7, 2) := by decide +kernel
theorem d_En_writeRead_92 : decode prog_5_method_3_code 92 = .ok (.istore 4, 2) := by decide +kernel
theorem d_En_writeRead_94 : decode prog_5_method_3_code 94 = .ok (.iinc 6 1, 3) := by decide +kernel
theorem d_En_writeRead_97 : decode prog_5_method_3_code 97 = .ok (.goto (-78), 3) := by decide +kernel
theorem d_En_writeRead_100 : decode prog_5_method_3_code 100 = .ok (.aload_n 0, 1) := by decide +kernel
theorem d_En_writeRead_101 : decode prog_5_method_3_code 101 = .ok (.iload 4, 2) := by decide +kernel
theorem d_En_writeRead_103 : decode prog_5_method_3_code 103 = .ok (.iconst 4, 1) := by decide +kernel
theorem d_En_writeRead_104 : decode prog_5_method_3_code 104 = .ok (.invokevirtual 54, 3) := by decide +kernel
theorem d_En_writeRead_107 : decode prog_5_method_3_code 107 = .ok (.pop, 1) := by decide +kernel
theorem d_En_writeRead_108 : decode prog_5_method_3_code 108 = .ok (.return_, 1) := by decide +kernel
theorem d_Co_number_0 : decode prog_3_method_6_code 0 = .ok (.iconst 0, 1) := by decide +kernel
theorem d_Co_number_1 : decode prog_3_method_6_code 1 = .ok (.istore_n 3, 1) := by decide +kernel
theorem d_Co_number_2 : decode prog_3_method_6_code 2 = .ok (.iconst 0, 1) := by decide +kernel
theorem d_Co_number_3 : decode prog_3_method_6_code 3 = .ok (.istore 4, 2) := by decide +kernel
theorem d_Co_number_5 : decode prog_3_method_6_code 5 = .ok (.iload 4, 2) := by decide +kernel
theorem d_Co_number_7 : decode prog_3_method_6_code 7 = .ok (.bipush 9, 2) := by decide +kernel
theorem d_Co_number_9 : decode prog_3_method_6_code 9 = .ok (.if_icmp .ge 41, 3) := by decide +kernel
theorem d_Co_number_12 : decode prog_3_method_6_code 12 = .ok (.aload_n 0, 1) := by decide +kernel
theorem d_Co_number_13 : decode prog_3_method_6_code 13 = .ok (.iload_n 1, 1) := by decide +kernel
theorem d_Co_number_14 : decode prog_3_method_6_code 14 = .ok (.iload 4, 2) := by decide +kernel
theorem d_Co_number_16 : decode prog_3_method_6_code 16 = .ok (.iadd, 1) := by decide +kernel
theorem d_Co_number_17 : decode prog_3_method_6_code 17 = .ok (.iload_n 2, 1) := by decide +kernel
theorem d_Co_number_18 : decode prog_3_method_6_code 18 = .ok (.iconst 1, 1) := by decide +kernel
theorem d_Co_number_19 : decode prog_3_method_6_code 19 = .ok (.iadd, 1) := by decide +kernel
theorem d_Co_number_20 : decode prog_3_method_6_code 20 = .ok (.iconst 2, 1) := by decide +kernel
theorem d_Co_number_21 : decode prog_3_method_6_code 21 = .ok (.iload 4, 2) := by decide +kernel
theorem d_Co_number_23 : decode prog_3_method_6_code 23 = .ok (.ishl, 1) := by decide +kernel
theorem d_Co_number_24 : decode prog_3_method_6_code 24 = .ok (.if_icmp .lt 7, 3) := by decide +kernel
theorem d_Co_number_27 : decode prog_3_method_6_code 27 = .ok (.iconst 1, 1) := by decide +kernel
theorem d_Co_number_28 : decode prog_3_method_6_code 28 = .ok (.goto 4, 3) := by decide +kernel
theorem d_Co_number_31 : decode prog_3_method_6_code 31 = .ok (.iconst 0, 1) := by decide +kernel
theorem d_Co_number_32 : decode prog_3_method_6_code 32 = .ok (.invokevirtual 40, 3) := by decide +kernel
theorem d_Co_number_35 : decode prog_3_method_6_code 35 = .ok (.ifCond .ne 6, 3) := by decide +kernel
theorem d_Co_number_38 : decode prog_3_method_6_code 38 = .ok (.goto 12, 3) := by decide +kernel
theorem d_Co_number_41 : decode prog_3_method_6_code 41 = .ok (.iinc 3 1, 3) := by decide +kernel
theorem d_Co_number_44 : decode prog_3_method_6_code 44 = .ok (.iinc 4 1, 3) := by decide +kernel
theorem d_Co_number_47 : decode prog_3_method_6_code 47 = .ok (.goto (-42), 3) := by decide +kernel
theorem d_Co_number_50 : decode prog_3_method_6_code 50 = .ok (.iconst 1, 1) := by decide +kernel
theorem d_Co_number_51 : decode prog_3_method_6_code 51 = .ok (.istore 4, 2) := by decide +kernel
theorem d_Co_number_53 : decode prog_3_method_6_code 53 = .ok (.iload_n 3, 1) := by decide +kernel
theorem d_Co_number_54 : decode prog_3_method_6_code 54 = .ok (.iconst 1, 1) := by decide +kernel
theorem d_Co_number_55 : decode prog_3_method_6_code 55 = .ok (.isub, 1) := by decide +kernel
theorem d_Co_number_56 : decode prog_3_method_6_code 56 = .ok (.istore 5, 2) := by decide +kernel
theorem d_Co_number_58 : decode prog_3_method_6_code 58 = .ok (.iload 5, 2) := by decide +kernel
theorem d_Co_number_60 : decode prog_3_method_6_code 60 = .ok (.ifCond .lt 29, 3) := by decide +kernel
theorem d_Co_number_63 : decode prog_3_method_6_code 63 = .ok (.iconst 2, 1) := by decide +kernel
theorem d_Co_number_64 : decode prog_3_method_6_code 64 = .ok (.iload 4, 2) := by decide +kernel
theorem d_Co_number_66 : decode prog_3_method_6_code 66 = .ok (.imul, 1) := by decide +kernel
theorem d_Co_number_67 : decode prog_3_method_6_code 67 = .ok (.aload_n 0, 1) := by decide +kernel
theorem d_Co_number_68 : decode prog_3_method_6_code 68 = .ok (.iconst (-1), 1) := by decide +kernel
theorem d_Co_number_69 : decode prog_3_method_6_code 69 = .ok (.iload_n 2, 1) := by decide +kernel
theorem d_Co_number_70 : decode prog_3_method_6_code 70 = .ok (.iconst 1, 1) := by decide +kernel
theorem d_Co_number_71 : decode prog_3_method_6_code 71 = .ok (.iadd, 1) := by decide +kernel
theorem d_Co_number_72 : decode prog_3_method_6_code 72 = .ok (.iload 5, 2) := by decide +kernel
theorem d_Co_number_74 : decode prog_3_method_6_code 74 = .ok (.ishr, 1) := by decide +kernel
theorem d_Co_number_75 : decode prog_3_method_6_code 75 = .ok (.iconst 1, 1) := by decide +kernel
theorem d_Co_number_76 : decode prog_3_method_6_code 76 = .ok (.iand, 1) := by decide +kernel
theorem d_Co_number_77 : decode prog_3_method_6_code 77 = .ok (.invokevirtual 40, 3) := by decide +kernel
theorem d_Co_number_80 : decode prog_3_method_6_code 80 = .ok (.iadd, 1) := by decide +kernel
theorem d_Co_number_81 : decode prog_3_method_6_code 81 = .ok (.istore 4, 2) := by decide +kernel
theorem d_Co_number_83 : decode prog_3_method_6_code 83 = .ok (.iinc 5 (-1), 3) := by decide +kernel
theorem d_Co_number_86 : decode prog_3_method_6_code 86 = .ok (.goto (-28), 3) := by decide +kernel
theorem d_Co_number_89 : decode prog_3_method_6_code 89 = .ok (.iload 4, 2) := by decide +kernel
theorem d_Co_number_91 : decode prog_3_method_6_code 91 = .ok (.iconst 1, 1) := by decide +kernel
theorem d_Co_number_92 : decode prog_3_method_6_code 92 = .ok (.isub, 1) := by decide +kernel
theorem d_Co_number_93 : decode prog_3_method_6_code 93 = .ok (.ireturn, 1) := by decide +kernel
theorem d_Co_bit_0 : decode prog_3_method_5_code 0 = .ok (.iload_n 1, 1) := by decide +kernel
theorem d_Co_bit_1 : decode prog_3_method_5_code 1 = .ok (.iconst (-1), 1) := by decide +kernel
theorem d_Co_bit_2 : decode prog_3_method_5_code 2 = .ok (.if_icmp .ne 9, 3) := by decide +kernel
theorem d_Co_bit_5 : decode prog_3_method_5_code 5 = .ok (.sipush 1024, 3) := by decide +kernel
theorem d_Co_bit_8 : decode prog_3_method_5_code 8 = .ok (.goto 9, 3) := by decide +kernel
theorem d_Co_bit_11 : decode prog_3_method_5_code 11 = .ok (.aload_n 0, 1) := by decide +kernel
theorem d_Co_bit_12 : decode prog_3_method_5_code 12 = .ok (.getfield 9, 3) := by decide +kernel
theorem d_Co_bit_15 : decode prog_3_method_5_code 15 = .ok (.iload_n 1, 1) := by decide +kernel
theorem d_Co_bit_16 : decode prog_3_method_5_code 16 = .ok (.iaload, 1) := by decide +kernel
theorem d_Co_bit_17 : decode prog_3_method_5_code 17 = .ok (.istore_n 3, 1) := by decide +kernel
theorem d_Co_bit_18 : decode prog_3_method_5_code 18 = .ok (.aload_n 0, 1) := by decide +kernel
theorem d_Co_bit_19 : decode prog_3_method_5_code 19 = .ok (.getfield 17, 3) := by decide +kernel
theorem d_Co_bit_22 : decode prog_3_method_5_code 22 = .ok (.ldc2_w 27, 3) := by decide +kernel
theorem d_Co_bit_25 : decode prog_3_method_5_code 25 = .ok (.ldiv, 1) := by decide +kernel
theorem d_Co_bit_26 : decode prog_3_method_5_code 26 = .ok (.iload_n 3, 1) := by decide +kernel
theorem d_Co_bit_27 : decode prog_3_method_5_code 27 = .ok (.i2l, 1) := by decide +kernel
theorem d_Co_bit_28 : decode prog_3_method_5_code 28 = .ok (.lmul, 1) := by decide +kernel
theorem d_Co_bit_29 : decode prog_3_method_5_code 29 = .ok (.lstore 4, 2) := by decide +kernel
theorem d_Co_bit_31 : decode prog_3_method_5_code 31 = .ok (.aload_n 0, 1) := by decide +kernel
theorem d_Co_bit_32 : decode prog_3_method_5_code 32 = .ok (.lload 4, 2) := by decide +kernel
theorem d_Co_bit_34 : decode prog_3_method_5_code 34 = .ok (.iload_n 2, 1) := by decide +kernel
theorem d_Co_bit_35 : decode prog_3_method_5_code 35 = .ok (.invokevirtual 29, 3) := by decide +kernel
theorem d_Co_bit_38 : decode prog_3_method_5_code 38 = .ok (.istore 6, 2) := by decide +kernel
theorem d_Co_bit_40 : decode prog_3_method_5_code 40 = .ok (.aload_n 0, 1) := by decide +kernel
theorem d_Co_bit_41 : decode prog_3_method_5_code 41 = .ok (.iload 6, 2) := by decide +kernel
theorem d_Co_bit_43 : decode prog_3_method_5_code 43 = .ok (.ifCond .ne 8, 3) := by decide +kernel
theorem d_Co_bit_46 : decode prog_3_method_5_code 46 = .ok (.lload 4, 2) := by decide +kernel
theorem d_Co_bit_48 : decode prog_3_method_5_code 48 = .ok (.goto 10, 3) := by decide +kernel
theorem d_Co_bit_51 : decode prog_3_method_5_code 51 = .ok (.aload_n 0, 1) := by decide +kernel
theorem d_Co_bit_52 : decode prog_3_method_5_code 52 = .ok (.getfield 17, 3) := by decide +kernel
theorem d_Co_bit_55 : decode prog_3_method_5_code 55 = .ok (.lload 4, 2) := by decide +kernel
theorem d_Co_bit_57 : decode prog_3_method_5_code 57 = .ok (.lsub, 1) := by decide +kernel
theorem d_Co_bit_58 : decode prog_3_method_5_code 58 = .ok (.putfield 17, 3) := by decide +kernel
theorem d_Co_bit_61 : decode prog_3_method_5_code 61 = .ok (.iload_n 1, 1) := by decide +kernel
theorem d_Co_bit_62 : decode prog_3_method_5_code 62 = .ok (.iconst (-1), 1) := by decide +kernel
theorem d_Co_bit_63 : decode prog_3_method_5_code 63 = .ok (.if_icmp .eq 33, 3) := by decide +kernel
theorem d_Co_bit_66 : decode prog_3_method_5_code 66 = .ok (.aload_n 0, 1) := by decide +kernel
theorem d_Co_bit_67 : decode prog_3_method_5_code 67 = .ok (.getfield 9, 3) := by decide +kernel
theorem d_Co_bit_70 : decode prog_3_method_5_code 70 = .ok (.iload_n 1, 1) := by decide +kernel
theorem d_Co_bit_71 : decode prog_3_method_5_code 71 = .ok (.iload 6, 2) := by decide +kernel
theorem d_Co_bit_73 : decode prog_3_method_5_code 73 = .ok (.ifCond .ne 16, 3) := by decide +kernel
theorem d_Co_bit_76 : decode prog_3_method_5_code 76 = .ok (.iload_n 3, 1) := by decide +kernel
theorem d_Co_bit_77 : decode prog_3_method_5_code 77 = .ok (.sipush 2048, 3) := by decide +kernel
theorem d_Co_bit_80 : decode prog_3_method_5_code 80 = .ok (.iload_n 3, 1) := by decide +kernel
theorem d_Co_bit_81 : decode prog_3_method_5_code 81 = .ok (.isub, 1) := by decide +kernel
theorem d_Co_bit_82 : decode prog_3_method_5_code 82 = .ok (.bipush 16, 2) := by decide +kernel
theorem d_Co_bit_84 : decode prog_3_method_5_code 84 = .ok (.idiv, 1) := by decide +kernel
theorem d_Co_bit_85 : decode prog_3_method_5_code 85 = .ok (.iadd, 1) := by decide +kernel
theorem d_Co_bit_86 : decode prog_3_method_5_code 86 = .ok (.goto 9, 3) := by decide +kernel
theorem d_Co_bit_89 : decode prog_3_method_5_code 89 = .ok (.iload_n 3, 1) := by decide +kernel
theorem d_Co_bit_90 : decode prog_3_method_5_code 90 = .ok (.iload_n 3, 1) := by decide +kernel
theorem d_Co_bit_91 : decode prog_3_method_5_code 91 = .ok (.bipush 16, 2) := by decide +kernel
theorem d_Co_bit_93 : decode prog_3_method_5_code 93 = .ok (.idiv, 1) := by decide +kernel
theorem d_Co_bit_94 : decode prog_3_method_5_code 94 = .ok (.isub, 1) := by decide +kernel
theorem d_Co_bit_95 : decode prog_3_method_5_code 95 = .ok (.iastore, 1) := by decide +kernel
theorem d_Co_bit_96 : decode prog_3_method_5_code 96 = .ok (.iconst 0, 1) := by decide +kernel
theorem d_Co_bit_97 : decode prog_3_method_5_code 97 = .ok (.istore 7, 2) := by decide +kernel
theorem d_Co_bit_99 : decode prog_3_method_5_code 99 = .ok (.iload 7, 2) := by decide +kernel
theorem d_Co_bit_101 : decode prog_3_method_5_code 101 = .ok (.iconst 4, 1) := by decide +kernel
theorem d_Co_bit_102 : decode prog_3_method_5_code 102 = .ok (.if_icmp .ge 36, 3) := by decide +kernel
theorem d_Co_bit_105 : decode prog_3_method_5_code 105 = .ok (.aload_n 0, 1) := by decide +kernel
theorem d_Co_bit_106 : decode prog_3_method_5_code 106 = .ok (.getfield 17, 3) := by decide +kernel
theorem d_Co_bit_109 : decode prog_3_method_5_code 109 = .ok (.ldc2_w 33, 3) := by decide +kernel
theorem d_Co_bit_112 : decode prog_3_method_5_code 112 = .ok (.lcmp, 1) := by decide +kernel
theorem d_Co_bit_113 : decode prog_3_method_5_code 113 = .ok (.ifCond .ge 25, 3) := by decide +kernel
theorem d_Co_bit_116 : decode prog_3_method_5_code 116 = .ok (.aload_n 0, 1) := by decide +kernel
theorem d_Co_bit_117 : decode prog_3_method_5_code 117 = .ok (.invokevirtual 35, 3) := by decide +kernel
theorem d_Co_bit_120 : decode prog_3_method_5_code 120 = .ok (.aload_n 0, 1) := by decide +kernel
theorem d_Co_bit_121 : decode prog_3_method_5_code 121 = .ok (.dup, 1) := by decide +kernel
theorem d_Co_bit_122 : decode prog_3_method_5_code 122 = .ok (.getfield 17, 3) := by decide +kernel
theorem d_Co_bit_125 : decode prog_3_method_5_code 125 = .ok (.ldc2_w 38, 3) := by decide +kernel
theorem d_Co_bit_128 : decode prog_3_method_5_code 128 = .ok (.lmul, 1) := by decide +kernel
theorem d_Co_bit_129 : decode prog_3_method_5_code 129 = .ok (.putfield 17, 3) := by decide +kernel
theorem d_Co_bit_132 : decode prog_3_method_5_code 132 = .ok (.iinc 7 1, 3) := by decide +kernel
theorem d_Co_bit_135 : decode prog_3_method_5_code 135 = .ok (.goto (-36), 3) := by decide +kernel
theorem d_Co_bit_138 : decode prog_3_method_5_code 138 = .ok (.iload 6, 2) := by decide +kernel
theorem d_Co_bit_140 : decode prog_3_method_5_code 140 = .ok (.ireturn, 1) := by decide +kernel
theorem d_De_choose_0 : decode prog_4_method_5_code 0 = .ok (.aload_n 0, 1) := by decide +kernel
theorem d_De_choose_1 : decode prog_4_method_5_code 1 = .ok (.getfield 22, 3) := by decide +kernel
theorem d_De_choose_4 : decode prog_4_method_5_code 4 = .ok (.lload_n 1, 1) := by decide +kernel
theorem d_De_choose_5 : decode prog_4_method_5_code 5 = .ok (.lcmp, 1) := by decide +kernel
theorem d_De_choose_6 : decode prog_4_method_5_code 6 = .ok (.ifCond .ge 5, 3) := by decide +kernel
theorem d_De_choose_9 : decode prog_4_method_5_code 9 = .ok (.iconst 0, 1) := by decide +kernel
theorem d_De_choose_10 : decode prog_4_method_5_code 10 = .ok (.ireturn, 1) := by decide +kernel
theorem d_De_choose_11 : decode prog_4_method_5_code 11 = .ok (.aload_n 0, 1) := by decide +kernel
theorem d_De_choose_12 : decode prog_4_method_5_code 12 = .ok (.dup, 1) := by decide +kernel
theorem d_De_choose_13 : decode prog_4_method_5_code 13 = .ok (.getfield 22, 3) := by decide +kernel
theorem d_De_choose_16 : decode prog_4_method_5_code 16 = .ok (.lload_n 1, 1) := by decide +kernel
theorem d_De_choose_17 : decode prog_4_method_5_code 17 = .ok (.lsub, 1) := by decide +kernel
theorem d_De_choose_18 : decode prog_4_method_5_code 18 = .ok (.putfield 22, 3) := by decide +kernel
theorem d_De_choose_21 : decode prog_4_method_5_code 21 = .ok (.iconst 1, 1) := by decide +kernel
theorem d_De_choose_22 : decode prog_4_method_5_code 22 = .ok (.ireturn, 1) := by decide +kernel
theorem d_En_choose_0 : decode prog_5_method_6_code 0 = .ok (.iload_n 3, 1) := by decide +kernel
theorem d_En_choose_1 : decode prog_5_method_6_code 1 = .ok (.iconst 1, 1) := by decide +kernel
theorem d_En_choose_2 : decode prog_5_method_6_code 2 = .ok (.if_icmp .ne 13, 3) := by decide +kernel
theorem d_En_choose_5 : decode prog_5_method_6_code 5 = .ok (.aload_n 0, 1) := by decide +kernel
theorem d_En_choose_6 : decode prog_5_method_6_code 6 = .ok (.dup, 1) := by decide +kernel
theorem d_En_choose_7 : decode prog_5_method_6_code 7 = .ok (.getfield 19, 3) := by decide +kernel
theorem d_En_choose_10 : decode prog_5_method_6_code 10 = .ok (.lload_n 1, 1) := by decide +kernel
theorem d_En_choose_11 : decode prog_5_method_6_code 11 = .ok (.ladd, 1) := by decide +kernel
theorem d_En_choose_12 : decode prog_5_method_6_code 12 = .ok (.putfield 19, 3) := by decide +kernel
theorem d_En_choose_15 : decode prog_5_method_6_code 15 = .ok (.aload_n 0, 1) := by decide +kernel
theorem d_En_choose_16 : decode prog_5_method_6_code 16 = .ok (.getfield 19, 3) := by decide +kernel
theorem d_En_choose_19 : decode prog_5_method_6_code 19 = .ok (.ldc2_w 65, 3) := by decide +kernel
theorem d_En_choose_22 : decode prog_5_method_6_code 22 = .ok (.lcmp, 1) := by decide +kernel
theorem d_En_choose_23 : decode prog_5_method_6_code 23 = .ok (.ifCond .lt 73, 3) := by decide +kernel
theorem d_En_choose_26 : decode prog_5_method_6_code 26 = .ok (.aload_n 0, 1) := by decide +kernel
theorem d_En_choose_27 : decode prog_5_method_6_code 27 = .ok (.dup, 1) := by decide +kernel
theorem d_En_choose_28 : decode prog_5_method_6_code 28 = .ok (.getfield 19, 3) := by decide +kernel
theorem d_En_choose_31 : decode prog_5_method_6_code 31 = .ok (.ldc2_w 65, 3) := by decide +kernel
theorem d_En_choose_34 : decode prog_5_method_6_code 34 = .ok (.lsub, 1) := by decide +kernel
theorem d_En_choose_35 : decode prog_5_method_6_code 35 = .ok (.putfield 19, 3) := by decide +kernel
theorem d_En_choose_38 : decode prog_5_method_6_code 38 = .ok (.aload_n 0, 1) := by decide +kernel
theorem d_En_choose_39 : decode prog_5_method_6_code 39 = .ok (.getfield 15, 3) := by decide +kernel
theorem d_En_choose_42 : decode prog_5_method_6_code 42 = .ok (.iconst 1, 1) := by decide +kernel
theorem d_En_choose_43 : decode prog_5_method_6_code 43 = .ok (.isub, 1) := by decide +kernel
theorem d_En_choose_44 : decode prog_5_method_6_code 44 = .ok (.istore 4, 2) := by decide +kernel
theorem d_En_choose_46 : decode prog_5_method_6_code 46 = .ok (.iload 4, 2) := by decide +kernel
theorem d_En_choose_48 : decode prog_5_method_6_code 48 = .ok (.iconst 3, 1) := by decide +kernel
theorem d_En_choose_49 : decode prog_5_method_6_code 49 = .ok (.if_icmp .lt 30, 3) := by decide +kernel
theorem d_En_choose_52 : decode prog_5_method_6_code 52 = .ok (.aload_n 0, 1) := by decide +kernel
theorem d_En_choose_53 : decode prog_5_method_6_code 53 = .ok (.getfield 9, 3) := by decide +kernel
theorem d_En_choose_56 : decode prog_5_method_6_code 56 = .ok (.iload 4, 2) := by decide +kernel
theorem d_En_choose_58 : decode prog_5_method_6_code 58 = .ok (.iaload, 1) := by decide +kernel
theorem d_En_choose_59 : decode prog_5_method_6_code 59 = .ok (.sipush 255, 3) := by decide +kernel
theorem d_En_choose_62 : decode prog_5_method_6_code 62 = .ok (.if_icmp .ne 17, 3) := by decide +kernel
theorem d_En_choose_65 : decode prog_5_method_6_code 65 = .ok (.aload_n 0, 1) := by decide +kernel
theorem d_En_choose_66 : decode prog_5_method_6_code 66 = .ok (.getfield 9, 3) := by decide +kernel
theorem d_En_choose_69 : decode prog_5_method_6_code 69 = .ok (.iload 4, 2) := by decide +kernel
theorem d_En_choose_71 : decode prog_5_method_6_code 71 = .ok (.iconst 0, 1) := by decide +kernel
theorem d_En_choose_72 : decode prog_5_method_6_code 72 = .ok (.iastore, 1) := by decide +kernel
theorem d_En_choose_73 : decode prog_5_method_6_code 73 = .ok (.iinc 4 (-1), 3) := by decide +kernel
theorem d_En_choose_76 : decode prog_5_method_6_code 76 = .ok (.goto (-30), 3) := by decide +kernel
theorem d_En_choose_79 : decode prog_5_method_6_code 79 = .ok (.iload 4, 2) := by decide +kernel
theorem d_En_choose_81 : decode prog_5_method_6_code 81 = .ok (.iconst 3, 1) := by decide +kernel
theorem d_En_choose_82 : decode prog_5_method_6_code 82 = .ok (.if_icmp .lt 14, 3) := by decide +kernel
theorem d_En_choose_85 : decode prog_5_method_6_code 85 = .ok (.aload_n 0, 1) := by decide +kernel
theorem d_En_choose_86 : decode prog_5_method_6_code 86 = .ok (.getfield 9, 3) := by decide +kernel
theorem d_En_choose_89 : decode prog_5_method_6_code 89 = .ok (.iload 4, 2) := by decide +kernel
theorem d_En_choose_91 : decode prog_5_method_6_code 91 = .ok (.dup2, 1) := by decide +kernel
theorem d_En_choose_92 : decode prog_5_method_6_code 92 = .ok (.iaload, 1) := by decide +kernel
theorem d_En_choose_93 : decode prog_5_method_6_code 93 = .ok (.iconst 1, 1) := by decide +kernel
theorem d_En_choose_94 : decode prog_5_method_6_code 94 = .ok (.iadd, 1) := by decide +kernel
theorem d_En_choose_95 : decode prog_5_method_6_code 95 = .ok (.iastore, 1) := by decide +kernel
theorem d_En_choose_96 : decode prog_5_method_6_code 96 = .ok (.iload_n 3, 1) := by decide +kernel
theorem d_En_choose_97 : decode prog_5_method_6_code 97 = .ok (.ireturn, 1) := by decide +kernel
theorem d_De_shiftByte_0 : decode prog_4_method_6_code 0 = .ok (.aload_n 0, 1) := by decide +kernel
theorem d_De_shiftByte_1 : decode prog_4_method_6_code 1 = .ok (.getfield 19, 3) := by decide +kernel
theorem d_De_shiftByte_4 : decode prog_4_method_6_code 4 = .ok (.aload_n 0, 1) := by decide +kernel
theorem d_De_shiftByte_5 : decode prog_4_method_6_code 5 = .ok (.getfield 15, 3) := by decide +kernel
theorem d_De_shiftByte_8 : decode prog_4_method_6_code 8 = .ok (.if_icmp .ge 15, 3) := by decide +kernel
theorem d_De_shiftByte_11 : decode prog_4_method_6_code 11 = .ok (.aload_n 0, 1) := by decide +kernel
theorem d_De_shiftByte_12 : decode prog_4_method_6_code 12 = .ok (.getfield 9, 3) := by decide +kernel
theorem d_De_shiftByte_15 : decode prog_4_method_6_code 15 = .ok (.aload_n 0, 1) := by decide +kernel
theorem d_De_shiftByte_16 : decode prog_4_method_6_code 16 = .ok (.getfield 19, 3) := by decide +kernel
theorem d_De_shiftByte_19 : decode prog_4_method_6_code 19 = .ok (.iaload, 1) := by decide +kernel
theorem d_De_shiftByte_20 : decode prog_4_method_6_code 20 = .ok (.goto 4, 3) := by decide +kernel
theorem d_De_shiftByte_23 : decode prog_4_method_6_code 23 = .ok (.iconst 0, 1) := by decide +kernel
theorem d_De_shiftByte_24 : decode prog_4_method_6_code 24 = .ok (.istore_n 1, 1) := by decide +kernel
theorem d_De_shiftByte_25 : decode prog_4_method_6_code 25 = .ok (.aload_n 0, 1) := by decide +kernel
theorem d_De_shiftByte_26 : decode prog_4_method_6_code 26 = .ok (.dup, 1) := by decide +kernel
theorem d_De_shiftByte_27 : decode prog_4_method_6_code 27 = .ok (.getfield 19, 3) := by decide +kernel
theorem d_De_shiftByte_30 : decode prog_4_method_6_code 30 = .ok (.iconst 1, 1) := by decide +kernel
theorem d_De_shiftByte_31 : decode prog_4_method_6_code 31 = .ok (.iadd, 1) := by decide +kernel
theorem d_De_shiftByte_32 : decode prog_4_method_6_code 32 = .ok (.putfield 19, 3) := by decide +kernel
theorem d_De_shiftByte_35 : decode prog_4_method_6_code 35 = .ok (.aload_n 0, 1) := by decide +kernel
theorem d_De_shiftByte_36 : decode prog_4_method_6_code 36 = .ok (.aload_n 0, 1) := by decide +kernel
theorem d_De_shiftByte_37 : decode prog_4_method_6_code 37 = .ok (.getfield 22, 3) := by decide +kernel
theorem d_De_shiftByte_40 : decode prog_4_method_6_code 40 = .ok (.ldc2_w 98, 3) := by decide +kernel
theorem d_De_shiftByte_43 : decode prog_4_method_6_code 43 = .ok (.lmul, 1) := by decide +kernel
theorem d_De_shiftByte_44 : decode prog_4_method_6_code 44 = .ok (.iload_n 1, 1) := by decide +kernel
theorem d_De_shiftByte_45 : decode prog_4_method_6_code 45 = .ok (.i2l, 1) := by decide +kernel
theorem d_De_shiftByte_46 : decode prog_4_method_6_code 46 = .ok (.ladd, 1) := by decide +kernel
theorem d_De_shiftByte_47 : decode prog_4_method_6_code 47 = .ok (.putfield 22, 3) := by decide +kernel
theorem d_De_shiftByte_50 : decode prog_4_method_6_code 50 = .ok (.return_, 1) := by decide +kernel
theorem d_En_shiftByte_0 : decode prog_5_method_7_code 0 = .ok (.aload_n 0, 1) := by decide +kernel
theorem d_En_shiftByte_1 : decode prog_5_method_7_code 1 = .ok (.getfield 15, 3) := by decide +kernel
theorem d_En_shiftByte_4 : decode prog_5_method_7_code 4 = .ok (.sipush 260, 3) := by decide +kernel
theorem d_En_shiftByte_7 : decode prog_5_method_7_code 7 = .ok (.if_icmp .ge 31, 3) := by decide +kernel
theorem d_En_shiftByte_10 : decode prog_5_method_7_code 10 = .ok (.aload_n 0, 1) := by decide +kernel
theorem d_En_shiftByte_11 : decode prog_5_method_7_code 11 = .ok (.getfield 9, 3) := by decide +kernel
theorem d_En_shiftByte_14 : decode prog_5_method_7_code 14 = .ok (.aload_n 0, 1) := by decide +kernel
theorem d_En_shiftByte_15 : decode prog_5_method_7_code 15 = .ok (.getfield 15, 3) := by decide +kernel
theorem d_En_shiftByte_18 : decode prog_5_method_7_code 18 = .ok (.aload_n 0, 1) := by decide +kernel
theorem d_En_shiftByte_19 : decode prog_5_method_7_code 19 = .ok (.getfield 19, 3) := by decide +kernel
theorem d_En_shiftByte_22 : decode prog_5_method_7_code 22 = .ok (.ldc2_w 67, 3) := by decide +kernel
theorem d_En_shiftByte_25 : decode prog_5_method_7_code 25 = .ok (.ldiv, 1) := by decide +kernel
theorem d_En_shiftByte_26 : decode prog_5_method_7_code 26 = .ok (.l2i, 1) := by decide +kernel
theorem d_En_shiftByte_27 : decode prog_5_method_7_code 27 = .ok (.iastore, 1) := by decide +kernel
theorem d_En_shiftByte_28 : decode prog_5_method_7_code 28 = .ok (.aload_n 0, 1) := by decide +kernel
theorem d_En_shiftByte_29 : decode prog_5_method_7_code 29 = .ok (.dup, 1) := by decide +kernel
theorem d_En_shiftByte_30 : decode prog_5_method_7_code 30 = .ok (.getfield 15, 3) := by decide +kernel
theorem d_En_shiftByte_33 : decode prog_5_method_7_code 33 = .ok (.iconst 1, 1) := by decide +kernel
theorem d_En_shiftByte_34 : decode prog_5_method_7_code 34 = .ok (.iadd, 1) := by decide +kernel
theorem d_En_shiftByte_35 : decode prog_5_method_7_code 35 = .ok (.putfield 15, 3) := by decide +kernel
theorem d_En_shiftByte_38 : decode prog_5_method_7_code 38 = .ok (.aload_n 0, 1) := by decide +kernel
theorem d_En_shiftByte_39 : decode prog_5_method_7_code 39 = .ok (.aload_n 0, 1) := by decide +kernel
theorem d_En_shiftByte_40 : decode prog_5_method_7_code 40 = .ok (.getfield 19, 3) := by decide +kernel
theorem d_En_shiftByte_43 : decode prog_5_method_7_code 43 = .ok (.ldc2_w 67, 3) := by decide +kernel
theorem d_En_shiftByte_46 : decode prog_5_method_7_code 46 = .ok (.lrem, 1) := by decide +kernel
theorem d_En_shiftByte_47 : decode prog_5_method_7_code 47 = .ok (.ldc2_w 69, 3) := by decide +kernel
theorem d_En_shiftByte_50 : decode prog_5_method_7_code 50 = .ok (.lmul, 1) := by decide +kernel
theorem d_En_shiftByte_51 : decode prog_5_method_7_code 51 = .ok (.putfield 19, 3) := by decide +kernel
theorem d_En_shiftByte_54 : decode prog_5_method_7_code 54 = .ok (.return_, 1) := by decide +kernel
theorem d_Co_kind_0 : decode prog_3_method_7_code 0 = .ok (.bipush 27, 2) := by decide +kernel
theorem d_Co_kind_2 : decode prog_3_method_7_code 2 = .ok (.iconst 4, 1) := by decide +kernel
theorem d_Co_kind_3 : decode prog_3_method_7_code 3 = .ok (.iload_n 1, 1) := by decide +kernel
theorem d_Co_kind_4 : decode prog_3_method_7_code 4 = .ok (.imul, 1) := by decide +kernel
theorem d_Co_kind_5 : decode prog_3_method_7_code 5 = .ok (.iadd, 1) := by decide +kernel
theorem d_Co_kind_6 : decode prog_3_method_7_code 6 = .ok (.istore_n 3, 1) := by decide +kernel
theorem d_Co_kind_7 : decode prog_3_method_7_code 7 = .ok (.aload_n 0, 1) := by decide +kernel
theorem d_Co_kind_8 : decode prog_3_method_7_code 8 = .ok (.iload_n 3, 1) := by decide +kernel
theorem d_Co_kind_9 : decode prog_3_method_7_code 9 = .ok (.iload_n 2, 1) := by decide +kernel
theorem d_Co_kind_10 : decode prog_3_method_7_code 10 = .ok (.ifCond .ne 7, 3) := by decide +kernel
theorem d_Co_kind_13 : decode prog_3_method_7_code 13 = .ok (.iconst 0, 1) := by decide +kernel
theorem d_Co_kind_14 : decode prog_3_method_7_code 14 = .ok (.goto 4, 3) := by decide +kernel
theorem d_Co_kind_17 : decode prog_3_method_7_code 17 = .ok (.iconst 1, 1) := by decide +kernel
theorem d_Co_kind_18 : decode prog_3_method_7_code 18 = .ok (.invokevirtual 40, 3) := by decide +kernel
theorem d_Co_kind_21 : decode prog_3_method_7_code 21 = .ok (.ifCond .ne 5, 3) := by decide +kernel
theorem d_Co_kind_24 : decode prog_3_method_7_code 24 = .ok (.iconst 0, 1) := by decide +kernel
theorem d_Co_kind_25 : decode prog_3_method_7_code 25 = .ok (.ireturn, 1) := by decide +kernel
theorem d_Co_kind_26 : decode prog_3_method_7_code 26 = .ok (.aload_n 0, 1) := by decide +kernel
theorem d_Co_kind_27 : decode prog_3_method_7_code 27 = .ok (.iload_n 3, 1) := by decide +kernel
theorem d_Co_kind_28 : decode prog_3_method_7_code 28 = .ok (.iconst 1, 1) := by decide +kernel
theorem d_Co_kind_29 : decode prog_3_method_7_code 29 = .ok (.iadd, 1) := by decide +kernel
theorem d_Co_kind_30 : decode prog_3_method_7_code 30 = .ok (.iload_n 2, 1) := by decide +kernel
theorem d_Co_kind_31 : decode prog_3_method_7_code 31 = .ok (.iconst 4, 1) := by decide +kernel
theorem d_Co_kind_32 : decode prog_3_method_7_code 32 = .ok (.if_icmp .ne 7, 3) := by decide +kernel
theorem d_Co_kind_35 : decode prog_3_method_7_code 35 = .ok (.iconst 0, 1) := by decide +kernel
theorem d_Co_kind_36 : decode prog_3_method_7_code 36 = .ok (.goto 4, 3) := by decide +kernel
theorem d_Co_kind_39 : decode prog_3_method_7_code 39 = .ok (.iconst 1, 1) := by decide +kernel
theorem d_Co_kind_40 : decode prog_3_method_7_code 40 = .ok (.invokevirtual 40, 3) := by decide +kernel
theorem d_Co_kind_43 : decode prog_3_method_7_code 43 = .ok (.ifCond .ne 5, 3) := by decide +kernel
theorem d_Co_kind_46 : decode prog_3_method_7_code 46 = .ok (.iconst 4, 1) := by decide +kernel
theorem d_Co_kind_47 : decode prog_3_method_7_code 47 = .ok (.ireturn, 1) := by decide +kernel
theorem d_Co_kind_48 : decode prog_3_method_7_code 48 = .ok (.aload_n 0, 1) := by decide +kernel
theorem d_Co_kind_49 : decode prog_3_method_7_code 49 = .ok (.iload_n 3, 1) := by decide +kernel
theorem d_Co_kind_50 : decode prog_3_method_7_code 50 = .ok (.iconst 2, 1) := by decide +kernel
theorem d_Co_kind_51 : decode prog_3_method_7_code 51 = .ok (.iadd, 1) := by decide +kernel
theorem d_Co_kind_52 : decode prog_3_method_7_code 52 = .ok (.iload_n 2, 1) := by decide +kernel
theorem d_Co_kind_53 : decode prog_3_method_7_code 53 = .ok (.iconst 1, 1) := by decide +kernel
theorem d_Co_kind_54 : decode prog_3_method_7_code 54 = .ok (.if_icmp .ne 7, 3) := by decide +kernel
theorem d_Co_kind_57 : decode prog_3_method_7_code 57 = .ok (.iconst 0, 1) := by decide +kernel
theorem d_Co_kind_58 : decode prog_3_method_7_code 58 = .ok (.goto 4, 3) := by decide +kernel
theorem d_Co_kind_61 : decode prog_3_method_7_code 61 = .ok (.iconst 1, 1) := by decide +kernel
theorem d_Co_kind_62 : decode prog_3_method_7_code 62 = .ok (.invokevirtual 40, 3) := by decide +kernel
theorem d_Co_kind_65 : decode prog_3_method_7_code 65 = .ok (.ifCond .ne 5, 3) := by decide +kernel
theorem d_Co_kind_68 : decode prog_3_method_7_code 68 = .ok (.iconst 1, 1) := by decide +kernel
theorem d_Co_kind_69 : decode prog_3_method_7_code 69 = .ok (.ireturn, 1) := by decide +kernel
theorem d_Co_kind_70 : decode prog_3_method_7_code 70 = .ok (.aload_n 0, 1) := by decide +kernel
theorem d_Co_kind_71 : decode prog_3_method_7_code 71 = .ok (.iload_n 3, 1) := by decide +kernel
theorem d_Co_kind_72 : decode prog_3_method_7_code 72 = .ok (.iconst 3, 1) := by decide +kernel
theorem d_Co_kind_73 : decode prog_3_method_7_code 73 = .ok (.iadd, 1) := by decide +kernel
theorem d_Co_kind_74 : decode prog_3_method_7_code 74 = .ok (.iload_n 2, 1) := by decide +kernel
theorem d_Co_kind_75 : decode prog_3_method_7_code 75 = .ok (.iconst 2, 1) := by decide +kernel
theorem d_Co_kind_76 : decode prog_3_method_7_code 76 = .ok (.if_icmp .ne 7, 3) := by decide +kernel
theorem d_Co_kind_79 : decode prog_3_method_7_code 79 = .ok (.iconst 0, 1) := by decide +kernel
theorem d_Co_kind_80 : decode prog_3_method_7_code 80 = .ok (.goto 4, 3) := by decide +kernel
theorem d_Co_kind_83 : decode prog_3_method_7_code 83 = .ok (.iconst 1, 1) := by decide +kernel
theorem d_Co_kind_84 : decode prog_3_method_7_code 84 = .ok (.invokevirtual 40, 3) := by decide +kernel
theorem d_Co_kind_87 : decode prog_3_method_7_code 87 = .ok (.ifCond .ne 7, 3) := by decide +kernel
theorem d_Co_kind_90 : decode prog_3_method_7_code 90 = .ok (.iconst 2, 1) := by decide +kernel
theorem d_Co_kind_91 : decode prog_3_method_7_code 91 = .ok (.goto 4, 3) := by decide +kernel
theorem d_Co_kind_94 : decode prog_3_method_7_code 94 = .ok (.iconst 3, 1) := by decide +kernel
theorem d_Co_kind_95 : decode prog_3_method_7_code 95 = .ok (.ireturn, 1) := by decide +kernel
theorem d_Co_editNumber_0 : decode prog_3_method_8_code 0 = .ok (.iload_n 3, 1) := by decide +kernel
theorem d_Co_editNumber_1 : decode prog_3_method_8_code 1 = .ok (.tableswitch 70 0 3 #[31, 57, 70, 44], 31) := by decide +kernel
theorem d_Co_editNumber_32 : decode prog_3_method_8_code 32 = .ok (.aload_n 0, 1) := by decide +kernel
theorem d_Co_editNumber_33 : decode prog_3_method_8_code 33 = .ok (.bipush 9, 2) := by decide +kernel
theorem d_Co_editNumber_35 : decode prog_3_method_8_code 35 = .ok (.iload 4, 2) := by decide +kernel
theorem d_Co_editNumber_37 : decode prog_3_method_8_code 37 = .ok (.iconst 1, 1) := by decide +kernel
theorem d_Co_editNumber_38 : decode prog_3_method_8_code 38 = .ok (.isub, 1) := by decide +kernel
theorem d_Co_editNumber_39 : decode prog_3_method_8_code 39 = .ok (.invokevirtual 44, 3) := by decide +kernel
theorem d_Co_editNumber_42 : decode prog_3_method_8_code 42 = .ok (.iconst 1, 1) := by decide +kernel
theorem d_Co_editNumber_43 : decode prog_3_method_8_code 43 = .ok (.iadd, 1) := by decide +kernel
theorem d_Co_editNumber_44 : decode prog_3_method_8_code 44 = .ok (.ireturn, 1) := by decide +kernel
theorem d_Co_editNumber_45 : decode prog_3_method_8_code 45 = .ok (.aload_n 0, 1) := by decide +kernel
theorem d_Co_editNumber_46 : decode prog_3_method_8_code 46 = .ok (.bipush 18, 2) := by decide +kernel
theorem d_Co_editNumber_48 : decode prog_3_method_8_code 48 = .ok (.iload 4, 2) := by decide +kernel
theorem d_Co_editNumber_50 : decode prog_3_method_8_code 50 = .ok (.iconst 1, 1) := by decide +kernel
theorem d_Co_editNumber_51 : decode prog_3_method_8_code 51 = .ok (.isub, 1) := by decide +kernel
theorem d_Co_editNumber_52 : decode prog_3_method_8_code 52 = .ok (.invokevirtual 44, 3) := by decide +kernel
theorem d_Co_editNumber_55 : decode prog_3_method_8_code 55 = .ok (.iconst 1, 1) := by decide +kernel
theorem d_Co_editNumber_56 : decode prog_3_method_8_code 56 = .ok (.iadd, 1) := by decide +kernel
theorem d_Co_editNumber_57 : decode prog_3_method_8_code 57 = .ok (.ireturn, 1) := by decide +kernel
theorem d_Co_editNumber_58 : decode prog_3_method_8_code 58 = .ok (.aload_n 0, 1) := by decide +kernel
theorem d_Co_editNumber_59 : decode prog_3_method_8_code 59 = .ok (.aload_n 1, 1) := by decide +kernel
theorem d_Co_editNumber_60 : decode prog_3_method_8_code 60 = .ok (.getfield 47, 3) := by decide +kernel
theorem d_Co_editNumber_63 : decode prog_3_method_8_code 63 = .ok (.iload_n 2, 1) := by decide +kernel
theorem d_Co_editNumber_64 : decode prog_3_method_8_code 64 = .ok (.iaload, 1) := by decide +kernel
theorem d_Co_editNumber_65 : decode prog_3_method_8_code 65 = .ok (.iload 4, 2) := by decide +kernel
theorem d_Co_editNumber_67 : decode prog_3_method_8_code 67 = .ok (.invokevirtual 52, 3) := by decide +kernel
theorem d_Co_editNumber_70 : decode prog_3_method_8_code 70 = .ok (.ireturn, 1) := by decide +kernel
theorem d_Co_editNumber_71 : decode prog_3_method_8_code 71 = .ok (.aload_n 0, 1) := by decide +kernel
theorem d_Co_editNumber_72 : decode prog_3_method_8_code 72 = .ok (.iload 4, 2) := by decide +kernel
theorem d_Co_editNumber_74 : decode prog_3_method_8_code 74 = .ok (.invokevirtual 55, 3) := by decide +kernel
theorem d_Co_editNumber_77 : decode prog_3_method_8_code 77 = .ok (.ireturn, 1) := by decide +kernel
theorem d_Co_change_0 : decode prog_3_method_9_code 0 = .ok (.iload_n 2, 1) := by decide +kernel
theorem d_Co_change_1 : decode prog_3_method_9_code 1 = .ok (.iload_n 1, 1) := by decide +kernel
theorem d_Co_change_2 : decode prog_3_method_9_code 2 = .ok (.if_icmp .ge 7, 3) := by decide +kernel
theorem d_Co_change_5 : decode prog_3_method_9_code 5 = .ok (.iload_n 2, 1) := by decide +kernel
theorem d_Co_change_6 : decode prog_3_method_9_code 6 = .ok (.goto 6, 3) := by decide +kernel
theorem d_Co_change_9 : decode prog_3_method_9_code 9 = .ok (.iload_n 2, 1) := by decide +kernel
theorem d_Co_change_10 : decode prog_3_method_9_code 10 = .ok (.iconst 1, 1) := by decide +kernel
theorem d_Co_change_11 : decode prog_3_method_9_code 11 = .ok (.isub, 1) := by decide +kernel
theorem d_Co_change_12 : decode prog_3_method_9_code 12 = .ok (.istore_n 3, 1) := by decide +kernel
theorem d_Co_change_13 : decode prog_3_method_9_code 13 = .ok (.bipush 47, 2) := by decide +kernel
theorem d_Co_change_15 : decode prog_3_method_9_code 15 = .ok (.iconst 2, 1) := by decide +kernel
theorem d_Co_change_16 : decode prog_3_method_9_code 16 = .ok (.iload_n 1, 1) := by decide +kernel
theorem d_Co_change_17 : decode prog_3_method_9_code 17 = .ok (.imul, 1) := by decide +kernel
theorem d_Co_change_18 : decode prog_3_method_9_code 18 = .ok (.iadd, 1) := by decide +kernel
theorem d_Co_change_19 : decode prog_3_method_9_code 19 = .ok (.istore 4, 2) := by decide +kernel
theorem d_Co_change_21 : decode prog_3_method_9_code 21 = .ok (.aload_n 0, 1) := by decide +kernel
theorem d_Co_change_22 : decode prog_3_method_9_code 22 = .ok (.iload 4, 2) := by decide +kernel
theorem d_Co_change_24 : decode prog_3_method_9_code 24 = .ok (.iload_n 3, 1) := by decide +kernel
theorem d_Co_change_25 : decode prog_3_method_9_code 25 = .ok (.ifCond .ne 7, 3) := by decide +kernel
theorem d_Co_change_28 : decode prog_3_method_9_code 28 = .ok (.iconst 0, 1) := by decide +kernel
theorem d_Co_change_29 : decode prog_3_method_9_code 29 = .ok (.goto 4, 3) := by decide +kernel
theorem d_Co_change_32 : decode prog_3_method_9_code 32 = .ok (.iconst 1, 1) := by decide +kernel
theorem d_Co_change_33 : decode prog_3_method_9_code 33 = .ok (.invokevirtual 40, 3) := by decide +kernel
theorem d_Co_change_36 : decode prog_3_method_9_code 36 = .ok (.istore 5, 2) := by decide +kernel
theorem d_Co_change_38 : decode prog_3_method_9_code 38 = .ok (.iload 5, 2) := by decide +kernel
theorem d_Co_change_40 : decode prog_3_method_9_code 40 = .ok (.iconst 1, 1) := by decide +kernel
theorem d_Co_change_41 : decode prog_3_method_9_code 41 = .ok (.if_icmp .ne 26, 3) := by decide +kernel
theorem d_Co_change_44 : decode prog_3_method_9_code 44 = .ok (.iload 5, 2) := by decide +kernel
theorem d_Co_change_46 : decode prog_3_method_9_code 46 = .ok (.aload_n 0, 1) := by decide +kernel
theorem d_Co_change_47 : decode prog_3_method_9_code 47 = .ok (.iload 4, 2) := by decide +kernel
theorem d_Co_change_49 : decode prog_3_method_9_code 49 = .ok (.iconst 1, 1) := by decide +kernel
theorem d_Co_change_50 : decode prog_3_method_9_code 50 = .ok (.iadd, 1) := by decide +kernel
theorem d_Co_change_51 : decode prog_3_method_9_code 51 = .ok (.iload_n 3, 1) := by decide +kernel
theorem d_Co_change_52 : decode prog_3_method_9_code 52 = .ok (.iconst 1, 1) := by decide +kernel
theorem d_Co_change_53 : decode prog_3_method_9_code 53 = .ok (.if_icmp .ne 7, 3) := by decide +kernel
theorem d_Co_change_56 : decode prog_3_method_9_code 56 = .ok (.iconst 0, 1) := by decide +kernel
theorem d_Co_change_57 : decode prog_3_method_9_code 57 = .ok (.goto 4, 3) := by decide +kernel
theorem d_Co_change_60 : decode prog_3_method_9_code 60 = .ok (.iconst 1, 1) := by decide +kernel
theorem d_Co_change_61 : decode prog_3_method_9_code 61 = .ok (.invokevirtual 40, 3) := by decide +kernel
theorem d_Co_change_64 : decode prog_3_method_9_code 64 = .ok (.iadd, 1) := by decide +kernel
theorem d_Co_change_65 : decode prog_3_method_9_code 65 = .ok (.istore 5, 2) := by decide +kernel
theorem d_Co_change_67 : decode prog_3_method_9_code 67 = .ok (.iload 5, 2) := by decide +kernel
theorem d_Co_change_69 : decode prog_3_method_9_code 69 = .ok (.iload_n 1, 1) := by decide +kernel
theorem d_Co_change_70 : decode prog_3_method_9_code 70 = .ok (.if_icmp .ge 8, 3) := by decide +kernel
theorem d_Co_change_73 : decode prog_3_method_9_code 73 = .ok (.iload 5, 2) := by decide +kernel
theorem d_Co_change_75 : decode prog_3_method_9_code 75 = .ok (.goto 7, 3) := by decide +kernel
theorem d_Co_change_78 : decode prog_3_method_9_code 78 = .ok (.iload 5, 2) := by decide +kernel
theorem d_Co_change_80 : decode prog_3_method_9_code 80 = .ok (.iconst 1, 1) := by decide +kernel
theorem d_Co_change_81 : decode prog_3_method_9_code 81 = .ok (.iadd, 1) := by decide +kernel
theorem d_Co_change_82 : decode prog_3_method_9_code 82 = .ok (.ireturn, 1) := by decide +kernel
theorem d_Co_insert_0 : decode prog_3_method_10_code 0 = .ok (.aload_n 0, 1) := by decide +kernel
theorem d_Co_insert_1 : decode prog_3_method_10_code 1 = .ok (.bipush 55, 2) := by decide +kernel
theorem d_Co_insert_3 : decode prog_3_method_10_code 3 = .ok (.iload_n 1, 1) := by decide +kernel
theorem d_Co_insert_4 : decode prog_3_method_10_code 4 = .ok (.iconst 2, 1) := by decide +kernel
theorem d_Co_insert_5 : decode prog_3_method_10_code 5 = .ok (.idiv, 1) := by decide +kernel
theorem d_Co_insert_6 : decode prog_3_method_10_code 6 = .ok (.invokevirtual 40, 3) := by decide +kernel
theorem d_Co_insert_9 : decode prog_3_method_10_code 9 = .ok (.istore_n 2, 1) := by decide +kernel
theorem d_Co_insert_10 : decode prog_3_method_10_code 10 = .ok (.iconst 2, 1) := by decide +kernel
theorem d_Co_insert_11 : decode prog_3_method_10_code 11 = .ok (.iload_n 2, 1) := by decide +kernel
theorem d_Co_insert_12 : decode prog_3_method_10_code 12 = .ok (.imul, 1) := by decide +kernel
theorem d_Co_insert_13 : decode prog_3_method_10_code 13 = .ok (.aload_n 0, 1) := by decide +kernel
theorem d_Co_insert_14 : decode prog_3_method_10_code 14 = .ok (.bipush 56, 2) := by decide +kernel
theorem d_Co_insert_16 : decode prog_3_method_10_code 16 = .ok (.iload_n 2, 1) := by decide +kernel
theorem d_Co_insert_17 : decode prog_3_method_10_code 17 = .ok (.iadd, 1) := by decide +kernel
theorem d_Co_insert_18 : decode prog_3_method_10_code 18 = .ok (.iload_n 1, 1) := by decide +kernel
theorem d_Co_insert_19 : decode prog_3_method_10_code 19 = .ok (.iconst 2, 1) := by decide +kernel
theorem d_Co_insert_20 : decode prog_3_method_10_code 20 = .ok (.irem, 1) := by decide +kernel
theorem d_Co_insert_21 : decode prog_3_method_10_code 21 = .ok (.invokevirtual 40, 3) := by decide +kernel
theorem d_Co_insert_24 : decode prog_3_method_10_code 24 = .ok (.iadd, 1) := by decide +kernel
theorem d_Co_insert_25 : decode prog_3_method_10_code 25 = .ok (.ireturn, 1) := by decide +kernel
theorem d_En_closeRow_0 : decode prog_5_method_4_code 0 = .ok (.iconst 0, 1) := by decide +kernel
theorem d_En_closeRow_1 : decode prog_5_method_4_code 1 = .ok (.istore_n 1, 1) := by decide +kernel
theorem d_En_closeRow_2 : decode prog_5_method_4_code 2 = .ok (.iload_n 1, 1) := by decide +kernel
theorem d_En_closeRow_3 : decode prog_5_method_4_code 3 = .ok (.iconst 4, 1) := by decide +kernel
theorem d_En_closeRow_4 : decode prog_5_method_4_code 4 = .ok (.if_icmp .ge 13, 3) := by decide +kernel
theorem d_En_closeRow_7 : decode prog_5_method_4_code 7 = .ok (.aload_n 0, 1) := by decide +kernel
theorem d_En_closeRow_8 : decode prog_5_method_4_code 8 = .ok (.invokevirtual 61, 3) := by decide +kernel
theorem d_En_closeRow_11 : decode prog_5_method_4_code 11 = .ok (.iinc 1 1, 3) := by decide +kernel
theorem d_En_closeRow_14 : decode prog_5_method_4_code 14 = .ok (.goto (-12), 3) := by decide +kernel
theorem d_En_closeRow_17 : decode prog_5_method_4_code 17 = .ok (.aload_n 0, 1) := by decide +kernel
theorem d_En_closeRow_18 : decode prog_5_method_4_code 18 = .ok (.getfield 15, 3) := by decide +kernel
theorem d_En_closeRow_21 : decode prog_5_method_4_code 21 = .ok (.iconst 3, 1) := by decide +kernel
theorem d_En_closeRow_22 : decode prog_5_method_4_code 22 = .ok (.if_icmp .le 30, 3) := by decide +kernel
theorem d_En_closeRow_25 : decode prog_5_method_4_code 25 = .ok (.aload_n 0, 1) := by decide +kernel
theorem d_En_closeRow_26 : decode prog_5_method_4_code 26 = .ok (.getfield 9, 3) := by decide +kernel
theorem d_En_closeRow_29 : decode prog_5_method_4_code 29 = .ok (.aload_n 0, 1) := by decide +kernel
theorem d_En_closeRow_30 : decode prog_5_method_4_code 30 = .ok (.getfield 15, 3) := by decide +kernel
theorem d_En_closeRow_33 : decode prog_5_method_4_code 33 = .ok (.iconst 1, 1) := by decide +kernel
theorem d_En_closeRow_34 : decode prog_5_method_4_code 34 = .ok (.isub, 1) := by decide +kernel
theorem d_En_closeRow_35 : decode prog_5_method_4_code 35 = .ok (.iaload, 1) := by decide +kernel
theorem d_En_closeRow_36 : decode prog_5_method_4_code 36 = .ok (.ifCond .ne 16, 3) := by decide +kernel
theorem d_En_closeRow_39 : decode prog_5_method_4_code 39 = .ok (.aload_n 0, 1) := by decide +kernel
theorem d_En_closeRow_40 : decode prog_5_method_4_code 40 = .ok (.dup, 1) := by decide +kernel
theorem d_En_closeRow_41 : decode prog_5_method_4_code 41 = .ok (.getfield 15, 3) := by decide +kernel
theorem d_En_closeRow_44 : decode prog_5_method_4_code 44 = .ok (.iconst 1, 1) := by decide +kernel
theorem d_En_closeRow_45 : decode prog_5_method_4_code 45 = .ok (.isub, 1) := by decide +kernel
theorem d_En_closeRow_46 : decode prog_5_method_4_code 46 = .ok (.putfield 15, 3) := by decide +kernel
theorem d_En_closeRow_49 : decode prog_5_method_4_code 49 = .ok (.goto (-32), 3) := by decide +kernel
theorem d_En_closeRow_52 : decode prog_5_method_4_code 52 = .ok (.aload_n 0, 1) := by decide +kernel
theorem d_En_closeRow_53 : decode prog_5_method_4_code 53 = .ok (.getfield 9, 3) := by decide +kernel
theorem d_En_closeRow_56 : decode prog_5_method_4_code 56 = .ok (.iconst 2, 1) := by decide +kernel
theorem d_En_closeRow_57 : decode prog_5_method_4_code 57 = .ok (.aload_n 0, 1) := by decide +kernel
theorem d_En_closeRow_58 : decode prog_5_method_4_code 58 = .ok (.getfield 15, 3) := by decide +kernel
theorem d_En_closeRow_61 : decode prog_5_method_4_code 61 = .ok (.iconst 3, 1) := by decide +kernel
theorem d_En_closeRow_62 : decode prog_5_method_4_code 62 = .ok (.isub, 1) := by decide +kernel
theorem d_En_closeRow_63 : decode prog_5_method_4_code 63 = .ok (.iastore, 1) := by decide +kernel
theorem d_En_closeRow_64 : decode prog_5_method_4_code 64 = .ok (.return_, 1) := by decide +kernel
theorem d_En_addCheck_0 : decode prog_5_method_5_code 0 = .ok (.bipush 7, 2) := by decide +kernel
theorem d_En_addCheck_2 : decode prog_5_method_5_code 2 = .ok (.istore_n 1, 1) := by decide +kernel
theorem d_En_addCheck_3 : decode prog_5_method_5_code 3 = .ok (.iconst 0, 1) := by decide +kernel
theorem d_En_addCheck_4 : decode prog_5_method_5_code 4 = .ok (.istore_n 2, 1) := by decide +kernel
theorem d_En_addCheck_5 : decode prog_5_method_5_code 5 = .ok (.iload_n 2, 1) := by decide +kernel
theorem d_En_addCheck_6 : decode prog_5_method_5_code 6 = .ok (.aload_n 0, 1) := by decide +kernel
theorem d_En_addCheck_7 : decode prog_5_method_5_code 7 = .ok (.getfield 15, 3) := by decide +kernel
theorem d_En_addCheck_10 : decode prog_5_method_5_code 10 = .ok (.if_icmp .ge 24, 3) := by decide +kernel
theorem d_En_addCheck_13 : decode prog_5_method_5_code 13 = .ok (.bipush 31, 2) := by decide +kernel
theorem d_En_addCheck_15 : decode prog_5_method_5_code 15 = .ok (.iload_n 1, 1) := by decide +kernel
theorem d_En_addCheck_16 : decode prog_5_method_5_code 16 = .ok (.imul, 1) := by decide +kernel
theorem d_En_addCheck_17 : decode prog_5_method_5_code 17 = .ok (.aload_n 0, 1) := by decide +kernel
theorem d_En_addCheck_18 : decode prog_5_method_5_code 18 = .ok (.getfield 9, 3) := by decide +kernel
theorem d_En_addCheck_21 : decode prog_5_method_5_code 21 = .ok (.iload_n 2, 1) := by decide +kernel
theorem d_En_addCheck_22 : decode prog_5_method_5_code 22 = .ok (.iaload, 1) := by decide +kernel
theorem d_En_addCheck_23 : decode prog_5_method_5_code 23 = .ok (.iadd, 1) := by decide +kernel
theorem d_En_addCheck_24 : decode prog_5_method_5_code 24 = .ok (.ldc 64, 2) := by decide +kernel
theorem d_En_addCheck_26 : decode prog_5_method_5_code 26 = .ok (.irem, 1) := by decide +kernel
theorem d_En_addCheck_27 : decode prog_5_method_5_code 27 = .ok (.istore_n 1, 1) := by decide +kernel
theorem d_En_addCheck_28 : decode prog_5_method_5_code 28 = .ok (.iinc 2 1, 3) := by decide +kernel
theorem d_En_addCheck_31 : decode prog_5_method_5_code 31 = .ok (.goto (-26), 3) := by decide +kernel
theorem d_En_addCheck_34 : decode prog_5_method_5_code 34 = .ok (.aload_n 0, 1) := by decide +kernel
theorem d_En_addCheck_35 : decode prog_5_method_5_code 35 = .ok (.getfield 15, 3) := by decide +kernel
theorem d_En_addCheck_38 : decode prog_5_method_5_code 38 = .ok (.iconst 2, 1) := by decide +kernel
theorem d_En_addCheck_39 : decode prog_5_method_5_code 39 = .ok (.iadd, 1) := by decide +kernel
theorem d_En_addCheck_40 : decode prog_5_method_5_code 40 = .ok (.sipush 260, 3) := by decide +kernel
theorem d_En_addCheck_43 : decode prog_5_method_5_code 43 = .ok (.if_icmp .gt 43, 3) := by decide +kernel
theorem d_En_addCheck_46 : decode prog_5_method_5_code 46 = .ok (.aload_n 0, 1) := by decide +kernel
theorem d_En_addCheck_47 : decode prog_5_method_5_code 47 = .ok (.getfield 9, 3) := by decide +kernel
theorem d_En_addCheck_50 : decode prog_5_method_5_code 50 = .ok (.aload_n 0, 1) := by decide +kernel
theorem d_En_addCheck_51 : decode prog_5_method_5_code 51 = .ok (.getfield 15, 3) := by decide +kernel
theorem d_En_addCheck_54 : decode prog_5_method_5_code 54 = .ok (.iload_n 1, 1) := by decide +kernel
theorem d_En_addCheck_55 : decode prog_5_method_5_code 55 = .ok (.sipush 256, 3) := by decide +kernel
theorem d_En_addCheck_58 : decode prog_5_method_5_code 58 = .ok (.idiv, 1) := by decide +kernel
theorem d_En_addCheck_59 : decode prog_5_method_5_code 59 = .ok (.iastore, 1) := by decide +kernel
theorem d_En_addCheck_60 : decode prog_5_method_5_code 60 = .ok (.aload_n 0, 1) := by decide +kernel
theorem d_En_addCheck_61 : decode prog_5_method_5_code 61 = .ok (.getfield 9, 3) := by decide +kernel
theorem d_En_addCheck_64 : decode prog_5_method_5_code 64 = .ok (.aload_n 0, 1) := by decide +kernel
theorem d_En_addCheck_65 : decode prog_5_method_5_code 65 = .ok (.getfield 15, 3) := by decide +kernel
theorem d_En_addCheck_68 : decode prog_5_method_5_code 68 = .ok (.iconst 1, 1) := by decide +kernel
theorem d_En_addCheck_69 : decode prog_5_method_5_code 69 = .ok (.iadd, 1) := by decide +kernel
theorem d_En_addCheck_70 : decode prog_5_method_5_code 70 = .ok (.iload_n 1, 1) := by decide +kernel
theorem d_En_addCheck_71 : decode prog_5_method_5_code 71 = .ok (.sipush 256, 3) := by decide +kernel
theorem d_En_addCheck_74 : decode prog_5_method_5_code 74 = .ok (.irem, 1) := by decide +kernel
theorem d_En_addCheck_75 : decode prog_5_method_5_code 75 = .ok (.iastore, 1) := by decide +kernel
theorem d_En_addCheck_76 : decode prog_5_method_5_code 76 = .ok (.aload_n 0, 1) := by decide +kernel
theorem d_En_addCheck_77 : decode prog_5_method_5_code 77 = .ok (.dup, 1) := by decide +kernel
theorem d_En_addCheck_78 : decode prog_5_method_5_code 78 = .ok (.getfield 15, 3) := by decide +kernel
theorem d_En_addCheck_81 : decode prog_5_method_5_code 81 = .ok (.iconst 2, 1) := by decide +kernel
theorem d_En_addCheck_82 : decode prog_5_method_5_code 82 = .ok (.iadd, 1) := by decide +kernel
theorem d_En_addCheck_83 : decode prog_5_method_5_code 83 = .ok (.putfield 15, 3) := by decide +kernel
theorem d_En_addCheck_86 : decode prog_5_method_5_code 86 = .ok (.return_, 1) := by decide +kernel
theorem d_De_open_0 : decode prog_4_method_2_code 0 = .ok (.aload_n 0, 1) := by decide +kernel
theorem d_De_open_1 : decode prog_4_method_2_code 1 = .ok (.invokevirtual 26, 3) := by decide +kernel
theorem d_De_open_4 : decode prog_4_method_2_code 4 = .ok (.aload_n 0, 1) := by decide +kernel
theorem d_De_open_5 : decode prog_4_method_2_code 5 = .ok (.aload_n 1, 1) := by decide +kernel
theorem d_De_open_6 : decode prog_4_method_2_code 6 = .ok (.iload_n 2, 1) := by decide +kernel
theorem d_De_open_7 : decode prog_4_method_2_code 7 = .ok (.invokevirtual 29, 3) := by decide +kernel
theorem d_De_open_10 : decode prog_4_method_2_code 10 = .ok (.putfield 15, 3) := by decide +kernel
theorem d_De_open_13 : decode prog_4_method_2_code 13 = .ok (.aload_n 1, 1) := by decide +kernel
theorem d_De_open_14 : decode prog_4_method_2_code 14 = .ok (.getfield 34, 3) := by decide +kernel
theorem d_De_open_17 : decode prog_4_method_2_code 17 = .ok (.iload_n 2, 1) := by decide +kernel
theorem d_De_open_18 : decode prog_4_method_2_code 18 = .ok (.iconst 3, 1) := by decide +kernel
theorem d_De_open_19 : decode prog_4_method_2_code 19 = .ok (.iadd, 1) := by decide +kernel
theorem d_De_open_20 : decode prog_4_method_2_code 20 = .ok (.aload_n 0, 1) := by decide +kernel
theorem d_De_open_21 : decode prog_4_method_2_code 21 = .ok (.getfield 9, 3) := by decide +kernel
theorem d_De_open_24 : decode prog_4_method_2_code 24 = .ok (.iconst 0, 1) := by decide +kernel
theorem d_De_open_25 : decode prog_4_method_2_code 25 = .ok (.aload_n 0, 1) := by decide +kernel
theorem d_De_open_26 : decode prog_4_method_2_code 26 = .ok (.getfield 15, 3) := by decide +kernel
theorem d_De_open_29 : decode prog_4_method_2_code 29 = .ok (.invokestatic 37, 3) := by decide +kernel
theorem d_De_open_32 : decode prog_4_method_2_code 32 = .ok (.aload_n 0, 1) := by decide +kernel
theorem d_De_open_33 : decode prog_4_method_2_code 33 = .ok (.iconst 0, 1) := by decide +kernel
theorem d_De_open_34 : decode prog_4_method_2_code 34 = .ok (.putfield 19, 3) := by decide +kernel
theorem d_De_open_37 : decode prog_4_method_2_code 37 = .ok (.aload_n 0, 1) := by decide +kernel
theorem d_De_open_38 : decode prog_4_method_2_code 38 = .ok (.lconst 0, 1) := by decide +kernel
theorem d_De_open_39 : decode prog_4_method_2_code 39 = .ok (.putfield 22, 3) := by decide +kernel
theorem d_De_open_42 : decode prog_4_method_2_code 42 = .ok (.iconst 0, 1) := by decide +kernel
theorem d_De_open_43 : decode prog_4_method_2_code 43 = .ok (.istore_n 3, 1) := by decide +kernel
theorem d_De_open_44 : decode prog_4_method_2_code 44 = .ok (.iload_n 3, 1) := by decide +kernel
theorem d_De_open_45 : decode prog_4_method_2_code 45 = .ok (.iconst 4, 1) := by decide +kernel
theorem d_De_open_46 : decode prog_4_method_2_code 46 = .ok (.if_icmp .ge 13, 3) := by decide +kernel
theorem d_De_open_49 : decode prog_4_method_2_code 49 = .ok (.aload_n 0, 1) := by decide +kernel
theorem d_De_open_50 : decode prog_4_method_2_code 50 = .ok (.invokevirtual 43, 3) := by decide +kernel
theorem d_De_open_53 : decode prog_4_method_2_code 53 = .ok (.iinc 3 1, 3) := by decide +kernel
theorem d_De_open_56 : decode prog_4_method_2_code 56 = .ok (.goto (-12), 3) := by decide +kernel
theorem d_De_open_59 : decode prog_4_method_2_code 59 = .ok (.aload_n 0, 1) := by decide +kernel
theorem d_De_open_60 : decode prog_4_method_2_code 60 = .ok (.getfield 22, 3) := by decide +kernel
theorem d_De_open_63 : decode prog_4_method_2_code 63 = .ok (.aload_n 0, 1) := by decide +kernel
theorem d_De_open_64 : decode prog_4_method_2_code 64 = .ok (.getfield 46, 3) := by decide +kernel
theorem d_De_open_67 : decode prog_4_method_2_code 67 = .ok (.lcmp, 1) := by decide +kernel
theorem d_De_open_68 : decode prog_4_method_2_code 68 = .ok (.ifCond .ge 7, 3) := by decide +kernel
theorem d_De_open_71 : decode prog_4_method_2_code 71 = .ok (.iconst 1, 1) := by decide +kernel
theorem d_De_open_72 : decode prog_4_method_2_code 72 = .ok (.goto 4, 3) := by decide +kernel
theorem d_De_open_75 : decode prog_4_method_2_code 75 = .ok (.iconst 0, 1) := by decide +kernel
theorem d_De_open_76 : decode prog_4_method_2_code 76 = .ok (.ireturn, 1) := by decide +kernel
theorem d_De_readRead_0 : decode prog_4_method_3_code 0 = .ok (.iload_n 3, 1) := by decide +kernel
theorem d_De_readRead_1 : decode prog_4_method_3_code 1 = .ok (.aload_n 0, 1) := by decide +kernel
theorem d_De_readRead_2 : decode prog_4_method_3_code 2 = .ok (.iconst 0, 1) := by decide +kernel
theorem d_De_readRead_3 : decode prog_4_method_3_code 3 = .ok (.iconst 0, 1) := by decide +kernel
theorem d_De_readRead_4 : decode prog_4_method_3_code 4 = .ok (.invokevirtual 49, 3) := by decide +kernel
theorem d_De_readRead_7 : decode prog_4_method_3_code 7 = .ok (.iadd, 1) := by decide +kernel
theorem d_De_readRead_8 : decode prog_4_method_3_code 8 = .ok (.istore 4, 2) := by decide +kernel
theorem d_De_readRead_10 : decode prog_4_method_3_code 10 = .ok (.iload 4, 2) := by decide +kernel
theorem d_De_readRead_12 : decode prog_4_method_3_code 12 = .ok (.aload_n 1, 1) := by decide +kernel
theorem d_De_readRead_13 : decode prog_4_method_3_code 13 = .ok (.getfield 53, 3) := by decide +kernel
theorem d_De_readRead_16 : decode prog_4_method_3_code 16 = .ok (.if_icmp .le 5, 3) := by decide +kernel
theorem d_De_readRead_19 : decode prog_4_method_3_code 19 = .ok (.iconst 0, 1) := by decide +kernel
theorem d_De_readRead_20 : decode prog_4_method_3_code 20 = .ok (.ireturn, 1) := by decide +kernel
theorem d_De_readRead_21 : decode prog_4_method_3_code 21 = .ok (.aload_n 2, 1) := by decide +kernel
theorem d_De_readRead_22 : decode prog_4_method_3_code 22 = .ok (.iload 4, 2) := by decide +kernel
theorem d_De_readRead_24 : decode prog_4_method_3_code 24 = .ok (.invokevirtual 58, 3) := by decide +kernel
theorem d_De_readRead_27 : decode prog_4_method_3_code 27 = .ok (.iconst 4, 1) := by decide +kernel
theorem d_De_readRead_28 : decode prog_4_method_3_code 28 = .ok (.istore 5, 2) := by decide +kernel
theorem d_De_readRead_30 : decode prog_4_method_3_code 30 = .ok (.iconst 0, 1) := by decide +kernel
theorem d_De_readRead_31 : decode prog_4_method_3_code 31 = .ok (.istore 6, 2) := by decide +kernel
theorem d_De_readRead_33 : decode prog_4_method_3_code 33 = .ok (.iload 6, 2) := by decide +kernel
theorem d_De_readRead_35 : decode prog_4_method_3_code 35 = .ok (.bipush 12, 2) := by decide +kernel
theorem d_De_readRead_37 : decode prog_4_method_3_code 37 = .ok (.if_icmp .gt 54, 3) := by decide +kernel
theorem d_De_readRead_40 : decode prog_4_method_3_code 40 = .ok (.aload_n 0, 1) := by decide +kernel
theorem d_De_readRead_41 : decode prog_4_method_3_code 41 = .ok (.iload 5, 2) := by decide +kernel
theorem d_De_readRead_43 : decode prog_4_method_3_code 43 = .ok (.iconst 4, 1) := by decide +kernel
theorem d_De_readRead_44 : decode prog_4_method_3_code 44 = .ok (.invokevirtual 64, 3) := by decide +kernel
theorem d_De_readRead_47 : decode prog_4_method_3_code 47 = .ok (.istore 7, 2) := by decide +kernel
theorem d_De_readRead_49 : decode prog_4_method_3_code 49 = .ok (.iload 7, 2) := by decide +kernel
theorem d_De_readRead_51 : decode prog_4_method_3_code 51 = .ok (.iconst 4, 1) := by decide +kernel
theorem d_De_readRead_52 : decode prog_4_method_3_code 52 = .ok (.if_icmp .ne 16, 3) := by decide +kernel
theorem d_De_readRead_55 : decode prog_4_method_3_code 55 = .ok (.aload_n 2, 1) := by decide +kernel
theorem d_De_readRead_56 : decode prog_4_method_3_code 56 = .ok (.getfield 67, 3) := by decide +kernel
theorem d_De_readRead_59 : decode prog_4_method_3_code 59 = .ok (.ifCond .le 7, 3) := by decide +kernel
theorem d_De_readRead_62 : decode prog_4_method_3_code 62 = .ok (.iconst 1, 1) := by decide +kernel
theorem d_De_readRead_63 : decode prog_4_method_3_code 63 = .ok (.goto 4, 3) := by decide +kernel
theorem d_De_readRead_66 : decode prog_4_method_3_code 66 = .ok (.iconst 0, 1) := by decide +kernel
theorem d_De_readRead_67 : decode prog_4_method_3_code 67 = .ok (.ireturn, 1) := by decide +kernel
theorem d_De_readRead_68 : decode prog_4_method_3_code 68 = .ok (.aload_n 0, 1) := by decide +kernel
theorem d_De_readRead_69 : decode prog_4_method_3_code 69 = .ok (.aload_n 1, 1) := by decide +kernel
theorem d_De_readRead_70 : decode prog_4_method_3_code 70 = .ok (.aload_n 2, 1) := by decide +kernel
theorem d_De_readRead_71 : decode prog_4_method_3_code 71 = .ok (.iload 7, 2) := by decide +kernel
theorem d_De_readRead_73 : decode prog_4_method_3_code 73 = .ok (.invokevirtual 70, 3) := by decide +kernel
theorem d_De_readRead_76 : decode prog_4_method_3_code 76 = .ok (.ifCond .ne 5, 3) := by decide +kernel
theorem d_De_readRead_79 : decode prog_4_method_3_code 79 = .ok (.iconst 0, 1) := by decide +kernel
theorem d_De_readRead_80 : decode prog_4_method_3_code 80 = .ok (.ireturn, 1) := by decide +kernel
theorem d_De_readRead_81 : decode prog_4_method_3_code 81 = .ok (.iload 7, 2) := by decide +kernel
theorem d_De_readRead_83 : decode prog_4_method_3_code 83 = .ok (.istore 5, 2) := by decide +kernel
theorem d_De_readRead_85 : decode prog_4_method_3_code 85 = .ok (.iinc 6 1, 3) := by decide +kernel
theorem d_De_readRead_88 : decode prog_4_method_3_code 88 = .ok (.goto (-55), 3) := by decide +kernel
theorem d_De_readRead_91 : decode prog_4_method_3_code 91 = .ok (.iconst 0, 1) := by decide +kernel
theorem d_De_readRead_92 : decode prog_4_method_3_code 92 = .ok (.ireturn, 1) := by decide +kernel
theorem d_De_readEdit_0 : decode prog_4_method_4_code 0 = .ok (.aload_n 2, 1) := by decide +kernel
theorem d_De_readEdit_1 : decode prog_4_method_4_code 1 = .ok (.iload_n 3, 1) := by decide +kernel
theorem d_De_readEdit_2 : decode prog_4_method_4_code 2 = .ok (.invokevirtual 74, 3) := by decide +kernel
theorem d_De_readEdit_5 : decode prog_4_method_4_code 5 = .ok (.ifCond .ne 19, 3) := by decide +kernel
theorem d_De_readEdit_8 : decode prog_4_method_4_code 8 = .ok (.iload_n 3, 1) := by decide +kernel
theorem d_De_readEdit_9 : decode prog_4_method_4_code 9 = .ok (.iconst 1, 1) := by decide +kernel
theorem d_De_readEdit_10 : decode prog_4_method_4_code 10 = .ok (.if_icmp .ne 16, 3) := by decide +kernel
theorem d_De_readEdit_13 : decode prog_4_method_4_code 13 = .ok (.aload_n 2, 1) := by decide +kernel
theorem d_De_readEdit_14 : decode prog_4_method_4_code 14 = .ok (.invokevirtual 78, 3) := by decide +kernel
theorem d_De_readEdit_17 : decode prog_4_method_4_code 17 = .ok (.aload_n 1, 1) := by decide +kernel
theorem d_De_readEdit_18 : decode prog_4_method_4_code 18 = .ok (.getfield 53, 3) := by decide +kernel
theorem d_De_readEdit_21 : decode prog_4_method_4_code 21 = .ok (.if_icmp .lt 5, 3) := by decide +kernel
theorem d_De_readEdit_24 : decode prog_4_method_4_code 24 = .ok (.iconst 0, 1) := by decide +kernel
theorem d_De_readEdit_25 : decode prog_4_method_4_code 25 = .ok (.ireturn, 1) := by decide +kernel
theorem d_De_readEdit_26 : decode prog_4_method_4_code 26 = .ok (.aload_n 0, 1) := by decide +kernel
theorem d_De_readEdit_27 : decode prog_4_method_4_code 27 = .ok (.aload_n 1, 1) := by decide +kernel
theorem d_De_readEdit_28 : decode prog_4_method_4_code 28 = .ok (.aload_n 2, 1) := by decide +kernel
theorem d_De_readEdit_29 : decode prog_4_method_4_code 29 = .ok (.invokevirtual 78, 3) := by decide +kernel
theorem d_De_readEdit_32 : decode prog_4_method_4_code 32 = .ok (.iload_n 3, 1) := by decide +kernel
theorem d_De_readEdit_33 : decode prog_4_method_4_code 33 = .ok (.iconst 1, 1) := by decide +kernel
theorem d_De_readEdit_34 : decode prog_4_method_4_code 34 = .ok (.invokevirtual 82, 3) := by decide +kernel
theorem d_De_readEdit_37 : decode prog_4_method_4_code 37 = .ok (.istore 4, 2) := by decide +kernel
theorem d_De_readEdit_39 : decode prog_4_method_4_code 39 = .ok (.aload_n 2, 1) := by decide +kernel
theorem d_De_readEdit_40 : decode prog_4_method_4_code 40 = .ok (.aload_n 1, 1) := by decide +kernel
theorem d_De_readEdit_41 : decode prog_4_method_4_code 41 = .ok (.iload_n 3, 1) := by decide +kernel
theorem d_De_readEdit_42 : decode prog_4_method_4_code 42 = .ok (.iload 4, 2) := by decide +kernel
theorem d_De_readEdit_44 : decode prog_4_method_4_code 44 = .ok (.invokevirtual 86, 3) := by decide +kernel
theorem d_De_readEdit_47 : decode prog_4_method_4_code 47 = .ok (.ifCond .eq 13, 3) := by decide +kernel
theorem d_De_readEdit_50 : decode prog_4_method_4_code 50 = .ok (.aload_n 2, 1) := by decide +kernel
theorem d_De_readEdit_51 : decode prog_4_method_4_code 51 = .ok (.iload_n 3, 1) := by decide +kernel
theorem d_De_readEdit_52 : decode prog_4_method_4_code 52 = .ok (.iload 4, 2) := by decide +kernel
theorem d_De_readEdit_54 : decode prog_4_method_4_code 54 = .ok (.invokevirtual 90, 3) := by decide +kernel
theorem d_De_readEdit_57 : decode prog_4_method_4_code 57 = .ok (.ifCond .ne 5, 3) := by decide +kernel
theorem d_De_readEdit_60 : decode prog_4_method_4_code 60 = .ok (.iconst 0, 1) := by decide +kernel
theorem d_De_readEdit_61 : decode prog_4_method_4_code 61 = .ok (.ireturn, 1) := by decide +kernel
theorem d_De_readEdit_62 : decode prog_4_method_4_code 62 = .ok (.aload_n 2, 1) := by decide +kernel
theorem d_De_readEdit_63 : decode prog_4_method_4_code 63 = .ok (.aload_n 1, 1) := by decide +kernel
theorem d_De_readEdit_64 : decode prog_4_method_4_code 64 = .ok (.iload_n 3, 1) := by decide +kernel
theorem d_De_readEdit_65 : decode prog_4_method_4_code 65 = .ok (.iload 4, 2) := by decide +kernel
theorem d_De_readEdit_67 : decode prog_4_method_4_code 67 = .ok (.invokevirtual 94, 3) := by decide +kernel
theorem d_De_readEdit_70 : decode prog_4_method_4_code 70 = .ok (.iconst 1, 1) := by decide +kernel
theorem d_De_readEdit_71 : decode prog_4_method_4_code 71 = .ok (.ireturn, 1) := by decide +kernel
