theorem d_Sr_init_0 : decode prog_1_method_1_code 0 = .ok (.aload_n 0, 1) := by decide +kernel
theorem d_Sr_init_1 : decode prog_1_method_1_code 1 = .ok (.invokespecial 3, 3) := by decide +kernel
theorem d_Sr_init_4 : decode prog_1_method_1_code 4 = .ok (.aload_n 0, 1) := by decide +kernel
theorem d_Sr_init_5 : decode prog_1_method_1_code 5 = .ok (.new 9, 3) := by decide +kernel
theorem d_Sr_init_8 : decode prog_1_method_1_code 8 = .ok (.dup, 1) := by decide +kernel
theorem d_Sr_init_9 : decode prog_1_method_1_code 9 = .ok (.invokespecial 11, 3) := by decide +kernel
theorem d_Sr_init_12 : decode prog_1_method_1_code 12 = .ok (.putfield 12, 3) := by decide +kernel
theorem d_Sr_init_15 : decode prog_1_method_1_code 15 = .ok (.aload_n 0, 1) := by decide +kernel
theorem d_Sr_init_16 : decode prog_1_method_1_code 16 = .ok (.new 16, 3) := by decide +kernel
theorem d_Sr_init_19 : decode prog_1_method_1_code 19 = .ok (.dup, 1) := by decide +kernel
theorem d_Sr_init_20 : decode prog_1_method_1_code 20 = .ok (.bipush 25, 2) := by decide +kernel
theorem d_Sr_init_22 : decode prog_1_method_1_code 22 = .ok (.invokespecial 18, 3) := by decide +kernel
theorem d_Sr_init_25 : decode prog_1_method_1_code 25 = .ok (.putfield 21, 3) := by decide +kernel
theorem d_Sr_init_28 : decode prog_1_method_1_code 28 = .ok (.aload_n 0, 1) := by decide +kernel
theorem d_Sr_init_29 : decode prog_1_method_1_code 29 = .ok (.iconst 0, 1) := by decide +kernel
theorem d_Sr_init_30 : decode prog_1_method_1_code 30 = .ok (.putfield 25, 3) := by decide +kernel
theorem d_Sr_init_33 : decode prog_1_method_1_code 33 = .ok (.aload_n 0, 1) := by decide +kernel
theorem d_Sr_init_34 : decode prog_1_method_1_code 34 = .ok (.bipush 24, 2) := by decide +kernel
theorem d_Sr_init_36 : decode prog_1_method_1_code 36 = .ok (.anewarray 29, 3) := by decide +kernel
theorem d_Sr_init_39 : decode prog_1_method_1_code 39 = .ok (.putfield 31, 3) := by decide +kernel
theorem d_Sr_init_42 : decode prog_1_method_1_code 42 = .ok (.aload_n 0, 1) := by decide +kernel
theorem d_Sr_init_43 : decode prog_1_method_1_code 43 = .ok (.new 16, 3) := by decide +kernel
theorem d_Sr_init_46 : decode prog_1_method_1_code 46 = .ok (.dup, 1) := by decide +kernel
theorem d_Sr_init_47 : decode prog_1_method_1_code 47 = .ok (.iconst 3, 1) := by decide +kernel
theorem d_Sr_init_48 : decode prog_1_method_1_code 48 = .ok (.invokespecial 18, 3) := by decide +kernel
theorem d_Sr_init_51 : decode prog_1_method_1_code 51 = .ok (.putfield 35, 3) := by decide +kernel
theorem d_Sr_init_54 : decode prog_1_method_1_code 54 = .ok (.aload_n 0, 1) := by decide +kernel
theorem d_Sr_init_55 : decode prog_1_method_1_code 55 = .ok (.new 16, 3) := by decide +kernel
theorem d_Sr_init_58 : decode prog_1_method_1_code 58 = .ok (.dup, 1) := by decide +kernel
theorem d_Sr_init_59 : decode prog_1_method_1_code 59 = .ok (.iconst 3, 1) := by decide +kernel
theorem d_Sr_init_60 : decode prog_1_method_1_code 60 = .ok (.invokespecial 18, 3) := by decide +kernel
theorem d_Sr_init_63 : decode prog_1_method_1_code 63 = .ok (.putfield 38, 3) := by decide +kernel
theorem d_Sr_init_66 : decode prog_1_method_1_code 66 = .ok (.aload_n 0, 1) := by decide +kernel
theorem d_Sr_init_67 : decode prog_1_method_1_code 67 = .ok (.new 41, 3) := by decide +kernel
theorem d_Sr_init_70 : decode prog_1_method_1_code 70 = .ok (.dup, 1) := by decide +kernel
theorem d_Sr_init_71 : decode prog_1_method_1_code 71 = .ok (.invokespecial 43, 3) := by decide +kernel
theorem d_Sr_init_74 : decode prog_1_method_1_code 74 = .ok (.putfield 44, 3) := by decide +kernel
theorem d_Sr_init_77 : decode prog_1_method_1_code 77 = .ok (.aload_n 0, 1) := by decide +kernel
theorem d_Sr_init_78 : decode prog_1_method_1_code 78 = .ok (.new 48, 3) := by decide +kernel
theorem d_Sr_init_81 : decode prog_1_method_1_code 81 = .ok (.dup, 1) := by decide +kernel
theorem d_Sr_init_82 : decode prog_1_method_1_code 82 = .ok (.invokespecial 50, 3) := by decide +kernel
theorem d_Sr_init_85 : decode prog_1_method_1_code 85 = .ok (.putfield 51, 3) := by decide +kernel
theorem d_Sr_init_88 : decode prog_1_method_1_code 88 = .ok (.aload_n 0, 1) := by decide +kernel
theorem d_Sr_init_89 : decode prog_1_method_1_code 89 = .ok (.new 55, 3) := by decide +kernel
theorem d_Sr_init_92 : decode prog_1_method_1_code 92 = .ok (.dup, 1) := by decide +kernel
theorem d_Sr_init_93 : decode prog_1_method_1_code 93 = .ok (.invokespecial 57, 3) := by decide +kernel
theorem d_Sr_init_96 : decode prog_1_method_1_code 96 = .ok (.putfield 58, 3) := by decide +kernel
theorem d_Sr_init_99 : decode prog_1_method_1_code 99 = .ok (.iconst 0, 1) := by decide +kernel
theorem d_Sr_init_100 : decode prog_1_method_1_code 100 = .ok (.istore_n 1, 1) := by decide +kernel
theorem d_Sr_init_101 : decode prog_1_method_1_code 101 = .ok (.iload_n 1, 1) := by decide +kernel
theorem d_Sr_init_102 : decode prog_1_method_1_code 102 = .ok (.bipush 24, 2) := by decide +kernel
theorem d_Sr_init_104 : decode prog_1_method_1_code 104 = .ok (.if_icmp .ge 24, 3) := by decide +kernel
theorem d_Sr_init_107 : decode prog_1_method_1_code 107 = .ok (.aload_n 0, 1) := by decide +kernel
theorem d_Sr_init_108 : decode prog_1_method_1_code 108 = .ok (.getfield 31, 3) := by decide +kernel
theorem d_Sr_init_111 : decode prog_1_method_1_code 111 = .ok (.iload_n 1, 1) := by decide +kernel
theorem d_Sr_init_112 : decode prog_1_method_1_code 112 = .ok (.aload_n 0, 1) := by decide +kernel
theorem d_Sr_init_113 : decode prog_1_method_1_code 113 = .ok (.getfield 21, 3) := by decide +kernel
theorem d_Sr_init_116 : decode prog_1_method_1_code 116 = .ok (.getfield 62, 3) := by decide +kernel
theorem d_Sr_init_119 : decode prog_1_method_1_code 119 = .ok (.iload_n 1, 1) := by decide +kernel
theorem d_Sr_init_120 : decode prog_1_method_1_code 120 = .ok (.aaload, 1) := by decide +kernel
theorem d_Sr_init_121 : decode prog_1_method_1_code 121 = .ok (.aastore, 1) := by decide +kernel
theorem d_Sr_init_122 : decode prog_1_method_1_code 122 = .ok (.iinc 1 1, 3) := by decide +kernel
theorem d_Sr_init_125 : decode prog_1_method_1_code 125 = .ok (.goto (-24), 3) := by decide +kernel
theorem d_Sr_init_128 : decode prog_1_method_1_code 128 = .ok (.return_, 1) := by decide +kernel
theorem d_Sr_clear_0 : decode prog_1_method_3_code 0 = .ok (.aload_n 0, 1) := by decide +kernel
theorem d_Sr_clear_1 : decode prog_1_method_3_code 1 = .ok (.getfield 21, 3) := by decide +kernel
theorem d_Sr_clear_4 : decode prog_1_method_3_code 4 = .ok (.iconst 0, 1) := by decide +kernel
theorem d_Sr_clear_5 : decode prog_1_method_3_code 5 = .ok (.putfield 72, 3) := by decide +kernel
theorem d_Sr_clear_8 : decode prog_1_method_3_code 8 = .ok (.aload_n 0, 1) := by decide +kernel
theorem d_Sr_clear_9 : decode prog_1_method_3_code 9 = .ok (.iconst 0, 1) := by decide +kernel
theorem d_Sr_clear_10 : decode prog_1_method_3_code 10 = .ok (.putfield 25, 3) := by decide +kernel
theorem d_Sr_clear_13 : decode prog_1_method_3_code 13 = .ok (.iload_n 1, 1) := by decide +kernel
theorem d_Sr_clear_14 : decode prog_1_method_3_code 14 = .ok (.ifCond .eq 19, 3) := by decide +kernel
theorem d_Sr_clear_17 : decode prog_1_method_3_code 17 = .ok (.aload_n 0, 1) := by decide +kernel
theorem d_Sr_clear_18 : decode prog_1_method_3_code 18 = .ok (.getfield 12, 3) := by decide +kernel
theorem d_Sr_clear_21 : decode prog_1_method_3_code 21 = .ok (.iconst 0, 1) := by decide +kernel
theorem d_Sr_clear_22 : decode prog_1_method_3_code 22 = .ok (.putfield 81, 3) := by decide +kernel
theorem d_Sr_clear_25 : decode prog_1_method_3_code 25 = .ok (.aload_n 0, 1) := by decide +kernel
theorem d_Sr_clear_26 : decode prog_1_method_3_code 26 = .ok (.getfield 35, 3) := by decide +kernel
theorem d_Sr_clear_29 : decode prog_1_method_3_code 29 = .ok (.iconst 0, 1) := by decide +kernel
theorem d_Sr_clear_30 : decode prog_1_method_3_code 30 = .ok (.putfield 72, 3) := by decide +kernel
theorem d_Sr_clear_33 : decode prog_1_method_3_code 33 = .ok (.return_, 1) := by decide +kernel
theorem d_Sr_reads_0 : decode prog_1_method_7_code 0 = .ok (.aload_n 0, 1) := by decide +kernel
theorem d_Sr_reads_1 : decode prog_1_method_7_code 1 = .ok (.getfield 21, 3) := by decide +kernel
theorem d_Sr_reads_4 : decode prog_1_method_7_code 4 = .ok (.getfield 72, 3) := by decide +kernel
theorem d_Sr_reads_7 : decode prog_1_method_7_code 7 = .ok (.ireturn, 1) := by decide +kernel
theorem d_Sr_pack_0 : decode prog_1_method_10_code 0 = .ok (.aload_n 0, 1) := by decide +kernel
theorem d_Sr_pack_1 : decode prog_1_method_10_code 1 = .ok (.invokevirtual 147, 3) := by decide +kernel
theorem d_Sr_pack_4 : decode prog_1_method_10_code 4 = .ok (.aload_n 0, 1) := by decide +kernel
theorem d_Sr_pack_5 : decode prog_1_method_10_code 5 = .ok (.getfield 44, 3) := by decide +kernel
theorem d_Sr_pack_8 : decode prog_1_method_10_code 8 = .ok (.iconst 0, 1) := by decide +kernel
theorem d_Sr_pack_9 : decode prog_1_method_10_code 9 = .ok (.putfield 150, 3) := by decide +kernel
theorem d_Sr_pack_12 : decode prog_1_method_10_code 12 = .ok (.iconst 0, 1) := by decide +kernel
theorem d_Sr_pack_13 : decode prog_1_method_10_code 13 = .ok (.istore_n 1, 1) := by decide +kernel
theorem d_Sr_pack_14 : decode prog_1_method_10_code 14 = .ok (.iload_n 1, 1) := by decide +kernel
theorem d_Sr_pack_15 : decode prog_1_method_10_code 15 = .ok (.aload_n 0, 1) := by decide +kernel
theorem d_Sr_pack_16 : decode prog_1_method_10_code 16 = .ok (.getfield 21, 3) := by decide +kernel
theorem d_Sr_pack_19 : decode prog_1_method_10_code 19 = .ok (.getfield 72, 3) := by decide +kernel
theorem d_Sr_pack_22 : decode prog_1_method_10_code 22 = .ok (.if_icmp .ge 59, 3) := by decide +kernel
theorem d_Sr_pack_25 : decode prog_1_method_10_code 25 = .ok (.aload_n 0, 1) := by decide +kernel
theorem d_Sr_pack_26 : decode prog_1_method_10_code 26 = .ok (.getfield 51, 3) := by decide +kernel
theorem d_Sr_pack_29 : decode prog_1_method_10_code 29 = .ok (.aload_n 0, 1) := by decide +kernel
theorem d_Sr_pack_30 : decode prog_1_method_10_code 30 = .ok (.getfield 12, 3) := by decide +kernel
theorem d_Sr_pack_33 : decode prog_1_method_10_code 33 = .ok (.aload_n 0, 1) := by decide +kernel
theorem d_Sr_pack_34 : decode prog_1_method_10_code 34 = .ok (.getfield 31, 3) := by decide +kernel
theorem d_Sr_pack_37 : decode prog_1_method_10_code 37 = .ok (.iload_n 1, 1) := by decide +kernel
theorem d_Sr_pack_38 : decode prog_1_method_10_code 38 = .ok (.iconst 3, 1) := by decide +kernel
theorem d_Sr_pack_39 : decode prog_1_method_10_code 39 = .ok (.aload_n 0, 1) := by decide +kernel
theorem d_Sr_pack_40 : decode prog_1_method_10_code 40 = .ok (.getfield 21, 3) := by decide +kernel
theorem d_Sr_pack_43 : decode prog_1_method_10_code 43 = .ok (.getfield 72, 3) := by decide +kernel
theorem d_Sr_pack_46 : decode prog_1_method_10_code 46 = .ok (.iload_n 1, 1) := by decide +kernel
theorem d_Sr_pack_47 : decode prog_1_method_10_code 47 = .ok (.isub, 1) := by decide +kernel
theorem d_Sr_pack_48 : decode prog_1_method_10_code 48 = .ok (.invokestatic 151, 3) := by decide +kernel
theorem d_Sr_pack_51 : decode prog_1_method_10_code 51 = .ok (.invokevirtual 157, 3) := by decide +kernel
theorem d_Sr_pack_54 : decode prog_1_method_10_code 54 = .ok (.aload_n 0, 1) := by decide +kernel
theorem d_Sr_pack_55 : decode prog_1_method_10_code 55 = .ok (.getfield 44, 3) := by decide +kernel
theorem d_Sr_pack_58 : decode prog_1_method_10_code 58 = .ok (.aload_n 0, 1) := by decide +kernel
theorem d_Sr_pack_59 : decode prog_1_method_10_code 59 = .ok (.getfield 51, 3) := by decide +kernel
theorem d_Sr_pack_62 : decode prog_1_method_10_code 62 = .ok (.getfield 161, 3) := by decide +kernel
theorem d_Sr_pack_65 : decode prog_1_method_10_code 65 = .ok (.aload_n 0, 1) := by decide +kernel
theorem d_Sr_pack_66 : decode prog_1_method_10_code 66 = .ok (.getfield 51, 3) := by decide +kernel
theorem d_Sr_pack_69 : decode prog_1_method_10_code 69 = .ok (.getfield 164, 3) := by decide +kernel
theorem d_Sr_pack_72 : decode prog_1_method_10_code 72 = .ok (.invokevirtual 167, 3) := by decide +kernel
theorem d_Sr_pack_75 : decode prog_1_method_10_code 75 = .ok (.iinc 1 3, 3) := by decide +kernel
theorem d_Sr_pack_78 : decode prog_1_method_10_code 78 = .ok (.goto (-64), 3) := by decide +kernel
theorem d_Sr_pack_81 : decode prog_1_method_10_code 81 = .ok (.aload_n 0, 1) := by decide +kernel
theorem d_Sr_pack_82 : decode prog_1_method_10_code 82 = .ok (.getfield 44, 3) := by decide +kernel
theorem d_Sr_pack_85 : decode prog_1_method_10_code 85 = .ok (.getfield 150, 3) := by decide +kernel
theorem d_Sr_pack_88 : decode prog_1_method_10_code 88 = .ok (.ireturn, 1) := by decide +kernel
theorem d_Sr_sortByPosition_0 : decode prog_1_method_17_code 0 = .ok (.iconst 0, 1) := by decide +kernel
theorem d_Sr_sortByPosition_1 : decode prog_1_method_17_code 1 = .ok (.istore_n 1, 1) := by decide +kernel
theorem d_Sr_sortByPosition_2 : decode prog_1_method_17_code 2 = .ok (.iload_n 1, 1) := by decide +kernel
theorem d_Sr_sortByPosition_3 : decode prog_1_method_17_code 3 = .ok (.aload_n 0, 1) := by decide +kernel
theorem d_Sr_sortByPosition_4 : decode prog_1_method_17_code 4 = .ok (.getfield 21, 3) := by decide +kernel
theorem d_Sr_sortByPosition_7 : decode prog_1_method_17_code 7 = .ok (.getfield 72, 3) := by decide +kernel
theorem d_Sr_sortByPosition_10 : decode prog_1_method_17_code 10 = .ok (.if_icmp .ge 70, 3) := by decide +kernel
theorem d_Sr_sortByPosition_13 : decode prog_1_method_17_code 13 = .ok (.aload_n 0, 1) := by decide +kernel
theorem d_Sr_sortByPosition_14 : decode prog_1_method_17_code 14 = .ok (.getfield 21, 3) := by decide +kernel
theorem d_Sr_sortByPosition_17 : decode prog_1_method_17_code 17 = .ok (.getfield 62, 3) := by decide +kernel
theorem d_Sr_sortByPosition_20 : decode prog_1_method_17_code 20 = .ok (.iload_n 1, 1) := by decide +kernel
theorem d_Sr_sortByPosition_21 : decode prog_1_method_17_code 21 = .ok (.aaload, 1) := by decide +kernel
theorem d_Sr_sortByPosition_22 : decode prog_1_method_17_code 22 = .ok (.astore_n 2, 1) := by decide +kernel
theorem d_Sr_sortByPosition_23 : decode prog_1_method_17_code 23 = .ok (.iload_n 1, 1) := by decide +kernel
theorem d_Sr_sortByPosition_24 : decode prog_1_method_17_code 24 = .ok (.istore_n 3, 1) := by decide +kernel
theorem d_Sr_sortByPosition_25 : decode prog_1_method_17_code 25 = .ok (.iload_n 3, 1) := by decide +kernel
theorem d_Sr_sortByPosition_26 : decode prog_1_method_17_code 26 = .ok (.ifCond .le 41, 3) := by decide +kernel
theorem d_Sr_sortByPosition_29 : decode prog_1_method_17_code 29 = .ok (.aload_n 0, 1) := by decide +kernel
theorem d_Sr_sortByPosition_30 : decode prog_1_method_17_code 30 = .ok (.getfield 31, 3) := by decide +kernel
theorem d_Sr_sortByPosition_33 : decode prog_1_method_17_code 33 = .ok (.iload_n 3, 1) := by decide +kernel
theorem d_Sr_sortByPosition_34 : decode prog_1_method_17_code 34 = .ok (.iconst 1, 1) := by decide +kernel
theorem d_Sr_sortByPosition_35 : decode prog_1_method_17_code 35 = .ok (.isub, 1) := by decide +kernel
theorem d_Sr_sortByPosition_36 : decode prog_1_method_17_code 36 = .ok (.aaload, 1) := by decide +kernel
theorem d_Sr_sortByPosition_37 : decode prog_1_method_17_code 37 = .ok (.getfield 130, 3) := by decide +kernel
theorem d_Sr_sortByPosition_40 : decode prog_1_method_17_code 40 = .ok (.aload_n 2, 1) := by decide +kernel
theorem d_Sr_sortByPosition_41 : decode prog_1_method_17_code 41 = .ok (.getfield 130, 3) := by decide +kernel
theorem d_Sr_sortByPosition_44 : decode prog_1_method_17_code 44 = .ok (.if_icmp .le 23, 3) := by decide +kernel
theorem d_Sr_sortByPosition_47 : decode prog_1_method_17_code 47 = .ok (.aload_n 0, 1) := by decide +kernel
theorem d_Sr_sortByPosition_48 : decode prog_1_method_17_code 48 = .ok (.getfield 31, 3) := by decide +kernel
theorem d_Sr_sortByPosition_51 : decode prog_1_method_17_code 51 = .ok (.iload_n 3, 1) := by decide +kernel
theorem d_Sr_sortByPosition_52 : decode prog_1_method_17_code 52 = .ok (.aload_n 0, 1) := by decide +kernel
theorem d_Sr_sortByPosition_53 : decode prog_1_method_17_code 53 = .ok (.getfield 31, 3) := by decide +kernel
theorem d_Sr_sortByPosition_56 : decode prog_1_method_17_code 56 = .ok (.iload_n 3, 1) := by decide +kernel
theorem d_Sr_sortByPosition_57 : decode prog_1_method_17_code 57 = .ok (.iconst 1, 1) := by decide +kernel
theorem d_Sr_sortByPosition_58 : decode prog_1_method_17_code 58 = .ok (.isub, 1) := by decide +kernel
theorem d_Sr_sortByPosition_59 : decode prog_1_method_17_code 59 = .ok (.aaload, 1) := by decide +kernel
theorem d_Sr_sortByPosition_60 : decode prog_1_method_17_code 60 = .ok (.aastore, 1) := by decide +kernel
theorem d_Sr_sortByPosition_61 : decode prog_1_method_17_code 61 = .ok (.iinc 3 (-1), 3) := by decide +kernel
theorem d_Sr_sortByPosition_64 : decode prog_1_method_17_code 64 = .ok (.goto (-39), 3) := by decide +kernel
theorem d_Sr_sortByPosition_67 : decode prog_1_method_17_code 67 = .ok (.aload_n 0, 1) := by decide +kernel
theorem d_Sr_sortByPosition_68 : decode prog_1_method_17_code 68 = .ok (.getfield 31, 3) := by decide +kernel
theorem d_Sr_sortByPosition_71 : decode prog_1_method_17_code 71 = .ok (.iload_n 3, 1) := by decide +kernel
theorem d_Sr_sortByPosition_72 : decode prog_1_method_17_code 72 = .ok (.aload_n 2, 1) := by decide +kernel
theorem d_Sr_sortByPosition_73 : decode prog_1_method_17_code 73 = .ok (.aastore, 1) := by decide +kernel
theorem d_Sr_sortByPosition_74 : decode prog_1_method_17_code 74 = .ok (.iinc 1 1, 3) := by decide +kernel
theorem d_Sr_sortByPosition_77 : decode prog_1_method_17_code 77 = .ok (.goto (-75), 3) := by decide +kernel
theorem d_Sr_sortByPosition_80 : decode prog_1_method_17_code 80 = .ok (.return_, 1) := by decide +kernel
theorem d_Sr_blocks_0 : decode prog_1_method_11_code 0 = .ok (.aload_n 0, 1) := by decide +kernel
theorem d_Sr_blocks_1 : decode prog_1_method_11_code 1 = .ok (.getfield 44, 3) := by decide +kernel
theorem d_Sr_blocks_4 : decode prog_1_method_11_code 4 = .ok (.invokevirtual 170, 3) := by decide +kernel
theorem d_Sr_blocks_7 : decode prog_1_method_11_code 7 = .ok (.ireturn, 1) := by decide +kernel
theorem d_Sr_size_0 : decode prog_1_method_12_code 0 = .ok (.aload_n 0, 1) := by decide +kernel
theorem d_Sr_size_1 : decode prog_1_method_12_code 1 = .ok (.getfield 44, 3) := by decide +kernel
theorem d_Sr_size_4 : decode prog_1_method_12_code 4 = .ok (.getfield 150, 3) := by decide +kernel
theorem d_Sr_size_7 : decode prog_1_method_12_code 7 = .ok (.ireturn, 1) := by decide +kernel
theorem d_Sr_refer_0 : decode prog_1_method_2_code 0 = .ok (.iload_n 2, 1) := by decide +kernel
theorem d_Sr_refer_1 : decode prog_1_method_2_code 1 = .ok (.iconst 1, 1) := by decide +kernel
theorem d_Sr_refer_2 : decode prog_1_method_2_code 2 = .ok (.if_icmp .lt 9, 3) := by decide +kernel
theorem d_Sr_refer_5 : decode prog_1_method_2_code 5 = .ok (.iload_n 2, 1) := by decide +kernel
theorem d_Sr_refer_6 : decode prog_1_method_2_code 6 = .ok (.bipush 16, 2) := by decide +kernel
theorem d_Sr_refer_8 : decode prog_1_method_2_code 8 = .ok (.if_icmp .le 13, 3) := by decide +kernel
theorem d_Sr_refer_11 : decode prog_1_method_2_code 11 = .ok (.new 65, 3) := by decide +kernel
theorem d_Sr_refer_14 : decode prog_1_method_2_code 14 = .ok (.dup, 1) := by decide +kernel
theorem d_Sr_refer_15 : decode prog_1_method_2_code 15 = .ok (.ldc 67, 2) := by decide +kernel
theorem d_Sr_refer_17 : decode prog_1_method_2_code 17 = .ok (.invokespecial 69, 3) := by decide +kernel
theorem d_Sr_refer_20 : decode prog_1_method_2_code 20 = .ok (.athrow, 1) := by decide +kernel
theorem d_Sr_refer_21 : decode prog_1_method_2_code 21 = .ok (.aload_n 0, 1) := by decide +kernel
theorem d_Sr_refer_22 : decode prog_1_method_2_code 22 = .ok (.getfield 21, 3) := by decide +kernel
theorem d_Sr_refer_25 : decode prog_1_method_2_code 25 = .ok (.getfield 72, 3) := by decide +kernel
theorem d_Sr_refer_28 : decode prog_1_method_2_code 28 = .ok (.ifCond .gt 10, 3) := by decide +kernel
theorem d_Sr_refer_31 : decode prog_1_method_2_code 31 = .ok (.aload_n 0, 1) := by decide +kernel
theorem d_Sr_refer_32 : decode prog_1_method_2_code 32 = .ok (.getfield 25, 3) := by decide +kernel
theorem d_Sr_refer_35 : decode prog_1_method_2_code 35 = .ok (.ifCond .eq 13, 3) := by decide +kernel
theorem d_Sr_refer_38 : decode prog_1_method_2_code 38 = .ok (.new 76, 3) := by decide +kernel
theorem d_Sr_refer_41 : decode prog_1_method_2_code 41 = .ok (.dup, 1) := by decide +kernel
theorem d_Sr_refer_42 : decode prog_1_method_2_code 42 = .ok (.ldc 78, 2) := by decide +kernel
theorem d_Sr_refer_44 : decode prog_1_method_2_code 44 = .ok (.invokespecial 80, 3) := by decide +kernel
theorem d_Sr_refer_47 : decode prog_1_method_2_code 47 = .ok (.athrow, 1) := by decide +kernel
theorem d_Sr_refer_48 : decode prog_1_method_2_code 48 = .ok (.aload_n 0, 1) := by decide +kernel
theorem d_Sr_refer_49 : decode prog_1_method_2_code 49 = .ok (.getfield 12, 3) := by decide +kernel
theorem d_Sr_refer_52 : decode prog_1_method_2_code 52 = .ok (.getfield 81, 3) := by decide +kernel
theorem d_Sr_refer_55 : decode prog_1_method_2_code 55 = .ok (.iload_n 2, 1) := by decide +kernel
theorem d_Sr_refer_56 : decode prog_1_method_2_code 56 = .ok (.iadd, 1) := by decide +kernel
theorem d_Sr_refer_57 : decode prog_1_method_2_code 57 = .ok (.sipush 160, 3) := by decide +kernel
theorem d_Sr_refer_60 : decode prog_1_method_2_code 60 = .ok (.if_icmp .le 13, 3) := by decide +kernel
theorem d_Sr_refer_63 : decode prog_1_method_2_code 63 = .ok (.new 82, 3) := by decide +kernel
theorem d_Sr_refer_66 : decode prog_1_method_2_code 66 = .ok (.dup, 1) := by decide +kernel
theorem d_Sr_refer_67 : decode prog_1_method_2_code 67 = .ok (.ldc 84, 2) := by decide +kernel
theorem d_Sr_refer_69 : decode prog_1_method_2_code 69 = .ok (.invokespecial 86, 3) := by decide +kernel
theorem d_Sr_refer_72 : decode prog_1_method_2_code 72 = .ok (.athrow, 1) := by decide +kernel
theorem d_Sr_refer_73 : decode prog_1_method_2_code 73 = .ok (.aload_n 0, 1) := by decide +kernel
theorem d_Sr_refer_74 : decode prog_1_method_2_code 74 = .ok (.getfield 12, 3) := by decide +kernel
theorem d_Sr_refer_77 : decode prog_1_method_2_code 77 = .ok (.iload_n 1, 1) := by decide +kernel
theorem d_Sr_refer_78 : decode prog_1_method_2_code 78 = .ok (.iload_n 2, 1) := by decide +kernel
theorem d_Sr_refer_79 : decode prog_1_method_2_code 79 = .ok (.invokevirtual 87, 3) := by decide +kernel
theorem d_Sr_refer_82 : decode prog_1_method_2_code 82 = .ok (.aload_n 0, 1) := by decide +kernel
theorem d_Sr_refer_83 : decode prog_1_method_2_code 83 = .ok (.getfield 12, 3) := by decide +kernel
theorem d_Sr_refer_86 : decode prog_1_method_2_code 86 = .ok (.getfield 81, 3) := by decide +kernel
theorem d_Sr_refer_89 : decode prog_1_method_2_code 89 = .ok (.ireturn, 1) := by decide +kernel
theorem d_Sr_start_0 : decode prog_1_method_4_code 0 = .ok (.iload_n 1, 1) := by decide +kernel
theorem d_Sr_start_1 : decode prog_1_method_4_code 1 = .ok (.ifCond .lt 14, 3) := by decide +kernel
theorem d_Sr_start_4 : decode prog_1_method_4_code 4 = .ok (.iload_n 1, 1) := by decide +kernel
theorem d_Sr_start_5 : decode prog_1_method_4_code 5 = .ok (.aload_n 0, 1) := by decide +kernel
theorem d_Sr_start_6 : decode prog_1_method_4_code 6 = .ok (.getfield 12, 3) := by decide +kernel
theorem d_Sr_start_9 : decode prog_1_method_4_code 9 = .ok (.getfield 81, 3) := by decide +kernel
theorem d_Sr_start_12 : decode prog_1_method_4_code 12 = .ok (.if_icmp .le 13, 3) := by decide +kernel
theorem d_Sr_start_15 : decode prog_1_method_4_code 15 = .ok (.new 91, 3) := by decide +kernel
theorem d_Sr_start_18 : decode prog_1_method_4_code 18 = .ok (.dup, 1) := by decide +kernel
theorem d_Sr_start_19 : decode prog_1_method_4_code 19 = .ok (.ldc 93, 2) := by decide +kernel
theorem d_Sr_start_21 : decode prog_1_method_4_code 21 = .ok (.invokespecial 95, 3) := by decide +kernel
theorem d_Sr_start_24 : decode prog_1_method_4_code 24 = .ok (.athrow, 1) := by decide +kernel
theorem d_Sr_start_25 : decode prog_1_method_4_code 25 = .ok (.aload_n 0, 1) := by decide +kernel
theorem d_Sr_start_26 : decode prog_1_method_4_code 26 = .ok (.getfield 21, 3) := by decide +kernel
theorem d_Sr_start_29 : decode prog_1_method_4_code 29 = .ok (.getfield 62, 3) := by decide +kernel
theorem d_Sr_start_32 : decode prog_1_method_4_code 32 = .ok (.aload_n 0, 1) := by decide +kernel
theorem d_Sr_start_33 : decode prog_1_method_4_code 33 = .ok (.getfield 21, 3) := by decide +kernel
theorem d_Sr_start_36 : decode prog_1_method_4_code 36 = .ok (.getfield 72, 3) := by decide +kernel
theorem d_Sr_start_39 : decode prog_1_method_4_code 39 = .ok (.aaload, 1) := by decide +kernel
theorem d_Sr_start_40 : decode prog_1_method_4_code 40 = .ok (.iload_n 1, 1) := by decide +kernel
theorem d_Sr_start_41 : decode prog_1_method_4_code 41 = .ok (.invokevirtual 96, 3) := by decide +kernel
theorem d_Sr_start_44 : decode prog_1_method_4_code 44 = .ok (.aload_n 0, 1) := by decide +kernel
theorem d_Sr_start_45 : decode prog_1_method_4_code 45 = .ok (.iconst 1, 1) := by decide +kernel
theorem d_Sr_start_46 : decode prog_1_method_4_code 46 = .ok (.putfield 25, 3) := by decide +kernel
theorem d_Sr_start_49 : decode prog_1_method_4_code 49 = .ok (.return_, 1) := by decide +kernel
theorem d_Sr_edit_0 : decode prog_1_method_5_code 0 = .ok (.aload_n 0, 1) := by decide +kernel
theorem d_Sr_edit_1 : decode prog_1_method_5_code 1 = .ok (.getfield 25, 3) := by decide +kernel
theorem d_Sr_edit_4 : decode prog_1_method_5_code 4 = .ok (.ifCond .ne 13, 3) := by decide +kernel
theorem d_Sr_edit_7 : decode prog_1_method_5_code 7 = .ok (.new 76, 3) := by decide +kernel
theorem d_Sr_edit_10 : decode prog_1_method_5_code 10 = .ok (.dup, 1) := by decide +kernel
theorem d_Sr_edit_11 : decode prog_1_method_5_code 11 = .ok (.ldc 99, 2) := by decide +kernel
theorem d_Sr_edit_13 : decode prog_1_method_5_code 13 = .ok (.invokespecial 80, 3) := by decide +kernel
theorem d_Sr_edit_16 : decode prog_1_method_5_code 16 = .ok (.athrow, 1) := by decide +kernel
theorem d_Sr_edit_17 : decode prog_1_method_5_code 17 = .ok (.aload_n 0, 1) := by decide +kernel
theorem d_Sr_edit_18 : decode prog_1_method_5_code 18 = .ok (.getfield 21, 3) := by decide +kernel
theorem d_Sr_edit_21 : decode prog_1_method_5_code 21 = .ok (.getfield 62, 3) := by decide +kernel
theorem d_Sr_edit_24 : decode prog_1_method_5_code 24 = .ok (.aload_n 0, 1) := by decide +kernel
theorem d_Sr_edit_25 : decode prog_1_method_5_code 25 = .ok (.getfield 21, 3) := by decide +kernel
theorem d_Sr_edit_28 : decode prog_1_method_5_code 28 = .ok (.getfield 72, 3) := by decide +kernel
theorem d_Sr_edit_31 : decode prog_1_method_5_code 31 = .ok (.aaload, 1) := by decide +kernel
theorem d_Sr_edit_32 : decode prog_1_method_5_code 32 = .ok (.astore_n 3, 1) := by decide +kernel
theorem d_Sr_edit_33 : decode prog_1_method_5_code 33 = .ok (.aload_n 3, 1) := by decide +kernel
theorem d_Sr_edit_34 : decode prog_1_method_5_code 34 = .ok (.aload_n 0, 1) := by decide +kernel
theorem d_Sr_edit_35 : decode prog_1_method_5_code 35 = .ok (.getfield 12, 3) := by decide +kernel
theorem d_Sr_edit_38 : decode prog_1_method_5_code 38 = .ok (.iload_n 1, 1) := by decide +kernel
theorem d_Sr_edit_39 : decode prog_1_method_5_code 39 = .ok (.iload_n 2, 1) := by decide +kernel
theorem d_Sr_edit_40 : decode prog_1_method_5_code 40 = .ok (.invokevirtual 101, 3) := by decide +kernel
theorem d_Sr_edit_43 : decode prog_1_method_5_code 43 = .ok (.ifCond .ne 13, 3) := by decide +kernel
theorem d_Sr_edit_46 : decode prog_1_method_5_code 46 = .ok (.new 65, 3) := by decide +kernel
theorem d_Sr_edit_49 : decode prog_1_method_5_code 49 = .ok (.dup, 1) := by decide +kernel
theorem d_Sr_edit_50 : decode prog_1_method_5_code 50 = .ok (.ldc 105, 2) := by decide +kernel
theorem d_Sr_edit_52 : decode prog_1_method_5_code 52 = .ok (.invokespecial 69, 3) := by decide +kernel
theorem d_Sr_edit_55 : decode prog_1_method_5_code 55 = .ok (.athrow, 1) := by decide +kernel
theorem d_Sr_edit_56 : decode prog_1_method_5_code 56 = .ok (.aload_n 3, 1) := by decide +kernel
theorem d_Sr_edit_57 : decode prog_1_method_5_code 57 = .ok (.iload_n 1, 1) := by decide +kernel
theorem d_Sr_edit_58 : decode prog_1_method_5_code 58 = .ok (.iload_n 2, 1) := by decide +kernel
theorem d_Sr_edit_59 : decode prog_1_method_5_code 59 = .ok (.invokevirtual 107, 3) := by decide +kernel
theorem d_Sr_edit_62 : decode prog_1_method_5_code 62 = .ok (.ifCond .ne 13, 3) := by decide +kernel
theorem d_Sr_edit_65 : decode prog_1_method_5_code 65 = .ok (.new 82, 3) := by decide +kernel
theorem d_Sr_edit_68 : decode prog_1_method_5_code 68 = .ok (.dup, 1) := by decide +kernel
theorem d_Sr_edit_69 : decode prog_1_method_5_code 69 = .ok (.ldc 111, 2) := by decide +kernel
theorem d_Sr_edit_71 : decode prog_1_method_5_code 71 = .ok (.invokespecial 86, 3) := by decide +kernel
theorem d_Sr_edit_74 : decode prog_1_method_5_code 74 = .ok (.athrow, 1) := by decide +kernel
theorem d_Sr_edit_75 : decode prog_1_method_5_code 75 = .ok (.aload_n 3, 1) := by decide +kernel
theorem d_Sr_edit_76 : decode prog_1_method_5_code 76 = .ok (.aload_n 0, 1) := by decide +kernel
theorem d_Sr_edit_77 : decode prog_1_method_5_code 77 = .ok (.getfield 12, 3) := by decide +kernel
theorem d_Sr_edit_80 : decode prog_1_method_5_code 80 = .ok (.iload_n 1, 1) := by decide +kernel
theorem d_Sr_edit_81 : decode prog_1_method_5_code 81 = .ok (.iload_n 2, 1) := by decide +kernel
theorem d_Sr_edit_82 : decode prog_1_method_5_code 82 = .ok (.invokevirtual 113, 3) := by decide +kernel
theorem d_Sr_edit_85 : decode prog_1_method_5_code 85 = .ok (.return_, 1) := by decide +kernel
theorem d_Sr_finish_0 : decode prog_1_method_6_code 0 = .ok (.aload_n 0, 1) := by decide +kernel
theorem d_Sr_finish_1 : decode prog_1_method_6_code 1 = .ok (.getfield 25, 3) := by decide +kernel
theorem d_Sr_finish_4 : decode prog_1_method_6_code 4 = .ok (.ifCond .eq 24, 3) := by decide +kernel
theorem d_Sr_finish_7 : decode prog_1_method_6_code 7 = .ok (.aload_n 0, 1) := by decide +kernel
theorem d_Sr_finish_8 : decode prog_1_method_6_code 8 = .ok (.getfield 21, 3) := by decide +kernel
theorem d_Sr_finish_11 : decode prog_1_method_6_code 11 = .ok (.getfield 62, 3) := by decide +kernel
theorem d_Sr_finish_14 : decode prog_1_method_6_code 14 = .ok (.aload_n 0, 1) := by decide +kernel
theorem d_Sr_finish_15 : decode prog_1_method_6_code 15 = .ok (.getfield 21, 3) := by decide +kernel
theorem d_Sr_finish_18 : decode prog_1_method_6_code 18 = .ok (.getfield 72, 3) := by decide +kernel
theorem d_Sr_finish_21 : decode prog_1_method_6_code 21 = .ok (.aaload, 1) := by decide +kernel
theorem d_Sr_finish_22 : decode prog_1_method_6_code 22 = .ok (.getfield 117, 3) := by decide +kernel
theorem d_Sr_finish_25 : decode prog_1_method_6_code 25 = .ok (.ifCond .ne 13, 3) := by decide +kernel
theorem d_Sr_finish_28 : decode prog_1_method_6_code 28 = .ok (.new 76, 3) := by decide +kernel
theorem d_Sr_finish_31 : decode prog_1_method_6_code 31 = .ok (.dup, 1) := by decide +kernel
theorem d_Sr_finish_32 : decode prog_1_method_6_code 32 = .ok (.ldc 120, 2) := by decide +kernel
theorem d_Sr_finish_34 : decode prog_1_method_6_code 34 = .ok (.invokespecial 80, 3) := by decide +kernel
theorem d_Sr_finish_37 : decode prog_1_method_6_code 37 = .ok (.athrow, 1) := by decide +kernel
theorem d_Sr_finish_38 : decode prog_1_method_6_code 38 = .ok (.aload_n 0, 1) := by decide +kernel
theorem d_Sr_finish_39 : decode prog_1_method_6_code 39 = .ok (.getfield 21, 3) := by decide +kernel
theorem d_Sr_finish_42 : decode prog_1_method_6_code 42 = .ok (.getfield 72, 3) := by decide +kernel
theorem d_Sr_finish_45 : decode prog_1_method_6_code 45 = .ok (.bipush 24, 2) := by decide +kernel
theorem d_Sr_finish_47 : decode prog_1_method_6_code 47 = .ok (.if_icmp .lt 13, 3) := by decide +kernel
theorem d_Sr_finish_50 : decode prog_1_method_6_code 50 = .ok (.new 82, 3) := by decide +kernel
theorem d_Sr_finish_53 : decode prog_1_method_6_code 53 = .ok (.dup, 1) := by decide +kernel
theorem d_Sr_finish_54 : decode prog_1_method_6_code 54 = .ok (.ldc 122, 2) := by decide +kernel
theorem d_Sr_finish_56 : decode prog_1_method_6_code 56 = .ok (.invokespecial 86, 3) := by decide +kernel
theorem d_Sr_finish_59 : decode prog_1_method_6_code 59 = .ok (.athrow, 1) := by decide +kernel
theorem d_Sr_finish_60 : decode prog_1_method_6_code 60 = .ok (.aload_n 0, 1) := by decide +kernel
theorem d_Sr_finish_61 : decode prog_1_method_6_code 61 = .ok (.iconst 0, 1) := by decide +kernel
theorem d_Sr_finish_62 : decode prog_1_method_6_code 62 = .ok (.putfield 25, 3) := by decide +kernel
theorem d_Sr_finish_65 : decode prog_1_method_6_code 65 = .ok (.aload_n 0, 1) := by decide +kernel
theorem d_Sr_finish_66 : decode prog_1_method_6_code 66 = .ok (.getfield 21, 3) := by decide +kernel
theorem d_Sr_finish_69 : decode prog_1_method_6_code 69 = .ok (.dup, 1) := by decide +kernel
theorem d_Sr_finish_70 : decode prog_1_method_6_code 70 = .ok (.getfield 72, 3) := by decide +kernel
theorem d_Sr_finish_73 : decode prog_1_method_6_code 73 = .ok (.iconst 1, 1) := by decide +kernel
theorem d_Sr_finish_74 : decode prog_1_method_6_code 74 = .ok (.iadd, 1) := by decide +kernel
theorem d_Sr_finish_75 : decode prog_1_method_6_code 75 = .ok (.putfield 72, 3) := by decide +kernel
theorem d_Sr_finish_78 : decode prog_1_method_6_code 78 = .ok (.aload_n 0, 1) := by decide +kernel
theorem d_Sr_finish_79 : decode prog_1_method_6_code 79 = .ok (.getfield 21, 3) := by decide +kernel
theorem d_Sr_finish_82 : decode prog_1_method_6_code 82 = .ok (.getfield 72, 3) := by decide +kernel
theorem d_Sr_finish_85 : decode prog_1_method_6_code 85 = .ok (.iconst 1, 1) := by decide +kernel
theorem d_Sr_finish_86 : decode prog_1_method_6_code 86 = .ok (.isub, 1) := by decide +kernel
theorem d_Sr_finish_87 : decode prog_1_method_6_code 87 = .ok (.ireturn, 1) := by decide +kernel
theorem d_Sr_about_0 : decode prog_1_method_8_code 0 = .ok (.iload_n 3, 1) := by decide +kernel
theorem d_Sr_about_1 : decode prog_1_method_8_code 1 = .ok (.ifCond .eq 10, 3) := by decide +kernel
theorem d_Sr_about_4 : decode prog_1_method_8_code 4 = .ok (.aload_n 0, 1) := by decide +kernel
theorem d_Sr_about_5 : decode prog_1_method_8_code 5 = .ok (.getfield 35, 3) := by decide +kernel
theorem d_Sr_about_8 : decode prog_1_method_8_code 8 = .ok (.goto 7, 3) := by decide +kernel
theorem d_Sr_about_11 : decode prog_1_method_8_code 11 = .ok (.aload_n 0, 1) := by decide +kernel
theorem d_Sr_about_12 : decode prog_1_method_8_code 12 = .ok (.getfield 21, 3) := by decide +kernel
theorem d_Sr_about_15 : decode prog_1_method_8_code 15 = .ok (.astore 4, 2) := by decide +kernel
theorem d_Sr_about_17 : decode prog_1_method_8_code 17 = .ok (.aload 4, 2) := by decide +kernel
theorem d_Sr_about_19 : decode prog_1_method_8_code 19 = .ok (.iload_n 1, 1) := by decide +kernel
theorem d_Sr_about_20 : decode prog_1_method_8_code 20 = .ok (.invokevirtual 124, 3) := by decide +kernel
theorem d_Sr_about_23 : decode prog_1_method_8_code 23 = .ok (.ifCond .ne 13, 3) := by decide +kernel
theorem d_Sr_about_26 : decode prog_1_method_8_code 26 = .ok (.new 91, 3) := by decide +kernel
theorem d_Sr_about_29 : decode prog_1_method_8_code 29 = .ok (.dup, 1) := by decide +kernel
theorem d_Sr_about_30 : decode prog_1_method_8_code 30 = .ok (.ldc 128, 2) := by decide +kernel
theorem d_Sr_about_32 : decode prog_1_method_8_code 32 = .ok (.invokespecial 95, 3) := by decide +kernel
theorem d_Sr_about_35 : decode prog_1_method_8_code 35 = .ok (.athrow, 1) := by decide +kernel
theorem d_Sr_about_36 : decode prog_1_method_8_code 36 = .ok (.iload_n 2, 1) := by decide +kernel
theorem d_Sr_about_37 : decode prog_1_method_8_code 37 = .ok (.tableswitch 75 0 3 #[31, 42, 53, 64], 31) := by decide +kernel
theorem d_Sr_about_68 : decode prog_1_method_8_code 68 = .ok (.aload 4, 2) := by decide +kernel
theorem d_Sr_about_70 : decode prog_1_method_8_code 70 = .ok (.getfield 62, 3) := by decide +kernel
theorem d_Sr_about_73 : decode prog_1_method_8_code 73 = .ok (.iload_n 1, 1) := by decide +kernel
theorem d_Sr_about_74 : decode prog_1_method_8_code 74 = .ok (.aaload, 1) := by decide +kernel
theorem d_Sr_about_75 : decode prog_1_method_8_code 75 = .ok (.getfield 130, 3) := by decide +kernel
theorem d_Sr_about_78 : decode prog_1_method_8_code 78 = .ok (.ireturn, 1) := by decide +kernel
theorem d_Sr_about_79 : decode prog_1_method_8_code 79 = .ok (.aload 4, 2) := by decide +kernel
theorem d_Sr_about_81 : decode prog_1_method_8_code 81 = .ok (.getfield 62, 3) := by decide +kernel
theorem d_Sr_about_84 : decode prog_1_method_8_code 84 = .ok (.iload_n 1, 1) := by decide +kernel
theorem d_Sr_about_85 : decode prog_1_method_8_code 85 = .ok (.aaload, 1) := by decide +kernel
theorem d_Sr_about_86 : decode prog_1_method_8_code 86 = .ok (.getfield 117, 3) := by decide +kernel
theorem d_Sr_about_89 : decode prog_1_method_8_code 89 = .ok (.ireturn, 1) := by decide +kernel
theorem d_Sr_about_90 : decode prog_1_method_8_code 90 = .ok (.aload 4, 2) := by decide +kernel
theorem d_Sr_about_92 : decode prog_1_method_8_code 92 = .ok (.getfield 62, 3) := by decide +kernel
theorem d_Sr_about_95 : decode prog_1_method_8_code 95 = .ok (.iload_n 1, 1) := by decide +kernel
theorem d_Sr_about_96 : decode prog_1_method_8_code 96 = .ok (.aaload, 1) := by decide +kernel
theorem d_Sr_about_97 : decode prog_1_method_8_code 97 = .ok (.getfield 133, 3) := by decide +kernel
theorem d_Sr_about_100 : decode prog_1_method_8_code 100 = .ok (.ireturn, 1) := by decide +kernel
theorem d_Sr_about_101 : decode prog_1_method_8_code 101 = .ok (.aload 4, 2) := by decide +kernel
theorem d_Sr_about_103 : decode prog_1_method_8_code 103 = .ok (.getfield 62, 3) := by decide +kernel
theorem d_Sr_about_106 : decode prog_1_method_8_code 106 = .ok (.iload_n 1, 1) := by decide +kernel
theorem d_Sr_about_107 : decode prog_1_method_8_code 107 = .ok (.aaload, 1) := by decide +kernel
theorem d_Sr_about_108 : decode prog_1_method_8_code 108 = .ok (.getfield 136, 3) := by decide +kernel
theorem d_Sr_about_111 : decode prog_1_method_8_code 111 = .ok (.ireturn, 1) := by decide +kernel
theorem d_Sr_about_112 : decode prog_1_method_8_code 112 = .ok (.new 65, 3) := by decide +kernel
theorem d_Sr_about_115 : decode prog_1_method_8_code 115 = .ok (.dup, 1) := by decide +kernel
theorem d_Sr_about_116 : decode prog_1_method_8_code 116 = .ok (.ldc 139, 2) := by decide +kernel
theorem d_Sr_about_118 : decode prog_1_method_8_code 118 = .ok (.invokespecial 69, 3) := by decide +kernel
theorem d_Sr_about_121 : decode prog_1_method_8_code 121 = .ok (.athrow, 1) := by decide +kernel
theorem d_Sr_base_0 : decode prog_1_method_9_code 0 = .ok (.iload_n 3, 1) := by decide +kernel
theorem d_Sr_base_1 : decode prog_1_method_9_code 1 = .ok (.ifCond .eq 10, 3) := by decide +kernel
theorem d_Sr_base_4 : decode prog_1_method_9_code 4 = .ok (.aload_n 0, 1) := by decide +kernel
theorem d_Sr_base_5 : decode prog_1_method_9_code 5 = .ok (.getfield 35, 3) := by decide +kernel
theorem d_Sr_base_8 : decode prog_1_method_9_code 8 = .ok (.goto 7, 3) := by decide +kernel
theorem d_Sr_base_11 : decode prog_1_method_9_code 11 = .ok (.aload_n 0, 1) := by decide +kernel
theorem d_Sr_base_12 : decode prog_1_method_9_code 12 = .ok (.getfield 21, 3) := by decide +kernel
theorem d_Sr_base_15 : decode prog_1_method_9_code 15 = .ok (.astore 4, 2) := by decide +kernel
theorem d_Sr_base_17 : decode prog_1_method_9_code 17 = .ok (.aload 4, 2) := by decide +kernel
theorem d_Sr_base_19 : decode prog_1_method_9_code 19 = .ok (.iload_n 1, 1) := by decide +kernel
theorem d_Sr_base_20 : decode prog_1_method_9_code 20 = .ok (.invokevirtual 124, 3) := by decide +kernel
theorem d_Sr_base_23 : decode prog_1_method_9_code 23 = .ok (.ifCond .ne 13, 3) := by decide +kernel
theorem d_Sr_base_26 : decode prog_1_method_9_code 26 = .ok (.new 91, 3) := by decide +kernel
theorem d_Sr_base_29 : decode prog_1_method_9_code 29 = .ok (.dup, 1) := by decide +kernel
theorem d_Sr_base_30 : decode prog_1_method_9_code 30 = .ok (.ldc 128, 2) := by decide +kernel
theorem d_Sr_base_32 : decode prog_1_method_9_code 32 = .ok (.invokespecial 95, 3) := by decide +kernel
theorem d_Sr_base_35 : decode prog_1_method_9_code 35 = .ok (.athrow, 1) := by decide +kernel
theorem d_Sr_base_36 : decode prog_1_method_9_code 36 = .ok (.iload_n 2, 1) := by decide +kernel
theorem d_Sr_base_37 : decode prog_1_method_9_code 37 = .ok (.ifCond .lt 17, 3) := by decide +kernel
theorem d_Sr_base_40 : decode prog_1_method_9_code 40 = .ok (.iload_n 2, 1) := by decide +kernel
theorem d_Sr_base_41 : decode prog_1_method_9_code 41 = .ok (.aload 4, 2) := by decide +kernel
theorem d_Sr_base_43 : decode prog_1_method_9_code 43 = .ok (.getfield 62, 3) := by decide +kernel
theorem d_Sr_base_46 : decode prog_1_method_9_code 46 = .ok (.iload_n 1, 1) := by decide +kernel
theorem d_Sr_base_47 : decode prog_1_method_9_code 47 = .ok (.aaload, 1) := by decide +kernel
theorem d_Sr_base_48 : decode prog_1_method_9_code 48 = .ok (.getfield 117, 3) := by decide +kernel
theorem d_Sr_base_51 : decode prog_1_method_9_code 51 = .ok (.if_icmp .lt 13, 3) := by decide +kernel
theorem d_Sr_base_54 : decode prog_1_method_9_code 54 = .ok (.new 91, 3) := by decide +kernel
theorem d_Sr_base_57 : decode prog_1_method_9_code 57 = .ok (.dup, 1) := by decide +kernel
theorem d_Sr_base_58 : decode prog_1_method_9_code 58 = .ok (.ldc 141, 2) := by decide +kernel
theorem d_Sr_base_60 : decode prog_1_method_9_code 60 = .ok (.invokespecial 95, 3) := by decide +kernel
theorem d_Sr_base_63 : decode prog_1_method_9_code 63 = .ok (.athrow, 1) := by decide +kernel
theorem d_Sr_base_64 : decode prog_1_method_9_code 64 = .ok (.aload 4, 2) := by decide +kernel
theorem d_Sr_base_66 : decode prog_1_method_9_code 66 = .ok (.getfield 62, 3) := by decide +kernel
theorem d_Sr_base_69 : decode prog_1_method_9_code 69 = .ok (.iload_n 1, 1) := by decide +kernel
theorem d_Sr_base_70 : decode prog_1_method_9_code 70 = .ok (.aaload, 1) := by decide +kernel
theorem d_Sr_base_71 : decode prog_1_method_9_code 71 = .ok (.getfield 143, 3) := by decide +kernel
theorem d_Sr_base_74 : decode prog_1_method_9_code 74 = .ok (.iload_n 2, 1) := by decide +kernel
theorem d_Sr_base_75 : decode prog_1_method_9_code 75 = .ok (.iaload, 1) := by decide +kernel
theorem d_Sr_base_76 : decode prog_1_method_9_code 76 = .ok (.ireturn, 1) := by decide +kernel
theorem d_Sr_at_0 : decode prog_1_method_13_code 0 = .ok (.aload_n 0, 1) := by decide +kernel
theorem d_Sr_at_1 : decode prog_1_method_13_code 1 = .ok (.getfield 44, 3) := by decide +kernel
theorem d_Sr_at_4 : decode prog_1_method_13_code 4 = .ok (.iload_n 1, 1) := by decide +kernel
theorem d_Sr_at_5 : decode prog_1_method_13_code 5 = .ok (.invokevirtual 174, 3) := by decide +kernel
theorem d_Sr_at_8 : decode prog_1_method_13_code 8 = .ok (.ifCond .ne 13, 3) := by decide +kernel
theorem d_Sr_at_11 : decode prog_1_method_13_code 11 = .ok (.new 91, 3) := by decide +kernel
theorem d_Sr_at_14 : decode prog_1_method_13_code 14 = .ok (.dup, 1) := by decide +kernel
theorem d_Sr_at_15 : decode prog_1_method_13_code 15 = .ok (.ldc 175, 2) := by decide +kernel
theorem d_Sr_at_17 : decode prog_1_method_13_code 17 = .ok (.invokespecial 95, 3) := by decide +kernel
theorem d_Sr_at_20 : decode prog_1_method_13_code 20 = .ok (.athrow, 1) := by decide +kernel
theorem d_Sr_at_21 : decode prog_1_method_13_code 21 = .ok (.aload_n 0, 1) := by decide +kernel
theorem d_Sr_at_22 : decode prog_1_method_13_code 22 = .ok (.getfield 44, 3) := by decide +kernel
theorem d_Sr_at_25 : decode prog_1_method_13_code 25 = .ok (.getfield 177, 3) := by decide +kernel
theorem d_Sr_at_28 : decode prog_1_method_13_code 28 = .ok (.iload_n 1, 1) := by decide +kernel
theorem d_Sr_at_29 : decode prog_1_method_13_code 29 = .ok (.iaload, 1) := by decide +kernel
theorem d_Sr_at_30 : decode prog_1_method_13_code 30 = .ok (.ireturn, 1) := by decide +kernel
theorem d_Sr_corrupt_0 : decode prog_1_method_14_code 0 = .ok (.aload_n 0, 1) := by decide +kernel
theorem d_Sr_corrupt_1 : decode prog_1_method_14_code 1 = .ok (.getfield 44, 3) := by decide +kernel
theorem d_Sr_corrupt_4 : decode prog_1_method_14_code 4 = .ok (.iload_n 1, 1) := by decide +kernel
theorem d_Sr_corrupt_5 : decode prog_1_method_14_code 5 = .ok (.invokevirtual 174, 3) := by decide +kernel
theorem d_Sr_corrupt_8 : decode prog_1_method_14_code 8 = .ok (.ifCond .ne 13, 3) := by decide +kernel
theorem d_Sr_corrupt_11 : decode prog_1_method_14_code 11 = .ok (.new 91, 3) := by decide +kernel
theorem d_Sr_corrupt_14 : decode prog_1_method_14_code 14 = .ok (.dup, 1) := by decide +kernel
theorem d_Sr_corrupt_15 : decode prog_1_method_14_code 15 = .ok (.ldc 175, 2) := by decide +kernel
theorem d_Sr_corrupt_17 : decode prog_1_method_14_code 17 = .ok (.invokespecial 95, 3) := by decide +kernel
theorem d_Sr_corrupt_20 : decode prog_1_method_14_code 20 = .ok (.athrow, 1) := by decide +kernel
theorem d_Sr_corrupt_21 : decode prog_1_method_14_code 21 = .ok (.iload_n 2, 1) := by decide +kernel
theorem d_Sr_corrupt_22 : decode prog_1_method_14_code 22 = .ok (.ifCond .lt 10, 3) := by decide +kernel
theorem d_Sr_corrupt_25 : decode prog_1_method_14_code 25 = .ok (.iload_n 2, 1) := by decide +kernel
theorem d_Sr_corrupt_26 : decode prog_1_method_14_code 26 = .ok (.sipush 255, 3) := by decide +kernel
theorem d_Sr_corrupt_29 : decode prog_1_method_14_code 29 = .ok (.if_icmp .le 13, 3) := by decide +kernel
theorem d_Sr_corrupt_32 : decode prog_1_method_14_code 32 = .ok (.new 65, 3) := by decide +kernel
theorem d_Sr_corrupt_35 : decode prog_1_method_14_code 35 = .ok (.dup, 1) := by decide +kernel
theorem d_Sr_corrupt_36 : decode prog_1_method_14_code 36 = .ok (.ldc 180, 2) := by decide +kernel
theorem d_Sr_corrupt_38 : decode prog_1_method_14_code 38 = .ok (.invokespecial 69, 3) := by decide +kernel
theorem d_Sr_corrupt_41 : decode prog_1_method_14_code 41 = .ok (.athrow, 1) := by decide +kernel
theorem d_Sr_corrupt_42 : decode prog_1_method_14_code 42 = .ok (.aload_n 0, 1) := by decide +kernel
theorem d_Sr_corrupt_43 : decode prog_1_method_14_code 43 = .ok (.getfield 44, 3) := by decide +kernel
theorem d_Sr_corrupt_46 : decode prog_1_method_14_code 46 = .ok (.getfield 177, 3) := by decide +kernel
theorem d_Sr_corrupt_49 : decode prog_1_method_14_code 49 = .ok (.iload_n 1, 1) := by decide +kernel
theorem d_Sr_corrupt_50 : decode prog_1_method_14_code 50 = .ok (.iload_n 2, 1) := by decide +kernel
theorem d_Sr_corrupt_51 : decode prog_1_method_14_code 51 = .ok (.iastore, 1) := by decide +kernel
theorem d_Sr_corrupt_52 : decode prog_1_method_14_code 52 = .ok (.return_, 1) := by decide +kernel
theorem d_Sr_unpack_0 : decode prog_1_method_15_code 0 = .ok (.aload_n 0, 1) := by decide +kernel
theorem d_Sr_unpack_1 : decode prog_1_method_15_code 1 = .ok (.getfield 44, 3) := by decide +kernel
theorem d_Sr_unpack_4 : decode prog_1_method_15_code 4 = .ok (.iload_n 1, 1) := by decide +kernel
theorem d_Sr_unpack_5 : decode prog_1_method_15_code 5 = .ok (.invokevirtual 182, 3) := by decide +kernel
theorem d_Sr_unpack_8 : decode prog_1_method_15_code 8 = .ok (.istore_n 2, 1) := by decide +kernel
theorem d_Sr_unpack_9 : decode prog_1_method_15_code 9 = .ok (.iload_n 2, 1) := by decide +kernel
theorem d_Sr_unpack_10 : decode prog_1_method_15_code 10 = .ok (.iconst (-1), 1) := by decide +kernel
theorem d_Sr_unpack_11 : decode prog_1_method_15_code 11 = .ok (.if_icmp .ne 13, 3) := by decide +kernel
theorem d_Sr_unpack_14 : decode prog_1_method_15_code 14 = .ok (.new 91, 3) := by decide +kernel
theorem d_Sr_unpack_17 : decode prog_1_method_15_code 17 = .ok (.dup, 1) := by decide +kernel
theorem d_Sr_unpack_18 : decode prog_1_method_15_code 18 = .ok (.ldc 186, 2) := by decide +kernel
theorem d_Sr_unpack_20 : decode prog_1_method_15_code 20 = .ok (.invokespecial 95, 3) := by decide +kernel
theorem d_Sr_unpack_23 : decode prog_1_method_15_code 23 = .ok (.athrow, 1) := by decide +kernel
theorem d_Sr_unpack_24 : decode prog_1_method_15_code 24 = .ok (.aload_n 0, 1) := by decide +kernel
theorem d_Sr_unpack_25 : decode prog_1_method_15_code 25 = .ok (.iload_n 2, 1) := by decide +kernel
theorem d_Sr_unpack_26 : decode prog_1_method_15_code 26 = .ok (.invokevirtual 188, 3) := by decide +kernel
theorem d_Sr_unpack_29 : decode prog_1_method_15_code 29 = .ok (.ifCond .ne 13, 3) := by decide +kernel
theorem d_Sr_unpack_32 : decode prog_1_method_15_code 32 = .ok (.new 65, 3) := by decide +kernel
theorem d_Sr_unpack_35 : decode prog_1_method_15_code 35 = .ok (.dup, 1) := by decide +kernel
theorem d_Sr_unpack_36 : decode prog_1_method_15_code 36 = .ok (.ldc 191, 2) := by decide +kernel
theorem d_Sr_unpack_38 : decode prog_1_method_15_code 38 = .ok (.invokespecial 69, 3) := by decide +kernel
theorem d_Sr_unpack_41 : decode prog_1_method_15_code 41 = .ok (.athrow, 1) := by decide +kernel
theorem d_Sr_unpack_42 : decode prog_1_method_15_code 42 = .ok (.aload_n 0, 1) := by decide +kernel
theorem d_Sr_unpack_43 : decode prog_1_method_15_code 43 = .ok (.getfield 35, 3) := by decide +kernel
theorem d_Sr_unpack_46 : decode prog_1_method_15_code 46 = .ok (.astore_n 3, 1) := by decide +kernel
theorem d_Sr_unpack_47 : decode prog_1_method_15_code 47 = .ok (.aload_n 0, 1) := by decide +kernel
theorem d_Sr_unpack_48 : decode prog_1_method_15_code 48 = .ok (.aload_n 0, 1) := by decide +kernel
theorem d_Sr_unpack_49 : decode prog_1_method_15_code 49 = .ok (.getfield 38, 3) := by decide +kernel
theorem d_Sr_unpack_52 : decode prog_1_method_15_code 52 = .ok (.putfield 35, 3) := by decide +kernel
theorem d_Sr_unpack_55 : decode prog_1_method_15_code 55 = .ok (.aload_n 0, 1) := by decide +kernel
theorem d_Sr_unpack_56 : decode prog_1_method_15_code 56 = .ok (.aload_n 3, 1) := by decide +kernel
theorem d_Sr_unpack_57 : decode prog_1_method_15_code 57 = .ok (.putfield 38, 3) := by decide +kernel
theorem d_Sr_unpack_60 : decode prog_1_method_15_code 60 = .ok (.aload_n 0, 1) := by decide +kernel
theorem d_Sr_unpack_61 : decode prog_1_method_15_code 61 = .ok (.getfield 35, 3) := by decide +kernel
theorem d_Sr_unpack_64 : decode prog_1_method_15_code 64 = .ok (.getfield 72, 3) := by decide +kernel
theorem d_Sr_unpack_67 : decode prog_1_method_15_code 67 = .ok (.ireturn, 1) := by decide +kernel
theorem d_Sr_readsSoundly_0 : decode prog_1_method_18_code 0 = .ok (.aload_n 0, 1) := by decide +kernel
theorem d_Sr_readsSoundly_1 : decode prog_1_method_18_code 1 = .ok (.getfield 44, 3) := by decide +kernel
theorem d_Sr_readsSoundly_4 : decode prog_1_method_18_code 4 = .ok (.iload_n 1, 1) := by decide +kernel
theorem d_Sr_readsSoundly_5 : decode prog_1_method_18_code 5 = .ok (.invokevirtual 203, 3) := by decide +kernel
theorem d_Sr_readsSoundly_8 : decode prog_1_method_18_code 8 = .ok (.ifCond .ne 5, 3) := by decide +kernel
theorem d_Sr_readsSoundly_11 : decode prog_1_method_18_code 11 = .ok (.iconst 0, 1) := by decide +kernel
theorem d_Sr_readsSoundly_12 : decode prog_1_method_18_code 12 = .ok (.ireturn, 1) := by decide +kernel
theorem d_Sr_readsSoundly_13 : decode prog_1_method_18_code 13 = .ok (.aload_n 0, 1) := by decide +kernel
theorem d_Sr_readsSoundly_14 : decode prog_1_method_18_code 14 = .ok (.getfield 44, 3) := by decide +kernel
theorem d_Sr_readsSoundly_17 : decode prog_1_method_18_code 17 = .ok (.getfield 177, 3) := by decide +kernel
theorem d_Sr_readsSoundly_20 : decode prog_1_method_18_code 20 = .ok (.iload_n 1, 1) := by decide +kernel
theorem d_Sr_readsSoundly_21 : decode prog_1_method_18_code 21 = .ok (.iaload, 1) := by decide +kernel
theorem d_Sr_readsSoundly_22 : decode prog_1_method_18_code 22 = .ok (.istore_n 2, 1) := by decide +kernel
theorem d_Sr_readsSoundly_23 : decode prog_1_method_18_code 23 = .ok (.iload_n 2, 1) := by decide +kernel
theorem d_Sr_readsSoundly_24 : decode prog_1_method_18_code 24 = .ok (.iconst 1, 1) := by decide +kernel
theorem d_Sr_readsSoundly_25 : decode prog_1_method_18_code 25 = .ok (.if_icmp .lt 23, 3) := by decide +kernel
theorem d_Sr_readsSoundly_28 : decode prog_1_method_18_code 28 = .ok (.iload_n 2, 1) := by decide +kernel
theorem d_Sr_readsSoundly_29 : decode prog_1_method_18_code 29 = .ok (.iconst 3, 1) := by decide +kernel
theorem d_Sr_readsSoundly_30 : decode prog_1_method_18_code 30 = .ok (.if_icmp .gt 18, 3) := by decide +kernel
theorem d_Sr_readsSoundly_33 : decode prog_1_method_18_code 33 = .ok (.aload_n 0, 1) := by decide +kernel
theorem d_Sr_readsSoundly_34 : decode prog_1_method_18_code 34 = .ok (.getfield 58, 3) := by decide +kernel
theorem d_Sr_readsSoundly_37 : decode prog_1_method_18_code 37 = .ok (.aload_n 0, 1) := by decide +kernel
theorem d_Sr_readsSoundly_38 : decode prog_1_method_18_code 38 = .ok (.getfield 44, 3) := by decide +kernel
theorem d_Sr_readsSoundly_41 : decode prog_1_method_18_code 41 = .ok (.iload_n 1, 1) := by decide +kernel
theorem d_Sr_readsSoundly_42 : decode prog_1_method_18_code 42 = .ok (.invokevirtual 206, 3) := by decide +kernel
theorem d_Sr_readsSoundly_45 : decode prog_1_method_18_code 45 = .ok (.ifCond .ne 5, 3) := by decide +kernel
theorem d_Sr_readsSoundly_48 : decode prog_1_method_18_code 48 = .ok (.iconst 0, 1) := by decide +kernel
theorem d_Sr_readsSoundly_49 : decode prog_1_method_18_code 49 = .ok (.ireturn, 1) := by decide +kernel
theorem d_Sr_readsSoundly_50 : decode prog_1_method_18_code 50 = .ok (.aload_n 0, 1) := by decide +kernel
theorem d_Sr_readsSoundly_51 : decode prog_1_method_18_code 51 = .ok (.getfield 44, 3) := by decide +kernel
theorem d_Sr_readsSoundly_54 : decode prog_1_method_18_code 54 = .ok (.getfield 177, 3) := by decide +kernel
theorem d_Sr_readsSoundly_57 : decode prog_1_method_18_code 57 = .ok (.iload_n 1, 1) := by decide +kernel
theorem d_Sr_readsSoundly_58 : decode prog_1_method_18_code 58 = .ok (.iconst 1, 1) := by decide +kernel
theorem d_Sr_readsSoundly_59 : decode prog_1_method_18_code 59 = .ok (.iadd, 1) := by decide +kernel
theorem d_Sr_readsSoundly_60 : decode prog_1_method_18_code 60 = .ok (.iaload, 1) := by decide +kernel
theorem d_Sr_readsSoundly_61 : decode prog_1_method_18_code 61 = .ok (.istore_n 3, 1) := by decide +kernel
theorem d_Sr_readsSoundly_62 : decode prog_1_method_18_code 62 = .ok (.iconst 0, 1) := by decide +kernel
theorem d_Sr_readsSoundly_63 : decode prog_1_method_18_code 63 = .ok (.istore 4, 2) := by decide +kernel
theorem d_Sr_readsSoundly_65 : decode prog_1_method_18_code 65 = .ok (.iload 4, 2) := by decide +kernel
theorem d_Sr_readsSoundly_67 : decode prog_1_method_18_code 67 = .ok (.iload_n 2, 1) := by decide +kernel
theorem d_Sr_readsSoundly_68 : decode prog_1_method_18_code 68 = .ok (.if_icmp .ge 46, 3) := by decide +kernel
theorem d_Sr_readsSoundly_71 : decode prog_1_method_18_code 71 = .ok (.aload_n 0, 1) := by decide +kernel
theorem d_Sr_readsSoundly_72 : decode prog_1_method_18_code 72 = .ok (.getfield 38, 3) := by decide +kernel
theorem d_Sr_readsSoundly_75 : decode prog_1_method_18_code 75 = .ok (.getfield 62, 3) := by decide +kernel
theorem d_Sr_readsSoundly_78 : decode prog_1_method_18_code 78 = .ok (.iload 4, 2) := by decide +kernel
theorem d_Sr_readsSoundly_80 : decode prog_1_method_18_code 80 = .ok (.aaload, 1) := by decide +kernel
theorem d_Sr_readsSoundly_81 : decode prog_1_method_18_code 81 = .ok (.astore 5, 2) := by decide +kernel
theorem d_Sr_readsSoundly_83 : decode prog_1_method_18_code 83 = .ok (.aload_n 0, 1) := by decide +kernel
theorem d_Sr_readsSoundly_84 : decode prog_1_method_18_code 84 = .ok (.getfield 58, 3) := by decide +kernel
theorem d_Sr_readsSoundly_87 : decode prog_1_method_18_code 87 = .ok (.aload_n 0, 1) := by decide +kernel
theorem d_Sr_readsSoundly_88 : decode prog_1_method_18_code 88 = .ok (.getfield 12, 3) := by decide +kernel
theorem d_Sr_readsSoundly_91 : decode prog_1_method_18_code 91 = .ok (.aload 5, 2) := by decide +kernel
theorem d_Sr_readsSoundly_93 : decode prog_1_method_18_code 93 = .ok (.iload_n 3, 1) := by decide +kernel
theorem d_Sr_readsSoundly_94 : decode prog_1_method_18_code 94 = .ok (.invokevirtual 210, 3) := by decide +kernel
theorem d_Sr_readsSoundly_97 : decode prog_1_method_18_code 97 = .ok (.ifCond .ne 5, 3) := by decide +kernel
theorem d_Sr_readsSoundly_100 : decode prog_1_method_18_code 100 = .ok (.iconst 0, 1) := by decide +kernel
theorem d_Sr_readsSoundly_101 : decode prog_1_method_18_code 101 = .ok (.ireturn, 1) := by decide +kernel
theorem d_Sr_readsSoundly_102 : decode prog_1_method_18_code 102 = .ok (.aload 5, 2) := by decide +kernel
theorem d_Sr_readsSoundly_104 : decode prog_1_method_18_code 104 = .ok (.getfield 130, 3) := by decide +kernel
theorem d_Sr_readsSoundly_107 : decode prog_1_method_18_code 107 = .ok (.istore_n 3, 1) := by decide +kernel
theorem d_Sr_readsSoundly_108 : decode prog_1_method_18_code 108 = .ok (.iinc 4 1, 3) := by decide +kernel
theorem d_Sr_readsSoundly_111 : decode prog_1_method_18_code 111 = .ok (.goto (-46), 3) := by decide +kernel
theorem d_Sr_readsSoundly_114 : decode prog_1_method_18_code 114 = .ok (.aload_n 0, 1) := by decide +kernel
theorem d_Sr_readsSoundly_115 : decode prog_1_method_18_code 115 = .ok (.getfield 38, 3) := by decide +kernel
theorem d_Sr_readsSoundly_118 : decode prog_1_method_18_code 118 = .ok (.iload_n 2, 1) := by decide +kernel
theorem d_Sr_readsSoundly_119 : decode prog_1_method_18_code 119 = .ok (.putfield 72, 3) := by decide +kernel
theorem d_Sr_readsSoundly_122 : decode prog_1_method_18_code 122 = .ok (.aload_n 0, 1) := by decide +kernel
theorem d_Sr_readsSoundly_123 : decode prog_1_method_18_code 123 = .ok (.getfield 51, 3) := by decide +kernel
theorem d_Sr_readsSoundly_126 : decode prog_1_method_18_code 126 = .ok (.aload_n 0, 1) := by decide +kernel
theorem d_Sr_readsSoundly_127 : decode prog_1_method_18_code 127 = .ok (.getfield 12, 3) := by decide +kernel
theorem d_Sr_readsSoundly_130 : decode prog_1_method_18_code 130 = .ok (.aload_n 0, 1) := by decide +kernel
theorem d_Sr_readsSoundly_131 : decode prog_1_method_18_code 131 = .ok (.getfield 38, 3) := by decide +kernel
theorem d_Sr_readsSoundly_134 : decode prog_1_method_18_code 134 = .ok (.getfield 62, 3) := by decide +kernel
theorem d_Sr_readsSoundly_137 : decode prog_1_method_18_code 137 = .ok (.iconst 0, 1) := by decide +kernel
theorem d_Sr_readsSoundly_138 : decode prog_1_method_18_code 138 = .ok (.iload_n 2, 1) := by decide +kernel
theorem d_Sr_readsSoundly_139 : decode prog_1_method_18_code 139 = .ok (.invokevirtual 157, 3) := by decide +kernel
theorem d_Sr_readsSoundly_142 : decode prog_1_method_18_code 142 = .ok (.aload_n 0, 1) := by decide +kernel
theorem d_Sr_readsSoundly_143 : decode prog_1_method_18_code 143 = .ok (.getfield 44, 3) := by decide +kernel
theorem d_Sr_readsSoundly_146 : decode prog_1_method_18_code 146 = .ok (.iload_n 1, 1) := by decide +kernel
theorem d_Sr_readsSoundly_147 : decode prog_1_method_18_code 147 = .ok (.aload_n 0, 1) := by decide +kernel
theorem d_Sr_readsSoundly_148 : decode prog_1_method_18_code 148 = .ok (.getfield 51, 3) := by decide +kernel
theorem d_Sr_readsSoundly_151 : decode prog_1_method_18_code 151 = .ok (.getfield 161, 3) := by decide +kernel
theorem d_Sr_readsSoundly_154 : decode prog_1_method_18_code 154 = .ok (.aload_n 0, 1) := by decide +kernel
theorem d_Sr_readsSoundly_155 : decode prog_1_method_18_code 155 = .ok (.getfield 51, 3) := by decide +kernel
theorem d_Sr_readsSoundly_158 : decode prog_1_method_18_code 158 = .ok (.getfield 164, 3) := by decide +kernel
theorem d_Sr_readsSoundly_161 : decode prog_1_method_18_code 161 = .ok (.invokevirtual 214, 3) := by decide +kernel
theorem d_Sr_readsSoundly_164 : decode prog_1_method_18_code 164 = .ok (.ireturn, 1) := by decide +kernel
theorem d_Sr_depth_0 : decode prog_1_method_16_code 0 = .ok (.iload_n 1, 1) := by decide +kernel
theorem d_Sr_depth_1 : decode prog_1_method_16_code 1 = .ok (.ifCond .lt 14, 3) := by decide +kernel
theorem d_Sr_depth_4 : decode prog_1_method_16_code 4 = .ok (.iload_n 1, 1) := by decide +kernel
theorem d_Sr_depth_5 : decode prog_1_method_16_code 5 = .ok (.aload_n 0, 1) := by decide +kernel
theorem d_Sr_depth_6 : decode prog_1_method_16_code 6 = .ok (.getfield 12, 3) := by decide +kernel
theorem d_Sr_depth_9 : decode prog_1_method_16_code 9 = .ok (.getfield 81, 3) := by decide +kernel
theorem d_Sr_depth_12 : decode prog_1_method_16_code 12 = .ok (.if_icmp .lt 13, 3) := by decide +kernel
theorem d_Sr_depth_15 : decode prog_1_method_16_code 15 = .ok (.new 91, 3) := by decide +kernel
theorem d_Sr_depth_18 : decode prog_1_method_16_code 18 = .ok (.dup, 1) := by decide +kernel
theorem d_Sr_depth_19 : decode prog_1_method_16_code 19 = .ok (.ldc 193, 2) := by decide +kernel
theorem d_Sr_depth_21 : decode prog_1_method_16_code 21 = .ok (.invokespecial 95, 3) := by decide +kernel
theorem d_Sr_depth_24 : decode prog_1_method_16_code 24 = .ok (.athrow, 1) := by decide +kernel
theorem d_Sr_depth_25 : decode prog_1_method_16_code 25 = .ok (.iconst 0, 1) := by decide +kernel
theorem d_Sr_depth_26 : decode prog_1_method_16_code 26 = .ok (.istore_n 2, 1) := by decide +kernel
theorem d_Sr_depth_27 : decode prog_1_method_16_code 27 = .ok (.iconst 0, 1) := by decide +kernel
theorem d_Sr_depth_28 : decode prog_1_method_16_code 28 = .ok (.istore_n 3, 1) := by decide +kernel
theorem d_Sr_depth_29 : decode prog_1_method_16_code 29 = .ok (.iload_n 3, 1) := by decide +kernel
theorem d_Sr_depth_30 : decode prog_1_method_16_code 30 = .ok (.aload_n 0, 1) := by decide +kernel
theorem d_Sr_depth_31 : decode prog_1_method_16_code 31 = .ok (.getfield 44, 3) := by decide +kernel
theorem d_Sr_depth_34 : decode prog_1_method_16_code 34 = .ok (.getfield 150, 3) := by decide +kernel
theorem d_Sr_depth_37 : decode prog_1_method_16_code 37 = .ok (.if_icmp .ge 79, 3) := by decide +kernel
theorem d_Sr_depth_40 : decode prog_1_method_16_code 40 = .ok (.aload_n 0, 1) := by decide +kernel
theorem d_Sr_depth_41 : decode prog_1_method_16_code 41 = .ok (.getfield 44, 3) := by decide +kernel
theorem d_Sr_depth_44 : decode prog_1_method_16_code 44 = .ok (.iload_n 3, 1) := by decide +kernel
theorem d_Sr_depth_45 : decode prog_1_method_16_code 45 = .ok (.iconst 1, 1) := by decide +kernel
theorem d_Sr_depth_46 : decode prog_1_method_16_code 46 = .ok (.iadd, 1) := by decide +kernel
theorem d_Sr_depth_47 : decode prog_1_method_16_code 47 = .ok (.invokevirtual 174, 3) := by decide +kernel
theorem d_Sr_depth_50 : decode prog_1_method_16_code 50 = .ok (.ifCond .eq 21, 3) := by decide +kernel
theorem d_Sr_depth_53 : decode prog_1_method_16_code 53 = .ok (.aload_n 0, 1) := by decide +kernel
theorem d_Sr_depth_54 : decode prog_1_method_16_code 54 = .ok (.getfield 44, 3) := by decide +kernel
theorem d_Sr_depth_57 : decode prog_1_method_16_code 57 = .ok (.getfield 177, 3) := by decide +kernel
theorem d_Sr_depth_60 : decode prog_1_method_16_code 60 = .ok (.iload_n 3, 1) := by decide +kernel
theorem d_Sr_depth_61 : decode prog_1_method_16_code 61 = .ok (.iconst 1, 1) := by decide +kernel
theorem d_Sr_depth_62 : decode prog_1_method_16_code 62 = .ok (.iadd, 1) := by decide +kernel
theorem d_Sr_depth_63 : decode prog_1_method_16_code 63 = .ok (.iaload, 1) := by decide +kernel
theorem d_Sr_depth_64 : decode prog_1_method_16_code 64 = .ok (.iload_n 1, 1) := by decide +kernel
theorem d_Sr_depth_65 : decode prog_1_method_16_code 65 = .ok (.if_icmp .le 6, 3) := by decide +kernel
theorem d_Sr_depth_68 : decode prog_1_method_16_code 68 = .ok (.goto 48, 3) := by decide +kernel
theorem d_Sr_depth_71 : decode prog_1_method_16_code 71 = .ok (.aload_n 0, 1) := by decide +kernel
theorem d_Sr_depth_72 : decode prog_1_method_16_code 72 = .ok (.iload_n 3, 1) := by decide +kernel
theorem d_Sr_depth_73 : decode prog_1_method_16_code 73 = .ok (.invokevirtual 188, 3) := by decide +kernel
theorem d_Sr_depth_76 : decode prog_1_method_16_code 76 = .ok (.ifCond .ne 13, 3) := by decide +kernel
theorem d_Sr_depth_79 : decode prog_1_method_16_code 79 = .ok (.new 65, 3) := by decide +kernel
theorem d_Sr_depth_82 : decode prog_1_method_16_code 82 = .ok (.dup, 1) := by decide +kernel
theorem d_Sr_depth_83 : decode prog_1_method_16_code 83 = .ok (.ldc 195, 2) := by decide +kernel
theorem d_Sr_depth_85 : decode prog_1_method_16_code 85 = .ok (.invokespecial 69, 3) := by decide +kernel
theorem d_Sr_depth_88 : decode prog_1_method_16_code 88 = .ok (.athrow, 1) := by decide +kernel
theorem d_Sr_depth_89 : decode prog_1_method_16_code 89 = .ok (.iload_n 2, 1) := by decide +kernel
theorem d_Sr_depth_90 : decode prog_1_method_16_code 90 = .ok (.aload_n 0, 1) := by decide +kernel
theorem d_Sr_depth_91 : decode prog_1_method_16_code 91 = .ok (.getfield 38, 3) := by decide +kernel
theorem d_Sr_depth_94 : decode prog_1_method_16_code 94 = .ok (.iload_n 1, 1) := by decide +kernel
theorem d_Sr_depth_95 : decode prog_1_method_16_code 95 = .ok (.invokevirtual 197, 3) := by decide +kernel
theorem d_Sr_depth_98 : decode prog_1_method_16_code 98 = .ok (.iadd, 1) := by decide +kernel
theorem d_Sr_depth_99 : decode prog_1_method_16_code 99 = .ok (.istore_n 2, 1) := by decide +kernel
theorem d_Sr_depth_100 : decode prog_1_method_16_code 100 = .ok (.iload_n 3, 1) := by decide +kernel
theorem d_Sr_depth_101 : decode prog_1_method_16_code 101 = .ok (.iconst 5, 1) := by decide +kernel
theorem d_Sr_depth_102 : decode prog_1_method_16_code 102 = .ok (.aload_n 0, 1) := by decide +kernel
theorem d_Sr_depth_103 : decode prog_1_method_16_code 103 = .ok (.getfield 44, 3) := by decide +kernel
theorem d_Sr_depth_106 : decode prog_1_method_16_code 106 = .ok (.iload_n 3, 1) := by decide +kernel
theorem d_Sr_depth_107 : decode prog_1_method_16_code 107 = .ok (.invokevirtual 200, 3) := by decide +kernel
theorem d_Sr_depth_110 : decode prog_1_method_16_code 110 = .ok (.iadd, 1) := by decide +kernel
theorem d_Sr_depth_111 : decode prog_1_method_16_code 111 = .ok (.iadd, 1) := by decide +kernel
theorem d_Sr_depth_112 : decode prog_1_method_16_code 112 = .ok (.istore_n 3, 1) := by decide +kernel
theorem d_Sr_depth_113 : decode prog_1_method_16_code 113 = .ok (.goto (-84), 3) := by decide +kernel
theorem d_Sr_depth_116 : decode prog_1_method_16_code 116 = .ok (.iload_n 2, 1) := by decide +kernel
theorem d_Sr_depth_117 : decode prog_1_method_16_code 117 = .ok (.ireturn, 1) := by decide +kernel
