theorem d_Mo_putNumber_0 : decode prog_10_method_20_code 0 = .ok (.iconst 0, 1) := by decide +kernel
theorem d_Mo_putNumber_1 : decode prog_10_method_20_code 1 = .ok (.istore_n 3, 1) := by decide +kernel
theorem d_Mo_putNumber_2 : decode prog_10_method_20_code 2 = .ok (.iload_n 3, 1) := by decide +kernel
theorem d_Mo_putNumber_3 : decode prog_10_method_20_code 3 = .ok (.bipush 30, 2) := by decide +kernel
theorem d_Mo_putNumber_5 : decode prog_10_method_20_code 5 = .ok (.if_icmp .ge 20, 3) := by decide +kernel
theorem d_Mo_putNumber_8 : decode prog_10_method_20_code 8 = .ok (.iconst 1, 1) := by decide +kernel
theorem d_Mo_putNumber_9 : decode prog_10_method_20_code 9 = .ok (.iload_n 3, 1) := by decide +kernel
theorem d_Mo_putNumber_10 : decode prog_10_method_20_code 10 = .ok (.iconst 1, 1) := by decide +kernel
theorem d_Mo_putNumber_11 : decode prog_10_method_20_code 11 = .ok (.iadd, 1) := by decide +kernel
theorem d_Mo_putNumber_12 : decode prog_10_method_20_code 12 = .ok (.ishl, 1) := by decide +kernel
theorem d_Mo_putNumber_13 : decode prog_10_method_20_code 13 = .ok (.iload_n 2, 1) := by decide +kernel
theorem d_Mo_putNumber_14 : decode prog_10_method_20_code 14 = .ok (.iconst 1, 1) := by decide +kernel
theorem d_Mo_putNumber_15 : decode prog_10_method_20_code 15 = .ok (.iadd, 1) := by decide +kernel
theorem d_Mo_putNumber_16 : decode prog_10_method_20_code 16 = .ok (.if_icmp .gt 9, 3) := by decide +kernel
theorem d_Mo_putNumber_19 : decode prog_10_method_20_code 19 = .ok (.iinc 3 1, 3) := by decide +kernel
theorem d_Mo_putNumber_22 : decode prog_10_method_20_code 22 = .ok (.goto (-20), 3) := by decide +kernel
theorem d_Mo_putNumber_25 : decode prog_10_method_20_code 25 = .ok (.iconst 0, 1) := by decide +kernel
theorem d_Mo_putNumber_26 : decode prog_10_method_20_code 26 = .ok (.istore 4, 2) := by decide +kernel
theorem d_Mo_putNumber_28 : decode prog_10_method_20_code 28 = .ok (.iload 4, 2) := by decide +kernel
theorem d_Mo_putNumber_30 : decode prog_10_method_20_code 30 = .ok (.bipush 9, 2) := by decide +kernel
theorem d_Mo_putNumber_32 : decode prog_10_method_20_code 32 = .ok (.if_icmp .ge 37, 3) := by decide +kernel
theorem d_Mo_putNumber_35 : decode prog_10_method_20_code 35 = .ok (.iload 4, 2) := by decide +kernel
theorem d_Mo_putNumber_37 : decode prog_10_method_20_code 37 = .ok (.iload_n 3, 1) := by decide +kernel
theorem d_Mo_putNumber_38 : decode prog_10_method_20_code 38 = .ok (.if_icmp .gt 25, 3) := by decide +kernel
theorem d_Mo_putNumber_41 : decode prog_10_method_20_code 41 = .ok (.aload_n 0, 1) := by decide +kernel
theorem d_Mo_putNumber_42 : decode prog_10_method_20_code 42 = .ok (.bipush 9, 2) := by decide +kernel
theorem d_Mo_putNumber_44 : decode prog_10_method_20_code 44 = .ok (.iload_n 1, 1) := by decide +kernel
theorem d_Mo_putNumber_45 : decode prog_10_method_20_code 45 = .ok (.imul, 1) := by decide +kernel
theorem d_Mo_putNumber_46 : decode prog_10_method_20_code 46 = .ok (.iload 4, 2) := by decide +kernel
theorem d_Mo_putNumber_48 : decode prog_10_method_20_code 48 = .ok (.iadd, 1) := by decide +kernel
theorem d_Mo_putNumber_49 : decode prog_10_method_20_code 49 = .ok (.iload 4, 2) := by decide +kernel
theorem d_Mo_putNumber_51 : decode prog_10_method_20_code 51 = .ok (.iload_n 3, 1) := by decide +kernel
theorem d_Mo_putNumber_52 : decode prog_10_method_20_code 52 = .ok (.if_icmp .ge 7, 3) := by decide +kernel
theorem d_Mo_putNumber_55 : decode prog_10_method_20_code 55 = .ok (.iconst 1, 1) := by decide +kernel
theorem d_Mo_putNumber_56 : decode prog_10_method_20_code 56 = .ok (.goto 4, 3) := by decide +kernel
theorem d_Mo_putNumber_59 : decode prog_10_method_20_code 59 = .ok (.iconst 0, 1) := by decide +kernel
theorem d_Mo_putNumber_60 : decode prog_10_method_20_code 60 = .ok (.invokevirtual 108, 3) := by decide +kernel
theorem d_Mo_putNumber_63 : decode prog_10_method_20_code 63 = .ok (.iinc 4 1, 3) := by decide +kernel
theorem d_Mo_putNumber_66 : decode prog_10_method_20_code 66 = .ok (.goto (-38), 3) := by decide +kernel
theorem d_Mo_putNumber_69 : decode prog_10_method_20_code 69 = .ok (.iload_n 3, 1) := by decide +kernel
theorem d_Mo_putNumber_70 : decode prog_10_method_20_code 70 = .ok (.iconst 1, 1) := by decide +kernel
theorem d_Mo_putNumber_71 : decode prog_10_method_20_code 71 = .ok (.isub, 1) := by decide +kernel
theorem d_Mo_putNumber_72 : decode prog_10_method_20_code 72 = .ok (.istore 4, 2) := by decide +kernel
theorem d_Mo_putNumber_74 : decode prog_10_method_20_code 74 = .ok (.iload 4, 2) := by decide +kernel
theorem d_Mo_putNumber_76 : decode prog_10_method_20_code 76 = .ok (.ifCond .lt 23, 3) := by decide +kernel
theorem d_Mo_putNumber_79 : decode prog_10_method_20_code 79 = .ok (.aload_n 0, 1) := by decide +kernel
theorem d_Mo_putNumber_80 : decode prog_10_method_20_code 80 = .ok (.bipush 58, 2) := by decide +kernel
theorem d_Mo_putNumber_82 : decode prog_10_method_20_code 82 = .ok (.iload_n 2, 1) := by decide +kernel
theorem d_Mo_putNumber_83 : decode prog_10_method_20_code 83 = .ok (.iconst 1, 1) := by decide +kernel
theorem d_Mo_putNumber_84 : decode prog_10_method_20_code 84 = .ok (.iadd, 1) := by decide +kernel
theorem d_Mo_putNumber_85 : decode prog_10_method_20_code 85 = .ok (.iload 4, 2) := by decide +kernel
theorem d_Mo_putNumber_87 : decode prog_10_method_20_code 87 = .ok (.ishr, 1) := by decide +kernel
theorem d_Mo_putNumber_88 : decode prog_10_method_20_code 88 = .ok (.iconst 1, 1) := by decide +kernel
theorem d_Mo_putNumber_89 : decode prog_10_method_20_code 89 = .ok (.iand, 1) := by decide +kernel
theorem d_Mo_putNumber_90 : decode prog_10_method_20_code 90 = .ok (.invokevirtual 108, 3) := by decide +kernel
theorem d_Mo_putNumber_93 : decode prog_10_method_20_code 93 = .ok (.iinc 4 (-1), 3) := by decide +kernel
theorem d_Mo_putNumber_96 : decode prog_10_method_20_code 96 = .ok (.goto (-22), 3) := by decide +kernel
theorem d_Mo_putNumber_99 : decode prog_10_method_20_code 99 = .ok (.return_, 1) := by decide +kernel
theorem d_Mo_put_0 : decode prog_10_method_19_code 0 = .ok (.aload_n 0, 1) := by decide +kernel
theorem d_Mo_put_1 : decode prog_10_method_19_code 1 = .ok (.getfield 88, 3) := by decide +kernel
theorem d_Mo_put_4 : decode prog_10_method_19_code 4 = .ok (.ldc2_w 94, 3) := by decide +kernel
theorem d_Mo_put_7 : decode prog_10_method_19_code 7 = .ok (.ldiv, 1) := by decide +kernel
theorem d_Mo_put_8 : decode prog_10_method_19_code 8 = .ok (.aload_n 0, 1) := by decide +kernel
theorem d_Mo_put_9 : decode prog_10_method_19_code 9 = .ok (.getfield 34, 3) := by decide +kernel
theorem d_Mo_put_12 : decode prog_10_method_19_code 12 = .ok (.iload_n 1, 1) := by decide +kernel
theorem d_Mo_put_13 : decode prog_10_method_19_code 13 = .ok (.iaload, 1) := by decide +kernel
theorem d_Mo_put_14 : decode prog_10_method_19_code 14 = .ok (.i2l, 1) := by decide +kernel
theorem d_Mo_put_15 : decode prog_10_method_19_code 15 = .ok (.lmul, 1) := by decide +kernel
theorem d_Mo_put_16 : decode prog_10_method_19_code 16 = .ok (.lstore_n 3, 1) := by decide +kernel
theorem d_Mo_put_17 : decode prog_10_method_19_code 17 = .ok (.iload_n 2, 1) := by decide +kernel
theorem d_Mo_put_18 : decode prog_10_method_19_code 18 = .ok (.ifCond .ne 11, 3) := by decide +kernel
theorem d_Mo_put_21 : decode prog_10_method_19_code 21 = .ok (.aload_n 0, 1) := by decide +kernel
theorem d_Mo_put_22 : decode prog_10_method_19_code 22 = .ok (.lload_n 3, 1) := by decide +kernel
theorem d_Mo_put_23 : decode prog_10_method_19_code 23 = .ok (.putfield 88, 3) := by decide +kernel
theorem d_Mo_put_26 : decode prog_10_method_19_code 26 = .ok (.goto 23, 3) := by decide +kernel
theorem d_Mo_put_29 : decode prog_10_method_19_code 29 = .ok (.aload_n 0, 1) := by decide +kernel
theorem d_Mo_put_30 : decode prog_10_method_19_code 30 = .ok (.aload_n 0, 1) := by decide +kernel
theorem d_Mo_put_31 : decode prog_10_method_19_code 31 = .ok (.getfield 82, 3) := by decide +kernel
theorem d_Mo_put_34 : decode prog_10_method_19_code 34 = .ok (.lload_n 3, 1) := by decide +kernel
theorem d_Mo_put_35 : decode prog_10_method_19_code 35 = .ok (.ladd, 1) := by decide +kernel
theorem d_Mo_put_36 : decode prog_10_method_19_code 36 = .ok (.putfield 82, 3) := by decide +kernel
theorem d_Mo_put_39 : decode prog_10_method_19_code 39 = .ok (.aload_n 0, 1) := by decide +kernel
theorem d_Mo_put_40 : decode prog_10_method_19_code 40 = .ok (.aload_n 0, 1) := by decide +kernel
theorem d_Mo_put_41 : decode prog_10_method_19_code 41 = .ok (.getfield 88, 3) := by decide +kernel
theorem d_Mo_put_44 : decode prog_10_method_19_code 44 = .ok (.lload_n 3, 1) := by decide +kernel
theorem d_Mo_put_45 : decode prog_10_method_19_code 45 = .ok (.lsub, 1) := by decide +kernel
theorem d_Mo_put_46 : decode prog_10_method_19_code 46 = .ok (.putfield 88, 3) := by decide +kernel
theorem d_Mo_put_49 : decode prog_10_method_19_code 49 = .ok (.aload_n 0, 1) := by decide +kernel
theorem d_Mo_put_50 : decode prog_10_method_19_code 50 = .ok (.iload_n 1, 1) := by decide +kernel
theorem d_Mo_put_51 : decode prog_10_method_19_code 51 = .ok (.iload_n 2, 1) := by decide +kernel
theorem d_Mo_put_52 : decode prog_10_method_19_code 52 = .ok (.invokevirtual 96, 3) := by decide +kernel
theorem d_Mo_put_55 : decode prog_10_method_19_code 55 = .ok (.aload_n 0, 1) := by decide +kernel
theorem d_Mo_put_56 : decode prog_10_method_19_code 56 = .ok (.getfield 82, 3) := by decide +kernel
theorem d_Mo_put_59 : decode prog_10_method_19_code 59 = .ok (.ldc2_w 99, 3) := by decide +kernel
theorem d_Mo_put_62 : decode prog_10_method_19_code 62 = .ok (.lcmp, 1) := by decide +kernel
theorem d_Mo_put_63 : decode prog_10_method_19_code 63 = .ok (.ifCond .lt 19, 3) := by decide +kernel
theorem d_Mo_put_66 : decode prog_10_method_19_code 66 = .ok (.aload_n 0, 1) := by decide +kernel
theorem d_Mo_put_67 : decode prog_10_method_19_code 67 = .ok (.aload_n 0, 1) := by decide +kernel
theorem d_Mo_put_68 : decode prog_10_method_19_code 68 = .ok (.getfield 82, 3) := by decide +kernel
theorem d_Mo_put_71 : decode prog_10_method_19_code 71 = .ok (.ldc2_w 99, 3) := by decide +kernel
theorem d_Mo_put_74 : decode prog_10_method_19_code 74 = .ok (.lsub, 1) := by decide +kernel
theorem d_Mo_put_75 : decode prog_10_method_19_code 75 = .ok (.putfield 82, 3) := by decide +kernel
theorem d_Mo_put_78 : decode prog_10_method_19_code 78 = .ok (.aload_n 0, 1) := by decide +kernel
theorem d_Mo_put_79 : decode prog_10_method_19_code 79 = .ok (.invokevirtual 101, 3) := by decide +kernel
theorem d_Mo_put_82 : decode prog_10_method_19_code 82 = .ok (.aload_n 0, 1) := by decide +kernel
theorem d_Mo_put_83 : decode prog_10_method_19_code 83 = .ok (.getfield 88, 3) := by decide +kernel
theorem d_Mo_put_86 : decode prog_10_method_19_code 86 = .ok (.ldc2_w 104, 3) := by decide +kernel
theorem d_Mo_put_89 : decode prog_10_method_19_code 89 = .ok (.lcmp, 1) := by decide +kernel
theorem d_Mo_put_90 : decode prog_10_method_19_code 90 = .ok (.ifCond .ge 62, 3) := by decide +kernel
theorem d_Mo_put_93 : decode prog_10_method_19_code 93 = .ok (.aload_n 0, 1) := by decide +kernel
theorem d_Mo_put_94 : decode prog_10_method_19_code 94 = .ok (.getfield 37, 3) := by decide +kernel
theorem d_Mo_put_97 : decode prog_10_method_19_code 97 = .ok (.aload_n 0, 1) := by decide +kernel
theorem d_Mo_put_98 : decode prog_10_method_19_code 98 = .ok (.getfield 91, 3) := by decide +kernel
theorem d_Mo_put_101 : decode prog_10_method_19_code 101 = .ok (.aload_n 0, 1) := by decide +kernel
theorem d_Mo_put_102 : decode prog_10_method_19_code 102 = .ok (.getfield 82, 3) := by decide +kernel
theorem d_Mo_put_105 : decode prog_10_method_19_code 105 = .ok (.ldc2_w 104, 3) := by decide +kernel
theorem d_Mo_put_108 : decode prog_10_method_19_code 108 = .ok (.ldiv, 1) := by decide +kernel
theorem d_Mo_put_109 : decode prog_10_method_19_code 109 = .ok (.l2i, 1) := by decide +kernel
theorem d_Mo_put_110 : decode prog_10_method_19_code 110 = .ok (.iastore, 1) := by decide +kernel
theorem d_Mo_put_111 : decode prog_10_method_19_code 111 = .ok (.aload_n 0, 1) := by decide +kernel
theorem d_Mo_put_112 : decode prog_10_method_19_code 112 = .ok (.dup, 1) := by decide +kernel
theorem d_Mo_put_113 : decode prog_10_method_19_code 113 = .ok (.getfield 91, 3) := by decide +kernel
theorem d_Mo_put_116 : decode prog_10_method_19_code 116 = .ok (.iconst 1, 1) := by decide +kernel
theorem d_Mo_put_117 : decode prog_10_method_19_code 117 = .ok (.iadd, 1) := by decide +kernel
theorem d_Mo_put_118 : decode prog_10_method_19_code 118 = .ok (.putfield 91, 3) := by decide +kernel
theorem d_Mo_put_121 : decode prog_10_method_19_code 121 = .ok (.aload_n 0, 1) := by decide +kernel
theorem d_Mo_put_122 : decode prog_10_method_19_code 122 = .ok (.aload_n 0, 1) := by decide +kernel
theorem d_Mo_put_123 : decode prog_10_method_19_code 123 = .ok (.getfield 82, 3) := by decide +kernel
theorem d_Mo_put_126 : decode prog_10_method_19_code 126 = .ok (.ldc2_w 104, 3) := by decide +kernel
theorem d_Mo_put_129 : decode prog_10_method_19_code 129 = .ok (.lrem, 1) := by decide +kernel
theorem d_Mo_put_130 : decode prog_10_method_19_code 130 = .ok (.ldc2_w 106, 3) := by decide +kernel
theorem d_Mo_put_133 : decode prog_10_method_19_code 133 = .ok (.lmul, 1) := by decide +kernel
theorem d_Mo_put_134 : decode prog_10_method_19_code 134 = .ok (.putfield 82, 3) := by decide +kernel
theorem d_Mo_put_137 : decode prog_10_method_19_code 137 = .ok (.aload_n 0, 1) := by decide +kernel
theorem d_Mo_put_138 : decode prog_10_method_19_code 138 = .ok (.aload_n 0, 1) := by decide +kernel
theorem d_Mo_put_139 : decode prog_10_method_19_code 139 = .ok (.getfield 88, 3) := by decide +kernel
theorem d_Mo_put_142 : decode prog_10_method_19_code 142 = .ok (.ldc2_w 106, 3) := by decide +kernel
theorem d_Mo_put_145 : decode prog_10_method_19_code 145 = .ok (.lmul, 1) := by decide +kernel
theorem d_Mo_put_146 : decode prog_10_method_19_code 146 = .ok (.putfield 88, 3) := by decide +kernel
theorem d_Mo_put_149 : decode prog_10_method_19_code 149 = .ok (.goto (-67), 3) := by decide +kernel
theorem d_Mo_put_152 : decode prog_10_method_19_code 152 = .ok (.return_, 1) := by decide +kernel
theorem d_Mo_learn_0 : decode prog_10_method_18_code 0 = .ok (.iload_n 1, 1) := by decide +kernel
theorem d_Mo_learn_1 : decode prog_10_method_18_code 1 = .ok (.bipush 58, 2) := by decide +kernel
theorem d_Mo_learn_3 : decode prog_10_method_18_code 3 = .ok (.if_icmp .eq 52, 3) := by decide +kernel
theorem d_Mo_learn_6 : decode prog_10_method_18_code 6 = .ok (.aload_n 0, 1) := by decide +kernel
theorem d_Mo_learn_7 : decode prog_10_method_18_code 7 = .ok (.getfield 34, 3) := by decide +kernel
theorem d_Mo_learn_10 : decode prog_10_method_18_code 10 = .ok (.iload_n 1, 1) := by decide +kernel
theorem d_Mo_learn_11 : decode prog_10_method_18_code 11 = .ok (.iload_n 2, 1) := by decide +kernel
theorem d_Mo_learn_12 : decode prog_10_method_18_code 12 = .ok (.ifCond .ne 26, 3) := by decide +kernel
theorem d_Mo_learn_15 : decode prog_10_method_18_code 15 = .ok (.aload_n 0, 1) := by decide +kernel
theorem d_Mo_learn_16 : decode prog_10_method_18_code 16 = .ok (.getfield 34, 3) := by decide +kernel
theorem d_Mo_learn_19 : decode prog_10_method_18_code 19 = .ok (.iload_n 1, 1) := by decide +kernel
theorem d_Mo_learn_20 : decode prog_10_method_18_code 20 = .ok (.iaload, 1) := by decide +kernel
theorem d_Mo_learn_21 : decode prog_10_method_18_code 21 = .ok (.sipush 2048, 3) := by decide +kernel
theorem d_Mo_learn_24 : decode prog_10_method_18_code 24 = .ok (.aload_n 0, 1) := by decide +kernel
theorem d_Mo_learn_25 : decode prog_10_method_18_code 25 = .ok (.getfield 34, 3) := by decide +kernel
theorem d_Mo_learn_28 : decode prog_10_method_18_code 28 = .ok (.iload_n 1, 1) := by decide +kernel
theorem d_Mo_learn_29 : decode prog_10_method_18_code 29 = .ok (.iaload, 1) := by decide +kernel
theorem d_Mo_learn_30 : decode prog_10_method_18_code 30 = .ok (.isub, 1) := by decide +kernel
theorem d_Mo_learn_31 : decode prog_10_method_18_code 31 = .ok (.bipush 16, 2) := by decide +kernel
theorem d_Mo_learn_33 : decode prog_10_method_18_code 33 = .ok (.idiv, 1) := by decide +kernel
theorem d_Mo_learn_34 : decode prog_10_method_18_code 34 = .ok (.iadd, 1) := by decide +kernel
theorem d_Mo_learn_35 : decode prog_10_method_18_code 35 = .ok (.goto 19, 3) := by decide +kernel
theorem d_Mo_learn_38 : decode prog_10_method_18_code 38 = .ok (.aload_n 0, 1) := by decide +kernel
theorem d_Mo_learn_39 : decode prog_10_method_18_code 39 = .ok (.getfield 34, 3) := by decide +kernel
theorem d_Mo_learn_42 : decode prog_10_method_18_code 42 = .ok (.iload_n 1, 1) := by decide +kernel
theorem d_Mo_learn_43 : decode prog_10_method_18_code 43 = .ok (.iaload, 1) := by decide +kernel
theorem d_Mo_learn_44 : decode prog_10_method_18_code 44 = .ok (.aload_n 0, 1) := by decide +kernel
theorem d_Mo_learn_45 : decode prog_10_method_18_code 45 = .ok (.getfield 34, 3) := by decide +kernel
theorem d_Mo_learn_48 : decode prog_10_method_18_code 48 = .ok (.iload_n 1, 1) := by decide +kernel
theorem d_Mo_learn_49 : decode prog_10_method_18_code 49 = .ok (.iaload, 1) := by decide +kernel
theorem d_Mo_learn_50 : decode prog_10_method_18_code 50 = .ok (.bipush 16, 2) := by decide +kernel
theorem d_Mo_learn_52 : decode prog_10_method_18_code 52 = .ok (.idiv, 1) := by decide +kernel
theorem d_Mo_learn_53 : decode prog_10_method_18_code 53 = .ok (.isub, 1) := by decide +kernel
theorem d_Mo_learn_54 : decode prog_10_method_18_code 54 = .ok (.iastore, 1) := by decide +kernel
theorem d_Mo_learn_55 : decode prog_10_method_18_code 55 = .ok (.return_, 1) := by decide +kernel
theorem d_Mo_carry_0 : decode prog_10_method_17_code 0 = .ok (.aload_n 0, 1) := by decide +kernel
theorem d_Mo_carry_1 : decode prog_10_method_17_code 1 = .ok (.getfield 91, 3) := by decide +kernel
theorem d_Mo_carry_4 : decode prog_10_method_17_code 4 = .ok (.iconst 1, 1) := by decide +kernel
theorem d_Mo_carry_5 : decode prog_10_method_17_code 5 = .ok (.isub, 1) := by decide +kernel
theorem d_Mo_carry_6 : decode prog_10_method_17_code 6 = .ok (.istore_n 1, 1) := by decide +kernel
theorem d_Mo_carry_7 : decode prog_10_method_17_code 7 = .ok (.iconst 1, 1) := by decide +kernel
theorem d_Mo_carry_8 : decode prog_10_method_17_code 8 = .ok (.istore_n 2, 1) := by decide +kernel
theorem d_Mo_carry_9 : decode prog_10_method_17_code 9 = .ok (.iload_n 2, 1) := by decide +kernel
theorem d_Mo_carry_10 : decode prog_10_method_17_code 10 = .ok (.ifCond .eq 54, 3) := by decide +kernel
theorem d_Mo_carry_13 : decode prog_10_method_17_code 13 = .ok (.aload_n 0, 1) := by decide +kernel
theorem d_Mo_carry_14 : decode prog_10_method_17_code 14 = .ok (.getfield 37, 3) := by decide +kernel
theorem d_Mo_carry_17 : decode prog_10_method_17_code 17 = .ok (.iload_n 1, 1) := by decide +kernel
theorem d_Mo_carry_18 : decode prog_10_method_17_code 18 = .ok (.aload_n 0, 1) := by decide +kernel
theorem d_Mo_carry_19 : decode prog_10_method_17_code 19 = .ok (.getfield 37, 3) := by decide +kernel
theorem d_Mo_carry_22 : decode prog_10_method_17_code 22 = .ok (.iload_n 1, 1) := by decide +kernel
theorem d_Mo_carry_23 : decode prog_10_method_17_code 23 = .ok (.iaload, 1) := by decide +kernel
theorem d_Mo_carry_24 : decode prog_10_method_17_code 24 = .ok (.sipush 255, 3) := by decide +kernel
theorem d_Mo_carry_27 : decode prog_10_method_17_code 27 = .ok (.if_icmp .ne 7, 3) := by decide +kernel
theorem d_Mo_carry_30 : decode prog_10_method_17_code 30 = .ok (.iconst 0, 1) := by decide +kernel
theorem d_Mo_carry_31 : decode prog_10_method_17_code 31 = .ok (.goto 11, 3) := by decide +kernel
theorem d_Mo_carry_34 : decode prog_10_method_17_code 34 = .ok (.aload_n 0, 1) := by decide +kernel
theorem d_Mo_carry_35 : decode prog_10_method_17_code 35 = .ok (.getfield 37, 3) := by decide +kernel
theorem d_Mo_carry_38 : decode prog_10_method_17_code 38 = .ok (.iload_n 1, 1) := by decide +kernel
theorem d_Mo_carry_39 : decode prog_10_method_17_code 39 = .ok (.iaload, 1) := by decide +kernel
theorem d_Mo_carry_40 : decode prog_10_method_17_code 40 = .ok (.iconst 1, 1) := by decide +kernel
theorem d_Mo_carry_41 : decode prog_10_method_17_code 41 = .ok (.iadd, 1) := by decide +kernel
theorem d_Mo_carry_42 : decode prog_10_method_17_code 42 = .ok (.iastore, 1) := by decide +kernel
theorem d_Mo_carry_43 : decode prog_10_method_17_code 43 = .ok (.aload_n 0, 1) := by decide +kernel
theorem d_Mo_carry_44 : decode prog_10_method_17_code 44 = .ok (.getfield 37, 3) := by decide +kernel
theorem d_Mo_carry_47 : decode prog_10_method_17_code 47 = .ok (.iload_n 1, 1) := by decide +kernel
theorem d_Mo_carry_48 : decode prog_10_method_17_code 48 = .ok (.iaload, 1) := by decide +kernel
theorem d_Mo_carry_49 : decode prog_10_method_17_code 49 = .ok (.ifCond .ne 7, 3) := by decide +kernel
theorem d_Mo_carry_52 : decode prog_10_method_17_code 52 = .ok (.iconst 1, 1) := by decide +kernel
theorem d_Mo_carry_53 : decode prog_10_method_17_code 53 = .ok (.goto 4, 3) := by decide +kernel
theorem d_Mo_carry_56 : decode prog_10_method_17_code 56 = .ok (.iconst 0, 1) := by decide +kernel
theorem d_Mo_carry_57 : decode prog_10_method_17_code 57 = .ok (.istore_n 2, 1) := by decide +kernel
theorem d_Mo_carry_58 : decode prog_10_method_17_code 58 = .ok (.iinc 1 (-1), 3) := by decide +kernel
theorem d_Mo_carry_61 : decode prog_10_method_17_code 61 = .ok (.goto (-52), 3) := by decide +kernel
theorem d_Mo_carry_64 : decode prog_10_method_17_code 64 = .ok (.return_, 1) := by decide +kernel
theorem d_Mo_putKind_0 : decode prog_10_method_21_code 0 = .ok (.bipush 27, 2) := by decide +kernel
theorem d_Mo_putKind_2 : decode prog_10_method_21_code 2 = .ok (.iconst 4, 1) := by decide +kernel
theorem d_Mo_putKind_3 : decode prog_10_method_21_code 3 = .ok (.iload_n 1, 1) := by decide +kernel
theorem d_Mo_putKind_4 : decode prog_10_method_21_code 4 = .ok (.imul, 1) := by decide +kernel
theorem d_Mo_putKind_5 : decode prog_10_method_21_code 5 = .ok (.iadd, 1) := by decide +kernel
theorem d_Mo_putKind_6 : decode prog_10_method_21_code 6 = .ok (.istore_n 3, 1) := by decide +kernel
theorem d_Mo_putKind_7 : decode prog_10_method_21_code 7 = .ok (.aload_n 0, 1) := by decide +kernel
theorem d_Mo_putKind_8 : decode prog_10_method_21_code 8 = .ok (.iload_n 3, 1) := by decide +kernel
theorem d_Mo_putKind_9 : decode prog_10_method_21_code 9 = .ok (.iload_n 2, 1) := by decide +kernel
theorem d_Mo_putKind_10 : decode prog_10_method_21_code 10 = .ok (.ifCond .ne 7, 3) := by decide +kernel
theorem d_Mo_putKind_13 : decode prog_10_method_21_code 13 = .ok (.iconst 0, 1) := by decide +kernel
theorem d_Mo_putKind_14 : decode prog_10_method_21_code 14 = .ok (.goto 4, 3) := by decide +kernel
theorem d_Mo_putKind_17 : decode prog_10_method_21_code 17 = .ok (.iconst 1, 1) := by decide +kernel
theorem d_Mo_putKind_18 : decode prog_10_method_21_code 18 = .ok (.invokevirtual 108, 3) := by decide +kernel
theorem d_Mo_putKind_21 : decode prog_10_method_21_code 21 = .ok (.iload_n 2, 1) := by decide +kernel
theorem d_Mo_putKind_22 : decode prog_10_method_21_code 22 = .ok (.ifCond .eq 20, 3) := by decide +kernel
theorem d_Mo_putKind_25 : decode prog_10_method_21_code 25 = .ok (.aload_n 0, 1) := by decide +kernel
theorem d_Mo_putKind_26 : decode prog_10_method_21_code 26 = .ok (.iload_n 3, 1) := by decide +kernel
theorem d_Mo_putKind_27 : decode prog_10_method_21_code 27 = .ok (.iconst 1, 1) := by decide +kernel
theorem d_Mo_putKind_28 : decode prog_10_method_21_code 28 = .ok (.iadd, 1) := by decide +kernel
theorem d_Mo_putKind_29 : decode prog_10_method_21_code 29 = .ok (.iload_n 2, 1) := by decide +kernel
theorem d_Mo_putKind_30 : decode prog_10_method_21_code 30 = .ok (.iconst 4, 1) := by decide +kernel
theorem d_Mo_putKind_31 : decode prog_10_method_21_code 31 = .ok (.if_icmp .ne 7, 3) := by decide +kernel
theorem d_Mo_putKind_34 : decode prog_10_method_21_code 34 = .ok (.iconst 0, 1) := by decide +kernel
theorem d_Mo_putKind_35 : decode prog_10_method_21_code 35 = .ok (.goto 4, 3) := by decide +kernel
theorem d_Mo_putKind_38 : decode prog_10_method_21_code 38 = .ok (.iconst 1, 1) := by decide +kernel
theorem d_Mo_putKind_39 : decode prog_10_method_21_code 39 = .ok (.invokevirtual 108, 3) := by decide +kernel
theorem d_Mo_putKind_42 : decode prog_10_method_21_code 42 = .ok (.iload_n 2, 1) := by decide +kernel
theorem d_Mo_putKind_43 : decode prog_10_method_21_code 43 = .ok (.iconst 1, 1) := by decide +kernel
theorem d_Mo_putKind_44 : decode prog_10_method_21_code 44 = .ok (.if_icmp .eq 13, 3) := by decide +kernel
theorem d_Mo_putKind_47 : decode prog_10_method_21_code 47 = .ok (.iload_n 2, 1) := by decide +kernel
theorem d_Mo_putKind_48 : decode prog_10_method_21_code 48 = .ok (.iconst 2, 1) := by decide +kernel
theorem d_Mo_putKind_49 : decode prog_10_method_21_code 49 = .ok (.if_icmp .eq 8, 3) := by decide +kernel
theorem d_Mo_putKind_52 : decode prog_10_method_21_code 52 = .ok (.iload_n 2, 1) := by decide +kernel
theorem d_Mo_putKind_53 : decode prog_10_method_21_code 53 = .ok (.iconst 3, 1) := by decide +kernel
theorem d_Mo_putKind_54 : decode prog_10_method_21_code 54 = .ok (.if_icmp .ne 20, 3) := by decide +kernel
theorem d_Mo_putKind_57 : decode prog_10_method_21_code 57 = .ok (.aload_n 0, 1) := by decide +kernel
theorem d_Mo_putKind_58 : decode prog_10_method_21_code 58 = .ok (.iload_n 3, 1) := by decide +kernel
theorem d_Mo_putKind_59 : decode prog_10_method_21_code 59 = .ok (.iconst 2, 1) := by decide +kernel
theorem d_Mo_putKind_60 : decode prog_10_method_21_code 60 = .ok (.iadd, 1) := by decide +kernel
theorem d_Mo_putKind_61 : decode prog_10_method_21_code 61 = .ok (.iload_n 2, 1) := by decide +kernel
theorem d_Mo_putKind_62 : decode prog_10_method_21_code 62 = .ok (.iconst 1, 1) := by decide +kernel
theorem d_Mo_putKind_63 : decode prog_10_method_21_code 63 = .ok (.if_icmp .ne 7, 3) := by decide +kernel
theorem d_Mo_putKind_66 : decode prog_10_method_21_code 66 = .ok (.iconst 0, 1) := by decide +kernel
theorem d_Mo_putKind_67 : decode prog_10_method_21_code 67 = .ok (.goto 4, 3) := by decide +kernel
theorem d_Mo_putKind_70 : decode prog_10_method_21_code 70 = .ok (.iconst 1, 1) := by decide +kernel
theorem d_Mo_putKind_71 : decode prog_10_method_21_code 71 = .ok (.invokevirtual 108, 3) := by decide +kernel
theorem d_Mo_putKind_74 : decode prog_10_method_21_code 74 = .ok (.iload_n 2, 1) := by decide +kernel
theorem d_Mo_putKind_75 : decode prog_10_method_21_code 75 = .ok (.iconst 2, 1) := by decide +kernel
theorem d_Mo_putKind_76 : decode prog_10_method_21_code 76 = .ok (.if_icmp .eq 8, 3) := by decide +kernel
theorem d_Mo_putKind_79 : decode prog_10_method_21_code 79 = .ok (.iload_n 2, 1) := by decide +kernel
theorem d_Mo_putKind_80 : decode prog_10_method_21_code 80 = .ok (.iconst 3, 1) := by decide +kernel
theorem d_Mo_putKind_81 : decode prog_10_method_21_code 81 = .ok (.if_icmp .ne 20, 3) := by decide +kernel
theorem d_Mo_putKind_84 : decode prog_10_method_21_code 84 = .ok (.aload_n 0, 1) := by decide +kernel
theorem d_Mo_putKind_85 : decode prog_10_method_21_code 85 = .ok (.iload_n 3, 1) := by decide +kernel
theorem d_Mo_putKind_86 : decode prog_10_method_21_code 86 = .ok (.iconst 3, 1) := by decide +kernel
theorem d_Mo_putKind_87 : decode prog_10_method_21_code 87 = .ok (.iadd, 1) := by decide +kernel
theorem d_Mo_putKind_88 : decode prog_10_method_21_code 88 = .ok (.iload_n 2, 1) := by decide +kernel
theorem d_Mo_putKind_89 : decode prog_10_method_21_code 89 = .ok (.iconst 2, 1) := by decide +kernel
theorem d_Mo_putKind_90 : decode prog_10_method_21_code 90 = .ok (.if_icmp .ne 7, 3) := by decide +kernel
theorem d_Mo_putKind_93 : decode prog_10_method_21_code 93 = .ok (.iconst 0, 1) := by decide +kernel
theorem d_Mo_putKind_94 : decode prog_10_method_21_code 94 = .ok (.goto 4, 3) := by decide +kernel
theorem d_Mo_putKind_97 : decode prog_10_method_21_code 97 = .ok (.iconst 1, 1) := by decide +kernel
theorem d_Mo_putKind_98 : decode prog_10_method_21_code 98 = .ok (.invokevirtual 108, 3) := by decide +kernel
theorem d_Mo_putKind_101 : decode prog_10_method_21_code 101 = .ok (.return_, 1) := by decide +kernel
theorem d_Mo_seal_0 : decode prog_10_method_23_code 0 = .ok (.bipush 24, 2) := by decide +kernel
theorem d_Mo_seal_2 : decode prog_10_method_23_code 2 = .ok (.istore_n 1, 1) := by decide +kernel
theorem d_Mo_seal_3 : decode prog_10_method_23_code 3 = .ok (.iload_n 1, 1) := by decide +kernel
theorem d_Mo_seal_4 : decode prog_10_method_23_code 4 = .ok (.ifCond .lt 39, 3) := by decide +kernel
theorem d_Mo_seal_7 : decode prog_10_method_23_code 7 = .ok (.aload_n 0, 1) := by decide +kernel
theorem d_Mo_seal_8 : decode prog_10_method_23_code 8 = .ok (.getfield 37, 3) := by decide +kernel
theorem d_Mo_seal_11 : decode prog_10_method_23_code 11 = .ok (.aload_n 0, 1) := by decide +kernel
theorem d_Mo_seal_12 : decode prog_10_method_23_code 12 = .ok (.getfield 91, 3) := by decide +kernel
theorem d_Mo_seal_15 : decode prog_10_method_23_code 15 = .ok (.aload_n 0, 1) := by decide +kernel
theorem d_Mo_seal_16 : decode prog_10_method_23_code 16 = .ok (.getfield 82, 3) := by decide +kernel
theorem d_Mo_seal_19 : decode prog_10_method_23_code 19 = .ok (.iload_n 1, 1) := by decide +kernel
theorem d_Mo_seal_20 : decode prog_10_method_23_code 20 = .ok (.lshr, 1) := by decide +kernel
theorem d_Mo_seal_21 : decode prog_10_method_23_code 21 = .ok (.ldc2_w 117, 3) := by decide +kernel
theorem d_Mo_seal_24 : decode prog_10_method_23_code 24 = .ok (.land, 1) := by decide +kernel
theorem d_Mo_seal_25 : decode prog_10_method_23_code 25 = .ok (.l2i, 1) := by decide +kernel
theorem d_Mo_seal_26 : decode prog_10_method_23_code 26 = .ok (.iastore, 1) := by decide +kernel
theorem d_Mo_seal_27 : decode prog_10_method_23_code 27 = .ok (.aload_n 0, 1) := by decide +kernel
theorem d_Mo_seal_28 : decode prog_10_method_23_code 28 = .ok (.dup, 1) := by decide +kernel
theorem d_Mo_seal_29 : decode prog_10_method_23_code 29 = .ok (.getfield 91, 3) := by decide +kernel
theorem d_Mo_seal_32 : decode prog_10_method_23_code 32 = .ok (.iconst 1, 1) := by decide +kernel
theorem d_Mo_seal_33 : decode prog_10_method_23_code 33 = .ok (.iadd, 1) := by decide +kernel
theorem d_Mo_seal_34 : decode prog_10_method_23_code 34 = .ok (.putfield 91, 3) := by decide +kernel
theorem d_Mo_seal_37 : decode prog_10_method_23_code 37 = .ok (.iinc 1 (-8), 3) := by decide +kernel
theorem d_Mo_seal_40 : decode prog_10_method_23_code 40 = .ok (.goto (-37), 3) := by decide +kernel
theorem d_Mo_seal_43 : decode prog_10_method_23_code 43 = .ok (.aload_n 0, 1) := by decide +kernel
theorem d_Mo_seal_44 : decode prog_10_method_23_code 44 = .ok (.getfield 91, 3) := by decide +kernel
theorem d_Mo_seal_47 : decode prog_10_method_23_code 47 = .ok (.ifCond .le 30, 3) := by decide +kernel
theorem d_Mo_seal_50 : decode prog_10_method_23_code 50 = .ok (.aload_n 0, 1) := by decide +kernel
theorem d_Mo_seal_51 : decode prog_10_method_23_code 51 = .ok (.getfield 37, 3) := by decide +kernel
theorem d_Mo_seal_54 : decode prog_10_method_23_code 54 = .ok (.aload_n 0, 1) := by decide +kernel
theorem d_Mo_seal_55 : decode prog_10_method_23_code 55 = .ok (.getfield 91, 3) := by decide +kernel
theorem d_Mo_seal_58 : decode prog_10_method_23_code 58 = .ok (.iconst 1, 1) := by decide +kernel
theorem d_Mo_seal_59 : decode prog_10_method_23_code 59 = .ok (.isub, 1) := by decide +kernel
theorem d_Mo_seal_60 : decode prog_10_method_23_code 60 = .ok (.iaload, 1) := by decide +kernel
theorem d_Mo_seal_61 : decode prog_10_method_23_code 61 = .ok (.ifCond .ne 16, 3) := by decide +kernel
theorem d_Mo_seal_64 : decode prog_10_method_23_code 64 = .ok (.aload_n 0, 1) := by decide +kernel
theorem d_Mo_seal_65 : decode prog_10_method_23_code 65 = .ok (.dup, 1) := by decide +kernel
theorem d_Mo_seal_66 : decode prog_10_method_23_code 66 = .ok (.getfield 91, 3) := by decide +kernel
theorem d_Mo_seal_69 : decode prog_10_method_23_code 69 = .ok (.iconst 1, 1) := by decide +kernel
theorem d_Mo_seal_70 : decode prog_10_method_23_code 70 = .ok (.isub, 1) := by decide +kernel
theorem d_Mo_seal_71 : decode prog_10_method_23_code 71 = .ok (.putfield 91, 3) := by decide +kernel
theorem d_Mo_seal_74 : decode prog_10_method_23_code 74 = .ok (.goto (-31), 3) := by decide +kernel
theorem d_Mo_seal_77 : decode prog_10_method_23_code 77 = .ok (.return_, 1) := by decide +kernel
theorem d_Mo_add_0 : decode prog_10_method_24_code 0 = .ok (.aload_n 0, 1) := by decide +kernel
theorem d_Mo_add_1 : decode prog_10_method_24_code 1 = .ok (.getfield 40, 3) := by decide +kernel
theorem d_Mo_add_4 : decode prog_10_method_24_code 4 = .ok (.aload_n 0, 1) := by decide +kernel
theorem d_Mo_add_5 : decode prog_10_method_24_code 5 = .ok (.getfield 119, 3) := by decide +kernel
theorem d_Mo_add_8 : decode prog_10_method_24_code 8 = .ok (.iload_n 1, 1) := by decide +kernel
theorem d_Mo_add_9 : decode prog_10_method_24_code 9 = .ok (.iastore, 1) := by decide +kernel
theorem d_Mo_add_10 : decode prog_10_method_24_code 10 = .ok (.aload_n 0, 1) := by decide +kernel
theorem d_Mo_add_11 : decode prog_10_method_24_code 11 = .ok (.dup, 1) := by decide +kernel
theorem d_Mo_add_12 : decode prog_10_method_24_code 12 = .ok (.getfield 119, 3) := by decide +kernel
theorem d_Mo_add_15 : decode prog_10_method_24_code 15 = .ok (.iconst 1, 1) := by decide +kernel
theorem d_Mo_add_16 : decode prog_10_method_24_code 16 = .ok (.iadd, 1) := by decide +kernel
theorem d_Mo_add_17 : decode prog_10_method_24_code 17 = .ok (.putfield 119, 3) := by decide +kernel
theorem d_Mo_add_20 : decode prog_10_method_24_code 20 = .ok (.return_, 1) := by decide +kernel
theorem d_Mo_blocks_0 : decode prog_10_method_28_code 0 = .ok (.aload_n 0, 1) := by decide +kernel
theorem d_Mo_blocks_1 : decode prog_10_method_28_code 1 = .ok (.iconst 0, 1) := by decide +kernel
theorem d_Mo_blocks_2 : decode prog_10_method_28_code 2 = .ok (.putfield 46, 3) := by decide +kernel
theorem d_Mo_blocks_5 : decode prog_10_method_28_code 5 = .ok (.iconst 0, 1) := by decide +kernel
theorem d_Mo_blocks_6 : decode prog_10_method_28_code 6 = .ok (.istore_n 1, 1) := by decide +kernel
theorem d_Mo_blocks_7 : decode prog_10_method_28_code 7 = .ok (.aload_n 0, 1) := by decide +kernel
theorem d_Mo_blocks_8 : decode prog_10_method_28_code 8 = .ok (.iload_n 1, 1) := by decide +kernel
theorem d_Mo_blocks_9 : decode prog_10_method_28_code 9 = .ok (.invokevirtual 142, 3) := by decide +kernel
theorem d_Mo_blocks_12 : decode prog_10_method_28_code 12 = .ok (.ifCond .lt 9, 3) := by decide +kernel
theorem d_Mo_blocks_15 : decode prog_10_method_28_code 15 = .ok (.iinc 1 1, 3) := by decide +kernel
theorem d_Mo_blocks_18 : decode prog_10_method_28_code 18 = .ok (.goto (-11), 3) := by decide +kernel
theorem d_Mo_blocks_21 : decode prog_10_method_28_code 21 = .ok (.iload_n 1, 1) := by decide +kernel
theorem d_Mo_blocks_22 : decode prog_10_method_28_code 22 = .ok (.ireturn, 1) := by decide +kernel
theorem d_Mo_beginOf_0 : decode prog_10_method_27_code 0 = .ok (.iconst 0, 1) := by decide +kernel
theorem d_Mo_beginOf_1 : decode prog_10_method_27_code 1 = .ok (.istore_n 2, 1) := by decide +kernel
theorem d_Mo_beginOf_2 : decode prog_10_method_27_code 2 = .ok (.iconst 0, 1) := by decide +kernel
theorem d_Mo_beginOf_3 : decode prog_10_method_27_code 3 = .ok (.istore_n 3, 1) := by decide +kernel
theorem d_Mo_beginOf_4 : decode prog_10_method_27_code 4 = .ok (.iload_n 3, 1) := by decide +kernel
theorem d_Mo_beginOf_5 : decode prog_10_method_27_code 5 = .ok (.iload_n 1, 1) := by decide +kernel
theorem d_Mo_beginOf_6 : decode prog_10_method_27_code 6 = .ok (.if_icmp .ge 40, 3) := by decide +kernel
theorem d_Mo_beginOf_9 : decode prog_10_method_27_code 9 = .ok (.iload_n 2, 1) := by decide +kernel
theorem d_Mo_beginOf_10 : decode prog_10_method_27_code 10 = .ok (.ifCond .lt 36, 3) := by decide +kernel
theorem d_Mo_beginOf_13 : decode prog_10_method_27_code 13 = .ok (.iload_n 2, 1) := by decide +kernel
theorem d_Mo_beginOf_14 : decode prog_10_method_27_code 14 = .ok (.iconst 2, 1) := by decide +kernel
theorem d_Mo_beginOf_15 : decode prog_10_method_27_code 15 = .ok (.iadd, 1) := by decide +kernel
theorem d_Mo_beginOf_16 : decode prog_10_method_27_code 16 = .ok (.aload_n 0, 1) := by decide +kernel
theorem d_Mo_beginOf_17 : decode prog_10_method_27_code 17 = .ok (.getfield 136, 3) := by decide +kernel
theorem d_Mo_beginOf_20 : decode prog_10_method_27_code 20 = .ok (.if_icmp .ge 18, 3) := by decide +kernel
theorem d_Mo_beginOf_23 : decode prog_10_method_27_code 23 = .ok (.iload_n 2, 1) := by decide +kernel
theorem d_Mo_beginOf_24 : decode prog_10_method_27_code 24 = .ok (.iconst 5, 1) := by decide +kernel
theorem d_Mo_beginOf_25 : decode prog_10_method_27_code 25 = .ok (.iadd, 1) := by decide +kernel
theorem d_Mo_beginOf_26 : decode prog_10_method_27_code 26 = .ok (.aload_n 0, 1) := by decide +kernel
theorem d_Mo_beginOf_27 : decode prog_10_method_27_code 27 = .ok (.getfield 31, 3) := by decide +kernel
theorem d_Mo_beginOf_30 : decode prog_10_method_27_code 30 = .ok (.iload_n 2, 1) := by decide +kernel
theorem d_Mo_beginOf_31 : decode prog_10_method_27_code 31 = .ok (.iconst 2, 1) := by decide +kernel
theorem d_Mo_beginOf_32 : decode prog_10_method_27_code 32 = .ok (.iadd, 1) := by decide +kernel
theorem d_Mo_beginOf_33 : decode prog_10_method_27_code 33 = .ok (.iaload, 1) := by decide +kernel
theorem d_Mo_beginOf_34 : decode prog_10_method_27_code 34 = .ok (.iadd, 1) := by decide +kernel
theorem d_Mo_beginOf_35 : decode prog_10_method_27_code 35 = .ok (.goto 4, 3) := by decide +kernel
theorem d_Mo_beginOf_38 : decode prog_10_method_27_code 38 = .ok (.iconst (-1), 1) := by decide +kernel
theorem d_Mo_beginOf_39 : decode prog_10_method_27_code 39 = .ok (.istore_n 2, 1) := by decide +kernel
theorem d_Mo_beginOf_40 : decode prog_10_method_27_code 40 = .ok (.iinc 3 1, 3) := by decide +kernel
theorem d_Mo_beginOf_43 : decode prog_10_method_27_code 43 = .ok (.goto (-39), 3) := by decide +kernel
theorem d_Mo_beginOf_46 : decode prog_10_method_27_code 46 = .ok (.iload_n 1, 1) := by decide +kernel
theorem d_Mo_beginOf_47 : decode prog_10_method_27_code 47 = .ok (.ifCond .lt 11, 3) := by decide +kernel
theorem d_Mo_beginOf_50 : decode prog_10_method_27_code 50 = .ok (.iload_n 2, 1) := by decide +kernel
theorem d_Mo_beginOf_51 : decode prog_10_method_27_code 51 = .ok (.aload_n 0, 1) := by decide +kernel
theorem d_Mo_beginOf_52 : decode prog_10_method_27_code 52 = .ok (.getfield 136, 3) := by decide +kernel
theorem d_Mo_beginOf_55 : decode prog_10_method_27_code 55 = .ok (.if_icmp .lt 7, 3) := by decide +kernel
theorem d_Mo_beginOf_58 : decode prog_10_method_27_code 58 = .ok (.iconst (-1), 1) := by decide +kernel
theorem d_Mo_beginOf_59 : decode prog_10_method_27_code 59 = .ok (.goto 4, 3) := by decide +kernel
theorem d_Mo_beginOf_62 : decode prog_10_method_27_code 62 = .ok (.iload_n 2, 1) := by decide +kernel
theorem d_Mo_beginOf_63 : decode prog_10_method_27_code 63 = .ok (.ireturn, 1) := by decide +kernel
theorem d_Mo_size_0 : decode prog_10_method_29_code 0 = .ok (.aload_n 0, 1) := by decide +kernel
theorem d_Mo_size_1 : decode prog_10_method_29_code 1 = .ok (.iconst 0, 1) := by decide +kernel
theorem d_Mo_size_2 : decode prog_10_method_29_code 2 = .ok (.putfield 46, 3) := by decide +kernel
theorem d_Mo_size_5 : decode prog_10_method_29_code 5 = .ok (.aload_n 0, 1) := by decide +kernel
theorem d_Mo_size_6 : decode prog_10_method_29_code 6 = .ok (.getfield 136, 3) := by decide +kernel
theorem d_Mo_size_9 : decode prog_10_method_29_code 9 = .ok (.ireturn, 1) := by decide +kernel
theorem d_Mo_at_0 : decode prog_10_method_30_code 0 = .ok (.aload_n 0, 1) := by decide +kernel
theorem d_Mo_at_1 : decode prog_10_method_30_code 1 = .ok (.iload_n 1, 1) := by decide +kernel
theorem d_Mo_at_2 : decode prog_10_method_30_code 2 = .ok (.ifCond .lt 11, 3) := by decide +kernel
theorem d_Mo_at_5 : decode prog_10_method_30_code 5 = .ok (.iload_n 1, 1) := by decide +kernel
theorem d_Mo_at_6 : decode prog_10_method_30_code 6 = .ok (.aload_n 0, 1) := by decide +kernel
theorem d_Mo_at_7 : decode prog_10_method_30_code 7 = .ok (.getfield 136, 3) := by decide +kernel
theorem d_Mo_at_10 : decode prog_10_method_30_code 10 = .ok (.if_icmp .lt 7, 3) := by decide +kernel
theorem d_Mo_at_13 : decode prog_10_method_30_code 13 = .ok (.iconst 1, 1) := by decide +kernel
theorem d_Mo_at_14 : decode prog_10_method_30_code 14 = .ok (.goto 4, 3) := by decide +kernel
theorem d_Mo_at_17 : decode prog_10_method_30_code 17 = .ok (.iconst 0, 1) := by decide +kernel
theorem d_Mo_at_18 : decode prog_10_method_30_code 18 = .ok (.putfield 46, 3) := by decide +kernel
theorem d_Mo_at_21 : decode prog_10_method_30_code 21 = .ok (.aload_n 0, 1) := by decide +kernel
theorem d_Mo_at_22 : decode prog_10_method_30_code 22 = .ok (.getfield 46, 3) := by decide +kernel
theorem d_Mo_at_25 : decode prog_10_method_30_code 25 = .ok (.ifCond .le 7, 3) := by decide +kernel
theorem d_Mo_at_28 : decode prog_10_method_30_code 28 = .ok (.iconst 0, 1) := by decide +kernel
theorem d_Mo_at_29 : decode prog_10_method_30_code 29 = .ok (.goto 9, 3) := by decide +kernel
theorem d_Mo_at_32 : decode prog_10_method_30_code 32 = .ok (.aload_n 0, 1) := by decide +kernel
theorem d_Mo_at_33 : decode prog_10_method_30_code 33 = .ok (.getfield 31, 3) := by decide +kernel
theorem d_Mo_at_36 : decode prog_10_method_30_code 36 = .ok (.iload_n 1, 1) := by decide +kernel
theorem d_Mo_at_37 : decode prog_10_method_30_code 37 = .ok (.iaload, 1) := by decide +kernel
theorem d_Mo_at_38 : decode prog_10_method_30_code 38 = .ok (.ireturn, 1) := by decide +kernel
theorem d_Mo_corrupt_0 : decode prog_10_method_31_code 0 = .ok (.aload_n 0, 1) := by decide +kernel
theorem d_Mo_corrupt_1 : decode prog_10_method_31_code 1 = .ok (.iload_n 1, 1) := by decide +kernel
theorem d_Mo_corrupt_2 : decode prog_10_method_31_code 2 = .ok (.ifCond .lt 11, 3) := by decide +kernel
theorem d_Mo_corrupt_5 : decode prog_10_method_31_code 5 = .ok (.iload_n 1, 1) := by decide +kernel
theorem d_Mo_corrupt_6 : decode prog_10_method_31_code 6 = .ok (.aload_n 0, 1) := by decide +kernel
theorem d_Mo_corrupt_7 : decode prog_10_method_31_code 7 = .ok (.getfield 136, 3) := by decide +kernel
theorem d_Mo_corrupt_10 : decode prog_10_method_31_code 10 = .ok (.if_icmp .lt 7, 3) := by decide +kernel
theorem d_Mo_corrupt_13 : decode prog_10_method_31_code 13 = .ok (.iconst 1, 1) := by decide +kernel
theorem d_Mo_corrupt_14 : decode prog_10_method_31_code 14 = .ok (.goto 19, 3) := by decide +kernel
theorem d_Mo_corrupt_17 : decode prog_10_method_31_code 17 = .ok (.iload_n 2, 1) := by decide +kernel
theorem d_Mo_corrupt_18 : decode prog_10_method_31_code 18 = .ok (.ifCond .lt 10, 3) := by decide +kernel
theorem d_Mo_corrupt_21 : decode prog_10_method_31_code 21 = .ok (.iload_n 2, 1) := by decide +kernel
theorem d_Mo_corrupt_22 : decode prog_10_method_31_code 22 = .ok (.sipush 255, 3) := by decide +kernel
theorem d_Mo_corrupt_25 : decode prog_10_method_31_code 25 = .ok (.if_icmp .le 7, 3) := by decide +kernel
theorem d_Mo_corrupt_28 : decode prog_10_method_31_code 28 = .ok (.iconst 2, 1) := by decide +kernel
theorem d_Mo_corrupt_29 : decode prog_10_method_31_code 29 = .ok (.goto 4, 3) := by decide +kernel
theorem d_Mo_corrupt_32 : decode prog_10_method_31_code 32 = .ok (.iconst 0, 1) := by decide +kernel
theorem d_Mo_corrupt_33 : decode prog_10_method_31_code 33 = .ok (.putfield 46, 3) := by decide +kernel
theorem d_Mo_corrupt_36 : decode prog_10_method_31_code 36 = .ok (.aload_n 0, 1) := by decide +kernel
theorem d_Mo_corrupt_37 : decode prog_10_method_31_code 37 = .ok (.getfield 46, 3) := by decide +kernel
theorem d_Mo_corrupt_40 : decode prog_10_method_31_code 40 = .ok (.ifCond .ne 10, 3) := by decide +kernel
theorem d_Mo_corrupt_43 : decode prog_10_method_31_code 43 = .ok (.aload_n 0, 1) := by decide +kernel
theorem d_Mo_corrupt_44 : decode prog_10_method_31_code 44 = .ok (.getfield 31, 3) := by decide +kernel
theorem d_Mo_corrupt_47 : decode prog_10_method_31_code 47 = .ok (.iload_n 1, 1) := by decide +kernel
theorem d_Mo_corrupt_48 : decode prog_10_method_31_code 48 = .ok (.iload_n 2, 1) := by decide +kernel
theorem d_Mo_corrupt_49 : decode prog_10_method_31_code 49 = .ok (.iastore, 1) := by decide +kernel
theorem d_Mo_corrupt_50 : decode prog_10_method_31_code 50 = .ok (.return_, 1) := by decide +kernel
theorem d_Mo_unpack_0 : decode prog_10_method_38_code 0 = .ok (.aload_n 0, 1) := by decide +kernel
theorem d_Mo_unpack_1 : decode prog_10_method_38_code 1 = .ok (.iload_n 1, 1) := by decide +kernel
theorem d_Mo_unpack_2 : decode prog_10_method_38_code 2 = .ok (.invokevirtual 142, 3) := by decide +kernel
theorem d_Mo_unpack_5 : decode prog_10_method_38_code 5 = .ok (.istore_n 2, 1) := by decide +kernel
theorem d_Mo_unpack_6 : decode prog_10_method_38_code 6 = .ok (.iload_n 2, 1) := by decide +kernel
theorem d_Mo_unpack_7 : decode prog_10_method_38_code 7 = .ok (.ifCond .ge 7, 3) := by decide +kernel
theorem d_Mo_unpack_10 : decode prog_10_method_38_code 10 = .ok (.iconst 0, 1) := by decide +kernel
theorem d_Mo_unpack_11 : decode prog_10_method_38_code 11 = .ok (.goto 8, 3) := by decide +kernel
theorem d_Mo_unpack_14 : decode prog_10_method_38_code 14 = .ok (.aload_n 0, 1) := by decide +kernel
theorem d_Mo_unpack_15 : decode prog_10_method_38_code 15 = .ok (.iload_n 2, 1) := by decide +kernel
theorem d_Mo_unpack_16 : decode prog_10_method_38_code 16 = .ok (.invokevirtual 172, 3) := by decide +kernel
theorem d_Mo_unpack_19 : decode prog_10_method_38_code 19 = .ok (.istore_n 3, 1) := by decide +kernel
theorem d_Mo_unpack_20 : decode prog_10_method_38_code 20 = .ok (.aload_n 0, 1) := by decide +kernel
theorem d_Mo_unpack_21 : decode prog_10_method_38_code 21 = .ok (.iload_n 2, 1) := by decide +kernel
theorem d_Mo_unpack_22 : decode prog_10_method_38_code 22 = .ok (.ifCond .ge 7, 3) := by decide +kernel
theorem d_Mo_unpack_25 : decode prog_10_method_38_code 25 = .ok (.iconst 1, 1) := by decide +kernel
theorem d_Mo_unpack_26 : decode prog_10_method_38_code 26 = .ok (.goto 12, 3) := by decide +kernel
theorem d_Mo_unpack_29 : decode prog_10_method_38_code 29 = .ok (.iload_n 3, 1) := by decide +kernel
theorem d_Mo_unpack_30 : decode prog_10_method_38_code 30 = .ok (.ifCond .ne 7, 3) := by decide +kernel
theorem d_Mo_unpack_33 : decode prog_10_method_38_code 33 = .ok (.iconst 2, 1) := by decide +kernel
theorem d_Mo_unpack_34 : decode prog_10_method_38_code 34 = .ok (.goto 4, 3) := by decide +kernel
theorem d_Mo_unpack_37 : decode prog_10_method_38_code 37 = .ok (.iconst 0, 1) := by decide +kernel
theorem d_Mo_unpack_38 : decode prog_10_method_38_code 38 = .ok (.putfield 46, 3) := by decide +kernel
theorem d_Mo_unpack_41 : decode prog_10_method_38_code 41 = .ok (.aload_n 0, 1) := by decide +kernel
theorem d_Mo_unpack_42 : decode prog_10_method_38_code 42 = .ok (.getfield 46, 3) := by decide +kernel
theorem d_Mo_unpack_45 : decode prog_10_method_38_code 45 = .ok (.ifCond .le 5, 3) := by decide +kernel
theorem d_Mo_unpack_48 : decode prog_10_method_38_code 48 = .ok (.iconst 0, 1) := by decide +kernel
theorem d_Mo_unpack_49 : decode prog_10_method_38_code 49 = .ok (.ireturn, 1) := by decide +kernel
theorem d_Mo_unpack_50 : decode prog_10_method_38_code 50 = .ok (.aload_n 0, 1) := by decide +kernel
theorem d_Mo_unpack_51 : decode prog_10_method_38_code 51 = .ok (.iload_n 3, 1) := by decide +kernel
theorem d_Mo_unpack_52 : decode prog_10_method_38_code 52 = .ok (.putfield 60, 3) := by decide +kernel
theorem d_Mo_unpack_55 : decode prog_10_method_38_code 55 = .ok (.iconst 0, 1) := by decide +kernel
theorem d_Mo_unpack_56 : decode prog_10_method_38_code 56 = .ok (.istore 4, 2) := by decide +kernel
theorem d_Mo_unpack_58 : decode prog_10_method_38_code 58 = .ok (.iload 4, 2) := by decide +kernel
theorem d_Mo_unpack_60 : decode prog_10_method_38_code 60 = .ok (.iload_n 3, 1) := by decide +kernel
theorem d_Mo_unpack_61 : decode prog_10_method_38_code 61 = .ok (.if_icmp .ge 23, 3) := by decide +kernel
theorem d_Mo_unpack_64 : decode prog_10_method_38_code 64 = .ok (.aload_n 0, 1) := by decide +kernel
theorem d_Mo_unpack_65 : decode prog_10_method_38_code 65 = .ok (.bipush 27, 2) := by decide +kernel
theorem d_Mo_unpack_67 : decode prog_10_method_38_code 67 = .ok (.iload 4, 2) := by decide +kernel
theorem d_Mo_unpack_69 : decode prog_10_method_38_code 69 = .ok (.iadd, 1) := by decide +kernel
theorem d_Mo_unpack_70 : decode prog_10_method_38_code 70 = .ok (.bipush 24, 2) := by decide +kernel
theorem d_Mo_unpack_72 : decode prog_10_method_38_code 72 = .ok (.iload 4, 2) := by decide +kernel
theorem d_Mo_unpack_74 : decode prog_10_method_38_code 74 = .ok (.iadd, 1) := by decide +kernel
theorem d_Mo_unpack_75 : decode prog_10_method_38_code 75 = .ok (.invokevirtual 75, 3) := by decide +kernel
theorem d_Mo_unpack_78 : decode prog_10_method_38_code 78 = .ok (.iinc 4 1, 3) := by decide +kernel
theorem d_Mo_unpack_81 : decode prog_10_method_38_code 81 = .ok (.goto (-23), 3) := by decide +kernel
theorem d_Mo_unpack_84 : decode prog_10_method_38_code 84 = .ok (.iload_n 3, 1) := by decide +kernel
theorem d_Mo_unpack_85 : decode prog_10_method_38_code 85 = .ok (.ireturn, 1) := by decide +kernel
theorem d_Mo_take_0 : decode prog_10_method_37_code 0 = .ok (.iload_n 1, 1) := by decide +kernel
theorem d_Mo_take_1 : decode prog_10_method_37_code 1 = .ok (.iconst 4, 1) := by decide +kernel
theorem d_Mo_take_2 : decode prog_10_method_37_code 2 = .ok (.iadd, 1) := by decide +kernel
theorem d_Mo_take_3 : decode prog_10_method_37_code 3 = .ok (.aload_n 0, 1) := by decide +kernel
theorem d_Mo_take_4 : decode prog_10_method_37_code 4 = .ok (.getfield 136, 3) := by decide +kernel
theorem d_Mo_take_7 : decode prog_10_method_37_code 7 = .ok (.if_icmp .lt 5, 3) := by decide +kernel
theorem d_Mo_take_10 : decode prog_10_method_37_code 10 = .ok (.iconst 0, 1) := by decide +kernel
theorem d_Mo_take_11 : decode prog_10_method_37_code 11 = .ok (.ireturn, 1) := by decide +kernel
theorem d_Mo_take_12 : decode prog_10_method_37_code 12 = .ok (.aload_n 0, 1) := by decide +kernel
theorem d_Mo_take_13 : decode prog_10_method_37_code 13 = .ok (.getfield 31, 3) := by decide +kernel
theorem d_Mo_take_16 : decode prog_10_method_37_code 16 = .ok (.iload_n 1, 1) := by decide +kernel
theorem d_Mo_take_17 : decode prog_10_method_37_code 17 = .ok (.iaload, 1) := by decide +kernel
theorem d_Mo_take_18 : decode prog_10_method_37_code 18 = .ok (.istore_n 2, 1) := by decide +kernel
theorem d_Mo_take_19 : decode prog_10_method_37_code 19 = .ok (.aload_n 0, 1) := by decide +kernel
theorem d_Mo_take_20 : decode prog_10_method_37_code 20 = .ok (.getfield 31, 3) := by decide +kernel
theorem d_Mo_take_23 : decode prog_10_method_37_code 23 = .ok (.iload_n 1, 1) := by decide +kernel
theorem d_Mo_take_24 : decode prog_10_method_37_code 24 = .ok (.iconst 2, 1) := by decide +kernel
theorem d_Mo_take_25 : decode prog_10_method_37_code 25 = .ok (.iadd, 1) := by decide +kernel
theorem d_Mo_take_26 : decode prog_10_method_37_code 26 = .ok (.iaload, 1) := by decide +kernel
theorem d_Mo_take_27 : decode prog_10_method_37_code 27 = .ok (.istore_n 3, 1) := by decide +kernel
theorem d_Mo_take_28 : decode prog_10_method_37_code 28 = .ok (.iload_n 2, 1) := by decide +kernel
theorem d_Mo_take_29 : decode prog_10_method_37_code 29 = .ok (.iconst 1, 1) := by decide +kernel
theorem d_Mo_take_30 : decode prog_10_method_37_code 30 = .ok (.if_icmp .lt 20, 3) := by decide +kernel
theorem d_Mo_take_33 : decode prog_10_method_37_code 33 = .ok (.iload_n 2, 1) := by decide +kernel
theorem d_Mo_take_34 : decode prog_10_method_37_code 34 = .ok (.iconst 3, 1) := by decide +kernel
theorem d_Mo_take_35 : decode prog_10_method_37_code 35 = .ok (.if_icmp .gt 15, 3) := by decide +kernel
theorem d_Mo_take_38 : decode prog_10_method_37_code 38 = .ok (.iload_n 1, 1) := by decide +kernel
theorem d_Mo_take_39 : decode prog_10_method_37_code 39 = .ok (.iconst 5, 1) := by decide +kernel
theorem d_Mo_take_40 : decode prog_10_method_37_code 40 = .ok (.iadd, 1) := by decide +kernel
theorem d_Mo_take_41 : decode prog_10_method_37_code 41 = .ok (.iload_n 3, 1) := by decide +kernel
theorem d_Mo_take_42 : decode prog_10_method_37_code 42 = .ok (.iadd, 1) := by decide +kernel
theorem d_Mo_take_43 : decode prog_10_method_37_code 43 = .ok (.aload_n 0, 1) := by decide +kernel
theorem d_Mo_take_44 : decode prog_10_method_37_code 44 = .ok (.getfield 136, 3) := by decide +kernel
theorem d_Mo_take_47 : decode prog_10_method_37_code 47 = .ok (.if_icmp .le 5, 3) := by decide +kernel
theorem d_Mo_take_50 : decode prog_10_method_37_code 50 = .ok (.iconst 0, 1) := by decide +kernel
theorem d_Mo_take_51 : decode prog_10_method_37_code 51 = .ok (.ireturn, 1) := by decide +kernel
theorem d_Mo_take_52 : decode prog_10_method_37_code 52 = .ok (.aload_n 0, 1) := by decide +kernel
theorem d_Mo_take_53 : decode prog_10_method_37_code 53 = .ok (.invokevirtual 122, 3) := by decide +kernel
theorem d_Mo_take_56 : decode prog_10_method_37_code 56 = .ok (.aload_n 0, 1) := by decide +kernel
theorem d_Mo_take_57 : decode prog_10_method_37_code 57 = .ok (.iload_n 1, 1) := by decide +kernel
theorem d_Mo_take_58 : decode prog_10_method_37_code 58 = .ok (.iconst 3, 1) := by decide +kernel
theorem d_Mo_take_59 : decode prog_10_method_37_code 59 = .ok (.iadd, 1) := by decide +kernel
theorem d_Mo_take_60 : decode prog_10_method_37_code 60 = .ok (.putfield 146, 3) := by decide +kernel
theorem d_Mo_take_63 : decode prog_10_method_37_code 63 = .ok (.aload_n 0, 1) := by decide +kernel
theorem d_Mo_take_64 : decode prog_10_method_37_code 64 = .ok (.aload_n 0, 1) := by decide +kernel
theorem d_Mo_take_65 : decode prog_10_method_37_code 65 = .ok (.getfield 146, 3) := by decide +kernel
theorem d_Mo_take_68 : decode prog_10_method_37_code 68 = .ok (.iload_n 3, 1) := by decide +kernel
theorem d_Mo_take_69 : decode prog_10_method_37_code 69 = .ok (.iadd, 1) := by decide +kernel
theorem d_Mo_take_70 : decode prog_10_method_37_code 70 = .ok (.putfield 149, 3) := by decide +kernel
theorem d_Mo_take_73 : decode prog_10_method_37_code 73 = .ok (.aload_n 0, 1) := by decide +kernel
theorem d_Mo_take_74 : decode prog_10_method_37_code 74 = .ok (.lconst 0, 1) := by decide +kernel
theorem d_Mo_take_75 : decode prog_10_method_37_code 75 = .ok (.putfield 152, 3) := by decide +kernel
theorem d_Mo_take_78 : decode prog_10_method_37_code 78 = .ok (.iconst 0, 1) := by decide +kernel
theorem d_Mo_take_79 : decode prog_10_method_37_code 79 = .ok (.istore 4, 2) := by decide +kernel
theorem d_Mo_take_81 : decode prog_10_method_37_code 81 = .ok (.iload 4, 2) := by decide +kernel
theorem d_Mo_take_83 : decode prog_10_method_37_code 83 = .ok (.iconst 4, 1) := by decide +kernel
theorem d_Mo_take_84 : decode prog_10_method_37_code 84 = .ok (.if_icmp .ge 27, 3) := by decide +kernel
theorem d_Mo_take_87 : decode prog_10_method_37_code 87 = .ok (.aload_n 0, 1) := by decide +kernel
theorem d_Mo_take_88 : decode prog_10_method_37_code 88 = .ok (.aload_n 0, 1) := by decide +kernel
theorem d_Mo_take_89 : decode prog_10_method_37_code 89 = .ok (.getfield 152, 3) := by decide +kernel
theorem d_Mo_take_92 : decode prog_10_method_37_code 92 = .ok (.ldc2_w 106, 3) := by decide +kernel
theorem d_Mo_take_95 : decode prog_10_method_37_code 95 = .ok (.lmul, 1) := by decide +kernel
theorem d_Mo_take_96 : decode prog_10_method_37_code 96 = .ok (.aload_n 0, 1) := by decide +kernel
theorem d_Mo_take_97 : decode prog_10_method_37_code 97 = .ok (.invokevirtual 155, 3) := by decide +kernel
theorem d_Mo_take_100 : decode prog_10_method_37_code 100 = .ok (.i2l, 1) := by decide +kernel
theorem d_Mo_take_101 : decode prog_10_method_37_code 101 = .ok (.ladd, 1) := by decide +kernel
theorem d_Mo_take_102 : decode prog_10_method_37_code 102 = .ok (.putfield 152, 3) := by decide +kernel
theorem d_Mo_take_105 : decode prog_10_method_37_code 105 = .ok (.iinc 4 1, 3) := by decide +kernel
theorem d_Mo_take_108 : decode prog_10_method_37_code 108 = .ok (.goto (-27), 3) := by decide +kernel
theorem d_Mo_take_111 : decode prog_10_method_37_code 111 = .ok (.aload_n 0, 1) := by decide +kernel
theorem d_Mo_take_112 : decode prog_10_method_37_code 112 = .ok (.getfield 31, 3) := by decide +kernel
theorem d_Mo_take_115 : decode prog_10_method_37_code 115 = .ok (.iload_n 1, 1) := by decide +kernel
theorem d_Mo_take_116 : decode prog_10_method_37_code 116 = .ok (.iconst 1, 1) := by decide +kernel
theorem d_Mo_take_117 : decode prog_10_method_37_code 117 = .ok (.iadd, 1) := by decide +kernel
theorem d_Mo_take_118 : decode prog_10_method_37_code 118 = .ok (.iaload, 1) := by decide +kernel
theorem d_Mo_take_119 : decode prog_10_method_37_code 119 = .ok (.istore 4, 2) := by decide +kernel
theorem d_Mo_take_121 : decode prog_10_method_37_code 121 = .ok (.iconst 0, 1) := by decide +kernel
theorem d_Mo_take_122 : decode prog_10_method_37_code 122 = .ok (.istore 5, 2) := by decide +kernel
theorem d_Mo_take_124 : decode prog_10_method_37_code 124 = .ok (.iload 5, 2) := by decide +kernel
theorem d_Mo_take_126 : decode prog_10_method_37_code 126 = .ok (.iload_n 2, 1) := by decide +kernel
theorem d_Mo_take_127 : decode prog_10_method_37_code 127 = .ok (.if_icmp .ge 49, 3) := by decide +kernel
theorem d_Mo_take_130 : decode prog_10_method_37_code 130 = .ok (.aload_n 0, 1) := by decide +kernel
theorem d_Mo_take_131 : decode prog_10_method_37_code 131 = .ok (.bipush 27, 2) := by decide +kernel
theorem d_Mo_take_133 : decode prog_10_method_37_code 133 = .ok (.iload 5, 2) := by decide +kernel
theorem d_Mo_take_135 : decode prog_10_method_37_code 135 = .ok (.iadd, 1) := by decide +kernel
theorem d_Mo_take_136 : decode prog_10_method_37_code 136 = .ok (.iload 4, 2) := by decide +kernel
theorem d_Mo_take_138 : decode prog_10_method_37_code 138 = .ok (.invokevirtual 168, 3) := by decide +kernel
theorem d_Mo_take_141 : decode prog_10_method_37_code 141 = .ok (.ifCond .ne 5, 3) := by decide +kernel
theorem d_Mo_take_144 : decode prog_10_method_37_code 144 = .ok (.iconst 0, 1) := by decide +kernel
theorem d_Mo_take_145 : decode prog_10_method_37_code 145 = .ok (.ireturn, 1) := by decide +kernel
theorem d_Mo_take_146 : decode prog_10_method_37_code 146 = .ok (.aload_n 0, 1) := by decide +kernel
theorem d_Mo_take_147 : decode prog_10_method_37_code 147 = .ok (.getfield 13, 3) := by decide +kernel
theorem d_Mo_take_150 : decode prog_10_method_37_code 150 = .ok (.bipush 27, 2) := by decide +kernel
theorem d_Mo_take_152 : decode prog_10_method_37_code 152 = .ok (.iload 5, 2) := by decide +kernel
theorem d_Mo_take_154 : decode prog_10_method_37_code 154 = .ok (.iadd, 1) := by decide +kernel
theorem d_Mo_take_155 : decode prog_10_method_37_code 155 = .ok (.iaload, 1) := by decide +kernel
theorem d_Mo_take_156 : decode prog_10_method_37_code 156 = .ok (.istore 4, 2) := by decide +kernel
theorem d_Mo_take_158 : decode prog_10_method_37_code 158 = .ok (.aload_n 0, 1) := by decide +kernel
theorem d_Mo_take_159 : decode prog_10_method_37_code 159 = .ok (.getfield 43, 3) := by decide +kernel
theorem d_Mo_take_162 : decode prog_10_method_37_code 162 = .ok (.iload 5, 2) := by decide +kernel
theorem d_Mo_take_164 : decode prog_10_method_37_code 164 = .ok (.bipush 27, 2) := by decide +kernel
theorem d_Mo_take_166 : decode prog_10_method_37_code 166 = .ok (.iload 5, 2) := by decide +kernel
theorem d_Mo_take_168 : decode prog_10_method_37_code 168 = .ok (.iadd, 1) := by decide +kernel
theorem d_Mo_take_169 : decode prog_10_method_37_code 169 = .ok (.iastore, 1) := by decide +kernel
theorem d_Mo_take_170 : decode prog_10_method_37_code 170 = .ok (.iinc 5 1, 3) := by decide +kernel
theorem d_Mo_take_173 : decode prog_10_method_37_code 173 = .ok (.goto (-49), 3) := by decide +kernel
theorem d_Mo_take_176 : decode prog_10_method_37_code 176 = .ok (.aload_n 0, 1) := by decide +kernel
theorem d_Mo_take_177 : decode prog_10_method_37_code 177 = .ok (.iconst 0, 1) := by decide +kernel
theorem d_Mo_take_178 : decode prog_10_method_37_code 178 = .ok (.iload_n 2, 1) := by decide +kernel
theorem d_Mo_take_179 : decode prog_10_method_37_code 179 = .ok (.invokevirtual 139, 3) := by decide +kernel
theorem d_Mo_take_182 : decode prog_10_method_37_code 182 = .ok (.aload_n 0, 1) := by decide +kernel
theorem d_Mo_take_183 : decode prog_10_method_37_code 183 = .ok (.getfield 119, 3) := by decide +kernel
theorem d_Mo_take_186 : decode prog_10_method_37_code 186 = .ok (.iconst 5, 1) := by decide +kernel
theorem d_Mo_take_187 : decode prog_10_method_37_code 187 = .ok (.iload_n 3, 1) := by decide +kernel
theorem d_Mo_take_188 : decode prog_10_method_37_code 188 = .ok (.iadd, 1) := by decide +kernel
theorem d_Mo_take_189 : decode prog_10_method_37_code 189 = .ok (.if_icmp .ne 7, 3) := by decide +kernel
theorem d_Mo_take_192 : decode prog_10_method_37_code 192 = .ok (.iconst 1, 1) := by decide +kernel
theorem d_Mo_take_193 : decode prog_10_method_37_code 193 = .ok (.goto 4, 3) := by decide +kernel
theorem d_Mo_take_196 : decode prog_10_method_37_code 196 = .ok (.iconst 0, 1) := by decide +kernel
theorem d_Mo_take_197 : decode prog_10_method_37_code 197 = .ok (.istore 5, 2) := by decide +kernel
theorem d_Mo_take_199 : decode prog_10_method_37_code 199 = .ok (.iconst 0, 1) := by decide +kernel
theorem d_Mo_take_200 : decode prog_10_method_37_code 200 = .ok (.istore 6, 2) := by decide +kernel
theorem d_Mo_take_202 : decode prog_10_method_37_code 202 = .ok (.iload 6, 2) := by decide +kernel
theorem d_Mo_take_204 : decode prog_10_method_37_code 204 = .ok (.aload_n 0, 1) := by decide +kernel
theorem d_Mo_take_205 : decode prog_10_method_37_code 205 = .ok (.getfield 119, 3) := by decide +kernel
theorem d_Mo_take_208 : decode prog_10_method_37_code 208 = .ok (.if_icmp .ge 40, 3) := by decide +kernel
theorem d_Mo_take_211 : decode prog_10_method_37_code 211 = .ok (.iload 5, 2) := by decide +kernel
theorem d_Mo_take_213 : decode prog_10_method_37_code 213 = .ok (.ifCond .eq 35, 3) := by decide +kernel
theorem d_Mo_take_216 : decode prog_10_method_37_code 216 = .ok (.aload_n 0, 1) := by decide +kernel
theorem d_Mo_take_217 : decode prog_10_method_37_code 217 = .ok (.getfield 40, 3) := by decide +kernel
theorem d_Mo_take_220 : decode prog_10_method_37_code 220 = .ok (.iload 6, 2) := by decide +kernel
theorem d_Mo_take_222 : decode prog_10_method_37_code 222 = .ok (.iaload, 1) := by decide +kernel
theorem d_Mo_take_223 : decode prog_10_method_37_code 223 = .ok (.aload_n 0, 1) := by decide +kernel
theorem d_Mo_take_224 : decode prog_10_method_37_code 224 = .ok (.getfield 31, 3) := by decide +kernel
theorem d_Mo_take_227 : decode prog_10_method_37_code 227 = .ok (.iload_n 1, 1) := by decide +kernel
theorem d_Mo_take_228 : decode prog_10_method_37_code 228 = .ok (.iload 6, 2) := by decide +kernel
theorem d_Mo_take_230 : decode prog_10_method_37_code 230 = .ok (.iadd, 1) := by decide +kernel
theorem d_Mo_take_231 : decode prog_10_method_37_code 231 = .ok (.iaload, 1) := by decide +kernel
theorem d_Mo_take_232 : decode prog_10_method_37_code 232 = .ok (.if_icmp .ne 7, 3) := by decide +kernel
theorem d_Mo_take_235 : decode prog_10_method_37_code 235 = .ok (.iconst 1, 1) := by decide +kernel
theorem d_Mo_take_236 : decode prog_10_method_37_code 236 = .ok (.goto 4, 3) := by decide +kernel
theorem d_Mo_take_239 : decode prog_10_method_37_code 239 = .ok (.iconst 0, 1) := by decide +kernel
theorem d_Mo_take_240 : decode prog_10_method_37_code 240 = .ok (.istore 5, 2) := by decide +kernel
theorem d_Mo_take_242 : decode prog_10_method_37_code 242 = .ok (.iinc 6 1, 3) := by decide +kernel
theorem d_Mo_take_245 : decode prog_10_method_37_code 245 = .ok (.goto (-43), 3) := by decide +kernel
theorem d_Mo_take_248 : decode prog_10_method_37_code 248 = .ok (.iload 5, 2) := by decide +kernel
theorem d_Mo_take_250 : decode prog_10_method_37_code 250 = .ok (.ifCond .eq 7, 3) := by decide +kernel
theorem d_Mo_take_253 : decode prog_10_method_37_code 253 = .ok (.iload_n 2, 1) := by decide +kernel
theorem d_Mo_take_254 : decode prog_10_method_37_code 254 = .ok (.goto 4, 3) := by decide +kernel
theorem d_Mo_take_257 : decode prog_10_method_37_code 257 = .ok (.iconst 0, 1) := by decide +kernel
theorem d_Mo_take_258 : decode prog_10_method_37_code 258 = .ok (.ireturn, 1) := by decide +kernel
theorem d_Mo_nextByte_0 : decode prog_10_method_32_code 0 = .ok (.aload_n 0, 1) := by decide +kernel
theorem d_Mo_nextByte_1 : decode prog_10_method_32_code 1 = .ok (.getfield 146, 3) := by decide +kernel
theorem d_Mo_nextByte_4 : decode prog_10_method_32_code 4 = .ok (.aload_n 0, 1) := by decide +kernel
theorem d_Mo_nextByte_5 : decode prog_10_method_32_code 5 = .ok (.getfield 149, 3) := by decide +kernel
theorem d_Mo_nextByte_8 : decode prog_10_method_32_code 8 = .ok (.if_icmp .ge 15, 3) := by decide +kernel
theorem d_Mo_nextByte_11 : decode prog_10_method_32_code 11 = .ok (.aload_n 0, 1) := by decide +kernel
theorem d_Mo_nextByte_12 : decode prog_10_method_32_code 12 = .ok (.getfield 31, 3) := by decide +kernel
theorem d_Mo_nextByte_15 : decode prog_10_method_32_code 15 = .ok (.aload_n 0, 1) := by decide +kernel
theorem d_Mo_nextByte_16 : decode prog_10_method_32_code 16 = .ok (.getfield 146, 3) := by decide +kernel
theorem d_Mo_nextByte_19 : decode prog_10_method_32_code 19 = .ok (.iaload, 1) := by decide +kernel
theorem d_Mo_nextByte_20 : decode prog_10_method_32_code 20 = .ok (.goto 4, 3) := by decide +kernel
theorem d_Mo_nextByte_23 : decode prog_10_method_32_code 23 = .ok (.iconst 0, 1) := by decide +kernel
theorem d_Mo_nextByte_24 : decode prog_10_method_32_code 24 = .ok (.istore_n 1, 1) := by decide +kernel
theorem d_Mo_nextByte_25 : decode prog_10_method_32_code 25 = .ok (.aload_n 0, 1) := by decide +kernel
theorem d_Mo_nextByte_26 : decode prog_10_method_32_code 26 = .ok (.dup, 1) := by decide +kernel
theorem d_Mo_nextByte_27 : decode prog_10_method_32_code 27 = .ok (.getfield 146, 3) := by decide +kernel
theorem d_Mo_nextByte_30 : decode prog_10_method_32_code 30 = .ok (.iconst 1, 1) := by decide +kernel
theorem d_Mo_nextByte_31 : decode prog_10_method_32_code 31 = .ok (.iadd, 1) := by decide +kernel
theorem d_Mo_nextByte_32 : decode prog_10_method_32_code 32 = .ok (.putfield 146, 3) := by decide +kernel
theorem d_Mo_nextByte_35 : decode prog_10_method_32_code 35 = .ok (.iload_n 1, 1) := by decide +kernel
theorem d_Mo_nextByte_36 : decode prog_10_method_32_code 36 = .ok (.ireturn, 1) := by decide +kernel
theorem d_Mo_takeRead_0 : decode prog_10_method_36_code 0 = .ok (.iload_n 2, 1) := by decide +kernel
theorem d_Mo_takeRead_1 : decode prog_10_method_36_code 1 = .ok (.aload_n 0, 1) := by decide +kernel
theorem d_Mo_takeRead_2 : decode prog_10_method_36_code 2 = .ok (.iconst 0, 1) := by decide +kernel
theorem d_Mo_takeRead_3 : decode prog_10_method_36_code 3 = .ok (.invokevirtual 162, 3) := by decide +kernel
theorem d_Mo_takeRead_6 : decode prog_10_method_36_code 6 = .ok (.iadd, 1) := by decide +kernel
theorem d_Mo_takeRead_7 : decode prog_10_method_36_code 7 = .ok (.istore_n 3, 1) := by decide +kernel
theorem d_Mo_takeRead_8 : decode prog_10_method_36_code 8 = .ok (.iload_n 3, 1) := by decide +kernel
theorem d_Mo_takeRead_9 : decode prog_10_method_36_code 9 = .ok (.aload_n 0, 1) := by decide +kernel
theorem d_Mo_takeRead_10 : decode prog_10_method_36_code 10 = .ok (.getfield 57, 3) := by decide +kernel
theorem d_Mo_takeRead_13 : decode prog_10_method_36_code 13 = .ok (.if_icmp .le 5, 3) := by decide +kernel
theorem d_Mo_takeRead_16 : decode prog_10_method_36_code 16 = .ok (.iconst 0, 1) := by decide +kernel
theorem d_Mo_takeRead_17 : decode prog_10_method_36_code 17 = .ok (.ireturn, 1) := by decide +kernel
theorem d_Mo_takeRead_18 : decode prog_10_method_36_code 18 = .ok (.aload_n 0, 1) := by decide +kernel
theorem d_Mo_takeRead_19 : decode prog_10_method_36_code 19 = .ok (.iload_n 1, 1) := by decide +kernel
theorem d_Mo_takeRead_20 : decode prog_10_method_36_code 20 = .ok (.iload_n 3, 1) := by decide +kernel
theorem d_Mo_takeRead_21 : decode prog_10_method_36_code 21 = .ok (.invokevirtual 63, 3) := by decide +kernel
theorem d_Mo_takeRead_24 : decode prog_10_method_36_code 24 = .ok (.iconst 4, 1) := by decide +kernel
theorem d_Mo_takeRead_25 : decode prog_10_method_36_code 25 = .ok (.istore 4, 2) := by decide +kernel
theorem d_Mo_takeRead_27 : decode prog_10_method_36_code 27 = .ok (.aload_n 0, 1) := by decide +kernel
theorem d_Mo_takeRead_28 : decode prog_10_method_36_code 28 = .ok (.iload 4, 2) := by decide +kernel
theorem d_Mo_takeRead_30 : decode prog_10_method_36_code 30 = .ok (.invokevirtual 165, 3) := by decide +kernel
theorem d_Mo_takeRead_33 : decode prog_10_method_36_code 33 = .ok (.istore 5, 2) := by decide +kernel
theorem d_Mo_takeRead_35 : decode prog_10_method_36_code 35 = .ok (.iload 5, 2) := by decide +kernel
theorem d_Mo_takeRead_37 : decode prog_10_method_36_code 37 = .ok (.iconst 4, 1) := by decide +kernel
theorem d_Mo_takeRead_38 : decode prog_10_method_36_code 38 = .ok (.if_icmp .eq 203, 3) := by decide +kernel
theorem d_Mo_takeRead_41 : decode prog_10_method_36_code 41 = .ok (.iconst 0, 1) := by decide +kernel
theorem d_Mo_takeRead_42 : decode prog_10_method_36_code 42 = .ok (.istore 6, 2) := by decide +kernel
theorem d_Mo_takeRead_44 : decode prog_10_method_36_code 44 = .ok (.iload 5, 2) := by decide +kernel
theorem d_Mo_takeRead_46 : decode prog_10_method_36_code 46 = .ok (.ifCond .eq 9, 3) := by decide +kernel
theorem d_Mo_takeRead_49 : decode prog_10_method_36_code 49 = .ok (.iload 5, 2) := by decide +kernel
theorem d_Mo_takeRead_51 : decode prog_10_method_36_code 51 = .ok (.iconst 3, 1) := by decide +kernel
theorem d_Mo_takeRead_52 : decode prog_10_method_36_code 52 = .ok (.if_icmp .ne 30, 3) := by decide +kernel
theorem d_Mo_takeRead_55 : decode prog_10_method_36_code 55 = .ok (.aload_n 0, 1) := by decide +kernel
theorem d_Mo_takeRead_56 : decode prog_10_method_36_code 56 = .ok (.iload 5, 2) := by decide +kernel
theorem d_Mo_takeRead_58 : decode prog_10_method_36_code 58 = .ok (.ifCond .ne 7, 3) := by decide +kernel
theorem d_Mo_takeRead_61 : decode prog_10_method_36_code 61 = .ok (.iconst 1, 1) := by decide +kernel
theorem d_Mo_takeRead_62 : decode prog_10_method_36_code 62 = .ok (.goto 4, 3) := by decide +kernel
theorem d_Mo_takeRead_65 : decode prog_10_method_36_code 65 = .ok (.iconst 2, 1) := by decide +kernel
theorem d_Mo_takeRead_66 : decode prog_10_method_36_code 66 = .ok (.invokevirtual 162, 3) := by decide +kernel
theorem d_Mo_takeRead_69 : decode prog_10_method_36_code 69 = .ok (.iconst 1, 1) := by decide +kernel
theorem d_Mo_takeRead_70 : decode prog_10_method_36_code 70 = .ok (.iadd, 1) := by decide +kernel
theorem d_Mo_takeRead_71 : decode prog_10_method_36_code 71 = .ok (.istore 6, 2) := by decide +kernel
theorem d_Mo_takeRead_73 : decode prog_10_method_36_code 73 = .ok (.iload 5, 2) := by decide +kernel
theorem d_Mo_takeRead_75 : decode prog_10_method_36_code 75 = .ok (.iload 4, 2) := by decide +kernel
theorem d_Mo_takeRead_77 : decode prog_10_method_36_code 77 = .ok (.if_icmp .ne 126, 3) := by decide +kernel
theorem d_Mo_takeRead_80 : decode prog_10_method_36_code 80 = .ok (.iconst 0, 1) := by decide +kernel
theorem d_Mo_takeRead_81 : decode prog_10_method_36_code 81 = .ok (.ireturn, 1) := by decide +kernel
theorem d_Mo_takeRead_82 : decode prog_10_method_36_code 82 = .ok (.iload 5, 2) := by decide +kernel
theorem d_Mo_takeRead_84 : decode prog_10_method_36_code 84 = .ok (.iconst 1, 1) := by decide +kernel
theorem d_Mo_takeRead_85 : decode prog_10_method_36_code 85 = .ok (.if_icmp .ne 94, 3) := by decide +kernel
theorem d_Mo_takeRead_88 : decode prog_10_method_36_code 88 = .ok (.aload_n 0, 1) := by decide +kernel
theorem d_Mo_takeRead_89 : decode prog_10_method_36_code 89 = .ok (.getfield 13, 3) := by decide +kernel
theorem d_Mo_takeRead_92 : decode prog_10_method_36_code 92 = .ok (.iload_n 1, 1) := by decide +kernel
theorem d_Mo_takeRead_93 : decode prog_10_method_36_code 93 = .ok (.iaload, 1) := by decide +kernel
theorem d_Mo_takeRead_94 : decode prog_10_method_36_code 94 = .ok (.aload_n 0, 1) := by decide +kernel
theorem d_Mo_takeRead_95 : decode prog_10_method_36_code 95 = .ok (.getfield 22, 3) := by decide +kernel
theorem d_Mo_takeRead_98 : decode prog_10_method_36_code 98 = .ok (.iload_n 1, 1) := by decide +kernel
theorem d_Mo_takeRead_99 : decode prog_10_method_36_code 99 = .ok (.iaload, 1) := by decide +kernel
theorem d_Mo_takeRead_100 : decode prog_10_method_36_code 100 = .ok (.iadd, 1) := by decide +kernel
theorem d_Mo_takeRead_101 : decode prog_10_method_36_code 101 = .ok (.istore 7, 2) := by decide +kernel
theorem d_Mo_takeRead_103 : decode prog_10_method_36_code 103 = .ok (.iload 7, 2) := by decide +kernel
theorem d_Mo_takeRead_105 : decode prog_10_method_36_code 105 = .ok (.aload_n 0, 1) := by decide +kernel
theorem d_Mo_takeRead_106 : decode prog_10_method_36_code 106 = .ok (.getfield 57, 3) := by decide +kernel
theorem d_Mo_takeRead_109 : decode prog_10_method_36_code 109 = .ok (.if_icmp .lt 5, 3) := by decide +kernel
theorem d_Mo_takeRead_112 : decode prog_10_method_36_code 112 = .ok (.iconst 0, 1) := by decide +kernel
theorem d_Mo_takeRead_113 : decode prog_10_method_36_code 113 = .ok (.ireturn, 1) := by decide +kernel
theorem d_Mo_takeRead_114 : decode prog_10_method_36_code 114 = .ok (.aload_n 0, 1) := by decide +kernel
theorem d_Mo_takeRead_115 : decode prog_10_method_36_code 115 = .ok (.getfield 7, 3) := by decide +kernel
theorem d_Mo_takeRead_118 : decode prog_10_method_36_code 118 = .ok (.iload 7, 2) := by decide +kernel
theorem d_Mo_takeRead_120 : decode prog_10_method_36_code 120 = .ok (.iaload, 1) := by decide +kernel
theorem d_Mo_takeRead_121 : decode prog_10_method_36_code 121 = .ok (.istore 8, 2) := by decide +kernel
theorem d_Mo_takeRead_123 : decode prog_10_method_36_code 123 = .ok (.aload_n 0, 1) := by decide +kernel
theorem d_Mo_takeRead_124 : decode prog_10_method_36_code 124 = .ok (.bipush 47, 2) := by decide +kernel
theorem d_Mo_takeRead_126 : decode prog_10_method_36_code 126 = .ok (.iconst 2, 1) := by decide +kernel
theorem d_Mo_takeRead_127 : decode prog_10_method_36_code 127 = .ok (.iload 8, 2) := by decide +kernel
theorem d_Mo_takeRead_129 : decode prog_10_method_36_code 129 = .ok (.imul, 1) := by decide +kernel
theorem d_Mo_takeRead_130 : decode prog_10_method_36_code 130 = .ok (.iadd, 1) := by decide +kernel
theorem d_Mo_takeRead_131 : decode prog_10_method_36_code 131 = .ok (.invokevirtual 159, 3) := by decide +kernel
theorem d_Mo_takeRead_134 : decode prog_10_method_36_code 134 = .ok (.ifCond .ne 7, 3) := by decide +kernel
theorem d_Mo_takeRead_137 : decode prog_10_method_36_code 137 = .ok (.iconst 0, 1) := by decide +kernel
theorem d_Mo_takeRead_138 : decode prog_10_method_36_code 138 = .ok (.goto 18, 3) := by decide +kernel
theorem d_Mo_takeRead_141 : decode prog_10_method_36_code 141 = .ok (.iconst 1, 1) := by decide +kernel
theorem d_Mo_takeRead_142 : decode prog_10_method_36_code 142 = .ok (.aload_n 0, 1) := by decide +kernel
theorem d_Mo_takeRead_143 : decode prog_10_method_36_code 143 = .ok (.bipush 47, 2) := by decide +kernel
theorem d_Mo_takeRead_145 : decode prog_10_method_36_code 145 = .ok (.iconst 2, 1) := by decide +kernel
theorem d_Mo_takeRead_146 : decode prog_10_method_36_code 146 = .ok (.iload 8, 2) := by decide +kernel
theorem d_Mo_takeRead_148 : decode prog_10_method_36_code 148 = .ok (.imul, 1) := by decide +kernel
theorem d_Mo_takeRead_149 : decode prog_10_method_36_code 149 = .ok (.iadd, 1) := by decide +kernel
theorem d_Mo_takeRead_150 : decode prog_10_method_36_code 150 = .ok (.iconst 1, 1) := by decide +kernel
theorem d_Mo_takeRead_151 : decode prog_10_method_36_code 151 = .ok (.iadd, 1) := by decide +kernel
theorem d_Mo_takeRead_152 : decode prog_10_method_36_code 152 = .ok (.invokevirtual 159, 3) := by decide +kernel
theorem d_Mo_takeRead_155 : decode prog_10_method_36_code 155 = .ok (.iadd, 1) := by decide +kernel
theorem d_Mo_takeRead_156 : decode prog_10_method_36_code 156 = .ok (.istore 9, 2) := by decide +kernel
theorem d_Mo_takeRead_158 : decode prog_10_method_36_code 158 = .ok (.iload 9, 2) := by decide +kernel
theorem d_Mo_takeRead_160 : decode prog_10_method_36_code 160 = .ok (.iload 8, 2) := by decide +kernel
theorem d_Mo_takeRead_162 : decode prog_10_method_36_code 162 = .ok (.if_icmp .ge 8, 3) := by decide +kernel
theorem d_Mo_takeRead_165 : decode prog_10_method_36_code 165 = .ok (.iload 9, 2) := by decide +kernel
theorem d_Mo_takeRead_167 : decode prog_10_method_36_code 167 = .ok (.goto 7, 3) := by decide +kernel
theorem d_Mo_takeRead_170 : decode prog_10_method_36_code 170 = .ok (.iload 9, 2) := by decide +kernel
theorem d_Mo_takeRead_172 : decode prog_10_method_36_code 172 = .ok (.iconst 1, 1) := by decide +kernel
theorem d_Mo_takeRead_173 : decode prog_10_method_36_code 173 = .ok (.iadd, 1) := by decide +kernel
theorem d_Mo_takeRead_174 : decode prog_10_method_36_code 174 = .ok (.istore 6, 2) := by decide +kernel
theorem d_Mo_takeRead_176 : decode prog_10_method_36_code 176 = .ok (.goto 27, 3) := by decide +kernel
theorem d_Mo_takeRead_179 : decode prog_10_method_36_code 179 = .ok (.aload_n 0, 1) := by decide +kernel
theorem d_Mo_takeRead_180 : decode prog_10_method_36_code 180 = .ok (.bipush 55, 2) := by decide +kernel
theorem d_Mo_takeRead_182 : decode prog_10_method_36_code 182 = .ok (.invokevirtual 159, 3) := by decide +kernel
theorem d_Mo_takeRead_185 : decode prog_10_method_36_code 185 = .ok (.istore 6, 2) := by decide +kernel
theorem d_Mo_takeRead_187 : decode prog_10_method_36_code 187 = .ok (.iconst 2, 1) := by decide +kernel
theorem d_Mo_takeRead_188 : decode prog_10_method_36_code 188 = .ok (.iload 6, 2) := by decide +kernel
theorem d_Mo_takeRead_190 : decode prog_10_method_36_code 190 = .ok (.imul, 1) := by decide +kernel
theorem d_Mo_takeRead_191 : decode prog_10_method_36_code 191 = .ok (.aload_n 0, 1) := by decide +kernel
theorem d_Mo_takeRead_192 : decode prog_10_method_36_code 192 = .ok (.bipush 56, 2) := by decide +kernel
theorem d_Mo_takeRead_194 : decode prog_10_method_36_code 194 = .ok (.iload 6, 2) := by decide +kernel
theorem d_Mo_takeRead_196 : decode prog_10_method_36_code 196 = .ok (.iadd, 1) := by decide +kernel
theorem d_Mo_takeRead_197 : decode prog_10_method_36_code 197 = .ok (.invokevirtual 159, 3) := by decide +kernel
theorem d_Mo_takeRead_200 : decode prog_10_method_36_code 200 = .ok (.iadd, 1) := by decide +kernel
theorem d_Mo_takeRead_201 : decode prog_10_method_36_code 201 = .ok (.istore 6, 2) := by decide +kernel
theorem d_Mo_takeRead_203 : decode prog_10_method_36_code 203 = .ok (.aload_n 0, 1) := by decide +kernel
theorem d_Mo_takeRead_204 : decode prog_10_method_36_code 204 = .ok (.iload_n 1, 1) := by decide +kernel
theorem d_Mo_takeRead_205 : decode prog_10_method_36_code 205 = .ok (.iload 5, 2) := by decide +kernel
theorem d_Mo_takeRead_207 : decode prog_10_method_36_code 207 = .ok (.iload 6, 2) := by decide +kernel
theorem d_Mo_takeRead_209 : decode prog_10_method_36_code 209 = .ok (.invokevirtual 67, 3) := by decide +kernel
theorem d_Mo_takeRead_212 : decode prog_10_method_36_code 212 = .ok (.ifCond .le 5, 3) := by decide +kernel
theorem d_Mo_takeRead_215 : decode prog_10_method_36_code 215 = .ok (.iconst 0, 1) := by decide +kernel
theorem d_Mo_takeRead_216 : decode prog_10_method_36_code 216 = .ok (.ireturn, 1) := by decide +kernel
theorem d_Mo_takeRead_217 : decode prog_10_method_36_code 217 = .ok (.aload_n 0, 1) := by decide +kernel
theorem d_Mo_takeRead_218 : decode prog_10_method_36_code 218 = .ok (.iload_n 1, 1) := by decide +kernel
theorem d_Mo_takeRead_219 : decode prog_10_method_36_code 219 = .ok (.iload 5, 2) := by decide +kernel
theorem d_Mo_takeRead_221 : decode prog_10_method_36_code 221 = .ok (.iload 6, 2) := by decide +kernel
theorem d_Mo_takeRead_223 : decode prog_10_method_36_code 223 = .ok (.invokevirtual 71, 3) := by decide +kernel
theorem d_Mo_takeRead_226 : decode prog_10_method_36_code 226 = .ok (.iload 5, 2) := by decide +kernel
theorem d_Mo_takeRead_228 : decode prog_10_method_36_code 228 = .ok (.istore 4, 2) := by decide +kernel
theorem d_Mo_takeRead_230 : decode prog_10_method_36_code 230 = .ok (.aload_n 0, 1) := by decide +kernel
theorem d_Mo_takeRead_231 : decode prog_10_method_36_code 231 = .ok (.iload 4, 2) := by decide +kernel
theorem d_Mo_takeRead_233 : decode prog_10_method_36_code 233 = .ok (.invokevirtual 165, 3) := by decide +kernel
theorem d_Mo_takeRead_236 : decode prog_10_method_36_code 236 = .ok (.istore 5, 2) := by decide +kernel
theorem d_Mo_takeRead_238 : decode prog_10_method_36_code 238 = .ok (.goto (-203), 3) := by decide +kernel
theorem d_Mo_takeRead_241 : decode prog_10_method_36_code 241 = .ok (.aload_n 0, 1) := by decide +kernel
theorem d_Mo_takeRead_242 : decode prog_10_method_36_code 242 = .ok (.getfield 19, 3) := by decide +kernel
theorem d_Mo_takeRead_245 : decode prog_10_method_36_code 245 = .ok (.iload_n 1, 1) := by decide +kernel
theorem d_Mo_takeRead_246 : decode prog_10_method_36_code 246 = .ok (.iaload, 1) := by decide +kernel
theorem d_Mo_takeRead_247 : decode prog_10_method_36_code 247 = .ok (.ifCond .le 7, 3) := by decide +kernel
theorem d_Mo_takeRead_250 : decode prog_10_method_36_code 250 = .ok (.iconst 1, 1) := by decide +kernel
theorem d_Mo_takeRead_251 : decode prog_10_method_36_code 251 = .ok (.goto 4, 3) := by decide +kernel
theorem d_Mo_takeRead_254 : decode prog_10_method_36_code 254 = .ok (.iconst 0, 1) := by decide +kernel
theorem d_Mo_takeRead_255 : decode prog_10_method_36_code 255 = .ok (.ireturn, 1) := by decide +kernel
theorem d_Mo_getNumber_0 : decode prog_10_method_34_code 0 = .ok (.iconst 0, 1) := by decide +kernel
theorem d_Mo_getNumber_1 : decode prog_10_method_34_code 1 = .ok (.istore_n 2, 1) := by decide +kernel
theorem d_Mo_getNumber_2 : decode prog_10_method_34_code 2 = .ok (.iload_n 2, 1) := by decide +kernel
theorem d_Mo_getNumber_3 : decode prog_10_method_34_code 3 = .ok (.bipush 9, 2) := by decide +kernel
theorem d_Mo_getNumber_5 : decode prog_10_method_34_code 5 = .ok (.if_icmp .ge 23, 3) := by decide +kernel
theorem d_Mo_getNumber_8 : decode prog_10_method_34_code 8 = .ok (.aload_n 0, 1) := by decide +kernel
theorem d_Mo_getNumber_9 : decode prog_10_method_34_code 9 = .ok (.bipush 9, 2) := by decide +kernel
theorem d_Mo_getNumber_11 : decode prog_10_method_34_code 11 = .ok (.iload_n 1, 1) := by decide +kernel
theorem d_Mo_getNumber_12 : decode prog_10_method_34_code 12 = .ok (.imul, 1) := by decide +kernel
theorem d_Mo_getNumber_13 : decode prog_10_method_34_code 13 = .ok (.iload_n 2, 1) := by decide +kernel
theorem d_Mo_getNumber_14 : decode prog_10_method_34_code 14 = .ok (.iadd, 1) := by decide +kernel
theorem d_Mo_getNumber_15 : decode prog_10_method_34_code 15 = .ok (.invokevirtual 159, 3) := by decide +kernel
theorem d_Mo_getNumber_18 : decode prog_10_method_34_code 18 = .ok (.iconst 1, 1) := by decide +kernel
theorem d_Mo_getNumber_19 : decode prog_10_method_34_code 19 = .ok (.if_icmp .ne 9, 3) := by decide +kernel
theorem d_Mo_getNumber_22 : decode prog_10_method_34_code 22 = .ok (.iinc 2 1, 3) := by decide +kernel
theorem d_Mo_getNumber_25 : decode prog_10_method_34_code 25 = .ok (.goto (-23), 3) := by decide +kernel
theorem d_Mo_getNumber_28 : decode prog_10_method_34_code 28 = .ok (.iconst 1, 1) := by decide +kernel
theorem d_Mo_getNumber_29 : decode prog_10_method_34_code 29 = .ok (.istore_n 3, 1) := by decide +kernel
theorem d_Mo_getNumber_30 : decode prog_10_method_34_code 30 = .ok (.iconst 0, 1) := by decide +kernel
theorem d_Mo_getNumber_31 : decode prog_10_method_34_code 31 = .ok (.istore 4, 2) := by decide +kernel
theorem d_Mo_getNumber_33 : decode prog_10_method_34_code 33 = .ok (.iload 4, 2) := by decide +kernel
theorem d_Mo_getNumber_35 : decode prog_10_method_34_code 35 = .ok (.iload_n 2, 1) := by decide +kernel
theorem d_Mo_getNumber_36 : decode prog_10_method_34_code 36 = .ok (.if_icmp .ge 20, 3) := by decide +kernel
theorem d_Mo_getNumber_39 : decode prog_10_method_34_code 39 = .ok (.iconst 2, 1) := by decide +kernel
theorem d_Mo_getNumber_40 : decode prog_10_method_34_code 40 = .ok (.iload_n 3, 1) := by decide +kernel
theorem d_Mo_getNumber_41 : decode prog_10_method_34_code 41 = .ok (.imul, 1) := by decide +kernel
theorem d_Mo_getNumber_42 : decode prog_10_method_34_code 42 = .ok (.aload_n 0, 1) := by decide +kernel
theorem d_Mo_getNumber_43 : decode prog_10_method_34_code 43 = .ok (.bipush 58, 2) := by decide +kernel
theorem d_Mo_getNumber_45 : decode prog_10_method_34_code 45 = .ok (.invokevirtual 159, 3) := by decide +kernel
theorem d_Mo_getNumber_48 : decode prog_10_method_34_code 48 = .ok (.iadd, 1) := by decide +kernel
theorem d_Mo_getNumber_49 : decode prog_10_method_34_code 49 = .ok (.istore_n 3, 1) := by decide +kernel
theorem d_Mo_getNumber_50 : decode prog_10_method_34_code 50 = .ok (.iinc 4 1, 3) := by decide +kernel
theorem d_Mo_getNumber_53 : decode prog_10_method_34_code 53 = .ok (.goto (-20), 3) := by decide +kernel
theorem d_Mo_getNumber_56 : decode prog_10_method_34_code 56 = .ok (.iload_n 3, 1) := by decide +kernel
theorem d_Mo_getNumber_57 : decode prog_10_method_34_code 57 = .ok (.iconst 1, 1) := by decide +kernel
theorem d_Mo_getNumber_58 : decode prog_10_method_34_code 58 = .ok (.isub, 1) := by decide +kernel
theorem d_Mo_getNumber_59 : decode prog_10_method_34_code 59 = .ok (.ireturn, 1) := by decide +kernel
theorem d_Mo_get_0 : decode prog_10_method_33_code 0 = .ok (.aload_n 0, 1) := by decide +kernel
theorem d_Mo_get_1 : decode prog_10_method_33_code 1 = .ok (.getfield 88, 3) := by decide +kernel
theorem d_Mo_get_4 : decode prog_10_method_33_code 4 = .ok (.ldc2_w 94, 3) := by decide +kernel
theorem d_Mo_get_7 : decode prog_10_method_33_code 7 = .ok (.ldiv, 1) := by decide +kernel
theorem d_Mo_get_8 : decode prog_10_method_33_code 8 = .ok (.aload_n 0, 1) := by decide +kernel
theorem d_Mo_get_9 : decode prog_10_method_33_code 9 = .ok (.getfield 34, 3) := by decide +kernel
theorem d_Mo_get_12 : decode prog_10_method_33_code 12 = .ok (.iload_n 1, 1) := by decide +kernel
theorem d_Mo_get_13 : decode prog_10_method_33_code 13 = .ok (.iaload, 1) := by decide +kernel
theorem d_Mo_get_14 : decode prog_10_method_33_code 14 = .ok (.i2l, 1) := by decide +kernel
theorem d_Mo_get_15 : decode prog_10_method_33_code 15 = .ok (.lmul, 1) := by decide +kernel
theorem d_Mo_get_16 : decode prog_10_method_33_code 16 = .ok (.lstore_n 2, 1) := by decide +kernel
theorem d_Mo_get_17 : decode prog_10_method_33_code 17 = .ok (.aload_n 0, 1) := by decide +kernel
theorem d_Mo_get_18 : decode prog_10_method_33_code 18 = .ok (.getfield 152, 3) := by decide +kernel
theorem d_Mo_get_21 : decode prog_10_method_33_code 21 = .ok (.lload_n 2, 1) := by decide +kernel
theorem d_Mo_get_22 : decode prog_10_method_33_code 22 = .ok (.lcmp, 1) := by decide +kernel
theorem d_Mo_get_23 : decode prog_10_method_33_code 23 = .ok (.ifCond .ge 7, 3) := by decide +kernel
theorem d_Mo_get_26 : decode prog_10_method_33_code 26 = .ok (.iconst 0, 1) := by decide +kernel
theorem d_Mo_get_27 : decode prog_10_method_33_code 27 = .ok (.goto 4, 3) := by decide +kernel
theorem d_Mo_get_30 : decode prog_10_method_33_code 30 = .ok (.iconst 1, 1) := by decide +kernel
theorem d_Mo_get_31 : decode prog_10_method_33_code 31 = .ok (.istore 4, 2) := by decide +kernel
theorem d_Mo_get_33 : decode prog_10_method_33_code 33 = .ok (.aload_n 0, 1) := by decide +kernel
theorem d_Mo_get_34 : decode prog_10_method_33_code 34 = .ok (.iload 4, 2) := by decide +kernel
theorem d_Mo_get_36 : decode prog_10_method_33_code 36 = .ok (.ifCond .ne 10, 3) := by decide +kernel
theorem d_Mo_get_39 : decode prog_10_method_33_code 39 = .ok (.aload_n 0, 1) := by decide +kernel
theorem d_Mo_get_40 : decode prog_10_method_33_code 40 = .ok (.getfield 152, 3) := by decide +kernel
theorem d_Mo_get_43 : decode prog_10_method_33_code 43 = .ok (.goto 9, 3) := by decide +kernel
theorem d_Mo_get_46 : decode prog_10_method_33_code 46 = .ok (.aload_n 0, 1) := by decide +kernel
theorem d_Mo_get_47 : decode prog_10_method_33_code 47 = .ok (.getfield 152, 3) := by decide +kernel
theorem d_Mo_get_50 : decode prog_10_method_33_code 50 = .ok (.lload_n 2, 1) := by decide +kernel
theorem d_Mo_get_51 : decode prog_10_method_33_code 51 = .ok (.lsub, 1) := by decide +kernel
theorem d_Mo_get_52 : decode prog_10_method_33_code 52 = .ok (.putfield 152, 3) := by decide +kernel
theorem d_Mo_get_55 : decode prog_10_method_33_code 55 = .ok (.aload_n 0, 1) := by decide +kernel
theorem d_Mo_get_56 : decode prog_10_method_33_code 56 = .ok (.iload 4, 2) := by decide +kernel
theorem d_Mo_get_58 : decode prog_10_method_33_code 58 = .ok (.ifCond .ne 7, 3) := by decide +kernel
theorem d_Mo_get_61 : decode prog_10_method_33_code 61 = .ok (.lload_n 2, 1) := by decide +kernel
theorem d_Mo_get_62 : decode prog_10_method_33_code 62 = .ok (.goto 9, 3) := by decide +kernel
theorem d_Mo_get_65 : decode prog_10_method_33_code 65 = .ok (.aload_n 0, 1) := by decide +kernel
theorem d_Mo_get_66 : decode prog_10_method_33_code 66 = .ok (.getfield 88, 3) := by decide +kernel
theorem d_Mo_get_69 : decode prog_10_method_33_code 69 = .ok (.lload_n 2, 1) := by decide +kernel
theorem d_Mo_get_70 : decode prog_10_method_33_code 70 = .ok (.lsub, 1) := by decide +kernel
theorem d_Mo_get_71 : decode prog_10_method_33_code 71 = .ok (.putfield 88, 3) := by decide +kernel
theorem d_Mo_get_74 : decode prog_10_method_33_code 74 = .ok (.aload_n 0, 1) := by decide +kernel
theorem d_Mo_get_75 : decode prog_10_method_33_code 75 = .ok (.iload_n 1, 1) := by decide +kernel
theorem d_Mo_get_76 : decode prog_10_method_33_code 76 = .ok (.iload 4, 2) := by decide +kernel
theorem d_Mo_get_78 : decode prog_10_method_33_code 78 = .ok (.invokevirtual 96, 3) := by decide +kernel
theorem d_Mo_get_81 : decode prog_10_method_33_code 81 = .ok (.aload_n 0, 1) := by decide +kernel
theorem d_Mo_get_82 : decode prog_10_method_33_code 82 = .ok (.getfield 88, 3) := by decide +kernel
theorem d_Mo_get_85 : decode prog_10_method_33_code 85 = .ok (.ldc2_w 104, 3) := by decide +kernel
theorem d_Mo_get_88 : decode prog_10_method_33_code 88 = .ok (.lcmp, 1) := by decide +kernel
theorem d_Mo_get_89 : decode prog_10_method_33_code 89 = .ok (.ifCond .ge 36, 3) := by decide +kernel
theorem d_Mo_get_92 : decode prog_10_method_33_code 92 = .ok (.aload_n 0, 1) := by decide +kernel
theorem d_Mo_get_93 : decode prog_10_method_33_code 93 = .ok (.aload_n 0, 1) := by decide +kernel
theorem d_Mo_get_94 : decode prog_10_method_33_code 94 = .ok (.getfield 152, 3) := by decide +kernel
theorem d_Mo_get_97 : decode prog_10_method_33_code 97 = .ok (.ldc2_w 106, 3) := by decide +kernel
theorem d_Mo_get_100 : decode prog_10_method_33_code 100 = .ok (.lmul, 1) := by decide +kernel
theorem d_Mo_get_101 : decode prog_10_method_33_code 101 = .ok (.aload_n 0, 1) := by decide +kernel
theorem d_Mo_get_102 : decode prog_10_method_33_code 102 = .ok (.invokevirtual 155, 3) := by decide +kernel
theorem d_Mo_get_105 : decode prog_10_method_33_code 105 = .ok (.i2l, 1) := by decide +kernel
theorem d_Mo_get_106 : decode prog_10_method_33_code 106 = .ok (.ladd, 1) := by decide +kernel
theorem d_Mo_get_107 : decode prog_10_method_33_code 107 = .ok (.putfield 152, 3) := by decide +kernel
theorem d_Mo_get_110 : decode prog_10_method_33_code 110 = .ok (.aload_n 0, 1) := by decide +kernel
theorem d_Mo_get_111 : decode prog_10_method_33_code 111 = .ok (.aload_n 0, 1) := by decide +kernel
theorem d_Mo_get_112 : decode prog_10_method_33_code 112 = .ok (.getfield 88, 3) := by decide +kernel
theorem d_Mo_get_115 : decode prog_10_method_33_code 115 = .ok (.ldc2_w 106, 3) := by decide +kernel
theorem d_Mo_get_118 : decode prog_10_method_33_code 118 = .ok (.lmul, 1) := by decide +kernel
theorem d_Mo_get_119 : decode prog_10_method_33_code 119 = .ok (.putfield 88, 3) := by decide +kernel
theorem d_Mo_get_122 : decode prog_10_method_33_code 122 = .ok (.goto (-41), 3) := by decide +kernel
theorem d_Mo_get_125 : decode prog_10_method_33_code 125 = .ok (.iload 4, 2) := by decide +kernel
theorem d_Mo_get_127 : decode prog_10_method_33_code 127 = .ok (.ireturn, 1) := by decide +kernel
theorem d_Mo_getKind_0 : decode prog_10_method_35_code 0 = .ok (.bipush 27, 2) := by decide +kernel
theorem d_Mo_getKind_2 : decode prog_10_method_35_code 2 = .ok (.iconst 4, 1) := by decide +kernel
theorem d_Mo_getKind_3 : decode prog_10_method_35_code 3 = .ok (.iload_n 1, 1) := by decide +kernel
theorem d_Mo_getKind_4 : decode prog_10_method_35_code 4 = .ok (.imul, 1) := by decide +kernel
theorem d_Mo_getKind_5 : decode prog_10_method_35_code 5 = .ok (.iadd, 1) := by decide +kernel
theorem d_Mo_getKind_6 : decode prog_10_method_35_code 6 = .ok (.istore_n 2, 1) := by decide +kernel
theorem d_Mo_getKind_7 : decode prog_10_method_35_code 7 = .ok (.aload_n 0, 1) := by decide +kernel
theorem d_Mo_getKind_8 : decode prog_10_method_35_code 8 = .ok (.iload_n 2, 1) := by decide +kernel
theorem d_Mo_getKind_9 : decode prog_10_method_35_code 9 = .ok (.invokevirtual 159, 3) := by decide +kernel
theorem d_Mo_getKind_12 : decode prog_10_method_35_code 12 = .ok (.ifCond .ne 5, 3) := by decide +kernel
theorem d_Mo_getKind_15 : decode prog_10_method_35_code 15 = .ok (.iconst 0, 1) := by decide +kernel
theorem d_Mo_getKind_16 : decode prog_10_method_35_code 16 = .ok (.ireturn, 1) := by decide +kernel
theorem d_Mo_getKind_17 : decode prog_10_method_35_code 17 = .ok (.aload_n 0, 1) := by decide +kernel
theorem d_Mo_getKind_18 : decode prog_10_method_35_code 18 = .ok (.iload_n 2, 1) := by decide +kernel
theorem d_Mo_getKind_19 : decode prog_10_method_35_code 19 = .ok (.iconst 1, 1) := by decide +kernel
theorem d_Mo_getKind_20 : decode prog_10_method_35_code 20 = .ok (.iadd, 1) := by decide +kernel
theorem d_Mo_getKind_21 : decode prog_10_method_35_code 21 = .ok (.invokevirtual 159, 3) := by decide +kernel
theorem d_Mo_getKind_24 : decode prog_10_method_35_code 24 = .ok (.ifCond .ne 5, 3) := by decide +kernel
theorem d_Mo_getKind_27 : decode prog_10_method_35_code 27 = .ok (.iconst 4, 1) := by decide +kernel
theorem d_Mo_getKind_28 : decode prog_10_method_35_code 28 = .ok (.ireturn, 1) := by decide +kernel
theorem d_Mo_getKind_29 : decode prog_10_method_35_code 29 = .ok (.aload_n 0, 1) := by decide +kernel
theorem d_Mo_getKind_30 : decode prog_10_method_35_code 30 = .ok (.iload_n 2, 1) := by decide +kernel
theorem d_Mo_getKind_31 : decode prog_10_method_35_code 31 = .ok (.iconst 2, 1) := by decide +kernel
theorem d_Mo_getKind_32 : decode prog_10_method_35_code 32 = .ok (.iadd, 1) := by decide +kernel
theorem d_Mo_getKind_33 : decode prog_10_method_35_code 33 = .ok (.invokevirtual 159, 3) := by decide +kernel
theorem d_Mo_getKind_36 : decode prog_10_method_35_code 36 = .ok (.ifCond .ne 5, 3) := by decide +kernel
theorem d_Mo_getKind_39 : decode prog_10_method_35_code 39 = .ok (.iconst 1, 1) := by decide +kernel
theorem d_Mo_getKind_40 : decode prog_10_method_35_code 40 = .ok (.ireturn, 1) := by decide +kernel
theorem d_Mo_getKind_41 : decode prog_10_method_35_code 41 = .ok (.aload_n 0, 1) := by decide +kernel
theorem d_Mo_getKind_42 : decode prog_10_method_35_code 42 = .ok (.iload_n 2, 1) := by decide +kernel
theorem d_Mo_getKind_43 : decode prog_10_method_35_code 43 = .ok (.iconst 3, 1) := by decide +kernel
theorem d_Mo_getKind_44 : decode prog_10_method_35_code 44 = .ok (.iadd, 1) := by decide +kernel
theorem d_Mo_getKind_45 : decode prog_10_method_35_code 45 = .ok (.invokevirtual 159, 3) := by decide +kernel
theorem d_Mo_getKind_48 : decode prog_10_method_35_code 48 = .ok (.ifCond .ne 7, 3) := by decide +kernel
theorem d_Mo_getKind_51 : decode prog_10_method_35_code 51 = .ok (.iconst 2, 1) := by decide +kernel
theorem d_Mo_getKind_52 : decode prog_10_method_35_code 52 = .ok (.goto 4, 3) := by decide +kernel
theorem d_Mo_getKind_55 : decode prog_10_method_35_code 55 = .ok (.iconst 3, 1) := by decide +kernel
theorem d_Mo_getKind_56 : decode prog_10_method_35_code 56 = .ok (.ireturn, 1) := by decide +kernel
theorem d_Mo_depth_0 : decode prog_10_method_39_code 0 = .ok (.aload_n 0, 1) := by decide +kernel
theorem d_Mo_depth_1 : decode prog_10_method_39_code 1 = .ok (.iload_n 1, 1) := by decide +kernel
theorem d_Mo_depth_2 : decode prog_10_method_39_code 2 = .ok (.ifCond .lt 11, 3) := by decide +kernel
theorem d_Mo_depth_5 : decode prog_10_method_39_code 5 = .ok (.iload_n 1, 1) := by decide +kernel
theorem d_Mo_depth_6 : decode prog_10_method_39_code 6 = .ok (.aload_n 0, 1) := by decide +kernel
theorem d_Mo_depth_7 : decode prog_10_method_39_code 7 = .ok (.getfield 57, 3) := by decide +kernel
theorem d_Mo_depth_10 : decode prog_10_method_39_code 10 = .ok (.if_icmp .lt 7, 3) := by decide +kernel
theorem d_Mo_depth_13 : decode prog_10_method_39_code 13 = .ok (.iconst 1, 1) := by decide +kernel
theorem d_Mo_depth_14 : decode prog_10_method_39_code 14 = .ok (.goto 4, 3) := by decide +kernel
theorem d_Mo_depth_17 : decode prog_10_method_39_code 17 = .ok (.iconst 0, 1) := by decide +kernel
theorem d_Mo_depth_18 : decode prog_10_method_39_code 18 = .ok (.putfield 46, 3) := by decide +kernel
theorem d_Mo_depth_21 : decode prog_10_method_39_code 21 = .ok (.iconst 0, 1) := by decide +kernel
theorem d_Mo_depth_22 : decode prog_10_method_39_code 22 = .ok (.istore_n 2, 1) := by decide +kernel
theorem d_Mo_depth_23 : decode prog_10_method_39_code 23 = .ok (.iconst 0, 1) := by decide +kernel
theorem d_Mo_depth_24 : decode prog_10_method_39_code 24 = .ok (.istore_n 3, 1) := by decide +kernel
theorem d_Mo_depth_25 : decode prog_10_method_39_code 25 = .ok (.aload_n 0, 1) := by decide +kernel
theorem d_Mo_depth_26 : decode prog_10_method_39_code 26 = .ok (.getfield 46, 3) := by decide +kernel
theorem d_Mo_depth_29 : decode prog_10_method_39_code 29 = .ok (.ifCond .ne 127, 3) := by decide +kernel
theorem d_Mo_depth_32 : decode prog_10_method_39_code 32 = .ok (.aload_n 0, 1) := by decide +kernel
theorem d_Mo_depth_33 : decode prog_10_method_39_code 33 = .ok (.iload_n 3, 1) := by decide +kernel
theorem d_Mo_depth_34 : decode prog_10_method_39_code 34 = .ok (.invokevirtual 142, 3) := by decide +kernel
theorem d_Mo_depth_37 : decode prog_10_method_39_code 37 = .ok (.istore 4, 2) := by decide +kernel
theorem d_Mo_depth_39 : decode prog_10_method_39_code 39 = .ok (.iload 4, 2) := by decide +kernel
theorem d_Mo_depth_41 : decode prog_10_method_39_code 41 = .ok (.ifCond .lt 27, 3) := by decide +kernel
theorem d_Mo_depth_44 : decode prog_10_method_39_code 44 = .ok (.iload 4, 2) := by decide +kernel
theorem d_Mo_depth_46 : decode prog_10_method_39_code 46 = .ok (.iconst 1, 1) := by decide +kernel
theorem d_Mo_depth_47 : decode prog_10_method_39_code 47 = .ok (.iadd, 1) := by decide +kernel
theorem d_Mo_depth_48 : decode prog_10_method_39_code 48 = .ok (.aload_n 0, 1) := by decide +kernel
theorem d_Mo_depth_49 : decode prog_10_method_39_code 49 = .ok (.getfield 136, 3) := by decide +kernel
theorem d_Mo_depth_52 : decode prog_10_method_39_code 52 = .ok (.if_icmp .ge 18, 3) := by decide +kernel
theorem d_Mo_depth_55 : decode prog_10_method_39_code 55 = .ok (.aload_n 0, 1) := by decide +kernel
theorem d_Mo_depth_56 : decode prog_10_method_39_code 56 = .ok (.getfield 31, 3) := by decide +kernel
theorem d_Mo_depth_59 : decode prog_10_method_39_code 59 = .ok (.iload 4, 2) := by decide +kernel
theorem d_Mo_depth_61 : decode prog_10_method_39_code 61 = .ok (.iconst 1, 1) := by decide +kernel
theorem d_Mo_depth_62 : decode prog_10_method_39_code 62 = .ok (.iadd, 1) := by decide +kernel
theorem d_Mo_depth_63 : decode prog_10_method_39_code 63 = .ok (.iaload, 1) := by decide +kernel
theorem d_Mo_depth_64 : decode prog_10_method_39_code 64 = .ok (.iload_n 1, 1) := by decide +kernel
theorem d_Mo_depth_65 : decode prog_10_method_39_code 65 = .ok (.if_icmp .le 5, 3) := by decide +kernel
theorem d_Mo_depth_68 : decode prog_10_method_39_code 68 = .ok (.iload_n 2, 1) := by decide +kernel
theorem d_Mo_depth_69 : decode prog_10_method_39_code 69 = .ok (.ireturn, 1) := by decide +kernel
theorem d_Mo_depth_70 : decode prog_10_method_39_code 70 = .ok (.aload_n 0, 1) := by decide +kernel
theorem d_Mo_depth_71 : decode prog_10_method_39_code 71 = .ok (.iload 4, 2) := by decide +kernel
theorem d_Mo_depth_73 : decode prog_10_method_39_code 73 = .ok (.invokevirtual 172, 3) := by decide +kernel
theorem d_Mo_depth_76 : decode prog_10_method_39_code 76 = .ok (.istore 5, 2) := by decide +kernel
theorem d_Mo_depth_78 : decode prog_10_method_39_code 78 = .ok (.aload_n 0, 1) := by decide +kernel
theorem d_Mo_depth_79 : decode prog_10_method_39_code 79 = .ok (.iload 5, 2) := by decide +kernel
theorem d_Mo_depth_81 : decode prog_10_method_39_code 81 = .ok (.ifCond .ne 7, 3) := by decide +kernel
theorem d_Mo_depth_84 : decode prog_10_method_39_code 84 = .ok (.iconst 2, 1) := by decide +kernel
theorem d_Mo_depth_85 : decode prog_10_method_39_code 85 = .ok (.goto 4, 3) := by decide +kernel
theorem d_Mo_depth_88 : decode prog_10_method_39_code 88 = .ok (.iconst 0, 1) := by decide +kernel
theorem d_Mo_depth_89 : decode prog_10_method_39_code 89 = .ok (.putfield 46, 3) := by decide +kernel
theorem d_Mo_depth_92 : decode prog_10_method_39_code 92 = .ok (.bipush 27, 2) := by decide +kernel
theorem d_Mo_depth_94 : decode prog_10_method_39_code 94 = .ok (.istore 6, 2) := by decide +kernel
theorem d_Mo_depth_96 : decode prog_10_method_39_code 96 = .ok (.iload 6, 2) := by decide +kernel
theorem d_Mo_depth_98 : decode prog_10_method_39_code 98 = .ok (.bipush 27, 2) := by decide +kernel
theorem d_Mo_depth_100 : decode prog_10_method_39_code 100 = .ok (.iload 5, 2) := by decide +kernel
theorem d_Mo_depth_102 : decode prog_10_method_39_code 102 = .ok (.iadd, 1) := by decide +kernel
theorem d_Mo_depth_103 : decode prog_10_method_39_code 103 = .ok (.if_icmp .ge 47, 3) := by decide +kernel
theorem d_Mo_depth_106 : decode prog_10_method_39_code 106 = .ok (.aload_n 0, 1) := by decide +kernel
theorem d_Mo_depth_107 : decode prog_10_method_39_code 107 = .ok (.getfield 13, 3) := by decide +kernel
theorem d_Mo_depth_110 : decode prog_10_method_39_code 110 = .ok (.iload 6, 2) := by decide +kernel
theorem d_Mo_depth_112 : decode prog_10_method_39_code 112 = .ok (.iaload, 1) := by decide +kernel
theorem d_Mo_depth_113 : decode prog_10_method_39_code 113 = .ok (.iload_n 1, 1) := by decide +kernel
theorem d_Mo_depth_114 : decode prog_10_method_39_code 114 = .ok (.if_icmp .gt 28, 3) := by decide +kernel
theorem d_Mo_depth_117 : decode prog_10_method_39_code 117 = .ok (.iload_n 1, 1) := by decide +kernel
theorem d_Mo_depth_118 : decode prog_10_method_39_code 118 = .ok (.aload_n 0, 1) := by decide +kernel
theorem d_Mo_depth_119 : decode prog_10_method_39_code 119 = .ok (.getfield 13, 3) := by decide +kernel
theorem d_Mo_depth_122 : decode prog_10_method_39_code 122 = .ok (.iload 6, 2) := by decide +kernel
theorem d_Mo_depth_124 : decode prog_10_method_39_code 124 = .ok (.iaload, 1) := by decide +kernel
theorem d_Mo_depth_125 : decode prog_10_method_39_code 125 = .ok (.aload_n 0, 1) := by decide +kernel
theorem d_Mo_depth_126 : decode prog_10_method_39_code 126 = .ok (.getfield 22, 3) := by decide +kernel
theorem d_Mo_depth_129 : decode prog_10_method_39_code 129 = .ok (.iload 6, 2) := by decide +kernel
theorem d_Mo_depth_131 : decode prog_10_method_39_code 131 = .ok (.iaload, 1) := by decide +kernel
theorem d_Mo_depth_132 : decode prog_10_method_39_code 132 = .ok (.iadd, 1) := by decide +kernel
theorem d_Mo_depth_133 : decode prog_10_method_39_code 133 = .ok (.if_icmp .ge 9, 3) := by decide +kernel
theorem d_Mo_depth_136 : decode prog_10_method_39_code 136 = .ok (.iload_n 2, 1) := by decide +kernel
theorem d_Mo_depth_137 : decode prog_10_method_39_code 137 = .ok (.iconst 1, 1) := by decide +kernel
theorem d_Mo_depth_138 : decode prog_10_method_39_code 138 = .ok (.iadd, 1) := by decide +kernel
theorem d_Mo_depth_139 : decode prog_10_method_39_code 139 = .ok (.goto 4, 3) := by decide +kernel
theorem d_Mo_depth_142 : decode prog_10_method_39_code 142 = .ok (.iload_n 2, 1) := by decide +kernel
theorem d_Mo_depth_143 : decode prog_10_method_39_code 143 = .ok (.istore_n 2, 1) := by decide +kernel
theorem d_Mo_depth_144 : decode prog_10_method_39_code 144 = .ok (.iinc 6 1, 3) := by decide +kernel
theorem d_Mo_depth_147 : decode prog_10_method_39_code 147 = .ok (.goto (-51), 3) := by decide +kernel
theorem d_Mo_depth_150 : decode prog_10_method_39_code 150 = .ok (.iinc 3 1, 3) := by decide +kernel
theorem d_Mo_depth_153 : decode prog_10_method_39_code 153 = .ok (.goto (-128), 3) := by decide +kernel
theorem d_Mo_depth_156 : decode prog_10_method_39_code 156 = .ok (.iconst 0, 1) := by decide +kernel
theorem d_Mo_depth_157 : decode prog_10_method_39_code 157 = .ok (.ireturn, 1) := by decide +kernel
