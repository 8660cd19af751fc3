theorem d_La_refer_0 : decode method_3_code 0 = .ok (.aload_n 3, 1) := by decide +kernel
theorem d_La_refer_1 : decode method_3_code 1 = .ok (.iconst 0, 1) := by decide +kernel
theorem d_La_refer_2 : decode method_3_code 2 = .ok (.aload_n 0, 1) := by decide +kernel
theorem d_La_refer_3 : decode method_3_code 3 = .ok (.iload_n 1, 1) := by decide +kernel
theorem d_La_refer_4 : decode method_3_code 4 = .ok (.iload_n 2, 1) := by decide +kernel
theorem d_La_refer_5 : decode method_3_code 5 = .ok (.invokevirtual 7, 3) := by decide +kernel
theorem d_La_refer_8 : decode method_3_code 8 = .ok (.i2l, 1) := by decide +kernel
theorem d_La_refer_9 : decode method_3_code 9 = .ok (.lastore, 1) := by decide +kernel
theorem d_La_refer_10 : decode method_3_code 10 = .ok (.goto 15, 3) := by decide +kernel
theorem d_La_refer_13 : decode method_3_code 13 = .ok (.astore 4, 2) := by decide +kernel
theorem d_La_refer_15 : decode method_3_code 15 = .ok (.iconst 1, 1) := by decide +kernel
theorem d_La_refer_16 : decode method_3_code 16 = .ok (.ireturn, 1) := by decide +kernel
theorem d_La_refer_17 : decode method_3_code 17 = .ok (.astore 4, 2) := by decide +kernel
theorem d_La_refer_19 : decode method_3_code 19 = .ok (.iconst 2, 1) := by decide +kernel
theorem d_La_refer_20 : decode method_3_code 20 = .ok (.ireturn, 1) := by decide +kernel
theorem d_La_refer_21 : decode method_3_code 21 = .ok (.astore 4, 2) := by decide +kernel
theorem d_La_refer_23 : decode method_3_code 23 = .ok (.iconst 3, 1) := by decide +kernel
theorem d_La_refer_24 : decode method_3_code 24 = .ok (.ireturn, 1) := by decide +kernel
theorem d_La_refer_25 : decode method_3_code 25 = .ok (.iconst 0, 1) := by decide +kernel
theorem d_La_refer_26 : decode method_3_code 26 = .ok (.ireturn, 1) := by decide +kernel
theorem d_La_start_0 : decode method_4_code 0 = .ok (.aload_n 0, 1) := by decide +kernel
theorem d_La_start_1 : decode method_4_code 1 = .ok (.iload_n 1, 1) := by decide +kernel
theorem d_La_start_2 : decode method_4_code 2 = .ok (.invokevirtual 19, 3) := by decide +kernel
theorem d_La_start_5 : decode method_4_code 5 = .ok (.goto 6, 3) := by decide +kernel
theorem d_La_start_8 : decode method_4_code 8 = .ok (.astore_n 2, 1) := by decide +kernel
theorem d_La_start_9 : decode method_4_code 9 = .ok (.iconst 1, 1) := by decide +kernel
theorem d_La_start_10 : decode method_4_code 10 = .ok (.ireturn, 1) := by decide +kernel
theorem d_La_start_11 : decode method_4_code 11 = .ok (.iconst 0, 1) := by decide +kernel
theorem d_La_start_12 : decode method_4_code 12 = .ok (.ireturn, 1) := by decide +kernel
theorem d_La_edit_0 : decode method_5_code 0 = .ok (.aload_n 0, 1) := by decide +kernel
theorem d_La_edit_1 : decode method_5_code 1 = .ok (.iload_n 1, 1) := by decide +kernel
theorem d_La_edit_2 : decode method_5_code 2 = .ok (.iload_n 2, 1) := by decide +kernel
theorem d_La_edit_3 : decode method_5_code 3 = .ok (.invokevirtual 25, 3) := by decide +kernel
theorem d_La_edit_6 : decode method_5_code 6 = .ok (.goto 12, 3) := by decide +kernel
theorem d_La_edit_9 : decode method_5_code 9 = .ok (.astore_n 3, 1) := by decide +kernel
theorem d_La_edit_10 : decode method_5_code 10 = .ok (.iconst 1, 1) := by decide +kernel
theorem d_La_edit_11 : decode method_5_code 11 = .ok (.ireturn, 1) := by decide +kernel
theorem d_La_edit_12 : decode method_5_code 12 = .ok (.astore_n 3, 1) := by decide +kernel
theorem d_La_edit_13 : decode method_5_code 13 = .ok (.iconst 2, 1) := by decide +kernel
theorem d_La_edit_14 : decode method_5_code 14 = .ok (.ireturn, 1) := by decide +kernel
theorem d_La_edit_15 : decode method_5_code 15 = .ok (.astore_n 3, 1) := by decide +kernel
theorem d_La_edit_16 : decode method_5_code 16 = .ok (.iconst 3, 1) := by decide +kernel
theorem d_La_edit_17 : decode method_5_code 17 = .ok (.ireturn, 1) := by decide +kernel
theorem d_La_edit_18 : decode method_5_code 18 = .ok (.iconst 0, 1) := by decide +kernel
theorem d_La_edit_19 : decode method_5_code 19 = .ok (.ireturn, 1) := by decide +kernel
theorem d_La_finish_0 : decode method_6_code 0 = .ok (.aload_n 1, 1) := by decide +kernel
theorem d_La_finish_1 : decode method_6_code 1 = .ok (.iconst 0, 1) := by decide +kernel
theorem d_La_finish_2 : decode method_6_code 2 = .ok (.aload_n 0, 1) := by decide +kernel
theorem d_La_finish_3 : decode method_6_code 3 = .ok (.invokevirtual 29, 3) := by decide +kernel
theorem d_La_finish_6 : decode method_6_code 6 = .ok (.i2l, 1) := by decide +kernel
theorem d_La_finish_7 : decode method_6_code 7 = .ok (.lastore, 1) := by decide +kernel
theorem d_La_finish_8 : decode method_6_code 8 = .ok (.goto 9, 3) := by decide +kernel
theorem d_La_finish_11 : decode method_6_code 11 = .ok (.astore_n 2, 1) := by decide +kernel
theorem d_La_finish_12 : decode method_6_code 12 = .ok (.iconst 1, 1) := by decide +kernel
theorem d_La_finish_13 : decode method_6_code 13 = .ok (.ireturn, 1) := by decide +kernel
theorem d_La_finish_14 : decode method_6_code 14 = .ok (.astore_n 2, 1) := by decide +kernel
theorem d_La_finish_15 : decode method_6_code 15 = .ok (.iconst 2, 1) := by decide +kernel
theorem d_La_finish_16 : decode method_6_code 16 = .ok (.ireturn, 1) := by decide +kernel
theorem d_La_finish_17 : decode method_6_code 17 = .ok (.iconst 0, 1) := by decide +kernel
theorem d_La_finish_18 : decode method_6_code 18 = .ok (.ireturn, 1) := by decide +kernel
theorem d_La_about_0 : decode method_7_code 0 = .ok (.aload 4, 2) := by decide +kernel
theorem d_La_about_2 : decode method_7_code 2 = .ok (.iconst 0, 1) := by decide +kernel
theorem d_La_about_3 : decode method_7_code 3 = .ok (.aload_n 0, 1) := by decide +kernel
theorem d_La_about_4 : decode method_7_code 4 = .ok (.iload_n 1, 1) := by decide +kernel
theorem d_La_about_5 : decode method_7_code 5 = .ok (.iload_n 2, 1) := by decide +kernel
theorem d_La_about_6 : decode method_7_code 6 = .ok (.iload_n 3, 1) := by decide +kernel
theorem d_La_about_7 : decode method_7_code 7 = .ok (.invokevirtual 33, 3) := by decide +kernel
theorem d_La_about_10 : decode method_7_code 10 = .ok (.i2l, 1) := by decide +kernel
theorem d_La_about_11 : decode method_7_code 11 = .ok (.lastore, 1) := by decide +kernel
theorem d_La_about_12 : decode method_7_code 12 = .ok (.goto 11, 3) := by decide +kernel
theorem d_La_about_15 : decode method_7_code 15 = .ok (.astore 5, 2) := by decide +kernel
theorem d_La_about_17 : decode method_7_code 17 = .ok (.iconst 1, 1) := by decide +kernel
theorem d_La_about_18 : decode method_7_code 18 = .ok (.ireturn, 1) := by decide +kernel
theorem d_La_about_19 : decode method_7_code 19 = .ok (.astore 5, 2) := by decide +kernel
theorem d_La_about_21 : decode method_7_code 21 = .ok (.iconst 2, 1) := by decide +kernel
theorem d_La_about_22 : decode method_7_code 22 = .ok (.ireturn, 1) := by decide +kernel
theorem d_La_about_23 : decode method_7_code 23 = .ok (.iconst 0, 1) := by decide +kernel
theorem d_La_about_24 : decode method_7_code 24 = .ok (.ireturn, 1) := by decide +kernel
theorem d_La_base_0 : decode method_8_code 0 = .ok (.aload 4, 2) := by decide +kernel
theorem d_La_base_2 : decode method_8_code 2 = .ok (.iconst 0, 1) := by decide +kernel
theorem d_La_base_3 : decode method_8_code 3 = .ok (.aload_n 0, 1) := by decide +kernel
theorem d_La_base_4 : decode method_8_code 4 = .ok (.iload_n 1, 1) := by decide +kernel
theorem d_La_base_5 : decode method_8_code 5 = .ok (.iload_n 2, 1) := by decide +kernel
theorem d_La_base_6 : decode method_8_code 6 = .ok (.iload_n 3, 1) := by decide +kernel
theorem d_La_base_7 : decode method_8_code 7 = .ok (.invokevirtual 37, 3) := by decide +kernel
theorem d_La_base_10 : decode method_8_code 10 = .ok (.i2l, 1) := by decide +kernel
theorem d_La_base_11 : decode method_8_code 11 = .ok (.lastore, 1) := by decide +kernel
theorem d_La_base_12 : decode method_8_code 12 = .ok (.goto 7, 3) := by decide +kernel
theorem d_La_base_15 : decode method_8_code 15 = .ok (.astore 5, 2) := by decide +kernel
theorem d_La_base_17 : decode method_8_code 17 = .ok (.iconst 1, 1) := by decide +kernel
theorem d_La_base_18 : decode method_8_code 18 = .ok (.ireturn, 1) := by decide +kernel
theorem d_La_base_19 : decode method_8_code 19 = .ok (.iconst 0, 1) := by decide +kernel
theorem d_La_base_20 : decode method_8_code 20 = .ok (.ireturn, 1) := by decide +kernel
theorem d_La_at_0 : decode method_9_code 0 = .ok (.aload_n 2, 1) := by decide +kernel
theorem d_La_at_1 : decode method_9_code 1 = .ok (.iconst 0, 1) := by decide +kernel
theorem d_La_at_2 : decode method_9_code 2 = .ok (.aload_n 0, 1) := by decide +kernel
theorem d_La_at_3 : decode method_9_code 3 = .ok (.iload_n 1, 1) := by decide +kernel
theorem d_La_at_4 : decode method_9_code 4 = .ok (.invokevirtual 40, 3) := by decide +kernel
theorem d_La_at_7 : decode method_9_code 7 = .ok (.i2l, 1) := by decide +kernel
theorem d_La_at_8 : decode method_9_code 8 = .ok (.lastore, 1) := by decide +kernel
theorem d_La_at_9 : decode method_9_code 9 = .ok (.goto 6, 3) := by decide +kernel
theorem d_La_at_12 : decode method_9_code 12 = .ok (.astore_n 3, 1) := by decide +kernel
theorem d_La_at_13 : decode method_9_code 13 = .ok (.iconst 1, 1) := by decide +kernel
theorem d_La_at_14 : decode method_9_code 14 = .ok (.ireturn, 1) := by decide +kernel
theorem d_La_at_15 : decode method_9_code 15 = .ok (.iconst 0, 1) := by decide +kernel
theorem d_La_at_16 : decode method_9_code 16 = .ok (.ireturn, 1) := by decide +kernel
theorem d_La_corrupt_0 : decode method_10_code 0 = .ok (.aload_n 0, 1) := by decide +kernel
theorem d_La_corrupt_1 : decode method_10_code 1 = .ok (.iload_n 1, 1) := by decide +kernel
theorem d_La_corrupt_2 : decode method_10_code 2 = .ok (.iload_n 2, 1) := by decide +kernel
theorem d_La_corrupt_3 : decode method_10_code 3 = .ok (.invokevirtual 44, 3) := by decide +kernel
theorem d_La_corrupt_6 : decode method_10_code 6 = .ok (.goto 9, 3) := by decide +kernel
theorem d_La_corrupt_9 : decode method_10_code 9 = .ok (.astore_n 3, 1) := by decide +kernel
theorem d_La_corrupt_10 : decode method_10_code 10 = .ok (.iconst 1, 1) := by decide +kernel
theorem d_La_corrupt_11 : decode method_10_code 11 = .ok (.ireturn, 1) := by decide +kernel
theorem d_La_corrupt_12 : decode method_10_code 12 = .ok (.astore_n 3, 1) := by decide +kernel
theorem d_La_corrupt_13 : decode method_10_code 13 = .ok (.iconst 2, 1) := by decide +kernel
theorem d_La_corrupt_14 : decode method_10_code 14 = .ok (.ireturn, 1) := by decide +kernel
theorem d_La_corrupt_15 : decode method_10_code 15 = .ok (.iconst 0, 1) := by decide +kernel
theorem d_La_corrupt_16 : decode method_10_code 16 = .ok (.ireturn, 1) := by decide +kernel
theorem d_La_unpack_0 : decode method_11_code 0 = .ok (.aload_n 2, 1) := by decide +kernel
theorem d_La_unpack_1 : decode method_11_code 1 = .ok (.iconst 0, 1) := by decide +kernel
theorem d_La_unpack_2 : decode method_11_code 2 = .ok (.aload_n 0, 1) := by decide +kernel
theorem d_La_unpack_3 : decode method_11_code 3 = .ok (.iload_n 1, 1) := by decide +kernel
theorem d_La_unpack_4 : decode method_11_code 4 = .ok (.invokevirtual 47, 3) := by decide +kernel
theorem d_La_unpack_7 : decode method_11_code 7 = .ok (.i2l, 1) := by decide +kernel
theorem d_La_unpack_8 : decode method_11_code 8 = .ok (.lastore, 1) := by decide +kernel
theorem d_La_unpack_9 : decode method_11_code 9 = .ok (.goto 9, 3) := by decide +kernel
theorem d_La_unpack_12 : decode method_11_code 12 = .ok (.astore_n 3, 1) := by decide +kernel
theorem d_La_unpack_13 : decode method_11_code 13 = .ok (.iconst 1, 1) := by decide +kernel
theorem d_La_unpack_14 : decode method_11_code 14 = .ok (.ireturn, 1) := by decide +kernel
theorem d_La_unpack_15 : decode method_11_code 15 = .ok (.astore_n 3, 1) := by decide +kernel
theorem d_La_unpack_16 : decode method_11_code 16 = .ok (.iconst 2, 1) := by decide +kernel
theorem d_La_unpack_17 : decode method_11_code 17 = .ok (.ireturn, 1) := by decide +kernel
theorem d_La_unpack_18 : decode method_11_code 18 = .ok (.iconst 0, 1) := by decide +kernel
theorem d_La_unpack_19 : decode method_11_code 19 = .ok (.ireturn, 1) := by decide +kernel
theorem d_La_depth_0 : decode method_12_code 0 = .ok (.aload_n 2, 1) := by decide +kernel
theorem d_La_depth_1 : decode method_12_code 1 = .ok (.iconst 0, 1) := by decide +kernel
theorem d_La_depth_2 : decode method_12_code 2 = .ok (.aload_n 0, 1) := by decide +kernel
theorem d_La_depth_3 : decode method_12_code 3 = .ok (.iload_n 1, 1) := by decide +kernel
theorem d_La_depth_4 : decode method_12_code 4 = .ok (.invokevirtual 50, 3) := by decide +kernel
theorem d_La_depth_7 : decode method_12_code 7 = .ok (.i2l, 1) := by decide +kernel
theorem d_La_depth_8 : decode method_12_code 8 = .ok (.lastore, 1) := by decide +kernel
theorem d_La_depth_9 : decode method_12_code 9 = .ok (.goto 9, 3) := by decide +kernel
theorem d_La_depth_12 : decode method_12_code 12 = .ok (.astore_n 3, 1) := by decide +kernel
theorem d_La_depth_13 : decode method_12_code 13 = .ok (.iconst 1, 1) := by decide +kernel
theorem d_La_depth_14 : decode method_12_code 14 = .ok (.ireturn, 1) := by decide +kernel
theorem d_La_depth_15 : decode method_12_code 15 = .ok (.astore_n 3, 1) := by decide +kernel
theorem d_La_depth_16 : decode method_12_code 16 = .ok (.iconst 2, 1) := by decide +kernel
theorem d_La_depth_17 : decode method_12_code 17 = .ok (.ireturn, 1) := by decide +kernel
theorem d_La_depth_18 : decode method_12_code 18 = .ok (.iconst 0, 1) := by decide +kernel
theorem d_La_depth_19 : decode method_12_code 19 = .ok (.ireturn, 1) := by decide +kernel
theorem d_La_law_0 : decode code 0 = .ok (.new 8, 3) := by decide +kernel
theorem d_La_law_3 : decode code 3 = .ok (.dup, 1) := by decide +kernel
theorem d_La_law_4 : decode code 4 = .ok (.invokespecial 53, 3) := by decide +kernel
theorem d_La_law_7 : decode code 7 = .ok (.astore_n 1, 1) := by decide +kernel
theorem d_La_law_8 : decode code 8 = .ok (.new 54, 3) := by decide +kernel
theorem d_La_law_11 : decode code 11 = .ok (.dup, 1) := by decide +kernel
theorem d_La_law_12 : decode code 12 = .ok (.invokespecial 56, 3) := by decide +kernel
theorem d_La_law_15 : decode code 15 = .ok (.astore_n 2, 1) := by decide +kernel
theorem d_La_law_16 : decode code 16 = .ok (.iconst 1, 1) := by decide +kernel
theorem d_La_law_17 : decode code 17 = .ok (.newarray .long, 2) := by decide +kernel
theorem d_La_law_19 : decode code 19 = .ok (.astore_n 3, 1) := by decide +kernel
theorem d_La_law_20 : decode code 20 = .ok (.iconst 0, 1) := by decide +kernel
theorem d_La_law_21 : decode code 21 = .ok (.istore 4, 2) := by decide +kernel
theorem d_La_law_23 : decode code 23 = .ok (.iload 4, 2) := by decide +kernel
theorem d_La_law_25 : decode code 25 = .ok (.aload_n 0, 1) := by decide +kernel
theorem d_La_law_26 : decode code 26 = .ok (.arraylength, 1) := by decide +kernel
theorem d_La_law_27 : decode code 27 = .ok (.iconst 4, 1) := by decide +kernel
theorem d_La_law_28 : decode code 28 = .ok (.isub, 1) := by decide +kernel
theorem d_La_law_29 : decode code 29 = .ok (.if_icmp .gt 784, 3) := by decide +kernel
theorem d_La_law_32 : decode code 32 = .ok (.aload_n 0, 1) := by decide +kernel
theorem d_La_law_33 : decode code 33 = .ok (.iload 4, 2) := by decide +kernel
theorem d_La_law_35 : decode code 35 = .ok (.iaload, 1) := by decide +kernel
theorem d_La_law_36 : decode code 36 = .ok (.bipush 15, 2) := by decide +kernel
theorem d_La_law_38 : decode code 38 = .ok (.iand, 1) := by decide +kernel
theorem d_La_law_39 : decode code 39 = .ok (.tableswitch 768 0 14 #[73, 141, 180, 216, 264, 308, 321, 417, 513, 526, 539, 552, 608, 656, 712], 73) := by decide +kernel
theorem d_La_law_112 : decode code 112 = .ok (.aload_n 1, 1) := by decide +kernel
theorem d_La_law_113 : decode code 113 = .ok (.aload_n 0, 1) := by decide +kernel
theorem d_La_law_114 : decode code 114 = .ok (.iload 4, 2) := by decide +kernel
theorem d_La_law_116 : decode code 116 = .ok (.iconst 1, 1) := by decide +kernel
theorem d_La_law_117 : decode code 117 = .ok (.iadd, 1) := by decide +kernel
theorem d_La_law_118 : decode code 118 = .ok (.iaload, 1) := by decide +kernel
theorem d_La_law_119 : decode code 119 = .ok (.aload_n 0, 1) := by decide +kernel
theorem d_La_law_120 : decode code 120 = .ok (.iload 4, 2) := by decide +kernel
theorem d_La_law_122 : decode code 122 = .ok (.iconst 2, 1) := by decide +kernel
theorem d_La_law_123 : decode code 123 = .ok (.iadd, 1) := by decide +kernel
theorem d_La_law_124 : decode code 124 = .ok (.iaload, 1) := by decide +kernel
theorem d_La_law_125 : decode code 125 = .ok (.aload_n 3, 1) := by decide +kernel
theorem d_La_law_126 : decode code 126 = .ok (.invokestatic 57, 3) := by decide +kernel
theorem d_La_law_129 : decode code 129 = .ok (.istore 5, 2) := by decide +kernel
theorem d_La_law_131 : decode code 131 = .ok (.aload_n 2, 1) := by decide +kernel
theorem d_La_law_132 : decode code 132 = .ok (.aload_n 0, 1) := by decide +kernel
theorem d_La_law_133 : decode code 133 = .ok (.iload 4, 2) := by decide +kernel
theorem d_La_law_135 : decode code 135 = .ok (.iconst 1, 1) := by decide +kernel
theorem d_La_law_136 : decode code 136 = .ok (.iadd, 1) := by decide +kernel
theorem d_La_law_137 : decode code 137 = .ok (.iaload, 1) := by decide +kernel
theorem d_La_law_138 : decode code 138 = .ok (.aload_n 0, 1) := by decide +kernel
theorem d_La_law_139 : decode code 139 = .ok (.iload 4, 2) := by decide +kernel
theorem d_La_law_141 : decode code 141 = .ok (.iconst 2, 1) := by decide +kernel
theorem d_La_law_142 : decode code 142 = .ok (.iadd, 1) := by decide +kernel
theorem d_La_law_143 : decode code 143 = .ok (.iaload, 1) := by decide +kernel
theorem d_La_law_144 : decode code 144 = .ok (.invokevirtual 62, 3) := by decide +kernel
theorem d_La_law_147 : decode code 147 = .ok (.istore 6, 2) := by decide +kernel
theorem d_La_law_149 : decode code 149 = .ok (.aload_n 2, 1) := by decide +kernel
theorem d_La_law_150 : decode code 150 = .ok (.invokevirtual 63, 3) := by decide +kernel
theorem d_La_law_153 : decode code 153 = .ok (.iload 5, 2) := by decide +kernel
theorem d_La_law_155 : decode code 155 = .ok (.if_icmp .eq 5, 3) := by decide +kernel
theorem d_La_law_158 : decode code 158 = .ok (.iconst 0, 1) := by decide +kernel
theorem d_La_law_159 : decode code 159 = .ok (.ireturn, 1) := by decide +kernel
theorem d_La_law_160 : decode code 160 = .ok (.iload 5, 2) := by decide +kernel
theorem d_La_law_162 : decode code 162 = .ok (.ifCond .ne 15, 3) := by decide +kernel
theorem d_La_law_165 : decode code 165 = .ok (.aload_n 3, 1) := by decide +kernel
theorem d_La_law_166 : decode code 166 = .ok (.iconst 0, 1) := by decide +kernel
theorem d_La_law_167 : decode code 167 = .ok (.laload, 1) := by decide +kernel
theorem d_La_law_168 : decode code 168 = .ok (.iload 6, 2) := by decide +kernel
theorem d_La_law_170 : decode code 170 = .ok (.i2l, 1) := by decide +kernel
theorem d_La_law_171 : decode code 171 = .ok (.lcmp, 1) := by decide +kernel
theorem d_La_law_172 : decode code 172 = .ok (.ifCond .eq 5, 3) := by decide +kernel
theorem d_La_law_175 : decode code 175 = .ok (.iconst 0, 1) := by decide +kernel
theorem d_La_law_176 : decode code 176 = .ok (.ireturn, 1) := by decide +kernel
theorem d_La_law_177 : decode code 177 = .ok (.goto 630, 3) := by decide +kernel
theorem d_La_law_180 : decode code 180 = .ok (.aload_n 1, 1) := by decide +kernel
theorem d_La_law_181 : decode code 181 = .ok (.aload_n 0, 1) := by decide +kernel
theorem d_La_law_182 : decode code 182 = .ok (.iload 4, 2) := by decide +kernel
theorem d_La_law_184 : decode code 184 = .ok (.iconst 1, 1) := by decide +kernel
theorem d_La_law_185 : decode code 185 = .ok (.iadd, 1) := by decide +kernel
theorem d_La_law_186 : decode code 186 = .ok (.iaload, 1) := by decide +kernel
theorem d_La_law_187 : decode code 187 = .ok (.ifCond .eq 7, 3) := by decide +kernel
theorem d_La_law_190 : decode code 190 = .ok (.iconst 1, 1) := by decide +kernel
theorem d_La_law_191 : decode code 191 = .ok (.goto 4, 3) := by decide +kernel
theorem d_La_law_194 : decode code 194 = .ok (.iconst 0, 1) := by decide +kernel
theorem d_La_law_195 : decode code 195 = .ok (.invokevirtual 66, 3) := by decide +kernel
theorem d_La_law_198 : decode code 198 = .ok (.aload_n 2, 1) := by decide +kernel
theorem d_La_law_199 : decode code 199 = .ok (.aload_n 0, 1) := by decide +kernel
theorem d_La_law_200 : decode code 200 = .ok (.iload 4, 2) := by decide +kernel
theorem d_La_law_202 : decode code 202 = .ok (.iconst 1, 1) := by decide +kernel
theorem d_La_law_203 : decode code 203 = .ok (.iadd, 1) := by decide +kernel
theorem d_La_law_204 : decode code 204 = .ok (.iaload, 1) := by decide +kernel
theorem d_La_law_205 : decode code 205 = .ok (.ifCond .eq 7, 3) := by decide +kernel
theorem d_La_law_208 : decode code 208 = .ok (.iconst 1, 1) := by decide +kernel
theorem d_La_law_209 : decode code 209 = .ok (.goto 4, 3) := by decide +kernel
theorem d_La_law_212 : decode code 212 = .ok (.iconst 0, 1) := by decide +kernel
theorem d_La_law_213 : decode code 213 = .ok (.invokevirtual 70, 3) := by decide +kernel
theorem d_La_law_216 : decode code 216 = .ok (.goto 591, 3) := by decide +kernel
theorem d_La_law_219 : decode code 219 = .ok (.aload_n 1, 1) := by decide +kernel
theorem d_La_law_220 : decode code 220 = .ok (.aload_n 0, 1) := by decide +kernel
theorem d_La_law_221 : decode code 221 = .ok (.iload 4, 2) := by decide +kernel
theorem d_La_law_223 : decode code 223 = .ok (.iconst 1, 1) := by decide +kernel
theorem d_La_law_224 : decode code 224 = .ok (.iadd, 1) := by decide +kernel
theorem d_La_law_225 : decode code 225 = .ok (.iaload, 1) := by decide +kernel
theorem d_La_law_226 : decode code 226 = .ok (.invokestatic 71, 3) := by decide +kernel
theorem d_La_law_229 : decode code 229 = .ok (.istore 5, 2) := by decide +kernel
theorem d_La_law_231 : decode code 231 = .ok (.aload_n 2, 1) := by decide +kernel
theorem d_La_law_232 : decode code 232 = .ok (.aload_n 0, 1) := by decide +kernel
theorem d_La_law_233 : decode code 233 = .ok (.iload 4, 2) := by decide +kernel
theorem d_La_law_235 : decode code 235 = .ok (.iconst 1, 1) := by decide +kernel
theorem d_La_law_236 : decode code 236 = .ok (.iadd, 1) := by decide +kernel
theorem d_La_law_237 : decode code 237 = .ok (.iaload, 1) := by decide +kernel
theorem d_La_law_238 : decode code 238 = .ok (.invokevirtual 74, 3) := by decide +kernel
theorem d_La_law_241 : decode code 241 = .ok (.aload_n 2, 1) := by decide +kernel
theorem d_La_law_242 : decode code 242 = .ok (.invokevirtual 63, 3) := by decide +kernel
theorem d_La_law_245 : decode code 245 = .ok (.iload 5, 2) := by decide +kernel
theorem d_La_law_247 : decode code 247 = .ok (.if_icmp .eq 5, 3) := by decide +kernel
theorem d_La_law_250 : decode code 250 = .ok (.iconst 0, 1) := by decide +kernel
theorem d_La_law_251 : decode code 251 = .ok (.ireturn, 1) := by decide +kernel
theorem d_La_law_252 : decode code 252 = .ok (.goto 555, 3) := by decide +kernel
theorem d_La_law_255 : decode code 255 = .ok (.aload_n 1, 1) := by decide +kernel
theorem d_La_law_256 : decode code 256 = .ok (.aload_n 0, 1) := by decide +kernel
theorem d_La_law_257 : decode code 257 = .ok (.iload 4, 2) := by decide +kernel
theorem d_La_law_259 : decode code 259 = .ok (.iconst 1, 1) := by decide +kernel
theorem d_La_law_260 : decode code 260 = .ok (.iadd, 1) := by decide +kernel
theorem d_La_law_261 : decode code 261 = .ok (.iaload, 1) := by decide +kernel
theorem d_La_law_262 : decode code 262 = .ok (.aload_n 0, 1) := by decide +kernel
theorem d_La_law_263 : decode code 263 = .ok (.iload 4, 2) := by decide +kernel
theorem d_La_law_265 : decode code 265 = .ok (.iconst 2, 1) := by decide +kernel
theorem d_La_law_266 : decode code 266 = .ok (.iadd, 1) := by decide +kernel
theorem d_La_law_267 : decode code 267 = .ok (.iaload, 1) := by decide +kernel
theorem d_La_law_268 : decode code 268 = .ok (.invokestatic 75, 3) := by decide +kernel
theorem d_La_law_271 : decode code 271 = .ok (.istore 5, 2) := by decide +kernel
theorem d_La_law_273 : decode code 273 = .ok (.aload_n 2, 1) := by decide +kernel
theorem d_La_law_274 : decode code 274 = .ok (.aload_n 0, 1) := by decide +kernel
theorem d_La_law_275 : decode code 275 = .ok (.iload 4, 2) := by decide +kernel
theorem d_La_law_277 : decode code 277 = .ok (.iconst 1, 1) := by decide +kernel
theorem d_La_law_278 : decode code 278 = .ok (.iadd, 1) := by decide +kernel
theorem d_La_law_279 : decode code 279 = .ok (.iaload, 1) := by decide +kernel
theorem d_La_law_280 : decode code 280 = .ok (.aload_n 0, 1) := by decide +kernel
theorem d_La_law_281 : decode code 281 = .ok (.iload 4, 2) := by decide +kernel
theorem d_La_law_283 : decode code 283 = .ok (.iconst 2, 1) := by decide +kernel
theorem d_La_law_284 : decode code 284 = .ok (.iadd, 1) := by decide +kernel
theorem d_La_law_285 : decode code 285 = .ok (.iaload, 1) := by decide +kernel
theorem d_La_law_286 : decode code 286 = .ok (.invokevirtual 78, 3) := by decide +kernel
theorem d_La_law_289 : decode code 289 = .ok (.aload_n 2, 1) := by decide +kernel
theorem d_La_law_290 : decode code 290 = .ok (.invokevirtual 63, 3) := by decide +kernel
theorem d_La_law_293 : decode code 293 = .ok (.iload 5, 2) := by decide +kernel
theorem d_La_law_295 : decode code 295 = .ok (.if_icmp .eq 5, 3) := by decide +kernel
theorem d_La_law_298 : decode code 298 = .ok (.iconst 0, 1) := by decide +kernel
theorem d_La_law_299 : decode code 299 = .ok (.ireturn, 1) := by decide +kernel
theorem d_La_law_300 : decode code 300 = .ok (.goto 507, 3) := by decide +kernel
theorem d_La_law_303 : decode code 303 = .ok (.aload_n 1, 1) := by decide +kernel
theorem d_La_law_304 : decode code 304 = .ok (.aload_n 3, 1) := by decide +kernel
theorem d_La_law_305 : decode code 305 = .ok (.invokestatic 79, 3) := by decide +kernel
theorem d_La_law_308 : decode code 308 = .ok (.istore 5, 2) := by decide +kernel
theorem d_La_law_310 : decode code 310 = .ok (.aload_n 2, 1) := by decide +kernel
theorem d_La_law_311 : decode code 311 = .ok (.invokevirtual 82, 3) := by decide +kernel
theorem d_La_law_314 : decode code 314 = .ok (.istore 6, 2) := by decide +kernel
theorem d_La_law_316 : decode code 316 = .ok (.aload_n 2, 1) := by decide +kernel
theorem d_La_law_317 : decode code 317 = .ok (.invokevirtual 63, 3) := by decide +kernel
theorem d_La_law_320 : decode code 320 = .ok (.iload 5, 2) := by decide +kernel
theorem d_La_law_322 : decode code 322 = .ok (.if_icmp .eq 5, 3) := by decide +kernel
theorem d_La_law_325 : decode code 325 = .ok (.iconst 0, 1) := by decide +kernel
theorem d_La_law_326 : decode code 326 = .ok (.ireturn, 1) := by decide +kernel
theorem d_La_law_327 : decode code 327 = .ok (.iload 5, 2) := by decide +kernel
theorem d_La_law_329 : decode code 329 = .ok (.ifCond .ne 15, 3) := by decide +kernel
theorem d_La_law_332 : decode code 332 = .ok (.aload_n 3, 1) := by decide +kernel
theorem d_La_law_333 : decode code 333 = .ok (.iconst 0, 1) := by decide +kernel
theorem d_La_law_334 : decode code 334 = .ok (.laload, 1) := by decide +kernel
theorem d_La_law_335 : decode code 335 = .ok (.iload 6, 2) := by decide +kernel
theorem d_La_law_337 : decode code 337 = .ok (.i2l, 1) := by decide +kernel
theorem d_La_law_338 : decode code 338 = .ok (.lcmp, 1) := by decide +kernel
theorem d_La_law_339 : decode code 339 = .ok (.ifCond .eq 5, 3) := by decide +kernel
theorem d_La_law_342 : decode code 342 = .ok (.iconst 0, 1) := by decide +kernel
theorem d_La_law_343 : decode code 343 = .ok (.ireturn, 1) := by decide +kernel
theorem d_La_law_344 : decode code 344 = .ok (.goto 463, 3) := by decide +kernel
theorem d_La_law_347 : decode code 347 = .ok (.aload_n 1, 1) := by decide +kernel
theorem d_La_law_348 : decode code 348 = .ok (.invokevirtual 83, 3) := by decide +kernel
theorem d_La_law_351 : decode code 351 = .ok (.aload_n 2, 1) := by decide +kernel
theorem d_La_law_352 : decode code 352 = .ok (.invokevirtual 86, 3) := by decide +kernel
theorem d_La_law_355 : decode code 355 = .ok (.if_icmp .eq 452, 3) := by decide +kernel
theorem d_La_law_358 : decode code 358 = .ok (.iconst 0, 1) := by decide +kernel
theorem d_La_law_359 : decode code 359 = .ok (.ireturn, 1) := by decide +kernel
theorem d_La_law_360 : decode code 360 = .ok (.aload_n 1, 1) := by decide +kernel
theorem d_La_law_361 : decode code 361 = .ok (.aload_n 0, 1) := by decide +kernel
theorem d_La_law_362 : decode code 362 = .ok (.iload 4, 2) := by decide +kernel
theorem d_La_law_364 : decode code 364 = .ok (.iconst 1, 1) := by decide +kernel
theorem d_La_law_365 : decode code 365 = .ok (.iadd, 1) := by decide +kernel
theorem d_La_law_366 : decode code 366 = .ok (.iaload, 1) := by decide +kernel
theorem d_La_law_367 : decode code 367 = .ok (.aload_n 0, 1) := by decide +kernel
theorem d_La_law_368 : decode code 368 = .ok (.iload 4, 2) := by decide +kernel
theorem d_La_law_370 : decode code 370 = .ok (.iconst 2, 1) := by decide +kernel
theorem d_La_law_371 : decode code 371 = .ok (.iadd, 1) := by decide +kernel
theorem d_La_law_372 : decode code 372 = .ok (.iaload, 1) := by decide +kernel
theorem d_La_law_373 : decode code 373 = .ok (.aload_n 0, 1) := by decide +kernel
theorem d_La_law_374 : decode code 374 = .ok (.iload 4, 2) := by decide +kernel
theorem d_La_law_376 : decode code 376 = .ok (.iconst 3, 1) := by decide +kernel
theorem d_La_law_377 : decode code 377 = .ok (.iadd, 1) := by decide +kernel
theorem d_La_law_378 : decode code 378 = .ok (.iaload, 1) := by decide +kernel
theorem d_La_law_379 : decode code 379 = .ok (.ifCond .eq 7, 3) := by decide +kernel
theorem d_La_law_382 : decode code 382 = .ok (.iconst 1, 1) := by decide +kernel
theorem d_La_law_383 : decode code 383 = .ok (.goto 4, 3) := by decide +kernel
theorem d_La_law_386 : decode code 386 = .ok (.iconst 0, 1) := by decide +kernel
theorem d_La_law_387 : decode code 387 = .ok (.aload_n 3, 1) := by decide +kernel
theorem d_La_law_388 : decode code 388 = .ok (.invokestatic 87, 3) := by decide +kernel
theorem d_La_law_391 : decode code 391 = .ok (.istore 5, 2) := by decide +kernel
theorem d_La_law_393 : decode code 393 = .ok (.aload_n 2, 1) := by decide +kernel
theorem d_La_law_394 : decode code 394 = .ok (.aload_n 0, 1) := by decide +kernel
theorem d_La_law_395 : decode code 395 = .ok (.iload 4, 2) := by decide +kernel
theorem d_La_law_397 : decode code 397 = .ok (.iconst 1, 1) := by decide +kernel
theorem d_La_law_398 : decode code 398 = .ok (.iadd, 1) := by decide +kernel
theorem d_La_law_399 : decode code 399 = .ok (.iaload, 1) := by decide +kernel
theorem d_La_law_400 : decode code 400 = .ok (.aload_n 0, 1) := by decide +kernel
theorem d_La_law_401 : decode code 401 = .ok (.iload 4, 2) := by decide +kernel
theorem d_La_law_403 : decode code 403 = .ok (.iconst 2, 1) := by decide +kernel
theorem d_La_law_404 : decode code 404 = .ok (.iadd, 1) := by decide +kernel
theorem d_La_law_405 : decode code 405 = .ok (.iaload, 1) := by decide +kernel
theorem d_La_law_406 : decode code 406 = .ok (.aload_n 0, 1) := by decide +kernel
theorem d_La_law_407 : decode code 407 = .ok (.iload 4, 2) := by decide +kernel
theorem d_La_law_409 : decode code 409 = .ok (.iconst 3, 1) := by decide +kernel
theorem d_La_law_410 : decode code 410 = .ok (.iadd, 1) := by decide +kernel
theorem d_La_law_411 : decode code 411 = .ok (.iaload, 1) := by decide +kernel
theorem d_La_law_412 : decode code 412 = .ok (.ifCond .eq 7, 3) := by decide +kernel
theorem d_La_law_415 : decode code 415 = .ok (.iconst 1, 1) := by decide +kernel
theorem d_La_law_416 : decode code 416 = .ok (.goto 4, 3) := by decide +kernel
theorem d_La_law_419 : decode code 419 = .ok (.iconst 0, 1) := by decide +kernel
theorem d_La_law_420 : decode code 420 = .ok (.invokevirtual 90, 3) := by decide +kernel
theorem d_La_law_423 : decode code 423 = .ok (.istore 6, 2) := by decide +kernel
theorem d_La_law_425 : decode code 425 = .ok (.aload_n 2, 1) := by decide +kernel
theorem d_La_law_426 : decode code 426 = .ok (.invokevirtual 63, 3) := by decide +kernel
theorem d_La_law_429 : decode code 429 = .ok (.iload 5, 2) := by decide +kernel
theorem d_La_law_431 : decode code 431 = .ok (.if_icmp .eq 5, 3) := by decide +kernel
theorem d_La_law_434 : decode code 434 = .ok (.iconst 0, 1) := by decide +kernel
theorem d_La_law_435 : decode code 435 = .ok (.ireturn, 1) := by decide +kernel
theorem d_La_law_436 : decode code 436 = .ok (.iload 5, 2) := by decide +kernel
theorem d_La_law_438 : decode code 438 = .ok (.ifCond .ne 15, 3) := by decide +kernel
theorem d_La_law_441 : decode code 441 = .ok (.aload_n 3, 1) := by decide +kernel
theorem d_La_law_442 : decode code 442 = .ok (.iconst 0, 1) := by decide +kernel
theorem d_La_law_443 : decode code 443 = .ok (.laload, 1) := by decide +kernel
theorem d_La_law_444 : decode code 444 = .ok (.iload 6, 2) := by decide +kernel
theorem d_La_law_446 : decode code 446 = .ok (.i2l, 1) := by decide +kernel
theorem d_La_law_447 : decode code 447 = .ok (.lcmp, 1) := by decide +kernel
theorem d_La_law_448 : decode code 448 = .ok (.ifCond .eq 5, 3) := by decide +kernel
theorem d_La_law_451 : decode code 451 = .ok (.iconst 0, 1) := by decide +kernel
theorem d_La_law_452 : decode code 452 = .ok (.ireturn, 1) := by decide +kernel
theorem d_La_law_453 : decode code 453 = .ok (.goto 354, 3) := by decide +kernel
theorem d_La_law_456 : decode code 456 = .ok (.aload_n 1, 1) := by decide +kernel
theorem d_La_law_457 : decode code 457 = .ok (.aload_n 0, 1) := by decide +kernel
theorem d_La_law_458 : decode code 458 = .ok (.iload 4, 2) := by decide +kernel
theorem d_La_law_460 : decode code 460 = .ok (.iconst 1, 1) := by decide +kernel
theorem d_La_law_461 : decode code 461 = .ok (.iadd, 1) := by decide +kernel
theorem d_La_law_462 : decode code 462 = .ok (.iaload, 1) := by decide +kernel
theorem d_La_law_463 : decode code 463 = .ok (.aload_n 0, 1) := by decide +kernel
theorem d_La_law_464 : decode code 464 = .ok (.iload 4, 2) := by decide +kernel
theorem d_La_law_466 : decode code 466 = .ok (.iconst 2, 1) := by decide +kernel
theorem d_La_law_467 : decode code 467 = .ok (.iadd, 1) := by decide +kernel
theorem d_La_law_468 : decode code 468 = .ok (.iaload, 1) := by decide +kernel
theorem d_La_law_469 : decode code 469 = .ok (.aload_n 0, 1) := by decide +kernel
theorem d_La_law_470 : decode code 470 = .ok (.iload 4, 2) := by decide +kernel
theorem d_La_law_472 : decode code 472 = .ok (.iconst 3, 1) := by decide +kernel
theorem d_La_law_473 : decode code 473 = .ok (.iadd, 1) := by decide +kernel
theorem d_La_law_474 : decode code 474 = .ok (.iaload, 1) := by decide +kernel
theorem d_La_law_475 : decode code 475 = .ok (.ifCond .eq 7, 3) := by decide +kernel
theorem d_La_law_478 : decode code 478 = .ok (.iconst 1, 1) := by decide +kernel
theorem d_La_law_479 : decode code 479 = .ok (.goto 4, 3) := by decide +kernel
theorem d_La_law_482 : decode code 482 = .ok (.iconst 0, 1) := by decide +kernel
theorem d_La_law_483 : decode code 483 = .ok (.aload_n 3, 1) := by decide +kernel
theorem d_La_law_484 : decode code 484 = .ok (.invokestatic 91, 3) := by decide +kernel
theorem d_La_law_487 : decode code 487 = .ok (.istore 5, 2) := by decide +kernel
theorem d_La_law_489 : decode code 489 = .ok (.aload_n 2, 1) := by decide +kernel
theorem d_La_law_490 : decode code 490 = .ok (.aload_n 0, 1) := by decide +kernel
theorem d_La_law_491 : decode code 491 = .ok (.iload 4, 2) := by decide +kernel
theorem d_La_law_493 : decode code 493 = .ok (.iconst 1, 1) := by decide +kernel
theorem d_La_law_494 : decode code 494 = .ok (.iadd, 1) := by decide +kernel
theorem d_La_law_495 : decode code 495 = .ok (.iaload, 1) := by decide +kernel
theorem d_La_law_496 : decode code 496 = .ok (.aload_n 0, 1) := by decide +kernel
theorem d_La_law_497 : decode code 497 = .ok (.iload 4, 2) := by decide +kernel
theorem d_La_law_499 : decode code 499 = .ok (.iconst 2, 1) := by decide +kernel
theorem d_La_law_500 : decode code 500 = .ok (.iadd, 1) := by decide +kernel
theorem d_La_law_501 : decode code 501 = .ok (.iaload, 1) := by decide +kernel
theorem d_La_law_502 : decode code 502 = .ok (.aload_n 0, 1) := by decide +kernel
theorem d_La_law_503 : decode code 503 = .ok (.iload 4, 2) := by decide +kernel
theorem d_La_law_505 : decode code 505 = .ok (.iconst 3, 1) := by decide +kernel
theorem d_La_law_506 : decode code 506 = .ok (.iadd, 1) := by decide +kernel
theorem d_La_law_507 : decode code 507 = .ok (.iaload, 1) := by decide +kernel
theorem d_La_law_508 : decode code 508 = .ok (.ifCond .eq 7, 3) := by decide +kernel
theorem d_La_law_511 : decode code 511 = .ok (.iconst 1, 1) := by decide +kernel
theorem d_La_law_512 : decode code 512 = .ok (.goto 4, 3) := by decide +kernel
theorem d_La_law_515 : decode code 515 = .ok (.iconst 0, 1) := by decide +kernel
theorem d_La_law_516 : decode code 516 = .ok (.invokevirtual 93, 3) := by decide +kernel
theorem d_La_law_519 : decode code 519 = .ok (.istore 6, 2) := by decide +kernel
theorem d_La_law_521 : decode code 521 = .ok (.aload_n 2, 1) := by decide +kernel
theorem d_La_law_522 : decode code 522 = .ok (.invokevirtual 63, 3) := by decide +kernel
theorem d_La_law_525 : decode code 525 = .ok (.iload 5, 2) := by decide +kernel
theorem d_La_law_527 : decode code 527 = .ok (.if_icmp .eq 5, 3) := by decide +kernel
theorem d_La_law_530 : decode code 530 = .ok (.iconst 0, 1) := by decide +kernel
theorem d_La_law_531 : decode code 531 = .ok (.ireturn, 1) := by decide +kernel
theorem d_La_law_532 : decode code 532 = .ok (.iload 5, 2) := by decide +kernel
theorem d_La_law_534 : decode code 534 = .ok (.ifCond .ne 15, 3) := by decide +kernel
theorem d_La_law_537 : decode code 537 = .ok (.aload_n 3, 1) := by decide +kernel
theorem d_La_law_538 : decode code 538 = .ok (.iconst 0, 1) := by decide +kernel
theorem d_La_law_539 : decode code 539 = .ok (.laload, 1) := by decide +kernel
theorem d_La_law_540 : decode code 540 = .ok (.iload 6, 2) := by decide +kernel
theorem d_La_law_542 : decode code 542 = .ok (.i2l, 1) := by decide +kernel
theorem d_La_law_543 : decode code 543 = .ok (.lcmp, 1) := by decide +kernel
theorem d_La_law_544 : decode code 544 = .ok (.ifCond .eq 5, 3) := by decide +kernel
theorem d_La_law_547 : decode code 547 = .ok (.iconst 0, 1) := by decide +kernel
theorem d_La_law_548 : decode code 548 = .ok (.ireturn, 1) := by decide +kernel
theorem d_La_law_549 : decode code 549 = .ok (.goto 258, 3) := by decide +kernel
theorem d_La_law_552 : decode code 552 = .ok (.aload_n 1, 1) := by decide +kernel
theorem d_La_law_553 : decode code 553 = .ok (.invokevirtual 94, 3) := by decide +kernel
theorem d_La_law_556 : decode code 556 = .ok (.aload_n 2, 1) := by decide +kernel
theorem d_La_law_557 : decode code 557 = .ok (.invokevirtual 97, 3) := by decide +kernel
theorem d_La_law_560 : decode code 560 = .ok (.if_icmp .eq 247, 3) := by decide +kernel
theorem d_La_law_563 : decode code 563 = .ok (.iconst 0, 1) := by decide +kernel
theorem d_La_law_564 : decode code 564 = .ok (.ireturn, 1) := by decide +kernel
theorem d_La_law_565 : decode code 565 = .ok (.aload_n 1, 1) := by decide +kernel
theorem d_La_law_566 : decode code 566 = .ok (.invokevirtual 98, 3) := by decide +kernel
theorem d_La_law_569 : decode code 569 = .ok (.aload_n 2, 1) := by decide +kernel
theorem d_La_law_570 : decode code 570 = .ok (.invokevirtual 101, 3) := by decide +kernel
theorem d_La_law_573 : decode code 573 = .ok (.if_icmp .eq 234, 3) := by decide +kernel
theorem d_La_law_576 : decode code 576 = .ok (.iconst 0, 1) := by decide +kernel
theorem d_La_law_577 : decode code 577 = .ok (.ireturn, 1) := by decide +kernel
theorem d_La_law_578 : decode code 578 = .ok (.aload_n 1, 1) := by decide +kernel
theorem d_La_law_579 : decode code 579 = .ok (.invokevirtual 102, 3) := by decide +kernel
theorem d_La_law_582 : decode code 582 = .ok (.aload_n 2, 1) := by decide +kernel
theorem d_La_law_583 : decode code 583 = .ok (.invokevirtual 105, 3) := by decide +kernel
theorem d_La_law_586 : decode code 586 = .ok (.if_icmp .eq 221, 3) := by decide +kernel
theorem d_La_law_589 : decode code 589 = .ok (.iconst 0, 1) := by decide +kernel
theorem d_La_law_590 : decode code 590 = .ok (.ireturn, 1) := by decide +kernel
theorem d_La_law_591 : decode code 591 = .ok (.aload_n 1, 1) := by decide +kernel
theorem d_La_law_592 : decode code 592 = .ok (.aload_n 0, 1) := by decide +kernel
theorem d_La_law_593 : decode code 593 = .ok (.iload 4, 2) := by decide +kernel
theorem d_La_law_595 : decode code 595 = .ok (.iconst 1, 1) := by decide +kernel
theorem d_La_law_596 : decode code 596 = .ok (.iadd, 1) := by decide +kernel
theorem d_La_law_597 : decode code 597 = .ok (.iaload, 1) := by decide +kernel
theorem d_La_law_598 : decode code 598 = .ok (.aload_n 3, 1) := by decide +kernel
theorem d_La_law_599 : decode code 599 = .ok (.invokestatic 106, 3) := by decide +kernel
theorem d_La_law_602 : decode code 602 = .ok (.istore 5, 2) := by decide +kernel
theorem d_La_law_604 : decode code 604 = .ok (.aload_n 2, 1) := by decide +kernel
theorem d_La_law_605 : decode code 605 = .ok (.aload_n 0, 1) := by decide +kernel
theorem d_La_law_606 : decode code 606 = .ok (.iload 4, 2) := by decide +kernel
theorem d_La_law_608 : decode code 608 = .ok (.iconst 1, 1) := by decide +kernel
theorem d_La_law_609 : decode code 609 = .ok (.iadd, 1) := by decide +kernel
theorem d_La_law_610 : decode code 610 = .ok (.iaload, 1) := by decide +kernel
theorem d_La_law_611 : decode code 611 = .ok (.invokevirtual 109, 3) := by decide +kernel
theorem d_La_law_614 : decode code 614 = .ok (.istore 6, 2) := by decide +kernel
theorem d_La_law_616 : decode code 616 = .ok (.aload_n 2, 1) := by decide +kernel
theorem d_La_law_617 : decode code 617 = .ok (.invokevirtual 63, 3) := by decide +kernel
theorem d_La_law_620 : decode code 620 = .ok (.iload 5, 2) := by decide +kernel
theorem d_La_law_622 : decode code 622 = .ok (.if_icmp .eq 5, 3) := by decide +kernel
theorem d_La_law_625 : decode code 625 = .ok (.iconst 0, 1) := by decide +kernel
theorem d_La_law_626 : decode code 626 = .ok (.ireturn, 1) := by decide +kernel
theorem d_La_law_627 : decode code 627 = .ok (.iload 5, 2) := by decide +kernel
theorem d_La_law_629 : decode code 629 = .ok (.ifCond .ne 15, 3) := by decide +kernel
theorem d_La_law_632 : decode code 632 = .ok (.aload_n 3, 1) := by decide +kernel
theorem d_La_law_633 : decode code 633 = .ok (.iconst 0, 1) := by decide +kernel
theorem d_La_law_634 : decode code 634 = .ok (.laload, 1) := by decide +kernel
theorem d_La_law_635 : decode code 635 = .ok (.iload 6, 2) := by decide +kernel
theorem d_La_law_637 : decode code 637 = .ok (.i2l, 1) := by decide +kernel
theorem d_La_law_638 : decode code 638 = .ok (.lcmp, 1) := by decide +kernel
theorem d_La_law_639 : decode code 639 = .ok (.ifCond .eq 5, 3) := by decide +kernel
theorem d_La_law_642 : decode code 642 = .ok (.iconst 0, 1) := by decide +kernel
theorem d_La_law_643 : decode code 643 = .ok (.ireturn, 1) := by decide +kernel
theorem d_La_law_644 : decode code 644 = .ok (.goto 163, 3) := by decide +kernel
theorem d_La_law_647 : decode code 647 = .ok (.aload_n 1, 1) := by decide +kernel
theorem d_La_law_648 : decode code 648 = .ok (.aload_n 0, 1) := by decide +kernel
theorem d_La_law_649 : decode code 649 = .ok (.iload 4, 2) := by decide +kernel
theorem d_La_law_651 : decode code 651 = .ok (.iconst 1, 1) := by decide +kernel
theorem d_La_law_652 : decode code 652 = .ok (.iadd, 1) := by decide +kernel
theorem d_La_law_653 : decode code 653 = .ok (.iaload, 1) := by decide +kernel
theorem d_La_law_654 : decode code 654 = .ok (.aload_n 0, 1) := by decide +kernel
theorem d_La_law_655 : decode code 655 = .ok (.iload 4, 2) := by decide +kernel
theorem d_La_law_657 : decode code 657 = .ok (.iconst 2, 1) := by decide +kernel
theorem d_La_law_658 : decode code 658 = .ok (.iadd, 1) := by decide +kernel
theorem d_La_law_659 : decode code 659 = .ok (.iaload, 1) := by decide +kernel
theorem d_La_law_660 : decode code 660 = .ok (.invokestatic 110, 3) := by decide +kernel
theorem d_La_law_663 : decode code 663 = .ok (.istore 5, 2) := by decide +kernel
theorem d_La_law_665 : decode code 665 = .ok (.aload_n 2, 1) := by decide +kernel
theorem d_La_law_666 : decode code 666 = .ok (.aload_n 0, 1) := by decide +kernel
theorem d_La_law_667 : decode code 667 = .ok (.iload 4, 2) := by decide +kernel
theorem d_La_law_669 : decode code 669 = .ok (.iconst 1, 1) := by decide +kernel
theorem d_La_law_670 : decode code 670 = .ok (.iadd, 1) := by decide +kernel
theorem d_La_law_671 : decode code 671 = .ok (.iaload, 1) := by decide +kernel
theorem d_La_law_672 : decode code 672 = .ok (.aload_n 0, 1) := by decide +kernel
theorem d_La_law_673 : decode code 673 = .ok (.iload 4, 2) := by decide +kernel
theorem d_La_law_675 : decode code 675 = .ok (.iconst 2, 1) := by decide +kernel
theorem d_La_law_676 : decode code 676 = .ok (.iadd, 1) := by decide +kernel
theorem d_La_law_677 : decode code 677 = .ok (.iaload, 1) := by decide +kernel
theorem d_La_law_678 : decode code 678 = .ok (.invokevirtual 112, 3) := by decide +kernel
theorem d_La_law_681 : decode code 681 = .ok (.aload_n 2, 1) := by decide +kernel
theorem d_La_law_682 : decode code 682 = .ok (.invokevirtual 63, 3) := by decide +kernel
theorem d_La_law_685 : decode code 685 = .ok (.iload 5, 2) := by decide +kernel
theorem d_La_law_687 : decode code 687 = .ok (.if_icmp .eq 5, 3) := by decide +kernel
theorem d_La_law_690 : decode code 690 = .ok (.iconst 0, 1) := by decide +kernel
theorem d_La_law_691 : decode code 691 = .ok (.ireturn, 1) := by decide +kernel
theorem d_La_law_692 : decode code 692 = .ok (.goto 115, 3) := by decide +kernel
theorem d_La_law_695 : decode code 695 = .ok (.aload_n 1, 1) := by decide +kernel
theorem d_La_law_696 : decode code 696 = .ok (.aload_n 0, 1) := by decide +kernel
theorem d_La_law_697 : decode code 697 = .ok (.iload 4, 2) := by decide +kernel
theorem d_La_law_699 : decode code 699 = .ok (.iconst 1, 1) := by decide +kernel
theorem d_La_law_700 : decode code 700 = .ok (.iadd, 1) := by decide +kernel
theorem d_La_law_701 : decode code 701 = .ok (.iaload, 1) := by decide +kernel
theorem d_La_law_702 : decode code 702 = .ok (.aload_n 3, 1) := by decide +kernel
theorem d_La_law_703 : decode code 703 = .ok (.invokestatic 113, 3) := by decide +kernel
theorem d_La_law_706 : decode code 706 = .ok (.istore 5, 2) := by decide +kernel
theorem d_La_law_708 : decode code 708 = .ok (.aload_n 2, 1) := by decide +kernel
theorem d_La_law_709 : decode code 709 = .ok (.aload_n 0, 1) := by decide +kernel
theorem d_La_law_710 : decode code 710 = .ok (.iload 4, 2) := by decide +kernel
theorem d_La_law_712 : decode code 712 = .ok (.iconst 1, 1) := by decide +kernel
theorem d_La_law_713 : decode code 713 = .ok (.iadd, 1) := by decide +kernel
theorem d_La_law_714 : decode code 714 = .ok (.iaload, 1) := by decide +kernel
theorem d_La_law_715 : decode code 715 = .ok (.invokevirtual 115, 3) := by decide +kernel
theorem d_La_law_718 : decode code 718 = .ok (.istore 6, 2) := by decide +kernel
theorem d_La_law_720 : decode code 720 = .ok (.aload_n 2, 1) := by decide +kernel
theorem d_La_law_721 : decode code 721 = .ok (.invokevirtual 63, 3) := by decide +kernel
theorem d_La_law_724 : decode code 724 = .ok (.iload 5, 2) := by decide +kernel
theorem d_La_law_726 : decode code 726 = .ok (.if_icmp .eq 5, 3) := by decide +kernel
theorem d_La_law_729 : decode code 729 = .ok (.iconst 0, 1) := by decide +kernel
theorem d_La_law_730 : decode code 730 = .ok (.ireturn, 1) := by decide +kernel
theorem d_La_law_731 : decode code 731 = .ok (.iload 5, 2) := by decide +kernel
theorem d_La_law_733 : decode code 733 = .ok (.ifCond .ne 15, 3) := by decide +kernel
theorem d_La_law_736 : decode code 736 = .ok (.aload_n 3, 1) := by decide +kernel
theorem d_La_law_737 : decode code 737 = .ok (.iconst 0, 1) := by decide +kernel
theorem d_La_law_738 : decode code 738 = .ok (.laload, 1) := by decide +kernel
theorem d_La_law_739 : decode code 739 = .ok (.iload 6, 2) := by decide +kernel
theorem d_La_law_741 : decode code 741 = .ok (.i2l, 1) := by decide +kernel
theorem d_La_law_742 : decode code 742 = .ok (.lcmp, 1) := by decide +kernel
theorem d_La_law_743 : decode code 743 = .ok (.ifCond .eq 5, 3) := by decide +kernel
theorem d_La_law_746 : decode code 746 = .ok (.iconst 0, 1) := by decide +kernel
theorem d_La_law_747 : decode code 747 = .ok (.ireturn, 1) := by decide +kernel
theorem d_La_law_748 : decode code 748 = .ok (.goto 59, 3) := by decide +kernel
theorem d_La_law_751 : decode code 751 = .ok (.aload_n 1, 1) := by decide +kernel
theorem d_La_law_752 : decode code 752 = .ok (.aload_n 0, 1) := by decide +kernel
theorem d_La_law_753 : decode code 753 = .ok (.iload 4, 2) := by decide +kernel
theorem d_La_law_755 : decode code 755 = .ok (.iconst 1, 1) := by decide +kernel
theorem d_La_law_756 : decode code 756 = .ok (.iadd, 1) := by decide +kernel
theorem d_La_law_757 : decode code 757 = .ok (.iaload, 1) := by decide +kernel
theorem d_La_law_758 : decode code 758 = .ok (.aload_n 3, 1) := by decide +kernel
theorem d_La_law_759 : decode code 759 = .ok (.invokestatic 116, 3) := by decide +kernel
theorem d_La_law_762 : decode code 762 = .ok (.istore 5, 2) := by decide +kernel
theorem d_La_law_764 : decode code 764 = .ok (.aload_n 2, 1) := by decide +kernel
theorem d_La_law_765 : decode code 765 = .ok (.aload_n 0, 1) := by decide +kernel
theorem d_La_law_766 : decode code 766 = .ok (.iload 4, 2) := by decide +kernel
theorem d_La_law_768 : decode code 768 = .ok (.iconst 1, 1) := by decide +kernel
theorem d_La_law_769 : decode code 769 = .ok (.iadd, 1) := by decide +kernel
theorem d_La_law_770 : decode code 770 = .ok (.iaload, 1) := by decide +kernel
theorem d_La_law_771 : decode code 771 = .ok (.invokevirtual 118, 3) := by decide +kernel
theorem d_La_law_774 : decode code 774 = .ok (.istore 6, 2) := by decide +kernel
theorem d_La_law_776 : decode code 776 = .ok (.aload_n 2, 1) := by decide +kernel
theorem d_La_law_777 : decode code 777 = .ok (.invokevirtual 63, 3) := by decide +kernel
theorem d_La_law_780 : decode code 780 = .ok (.iload 5, 2) := by decide +kernel
theorem d_La_law_782 : decode code 782 = .ok (.if_icmp .eq 5, 3) := by decide +kernel
theorem d_La_law_785 : decode code 785 = .ok (.iconst 0, 1) := by decide +kernel
theorem d_La_law_786 : decode code 786 = .ok (.ireturn, 1) := by decide +kernel
theorem d_La_law_787 : decode code 787 = .ok (.iload 5, 2) := by decide +kernel
theorem d_La_law_789 : decode code 789 = .ok (.ifCond .ne 15, 3) := by decide +kernel
theorem d_La_law_792 : decode code 792 = .ok (.aload_n 3, 1) := by decide +kernel
theorem d_La_law_793 : decode code 793 = .ok (.iconst 0, 1) := by decide +kernel
theorem d_La_law_794 : decode code 794 = .ok (.laload, 1) := by decide +kernel
theorem d_La_law_795 : decode code 795 = .ok (.iload 6, 2) := by decide +kernel
theorem d_La_law_797 : decode code 797 = .ok (.i2l, 1) := by decide +kernel
theorem d_La_law_798 : decode code 798 = .ok (.lcmp, 1) := by decide +kernel
theorem d_La_law_799 : decode code 799 = .ok (.ifCond .eq 5, 3) := by decide +kernel
theorem d_La_law_802 : decode code 802 = .ok (.iconst 0, 1) := by decide +kernel
theorem d_La_law_803 : decode code 803 = .ok (.ireturn, 1) := by decide +kernel
theorem d_La_law_804 : decode code 804 = .ok (.goto 3, 3) := by decide +kernel
theorem d_La_law_807 : decode code 807 = .ok (.iinc 4 4, 3) := by decide +kernel
theorem d_La_law_810 : decode code 810 = .ok (.goto (-787), 3) := by decide +kernel
theorem d_La_law_813 : decode code 813 = .ok (.iconst 1, 1) := by decide +kernel
theorem d_La_law_814 : decode code 814 = .ok (.ireturn, 1) := by decide +kernel
