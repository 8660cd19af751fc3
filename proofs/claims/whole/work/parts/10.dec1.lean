theorem d_Re_init_0 : decode prog_8_method_1_code 0 = .ok (.aload_n 0, 1) := by decide +kernel
theorem d_Re_init_1 : decode prog_8_method_1_code 1 = .ok (.invokespecial 3, 3) := by decide +kernel
theorem d_Re_init_4 : decode prog_8_method_1_code 4 = .ok (.aload_n 0, 1) := by decide +kernel
theorem d_Re_init_5 : decode prog_8_method_1_code 5 = .ok (.sipush 160, 3) := by decide +kernel
theorem d_Re_init_8 : decode prog_8_method_1_code 8 = .ok (.newarray .int, 2) := by decide +kernel
theorem d_Re_init_10 : decode prog_8_method_1_code 10 = .ok (.putfield 9, 3) := by decide +kernel
theorem d_Re_init_13 : decode prog_8_method_1_code 13 = .ok (.aload_n 0, 1) := by decide +kernel
theorem d_Re_init_14 : decode prog_8_method_1_code 14 = .ok (.iconst 0, 1) := by decide +kernel
theorem d_Re_init_15 : decode prog_8_method_1_code 15 = .ok (.putfield 15, 3) := by decide +kernel
theorem d_Re_init_18 : decode prog_8_method_1_code 18 = .ok (.return_, 1) := by decide +kernel
theorem d_Rr_init_0 : decode prog_7_method_1_code 0 = .ok (.aload_n 0, 1) := by decide +kernel
theorem d_Rr_init_1 : decode prog_7_method_1_code 1 = .ok (.invokespecial 1, 3) := by decide +kernel
theorem d_Rr_init_4 : decode prog_7_method_1_code 4 = .ok (.aload_n 0, 1) := by decide +kernel
theorem d_Rr_init_5 : decode prog_7_method_1_code 5 = .ok (.iconst 0, 1) := by decide +kernel
theorem d_Rr_init_6 : decode prog_7_method_1_code 6 = .ok (.putfield 7, 3) := by decide +kernel
theorem d_Rr_init_9 : decode prog_7_method_1_code 9 = .ok (.aload_n 0, 1) := by decide +kernel
theorem d_Rr_init_10 : decode prog_7_method_1_code 10 = .ok (.iload_n 1, 1) := by decide +kernel
theorem d_Rr_init_11 : decode prog_7_method_1_code 11 = .ok (.anewarray 13, 3) := by decide +kernel
theorem d_Rr_init_14 : decode prog_7_method_1_code 14 = .ok (.putfield 15, 3) := by decide +kernel
theorem d_Rr_init_17 : decode prog_7_method_1_code 17 = .ok (.iconst 0, 1) := by decide +kernel
theorem d_Rr_init_18 : decode prog_7_method_1_code 18 = .ok (.istore_n 2, 1) := by decide +kernel
theorem d_Rr_init_19 : decode prog_7_method_1_code 19 = .ok (.iload_n 2, 1) := by decide +kernel
theorem d_Rr_init_20 : decode prog_7_method_1_code 20 = .ok (.iload_n 1, 1) := by decide +kernel
theorem d_Rr_init_21 : decode prog_7_method_1_code 21 = .ok (.if_icmp .ge 22, 3) := by decide +kernel
theorem d_Rr_init_24 : decode prog_7_method_1_code 24 = .ok (.aload_n 0, 1) := by decide +kernel
theorem d_Rr_init_25 : decode prog_7_method_1_code 25 = .ok (.getfield 15, 3) := by decide +kernel
theorem d_Rr_init_28 : decode prog_7_method_1_code 28 = .ok (.iload_n 2, 1) := by decide +kernel
theorem d_Rr_init_29 : decode prog_7_method_1_code 29 = .ok (.new 13, 3) := by decide +kernel
theorem d_Rr_init_32 : decode prog_7_method_1_code 32 = .ok (.dup, 1) := by decide +kernel
theorem d_Rr_init_33 : decode prog_7_method_1_code 33 = .ok (.invokespecial 19, 3) := by decide +kernel
theorem d_Rr_init_36 : decode prog_7_method_1_code 36 = .ok (.aastore, 1) := by decide +kernel
theorem d_Rr_init_37 : decode prog_7_method_1_code 37 = .ok (.iinc 2 1, 3) := by decide +kernel
theorem d_Rr_init_40 : decode prog_7_method_1_code 40 = .ok (.goto (-21), 3) := by decide +kernel
theorem d_Rr_init_43 : decode prog_7_method_1_code 43 = .ok (.return_, 1) := by decide +kernel
theorem d_Rd_init_0 : decode prog_6_method_1_code 0 = .ok (.aload_n 0, 1) := by decide +kernel
theorem d_Rd_init_1 : decode prog_6_method_1_code 1 = .ok (.invokespecial 3, 3) := by decide +kernel
theorem d_Rd_init_4 : decode prog_6_method_1_code 4 = .ok (.aload_n 0, 1) := by decide +kernel
theorem d_Rd_init_5 : decode prog_6_method_1_code 5 = .ok (.bipush 12, 2) := by decide +kernel
theorem d_Rd_init_7 : decode prog_6_method_1_code 7 = .ok (.newarray .int, 2) := by decide +kernel
theorem d_Rd_init_9 : decode prog_6_method_1_code 9 = .ok (.putfield 9, 3) := by decide +kernel
theorem d_Rd_init_12 : decode prog_6_method_1_code 12 = .ok (.aload_n 0, 1) := by decide +kernel
theorem d_Rd_init_13 : decode prog_6_method_1_code 13 = .ok (.bipush 12, 2) := by decide +kernel
theorem d_Rd_init_15 : decode prog_6_method_1_code 15 = .ok (.newarray .int, 2) := by decide +kernel
theorem d_Rd_init_17 : decode prog_6_method_1_code 17 = .ok (.putfield 15, 3) := by decide +kernel
theorem d_Rd_init_20 : decode prog_6_method_1_code 20 = .ok (.aload_n 0, 1) := by decide +kernel
theorem d_Rd_init_21 : decode prog_6_method_1_code 21 = .ok (.bipush 20, 2) := by decide +kernel
theorem d_Rd_init_23 : decode prog_6_method_1_code 23 = .ok (.newarray .int, 2) := by decide +kernel
theorem d_Rd_init_25 : decode prog_6_method_1_code 25 = .ok (.putfield 18, 3) := by decide +kernel
theorem d_Rd_init_28 : decode prog_6_method_1_code 28 = .ok (.aload_n 0, 1) := by decide +kernel
theorem d_Rd_init_29 : decode prog_6_method_1_code 29 = .ok (.iconst 0, 1) := by decide +kernel
theorem d_Rd_init_30 : decode prog_6_method_1_code 30 = .ok (.putfield 21, 3) := by decide +kernel
theorem d_Rd_init_33 : decode prog_6_method_1_code 33 = .ok (.aload_n 0, 1) := by decide +kernel
theorem d_Rd_init_34 : decode prog_6_method_1_code 34 = .ok (.iconst 0, 1) := by decide +kernel
theorem d_Rd_init_35 : decode prog_6_method_1_code 35 = .ok (.putfield 25, 3) := by decide +kernel
theorem d_Rd_init_38 : decode prog_6_method_1_code 38 = .ok (.aload_n 0, 1) := by decide +kernel
theorem d_Rd_init_39 : decode prog_6_method_1_code 39 = .ok (.iconst 0, 1) := by decide +kernel
theorem d_Rd_init_40 : decode prog_6_method_1_code 40 = .ok (.putfield 28, 3) := by decide +kernel
theorem d_Rd_init_43 : decode prog_6_method_1_code 43 = .ok (.aload_n 0, 1) := by decide +kernel
theorem d_Rd_init_44 : decode prog_6_method_1_code 44 = .ok (.iconst 0, 1) := by decide +kernel
theorem d_Rd_init_45 : decode prog_6_method_1_code 45 = .ok (.putfield 31, 3) := by decide +kernel
theorem d_Rd_init_48 : decode prog_6_method_1_code 48 = .ok (.return_, 1) := by decide +kernel
theorem d_Ar_init_0 : decode prog_2_method_1_code 0 = .ok (.aload_n 0, 1) := by decide +kernel
theorem d_Ar_init_1 : decode prog_2_method_1_code 1 = .ok (.invokespecial 3, 3) := by decide +kernel
theorem d_Ar_init_4 : decode prog_2_method_1_code 4 = .ok (.aload_n 0, 1) := by decide +kernel
theorem d_Ar_init_5 : decode prog_2_method_1_code 5 = .ok (.sipush 2080, 3) := by decide +kernel
theorem d_Ar_init_8 : decode prog_2_method_1_code 8 = .ok (.newarray .int, 2) := by decide +kernel
theorem d_Ar_init_10 : decode prog_2_method_1_code 10 = .ok (.putfield 9, 3) := by decide +kernel
theorem d_Ar_init_13 : decode prog_2_method_1_code 13 = .ok (.aload_n 0, 1) := by decide +kernel
theorem d_Ar_init_14 : decode prog_2_method_1_code 14 = .ok (.iconst 0, 1) := by decide +kernel
theorem d_Ar_init_15 : decode prog_2_method_1_code 15 = .ok (.putfield 15, 3) := by decide +kernel
theorem d_Ar_init_18 : decode prog_2_method_1_code 18 = .ok (.return_, 1) := by decide +kernel
theorem d_Ar_append_0 : decode prog_2_method_7_code 0 = .ok (.iconst 0, 1) := by decide +kernel
theorem d_Ar_append_1 : decode prog_2_method_7_code 1 = .ok (.istore_n 3, 1) := by decide +kernel
theorem d_Ar_append_2 : decode prog_2_method_7_code 2 = .ok (.iload_n 3, 1) := by decide +kernel
theorem d_Ar_append_3 : decode prog_2_method_7_code 3 = .ok (.iload_n 2, 1) := by decide +kernel
theorem d_Ar_append_4 : decode prog_2_method_7_code 4 = .ok (.if_icmp .ge 43, 3) := by decide +kernel
theorem d_Ar_append_7 : decode prog_2_method_7_code 7 = .ok (.aload_n 0, 1) := by decide +kernel
theorem d_Ar_append_8 : decode prog_2_method_7_code 8 = .ok (.getfield 15, 3) := by decide +kernel
theorem d_Ar_append_11 : decode prog_2_method_7_code 11 = .ok (.aload_n 0, 1) := by decide +kernel
theorem d_Ar_append_12 : decode prog_2_method_7_code 12 = .ok (.getfield 9, 3) := by decide +kernel
theorem d_Ar_append_15 : decode prog_2_method_7_code 15 = .ok (.arraylength, 1) := by decide +kernel
theorem d_Ar_append_16 : decode prog_2_method_7_code 16 = .ok (.if_icmp .ge 31, 3) := by decide +kernel
theorem d_Ar_append_19 : decode prog_2_method_7_code 19 = .ok (.aload_n 0, 1) := by decide +kernel
theorem d_Ar_append_20 : decode prog_2_method_7_code 20 = .ok (.getfield 9, 3) := by decide +kernel
theorem d_Ar_append_23 : decode prog_2_method_7_code 23 = .ok (.aload_n 0, 1) := by decide +kernel
theorem d_Ar_append_24 : decode prog_2_method_7_code 24 = .ok (.getfield 15, 3) := by decide +kernel
theorem d_Ar_append_27 : decode prog_2_method_7_code 27 = .ok (.aload_n 1, 1) := by decide +kernel
theorem d_Ar_append_28 : decode prog_2_method_7_code 28 = .ok (.iload_n 3, 1) := by decide +kernel
theorem d_Ar_append_29 : decode prog_2_method_7_code 29 = .ok (.iaload, 1) := by decide +kernel
theorem d_Ar_append_30 : decode prog_2_method_7_code 30 = .ok (.iastore, 1) := by decide +kernel
theorem d_Ar_append_31 : decode prog_2_method_7_code 31 = .ok (.aload_n 0, 1) := by decide +kernel
theorem d_Ar_append_32 : decode prog_2_method_7_code 32 = .ok (.dup, 1) := by decide +kernel
theorem d_Ar_append_33 : decode prog_2_method_7_code 33 = .ok (.getfield 15, 3) := by decide +kernel
theorem d_Ar_append_36 : decode prog_2_method_7_code 36 = .ok (.iconst 1, 1) := by decide +kernel
theorem d_Ar_append_37 : decode prog_2_method_7_code 37 = .ok (.iadd, 1) := by decide +kernel
theorem d_Ar_append_38 : decode prog_2_method_7_code 38 = .ok (.putfield 15, 3) := by decide +kernel
theorem d_Ar_append_41 : decode prog_2_method_7_code 41 = .ok (.iinc 3 1, 3) := by decide +kernel
theorem d_Ar_append_44 : decode prog_2_method_7_code 44 = .ok (.goto (-42), 3) := by decide +kernel
theorem d_Ar_append_47 : decode prog_2_method_7_code 47 = .ok (.return_, 1) := by decide +kernel
theorem d_Ar_countBegins_0 : decode prog_2_method_5_code 0 = .ok (.iconst 0, 1) := by decide +kernel
theorem d_Ar_countBegins_1 : decode prog_2_method_5_code 1 = .ok (.istore_n 1, 1) := by decide +kernel
theorem d_Ar_countBegins_2 : decode prog_2_method_5_code 2 = .ok (.iconst 0, 1) := by decide +kernel
theorem d_Ar_countBegins_3 : decode prog_2_method_5_code 3 = .ok (.istore_n 2, 1) := by decide +kernel
theorem d_Ar_countBegins_4 : decode prog_2_method_5_code 4 = .ok (.iload_n 2, 1) := by decide +kernel
theorem d_Ar_countBegins_5 : decode prog_2_method_5_code 5 = .ok (.aload_n 0, 1) := by decide +kernel
theorem d_Ar_countBegins_6 : decode prog_2_method_5_code 6 = .ok (.getfield 15, 3) := by decide +kernel
theorem d_Ar_countBegins_9 : decode prog_2_method_5_code 9 = .ok (.if_icmp .ge 19, 3) := by decide +kernel
theorem d_Ar_countBegins_12 : decode prog_2_method_5_code 12 = .ok (.iinc 1 1, 3) := by decide +kernel
theorem d_Ar_countBegins_15 : decode prog_2_method_5_code 15 = .ok (.iload_n 2, 1) := by decide +kernel
theorem d_Ar_countBegins_16 : decode prog_2_method_5_code 16 = .ok (.iconst 5, 1) := by decide +kernel
theorem d_Ar_countBegins_17 : decode prog_2_method_5_code 17 = .ok (.aload_n 0, 1) := by decide +kernel
theorem d_Ar_countBegins_18 : decode prog_2_method_5_code 18 = .ok (.iload_n 2, 1) := by decide +kernel
theorem d_Ar_countBegins_19 : decode prog_2_method_5_code 19 = .ok (.invokevirtual 23, 3) := by decide +kernel
theorem d_Ar_countBegins_22 : decode prog_2_method_5_code 22 = .ok (.iadd, 1) := by decide +kernel
theorem d_Ar_countBegins_23 : decode prog_2_method_5_code 23 = .ok (.iadd, 1) := by decide +kernel
theorem d_Ar_countBegins_24 : decode prog_2_method_5_code 24 = .ok (.istore_n 2, 1) := by decide +kernel
theorem d_Ar_countBegins_25 : decode prog_2_method_5_code 25 = .ok (.goto (-21), 3) := by decide +kernel
theorem d_Ar_countBegins_28 : decode prog_2_method_5_code 28 = .ok (.iload_n 1, 1) := by decide +kernel
theorem d_Ar_countBegins_29 : decode prog_2_method_5_code 29 = .ok (.ireturn, 1) := by decide +kernel
theorem d_Ar_rowLength_0 : decode prog_2_method_3_code 0 = .ok (.aload_n 0, 1) := by decide +kernel
theorem d_Ar_rowLength_1 : decode prog_2_method_3_code 1 = .ok (.iload_n 1, 1) := by decide +kernel
theorem d_Ar_rowLength_2 : decode prog_2_method_3_code 2 = .ok (.iconst 2, 1) := by decide +kernel
theorem d_Ar_rowLength_3 : decode prog_2_method_3_code 3 = .ok (.iadd, 1) := by decide +kernel
theorem d_Ar_rowLength_4 : decode prog_2_method_3_code 4 = .ok (.invokevirtual 19, 3) := by decide +kernel
theorem d_Ar_rowLength_7 : decode prog_2_method_3_code 7 = .ok (.ifCond .eq 14, 3) := by decide +kernel
theorem d_Ar_rowLength_10 : decode prog_2_method_3_code 10 = .ok (.aload_n 0, 1) := by decide +kernel
theorem d_Ar_rowLength_11 : decode prog_2_method_3_code 11 = .ok (.getfield 9, 3) := by decide +kernel
theorem d_Ar_rowLength_14 : decode prog_2_method_3_code 14 = .ok (.iload_n 1, 1) := by decide +kernel
theorem d_Ar_rowLength_15 : decode prog_2_method_3_code 15 = .ok (.iconst 2, 1) := by decide +kernel
theorem d_Ar_rowLength_16 : decode prog_2_method_3_code 16 = .ok (.iadd, 1) := by decide +kernel
theorem d_Ar_rowLength_17 : decode prog_2_method_3_code 17 = .ok (.iaload, 1) := by decide +kernel
theorem d_Ar_rowLength_18 : decode prog_2_method_3_code 18 = .ok (.goto 4, 3) := by decide +kernel
theorem d_Ar_rowLength_21 : decode prog_2_method_3_code 21 = .ok (.iconst 0, 1) := by decide +kernel
theorem d_Ar_rowLength_22 : decode prog_2_method_3_code 22 = .ok (.ireturn, 1) := by decide +kernel
theorem d_Ar_has_0 : decode prog_2_method_2_code 0 = .ok (.iload_n 1, 1) := by decide +kernel
theorem d_Ar_has_1 : decode prog_2_method_2_code 1 = .ok (.ifCond .lt 15, 3) := by decide +kernel
theorem d_Ar_has_4 : decode prog_2_method_2_code 4 = .ok (.iload_n 1, 1) := by decide +kernel
theorem d_Ar_has_5 : decode prog_2_method_2_code 5 = .ok (.aload_n 0, 1) := by decide +kernel
theorem d_Ar_has_6 : decode prog_2_method_2_code 6 = .ok (.getfield 15, 3) := by decide +kernel
theorem d_Ar_has_9 : decode prog_2_method_2_code 9 = .ok (.if_icmp .ge 7, 3) := by decide +kernel
theorem d_Ar_has_12 : decode prog_2_method_2_code 12 = .ok (.iconst 1, 1) := by decide +kernel
theorem d_Ar_has_13 : decode prog_2_method_2_code 13 = .ok (.goto 4, 3) := by decide +kernel
theorem d_Ar_has_16 : decode prog_2_method_2_code 16 = .ok (.iconst 0, 1) := by decide +kernel
theorem d_Ar_has_17 : decode prog_2_method_2_code 17 = .ok (.ireturn, 1) := by decide +kernel
theorem d_Re_append_0 : decode prog_8_method_2_code 0 = .ok (.iconst 0, 1) := by decide +kernel
theorem d_Re_append_1 : decode prog_8_method_2_code 1 = .ok (.istore_n 3, 1) := by decide +kernel
theorem d_Re_append_2 : decode prog_8_method_2_code 2 = .ok (.iload_n 3, 1) := by decide +kernel
theorem d_Re_append_3 : decode prog_8_method_2_code 3 = .ok (.iload_n 2, 1) := by decide +kernel
theorem d_Re_append_4 : decode prog_8_method_2_code 4 = .ok (.if_icmp .ge 45, 3) := by decide +kernel
theorem d_Re_append_7 : decode prog_8_method_2_code 7 = .ok (.aload_n 0, 1) := by decide +kernel
theorem d_Re_append_8 : decode prog_8_method_2_code 8 = .ok (.getfield 15, 3) := by decide +kernel
theorem d_Re_append_11 : decode prog_8_method_2_code 11 = .ok (.sipush 160, 3) := by decide +kernel
theorem d_Re_append_14 : decode prog_8_method_2_code 14 = .ok (.if_icmp .ge 35, 3) := by decide +kernel
theorem d_Re_append_17 : decode prog_8_method_2_code 17 = .ok (.aload_n 0, 1) := by decide +kernel
theorem d_Re_append_18 : decode prog_8_method_2_code 18 = .ok (.getfield 9, 3) := by decide +kernel
theorem d_Re_append_21 : decode prog_8_method_2_code 21 = .ok (.aload_n 0, 1) := by decide +kernel
theorem d_Re_append_22 : decode prog_8_method_2_code 22 = .ok (.getfield 15, 3) := by decide +kernel
theorem d_Re_append_25 : decode prog_8_method_2_code 25 = .ok (.iload_n 1, 1) := by decide +kernel
theorem d_Re_append_26 : decode prog_8_method_2_code 26 = .ok (.iconst 2, 1) := by decide +kernel
theorem d_Re_append_27 : decode prog_8_method_2_code 27 = .ok (.iload_n 3, 1) := by decide +kernel
theorem d_Re_append_28 : decode prog_8_method_2_code 28 = .ok (.imul, 1) := by decide +kernel
theorem d_Re_append_29 : decode prog_8_method_2_code 29 = .ok (.iushr, 1) := by decide +kernel
theorem d_Re_append_30 : decode prog_8_method_2_code 30 = .ok (.iconst 3, 1) := by decide +kernel
theorem d_Re_append_31 : decode prog_8_method_2_code 31 = .ok (.iand, 1) := by decide +kernel
theorem d_Re_append_32 : decode prog_8_method_2_code 32 = .ok (.iastore, 1) := by decide +kernel
theorem d_Re_append_33 : decode prog_8_method_2_code 33 = .ok (.aload_n 0, 1) := by decide +kernel
theorem d_Re_append_34 : decode prog_8_method_2_code 34 = .ok (.dup, 1) := by decide +kernel
theorem d_Re_append_35 : decode prog_8_method_2_code 35 = .ok (.getfield 15, 3) := by decide +kernel
theorem d_Re_append_38 : decode prog_8_method_2_code 38 = .ok (.iconst 1, 1) := by decide +kernel
theorem d_Re_append_39 : decode prog_8_method_2_code 39 = .ok (.iadd, 1) := by decide +kernel
theorem d_Re_append_40 : decode prog_8_method_2_code 40 = .ok (.putfield 15, 3) := by decide +kernel
theorem d_Re_append_43 : decode prog_8_method_2_code 43 = .ok (.iinc 3 1, 3) := by decide +kernel
theorem d_Re_append_46 : decode prog_8_method_2_code 46 = .ok (.goto (-44), 3) := by decide +kernel
theorem d_Re_append_49 : decode prog_8_method_2_code 49 = .ok (.return_, 1) := by decide +kernel
theorem d_Rd_begin_0 : decode prog_6_method_2_code 0 = .ok (.aload_n 0, 1) := by decide +kernel
theorem d_Rd_begin_1 : decode prog_6_method_2_code 1 = .ok (.iload_n 1, 1) := by decide +kernel
theorem d_Rd_begin_2 : decode prog_6_method_2_code 2 = .ok (.putfield 21, 3) := by decide +kernel
theorem d_Rd_begin_5 : decode prog_6_method_2_code 5 = .ok (.aload_n 0, 1) := by decide +kernel
theorem d_Rd_begin_6 : decode prog_6_method_2_code 6 = .ok (.iconst 0, 1) := by decide +kernel
theorem d_Rd_begin_7 : decode prog_6_method_2_code 7 = .ok (.putfield 25, 3) := by decide +kernel
theorem d_Rd_begin_10 : decode prog_6_method_2_code 10 = .ok (.aload_n 0, 1) := by decide +kernel
theorem d_Rd_begin_11 : decode prog_6_method_2_code 11 = .ok (.iconst 0, 1) := by decide +kernel
theorem d_Rd_begin_12 : decode prog_6_method_2_code 12 = .ok (.putfield 28, 3) := by decide +kernel
theorem d_Rd_begin_15 : decode prog_6_method_2_code 15 = .ok (.aload_n 0, 1) := by decide +kernel
theorem d_Rd_begin_16 : decode prog_6_method_2_code 16 = .ok (.iconst 0, 1) := by decide +kernel
theorem d_Rd_begin_17 : decode prog_6_method_2_code 17 = .ok (.putfield 31, 3) := by decide +kernel
theorem d_Rd_begin_20 : decode prog_6_method_2_code 20 = .ok (.return_, 1) := by decide +kernel
theorem d_Rd_fits_0 : decode prog_6_method_4_code 0 = .ok (.iload_n 2, 1) := by decide +kernel
theorem d_Rd_fits_1 : decode prog_6_method_4_code 1 = .ok (.tableswitch 97 0 3 #[31, 55, 92, 31], 31) := by decide +kernel
theorem d_Rd_fits_32 : decode prog_6_method_4_code 32 = .ok (.iload_n 3, 1) := by decide +kernel
theorem d_Rd_fits_33 : decode prog_6_method_4_code 33 = .ok (.iconst 1, 1) := by decide +kernel
theorem d_Rd_fits_34 : decode prog_6_method_4_code 34 = .ok (.if_icmp .lt 20, 3) := by decide +kernel
theorem d_Rd_fits_37 : decode prog_6_method_4_code 37 = .ok (.iload_n 3, 1) := by decide +kernel
theorem d_Rd_fits_38 : decode prog_6_method_4_code 38 = .ok (.aload_n 1, 1) := by decide +kernel
theorem d_Rd_fits_39 : decode prog_6_method_4_code 39 = .ok (.getfield 34, 3) := by decide +kernel
theorem d_Rd_fits_42 : decode prog_6_method_4_code 42 = .ok (.aload_n 0, 1) := by decide +kernel
theorem d_Rd_fits_43 : decode prog_6_method_4_code 43 = .ok (.invokevirtual 39, 3) := by decide +kernel
theorem d_Rd_fits_46 : decode prog_6_method_4_code 46 = .ok (.isub, 1) := by decide +kernel
theorem d_Rd_fits_47 : decode prog_6_method_4_code 47 = .ok (.if_icmp .gt 7, 3) := by decide +kernel
theorem d_Rd_fits_50 : decode prog_6_method_4_code 50 = .ok (.iconst 1, 1) := by decide +kernel
theorem d_Rd_fits_51 : decode prog_6_method_4_code 51 = .ok (.goto 4, 3) := by decide +kernel
theorem d_Rd_fits_54 : decode prog_6_method_4_code 54 = .ok (.iconst 0, 1) := by decide +kernel
theorem d_Rd_fits_55 : decode prog_6_method_4_code 55 = .ok (.ireturn, 1) := by decide +kernel
theorem d_Rd_fits_56 : decode prog_6_method_4_code 56 = .ok (.iload_n 3, 1) := by decide +kernel
theorem d_Rd_fits_57 : decode prog_6_method_4_code 57 = .ok (.invokestatic 43, 3) := by decide +kernel
theorem d_Rd_fits_60 : decode prog_6_method_4_code 60 = .ok (.ifCond .eq 31, 3) := by decide +kernel
theorem d_Rd_fits_63 : decode prog_6_method_4_code 63 = .ok (.aload_n 0, 1) := by decide +kernel
theorem d_Rd_fits_64 : decode prog_6_method_4_code 64 = .ok (.invokevirtual 39, 3) := by decide +kernel
theorem d_Rd_fits_67 : decode prog_6_method_4_code 67 = .ok (.aload_n 1, 1) := by decide +kernel
theorem d_Rd_fits_68 : decode prog_6_method_4_code 68 = .ok (.getfield 34, 3) := by decide +kernel
theorem d_Rd_fits_71 : decode prog_6_method_4_code 71 = .ok (.if_icmp .ge 20, 3) := by decide +kernel
theorem d_Rd_fits_74 : decode prog_6_method_4_code 74 = .ok (.aload_n 1, 1) := by decide +kernel
theorem d_Rd_fits_75 : decode prog_6_method_4_code 75 = .ok (.getfield 47, 3) := by decide +kernel
theorem d_Rd_fits_78 : decode prog_6_method_4_code 78 = .ok (.aload_n 0, 1) := by decide +kernel
theorem d_Rd_fits_79 : decode prog_6_method_4_code 79 = .ok (.invokevirtual 39, 3) := by decide +kernel
theorem d_Rd_fits_82 : decode prog_6_method_4_code 82 = .ok (.iaload, 1) := by decide +kernel
theorem d_Rd_fits_83 : decode prog_6_method_4_code 83 = .ok (.iload_n 3, 1) := by decide +kernel
theorem d_Rd_fits_84 : decode prog_6_method_4_code 84 = .ok (.if_icmp .eq 7, 3) := by decide +kernel
theorem d_Rd_fits_87 : decode prog_6_method_4_code 87 = .ok (.iconst 1, 1) := by decide +kernel
theorem d_Rd_fits_88 : decode prog_6_method_4_code 88 = .ok (.goto 4, 3) := by decide +kernel
theorem d_Rd_fits_91 : decode prog_6_method_4_code 91 = .ok (.iconst 0, 1) := by decide +kernel
theorem d_Rd_fits_92 : decode prog_6_method_4_code 92 = .ok (.ireturn, 1) := by decide +kernel
theorem d_Rd_fits_93 : decode prog_6_method_4_code 93 = .ok (.iload_n 3, 1) := by decide +kernel
theorem d_Rd_fits_94 : decode prog_6_method_4_code 94 = .ok (.invokestatic 43, 3) := by decide +kernel
theorem d_Rd_fits_97 : decode prog_6_method_4_code 97 = .ok (.ireturn, 1) := by decide +kernel
theorem d_Rd_fits_98 : decode prog_6_method_4_code 98 = .ok (.iconst 0, 1) := by decide +kernel
theorem d_Rd_fits_99 : decode prog_6_method_4_code 99 = .ok (.ireturn, 1) := by decide +kernel
theorem d_Rd_place_0 : decode prog_6_method_3_code 0 = .ok (.aload_n 0, 1) := by decide +kernel
theorem d_Rd_place_1 : decode prog_6_method_3_code 1 = .ok (.getfield 21, 3) := by decide +kernel
theorem d_Rd_place_4 : decode prog_6_method_3_code 4 = .ok (.aload_n 0, 1) := by decide +kernel
theorem d_Rd_place_5 : decode prog_6_method_3_code 5 = .ok (.getfield 31, 3) := by decide +kernel
theorem d_Rd_place_8 : decode prog_6_method_3_code 8 = .ok (.iadd, 1) := by decide +kernel
theorem d_Rd_place_9 : decode prog_6_method_3_code 9 = .ok (.ireturn, 1) := by decide +kernel
theorem d_Rd_isBase_0 : decode prog_6_method_5_code 0 = .ok (.iload_n 0, 1) := by decide +kernel
theorem d_Rd_isBase_1 : decode prog_6_method_5_code 1 = .ok (.ifCond .lt 12, 3) := by decide +kernel
theorem d_Rd_isBase_4 : decode prog_6_method_5_code 4 = .ok (.iload_n 0, 1) := by decide +kernel
theorem d_Rd_isBase_5 : decode prog_6_method_5_code 5 = .ok (.iconst 4, 1) := by decide +kernel
theorem d_Rd_isBase_6 : decode prog_6_method_5_code 6 = .ok (.if_icmp .ge 7, 3) := by decide +kernel
theorem d_Rd_isBase_9 : decode prog_6_method_5_code 9 = .ok (.iconst 1, 1) := by decide +kernel
theorem d_Rd_isBase_10 : decode prog_6_method_5_code 10 = .ok (.goto 4, 3) := by decide +kernel
theorem d_Rd_isBase_13 : decode prog_6_method_5_code 13 = .ok (.iconst 0, 1) := by decide +kernel
theorem d_Rd_isBase_14 : decode prog_6_method_5_code 14 = .ok (.ireturn, 1) := by decide +kernel
theorem d_Rd_hasRoom_0 : decode prog_6_method_7_code 0 = .ok (.iload_n 1, 1) := by decide +kernel
theorem d_Rd_hasRoom_1 : decode prog_6_method_7_code 1 = .ok (.ifCond .ne 7, 3) := by decide +kernel
theorem d_Rd_hasRoom_4 : decode prog_6_method_7_code 4 = .ok (.iload_n 2, 1) := by decide +kernel
theorem d_Rd_hasRoom_5 : decode prog_6_method_7_code 5 = .ok (.goto 13, 3) := by decide +kernel
theorem d_Rd_hasRoom_8 : decode prog_6_method_7_code 8 = .ok (.iload_n 1, 1) := by decide +kernel
theorem d_Rd_hasRoom_9 : decode prog_6_method_7_code 9 = .ok (.iconst 3, 1) := by decide +kernel
theorem d_Rd_hasRoom_10 : decode prog_6_method_7_code 10 = .ok (.if_icmp .ne 7, 3) := by decide +kernel
theorem d_Rd_hasRoom_13 : decode prog_6_method_7_code 13 = .ok (.iconst 0, 1) := by decide +kernel
theorem d_Rd_hasRoom_14 : decode prog_6_method_7_code 14 = .ok (.goto 4, 3) := by decide +kernel
theorem d_Rd_hasRoom_17 : decode prog_6_method_7_code 17 = .ok (.iconst 1, 1) := by decide +kernel
theorem d_Rd_hasRoom_18 : decode prog_6_method_7_code 18 = .ok (.istore_n 3, 1) := by decide +kernel
theorem d_Rd_hasRoom_19 : decode prog_6_method_7_code 19 = .ok (.aload_n 0, 1) := by decide +kernel
theorem d_Rd_hasRoom_20 : decode prog_6_method_7_code 20 = .ok (.iload_n 1, 1) := by decide +kernel
theorem d_Rd_hasRoom_21 : decode prog_6_method_7_code 21 = .ok (.invokevirtual 48, 3) := by decide +kernel
theorem d_Rd_hasRoom_24 : decode prog_6_method_7_code 24 = .ok (.ifCond .eq 7, 3) := by decide +kernel
theorem d_Rd_hasRoom_27 : decode prog_6_method_7_code 27 = .ok (.iconst 0, 1) := by decide +kernel
theorem d_Rd_hasRoom_28 : decode prog_6_method_7_code 28 = .ok (.goto 4, 3) := by decide +kernel
theorem d_Rd_hasRoom_31 : decode prog_6_method_7_code 31 = .ok (.iconst 1, 1) := by decide +kernel
theorem d_Rd_hasRoom_32 : decode prog_6_method_7_code 32 = .ok (.istore 4, 2) := by decide +kernel
theorem d_Rd_hasRoom_34 : decode prog_6_method_7_code 34 = .ok (.aload_n 0, 1) := by decide +kernel
theorem d_Rd_hasRoom_35 : decode prog_6_method_7_code 35 = .ok (.getfield 28, 3) := by decide +kernel
theorem d_Rd_hasRoom_38 : decode prog_6_method_7_code 38 = .ok (.iload_n 3, 1) := by decide +kernel
theorem d_Rd_hasRoom_39 : decode prog_6_method_7_code 39 = .ok (.iadd, 1) := by decide +kernel
theorem d_Rd_hasRoom_40 : decode prog_6_method_7_code 40 = .ok (.bipush 20, 2) := by decide +kernel
theorem d_Rd_hasRoom_42 : decode prog_6_method_7_code 42 = .ok (.if_icmp .gt 19, 3) := by decide +kernel
theorem d_Rd_hasRoom_45 : decode prog_6_method_7_code 45 = .ok (.aload_n 0, 1) := by decide +kernel
theorem d_Rd_hasRoom_46 : decode prog_6_method_7_code 46 = .ok (.getfield 25, 3) := by decide +kernel
theorem d_Rd_hasRoom_49 : decode prog_6_method_7_code 49 = .ok (.iload 4, 2) := by decide +kernel
theorem d_Rd_hasRoom_51 : decode prog_6_method_7_code 51 = .ok (.iadd, 1) := by decide +kernel
theorem d_Rd_hasRoom_52 : decode prog_6_method_7_code 52 = .ok (.bipush 12, 2) := by decide +kernel
theorem d_Rd_hasRoom_54 : decode prog_6_method_7_code 54 = .ok (.if_icmp .gt 7, 3) := by decide +kernel
theorem d_Rd_hasRoom_57 : decode prog_6_method_7_code 57 = .ok (.iconst 1, 1) := by decide +kernel
theorem d_Rd_hasRoom_58 : decode prog_6_method_7_code 58 = .ok (.goto 4, 3) := by decide +kernel
theorem d_Rd_hasRoom_61 : decode prog_6_method_7_code 61 = .ok (.iconst 0, 1) := by decide +kernel
theorem d_Rd_hasRoom_62 : decode prog_6_method_7_code 62 = .ok (.ireturn, 1) := by decide +kernel
theorem d_Rd_lengthensLast_0 : decode prog_6_method_6_code 0 = .ok (.iload_n 1, 1) := by decide +kernel
theorem d_Rd_lengthensLast_1 : decode prog_6_method_6_code 1 = .ok (.ifCond .eq 8, 3) := by decide +kernel
theorem d_Rd_lengthensLast_4 : decode prog_6_method_6_code 4 = .ok (.iload_n 1, 1) := by decide +kernel
theorem d_Rd_lengthensLast_5 : decode prog_6_method_6_code 5 = .ok (.iconst 3, 1) := by decide +kernel
theorem d_Rd_lengthensLast_6 : decode prog_6_method_6_code 6 = .ok (.if_icmp .ne 29, 3) := by decide +kernel
theorem d_Rd_lengthensLast_9 : decode prog_6_method_6_code 9 = .ok (.aload_n 0, 1) := by decide +kernel
theorem d_Rd_lengthensLast_10 : decode prog_6_method_6_code 10 = .ok (.getfield 25, 3) := by decide +kernel
theorem d_Rd_lengthensLast_13 : decode prog_6_method_6_code 13 = .ok (.ifCond .le 22, 3) := by decide +kernel
theorem d_Rd_lengthensLast_16 : decode prog_6_method_6_code 16 = .ok (.aload_n 0, 1) := by decide +kernel
theorem d_Rd_lengthensLast_17 : decode prog_6_method_6_code 17 = .ok (.getfield 9, 3) := by decide +kernel
theorem d_Rd_lengthensLast_20 : decode prog_6_method_6_code 20 = .ok (.aload_n 0, 1) := by decide +kernel
theorem d_Rd_lengthensLast_21 : decode prog_6_method_6_code 21 = .ok (.getfield 25, 3) := by decide +kernel
theorem d_Rd_lengthensLast_24 : decode prog_6_method_6_code 24 = .ok (.iconst 1, 1) := by decide +kernel
theorem d_Rd_lengthensLast_25 : decode prog_6_method_6_code 25 = .ok (.isub, 1) := by decide +kernel
theorem d_Rd_lengthensLast_26 : decode prog_6_method_6_code 26 = .ok (.iaload, 1) := by decide +kernel
theorem d_Rd_lengthensLast_27 : decode prog_6_method_6_code 27 = .ok (.iload_n 1, 1) := by decide +kernel
theorem d_Rd_lengthensLast_28 : decode prog_6_method_6_code 28 = .ok (.if_icmp .ne 7, 3) := by decide +kernel
theorem d_Rd_lengthensLast_31 : decode prog_6_method_6_code 31 = .ok (.iconst 1, 1) := by decide +kernel
theorem d_Rd_lengthensLast_32 : decode prog_6_method_6_code 32 = .ok (.goto 4, 3) := by decide +kernel
theorem d_Rd_lengthensLast_35 : decode prog_6_method_6_code 35 = .ok (.iconst 0, 1) := by decide +kernel
theorem d_Rd_lengthensLast_36 : decode prog_6_method_6_code 36 = .ok (.ireturn, 1) := by decide +kernel
theorem d_Rd_add_0 : decode prog_6_method_8_code 0 = .ok (.aload_n 0, 1) := by decide +kernel
theorem d_Rd_add_1 : decode prog_6_method_8_code 1 = .ok (.aload_n 1, 1) := by decide +kernel
theorem d_Rd_add_2 : decode prog_6_method_8_code 2 = .ok (.iload_n 2, 1) := by decide +kernel
theorem d_Rd_add_3 : decode prog_6_method_8_code 3 = .ok (.iload_n 3, 1) := by decide +kernel
theorem d_Rd_add_4 : decode prog_6_method_8_code 4 = .ok (.invokevirtual 51, 3) := by decide +kernel
theorem d_Rd_add_7 : decode prog_6_method_8_code 7 = .ok (.iload_n 2, 1) := by decide +kernel
theorem d_Rd_add_8 : decode prog_6_method_8_code 8 = .ok (.ifCond .eq 8, 3) := by decide +kernel
theorem d_Rd_add_11 : decode prog_6_method_8_code 11 = .ok (.iload_n 2, 1) := by decide +kernel
theorem d_Rd_add_12 : decode prog_6_method_8_code 12 = .ok (.iconst 3, 1) := by decide +kernel
theorem d_Rd_add_13 : decode prog_6_method_8_code 13 = .ok (.if_icmp .ne 16, 3) := by decide +kernel
theorem d_Rd_add_16 : decode prog_6_method_8_code 16 = .ok (.aload_n 0, 1) := by decide +kernel
theorem d_Rd_add_17 : decode prog_6_method_8_code 17 = .ok (.dup, 1) := by decide +kernel
theorem d_Rd_add_18 : decode prog_6_method_8_code 18 = .ok (.getfield 31, 3) := by decide +kernel
theorem d_Rd_add_21 : decode prog_6_method_8_code 21 = .ok (.iload_n 3, 1) := by decide +kernel
theorem d_Rd_add_22 : decode prog_6_method_8_code 22 = .ok (.iadd, 1) := by decide +kernel
theorem d_Rd_add_23 : decode prog_6_method_8_code 23 = .ok (.putfield 31, 3) := by decide +kernel
theorem d_Rd_add_26 : decode prog_6_method_8_code 26 = .ok (.goto 18, 3) := by decide +kernel
theorem d_Rd_add_29 : decode prog_6_method_8_code 29 = .ok (.iload_n 2, 1) := by decide +kernel
theorem d_Rd_add_30 : decode prog_6_method_8_code 30 = .ok (.iconst 1, 1) := by decide +kernel
theorem d_Rd_add_31 : decode prog_6_method_8_code 31 = .ok (.if_icmp .ne 13, 3) := by decide +kernel
theorem d_Rd_add_34 : decode prog_6_method_8_code 34 = .ok (.aload_n 0, 1) := by decide +kernel
theorem d_Rd_add_35 : decode prog_6_method_8_code 35 = .ok (.dup, 1) := by decide +kernel
theorem d_Rd_add_36 : decode prog_6_method_8_code 36 = .ok (.getfield 31, 3) := by decide +kernel
theorem d_Rd_add_39 : decode prog_6_method_8_code 39 = .ok (.iconst 1, 1) := by decide +kernel
theorem d_Rd_add_40 : decode prog_6_method_8_code 40 = .ok (.iadd, 1) := by decide +kernel
theorem d_Rd_add_41 : decode prog_6_method_8_code 41 = .ok (.putfield 31, 3) := by decide +kernel
theorem d_Rd_add_44 : decode prog_6_method_8_code 44 = .ok (.aload_n 0, 1) := by decide +kernel
theorem d_Rd_add_45 : decode prog_6_method_8_code 45 = .ok (.iload_n 2, 1) := by decide +kernel
theorem d_Rd_add_46 : decode prog_6_method_8_code 46 = .ok (.invokevirtual 48, 3) := by decide +kernel
theorem d_Rd_add_49 : decode prog_6_method_8_code 49 = .ok (.ifCond .eq 21, 3) := by decide +kernel
theorem d_Rd_add_52 : decode prog_6_method_8_code 52 = .ok (.aload_n 0, 1) := by decide +kernel
theorem d_Rd_add_53 : decode prog_6_method_8_code 53 = .ok (.getfield 15, 3) := by decide +kernel
theorem d_Rd_add_56 : decode prog_6_method_8_code 56 = .ok (.aload_n 0, 1) := by decide +kernel
theorem d_Rd_add_57 : decode prog_6_method_8_code 57 = .ok (.getfield 25, 3) := by decide +kernel
theorem d_Rd_add_60 : decode prog_6_method_8_code 60 = .ok (.iconst 1, 1) := by decide +kernel
theorem d_Rd_add_61 : decode prog_6_method_8_code 61 = .ok (.isub, 1) := by decide +kernel
theorem d_Rd_add_62 : decode prog_6_method_8_code 62 = .ok (.dup2, 1) := by decide +kernel
theorem d_Rd_add_63 : decode prog_6_method_8_code 63 = .ok (.iaload, 1) := by decide +kernel
theorem d_Rd_add_64 : decode prog_6_method_8_code 64 = .ok (.iload_n 3, 1) := by decide +kernel
theorem d_Rd_add_65 : decode prog_6_method_8_code 65 = .ok (.iadd, 1) := by decide +kernel
theorem d_Rd_add_66 : decode prog_6_method_8_code 66 = .ok (.iastore, 1) := by decide +kernel
theorem d_Rd_add_67 : decode prog_6_method_8_code 67 = .ok (.goto 33, 3) := by decide +kernel
theorem d_Rd_add_70 : decode prog_6_method_8_code 70 = .ok (.aload_n 0, 1) := by decide +kernel
theorem d_Rd_add_71 : decode prog_6_method_8_code 71 = .ok (.getfield 9, 3) := by decide +kernel
theorem d_Rd_add_74 : decode prog_6_method_8_code 74 = .ok (.aload_n 0, 1) := by decide +kernel
theorem d_Rd_add_75 : decode prog_6_method_8_code 75 = .ok (.getfield 25, 3) := by decide +kernel
theorem d_Rd_add_78 : decode prog_6_method_8_code 78 = .ok (.iload_n 2, 1) := by decide +kernel
theorem d_Rd_add_79 : decode prog_6_method_8_code 79 = .ok (.iastore, 1) := by decide +kernel
theorem d_Rd_add_80 : decode prog_6_method_8_code 80 = .ok (.aload_n 0, 1) := by decide +kernel
theorem d_Rd_add_81 : decode prog_6_method_8_code 81 = .ok (.getfield 15, 3) := by decide +kernel
theorem d_Rd_add_84 : decode prog_6_method_8_code 84 = .ok (.aload_n 0, 1) := by decide +kernel
theorem d_Rd_add_85 : decode prog_6_method_8_code 85 = .ok (.getfield 25, 3) := by decide +kernel
theorem d_Rd_add_88 : decode prog_6_method_8_code 88 = .ok (.iload_n 3, 1) := by decide +kernel
theorem d_Rd_add_89 : decode prog_6_method_8_code 89 = .ok (.iastore, 1) := by decide +kernel
theorem d_Rd_add_90 : decode prog_6_method_8_code 90 = .ok (.aload_n 0, 1) := by decide +kernel
theorem d_Rd_add_91 : decode prog_6_method_8_code 91 = .ok (.dup, 1) := by decide +kernel
theorem d_Rd_add_92 : decode prog_6_method_8_code 92 = .ok (.getfield 25, 3) := by decide +kernel
theorem d_Rd_add_95 : decode prog_6_method_8_code 95 = .ok (.iconst 1, 1) := by decide +kernel
theorem d_Rd_add_96 : decode prog_6_method_8_code 96 = .ok (.iadd, 1) := by decide +kernel
theorem d_Rd_add_97 : decode prog_6_method_8_code 97 = .ok (.putfield 25, 3) := by decide +kernel
theorem d_Rd_add_100 : decode prog_6_method_8_code 100 = .ok (.return_, 1) := by decide +kernel
theorem d_Rd_addBases_0 : decode prog_6_method_9_code 0 = .ok (.iload_n 2, 1) := by decide +kernel
theorem d_Rd_addBases_1 : decode prog_6_method_9_code 1 = .ok (.ifCond .ne 36, 3) := by decide +kernel
theorem d_Rd_addBases_4 : decode prog_6_method_9_code 4 = .ok (.aload_n 1, 1) := by decide +kernel
theorem d_Rd_addBases_5 : decode prog_6_method_9_code 5 = .ok (.getfield 47, 3) := by decide +kernel
theorem d_Rd_addBases_8 : decode prog_6_method_9_code 8 = .ok (.aload_n 0, 1) := by decide +kernel
theorem d_Rd_addBases_9 : decode prog_6_method_9_code 9 = .ok (.invokevirtual 39, 3) := by decide +kernel
theorem d_Rd_addBases_12 : decode prog_6_method_9_code 12 = .ok (.aload_n 0, 1) := by decide +kernel
theorem d_Rd_addBases_13 : decode prog_6_method_9_code 13 = .ok (.getfield 18, 3) := by decide +kernel
theorem d_Rd_addBases_16 : decode prog_6_method_9_code 16 = .ok (.aload_n 0, 1) := by decide +kernel
theorem d_Rd_addBases_17 : decode prog_6_method_9_code 17 = .ok (.getfield 28, 3) := by decide +kernel
theorem d_Rd_addBases_20 : decode prog_6_method_9_code 20 = .ok (.iload_n 3, 1) := by decide +kernel
theorem d_Rd_addBases_21 : decode prog_6_method_9_code 21 = .ok (.invokestatic 55, 3) := by decide +kernel
theorem d_Rd_addBases_24 : decode prog_6_method_9_code 24 = .ok (.aload_n 0, 1) := by decide +kernel
theorem d_Rd_addBases_25 : decode prog_6_method_9_code 25 = .ok (.dup, 1) := by decide +kernel
theorem d_Rd_addBases_26 : decode prog_6_method_9_code 26 = .ok (.getfield 28, 3) := by decide +kernel
theorem d_Rd_addBases_29 : decode prog_6_method_9_code 29 = .ok (.iload_n 3, 1) := by decide +kernel
theorem d_Rd_addBases_30 : decode prog_6_method_9_code 30 = .ok (.iadd, 1) := by decide +kernel
theorem d_Rd_addBases_31 : decode prog_6_method_9_code 31 = .ok (.putfield 28, 3) := by decide +kernel
theorem d_Rd_addBases_34 : decode prog_6_method_9_code 34 = .ok (.goto 28, 3) := by decide +kernel
theorem d_Rd_addBases_37 : decode prog_6_method_9_code 37 = .ok (.iload_n 2, 1) := by decide +kernel
theorem d_Rd_addBases_38 : decode prog_6_method_9_code 38 = .ok (.iconst 3, 1) := by decide +kernel
theorem d_Rd_addBases_39 : decode prog_6_method_9_code 39 = .ok (.if_icmp .eq 23, 3) := by decide +kernel
theorem d_Rd_addBases_42 : decode prog_6_method_9_code 42 = .ok (.aload_n 0, 1) := by decide +kernel
theorem d_Rd_addBases_43 : decode prog_6_method_9_code 43 = .ok (.getfield 18, 3) := by decide +kernel
theorem d_Rd_addBases_46 : decode prog_6_method_9_code 46 = .ok (.aload_n 0, 1) := by decide +kernel
theorem d_Rd_addBases_47 : decode prog_6_method_9_code 47 = .ok (.getfield 28, 3) := by decide +kernel
theorem d_Rd_addBases_50 : decode prog_6_method_9_code 50 = .ok (.iload_n 3, 1) := by decide +kernel
theorem d_Rd_addBases_51 : decode prog_6_method_9_code 51 = .ok (.iastore, 1) := by decide +kernel
theorem d_Rd_addBases_52 : decode prog_6_method_9_code 52 = .ok (.aload_n 0, 1) := by decide +kernel
theorem d_Rd_addBases_53 : decode prog_6_method_9_code 53 = .ok (.dup, 1) := by decide +kernel
theorem d_Rd_addBases_54 : decode prog_6_method_9_code 54 = .ok (.getfield 28, 3) := by decide +kernel
theorem d_Rd_addBases_57 : decode prog_6_method_9_code 57 = .ok (.iconst 1, 1) := by decide +kernel
theorem d_Rd_addBases_58 : decode prog_6_method_9_code 58 = .ok (.iadd, 1) := by decide +kernel
theorem d_Rd_addBases_59 : decode prog_6_method_9_code 59 = .ok (.putfield 28, 3) := by decide +kernel
theorem d_Rd_addBases_62 : decode prog_6_method_9_code 62 = .ok (.return_, 1) := by decide +kernel
theorem d_Rr_has_0 : decode prog_7_method_2_code 0 = .ok (.iload_n 1, 1) := by decide +kernel
theorem d_Rr_has_1 : decode prog_7_method_2_code 1 = .ok (.ifCond .lt 15, 3) := by decide +kernel
theorem d_Rr_has_4 : decode prog_7_method_2_code 4 = .ok (.iload_n 1, 1) := by decide +kernel
theorem d_Rr_has_5 : decode prog_7_method_2_code 5 = .ok (.aload_n 0, 1) := by decide +kernel
theorem d_Rr_has_6 : decode prog_7_method_2_code 6 = .ok (.getfield 7, 3) := by decide +kernel
theorem d_Rr_has_9 : decode prog_7_method_2_code 9 = .ok (.if_icmp .ge 7, 3) := by decide +kernel
theorem d_Rr_has_12 : decode prog_7_method_2_code 12 = .ok (.iconst 1, 1) := by decide +kernel
theorem d_Rr_has_13 : decode prog_7_method_2_code 13 = .ok (.goto 4, 3) := by decide +kernel
theorem d_Rr_has_16 : decode prog_7_method_2_code 16 = .ok (.iconst 0, 1) := by decide +kernel
theorem d_Rr_has_17 : decode prog_7_method_2_code 17 = .ok (.ireturn, 1) := by decide +kernel
theorem d_Ar_beginOf_0 : decode prog_2_method_6_code 0 = .ok (.iconst 0, 1) := by decide +kernel
theorem d_Ar_beginOf_1 : decode prog_2_method_6_code 1 = .ok (.istore_n 2, 1) := by decide +kernel
theorem d_Ar_beginOf_2 : decode prog_2_method_6_code 2 = .ok (.iconst 0, 1) := by decide +kernel
theorem d_Ar_beginOf_3 : decode prog_2_method_6_code 3 = .ok (.istore_n 3, 1) := by decide +kernel
theorem d_Ar_beginOf_4 : decode prog_2_method_6_code 4 = .ok (.iload_n 3, 1) := by decide +kernel
theorem d_Ar_beginOf_5 : decode prog_2_method_6_code 5 = .ok (.iload_n 1, 1) := by decide +kernel
theorem d_Ar_beginOf_6 : decode prog_2_method_6_code 6 = .ok (.if_icmp .ge 27, 3) := by decide +kernel
theorem d_Ar_beginOf_9 : decode prog_2_method_6_code 9 = .ok (.iload_n 2, 1) := by decide +kernel
theorem d_Ar_beginOf_10 : decode prog_2_method_6_code 10 = .ok (.aload_n 0, 1) := by decide +kernel
theorem d_Ar_beginOf_11 : decode prog_2_method_6_code 11 = .ok (.getfield 15, 3) := by decide +kernel
theorem d_Ar_beginOf_14 : decode prog_2_method_6_code 14 = .ok (.if_icmp .ge 19, 3) := by decide +kernel
theorem d_Ar_beginOf_17 : decode prog_2_method_6_code 17 = .ok (.iload_n 2, 1) := by decide +kernel
theorem d_Ar_beginOf_18 : decode prog_2_method_6_code 18 = .ok (.iconst 5, 1) := by decide +kernel
theorem d_Ar_beginOf_19 : decode prog_2_method_6_code 19 = .ok (.aload_n 0, 1) := by decide +kernel
theorem d_Ar_beginOf_20 : decode prog_2_method_6_code 20 = .ok (.iload_n 2, 1) := by decide +kernel
theorem d_Ar_beginOf_21 : decode prog_2_method_6_code 21 = .ok (.invokevirtual 23, 3) := by decide +kernel
theorem d_Ar_beginOf_24 : decode prog_2_method_6_code 24 = .ok (.iadd, 1) := by decide +kernel
theorem d_Ar_beginOf_25 : decode prog_2_method_6_code 25 = .ok (.iadd, 1) := by decide +kernel
theorem d_Ar_beginOf_26 : decode prog_2_method_6_code 26 = .ok (.istore_n 2, 1) := by decide +kernel
theorem d_Ar_beginOf_27 : decode prog_2_method_6_code 27 = .ok (.iinc 3 1, 3) := by decide +kernel
theorem d_Ar_beginOf_30 : decode prog_2_method_6_code 30 = .ok (.goto (-26), 3) := by decide +kernel
theorem d_Ar_beginOf_33 : decode prog_2_method_6_code 33 = .ok (.iload_n 1, 1) := by decide +kernel
theorem d_Ar_beginOf_34 : decode prog_2_method_6_code 34 = .ok (.ifCond .lt 15, 3) := by decide +kernel
theorem d_Ar_beginOf_37 : decode prog_2_method_6_code 37 = .ok (.iload_n 2, 1) := by decide +kernel
theorem d_Ar_beginOf_38 : decode prog_2_method_6_code 38 = .ok (.aload_n 0, 1) := by decide +kernel
theorem d_Ar_beginOf_39 : decode prog_2_method_6_code 39 = .ok (.getfield 15, 3) := by decide +kernel
theorem d_Ar_beginOf_42 : decode prog_2_method_6_code 42 = .ok (.if_icmp .ge 7, 3) := by decide +kernel
theorem d_Ar_beginOf_45 : decode prog_2_method_6_code 45 = .ok (.iload_n 2, 1) := by decide +kernel
theorem d_Ar_beginOf_46 : decode prog_2_method_6_code 46 = .ok (.goto 4, 3) := by decide +kernel
theorem d_Ar_beginOf_49 : decode prog_2_method_6_code 49 = .ok (.iconst (-1), 1) := by decide +kernel
theorem d_Ar_beginOf_50 : decode prog_2_method_6_code 50 = .ok (.ireturn, 1) := by decide +kernel
theorem d_Ar_hasWholeBlock_0 : decode prog_2_method_4_code 0 = .ok (.aload_n 0, 1) := by decide +kernel
theorem d_Ar_hasWholeBlock_1 : decode prog_2_method_4_code 1 = .ok (.iload_n 1, 1) := by decide +kernel
theorem d_Ar_hasWholeBlock_2 : decode prog_2_method_4_code 2 = .ok (.invokevirtual 19, 3) := by decide +kernel
theorem d_Ar_hasWholeBlock_5 : decode prog_2_method_4_code 5 = .ok (.ifCond .eq 23, 3) := by decide +kernel
theorem d_Ar_hasWholeBlock_8 : decode prog_2_method_4_code 8 = .ok (.iload_n 1, 1) := by decide +kernel
theorem d_Ar_hasWholeBlock_9 : decode prog_2_method_4_code 9 = .ok (.iconst 5, 1) := by decide +kernel
theorem d_Ar_hasWholeBlock_10 : decode prog_2_method_4_code 10 = .ok (.iadd, 1) := by decide +kernel
theorem d_Ar_hasWholeBlock_11 : decode prog_2_method_4_code 11 = .ok (.aload_n 0, 1) := by decide +kernel
theorem d_Ar_hasWholeBlock_12 : decode prog_2_method_4_code 12 = .ok (.iload_n 1, 1) := by decide +kernel
theorem d_Ar_hasWholeBlock_13 : decode prog_2_method_4_code 13 = .ok (.invokevirtual 23, 3) := by decide +kernel
theorem d_Ar_hasWholeBlock_16 : decode prog_2_method_4_code 16 = .ok (.iadd, 1) := by decide +kernel
theorem d_Ar_hasWholeBlock_17 : decode prog_2_method_4_code 17 = .ok (.aload_n 0, 1) := by decide +kernel
theorem d_Ar_hasWholeBlock_18 : decode prog_2_method_4_code 18 = .ok (.getfield 15, 3) := by decide +kernel
theorem d_Ar_hasWholeBlock_21 : decode prog_2_method_4_code 21 = .ok (.if_icmp .gt 7, 3) := by decide +kernel
theorem d_Ar_hasWholeBlock_24 : decode prog_2_method_4_code 24 = .ok (.iconst 1, 1) := by decide +kernel
theorem d_Ar_hasWholeBlock_25 : decode prog_2_method_4_code 25 = .ok (.goto 4, 3) := by decide +kernel
theorem d_Ar_hasWholeBlock_28 : decode prog_2_method_4_code 28 = .ok (.iconst 0, 1) := by decide +kernel
theorem d_Ar_hasWholeBlock_29 : decode prog_2_method_4_code 29 = .ok (.ireturn, 1) := by decide +kernel
theorem d_Ar_holds_0 : decode prog_2_method_8_code 0 = .ok (.iconst 5, 1) := by decide +kernel
theorem d_Ar_holds_1 : decode prog_2_method_8_code 1 = .ok (.aload_n 0, 1) := by decide +kernel
theorem d_Ar_holds_2 : decode prog_2_method_8_code 2 = .ok (.iload_n 1, 1) := by decide +kernel
theorem d_Ar_holds_3 : decode prog_2_method_8_code 3 = .ok (.invokevirtual 23, 3) := by decide +kernel
theorem d_Ar_holds_6 : decode prog_2_method_8_code 6 = .ok (.iadd, 1) := by decide +kernel
theorem d_Ar_holds_7 : decode prog_2_method_8_code 7 = .ok (.iload_n 3, 1) := by decide +kernel
theorem d_Ar_holds_8 : decode prog_2_method_8_code 8 = .ok (.if_icmp .eq 5, 3) := by decide +kernel
theorem d_Ar_holds_11 : decode prog_2_method_8_code 11 = .ok (.iconst 0, 1) := by decide +kernel
theorem d_Ar_holds_12 : decode prog_2_method_8_code 12 = .ok (.ireturn, 1) := by decide +kernel
theorem d_Ar_holds_13 : decode prog_2_method_8_code 13 = .ok (.iconst 0, 1) := by decide +kernel
theorem d_Ar_holds_14 : decode prog_2_method_8_code 14 = .ok (.istore 4, 2) := by decide +kernel
theorem d_Ar_holds_16 : decode prog_2_method_8_code 16 = .ok (.iload 4, 2) := by decide +kernel
theorem d_Ar_holds_18 : decode prog_2_method_8_code 18 = .ok (.iload_n 3, 1) := by decide +kernel
theorem d_Ar_holds_19 : decode prog_2_method_8_code 19 = .ok (.if_icmp .ge 27, 3) := by decide +kernel
theorem d_Ar_holds_22 : decode prog_2_method_8_code 22 = .ok (.aload_n 0, 1) := by decide +kernel
theorem d_Ar_holds_23 : decode prog_2_method_8_code 23 = .ok (.getfield 9, 3) := by decide +kernel
theorem d_Ar_holds_26 : decode prog_2_method_8_code 26 = .ok (.iload_n 1, 1) := by decide +kernel
theorem d_Ar_holds_27 : decode prog_2_method_8_code 27 = .ok (.iload 4, 2) := by decide +kernel
theorem d_Ar_holds_29 : decode prog_2_method_8_code 29 = .ok (.iadd, 1) := by decide +kernel
theorem d_Ar_holds_30 : decode prog_2_method_8_code 30 = .ok (.iaload, 1) := by decide +kernel
theorem d_Ar_holds_31 : decode prog_2_method_8_code 31 = .ok (.aload_n 2, 1) := by decide +kernel
theorem d_Ar_holds_32 : decode prog_2_method_8_code 32 = .ok (.iload 4, 2) := by decide +kernel
theorem d_Ar_holds_34 : decode prog_2_method_8_code 34 = .ok (.iaload, 1) := by decide +kernel
theorem d_Ar_holds_35 : decode prog_2_method_8_code 35 = .ok (.if_icmp .eq 5, 3) := by decide +kernel
theorem d_Ar_holds_38 : decode prog_2_method_8_code 38 = .ok (.iconst 0, 1) := by decide +kernel
theorem d_Ar_holds_39 : decode prog_2_method_8_code 39 = .ok (.ireturn, 1) := by decide +kernel
theorem d_Ar_holds_40 : decode prog_2_method_8_code 40 = .ok (.iinc 4 1, 3) := by decide +kernel
theorem d_Ar_holds_43 : decode prog_2_method_8_code 43 = .ok (.goto (-27), 3) := by decide +kernel
theorem d_Ar_holds_46 : decode prog_2_method_8_code 46 = .ok (.iconst 1, 1) := by decide +kernel
theorem d_Ar_holds_47 : decode prog_2_method_8_code 47 = .ok (.ireturn, 1) := by decide +kernel
theorem d_Rr_countOver_0 : decode prog_7_method_3_code 0 = .ok (.iconst 0, 1) := by decide +kernel
theorem d_Rr_countOver_1 : decode prog_7_method_3_code 1 = .ok (.istore_n 2, 1) := by decide +kernel
theorem d_Rr_countOver_2 : decode prog_7_method_3_code 2 = .ok (.iconst 0, 1) := by decide +kernel
theorem d_Rr_countOver_3 : decode prog_7_method_3_code 3 = .ok (.istore_n 3, 1) := by decide +kernel
theorem d_Rr_countOver_4 : decode prog_7_method_3_code 4 = .ok (.iload_n 3, 1) := by decide +kernel
theorem d_Rr_countOver_5 : decode prog_7_method_3_code 5 = .ok (.aload_n 0, 1) := by decide +kernel
theorem d_Rr_countOver_6 : decode prog_7_method_3_code 6 = .ok (.getfield 7, 3) := by decide +kernel
theorem d_Rr_countOver_9 : decode prog_7_method_3_code 9 = .ok (.if_icmp .ge 38, 3) := by decide +kernel
theorem d_Rr_countOver_12 : decode prog_7_method_3_code 12 = .ok (.aload_n 0, 1) := by decide +kernel
theorem d_Rr_countOver_13 : decode prog_7_method_3_code 13 = .ok (.getfield 15, 3) := by decide +kernel
theorem d_Rr_countOver_16 : decode prog_7_method_3_code 16 = .ok (.iload_n 3, 1) := by decide +kernel
theorem d_Rr_countOver_17 : decode prog_7_method_3_code 17 = .ok (.aaload, 1) := by decide +kernel
theorem d_Rr_countOver_18 : decode prog_7_method_3_code 18 = .ok (.getfield 20, 3) := by decide +kernel
theorem d_Rr_countOver_21 : decode prog_7_method_3_code 21 = .ok (.iload_n 1, 1) := by decide +kernel
theorem d_Rr_countOver_22 : decode prog_7_method_3_code 22 = .ok (.if_icmp .gt 19, 3) := by decide +kernel
theorem d_Rr_countOver_25 : decode prog_7_method_3_code 25 = .ok (.iload_n 1, 1) := by decide +kernel
theorem d_Rr_countOver_26 : decode prog_7_method_3_code 26 = .ok (.aload_n 0, 1) := by decide +kernel
theorem d_Rr_countOver_27 : decode prog_7_method_3_code 27 = .ok (.getfield 15, 3) := by decide +kernel
theorem d_Rr_countOver_30 : decode prog_7_method_3_code 30 = .ok (.iload_n 3, 1) := by decide +kernel
theorem d_Rr_countOver_31 : decode prog_7_method_3_code 31 = .ok (.aaload, 1) := by decide +kernel
theorem d_Rr_countOver_32 : decode prog_7_method_3_code 32 = .ok (.invokevirtual 23, 3) := by decide +kernel
theorem d_Rr_countOver_35 : decode prog_7_method_3_code 35 = .ok (.if_icmp .ge 6, 3) := by decide +kernel
theorem d_Rr_countOver_38 : decode prog_7_method_3_code 38 = .ok (.iinc 2 1, 3) := by decide +kernel
theorem d_Rr_countOver_41 : decode prog_7_method_3_code 41 = .ok (.iinc 3 1, 3) := by decide +kernel
theorem d_Rr_countOver_44 : decode prog_7_method_3_code 44 = .ok (.goto (-40), 3) := by decide +kernel
theorem d_Rr_countOver_47 : decode prog_7_method_3_code 47 = .ok (.iload_n 2, 1) := by decide +kernel
theorem d_Rr_countOver_48 : decode prog_7_method_3_code 48 = .ok (.ireturn, 1) := by decide +kernel
