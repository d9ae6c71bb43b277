theorem d_Words_init_0 : decode prog_12_method_1_code 0 = .ok (.aload_n 0, 1) := by decide +kernel
theorem d_Words_init_1 : decode prog_12_method_1_code 1 = .ok (.invokespecial 3, 3) := by decide +kernel
theorem d_Words_init_4 : decode prog_12_method_1_code 4 = .ok (.aload_n 0, 1) := by decide +kernel
theorem d_Words_init_5 : decode prog_12_method_1_code 5 = .ok (.new 9, 3) := by decide +kernel
theorem d_Words_init_8 : decode prog_12_method_1_code 8 = .ok (.dup, 1) := by decide +kernel
theorem d_Words_init_9 : decode prog_12_method_1_code 9 = .ok (.invokespecial 11, 3) := by decide +kernel
theorem d_Words_init_12 : decode prog_12_method_1_code 12 = .ok (.putfield 12, 3) := by decide +kernel
theorem d_Words_init_15 : decode prog_12_method_1_code 15 = .ok (.aload_n 0, 1) := by decide +kernel
theorem d_Words_init_16 : decode prog_12_method_1_code 16 = .ok (.sipush 400, 3) := by decide +kernel
theorem d_Words_init_19 : decode prog_12_method_1_code 19 = .ok (.newarray .int, 2) := by decide +kernel
theorem d_Words_init_21 : decode prog_12_method_1_code 21 = .ok (.putfield 18, 3) := by decide +kernel
theorem d_Words_init_24 : decode prog_12_method_1_code 24 = .ok (.aload_n 0, 1) := by decide +kernel
theorem d_Words_init_25 : decode prog_12_method_1_code 25 = .ok (.sipush 400, 3) := by decide +kernel
theorem d_Words_init_28 : decode prog_12_method_1_code 28 = .ok (.newarray .int, 2) := by decide +kernel
theorem d_Words_init_30 : decode prog_12_method_1_code 30 = .ok (.putfield 22, 3) := by decide +kernel
theorem d_Words_init_33 : decode prog_12_method_1_code 33 = .ok (.aload_n 0, 1) := by decide +kernel
theorem d_Words_init_34 : decode prog_12_method_1_code 34 = .ok (.iconst 0, 1) := by decide +kernel
theorem d_Words_init_35 : decode prog_12_method_1_code 35 = .ok (.putfield 25, 3) := by decide +kernel
theorem d_Words_init_38 : decode prog_12_method_1_code 38 = .ok (.aload_n 0, 1) := by decide +kernel
theorem d_Words_init_39 : decode prog_12_method_1_code 39 = .ok (.iconst 0, 1) := by decide +kernel
theorem d_Words_init_40 : decode prog_12_method_1_code 40 = .ok (.putfield 29, 3) := by decide +kernel
theorem d_Words_init_43 : decode prog_12_method_1_code 43 = .ok (.return_, 1) := by decide +kernel
theorem d_Words_begin_0 : decode prog_12_method_3_code 0 = .ok (.aload_n 0, 1) := by decide +kernel
theorem d_Words_begin_1 : decode prog_12_method_3_code 1 = .ok (.getfield 25, 3) := by decide +kernel
theorem d_Words_begin_4 : decode prog_12_method_3_code 4 = .ok (.ifCond .lt 35, 3) := by decide +kernel
theorem d_Words_begin_39 : decode prog_12_method_3_code 39 = .ok (.return_, 1) := by decide +kernel
theorem d_Words_begin_7 : decode prog_12_method_3_code 7 = .ok (.aload_n 0, 1) := by decide +kernel
theorem d_Words_begin_8 : decode prog_12_method_3_code 8 = .ok (.getfield 25, 3) := by decide +kernel
theorem d_Words_begin_11 : decode prog_12_method_3_code 11 = .ok (.aload_n 0, 1) := by decide +kernel
theorem d_Words_begin_12 : decode prog_12_method_3_code 12 = .ok (.getfield 18, 3) := by decide +kernel
theorem d_Words_begin_15 : decode prog_12_method_3_code 15 = .ok (.arraylength, 1) := by decide +kernel
theorem d_Words_begin_16 : decode prog_12_method_3_code 16 = .ok (.if_icmp .ge 23, 3) := by decide +kernel
theorem d_Words_begin_19 : decode prog_12_method_3_code 19 = .ok (.aload_n 0, 1) := by decide +kernel
theorem d_Words_begin_20 : decode prog_12_method_3_code 20 = .ok (.getfield 18, 3) := by decide +kernel
theorem d_Words_begin_23 : decode prog_12_method_3_code 23 = .ok (.aload_n 0, 1) := by decide +kernel
theorem d_Words_begin_24 : decode prog_12_method_3_code 24 = .ok (.getfield 25, 3) := by decide +kernel
theorem d_Words_begin_27 : decode prog_12_method_3_code 27 = .ok (.iload_n 1, 1) := by decide +kernel
theorem d_Words_begin_28 : decode prog_12_method_3_code 28 = .ok (.iastore, 1) := by decide +kernel
theorem d_Words_begin_29 : decode prog_12_method_3_code 29 = .ok (.aload_n 0, 1) := by decide +kernel
theorem d_Words_begin_30 : decode prog_12_method_3_code 30 = .ok (.dup, 1) := by decide +kernel
theorem d_Words_begin_31 : decode prog_12_method_3_code 31 = .ok (.getfield 25, 3) := by decide +kernel
theorem d_Words_begin_34 : decode prog_12_method_3_code 34 = .ok (.iconst 1, 1) := by decide +kernel
theorem d_Words_begin_35 : decode prog_12_method_3_code 35 = .ok (.iadd, 1) := by decide +kernel
theorem d_Words_begin_36 : decode prog_12_method_3_code 36 = .ok (.putfield 25, 3) := by decide +kernel
theorem d_Words_lengthen_0 : decode prog_12_method_4_code 0 = .ok (.aload_n 0, 1) := by decide +kernel
theorem d_Words_lengthen_1 : decode prog_12_method_4_code 1 = .ok (.getfield 25, 3) := by decide +kernel
theorem d_Words_lengthen_4 : decode prog_12_method_4_code 4 = .ok (.iconst 1, 1) := by decide +kernel
theorem d_Words_lengthen_5 : decode prog_12_method_4_code 5 = .ok (.isub, 1) := by decide +kernel
theorem d_Words_lengthen_6 : decode prog_12_method_4_code 6 = .ok (.istore_n 2, 1) := by decide +kernel
theorem d_Words_lengthen_7 : decode prog_12_method_4_code 7 = .ok (.iload_n 2, 1) := by decide +kernel
theorem d_Words_lengthen_8 : decode prog_12_method_4_code 8 = .ok (.ifCond .lt 19, 3) := by decide +kernel
theorem d_Words_lengthen_27 : decode prog_12_method_4_code 27 = .ok (.return_, 1) := by decide +kernel
theorem d_Words_lengthen_11 : decode prog_12_method_4_code 11 = .ok (.iload_n 2, 1) := by decide +kernel
theorem d_Words_lengthen_12 : decode prog_12_method_4_code 12 = .ok (.aload_n 0, 1) := by decide +kernel
theorem d_Words_lengthen_13 : decode prog_12_method_4_code 13 = .ok (.getfield 22, 3) := by decide +kernel
theorem d_Words_lengthen_16 : decode prog_12_method_4_code 16 = .ok (.arraylength, 1) := by decide +kernel
theorem d_Words_lengthen_17 : decode prog_12_method_4_code 17 = .ok (.if_icmp .ge 10, 3) := by decide +kernel
theorem d_Words_lengthen_20 : decode prog_12_method_4_code 20 = .ok (.aload_n 0, 1) := by decide +kernel
theorem d_Words_lengthen_21 : decode prog_12_method_4_code 21 = .ok (.getfield 22, 3) := by decide +kernel
theorem d_Words_lengthen_24 : decode prog_12_method_4_code 24 = .ok (.iload_n 2, 1) := by decide +kernel
theorem d_Words_lengthen_25 : decode prog_12_method_4_code 25 = .ok (.iload_n 1, 1) := by decide +kernel
theorem d_Words_lengthen_26 : decode prog_12_method_4_code 26 = .ok (.iastore, 1) := by decide +kernel
theorem d_Words_append_63 : decode prog_12_method_2_code 63 = .ok (.iload 4, 2) := by decide +kernel
theorem d_Words_append_65 : decode prog_12_method_2_code 65 = .ok (.ifCond .eq 10, 3) := by decide +kernel
theorem d_Words_append_75 : decode prog_12_method_2_code 75 = .ok (.aload_n 0, 1) := by decide +kernel
theorem d_Words_append_76 : decode prog_12_method_2_code 76 = .ok (.iload 4, 2) := by decide +kernel
theorem d_Words_append_78 : decode prog_12_method_2_code 78 = .ok (.putfield 29, 3) := by decide +kernel
theorem d_Words_append_81 : decode prog_12_method_2_code 81 = .ok (.iconst 1, 1) := by decide +kernel
theorem d_Words_append_82 : decode prog_12_method_2_code 82 = .ok (.ireturn, 1) := by decide +kernel
theorem d_Words_append_68 : decode prog_12_method_2_code 68 = .ok (.aload_n 0, 1) := by decide +kernel
theorem d_Words_append_69 : decode prog_12_method_2_code 69 = .ok (.iload_n 3, 1) := by decide +kernel
theorem d_Words_append_70 : decode prog_12_method_2_code 70 = .ok (.iconst 1, 1) := by decide +kernel
theorem d_Words_append_71 : decode prog_12_method_2_code 71 = .ok (.iadd, 1) := by decide +kernel
theorem d_Words_append_72 : decode prog_12_method_2_code 72 = .ok (.invokevirtual 44, 3) := by decide +kernel
theorem d_Words_append_44 : decode prog_12_method_2_code 44 = .ok (.istore 4, 2) := by decide +kernel
theorem d_Words_append_46 : decode prog_12_method_2_code 46 = .ok (.iload 4, 2) := by decide +kernel
theorem d_Words_append_48 : decode prog_12_method_2_code 48 = .ok (.ifCond .eq 15, 3) := by decide +kernel
theorem d_Words_append_51 : decode prog_12_method_2_code 51 = .ok (.aload_n 0, 1) := by decide +kernel
theorem d_Words_append_52 : decode prog_12_method_2_code 52 = .ok (.getfield 29, 3) := by decide +kernel
theorem d_Words_append_55 : decode prog_12_method_2_code 55 = .ok (.ifCond .ne 8, 3) := by decide +kernel
theorem d_Words_append_58 : decode prog_12_method_2_code 58 = .ok (.aload_n 0, 1) := by decide +kernel
theorem d_Words_append_59 : decode prog_12_method_2_code 59 = .ok (.iload_n 3, 1) := by decide +kernel
theorem d_Words_append_60 : decode prog_12_method_2_code 60 = .ok (.invokevirtual 40, 3) := by decide +kernel
theorem d_Words_append_43 : decode prog_12_method_2_code 43 = .ok (.iconst 0, 1) := by decide +kernel
theorem d_Words_append_0 : decode prog_12_method_2_code 0 = .ok (.iload_n 1, 1) := by decide +kernel
theorem d_Words_append_1 : decode prog_12_method_2_code 1 = .ok (.sipush 255, 3) := by decide +kernel
theorem d_Words_append_4 : decode prog_12_method_2_code 4 = .ok (.iand, 1) := by decide +kernel
theorem d_Words_append_5 : decode prog_12_method_2_code 5 = .ok (.istore_n 2, 1) := by decide +kernel
theorem d_Words_append_6 : decode prog_12_method_2_code 6 = .ok (.aload_n 0, 1) := by decide +kernel
theorem d_Words_append_7 : decode prog_12_method_2_code 7 = .ok (.getfield 12, 3) := by decide +kernel
theorem d_Words_append_10 : decode prog_12_method_2_code 10 = .ok (.getfield 33, 3) := by decide +kernel
theorem d_Words_append_13 : decode prog_12_method_2_code 13 = .ok (.istore_n 3, 1) := by decide +kernel
theorem d_Words_append_14 : decode prog_12_method_2_code 14 = .ok (.aload_n 0, 1) := by decide +kernel
theorem d_Words_append_15 : decode prog_12_method_2_code 15 = .ok (.getfield 12, 3) := by decide +kernel
theorem d_Words_append_18 : decode prog_12_method_2_code 18 = .ok (.iload_n 2, 1) := by decide +kernel
theorem d_Words_append_19 : decode prog_12_method_2_code 19 = .ok (.invokevirtual 36, 3) := by decide +kernel
theorem d_Words_append_22 : decode prog_12_method_2_code 22 = .ok (.ifCond .ne 5, 3) := by decide +kernel
theorem d_Words_append_27 : decode prog_12_method_2_code 27 = .ok (.iload_n 2, 1) := by decide +kernel
theorem d_Words_append_28 : decode prog_12_method_2_code 28 = .ok (.bipush 32, 2) := by decide +kernel
theorem d_Words_append_30 : decode prog_12_method_2_code 30 = .ok (.if_icmp .eq 13, 3) := by decide +kernel
theorem d_Words_append_33 : decode prog_12_method_2_code 33 = .ok (.iload_n 2, 1) := by decide +kernel
theorem d_Words_append_34 : decode prog_12_method_2_code 34 = .ok (.bipush 10, 2) := by decide +kernel
theorem d_Words_append_36 : decode prog_12_method_2_code 36 = .ok (.if_icmp .eq 7, 3) := by decide +kernel
theorem d_Words_append_39 : decode prog_12_method_2_code 39 = .ok (.iconst 1, 1) := by decide +kernel
theorem d_Words_append_40 : decode prog_12_method_2_code 40 = .ok (.goto 4, 3) := by decide +kernel
theorem d_Words_append_25 : decode prog_12_method_2_code 25 = .ok (.iconst 0, 1) := by decide +kernel
theorem d_Words_append_26 : decode prog_12_method_2_code 26 = .ok (.ireturn, 1) := by decide +kernel
theorem d_Words_clear_0 : decode prog_12_method_5_code 0 = .ok (.aload_n 0, 1) := by decide +kernel
theorem d_Words_clear_1 : decode prog_12_method_5_code 1 = .ok (.getfield 12, 3) := by decide +kernel
theorem d_Words_clear_4 : decode prog_12_method_5_code 4 = .ok (.invokevirtual 47, 3) := by decide +kernel
theorem d_Words_clear_7 : decode prog_12_method_5_code 7 = .ok (.aload_n 0, 1) := by decide +kernel
theorem d_Words_clear_8 : decode prog_12_method_5_code 8 = .ok (.iconst 0, 1) := by decide +kernel
theorem d_Words_clear_9 : decode prog_12_method_5_code 9 = .ok (.putfield 25, 3) := by decide +kernel
theorem d_Words_clear_12 : decode prog_12_method_5_code 12 = .ok (.aload_n 0, 1) := by decide +kernel
theorem d_Words_clear_13 : decode prog_12_method_5_code 13 = .ok (.iconst 0, 1) := by decide +kernel
theorem d_Words_clear_14 : decode prog_12_method_5_code 14 = .ok (.putfield 29, 3) := by decide +kernel
theorem d_Words_clear_17 : decode prog_12_method_5_code 17 = .ok (.return_, 1) := by decide +kernel
theorem d_Words_startOf_0 : decode prog_12_method_6_code 0 = .ok (.iload_n 1, 1) := by decide +kernel
theorem d_Words_startOf_1 : decode prog_12_method_6_code 1 = .ok (.ifCond .lt 29, 3) := by decide +kernel
theorem d_Words_startOf_30 : decode prog_12_method_6_code 30 = .ok (.iconst 0, 1) := by decide +kernel
theorem d_Words_startOf_31 : decode prog_12_method_6_code 31 = .ok (.ireturn, 1) := by decide +kernel
theorem d_Words_startOf_4 : decode prog_12_method_6_code 4 = .ok (.iload_n 1, 1) := by decide +kernel
theorem d_Words_startOf_5 : decode prog_12_method_6_code 5 = .ok (.aload_n 0, 1) := by decide +kernel
theorem d_Words_startOf_6 : decode prog_12_method_6_code 6 = .ok (.getfield 25, 3) := by decide +kernel
theorem d_Words_startOf_9 : decode prog_12_method_6_code 9 = .ok (.if_icmp .ge 21, 3) := by decide +kernel
theorem d_Words_startOf_12 : decode prog_12_method_6_code 12 = .ok (.iload_n 1, 1) := by decide +kernel
theorem d_Words_startOf_13 : decode prog_12_method_6_code 13 = .ok (.aload_n 0, 1) := by decide +kernel
theorem d_Words_startOf_14 : decode prog_12_method_6_code 14 = .ok (.getfield 18, 3) := by decide +kernel
theorem d_Words_startOf_17 : decode prog_12_method_6_code 17 = .ok (.arraylength, 1) := by decide +kernel
theorem d_Words_startOf_18 : decode prog_12_method_6_code 18 = .ok (.if_icmp .ge 12, 3) := by decide +kernel
theorem d_Words_startOf_21 : decode prog_12_method_6_code 21 = .ok (.aload_n 0, 1) := by decide +kernel
theorem d_Words_startOf_22 : decode prog_12_method_6_code 22 = .ok (.getfield 18, 3) := by decide +kernel
theorem d_Words_startOf_25 : decode prog_12_method_6_code 25 = .ok (.iload_n 1, 1) := by decide +kernel
theorem d_Words_startOf_26 : decode prog_12_method_6_code 26 = .ok (.iaload, 1) := by decide +kernel
theorem d_Words_startOf_27 : decode prog_12_method_6_code 27 = .ok (.goto 4, 3) := by decide +kernel
theorem d_Words_endOf_0 : decode prog_12_method_7_code 0 = .ok (.iload_n 1, 1) := by decide +kernel
theorem d_Words_endOf_1 : decode prog_12_method_7_code 1 = .ok (.ifCond .lt 29, 3) := by decide +kernel
theorem d_Words_endOf_30 : decode prog_12_method_7_code 30 = .ok (.iconst 0, 1) := by decide +kernel
theorem d_Words_endOf_31 : decode prog_12_method_7_code 31 = .ok (.ireturn, 1) := by decide +kernel
theorem d_Words_endOf_4 : decode prog_12_method_7_code 4 = .ok (.iload_n 1, 1) := by decide +kernel
theorem d_Words_endOf_5 : decode prog_12_method_7_code 5 = .ok (.aload_n 0, 1) := by decide +kernel
theorem d_Words_endOf_6 : decode prog_12_method_7_code 6 = .ok (.getfield 25, 3) := by decide +kernel
theorem d_Words_endOf_9 : decode prog_12_method_7_code 9 = .ok (.if_icmp .ge 21, 3) := by decide +kernel
theorem d_Words_endOf_12 : decode prog_12_method_7_code 12 = .ok (.iload_n 1, 1) := by decide +kernel
theorem d_Words_endOf_13 : decode prog_12_method_7_code 13 = .ok (.aload_n 0, 1) := by decide +kernel
theorem d_Words_endOf_14 : decode prog_12_method_7_code 14 = .ok (.getfield 22, 3) := by decide +kernel
theorem d_Words_endOf_17 : decode prog_12_method_7_code 17 = .ok (.arraylength, 1) := by decide +kernel
theorem d_Words_endOf_18 : decode prog_12_method_7_code 18 = .ok (.if_icmp .ge 12, 3) := by decide +kernel
theorem d_Words_endOf_21 : decode prog_12_method_7_code 21 = .ok (.aload_n 0, 1) := by decide +kernel
theorem d_Words_endOf_22 : decode prog_12_method_7_code 22 = .ok (.getfield 22, 3) := by decide +kernel
theorem d_Words_endOf_25 : decode prog_12_method_7_code 25 = .ok (.iload_n 1, 1) := by decide +kernel
theorem d_Words_endOf_26 : decode prog_12_method_7_code 26 = .ok (.iaload, 1) := by decide +kernel
theorem d_Words_endOf_27 : decode prog_12_method_7_code 27 = .ok (.goto 4, 3) := by decide +kernel
theorem d_Words_is_25 : decode prog_12_method_8_code 25 = .ok (.iload 4, 2) := by decide +kernel
theorem d_Words_is_27 : decode prog_12_method_8_code 27 = .ok (.aload_n 2, 1) := by decide +kernel
theorem d_Words_is_28 : decode prog_12_method_8_code 28 = .ok (.invokevirtual 57, 3) := by decide +kernel
theorem d_Words_is_31 : decode prog_12_method_8_code 31 = .ok (.if_icmp .ge 31, 3) := by decide +kernel
theorem d_Words_is_62 : decode prog_12_method_8_code 62 = .ok (.iconst 1, 1) := by decide +kernel
theorem d_Words_is_63 : decode prog_12_method_8_code 63 = .ok (.ireturn, 1) := by decide +kernel
theorem d_Words_is_34 : decode prog_12_method_8_code 34 = .ok (.aload_n 0, 1) := by decide +kernel
theorem d_Words_is_35 : decode prog_12_method_8_code 35 = .ok (.getfield 12, 3) := by decide +kernel
theorem d_Words_is_38 : decode prog_12_method_8_code 38 = .ok (.iload_n 3, 1) := by decide +kernel
theorem d_Words_is_39 : decode prog_12_method_8_code 39 = .ok (.iload 4, 2) := by decide +kernel
theorem d_Words_is_41 : decode prog_12_method_8_code 41 = .ok (.iadd, 1) := by decide +kernel
theorem d_Words_is_42 : decode prog_12_method_8_code 42 = .ok (.invokevirtual 62, 3) := by decide +kernel
theorem d_Words_is_45 : decode prog_12_method_8_code 45 = .ok (.aload_n 2, 1) := by decide +kernel
theorem d_Words_is_46 : decode prog_12_method_8_code 46 = .ok (.iload 4, 2) := by decide +kernel
theorem d_Words_is_48 : decode prog_12_method_8_code 48 = .ok (.invokevirtual 65, 3) := by decide +kernel
theorem d_Words_is_51 : decode prog_12_method_8_code 51 = .ok (.if_icmp .eq 5, 3) := by decide +kernel
theorem d_Words_is_56 : decode prog_12_method_8_code 56 = .ok (.iinc 4 1, 3) := by decide +kernel
theorem d_Words_is_59 : decode prog_12_method_8_code 59 = .ok (.goto (-34), 3) := by decide +kernel
theorem d_Words_is_54 : decode prog_12_method_8_code 54 = .ok (.iconst 0, 1) := by decide +kernel
theorem d_Words_is_55 : decode prog_12_method_8_code 55 = .ok (.ireturn, 1) := by decide +kernel
theorem d_Words_is_0 : decode prog_12_method_8_code 0 = .ok (.aload_n 0, 1) := by decide +kernel
theorem d_Words_is_1 : decode prog_12_method_8_code 1 = .ok (.iload_n 1, 1) := by decide +kernel
theorem d_Words_is_2 : decode prog_12_method_8_code 2 = .ok (.invokevirtual 50, 3) := by decide +kernel
theorem d_Words_is_5 : decode prog_12_method_8_code 5 = .ok (.istore_n 3, 1) := by decide +kernel
theorem d_Words_is_6 : decode prog_12_method_8_code 6 = .ok (.aload_n 0, 1) := by decide +kernel
theorem d_Words_is_7 : decode prog_12_method_8_code 7 = .ok (.iload_n 1, 1) := by decide +kernel
theorem d_Words_is_8 : decode prog_12_method_8_code 8 = .ok (.invokevirtual 54, 3) := by decide +kernel
theorem d_Words_is_11 : decode prog_12_method_8_code 11 = .ok (.iload_n 3, 1) := by decide +kernel
theorem d_Words_is_12 : decode prog_12_method_8_code 12 = .ok (.isub, 1) := by decide +kernel
theorem d_Words_is_13 : decode prog_12_method_8_code 13 = .ok (.aload_n 2, 1) := by decide +kernel
theorem d_Words_is_14 : decode prog_12_method_8_code 14 = .ok (.invokevirtual 57, 3) := by decide +kernel
theorem d_Words_is_17 : decode prog_12_method_8_code 17 = .ok (.if_icmp .eq 5, 3) := by decide +kernel
theorem d_Words_is_22 : decode prog_12_method_8_code 22 = .ok (.iconst 0, 1) := by decide +kernel
theorem d_Words_is_23 : decode prog_12_method_8_code 23 = .ok (.istore 4, 2) := by decide +kernel
theorem d_Words_is_20 : decode prog_12_method_8_code 20 = .ok (.iconst 0, 1) := by decide +kernel
theorem d_Words_is_21 : decode prog_12_method_8_code 21 = .ok (.ireturn, 1) := by decide +kernel
theorem d_Words_numberAt_33 : decode prog_12_method_9_code 33 = .ok (.iload 5, 2) := by decide +kernel
theorem d_Words_numberAt_35 : decode prog_12_method_9_code 35 = .ok (.iload_n 3, 1) := by decide +kernel
theorem d_Words_numberAt_36 : decode prog_12_method_9_code 36 = .ok (.if_icmp .ge 49, 3) := by decide +kernel
theorem d_Words_numberAt_85 : decode prog_12_method_9_code 85 = .ok (.iload 4, 2) := by decide +kernel
theorem d_Words_numberAt_87 : decode prog_12_method_9_code 87 = .ok (.ireturn, 1) := by decide +kernel
theorem d_Words_numberAt_39 : decode prog_12_method_9_code 39 = .ok (.aload_n 0, 1) := by decide +kernel
theorem d_Words_numberAt_40 : decode prog_12_method_9_code 40 = .ok (.getfield 12, 3) := by decide +kernel
theorem d_Words_numberAt_43 : decode prog_12_method_9_code 43 = .ok (.iload 5, 2) := by decide +kernel
theorem d_Words_numberAt_45 : decode prog_12_method_9_code 45 = .ok (.invokevirtual 62, 3) := by decide +kernel
theorem d_Words_numberAt_48 : decode prog_12_method_9_code 48 = .ok (.istore 6, 2) := by decide +kernel
theorem d_Words_numberAt_50 : decode prog_12_method_9_code 50 = .ok (.iload 6, 2) := by decide +kernel
theorem d_Words_numberAt_52 : decode prog_12_method_9_code 52 = .ok (.bipush 48, 2) := by decide +kernel
theorem d_Words_numberAt_54 : decode prog_12_method_9_code 54 = .ok (.if_icmp .lt 10, 3) := by decide +kernel
theorem d_Words_numberAt_64 : decode prog_12_method_9_code 64 = .ok (.iconst (-1), 1) := by decide +kernel
theorem d_Words_numberAt_65 : decode prog_12_method_9_code 65 = .ok (.ireturn, 1) := by decide +kernel
theorem d_Words_numberAt_57 : decode prog_12_method_9_code 57 = .ok (.iload 6, 2) := by decide +kernel
theorem d_Words_numberAt_59 : decode prog_12_method_9_code 59 = .ok (.bipush 57, 2) := by decide +kernel
theorem d_Words_numberAt_61 : decode prog_12_method_9_code 61 = .ok (.if_icmp .le 5, 3) := by decide +kernel
theorem d_Words_numberAt_66 : decode prog_12_method_9_code 66 = .ok (.iload 4, 2) := by decide +kernel
theorem d_Words_numberAt_68 : decode prog_12_method_9_code 68 = .ok (.bipush 10, 2) := by decide +kernel
theorem d_Words_numberAt_70 : decode prog_12_method_9_code 70 = .ok (.imul, 1) := by decide +kernel
theorem d_Words_numberAt_71 : decode prog_12_method_9_code 71 = .ok (.iload 6, 2) := by decide +kernel
theorem d_Words_numberAt_73 : decode prog_12_method_9_code 73 = .ok (.bipush 48, 2) := by decide +kernel
theorem d_Words_numberAt_75 : decode prog_12_method_9_code 75 = .ok (.isub, 1) := by decide +kernel
theorem d_Words_numberAt_76 : decode prog_12_method_9_code 76 = .ok (.iadd, 1) := by decide +kernel
theorem d_Words_numberAt_77 : decode prog_12_method_9_code 77 = .ok (.istore 4, 2) := by decide +kernel
theorem d_Words_numberAt_79 : decode prog_12_method_9_code 79 = .ok (.iinc 5 1, 3) := by decide +kernel
theorem d_Words_numberAt_82 : decode prog_12_method_9_code 82 = .ok (.goto (-49), 3) := by decide +kernel
theorem d_Words_numberAt_0 : decode prog_12_method_9_code 0 = .ok (.aload_n 0, 1) := by decide +kernel
theorem d_Words_numberAt_1 : decode prog_12_method_9_code 1 = .ok (.iload_n 1, 1) := by decide +kernel
theorem d_Words_numberAt_2 : decode prog_12_method_9_code 2 = .ok (.invokevirtual 50, 3) := by decide +kernel
theorem d_Words_numberAt_5 : decode prog_12_method_9_code 5 = .ok (.istore_n 2, 1) := by decide +kernel
theorem d_Words_numberAt_6 : decode prog_12_method_9_code 6 = .ok (.aload_n 0, 1) := by decide +kernel
theorem d_Words_numberAt_7 : decode prog_12_method_9_code 7 = .ok (.iload_n 1, 1) := by decide +kernel
theorem d_Words_numberAt_8 : decode prog_12_method_9_code 8 = .ok (.invokevirtual 54, 3) := by decide +kernel
theorem d_Words_numberAt_11 : decode prog_12_method_9_code 11 = .ok (.istore_n 3, 1) := by decide +kernel
theorem d_Words_numberAt_12 : decode prog_12_method_9_code 12 = .ok (.iload_n 3, 1) := by decide +kernel
theorem d_Words_numberAt_13 : decode prog_12_method_9_code 13 = .ok (.iload_n 2, 1) := by decide +kernel
theorem d_Words_numberAt_14 : decode prog_12_method_9_code 14 = .ok (.if_icmp .le 11, 3) := by decide +kernel
theorem d_Words_numberAt_25 : decode prog_12_method_9_code 25 = .ok (.iconst (-1), 1) := by decide +kernel
theorem d_Words_numberAt_26 : decode prog_12_method_9_code 26 = .ok (.ireturn, 1) := by decide +kernel
theorem d_Words_numberAt_17 : decode prog_12_method_9_code 17 = .ok (.iload_n 3, 1) := by decide +kernel
theorem d_Words_numberAt_18 : decode prog_12_method_9_code 18 = .ok (.iload_n 2, 1) := by decide +kernel
theorem d_Words_numberAt_19 : decode prog_12_method_9_code 19 = .ok (.isub, 1) := by decide +kernel
theorem d_Words_numberAt_20 : decode prog_12_method_9_code 20 = .ok (.bipush 9, 2) := by decide +kernel
theorem d_Words_numberAt_22 : decode prog_12_method_9_code 22 = .ok (.if_icmp .le 5, 3) := by decide +kernel
theorem d_Words_numberAt_27 : decode prog_12_method_9_code 27 = .ok (.iconst 0, 1) := by decide +kernel
theorem d_Words_numberAt_28 : decode prog_12_method_9_code 28 = .ok (.istore 4, 2) := by decide +kernel
theorem d_Words_numberAt_30 : decode prog_12_method_9_code 30 = .ok (.iload_n 2, 1) := by decide +kernel
theorem d_Words_numberAt_31 : decode prog_12_method_9_code 31 = .ok (.istore 5, 2) := by decide +kernel
theorem d_Words_copyTo_38 : decode prog_12_method_10_code 38 = .ok (.iload 6, 2) := by decide +kernel
theorem d_Words_copyTo_40 : decode prog_12_method_10_code 40 = .ok (.iload 5, 2) := by decide +kernel
theorem d_Words_copyTo_42 : decode prog_12_method_10_code 42 = .ok (.if_icmp .ge 23, 3) := by decide +kernel
theorem d_Words_copyTo_65 : decode prog_12_method_10_code 65 = .ok (.iinc 4 1, 3) := by decide +kernel
theorem d_Words_copyTo_68 : decode prog_12_method_10_code 68 = .ok (.goto (-65), 3) := by decide +kernel
theorem d_Words_copyTo_45 : decode prog_12_method_10_code 45 = .ok (.aload_n 1, 1) := by decide +kernel
theorem d_Words_copyTo_46 : decode prog_12_method_10_code 46 = .ok (.aload_n 0, 1) := by decide +kernel
theorem d_Words_copyTo_47 : decode prog_12_method_10_code 47 = .ok (.getfield 12, 3) := by decide +kernel
theorem d_Words_copyTo_50 : decode prog_12_method_10_code 50 = .ok (.iload 6, 2) := by decide +kernel
theorem d_Words_copyTo_52 : decode prog_12_method_10_code 52 = .ok (.invokevirtual 62, 3) := by decide +kernel
theorem d_Words_copyTo_55 : decode prog_12_method_10_code 55 = .ok (.invokevirtual 36, 3) := by decide +kernel
theorem d_Words_copyTo_58 : decode prog_12_method_10_code 58 = .ok (.pop, 1) := by decide +kernel
theorem d_Words_copyTo_59 : decode prog_12_method_10_code 59 = .ok (.iinc 6 1, 3) := by decide +kernel
theorem d_Words_copyTo_62 : decode prog_12_method_10_code 62 = .ok (.goto (-24), 3) := by decide +kernel
theorem d_Words_copyTo_22 : decode prog_12_method_10_code 22 = .ok (.aload_n 0, 1) := by decide +kernel
theorem d_Words_copyTo_23 : decode prog_12_method_10_code 23 = .ok (.iload 4, 2) := by decide +kernel
theorem d_Words_copyTo_25 : decode prog_12_method_10_code 25 = .ok (.invokevirtual 54, 3) := by decide +kernel
theorem d_Words_copyTo_28 : decode prog_12_method_10_code 28 = .ok (.istore 5, 2) := by decide +kernel
theorem d_Words_copyTo_30 : decode prog_12_method_10_code 30 = .ok (.aload_n 0, 1) := by decide +kernel
theorem d_Words_copyTo_31 : decode prog_12_method_10_code 31 = .ok (.iload 4, 2) := by decide +kernel
theorem d_Words_copyTo_33 : decode prog_12_method_10_code 33 = .ok (.invokevirtual 50, 3) := by decide +kernel
theorem d_Words_copyTo_36 : decode prog_12_method_10_code 36 = .ok (.istore 6, 2) := by decide +kernel
theorem d_Words_copyTo_3 : decode prog_12_method_10_code 3 = .ok (.iload 4, 2) := by decide +kernel
theorem d_Words_copyTo_5 : decode prog_12_method_10_code 5 = .ok (.iload_n 3, 1) := by decide +kernel
theorem d_Words_copyTo_6 : decode prog_12_method_10_code 6 = .ok (.if_icmp .ge 65, 3) := by decide +kernel
theorem d_Words_copyTo_71 : decode prog_12_method_10_code 71 = .ok (.return_, 1) := by decide +kernel
theorem d_Words_copyTo_9 : decode prog_12_method_10_code 9 = .ok (.iload 4, 2) := by decide +kernel
theorem d_Words_copyTo_11 : decode prog_12_method_10_code 11 = .ok (.iload_n 2, 1) := by decide +kernel
theorem d_Words_copyTo_12 : decode prog_12_method_10_code 12 = .ok (.if_icmp .le 10, 3) := by decide +kernel
theorem d_Words_copyTo_15 : decode prog_12_method_10_code 15 = .ok (.aload_n 1, 1) := by decide +kernel
theorem d_Words_copyTo_16 : decode prog_12_method_10_code 16 = .ok (.bipush 32, 2) := by decide +kernel
theorem d_Words_copyTo_18 : decode prog_12_method_10_code 18 = .ok (.invokevirtual 36, 3) := by decide +kernel
theorem d_Words_copyTo_21 : decode prog_12_method_10_code 21 = .ok (.pop, 1) := by decide +kernel
theorem d_Words_copyTo_0 : decode prog_12_method_10_code 0 = .ok (.iload_n 2, 1) := by decide +kernel
theorem d_Words_copyTo_1 : decode prog_12_method_10_code 1 = .ok (.istore 4, 2) := by decide +kernel
def M_Words_init (F : Nat) (h : hH) (x0 : Nat) : Option hH :=
  (some (hAdd h (.inl (0, [.null, .int 0])))).bind fun h1 =>
  (M_Bytes_init F h1 h.1).bind fun h2 =>
  (hPut h2 x0 10 0 (.ref h.1)).bind fun h3 =>
  (some (hAdd h3 (.inr (.int, 400, .inl (fun _ => 0))))).bind fun h4 =>
  (hPut h4 x0 10 1 (.ref h3.1)).bind fun h5 =>
  (some (hAdd h5 (.inr (.int, 400, .inl (fun _ => 0))))).bind fun h6 =>
  (hPut h6 x0 10 2 (.ref h5.1)).bind fun h7 =>
  (hPut h7 x0 10 3 (.int 0)).bind fun h8 =>
  (hPut h8 x0 10 4 (.int 0)).bind fun h9 =>
  some h9
def M_Words_begin (F : Nat) (h : hH) (x0 : Nat) (x1 : Int32) : Option hH :=
  (hGetI h x0 10 3).bind fun v1 =>
  if v1 < 0 then (
    some h
  ) else (
    (hGetI h x0 10 3).bind fun v3 =>
    (hGetA h x0 10 1).bind fun v4 =>
    (hLen h v4).bind fun v5 =>
    if v5 ≤ v3 then (
      some h
    ) else (
      (hGetA h x0 10 1).bind fun v7 =>
      (hGetI h x0 10 3).bind fun v8 =>
      (hStI h v7 v8 x1).bind fun h9 =>
      (hGetI h9 x0 10 3).bind fun v10 =>
      (hPut h9 x0 10 3 (.int (v10 + 1))).bind fun h11 =>
      some h11
    )
  )
def M_Words_lengthen (F : Nat) (h : hH) (x0 : Nat) (x1 : Int32) : Option hH :=
  (hGetI h x0 10 3).bind fun v1 =>
  if (v1 - 1) < 0 then (
    some h
  ) else (
    (hGetA h x0 10 2).bind fun v3 =>
    (hLen h v3).bind fun v4 =>
    if v4 ≤ (v1 - 1) then (
      some h
    ) else (
      (hGetA h x0 10 2).bind fun v6 =>
      (hStI h v6 (v1 - 1) x1).bind fun h7 =>
      some h7
    )
  )
def M_Words_append_63 (F : Nat) (h : hH) (x0 : Nat) (x3 : Int32) (x4 : Int32) : Option (Int32 × hH) :=
  if x4 = 0 then (
    (hPutZ h x0 10 4 x4).bind fun h2 =>
    some (1, h2)
  ) else (
    (hIs h x0 10).bind fun u3 =>
    (M_Words_lengthen F h x0 (x3 + 1)).bind fun h4 =>
    (hPutZ h4 x0 10 4 x4).bind fun h5 =>
    some (1, h5)
  )
def M_Words_append_44 (F : Nat) (h : hH) (x0 : Nat) (x3 : Int32) (s0 : Int32) : Option (Int32 × hH) :=
  if s0 = 0 then (
    M_Words_append_63 F h x0 x3 s0
  ) else (
    (hGetI h x0 10 4).bind fun v2 =>
    if v2 = 0 then (
      (hIs h x0 10).bind fun u4 =>
      (M_Words_begin F h x0 x3).bind fun h5 =>
      M_Words_append_63 F h5 x0 x3 s0
    ) else (
      M_Words_append_63 F h x0 x3 s0
    )
  )
def M_Words_append_43 (F : Nat) (h : hH) (x0 : Nat) (x3 : Int32) : Option (Int32 × hH) :=
  M_Words_append_44 F h x0 x3 0
def M_Words_append (F : Nat) (h : hH) (x0 : Nat) (x1 : Int32) : Option (Int32 × hH) :=
  (hGetA h x0 10 0).bind fun v1 =>
  (hGetI h v1 0 1).bind fun v2 =>
  (hGetA h x0 10 0).bind fun v3 =>
  (hIs h v3 0).bind fun u4 =>
  (M_Bytes_append F h v3 (x1 &&& 255)).bind fun q5 =>
  if q5.1 = 0 then (
    some (0, q5.2)
  ) else (
    if (x1 &&& 255) = 32 then (
      M_Words_append_43 F q5.2 x0 v2
    ) else (
      if (x1 &&& 255) = 10 then (
        M_Words_append_43 F q5.2 x0 v2
      ) else (
        M_Words_append_44 F q5.2 x0 v2 1
      )
    )
  )
def M_Words_clear (F : Nat) (h : hH) (x0 : Nat) : Option hH :=
  (hGetA h x0 10 0).bind fun v1 =>
  (hIs h v1 0).bind fun u2 =>
  (M_Bytes_clear F h v1).bind fun h3 =>
  (hPut h3 x0 10 3 (.int 0)).bind fun h4 =>
  (hPut h4 x0 10 4 (.int 0)).bind fun h5 =>
  some h5
def M_Words_startOf (F : Nat) (h : hH) (x0 : Nat) (x1 : Int32) : Option (Int32 × hH) :=
  if x1 < 0 then (
    some (0, h)
  ) else (
    (hGetI h x0 10 3).bind fun v2 =>
    if v2 ≤ x1 then (
      some (0, h)
    ) else (
      (hGetA h x0 10 1).bind fun v4 =>
      (hLen h v4).bind fun v5 =>
      if v5 ≤ x1 then (
        some (0, h)
      ) else (
        (hGetA h x0 10 1).bind fun v7 =>
        (hLdI h v7 .int x1).bind fun v8 =>
        some (v8, h)
      )
    )
  )
def M_Words_endOf (F : Nat) (h : hH) (x0 : Nat) (x1 : Int32) : Option (Int32 × hH) :=
  if x1 < 0 then (
    some (0, h)
  ) else (
    (hGetI h x0 10 3).bind fun v2 =>
    if v2 ≤ x1 then (
      some (0, h)
    ) else (
      (hGetA h x0 10 2).bind fun v4 =>
      (hLen h v4).bind fun v5 =>
      if v5 ≤ x1 then (
        some (0, h)
      ) else (
        (hGetA h x0 10 2).bind fun v7 =>
        (hLdI h v7 .int x1).bind fun v8 =>
        some (v8, h)
      )
    )
  )
def B_Words_is_25 (F : Nat) (r25 : hH → Nat → Nat → Int32 → Int32 → Option (Int32 × hH)) (h : hH) (x0 : Nat) (x2 : Nat) (x3 : Int32) (x4 : Int32) : Option (Int32 × hH) :=
  (M_Str_length h x2).bind fun q1 =>
  if q1.1 ≤ x4 then (
    some (1, q1.2)
  ) else (
    (hGetA q1.2 x0 10 0).bind fun v4 =>
    (hIs q1.2 v4 0).bind fun u5 =>
    (M_Bytes_byteAt F q1.2 v4 (x3 + x4)).bind fun q6 =>
    (M_Str_charAt q6.2 x2 x4).bind fun q7 =>
    if q6.1 = q7.1 then (
      r25 q7.2 x0 x2 x3 (x4 + 1)
    ) else (
      some (0, q7.2)
    )
  )
def M_Words_is_25 (F : Nat) : Nat → hH → Nat → Nat → Int32 → Int32 → Option (Int32 × hH)
  | 0 => fun _ _ _ _ _ => none
  | z + 1 => B_Words_is_25 F (M_Words_is_25 F z)
def M_Words_is (F : Nat) (h : hH) (x0 : Nat) (x1 : Int32) (x2 : Nat) : Option (Int32 × hH) :=
  (hIs h x0 10).bind fun u1 =>
  (M_Words_startOf F h x0 x1).bind fun q2 =>
  (hIs q2.2 x0 10).bind fun u3 =>
  (M_Words_endOf F q2.2 x0 x1).bind fun q4 =>
  (M_Str_length q4.2 x2).bind fun q5 =>
  if (q4.1 - q2.1) = q5.1 then (
    M_Words_is_25 F F q5.2 x0 x2 q2.1 0
  ) else (
    some (0, q5.2)
  )
def B_Words_numberAt_33 (F : Nat) (r33 : hH → Nat → Int32 → Int32 → Int32 → Option (Int32 × hH)) (h : hH) (x0 : Nat) (x3 : Int32) (x4 : Int32) (x5 : Int32) : Option (Int32 × hH) :=
  if x3 ≤ x5 then (
    some (x4, h)
  ) else (
    (hGetA h x0 10 0).bind fun v2 =>
    (hIs h v2 0).bind fun u3 =>
    (M_Bytes_byteAt F h v2 x5).bind fun q4 =>
    if q4.1 < 48 then (
      some ((-1), q4.2)
    ) else (
      if q4.1 ≤ 57 then (
        r33 q4.2 x0 x3 ((x4 * 10) + (q4.1 - 48)) (x5 + 1)
      ) else (
        some ((-1), q4.2)
      )
    )
  )
def M_Words_numberAt_33 (F : Nat) : Nat → hH → Nat → Int32 → Int32 → Int32 → Option (Int32 × hH)
  | 0 => fun _ _ _ _ _ => none
  | z + 1 => B_Words_numberAt_33 F (M_Words_numberAt_33 F z)
def M_Words_numberAt (F : Nat) (h : hH) (x0 : Nat) (x1 : Int32) : Option (Int32 × hH) :=
  (hIs h x0 10).bind fun u1 =>
  (M_Words_startOf F h x0 x1).bind fun q2 =>
  (hIs q2.2 x0 10).bind fun u3 =>
  (M_Words_endOf F q2.2 x0 x1).bind fun q4 =>
  if q4.1 ≤ q2.1 then (
    some ((-1), q4.2)
  ) else (
    if (q4.1 - q2.1) ≤ 9 then (
      M_Words_numberAt_33 F F q4.2 x0 q4.1 0 q2.1
    ) else (
      some ((-1), q4.2)
    )
  )
def B_Words_copyTo_38 (F : Nat) (r3 : hH → Nat → Nat → Int32 → Int32 → Int32 → Option hH) (r38 : hH → Nat → Nat → Int32 → Int32 → Int32 → Int32 → Int32 → Option hH) (h : hH) (x0 : Nat) (x1 : Nat) (x2 : Int32) (x3 : Int32) (x4 : Int32) (x5 : Int32) (x6 : Int32) : Option hH :=
  if x5 ≤ x6 then (
    r3 h x0 x1 x2 x3 (x4 + 1)
  ) else (
    (hGetA h x0 10 0).bind fun v2 =>
    (hIs h v2 0).bind fun u3 =>
    (M_Bytes_byteAt F h v2 x6).bind fun q4 =>
    (hIs q4.2 x1 0).bind fun u5 =>
    (M_Bytes_append F q4.2 x1 q4.1).bind fun q6 =>
    r38 q6.2 x0 x1 x2 x3 x4 x5 (x6 + 1)
  )
def M_Words_copyTo_38 (F : Nat) (r3 : hH → Nat → Nat → Int32 → Int32 → Int32 → Option hH) : Nat → hH → Nat → Nat → Int32 → Int32 → Int32 → Int32 → Int32 → Option hH
  | 0 => fun _ _ _ _ _ _ _ _ => none
  | z + 1 => B_Words_copyTo_38 F r3 (M_Words_copyTo_38 F r3 z)
def M_Words_copyTo_22 (F : Nat) (r3 : hH → Nat → Nat → Int32 → Int32 → Int32 → Option hH) (h : hH) (x0 : Nat) (x1 : Nat) (x2 : Int32) (x3 : Int32) (x4 : Int32) : Option hH :=
  (hIs h x0 10).bind fun u1 =>
  (M_Words_endOf F h x0 x4).bind fun q2 =>
  (hIs q2.2 x0 10).bind fun u3 =>
  (M_Words_startOf F q2.2 x0 x4).bind fun q4 =>
  M_Words_copyTo_38 F r3 F q4.2 x0 x1 x2 x3 x4 q2.1 q4.1
def B_Words_copyTo_3 (F : Nat) (r3 : hH → Nat → Nat → Int32 → Int32 → Int32 → Option hH) (h : hH) (x0 : Nat) (x1 : Nat) (x2 : Int32) (x3 : Int32) (x4 : Int32) : Option hH :=
  if x3 ≤ x4 then (
    some h
  ) else (
    if x4 ≤ x2 then (
      M_Words_copyTo_22 F r3 h x0 x1 x2 x3 x4
    ) else (
      (hIs h x1 0).bind fun u3 =>
      (M_Bytes_append F h x1 32).bind fun q4 =>
      M_Words_copyTo_22 F r3 q4.2 x0 x1 x2 x3 x4
    )
  )
def M_Words_copyTo_3 (F : Nat) : Nat → hH → Nat → Nat → Int32 → Int32 → Int32 → Option hH
  | 0 => fun _ _ _ _ _ _ => none
  | z + 1 => B_Words_copyTo_3 F (M_Words_copyTo_3 F z)
def M_Words_copyTo (F : Nat) (h : hH) (x0 : Nat) (x1 : Nat) (x2 : Int32) (x3 : Int32) : Option hH :=
  M_Words_copyTo_3 F F h x0 x1 x2 x3 x2
abbrev rm_Words_init : Room := { frames := 2, cells := 4, slots := 1602, locals := 32 }
set_option maxHeartbeats 4000000 in
set_option maxRecDepth 100000 in
theorem c_Words_init (l : Launch) (D : va_G) (K : (Nat → Nat) × (Nat → Nat)) (F : Nat) {h : hH} {x0 : Nat} {q : hH} (hM : M_Words_init F h x0 = some q) : Met l y_Words_init (.code y_Words_init prog_12_method_1_code 1 none :: T0) rm_Words_init (hPc hG D cls0 K [.ref x0] h) (hQ D cls0 h none q) 4 1602 (hF h) := by
  refine J_met (lv := [(0, .ref x0)]) (by decide) (Nat.le_of_ble_eq_true rfl) rfl ?_
  intro p e s m below meth c X hr hlk hnm
  have Y : HX p s m _ meth c prog_12_method_1_code 1 "LicenceTexts$Words" D K "<init>" none h := ⟨X, hr, hlk, hnm⟩
  unfold M_Words_init at hM
  refine J_aload_n (pc := 0) X 0 d_Words_init_0 rfl ?_
  refine J_objInit (pc := 1) X k_74 k_1 k_2 d_Words_init_1 (Nat.le_of_ble_eq_true rfl) (Nat.le_of_ble_eq_true rfl) ?_
  refine J_aload_n (pc := 4) X 0 d_Words_init_4 rfl ?_
  refine J_new (pc := 5) (fs := [.null, .int 0]) X hc_Bytes in_Bytes t_Bytes tk_Bytes k_75 k_76 k_77 d_Words_init_5 rfl df_Bytes (Nat.le_of_ble_eq_true rfl) (Nat.le_of_ble_eq_true rfl) ?_
  obtain ⟨h1, eh1, hM⟩ := hb_some hM
  rw [Option.some.inj eh1]
  refine J_dup (pc := 8) X d_Words_init_8 rfl ?_
  obtain ⟨h2, eh2, hM⟩ := hb_some hM
  refine J_callI (pc := 9) (As := []) (rest := [.ref h.1, .ref x0]) (o := none) (h2 := h2) X rfl (c_Bytes_init l D K F eh2) (cwI_of (nA := 0) X.fix k_78 k_80 k_77 k_79 ⟨rfl, rfl, rfl⟩ (by decide +kernel) ⟨Nat.le_of_ble_eq_true rfl, Nat.le_of_ble_eq_true rfl⟩) d_Words_init_9 rfl rfl (Nat.le_of_ble_eq_true rfl) (Nat.le_of_ble_eq_true rfl) (Nat.le_of_ble_eq_true rfl) ?_
  obtain ⟨h3, eh3, hM⟩ := hb_some hM
  refine J_putF (pc := 12) X hc_Words in_Words t_Words tk_Words nk_Words 0 k_81 (by decide) rfl rfl rfl hnm d_Words_init_12 rfl rfl rfl eh3 ?_
  refine J_aload_n (pc := 15) X 0 d_Words_init_15 rfl ?_
  refine J_sipush (pc := 16) (v := (400)) X d_Words_init_16 (by decide) ?_
  refine J_newa (pc := 19) (ty := .int) (N := 400) (a0 := (400, .inl (fun _ => 0))) X rfl k_17 d_Words_init_19 (fun _ => rfl) (fun _ _ hq => hq) (by decide) (by decide) (by decide) (Nat.le_of_ble_eq_true rfl) (Nat.le_of_ble_eq_true rfl) ?_
  obtain ⟨h4, eh4, hM⟩ := hb_some hM
  rw [Option.some.inj eh4]
  obtain ⟨h5, eh5, hM⟩ := hb_some hM
  refine J_putF (pc := 21) X hc_Words in_Words t_Words tk_Words nk_Words 1 k_82 (by decide) rfl rfl rfl hnm d_Words_init_21 rfl rfl rfl eh5 ?_
  refine J_aload_n (pc := 24) X 0 d_Words_init_24 rfl ?_
  refine J_sipush (pc := 25) (v := (400)) X d_Words_init_25 (by decide) ?_
  refine J_newa (pc := 28) (ty := .int) (N := 400) (a0 := (400, .inl (fun _ => 0))) X rfl k_17 d_Words_init_28 (fun _ => rfl) (fun _ _ hq => hq) (by decide) (by decide) (by decide) (Nat.le_of_ble_eq_true rfl) (Nat.le_of_ble_eq_true rfl) ?_
  obtain ⟨h6, eh6, hM⟩ := hb_some hM
  rw [Option.some.inj eh6]
  obtain ⟨h7, eh7, hM⟩ := hb_some hM
  refine J_putF (pc := 30) X hc_Words in_Words t_Words tk_Words nk_Words 2 k_83 (by decide) rfl rfl rfl hnm d_Words_init_30 rfl rfl rfl eh7 ?_
  refine J_aload_n (pc := 33) X 0 d_Words_init_33 rfl ?_
  refine J_iconst (pc := 34) (v := (0)) X d_Words_init_34 (by decide) ?_
  obtain ⟨h8, eh8, hM⟩ := hb_some hM
  refine J_put (pc := 35) X hc_Words in_Words t_Words tk_Words nk_Words 3 k_84 (by decide) rfl rfl d_Words_init_35 rfl rfl rfl eh8 ?_
  refine J_aload_n (pc := 38) X 0 d_Words_init_38 rfl ?_
  refine J_iconst (pc := 39) (v := (0)) X d_Words_init_39 (by decide) ?_
  obtain ⟨h9, eh9, hM⟩ := hb_some hM
  refine J_put (pc := 40) X hc_Words in_Words t_Words tk_Words nk_Words 4 k_85 (by decide) rfl rfl d_Words_init_40 rfl rfl rfl eh9 ?_
  obtain rfl := Option.some.inj hM
  exact J_vret (pc := 43) X hr hlk (Nat.le_of_ble_eq_true rfl) (Nat.le_of_ble_eq_true rfl) d_Words_init_43
abbrev rm_Words_begin : Room := { frames := 0, cells := 0, slots := 0, locals := 0 }
set_option maxHeartbeats 4000000 in
set_option maxRecDepth 100000 in
theorem c_Words_begin (l : Launch) (D : va_G) (K : (Nat → Nat) × (Nat → Nat)) (F : Nat) {h : hH} {x0 : Nat} {x1 : Int32} {q : hH} (hM : M_Words_begin F h x0 x1 = some q) : Met l y_Words_begin (.code y_Words_begin prog_12_method_3_code 2 none :: T0) rm_Words_begin (hPc hG D cls0 K [.ref x0, .int x1] h) (hQ D cls0 h none q) 0 0 (hF h) := by
  refine J_met (lv := [(0, .ref x0), (1, .int x1)]) (by decide) (Nat.le_of_ble_eq_true rfl) rfl ?_
  intro p e s m below meth c X hr hlk hnm
  have Y : HX p s m _ meth c prog_12_method_3_code 2 "LicenceTexts$Words" D K "begin" none h := ⟨X, hr, hlk, hnm⟩
  unfold M_Words_begin at hM
  refine J_aload_n (pc := 0) X 0 d_Words_begin_0 rfl ?_
  obtain ⟨v1, ev1, hM⟩ := hb_some hM
  refine J_getI (pc := 1) X hc_Words in_Words 3 k_84 (by decide) rfl d_Words_begin_1 rfl ev1 ?_
  refine J_if_lt (pc := 4) (tgt := 39) X d_Words_begin_4 (by decide) (fun c2 => ?_) (fun c2 => ?_)
  · have hM := hif_t hM c2
    obtain rfl := Option.some.inj hM
    exact J_vret (pc := 39) X hr hlk (Nat.le_of_ble_eq_true rfl) (Nat.le_of_ble_eq_true rfl) d_Words_begin_39
  · have hM := hif_f hM c2
    refine J_aload_n (pc := 7) X 0 d_Words_begin_7 rfl ?_
    obtain ⟨v3, ev3, hM⟩ := hb_some hM
    refine J_getI (pc := 8) X hc_Words in_Words 3 k_84 (by decide) rfl d_Words_begin_8 rfl ev3 ?_
    refine J_aload_n (pc := 11) X 0 d_Words_begin_11 rfl ?_
    obtain ⟨v4, ev4, hM⟩ := hb_some hM
    refine J_getA (pc := 12) X hc_Words in_Words 1 k_82 (by decide) rfl d_Words_begin_12 rfl ev4 ?_
    obtain ⟨v5, ev5, hM⟩ := hb_some hM
    refine J_alen (pc := 15) X d_Words_begin_15 rfl ev5 ?_
    refine J_icmp_ge (pc := 16) (tgt := 39) X d_Words_begin_16 (by decide) (fun c6 => ?_) (fun c6 => ?_)
    · have hM := hif_t hM c6
      obtain rfl := Option.some.inj hM
      exact J_vret (pc := 39) X hr hlk (Nat.le_of_ble_eq_true rfl) (Nat.le_of_ble_eq_true rfl) d_Words_begin_39
    · have hM := hif_f hM c6
      refine J_aload_n (pc := 19) X 0 d_Words_begin_19 rfl ?_
      obtain ⟨v7, ev7, hM⟩ := hb_some hM
      refine J_getA (pc := 20) X hc_Words in_Words 1 k_82 (by decide) rfl d_Words_begin_20 rfl ev7 ?_
      refine J_aload_n (pc := 23) X 0 d_Words_begin_23 rfl ?_
      obtain ⟨v8, ev8, hM⟩ := hb_some hM
      refine J_getI (pc := 24) X hc_Words in_Words 3 k_84 (by decide) rfl d_Words_begin_24 rfl ev8 ?_
      refine J_iload_n (pc := 27) X 1 d_Words_begin_27 rfl ?_
      obtain ⟨h9, eh9, hM⟩ := hb_some hM
      refine J_iast (pc := 28) X d_Words_begin_28 rfl eh9 ?_
      refine J_aload_n (pc := 29) X 0 d_Words_begin_29 rfl ?_
      refine J_dup (pc := 30) X d_Words_begin_30 rfl ?_
      obtain ⟨v10, ev10, hM⟩ := hb_some hM
      refine J_getI (pc := 31) X hc_Words in_Words 3 k_84 (by decide) rfl d_Words_begin_31 rfl ev10 ?_
      refine J_iconst (pc := 34) (v := (1)) X d_Words_begin_34 (by decide) ?_
      refine J_iadd (pc := 35) X d_Words_begin_35 ?_
      obtain ⟨h11, eh11, hM⟩ := hb_some hM
      refine J_put (pc := 36) X hc_Words in_Words t_Words tk_Words nk_Words 3 k_84 (by decide) rfl rfl d_Words_begin_36 rfl rfl rfl eh11 ?_
      obtain rfl := Option.some.inj hM
      exact J_vret (pc := 39) X hr hlk (Nat.le_of_ble_eq_true rfl) (Nat.le_of_ble_eq_true rfl) d_Words_begin_39
abbrev rm_Words_lengthen : Room := { frames := 0, cells := 0, slots := 0, locals := 0 }
set_option maxHeartbeats 4000000 in
set_option maxRecDepth 100000 in
theorem c_Words_lengthen (l : Launch) (D : va_G) (K : (Nat → Nat) × (Nat → Nat)) (F : Nat) {h : hH} {x0 : Nat} {x1 : Int32} {q : hH} (hM : M_Words_lengthen F h x0 x1 = some q) : Met l y_Words_lengthen (.code y_Words_lengthen prog_12_method_4_code 3 none :: T0) rm_Words_lengthen (hPc hG D cls0 K [.ref x0, .int x1] h) (hQ D cls0 h none q) 0 0 (hF h) := by
  refine J_met (lv := [(0, .ref x0), (1, .int x1)]) (by decide) (Nat.le_of_ble_eq_true rfl) rfl ?_
  intro p e s m below meth c X hr hlk hnm
  have Y : HX p s m _ meth c prog_12_method_4_code 3 "LicenceTexts$Words" D K "lengthen" none h := ⟨X, hr, hlk, hnm⟩
  unfold M_Words_lengthen at hM
  refine J_aload_n (pc := 0) X 0 d_Words_lengthen_0 rfl ?_
  obtain ⟨v1, ev1, hM⟩ := hb_some hM
  refine J_getI (pc := 1) X hc_Words in_Words 3 k_84 (by decide) rfl d_Words_lengthen_1 rfl ev1 ?_
  refine J_iconst (pc := 4) (v := (1)) X d_Words_lengthen_4 (by decide) ?_
  refine J_isub (pc := 5) X d_Words_lengthen_5 ?_
  refine J_istore_n (pc := 6) (lv' := [(2, .int (v1 - 1)), (0, .ref x0), (1, .int x1)]) X d_Words_lengthen_6 rfl (by decide) rfl ?_
  refine J_iload_n (pc := 7) X 0 d_Words_lengthen_7 rfl ?_
  refine J_if_lt (pc := 8) (tgt := 27) X d_Words_lengthen_8 (by decide) (fun c2 => ?_) (fun c2 => ?_)
  · have hM := hif_t hM c2
    obtain rfl := Option.some.inj hM
    exact J_vret (pc := 27) X hr hlk (Nat.le_of_ble_eq_true rfl) (Nat.le_of_ble_eq_true rfl) d_Words_lengthen_27
  · have hM := hif_f hM c2
    refine J_iload_n (pc := 11) X 0 d_Words_lengthen_11 rfl ?_
    refine J_aload_n (pc := 12) X 1 d_Words_lengthen_12 rfl ?_
    obtain ⟨v3, ev3, hM⟩ := hb_some hM
    refine J_getA (pc := 13) X hc_Words in_Words 2 k_83 (by decide) rfl d_Words_lengthen_13 rfl ev3 ?_
    obtain ⟨v4, ev4, hM⟩ := hb_some hM
    refine J_alen (pc := 16) X d_Words_lengthen_16 rfl ev4 ?_
    refine J_icmp_ge (pc := 17) (tgt := 27) X d_Words_lengthen_17 (by decide) (fun c5 => ?_) (fun c5 => ?_)
    · have hM := hif_t hM c5
      obtain rfl := Option.some.inj hM
      exact J_vret (pc := 27) X hr hlk (Nat.le_of_ble_eq_true rfl) (Nat.le_of_ble_eq_true rfl) d_Words_lengthen_27
    · have hM := hif_f hM c5
      refine J_aload_n (pc := 20) X 1 d_Words_lengthen_20 rfl ?_
      obtain ⟨v6, ev6, hM⟩ := hb_some hM
      refine J_getA (pc := 21) X hc_Words in_Words 2 k_83 (by decide) rfl d_Words_lengthen_21 rfl ev6 ?_
      refine J_iload_n (pc := 24) X 0 d_Words_lengthen_24 rfl ?_
      refine J_iload_n (pc := 25) X 2 d_Words_lengthen_25 rfl ?_
      obtain ⟨h7, eh7, hM⟩ := hb_some hM
      refine J_iast (pc := 26) X d_Words_lengthen_26 rfl eh7 ?_
      obtain rfl := Option.some.inj hM
      exact J_vret (pc := 27) X hr hlk (Nat.le_of_ble_eq_true rfl) (Nat.le_of_ble_eq_true rfl) d_Words_lengthen_27
abbrev rm_Words_append : Room := { frames := 1, cells := 0, slots := 0, locals := 22 }
set_option maxHeartbeats 4000000 in
set_option maxRecDepth 100000 in
theorem w_Words_append_63 {p : Program} {l : Launch} {e : Env} {s : State} {m : MethodId} {args : Array Value} {below : List Frame} {meth : Method} {c : Code} {D : va_G} {K : (Nat → Nat) × (Nat → Nat)} {h0 : hH} (Y : HX p s m args meth c prog_12_method_2_code 5 "LicenceTexts$Words" D K "append" (some .boolean) h0) {F : Nat} (h : hH) (x0 : Nat) (x3 : Int32) (x4 : Int32) (q : (Int32 × hH)) (hM : M_Words_append_63 F h x0 x3 x4 = some q) : J p l e rm_Words_append s m args below meth c 5 D cls0 (hF h0) h [(0, .ref x0), (3, .int x3), (4, .int x4)] 0 0 (MQ below (hQ D cls0 h0 (some (.int q.1)) q.2) args s 0 0 (hF h0)) 63 [] := by
  obtain ⟨X, hr, hlk, hnm⟩ := id Y
  unfold M_Words_append_63 at hM
  refine J_iload (pc := 63) X 2 d_Words_append_63 rfl ?_
  refine J_if_eq (pc := 65) (tgt := 75) X d_Words_append_65 (by decide) (fun c1 => ?_) (fun c1 => ?_)
  · have hM := hif_t hM c1
    refine J_aload_n (pc := 75) X 0 d_Words_append_75 rfl ?_
    refine J_iload (pc := 76) X 2 d_Words_append_76 rfl ?_
    obtain ⟨h2, eh2, hM⟩ := hb_some hM
    refine J_put (pc := 78) X hc_Words in_Words t_Words tk_Words nk_Words 4 k_85 (by decide) rfl rfl d_Words_append_78 rfl ((hPutZ_of eh2).2.1) ((hPutZ_of eh2).2.2) ((hPutZ_of eh2).1) ?_
    refine J_iconst (pc := 81) (v := (1)) X d_Words_append_81 (by decide) ?_
    obtain rfl := Option.some.inj hM
    exact J_zret (pc := 82) X hr hz1 hlk (Nat.le_of_ble_eq_true rfl) (Nat.le_of_ble_eq_true rfl) d_Words_append_82
  · have hM := hif_f hM c1
    refine J_aload_n (pc := 68) X 0 d_Words_append_68 rfl ?_
    refine J_iload_n (pc := 69) X 1 d_Words_append_69 rfl ?_
    refine J_iconst (pc := 70) (v := (1)) X d_Words_append_70 (by decide) ?_
    refine J_iadd (pc := 71) X d_Words_append_71 ?_
    obtain ⟨u3, eu3, hM⟩ := hb_some hM
    obtain ⟨h4, eh4, hM⟩ := hb_some hM
    refine J_callV (pc := 72) (As := [.int (x3 + 1)]) (rest := []) (o := none) (h2 := h4) X rfl hc_Words eu3 (c_Words_lengthen l D K F eh4) (cwV_of (nA := 1) X.fix k_86 k_89 k_90 k_88 k_87 ⟨rfl, rfl, rfl⟩ (by decide +kernel) ⟨Nat.le_of_ble_eq_true rfl, Nat.le_of_ble_eq_true rfl⟩) d_Words_append_72 rfl rfl (Nat.le_of_ble_eq_true rfl) (Nat.le_of_ble_eq_true rfl) (Nat.le_of_ble_eq_true rfl) ?_
    refine J_aload_n (pc := 75) X 0 d_Words_append_75 rfl ?_
    refine J_iload (pc := 76) X 2 d_Words_append_76 rfl ?_
    obtain ⟨h5, eh5, hM⟩ := hb_some hM
    refine J_put (pc := 78) X hc_Words in_Words t_Words tk_Words nk_Words 4 k_85 (by decide) rfl rfl d_Words_append_78 rfl ((hPutZ_of eh5).2.1) ((hPutZ_of eh5).2.2) ((hPutZ_of eh5).1) ?_
    refine J_iconst (pc := 81) (v := (1)) X d_Words_append_81 (by decide) ?_
    obtain rfl := Option.some.inj hM
    exact J_zret (pc := 82) X hr hz1 hlk (Nat.le_of_ble_eq_true rfl) (Nat.le_of_ble_eq_true rfl) d_Words_append_82
set_option maxHeartbeats 4000000 in
set_option maxRecDepth 100000 in
theorem w_Words_append_44 {p : Program} {l : Launch} {e : Env} {s : State} {m : MethodId} {args : Array Value} {below : List Frame} {meth : Method} {c : Code} {D : va_G} {K : (Nat → Nat) × (Nat → Nat)} {h0 : hH} (Y : HX p s m args meth c prog_12_method_2_code 5 "LicenceTexts$Words" D K "append" (some .boolean) h0) {F : Nat} (h : hH) (x0 : Nat) (x3 : Int32) (s0 : Int32) (q : (Int32 × hH)) (hM : M_Words_append_44 F h x0 x3 s0 = some q) : J p l e rm_Words_append s m args below meth c 5 D cls0 (hF h0) h [(0, .ref x0), (3, .int x3)] 0 0 (MQ below (hQ D cls0 h0 (some (.int q.1)) q.2) args s 0 0 (hF h0)) 44 [.int s0] := by
  obtain ⟨X, hr, hlk, hnm⟩ := id Y
  unfold M_Words_append_44 at hM
  refine J_istore (pc := 44) (lv' := [(4, .int s0), (0, .ref x0), (3, .int x3)]) X d_Words_append_44 (by decide) rfl ?_
  refine J_iload (pc := 46) X 0 d_Words_append_46 rfl ?_
  refine J_if_eq (pc := 48) (tgt := 63) X d_Words_append_48 (by decide) (fun c1 => ?_) (fun c1 => ?_)
  · have hM := hif_t hM c1
    refine J_sub [1, 2, 0] rfl ?_
    exact w_Words_append_63 Y _ _ _ _ _ hM
  · have hM := hif_f hM c1
    refine J_aload_n (pc := 51) X 1 d_Words_append_51 rfl ?_
    obtain ⟨v2, ev2, hM⟩ := hb_some hM
    refine J_getI (pc := 52) X hc_Words in_Words 4 k_85 (by decide) rfl d_Words_append_52 rfl ev2 ?_
    refine J_if_ne (pc := 55) (tgt := 63) X d_Words_append_55 (by decide) (fun c3 => ?_) (fun c3 => ?_)
    · have hM := hif_f hM c3
      refine J_sub [1, 2, 0] rfl ?_
      exact w_Words_append_63 Y _ _ _ _ _ hM
    · have hM := hif_t hM c3
      refine J_aload_n (pc := 58) X 1 d_Words_append_58 rfl ?_
      refine J_iload_n (pc := 59) X 2 d_Words_append_59 rfl ?_
      obtain ⟨u4, eu4, hM⟩ := hb_some hM
      obtain ⟨h5, eh5, hM⟩ := hb_some hM
      refine J_callV (pc := 60) (As := [.int x3]) (rest := []) (o := none) (h2 := h5) X rfl hc_Words eu4 (c_Words_begin l D K F eh5) (cwV_of (nA := 1) X.fix k_91 k_93 k_94 k_88 k_92 ⟨rfl, rfl, rfl⟩ (by decide +kernel) ⟨Nat.le_of_ble_eq_true rfl, Nat.le_of_ble_eq_true rfl⟩) d_Words_append_60 rfl rfl (Nat.le_of_ble_eq_true rfl) (Nat.le_of_ble_eq_true rfl) (Nat.le_of_ble_eq_true rfl) ?_
      refine J_sub [1, 2, 0] rfl ?_
      exact w_Words_append_63 Y _ _ _ _ _ hM
set_option maxHeartbeats 4000000 in
set_option maxRecDepth 100000 in
theorem w_Words_append_43 {p : Program} {l : Launch} {e : Env} {s : State} {m : MethodId} {args : Array Value} {below : List Frame} {meth : Method} {c : Code} {D : va_G} {K : (Nat → Nat) × (Nat → Nat)} {h0 : hH} (Y : HX p s m args meth c prog_12_method_2_code 5 "LicenceTexts$Words" D K "append" (some .boolean) h0) {F : Nat} (h : hH) (x0 : Nat) (x3 : Int32) (q : (Int32 × hH)) (hM : M_Words_append_43 F h x0 x3 = some q) : J p l e rm_Words_append s m args below meth c 5 D cls0 (hF h0) h [(0, .ref x0), (3, .int x3)] 0 0 (MQ below (hQ D cls0 h0 (some (.int q.1)) q.2) args s 0 0 (hF h0)) 43 [] := by
  obtain ⟨X, hr, hlk, hnm⟩ := id Y
  unfold M_Words_append_43 at hM
  refine J_iconst (pc := 43) (v := (0)) X d_Words_append_43 (by decide) ?_
  exact w_Words_append_44 Y _ _ _ _ _ hM
set_option maxHeartbeats 4000000 in
set_option maxRecDepth 100000 in
theorem c_Words_append (l : Launch) (D : va_G) (K : (Nat → Nat) × (Nat → Nat)) (F : Nat) {h : hH} {x0 : Nat} {x1 : Int32} {q : (Int32 × hH)} (hM : M_Words_append F h x0 x1 = some q) : Met l y_Words_append (.code y_Words_append prog_12_method_2_code 5 (some .boolean) :: T0) rm_Words_append (hPc hG D cls0 K [.ref x0, .int x1] h) (hQ D cls0 h (some (.int q.1)) q.2) 0 0 (hF h) := by
  refine J_met (lv := [(0, .ref x0), (1, .int x1)]) (by decide) (Nat.le_of_ble_eq_true rfl) rfl ?_
  intro p e s m below meth c X hr hlk hnm
  have Y : HX p s m _ meth c prog_12_method_2_code 5 "LicenceTexts$Words" D K "append" (some .boolean) h := ⟨X, hr, hlk, hnm⟩
  unfold M_Words_append at hM
  refine J_iload_n (pc := 0) X 1 d_Words_append_0 rfl ?_
  refine J_sipush (pc := 1) (v := (255)) X d_Words_append_1 (by decide) ?_
  refine J_iand (pc := 4) X d_Words_append_4 ?_
  refine J_istore_n (pc := 5) (lv' := [(2, .int (x1 &&& 255)), (0, .ref x0), (1, .int x1)]) X d_Words_append_5 rfl (by decide) rfl ?_
  refine J_aload_n (pc := 6) X 1 d_Words_append_6 rfl ?_
  obtain ⟨v1, ev1, hM⟩ := hb_some hM
  refine J_getA (pc := 7) X hc_Words in_Words 0 k_81 (by decide) rfl d_Words_append_7 rfl ev1 ?_
  obtain ⟨v2, ev2, hM⟩ := hb_some hM
  refine J_getIN (pc := 10) X hc_Bytes in_Bytes 1 (nw_0) (by decide) rfl d_Words_append_10 rfl ev2 ?_
  refine J_istore_n (pc := 13) (lv' := [(3, .int v2), (2, .int (x1 &&& 255)), (0, .ref x0), (1, .int x1)]) X d_Words_append_13 rfl (by decide) rfl ?_
  refine J_aload_n (pc := 14) X 2 d_Words_append_14 rfl ?_
  obtain ⟨v3, ev3, hM⟩ := hb_some hM
  refine J_getA (pc := 15) X hc_Words in_Words 0 k_81 (by decide) rfl d_Words_append_15 rfl ev3 ?_
  refine J_iload_n (pc := 18) X 1 d_Words_append_18 rfl ?_
  obtain ⟨u4, eu4, hM⟩ := hb_some hM
  obtain ⟨q5, eq5, hM⟩ := hb_some hM
  refine J_callV (pc := 19) (As := [.int (x1 &&& 255)]) (rest := []) (o := (some (.int q5.1))) (h2 := q5.2) X rfl hc_Bytes eu4 (c_Bytes_append l D K F eq5) (cwV_of (nA := 1) X.fix k_95 k_97 k_98 k_77 k_96 ⟨rfl, rfl, rfl⟩ (by decide +kernel) ⟨Nat.le_of_ble_eq_true rfl, Nat.le_of_ble_eq_true rfl⟩) d_Words_append_19 rfl rfl (Nat.le_of_ble_eq_true rfl) (Nat.le_of_ble_eq_true rfl) (Nat.le_of_ble_eq_true rfl) ?_
  refine J_if_ne (pc := 22) (tgt := 27) X d_Words_append_22 (by decide) (fun c6 => ?_) (fun c6 => ?_)
  · have hM := hif_f hM c6
    refine J_iload_n (pc := 27) X 1 d_Words_append_27 rfl ?_
    refine J_bipush (pc := 28) (v := (32)) X d_Words_append_28 (by decide) ?_
    refine J_icmp_eq (pc := 30) (tgt := 43) X d_Words_append_30 (by decide) (fun c7 => ?_) (fun c7 => ?_)
    · have hM := hif_t hM c7
      refine J_sub [2, 0] rfl ?_
      exact w_Words_append_43 Y _ _ _ _ hM
    · have hM := hif_f hM c7
      refine J_iload_n (pc := 33) X 1 d_Words_append_33 rfl ?_
      refine J_bipush (pc := 34) (v := (10)) X d_Words_append_34 (by decide) ?_
      refine J_icmp_eq (pc := 36) (tgt := 43) X d_Words_append_36 (by decide) (fun c8 => ?_) (fun c8 => ?_)
      · have hM := hif_t hM c8
        refine J_sub [2, 0] rfl ?_
        exact w_Words_append_43 Y _ _ _ _ hM
      · have hM := hif_f hM c8
        refine J_iconst (pc := 39) (v := (1)) X d_Words_append_39 (by decide) ?_
        refine J_goto (pc := 40) (tgt := 44) X d_Words_append_40 (by decide) ?_
        refine J_sub [2, 0] rfl ?_
        exact w_Words_append_44 Y _ _ _ _ _ hM
  · have hM := hif_t hM c6
    refine J_iconst (pc := 25) (v := (0)) X d_Words_append_25 (by decide) ?_
    obtain rfl := Option.some.inj hM
    exact J_zret (pc := 26) X hr hz0 hlk (Nat.le_of_ble_eq_true rfl) (Nat.le_of_ble_eq_true rfl) d_Words_append_26
abbrev rm_Words_clear : Room := { frames := 1, cells := 0, slots := 0, locals := 20 }
set_option maxHeartbeats 4000000 in
set_option maxRecDepth 100000 in
theorem c_Words_clear (l : Launch) (D : va_G) (K : (Nat → Nat) × (Nat → Nat)) (F : Nat) {h : hH} {x0 : Nat} {q : hH} (hM : M_Words_clear F h x0 = some q) : Met l y_Words_clear (.code y_Words_clear prog_12_method_5_code 1 none :: T0) rm_Words_clear (hPc hG D cls0 K [.ref x0] h) (hQ D cls0 h none q) 0 0 (hF h) := by
  refine J_met (lv := [(0, .ref x0)]) (by decide) (Nat.le_of_ble_eq_true rfl) rfl ?_
  intro p e s m below meth c X hr hlk hnm
  have Y : HX p s m _ meth c prog_12_method_5_code 1 "LicenceTexts$Words" D K "clear" none h := ⟨X, hr, hlk, hnm⟩
  unfold M_Words_clear at hM
  refine J_aload_n (pc := 0) X 0 d_Words_clear_0 rfl ?_
  obtain ⟨v1, ev1, hM⟩ := hb_some hM
  refine J_getA (pc := 1) X hc_Words in_Words 0 k_81 (by decide) rfl d_Words_clear_1 rfl ev1 ?_
  obtain ⟨u2, eu2, hM⟩ := hb_some hM
  obtain ⟨h3, eh3, hM⟩ := hb_some hM
  refine J_callV (pc := 4) (As := []) (rest := []) (o := none) (h2 := h3) X rfl hc_Bytes eu2 (c_Bytes_clear l D K F eh3) (cwV_of (nA := 0) X.fix k_99 k_101 k_102 k_77 k_100 ⟨rfl, rfl, rfl⟩ (by decide +kernel) ⟨Nat.le_of_ble_eq_true rfl, Nat.le_of_ble_eq_true rfl⟩) d_Words_clear_4 rfl rfl (Nat.le_of_ble_eq_true rfl) (Nat.le_of_ble_eq_true rfl) (Nat.le_of_ble_eq_true rfl) ?_
  refine J_aload_n (pc := 7) X 0 d_Words_clear_7 rfl ?_
  refine J_iconst (pc := 8) (v := (0)) X d_Words_clear_8 (by decide) ?_
  obtain ⟨h4, eh4, hM⟩ := hb_some hM
  refine J_put (pc := 9) X hc_Words in_Words t_Words tk_Words nk_Words 3 k_84 (by decide) rfl rfl d_Words_clear_9 rfl rfl rfl eh4 ?_
  refine J_aload_n (pc := 12) X 0 d_Words_clear_12 rfl ?_
  refine J_iconst (pc := 13) (v := (0)) X d_Words_clear_13 (by decide) ?_
  obtain ⟨h5, eh5, hM⟩ := hb_some hM
  refine J_put (pc := 14) X hc_Words in_Words t_Words tk_Words nk_Words 4 k_85 (by decide) rfl rfl d_Words_clear_14 rfl rfl rfl eh5 ?_
  obtain rfl := Option.some.inj hM
  exact J_vret (pc := 17) X hr hlk (Nat.le_of_ble_eq_true rfl) (Nat.le_of_ble_eq_true rfl) d_Words_clear_17
abbrev rm_Words_startOf : Room := { frames := 0, cells := 0, slots := 0, locals := 0 }
set_option maxHeartbeats 4000000 in
set_option maxRecDepth 100000 in
theorem c_Words_startOf (l : Launch) (D : va_G) (K : (Nat → Nat) × (Nat → Nat)) (F : Nat) {h : hH} {x0 : Nat} {x1 : Int32} {q : (Int32 × hH)} (hM : M_Words_startOf F h x0 x1 = some q) : Met l y_Words_startOf (.code y_Words_startOf prog_12_method_6_code 2 (some .int) :: T0) rm_Words_startOf (hPc hG D cls0 K [.ref x0, .int x1] h) (hQ D cls0 h (some (.int q.1)) q.2) 0 0 (hF h) := by
  refine J_met (lv := [(0, .ref x0), (1, .int x1)]) (by decide) (Nat.le_of_ble_eq_true rfl) rfl ?_
  intro p e s m below meth c X hr hlk hnm
  have Y : HX p s m _ meth c prog_12_method_6_code 2 "LicenceTexts$Words" D K "startOf" (some .int) h := ⟨X, hr, hlk, hnm⟩
  unfold M_Words_startOf at hM
  refine J_iload_n (pc := 0) X 1 d_Words_startOf_0 rfl ?_
  refine J_if_lt (pc := 1) (tgt := 30) X d_Words_startOf_1 (by decide) (fun c1 => ?_) (fun c1 => ?_)
  · have hM := hif_t hM c1
    refine J_iconst (pc := 30) (v := (0)) X d_Words_startOf_30 (by decide) ?_
    obtain rfl := Option.some.inj hM
    exact J_iret (pc := 31) X hr hlk (Nat.le_of_ble_eq_true rfl) (Nat.le_of_ble_eq_true rfl) d_Words_startOf_31
  · have hM := hif_f hM c1
    refine J_iload_n (pc := 4) X 1 d_Words_startOf_4 rfl ?_
    refine J_aload_n (pc := 5) X 0 d_Words_startOf_5 rfl ?_
    obtain ⟨v2, ev2, hM⟩ := hb_some hM
    refine J_getI (pc := 6) X hc_Words in_Words 3 k_84 (by decide) rfl d_Words_startOf_6 rfl ev2 ?_
    refine J_icmp_ge (pc := 9) (tgt := 30) X d_Words_startOf_9 (by decide) (fun c3 => ?_) (fun c3 => ?_)
    · have hM := hif_t hM c3
      refine J_iconst (pc := 30) (v := (0)) X d_Words_startOf_30 (by decide) ?_
      obtain rfl := Option.some.inj hM
      exact J_iret (pc := 31) X hr hlk (Nat.le_of_ble_eq_true rfl) (Nat.le_of_ble_eq_true rfl) d_Words_startOf_31
    · have hM := hif_f hM c3
      refine J_iload_n (pc := 12) X 1 d_Words_startOf_12 rfl ?_
      refine J_aload_n (pc := 13) X 0 d_Words_startOf_13 rfl ?_
      obtain ⟨v4, ev4, hM⟩ := hb_some hM
      refine J_getA (pc := 14) X hc_Words in_Words 1 k_82 (by decide) rfl d_Words_startOf_14 rfl ev4 ?_
      obtain ⟨v5, ev5, hM⟩ := hb_some hM
      refine J_alen (pc := 17) X d_Words_startOf_17 rfl ev5 ?_
      refine J_icmp_ge (pc := 18) (tgt := 30) X d_Words_startOf_18 (by decide) (fun c6 => ?_) (fun c6 => ?_)
      · have hM := hif_t hM c6
        refine J_iconst (pc := 30) (v := (0)) X d_Words_startOf_30 (by decide) ?_
        obtain rfl := Option.some.inj hM
        exact J_iret (pc := 31) X hr hlk (Nat.le_of_ble_eq_true rfl) (Nat.le_of_ble_eq_true rfl) d_Words_startOf_31
      · have hM := hif_f hM c6
        refine J_aload_n (pc := 21) X 0 d_Words_startOf_21 rfl ?_
        obtain ⟨v7, ev7, hM⟩ := hb_some hM
        refine J_getA (pc := 22) X hc_Words in_Words 1 k_82 (by decide) rfl d_Words_startOf_22 rfl ev7 ?_
        refine J_iload_n (pc := 25) X 1 d_Words_startOf_25 rfl ?_
        obtain ⟨v8, ev8, hM⟩ := hb_some hM
        refine J_iald (pc := 26) X d_Words_startOf_26 rfl ev8 ?_
        refine J_goto (pc := 27) (tgt := 31) X d_Words_startOf_27 (by decide) ?_
        obtain rfl := Option.some.inj hM
        exact J_iret (pc := 31) X hr hlk (Nat.le_of_ble_eq_true rfl) (Nat.le_of_ble_eq_true rfl) d_Words_startOf_31
abbrev rm_Words_endOf : Room := { frames := 0, cells := 0, slots := 0, locals := 0 }
set_option maxHeartbeats 4000000 in
set_option maxRecDepth 100000 in
theorem c_Words_endOf (l : Launch) (D : va_G) (K : (Nat → Nat) × (Nat → Nat)) (F : Nat) {h : hH} {x0 : Nat} {x1 : Int32} {q : (Int32 × hH)} (hM : M_Words_endOf F h x0 x1 = some q) : Met l y_Words_endOf (.code y_Words_endOf prog_12_method_7_code 2 (some .int) :: T0) rm_Words_endOf (hPc hG D cls0 K [.ref x0, .int x1] h) (hQ D cls0 h (some (.int q.1)) q.2) 0 0 (hF h) := by
  refine J_met (lv := [(0, .ref x0), (1, .int x1)]) (by decide) (Nat.le_of_ble_eq_true rfl) rfl ?_
  intro p e s m below meth c X hr hlk hnm
  have Y : HX p s m _ meth c prog_12_method_7_code 2 "LicenceTexts$Words" D K "endOf" (some .int) h := ⟨X, hr, hlk, hnm⟩
  unfold M_Words_endOf at hM
  refine J_iload_n (pc := 0) X 1 d_Words_endOf_0 rfl ?_
  refine J_if_lt (pc := 1) (tgt := 30) X d_Words_endOf_1 (by decide) (fun c1 => ?_) (fun c1 => ?_)
  · have hM := hif_t hM c1
    refine J_iconst (pc := 30) (v := (0)) X d_Words_endOf_30 (by decide) ?_
    obtain rfl := Option.some.inj hM
    exact J_iret (pc := 31) X hr hlk (Nat.le_of_ble_eq_true rfl) (Nat.le_of_ble_eq_true rfl) d_Words_endOf_31
  · have hM := hif_f hM c1
    refine J_iload_n (pc := 4) X 1 d_Words_endOf_4 rfl ?_
    refine J_aload_n (pc := 5) X 0 d_Words_endOf_5 rfl ?_
    obtain ⟨v2, ev2, hM⟩ := hb_some hM
    refine J_getI (pc := 6) X hc_Words in_Words 3 k_84 (by decide) rfl d_Words_endOf_6 rfl ev2 ?_
    refine J_icmp_ge (pc := 9) (tgt := 30) X d_Words_endOf_9 (by decide) (fun c3 => ?_) (fun c3 => ?_)
    · have hM := hif_t hM c3
      refine J_iconst (pc := 30) (v := (0)) X d_Words_endOf_30 (by decide) ?_
      obtain rfl := Option.some.inj hM
      exact J_iret (pc := 31) X hr hlk (Nat.le_of_ble_eq_true rfl) (Nat.le_of_ble_eq_true rfl) d_Words_endOf_31
    · have hM := hif_f hM c3
      refine J_iload_n (pc := 12) X 1 d_Words_endOf_12 rfl ?_
      refine J_aload_n (pc := 13) X 0 d_Words_endOf_13 rfl ?_
      obtain ⟨v4, ev4, hM⟩ := hb_some hM
      refine J_getA (pc := 14) X hc_Words in_Words 2 k_83 (by decide) rfl d_Words_endOf_14 rfl ev4 ?_
      obtain ⟨v5, ev5, hM⟩ := hb_some hM
      refine J_alen (pc := 17) X d_Words_endOf_17 rfl ev5 ?_
      refine J_icmp_ge (pc := 18) (tgt := 30) X d_Words_endOf_18 (by decide) (fun c6 => ?_) (fun c6 => ?_)
      · have hM := hif_t hM c6
        refine J_iconst (pc := 30) (v := (0)) X d_Words_endOf_30 (by decide) ?_
        obtain rfl := Option.some.inj hM
        exact J_iret (pc := 31) X hr hlk (Nat.le_of_ble_eq_true rfl) (Nat.le_of_ble_eq_true rfl) d_Words_endOf_31
      · have hM := hif_f hM c6
        refine J_aload_n (pc := 21) X 0 d_Words_endOf_21 rfl ?_
        obtain ⟨v7, ev7, hM⟩ := hb_some hM
        refine J_getA (pc := 22) X hc_Words in_Words 2 k_83 (by decide) rfl d_Words_endOf_22 rfl ev7 ?_
        refine J_iload_n (pc := 25) X 1 d_Words_endOf_25 rfl ?_
        obtain ⟨v8, ev8, hM⟩ := hb_some hM
        refine J_iald (pc := 26) X d_Words_endOf_26 rfl ev8 ?_
        refine J_goto (pc := 27) (tgt := 31) X d_Words_endOf_27 (by decide) ?_
        obtain rfl := Option.some.inj hM
        exact J_iret (pc := 31) X hr hlk (Nat.le_of_ble_eq_true rfl) (Nat.le_of_ble_eq_true rfl) d_Words_endOf_31
abbrev rm_Words_is : Room := { frames := 4, cells := 0, slots := 0, locals := 85 }
set_option maxHeartbeats 4000000 in
set_option maxRecDepth 100000 in
theorem b_Words_is_25 {p : Program} {l : Launch} {e : Env} {s : State} {m : MethodId} {args : Array Value} {below : List Frame} {meth : Method} {c : Code} {D : va_G} {K : (Nat → Nat) × (Nat → Nat)} {h0 : hH} (Y : HX p s m args meth c prog_12_method_8_code 5 "LicenceTexts$Words" D K "is" (some .boolean) h0) {F : Nat}   {r25 : hH → Nat → Nat → Int32 → Int32 → Option (Int32 × hH)} (R25 : ∀ (h : hH) (x0 : Nat) (x2 : Nat) (x3 : Int32) (x4 : Int32) (q : (Int32 × hH)), r25 h x0 x2 x3 x4 = some q → J p l e rm_Words_is s m args below meth c 5 D cls0 (hF h0) h [(0, .ref x0), (2, .ref (K.1 x2)), (3, .int x3), (4, .int x4)] 0 0 (MQ below (hQ D cls0 h0 (some (.int q.1)) q.2) args s 0 0 (hF h0)) 25 []) : ∀ (h : hH) (x0 : Nat) (x2 : Nat) (x3 : Int32) (x4 : Int32) (q : (Int32 × hH)), B_Words_is_25 F r25 h x0 x2 x3 x4 = some q → J p l e rm_Words_is s m args below meth c 5 D cls0 (hF h0) h [(0, .ref x0), (2, .ref (K.1 x2)), (3, .int x3), (4, .int x4)] 0 0 (MQ below (hQ D cls0 h0 (some (.int q.1)) q.2) args s 0 0 (hF h0)) 25 [] := by
  intro h x0 x2 x3 x4 q hM
  obtain ⟨X, hr, hlk, hnm⟩ := id Y
  unfold B_Words_is_25 at hM
  refine J_iload (pc := 25) X 3 d_Words_is_25 rfl ?_
  refine J_aload_n (pc := 27) X 1 d_Words_is_27 rfl ?_
  obtain ⟨q1, eq1, hM⟩ := hb_some hM
  obtain ⟨w2, ew2, -⟩ := M_Str_length_of eq1
  refine J_callVS (pc := 28) (As := []) (rest := [.int x4]) (o := (some (.int q1.1))) (h2 := q1.2) X ew2 (c_Str_lengthM l D K eq1) (cwV_of (nA := 0) X.fix k_103 k_106 k_107 k_105 k_104 ⟨rfl, rfl, rfl⟩ (by decide +kernel) ⟨Nat.le_of_ble_eq_true rfl, Nat.le_of_ble_eq_true rfl⟩) d_Words_is_28 rfl rfl (Nat.le_of_ble_eq_true rfl) (Nat.le_of_ble_eq_true rfl) (Nat.le_of_ble_eq_true rfl) ?_
  refine J_icmp_ge (pc := 31) (tgt := 62) X d_Words_is_31 (by decide) (fun c3 => ?_) (fun c3 => ?_)
  · have hM := hif_t hM c3
    refine J_iconst (pc := 62) (v := (1)) X d_Words_is_62 (by decide) ?_
    obtain rfl := Option.some.inj hM
    exact J_zret (pc := 63) X hr hz1 hlk (Nat.le_of_ble_eq_true rfl) (Nat.le_of_ble_eq_true rfl) d_Words_is_63
  · have hM := hif_f hM c3
    refine J_aload_n (pc := 34) X 0 d_Words_is_34 rfl ?_
    obtain ⟨v4, ev4, hM⟩ := hb_some hM
    refine J_getA (pc := 35) X hc_Words in_Words 0 k_81 (by decide) rfl d_Words_is_35 rfl ev4 ?_
    refine J_iload_n (pc := 38) X 2 d_Words_is_38 rfl ?_
    refine J_iload (pc := 39) X 3 d_Words_is_39 rfl ?_
    refine J_iadd (pc := 41) X d_Words_is_41 ?_
    obtain ⟨u5, eu5, hM⟩ := hb_some hM
    obtain ⟨q6, eq6, hM⟩ := hb_some hM
    refine J_callV (pc := 42) (As := [.int (x3 + x4)]) (rest := []) (o := (some (.int q6.1))) (h2 := q6.2) X rfl hc_Bytes eu5 (c_Bytes_byteAt l D K F eq6) (cwV_of (nA := 1) X.fix k_108 k_110 k_111 k_77 k_109 ⟨rfl, rfl, rfl⟩ (by decide +kernel) ⟨Nat.le_of_ble_eq_true rfl, Nat.le_of_ble_eq_true rfl⟩) d_Words_is_42 rfl rfl (Nat.le_of_ble_eq_true rfl) (Nat.le_of_ble_eq_true rfl) (Nat.le_of_ble_eq_true rfl) ?_
    refine J_aload_n (pc := 45) X 1 d_Words_is_45 rfl ?_
    refine J_iload (pc := 46) X 3 d_Words_is_46 rfl ?_
    obtain ⟨q7, eq7, hM⟩ := hb_some hM
    obtain ⟨w8, ew8, -⟩ := M_Str_charAt_of eq7
    refine J_callVS (pc := 48) (As := [.int x4]) (rest := [.int q6.1]) (o := (some (.int q7.1))) (h2 := q7.2) X ew8 (c_Str_charAtM l D K eq7) (cwV_of (nA := 1) X.fix k_112 k_114 k_115 k_105 k_113 ⟨rfl, rfl, rfl⟩ (by decide +kernel) ⟨Nat.le_of_ble_eq_true rfl, Nat.le_of_ble_eq_true rfl⟩) d_Words_is_48 rfl rfl (Nat.le_of_ble_eq_true rfl) (Nat.le_of_ble_eq_true rfl) (Nat.le_of_ble_eq_true rfl) ?_
    refine J_icmp_eq (pc := 51) (tgt := 56) X d_Words_is_51 (by decide) (fun c9 => ?_) (fun c9 => ?_)
    · have hM := hif_t hM c9
      refine J_iinc (pc := 56) (v := x4 + 1) (lv' := [(4, .int (x4 + 1)), (0, .ref x0), (2, .ref (K.1 x2)), (3, .int x3)]) X 3 d_Words_is_56 rfl rfl (by decide) rfl ?_
      refine J_goto (pc := 59) (tgt := 25) X d_Words_is_59 (by decide) ?_
      refine J_sub [1, 2, 3, 0] rfl ?_
      exact R25 _ _ _ _ _ _ hM
    · have hM := hif_f hM c9
      refine J_iconst (pc := 54) (v := (0)) X d_Words_is_54 (by decide) ?_
      obtain rfl := Option.some.inj hM
      exact J_zret (pc := 55) X hr hz0 hlk (Nat.le_of_ble_eq_true rfl) (Nat.le_of_ble_eq_true rfl) d_Words_is_55
theorem w_Words_is_25 {p : Program} {l : Launch} {e : Env} {s : State} {m : MethodId} {args : Array Value} {below : List Frame} {meth : Method} {c : Code} {D : va_G} {K : (Nat → Nat) × (Nat → Nat)} {h0 : hH} (Y : HX p s m args meth c prog_12_method_8_code 5 "LicenceTexts$Words" D K "is" (some .boolean) h0) {F : Nat} : ∀ z : Nat, ∀ (h : hH) (x0 : Nat) (x2 : Nat) (x3 : Int32) (x4 : Int32) (q : (Int32 × hH)), M_Words_is_25 F z h x0 x2 x3 x4 = some q → J p l e rm_Words_is s m args below meth c 5 D cls0 (hF h0) h [(0, .ref x0), (2, .ref (K.1 x2)), (3, .int x3), (4, .int x4)] 0 0 (MQ below (hQ D cls0 h0 (some (.int q.1)) q.2) args s 0 0 (hF h0)) 25 [] := by
  intro z
  induction z with
  | zero => intro h x0 x2 x3 x4 q hM; exact absurd (show (none : Option _) = some q from hM) (fun t => by cases t)
  | succ z ih => exact b_Words_is_25 Y ih
set_option maxHeartbeats 4000000 in
set_option maxRecDepth 100000 in
theorem c_Words_is (l : Launch) (D : va_G) (K : (Nat → Nat) × (Nat → Nat)) (F : Nat) {h : hH} {x0 : Nat} {x1 : Int32} {x2 : Nat} {q : (Int32 × hH)} (hM : M_Words_is F h x0 x1 x2 = some q) : Met l y_Words_is (.code y_Words_is prog_12_method_8_code 5 (some .boolean) :: T0) rm_Words_is (hPc hG D cls0 K [.ref x0, .int x1, .ref (K.1 x2)] h) (hQ D cls0 h (some (.int q.1)) q.2) 0 0 (hF h) := by
  refine J_met (lv := [(0, .ref x0), (1, .int x1), (2, .ref (K.1 x2))]) (by decide) (Nat.le_of_ble_eq_true rfl) rfl ?_
  intro p e s m below meth c X hr hlk hnm
  have Y : HX p s m _ meth c prog_12_method_8_code 5 "LicenceTexts$Words" D K "is" (some .boolean) h := ⟨X, hr, hlk, hnm⟩
  unfold M_Words_is at hM
  refine J_aload_n (pc := 0) X 0 d_Words_is_0 rfl ?_
  refine J_iload_n (pc := 1) X 1 d_Words_is_1 rfl ?_
  obtain ⟨u1, eu1, hM⟩ := hb_some hM
  obtain ⟨q2, eq2, hM⟩ := hb_some hM
  refine J_callV (pc := 2) (As := [.int x1]) (rest := []) (o := (some (.int q2.1))) (h2 := q2.2) X rfl hc_Words eu1 (c_Words_startOf l D K F eq2) (cwV_of (nA := 1) X.fix k_116 k_118 k_119 k_88 k_117 ⟨rfl, rfl, rfl⟩ (by decide +kernel) ⟨Nat.le_of_ble_eq_true rfl, Nat.le_of_ble_eq_true rfl⟩) d_Words_is_2 rfl rfl (Nat.le_of_ble_eq_true rfl) (Nat.le_of_ble_eq_true rfl) (Nat.le_of_ble_eq_true rfl) ?_
  refine J_istore_n (pc := 5) (lv' := [(3, .int q2.1), (0, .ref x0), (1, .int x1), (2, .ref (K.1 x2))]) X d_Words_is_5 rfl (by decide) rfl ?_
  refine J_aload_n (pc := 6) X 1 d_Words_is_6 rfl ?_
  refine J_iload_n (pc := 7) X 2 d_Words_is_7 rfl ?_
  obtain ⟨u3, eu3, hM⟩ := hb_some hM
  obtain ⟨q4, eq4, hM⟩ := hb_some hM
  refine J_callV (pc := 8) (As := [.int x1]) (rest := []) (o := (some (.int q4.1))) (h2 := q4.2) X rfl hc_Words eu3 (c_Words_endOf l D K F eq4) (cwV_of (nA := 1) X.fix k_120 k_122 k_123 k_88 k_121 ⟨rfl, rfl, rfl⟩ (by decide +kernel) ⟨Nat.le_of_ble_eq_true rfl, Nat.le_of_ble_eq_true rfl⟩) d_Words_is_8 rfl rfl (Nat.le_of_ble_eq_true rfl) (Nat.le_of_ble_eq_true rfl) (Nat.le_of_ble_eq_true rfl) ?_
  refine J_iload_n (pc := 11) X 0 d_Words_is_11 rfl ?_
  refine J_isub (pc := 12) X d_Words_is_12 ?_
  refine J_aload_n (pc := 13) X 3 d_Words_is_13 rfl ?_
  obtain ⟨q5, eq5, hM⟩ := hb_some hM
  obtain ⟨w6, ew6, -⟩ := M_Str_length_of eq5
  refine J_callVS (pc := 14) (As := []) (rest := [.int (q4.1 - q2.1)]) (o := (some (.int q5.1))) (h2 := q5.2) X ew6 (c_Str_lengthM l D K eq5) (cwV_of (nA := 0) X.fix k_103 k_106 k_107 k_105 k_104 ⟨rfl, rfl, rfl⟩ (by decide +kernel) ⟨Nat.le_of_ble_eq_true rfl, Nat.le_of_ble_eq_true rfl⟩) d_Words_is_14 rfl rfl (Nat.le_of_ble_eq_true rfl) (Nat.le_of_ble_eq_true rfl) (Nat.le_of_ble_eq_true rfl) ?_
  refine J_icmp_eq (pc := 17) (tgt := 22) X d_Words_is_17 (by decide) (fun c7 => ?_) (fun c7 => ?_)
  · have hM := hif_t hM c7
    refine J_iconst (pc := 22) (v := (0)) X d_Words_is_22 (by decide) ?_
    refine J_istore (pc := 23) (lv' := [(4, .int 0), (3, .int q2.1), (0, .ref x0), (1, .int x1), (2, .ref (K.1 x2))]) X d_Words_is_23 (by decide) rfl ?_
    refine J_sub [2, 4, 1, 0] rfl ?_
    exact w_Words_is_25 Y F _ _ _ _ _ _ hM
  · have hM := hif_f hM c7
    refine J_iconst (pc := 20) (v := (0)) X d_Words_is_20 (by decide) ?_
    obtain rfl := Option.some.inj hM
    exact J_zret (pc := 21) X hr hz0 hlk (Nat.le_of_ble_eq_true rfl) (Nat.le_of_ble_eq_true rfl) d_Words_is_21
abbrev rm_Words_numberAt : Room := { frames := 1, cells := 0, slots := 0, locals := 21 }
set_option maxHeartbeats 4000000 in
set_option maxRecDepth 100000 in
theorem b_Words_numberAt_33 {p : Program} {l : Launch} {e : Env} {s : State} {m : MethodId} {args : Array Value} {below : List Frame} {meth : Method} {c : Code} {D : va_G} {K : (Nat → Nat) × (Nat → Nat)} {h0 : hH} (Y : HX p s m args meth c prog_12_method_9_code 7 "LicenceTexts$Words" D K "numberAt" (some .int) h0) {F : Nat}   {r33 : hH → Nat → Int32 → Int32 → Int32 → Option (Int32 × hH)} (R33 : ∀ (h : hH) (x0 : Nat) (x3 : Int32) (x4 : Int32) (x5 : Int32) (q : (Int32 × hH)), r33 h x0 x3 x4 x5 = some q → J p l e rm_Words_numberAt s m args below meth c 7 D cls0 (hF h0) h [(0, .ref x0), (3, .int x3), (4, .int x4), (5, .int x5)] 0 0 (MQ below (hQ D cls0 h0 (some (.int q.1)) q.2) args s 0 0 (hF h0)) 33 []) : ∀ (h : hH) (x0 : Nat) (x3 : Int32) (x4 : Int32) (x5 : Int32) (q : (Int32 × hH)), B_Words_numberAt_33 F r33 h x0 x3 x4 x5 = some q → J p l e rm_Words_numberAt s m args below meth c 7 D cls0 (hF h0) h [(0, .ref x0), (3, .int x3), (4, .int x4), (5, .int x5)] 0 0 (MQ below (hQ D cls0 h0 (some (.int q.1)) q.2) args s 0 0 (hF h0)) 33 [] := by
  intro h x0 x3 x4 x5 q hM
  obtain ⟨X, hr, hlk, hnm⟩ := id Y
  unfold B_Words_numberAt_33 at hM
  refine J_iload (pc := 33) X 3 d_Words_numberAt_33 rfl ?_
  refine J_iload_n (pc := 35) X 1 d_Words_numberAt_35 rfl ?_
  refine J_icmp_ge (pc := 36) (tgt := 85) X d_Words_numberAt_36 (by decide) (fun c1 => ?_) (fun c1 => ?_)
  · have hM := hif_t hM c1
    refine J_iload (pc := 85) X 2 d_Words_numberAt_85 rfl ?_
    obtain rfl := Option.some.inj hM
    exact J_iret (pc := 87) X hr hlk (Nat.le_of_ble_eq_true rfl) (Nat.le_of_ble_eq_true rfl) d_Words_numberAt_87
  · have hM := hif_f hM c1
    refine J_aload_n (pc := 39) X 0 d_Words_numberAt_39 rfl ?_
    obtain ⟨v2, ev2, hM⟩ := hb_some hM
    refine J_getA (pc := 40) X hc_Words in_Words 0 k_81 (by decide) rfl d_Words_numberAt_40 rfl ev2 ?_
    refine J_iload (pc := 43) X 3 d_Words_numberAt_43 rfl ?_
    obtain ⟨u3, eu3, hM⟩ := hb_some hM
    obtain ⟨q4, eq4, hM⟩ := hb_some hM
    refine J_callV (pc := 45) (As := [.int x5]) (rest := []) (o := (some (.int q4.1))) (h2 := q4.2) X rfl hc_Bytes eu3 (c_Bytes_byteAt l D K F eq4) (cwV_of (nA := 1) X.fix k_108 k_110 k_111 k_77 k_109 ⟨rfl, rfl, rfl⟩ (by decide +kernel) ⟨Nat.le_of_ble_eq_true rfl, Nat.le_of_ble_eq_true rfl⟩) d_Words_numberAt_45 rfl rfl (Nat.le_of_ble_eq_true rfl) (Nat.le_of_ble_eq_true rfl) (Nat.le_of_ble_eq_true rfl) ?_
    refine J_istore (pc := 48) (lv' := [(6, .int q4.1), (0, .ref x0), (3, .int x3), (4, .int x4), (5, .int x5)]) X d_Words_numberAt_48 (by decide) rfl ?_
    refine J_iload (pc := 50) X 0 d_Words_numberAt_50 rfl ?_
    refine J_bipush (pc := 52) (v := (48)) X d_Words_numberAt_52 (by decide) ?_
    refine J_icmp_lt (pc := 54) (tgt := 64) X d_Words_numberAt_54 (by decide) (fun c5 => ?_) (fun c5 => ?_)
    · have hM := hif_t hM c5
      refine J_iconst (pc := 64) (v := (-1)) X d_Words_numberAt_64 (by decide) ?_
      obtain rfl := Option.some.inj hM
      exact J_iret (pc := 65) X hr hlk (Nat.le_of_ble_eq_true rfl) (Nat.le_of_ble_eq_true rfl) d_Words_numberAt_65
    · have hM := hif_f hM c5
      refine J_iload (pc := 57) X 0 d_Words_numberAt_57 rfl ?_
      refine J_bipush (pc := 59) (v := (57)) X d_Words_numberAt_59 (by decide) ?_
      refine J_icmp_le (pc := 61) (tgt := 66) X d_Words_numberAt_61 (by decide) (fun c6 => ?_) (fun c6 => ?_)
      · have hM := hif_t hM c6
        refine J_iload (pc := 66) X 3 d_Words_numberAt_66 rfl ?_
        refine J_bipush (pc := 68) (v := (10)) X d_Words_numberAt_68 (by decide) ?_
        refine J_imul (pc := 70) X d_Words_numberAt_70 ?_
        refine J_iload (pc := 71) X 0 d_Words_numberAt_71 rfl ?_
        refine J_bipush (pc := 73) (v := (48)) X d_Words_numberAt_73 (by decide) ?_
        refine J_isub (pc := 75) X d_Words_numberAt_75 ?_
        refine J_iadd (pc := 76) X d_Words_numberAt_76 ?_
        refine J_istore (pc := 77) (lv' := [(4, .int ((x4 * 10) + (q4.1 - 48))), (6, .int q4.1), (0, .ref x0), (3, .int x3), (5, .int x5)]) X d_Words_numberAt_77 (by decide) rfl ?_
        refine J_iinc (pc := 79) (v := x5 + 1) (lv' := [(5, .int (x5 + 1)), (4, .int ((x4 * 10) + (q4.1 - 48))), (6, .int q4.1), (0, .ref x0), (3, .int x3)]) X 4 d_Words_numberAt_79 rfl rfl (by decide) rfl ?_
        refine J_goto (pc := 82) (tgt := 33) X d_Words_numberAt_82 (by decide) ?_
        refine J_sub [3, 4, 1, 0] rfl ?_
        exact R33 _ _ _ _ _ _ hM
      · have hM := hif_f hM c6
        refine J_iconst (pc := 64) (v := (-1)) X d_Words_numberAt_64 (by decide) ?_
        obtain rfl := Option.some.inj hM
        exact J_iret (pc := 65) X hr hlk (Nat.le_of_ble_eq_true rfl) (Nat.le_of_ble_eq_true rfl) d_Words_numberAt_65
theorem w_Words_numberAt_33 {p : Program} {l : Launch} {e : Env} {s : State} {m : MethodId} {args : Array Value} {below : List Frame} {meth : Method} {c : Code} {D : va_G} {K : (Nat → Nat) × (Nat → Nat)} {h0 : hH} (Y : HX p s m args meth c prog_12_method_9_code 7 "LicenceTexts$Words" D K "numberAt" (some .int) h0) {F : Nat} : ∀ z : Nat, ∀ (h : hH) (x0 : Nat) (x3 : Int32) (x4 : Int32) (x5 : Int32) (q : (Int32 × hH)), M_Words_numberAt_33 F z h x0 x3 x4 x5 = some q → J p l e rm_Words_numberAt s m args below meth c 7 D cls0 (hF h0) h [(0, .ref x0), (3, .int x3), (4, .int x4), (5, .int x5)] 0 0 (MQ below (hQ D cls0 h0 (some (.int q.1)) q.2) args s 0 0 (hF h0)) 33 [] := by
  intro z
  induction z with
  | zero => intro h x0 x3 x4 x5 q hM; exact absurd (show (none : Option _) = some q from hM) (fun t => by cases t)
  | succ z ih => exact b_Words_numberAt_33 Y ih
set_option maxHeartbeats 4000000 in
set_option maxRecDepth 100000 in
theorem c_Words_numberAt (l : Launch) (D : va_G) (K : (Nat → Nat) × (Nat → Nat)) (F : Nat) {h : hH} {x0 : Nat} {x1 : Int32} {q : (Int32 × hH)} (hM : M_Words_numberAt F h x0 x1 = some q) : Met l y_Words_numberAt (.code y_Words_numberAt prog_12_method_9_code 7 (some .int) :: T0) rm_Words_numberAt (hPc hG D cls0 K [.ref x0, .int x1] h) (hQ D cls0 h (some (.int q.1)) q.2) 0 0 (hF h) := by
  refine J_met (lv := [(0, .ref x0), (1, .int x1)]) (by decide) (Nat.le_of_ble_eq_true rfl) rfl ?_
  intro p e s m below meth c X hr hlk hnm
  have Y : HX p s m _ meth c prog_12_method_9_code 7 "LicenceTexts$Words" D K "numberAt" (some .int) h := ⟨X, hr, hlk, hnm⟩
  unfold M_Words_numberAt at hM
  refine J_aload_n (pc := 0) X 0 d_Words_numberAt_0 rfl ?_
  refine J_iload_n (pc := 1) X 1 d_Words_numberAt_1 rfl ?_
  obtain ⟨u1, eu1, hM⟩ := hb_some hM
  obtain ⟨q2, eq2, hM⟩ := hb_some hM
  refine J_callV (pc := 2) (As := [.int x1]) (rest := []) (o := (some (.int q2.1))) (h2 := q2.2) X rfl hc_Words eu1 (c_Words_startOf l D K F eq2) (cwV_of (nA := 1) X.fix k_116 k_118 k_119 k_88 k_117 ⟨rfl, rfl, rfl⟩ (by decide +kernel) ⟨Nat.le_of_ble_eq_true rfl, Nat.le_of_ble_eq_true rfl⟩) d_Words_numberAt_2 rfl rfl (Nat.le_of_ble_eq_true rfl) (Nat.le_of_ble_eq_true rfl) (Nat.le_of_ble_eq_true rfl) ?_
  refine J_istore_n (pc := 5) (lv' := [(2, .int q2.1), (0, .ref x0), (1, .int x1)]) X d_Words_numberAt_5 rfl (by decide) rfl ?_
  refine J_aload_n (pc := 6) X 1 d_Words_numberAt_6 rfl ?_
  refine J_iload_n (pc := 7) X 2 d_Words_numberAt_7 rfl ?_
  obtain ⟨u3, eu3, hM⟩ := hb_some hM
  obtain ⟨q4, eq4, hM⟩ := hb_some hM
  refine J_callV (pc := 8) (As := [.int x1]) (rest := []) (o := (some (.int q4.1))) (h2 := q4.2) X rfl hc_Words eu3 (c_Words_endOf l D K F eq4) (cwV_of (nA := 1) X.fix k_120 k_122 k_123 k_88 k_121 ⟨rfl, rfl, rfl⟩ (by decide +kernel) ⟨Nat.le_of_ble_eq_true rfl, Nat.le_of_ble_eq_true rfl⟩) d_Words_numberAt_8 rfl rfl (Nat.le_of_ble_eq_true rfl) (Nat.le_of_ble_eq_true rfl) (Nat.le_of_ble_eq_true rfl) ?_
  refine J_istore_n (pc := 11) (lv' := [(3, .int q4.1), (2, .int q2.1), (0, .ref x0), (1, .int x1)]) X d_Words_numberAt_11 rfl (by decide) rfl ?_
  refine J_iload_n (pc := 12) X 0 d_Words_numberAt_12 rfl ?_
  refine J_iload_n (pc := 13) X 1 d_Words_numberAt_13 rfl ?_
  refine J_icmp_le (pc := 14) (tgt := 25) X d_Words_numberAt_14 (by decide) (fun c5 => ?_) (fun c5 => ?_)
  · have hM := hif_t hM c5
    refine J_iconst (pc := 25) (v := (-1)) X d_Words_numberAt_25 (by decide) ?_
    obtain rfl := Option.some.inj hM
    exact J_iret (pc := 26) X hr hlk (Nat.le_of_ble_eq_true rfl) (Nat.le_of_ble_eq_true rfl) d_Words_numberAt_26
  · have hM := hif_f hM c5
    refine J_iload_n (pc := 17) X 0 d_Words_numberAt_17 rfl ?_
    refine J_iload_n (pc := 18) X 1 d_Words_numberAt_18 rfl ?_
    refine J_isub (pc := 19) X d_Words_numberAt_19 ?_
    refine J_bipush (pc := 20) (v := (9)) X d_Words_numberAt_20 (by decide) ?_
    refine J_icmp_le (pc := 22) (tgt := 27) X d_Words_numberAt_22 (by decide) (fun c6 => ?_) (fun c6 => ?_)
    · have hM := hif_t hM c6
      refine J_iconst (pc := 27) (v := (0)) X d_Words_numberAt_27 (by decide) ?_
      refine J_istore (pc := 28) (lv' := [(4, .int 0), (3, .int q4.1), (2, .int q2.1), (0, .ref x0), (1, .int x1)]) X d_Words_numberAt_28 (by decide) rfl ?_
      refine J_iload_n (pc := 30) X 2 d_Words_numberAt_30 rfl ?_
      refine J_istore (pc := 31) (lv' := [(5, .int q2.1), (4, .int 0), (3, .int q4.1), (2, .int q2.1), (0, .ref x0), (1, .int x1)]) X d_Words_numberAt_31 (by decide) rfl ?_
      refine J_sub [4, 2, 1, 0] rfl ?_
      exact w_Words_numberAt_33 Y F _ _ _ _ _ _ hM
    · have hM := hif_f hM c6
      refine J_iconst (pc := 25) (v := (-1)) X d_Words_numberAt_25 (by decide) ?_
      obtain rfl := Option.some.inj hM
      exact J_iret (pc := 26) X hr hlk (Nat.le_of_ble_eq_true rfl) (Nat.le_of_ble_eq_true rfl) d_Words_numberAt_26
abbrev rm_Words_copyTo : Room := { frames := 1, cells := 0, slots := 0, locals := 21 }
set_option maxHeartbeats 4000000 in
set_option maxRecDepth 100000 in
theorem b_Words_copyTo_38 {p : Program} {l : Launch} {e : Env} {s : State} {m : MethodId} {args : Array Value} {below : List Frame} {meth : Method} {c : Code} {D : va_G} {K : (Nat → Nat) × (Nat → Nat)} {h0 : hH} (Y : HX p s m args meth c prog_12_method_10_code 7 "LicenceTexts$Words" D K "copyTo" none h0) {F : Nat}  {r3 : hH → Nat → Nat → Int32 → Int32 → Int32 → Option hH}  (R3 : ∀ (h : hH) (x0 : Nat) (x1 : Nat) (x2 : Int32) (x3 : Int32) (x4 : Int32) (q : hH), r3 h x0 x1 x2 x3 x4 = some q → J p l e rm_Words_copyTo s m args below meth c 7 D cls0 (hF h0) h [(0, .ref x0), (1, .ref x1), (2, .int x2), (3, .int x3), (4, .int x4)] 0 0 (MQ below (hQ D cls0 h0 none q) args s 0 0 (hF h0)) 3 []) {r38 : hH → Nat → Nat → Int32 → Int32 → Int32 → Int32 → Int32 → Option hH} (R38 : ∀ (h : hH) (x0 : Nat) (x1 : Nat) (x2 : Int32) (x3 : Int32) (x4 : Int32) (x5 : Int32) (x6 : Int32) (q : hH), r38 h x0 x1 x2 x3 x4 x5 x6 = some q → J p l e rm_Words_copyTo s m args below meth c 7 D cls0 (hF h0) h [(0, .ref x0), (1, .ref x1), (2, .int x2), (3, .int x3), (4, .int x4), (5, .int x5), (6, .int x6)] 0 0 (MQ below (hQ D cls0 h0 none q) args s 0 0 (hF h0)) 38 []) : ∀ (h : hH) (x0 : Nat) (x1 : Nat) (x2 : Int32) (x3 : Int32) (x4 : Int32) (x5 : Int32) (x6 : Int32) (q : hH), B_Words_copyTo_38 F r3 r38 h x0 x1 x2 x3 x4 x5 x6 = some q → J p l e rm_Words_copyTo s m args below meth c 7 D cls0 (hF h0) h [(0, .ref x0), (1, .ref x1), (2, .int x2), (3, .int x3), (4, .int x4), (5, .int x5), (6, .int x6)] 0 0 (MQ below (hQ D cls0 h0 none q) args s 0 0 (hF h0)) 38 [] := by
  intro h x0 x1 x2 x3 x4 x5 x6 q hM
  obtain ⟨X, hr, hlk, hnm⟩ := id Y
  unfold B_Words_copyTo_38 at hM
  refine J_iload (pc := 38) X 6 d_Words_copyTo_38 rfl ?_
  refine J_iload (pc := 40) X 5 d_Words_copyTo_40 rfl ?_
  refine J_icmp_ge (pc := 42) (tgt := 65) X d_Words_copyTo_42 (by decide) (fun c1 => ?_) (fun c1 => ?_)
  · have hM := hif_t hM c1
    refine J_iinc (pc := 65) (v := x4 + 1) (lv' := [(4, .int (x4 + 1)), (0, .ref x0), (1, .ref x1), (2, .int x2), (3, .int x3), (5, .int x5), (6, .int x6)]) X 4 d_Words_copyTo_65 rfl rfl (by decide) rfl ?_
    refine J_goto (pc := 68) (tgt := 3) X d_Words_copyTo_68 (by decide) ?_
    refine J_sub [1, 2, 3, 4, 0] rfl ?_
    exact R3 _ _ _ _ _ _ _ hM
  · have hM := hif_f hM c1
    refine J_aload_n (pc := 45) X 1 d_Words_copyTo_45 rfl ?_
    refine J_aload_n (pc := 46) X 0 d_Words_copyTo_46 rfl ?_
    obtain ⟨v2, ev2, hM⟩ := hb_some hM
    refine J_getA (pc := 47) X hc_Words in_Words 0 k_81 (by decide) rfl d_Words_copyTo_47 rfl ev2 ?_
    refine J_iload (pc := 50) X 6 d_Words_copyTo_50 rfl ?_
    obtain ⟨u3, eu3, hM⟩ := hb_some hM
    obtain ⟨q4, eq4, hM⟩ := hb_some hM
    refine J_callV (pc := 52) (As := [.int x6]) (rest := [.ref x1]) (o := (some (.int q4.1))) (h2 := q4.2) X rfl hc_Bytes eu3 (c_Bytes_byteAt l D K F eq4) (cwV_of (nA := 1) X.fix k_108 k_110 k_111 k_77 k_109 ⟨rfl, rfl, rfl⟩ (by decide +kernel) ⟨Nat.le_of_ble_eq_true rfl, Nat.le_of_ble_eq_true rfl⟩) d_Words_copyTo_52 rfl rfl (Nat.le_of_ble_eq_true rfl) (Nat.le_of_ble_eq_true rfl) (Nat.le_of_ble_eq_true rfl) ?_
    obtain ⟨u5, eu5, hM⟩ := hb_some hM
    obtain ⟨q6, eq6, hM⟩ := hb_some hM
    refine J_callV (pc := 55) (As := [.int q4.1]) (rest := []) (o := (some (.int q6.1))) (h2 := q6.2) X rfl hc_Bytes eu5 (c_Bytes_append l D K F eq6) (cwV_of (nA := 1) X.fix k_95 k_97 k_98 k_77 k_96 ⟨rfl, rfl, rfl⟩ (by decide +kernel) ⟨Nat.le_of_ble_eq_true rfl, Nat.le_of_ble_eq_true rfl⟩) d_Words_copyTo_55 rfl rfl (Nat.le_of_ble_eq_true rfl) (Nat.le_of_ble_eq_true rfl) (Nat.le_of_ble_eq_true rfl) ?_
    refine J_pop (pc := 58) X d_Words_copyTo_58 rfl ?_
    refine J_iinc (pc := 59) (v := x6 + 1) (lv' := [(6, .int (x6 + 1)), (0, .ref x0), (1, .ref x1), (2, .int x2), (3, .int x3), (4, .int x4), (5, .int x5)]) X 6 d_Words_copyTo_59 rfl rfl (by decide) rfl ?_
    refine J_goto (pc := 62) (tgt := 38) X d_Words_copyTo_62 (by decide) ?_
    refine J_sub [1, 2, 3, 4, 5, 6, 0] rfl ?_
    exact R38 _ _ _ _ _ _ _ _ _ hM
theorem w_Words_copyTo_38 {p : Program} {l : Launch} {e : Env} {s : State} {m : MethodId} {args : Array Value} {below : List Frame} {meth : Method} {c : Code} {D : va_G} {K : (Nat → Nat) × (Nat → Nat)} {h0 : hH} (Y : HX p s m args meth c prog_12_method_10_code 7 "LicenceTexts$Words" D K "copyTo" none h0) {F : Nat} {r3 : hH → Nat → Nat → Int32 → Int32 → Int32 → Option hH} (R3 : ∀ (h : hH) (x0 : Nat) (x1 : Nat) (x2 : Int32) (x3 : Int32) (x4 : Int32) (q : hH), r3 h x0 x1 x2 x3 x4 = some q → J p l e rm_Words_copyTo s m args below meth c 7 D cls0 (hF h0) h [(0, .ref x0), (1, .ref x1), (2, .int x2), (3, .int x3), (4, .int x4)] 0 0 (MQ below (hQ D cls0 h0 none q) args s 0 0 (hF h0)) 3 []) : ∀ z : Nat, ∀ (h : hH) (x0 : Nat) (x1 : Nat) (x2 : Int32) (x3 : Int32) (x4 : Int32) (x5 : Int32) (x6 : Int32) (q : hH), M_Words_copyTo_38 F r3 z h x0 x1 x2 x3 x4 x5 x6 = some q → J p l e rm_Words_copyTo s m args below meth c 7 D cls0 (hF h0) h [(0, .ref x0), (1, .ref x1), (2, .int x2), (3, .int x3), (4, .int x4), (5, .int x5), (6, .int x6)] 0 0 (MQ below (hQ D cls0 h0 none q) args s 0 0 (hF h0)) 38 [] := by
  intro z
  induction z with
  | zero => intro h x0 x1 x2 x3 x4 x5 x6 q hM; exact absurd (show (none : Option _) = some q from hM) (fun t => by cases t)
  | succ z ih => exact b_Words_copyTo_38 Y R3 ih
set_option maxHeartbeats 4000000 in
set_option maxRecDepth 100000 in
theorem w_Words_copyTo_22 {p : Program} {l : Launch} {e : Env} {s : State} {m : MethodId} {args : Array Value} {below : List Frame} {meth : Method} {c : Code} {D : va_G} {K : (Nat → Nat) × (Nat → Nat)} {h0 : hH} (Y : HX p s m args meth c prog_12_method_10_code 7 "LicenceTexts$Words" D K "copyTo" none h0) {F : Nat} {r3 : hH → Nat → Nat → Int32 → Int32 → Int32 → Option hH} (R3 : ∀ (h : hH) (x0 : Nat) (x1 : Nat) (x2 : Int32) (x3 : Int32) (x4 : Int32) (q : hH), r3 h x0 x1 x2 x3 x4 = some q → J p l e rm_Words_copyTo s m args below meth c 7 D cls0 (hF h0) h [(0, .ref x0), (1, .ref x1), (2, .int x2), (3, .int x3), (4, .int x4)] 0 0 (MQ below (hQ D cls0 h0 none q) args s 0 0 (hF h0)) 3 []) (h : hH) (x0 : Nat) (x1 : Nat) (x2 : Int32) (x3 : Int32) (x4 : Int32) (q : hH) (hM : M_Words_copyTo_22 F r3 h x0 x1 x2 x3 x4 = some q) : J p l e rm_Words_copyTo s m args below meth c 7 D cls0 (hF h0) h [(0, .ref x0), (1, .ref x1), (2, .int x2), (3, .int x3), (4, .int x4)] 0 0 (MQ below (hQ D cls0 h0 none q) args s 0 0 (hF h0)) 22 [] := by
  obtain ⟨X, hr, hlk, hnm⟩ := id Y
  unfold M_Words_copyTo_22 at hM
  refine J_aload_n (pc := 22) X 0 d_Words_copyTo_22 rfl ?_
  refine J_iload (pc := 23) X 4 d_Words_copyTo_23 rfl ?_
  obtain ⟨u1, eu1, hM⟩ := hb_some hM
  obtain ⟨q2, eq2, hM⟩ := hb_some hM
  refine J_callV (pc := 25) (As := [.int x4]) (rest := []) (o := (some (.int q2.1))) (h2 := q2.2) X rfl hc_Words eu1 (c_Words_endOf l D K F eq2) (cwV_of (nA := 1) X.fix k_120 k_122 k_123 k_88 k_121 ⟨rfl, rfl, rfl⟩ (by decide +kernel) ⟨Nat.le_of_ble_eq_true rfl, Nat.le_of_ble_eq_true rfl⟩) d_Words_copyTo_25 rfl rfl (Nat.le_of_ble_eq_true rfl) (Nat.le_of_ble_eq_true rfl) (Nat.le_of_ble_eq_true rfl) ?_
  refine J_istore (pc := 28) (lv' := [(5, .int q2.1), (0, .ref x0), (1, .ref x1), (2, .int x2), (3, .int x3), (4, .int x4)]) X d_Words_copyTo_28 (by decide) rfl ?_
  refine J_aload_n (pc := 30) X 1 d_Words_copyTo_30 rfl ?_
  refine J_iload (pc := 31) X 5 d_Words_copyTo_31 rfl ?_
  obtain ⟨u3, eu3, hM⟩ := hb_some hM
  obtain ⟨q4, eq4, hM⟩ := hb_some hM
  refine J_callV (pc := 33) (As := [.int x4]) (rest := []) (o := (some (.int q4.1))) (h2 := q4.2) X rfl hc_Words eu3 (c_Words_startOf l D K F eq4) (cwV_of (nA := 1) X.fix k_116 k_118 k_119 k_88 k_117 ⟨rfl, rfl, rfl⟩ (by decide +kernel) ⟨Nat.le_of_ble_eq_true rfl, Nat.le_of_ble_eq_true rfl⟩) d_Words_copyTo_33 rfl rfl (Nat.le_of_ble_eq_true rfl) (Nat.le_of_ble_eq_true rfl) (Nat.le_of_ble_eq_true rfl) ?_
  refine J_istore (pc := 36) (lv' := [(6, .int q4.1), (5, .int q2.1), (0, .ref x0), (1, .ref x1), (2, .int x2), (3, .int x3), (4, .int x4)]) X d_Words_copyTo_36 (by decide) rfl ?_
  refine J_sub [2, 3, 4, 5, 6, 1, 0] rfl ?_
  exact w_Words_copyTo_38 Y R3 F _ _ _ _ _ _ _ _ _ hM
set_option maxHeartbeats 4000000 in
set_option maxRecDepth 100000 in
theorem b_Words_copyTo_3 {p : Program} {l : Launch} {e : Env} {s : State} {m : MethodId} {args : Array Value} {below : List Frame} {meth : Method} {c : Code} {D : va_G} {K : (Nat → Nat) × (Nat → Nat)} {h0 : hH} (Y : HX p s m args meth c prog_12_method_10_code 7 "LicenceTexts$Words" D K "copyTo" none h0) {F : Nat}   {r3 : hH → Nat → Nat → Int32 → Int32 → Int32 → Option hH} (R3 : ∀ (h : hH) (x0 : Nat) (x1 : Nat) (x2 : Int32) (x3 : Int32) (x4 : Int32) (q : hH), r3 h x0 x1 x2 x3 x4 = some q → J p l e rm_Words_copyTo s m args below meth c 7 D cls0 (hF h0) h [(0, .ref x0), (1, .ref x1), (2, .int x2), (3, .int x3), (4, .int x4)] 0 0 (MQ below (hQ D cls0 h0 none q) args s 0 0 (hF h0)) 3 []) : ∀ (h : hH) (x0 : Nat) (x1 : Nat) (x2 : Int32) (x3 : Int32) (x4 : Int32) (q : hH), B_Words_copyTo_3 F r3 h x0 x1 x2 x3 x4 = some q → J p l e rm_Words_copyTo s m args below meth c 7 D cls0 (hF h0) h [(0, .ref x0), (1, .ref x1), (2, .int x2), (3, .int x3), (4, .int x4)] 0 0 (MQ below (hQ D cls0 h0 none q) args s 0 0 (hF h0)) 3 [] := by
  intro h x0 x1 x2 x3 x4 q hM
  obtain ⟨X, hr, hlk, hnm⟩ := id Y
  unfold B_Words_copyTo_3 at hM
  refine J_iload (pc := 3) X 4 d_Words_copyTo_3 rfl ?_
  refine J_iload_n (pc := 5) X 3 d_Words_copyTo_5 rfl ?_
  refine J_icmp_ge (pc := 6) (tgt := 71) X d_Words_copyTo_6 (by decide) (fun c1 => ?_) (fun c1 => ?_)
  · have hM := hif_t hM c1
    obtain rfl := Option.some.inj hM
    exact J_vret (pc := 71) X hr hlk (Nat.le_of_ble_eq_true rfl) (Nat.le_of_ble_eq_true rfl) d_Words_copyTo_71
  · have hM := hif_f hM c1
    refine J_iload (pc := 9) X 4 d_Words_copyTo_9 rfl ?_
    refine J_iload_n (pc := 11) X 2 d_Words_copyTo_11 rfl ?_
    refine J_icmp_le (pc := 12) (tgt := 22) X d_Words_copyTo_12 (by decide) (fun c2 => ?_) (fun c2 => ?_)
    · have hM := hif_t hM c2
      exact w_Words_copyTo_22 Y R3 _ _ _ _ _ _ _ hM
    · have hM := hif_f hM c2
      refine J_aload_n (pc := 15) X 1 d_Words_copyTo_15 rfl ?_
      refine J_bipush (pc := 16) (v := (32)) X d_Words_copyTo_16 (by decide) ?_
      obtain ⟨u3, eu3, hM⟩ := hb_some hM
      obtain ⟨q4, eq4, hM⟩ := hb_some hM
      refine J_callV (pc := 18) (As := [.int 32]) (rest := []) (o := (some (.int q4.1))) (h2 := q4.2) X rfl hc_Bytes eu3 (c_Bytes_append l D K F eq4) (cwV_of (nA := 1) X.fix k_95 k_97 k_98 k_77 k_96 ⟨rfl, rfl, rfl⟩ (by decide +kernel) ⟨Nat.le_of_ble_eq_true rfl, Nat.le_of_ble_eq_true rfl⟩) d_Words_copyTo_18 rfl rfl (Nat.le_of_ble_eq_true rfl) (Nat.le_of_ble_eq_true rfl) (Nat.le_of_ble_eq_true rfl) ?_
      refine J_pop (pc := 21) X d_Words_copyTo_21 rfl ?_
      exact w_Words_copyTo_22 Y R3 _ _ _ _ _ _ _ hM
theorem w_Words_copyTo_3 {p : Program} {l : Launch} {e : Env} {s : State} {m : MethodId} {args : Array Value} {below : List Frame} {meth : Method} {c : Code} {D : va_G} {K : (Nat → Nat) × (Nat → Nat)} {h0 : hH} (Y : HX p s m args meth c prog_12_method_10_code 7 "LicenceTexts$Words" D K "copyTo" none h0) {F : Nat} : ∀ z : Nat, ∀ (h : hH) (x0 : Nat) (x1 : Nat) (x2 : Int32) (x3 : Int32) (x4 : Int32) (q : hH), M_Words_copyTo_3 F z h x0 x1 x2 x3 x4 = some q → J p l e rm_Words_copyTo s m args below meth c 7 D cls0 (hF h0) h [(0, .ref x0), (1, .ref x1), (2, .int x2), (3, .int x3), (4, .int x4)] 0 0 (MQ below (hQ D cls0 h0 none q) args s 0 0 (hF h0)) 3 [] := by
  intro z
  induction z with
  | zero => intro h x0 x1 x2 x3 x4 q hM; exact absurd (show (none : Option _) = some q from hM) (fun t => by cases t)
  | succ z ih => exact b_Words_copyTo_3 Y ih
set_option maxHeartbeats 4000000 in
set_option maxRecDepth 100000 in
theorem c_Words_copyTo (l : Launch) (D : va_G) (K : (Nat → Nat) × (Nat → Nat)) (F : Nat) {h : hH} {x0 : Nat} {x1 : Nat} {x2 : Int32} {x3 : Int32} {q : hH} (hM : M_Words_copyTo F h x0 x1 x2 x3 = some q) : Met l y_Words_copyTo (.code y_Words_copyTo prog_12_method_10_code 7 none :: T0) rm_Words_copyTo (hPc hG D cls0 K [.ref x0, .ref x1, .int x2, .int x3] h) (hQ D cls0 h none q) 0 0 (hF h) := by
  refine J_met (lv := [(0, .ref x0), (1, .ref x1), (2, .int x2), (3, .int x3)]) (by decide) (Nat.le_of_ble_eq_true rfl) rfl ?_
  intro p e s m below meth c X hr hlk hnm
  have Y : HX p s m _ meth c prog_12_method_10_code 7 "LicenceTexts$Words" D K "copyTo" none h := ⟨X, hr, hlk, hnm⟩
  unfold M_Words_copyTo at hM
  refine J_iload_n (pc := 0) X 2 d_Words_copyTo_0 rfl ?_
  refine J_istore (pc := 1) (lv' := [(4, .int x2), (0, .ref x0), (1, .ref x1), (2, .int x2), (3, .int x3)]) X d_Words_copyTo_1 (by decide) rfl ?_
  refine J_sub [1, 2, 3, 4, 0] rfl ?_
  exact w_Words_copyTo_3 Y F _ _ _ _ _ _ _ hM
