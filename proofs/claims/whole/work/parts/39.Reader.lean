theorem d_TextReader_init_0 : decode prog_11_method_1_code 0 = .ok (.aload_n 0, 1) := by decide +kernel
theorem d_TextReader_init_1 : decode prog_11_method_1_code 1 = .ok (.invokespecial 3, 3) := by decide +kernel
theorem d_TextReader_init_4 : decode prog_11_method_1_code 4 = .ok (.aload_n 0, 1) := by decide +kernel
theorem d_TextReader_init_5 : decode prog_11_method_1_code 5 = .ok (.new 9, 3) := by decide +kernel
theorem d_TextReader_init_8 : decode prog_11_method_1_code 8 = .ok (.dup, 1) := by decide +kernel
theorem d_TextReader_init_9 : decode prog_11_method_1_code 9 = .ok (.invokespecial 11, 3) := by decide +kernel
theorem d_TextReader_init_12 : decode prog_11_method_1_code 12 = .ok (.putfield 12, 3) := by decide +kernel
theorem d_TextReader_init_15 : decode prog_11_method_1_code 15 = .ok (.aload_n 0, 1) := by decide +kernel
theorem d_TextReader_init_16 : decode prog_11_method_1_code 16 = .ok (.aload_n 1, 1) := by decide +kernel
theorem d_TextReader_init_17 : decode prog_11_method_1_code 17 = .ok (.putfield 18, 3) := by decide +kernel
theorem d_TextReader_init_20 : decode prog_11_method_1_code 20 = .ok (.aload_n 0, 1) := by decide +kernel
theorem d_TextReader_init_21 : decode prog_11_method_1_code 21 = .ok (.aload_n 1, 1) := by decide +kernel
theorem d_TextReader_init_22 : decode prog_11_method_1_code 22 = .ok (.getfield 22, 3) := by decide +kernel
theorem d_TextReader_init_25 : decode prog_11_method_1_code 25 = .ok (.putfield 28, 3) := by decide +kernel
theorem d_TextReader_init_28 : decode prog_11_method_1_code 28 = .ok (.aload_n 0, 1) := by decide +kernel
theorem d_TextReader_init_29 : decode prog_11_method_1_code 29 = .ok (.aload_n 1, 1) := by decide +kernel
theorem d_TextReader_init_30 : decode prog_11_method_1_code 30 = .ok (.getfield 29, 3) := by decide +kernel
theorem d_TextReader_init_33 : decode prog_11_method_1_code 33 = .ok (.putfield 32, 3) := by decide +kernel
theorem d_TextReader_init_36 : decode prog_11_method_1_code 36 = .ok (.aload_n 0, 1) := by decide +kernel
theorem d_TextReader_init_37 : decode prog_11_method_1_code 37 = .ok (.iconst 0, 1) := by decide +kernel
theorem d_TextReader_init_38 : decode prog_11_method_1_code 38 = .ok (.putfield 33, 3) := by decide +kernel
theorem d_TextReader_init_41 : decode prog_11_method_1_code 41 = .ok (.aload_n 0, 1) := by decide +kernel
theorem d_TextReader_init_42 : decode prog_11_method_1_code 42 = .ok (.iconst 0, 1) := by decide +kernel
theorem d_TextReader_init_43 : decode prog_11_method_1_code 43 = .ok (.putfield 37, 3) := by decide +kernel
theorem d_TextReader_init_46 : decode prog_11_method_1_code 46 = .ok (.aload_n 0, 1) := by decide +kernel
theorem d_TextReader_init_47 : decode prog_11_method_1_code 47 = .ok (.iconst (-1), 1) := by decide +kernel
theorem d_TextReader_init_48 : decode prog_11_method_1_code 48 = .ok (.putfield 40, 3) := by decide +kernel
theorem d_TextReader_init_51 : decode prog_11_method_1_code 51 = .ok (.aload_n 0, 1) := by decide +kernel
theorem d_TextReader_init_52 : decode prog_11_method_1_code 52 = .ok (.iconst 0, 1) := by decide +kernel
theorem d_TextReader_init_53 : decode prog_11_method_1_code 53 = .ok (.putfield 43, 3) := by decide +kernel
theorem d_TextReader_init_56 : decode prog_11_method_1_code 56 = .ok (.return_, 1) := by decide +kernel
theorem d_TextReader_rankOf_0 : decode prog_11_method_17_code 0 = .ok (.iload_n 0, 1) := by decide +kernel
theorem d_TextReader_rankOf_1 : decode prog_11_method_17_code 1 = .ok (.tableswitch 49 2 8 #[47, 49, 43, 43, 45, 45, 45], 43) := by decide +kernel
theorem d_TextReader_rankOf_48 : decode prog_11_method_17_code 48 = .ok (.iconst 3, 1) := by decide +kernel
theorem d_TextReader_rankOf_49 : decode prog_11_method_17_code 49 = .ok (.ireturn, 1) := by decide +kernel
theorem d_TextReader_rankOf_50 : decode prog_11_method_17_code 50 = .ok (.iconst 0, 1) := by decide +kernel
theorem d_TextReader_rankOf_51 : decode prog_11_method_17_code 51 = .ok (.ireturn, 1) := by decide +kernel
theorem d_TextReader_rankOf_44 : decode prog_11_method_17_code 44 = .ok (.iconst 1, 1) := by decide +kernel
theorem d_TextReader_rankOf_45 : decode prog_11_method_17_code 45 = .ok (.ireturn, 1) := by decide +kernel
theorem d_TextReader_rankOf_46 : decode prog_11_method_17_code 46 = .ok (.iconst 2, 1) := by decide +kernel
theorem d_TextReader_rankOf_47 : decode prog_11_method_17_code 47 = .ok (.ireturn, 1) := by decide +kernel
theorem d_TextReader_settle_70 : decode prog_11_method_16_code 70 = .ok (.iinc 2 (-1), 3) := by decide +kernel
theorem d_TextReader_settle_73 : decode prog_11_method_16_code 73 = .ok (.goto (-63), 3) := by decide +kernel
theorem d_TextReader_settle_10 : decode prog_11_method_16_code 10 = .ok (.iload_n 2, 1) := by decide +kernel
theorem d_TextReader_settle_11 : decode prog_11_method_16_code 11 = .ok (.ifCond .lt 65, 3) := by decide +kernel
theorem d_TextReader_settle_76 : decode prog_11_method_16_code 76 = .ok (.return_, 1) := by decide +kernel
theorem d_TextReader_settle_14 : decode prog_11_method_16_code 14 = .ok (.aload_n 0, 1) := by decide +kernel
theorem d_TextReader_settle_15 : decode prog_11_method_16_code 15 = .ok (.getfield 12, 3) := by decide +kernel
theorem d_TextReader_settle_18 : decode prog_11_method_16_code 18 = .ok (.iload_n 2, 1) := by decide +kernel
theorem d_TextReader_settle_19 : decode prog_11_method_16_code 19 = .ok (.invokevirtual 170, 3) := by decide +kernel
theorem d_TextReader_settle_22 : decode prog_11_method_16_code 22 = .ok (.istore_n 3, 1) := by decide +kernel
theorem d_TextReader_settle_23 : decode prog_11_method_16_code 23 = .ok (.iload_n 3, 1) := by decide +kernel
theorem d_TextReader_settle_24 : decode prog_11_method_16_code 24 = .ok (.invokestatic 138, 3) := by decide +kernel
theorem d_TextReader_settle_27 : decode prog_11_method_16_code 27 = .ok (.iload_n 1, 1) := by decide +kernel
theorem d_TextReader_settle_28 : decode prog_11_method_16_code 28 = .ok (.if_icmp .ge 4, 3) := by decide +kernel
theorem d_TextReader_settle_32 : decode prog_11_method_16_code 32 = .ok (.aload_n 0, 1) := by decide +kernel
theorem d_TextReader_settle_33 : decode prog_11_method_16_code 33 = .ok (.getfield 32, 3) := by decide +kernel
theorem d_TextReader_settle_36 : decode prog_11_method_16_code 36 = .ok (.iload_n 3, 1) := by decide +kernel
theorem d_TextReader_settle_37 : decode prog_11_method_16_code 37 = .ok (.aload_n 0, 1) := by decide +kernel
theorem d_TextReader_settle_38 : decode prog_11_method_16_code 38 = .ok (.getfield 12, 3) := by decide +kernel
theorem d_TextReader_settle_41 : decode prog_11_method_16_code 41 = .ok (.iload_n 2, 1) := by decide +kernel
theorem d_TextReader_settle_42 : decode prog_11_method_16_code 42 = .ok (.invokevirtual 176, 3) := by decide +kernel
theorem d_TextReader_settle_45 : decode prog_11_method_16_code 45 = .ok (.invokevirtual 116, 3) := by decide +kernel
theorem d_TextReader_settle_48 : decode prog_11_method_16_code 48 = .ok (.aload_n 0, 1) := by decide +kernel
theorem d_TextReader_settle_49 : decode prog_11_method_16_code 49 = .ok (.getfield 12, 3) := by decide +kernel
theorem d_TextReader_settle_52 : decode prog_11_method_16_code 52 = .ok (.invokevirtual 173, 3) := by decide +kernel
theorem d_TextReader_settle_55 : decode prog_11_method_16_code 55 = .ok (.iload_n 3, 1) := by decide +kernel
theorem d_TextReader_settle_56 : decode prog_11_method_16_code 56 = .ok (.iconst 2, 1) := by decide +kernel
theorem d_TextReader_settle_57 : decode prog_11_method_16_code 57 = .ok (.if_icmp .ne 13, 3) := by decide +kernel
theorem d_TextReader_settle_60 : decode prog_11_method_16_code 60 = .ok (.aload_n 0, 1) := by decide +kernel
theorem d_TextReader_settle_61 : decode prog_11_method_16_code 61 = .ok (.dup, 1) := by decide +kernel
theorem d_TextReader_settle_62 : decode prog_11_method_16_code 62 = .ok (.getfield 37, 3) := by decide +kernel
theorem d_TextReader_settle_65 : decode prog_11_method_16_code 65 = .ok (.iconst 1, 1) := by decide +kernel
theorem d_TextReader_settle_66 : decode prog_11_method_16_code 66 = .ok (.isub, 1) := by decide +kernel
theorem d_TextReader_settle_67 : decode prog_11_method_16_code 67 = .ok (.putfield 37, 3) := by decide +kernel
theorem d_TextReader_settle_31 : decode prog_11_method_16_code 31 = .ok (.return_, 1) := by decide +kernel
theorem d_TextReader_settle_0 : decode prog_11_method_16_code 0 = .ok (.aload_n 0, 1) := by decide +kernel
theorem d_TextReader_settle_1 : decode prog_11_method_16_code 1 = .ok (.getfield 12, 3) := by decide +kernel
theorem d_TextReader_settle_4 : decode prog_11_method_16_code 4 = .ok (.getfield 169, 3) := by decide +kernel
theorem d_TextReader_settle_7 : decode prog_11_method_16_code 7 = .ok (.iconst 1, 1) := by decide +kernel
theorem d_TextReader_settle_8 : decode prog_11_method_16_code 8 = .ok (.isub, 1) := by decide +kernel
theorem d_TextReader_settle_9 : decode prog_11_method_16_code 9 = .ok (.istore_n 2, 1) := by decide +kernel
theorem d_TextReader_endAtom_0 : decode prog_11_method_15_code 0 = .ok (.aload_n 0, 1) := by decide +kernel
theorem d_TextReader_endAtom_1 : decode prog_11_method_15_code 1 = .ok (.iconst 3, 1) := by decide +kernel
theorem d_TextReader_endAtom_2 : decode prog_11_method_15_code 2 = .ok (.invokevirtual 141, 3) := by decide +kernel
theorem d_TextReader_endAtom_5 : decode prog_11_method_15_code 5 = .ok (.aload_n 0, 1) := by decide +kernel
theorem d_TextReader_endAtom_6 : decode prog_11_method_15_code 6 = .ok (.iconst 5, 1) := by decide +kernel
theorem d_TextReader_endAtom_7 : decode prog_11_method_15_code 7 = .ok (.putfield 33, 3) := by decide +kernel
theorem d_TextReader_endAtom_10 : decode prog_11_method_15_code 10 = .ok (.return_, 1) := by decide +kernel
theorem d_TextReader_waitAround_0 : decode prog_11_method_13_code 0 = .ok (.aload_n 0, 1) := by decide +kernel
theorem d_TextReader_waitAround_1 : decode prog_11_method_13_code 1 = .ok (.getfield 12, 3) := by decide +kernel
theorem d_TextReader_waitAround_4 : decode prog_11_method_13_code 4 = .ok (.iload_n 1, 1) := by decide +kernel
theorem d_TextReader_waitAround_5 : decode prog_11_method_13_code 5 = .ok (.iload_n 2, 1) := by decide +kernel
theorem d_TextReader_waitAround_6 : decode prog_11_method_13_code 6 = .ok (.invokevirtual 116, 3) := by decide +kernel
theorem d_TextReader_waitAround_9 : decode prog_11_method_13_code 9 = .ok (.aload_n 0, 1) := by decide +kernel
theorem d_TextReader_waitAround_10 : decode prog_11_method_13_code 10 = .ok (.dup, 1) := by decide +kernel
theorem d_TextReader_waitAround_11 : decode prog_11_method_13_code 11 = .ok (.getfield 37, 3) := by decide +kernel
theorem d_TextReader_waitAround_14 : decode prog_11_method_13_code 14 = .ok (.iconst 1, 1) := by decide +kernel
theorem d_TextReader_waitAround_15 : decode prog_11_method_13_code 15 = .ok (.iadd, 1) := by decide +kernel
theorem d_TextReader_waitAround_16 : decode prog_11_method_13_code 16 = .ok (.putfield 37, 3) := by decide +kernel
theorem d_TextReader_waitAround_19 : decode prog_11_method_13_code 19 = .ok (.aload_n 0, 1) := by decide +kernel
theorem d_TextReader_waitAround_20 : decode prog_11_method_13_code 20 = .ok (.iconst 2, 1) := by decide +kernel
theorem d_TextReader_waitAround_21 : decode prog_11_method_13_code 21 = .ok (.putfield 33, 3) := by decide +kernel
theorem d_TextReader_waitAround_24 : decode prog_11_method_13_code 24 = .ok (.return_, 1) := by decide +kernel
theorem d_TextReader_closeBracket_0 : decode prog_11_method_14_code 0 = .ok (.aload_n 0, 1) := by decide +kernel
theorem d_TextReader_closeBracket_1 : decode prog_11_method_14_code 1 = .ok (.iconst 1, 1) := by decide +kernel
theorem d_TextReader_closeBracket_2 : decode prog_11_method_14_code 2 = .ok (.invokevirtual 141, 3) := by decide +kernel
theorem d_TextReader_closeBracket_5 : decode prog_11_method_14_code 5 = .ok (.aload_n 0, 1) := by decide +kernel
theorem d_TextReader_closeBracket_6 : decode prog_11_method_14_code 6 = .ok (.getfield 12, 3) := by decide +kernel
theorem d_TextReader_closeBracket_9 : decode prog_11_method_14_code 9 = .ok (.aload_n 0, 1) := by decide +kernel
theorem d_TextReader_closeBracket_10 : decode prog_11_method_14_code 10 = .ok (.getfield 12, 3) := by decide +kernel
theorem d_TextReader_closeBracket_13 : decode prog_11_method_14_code 13 = .ok (.getfield 169, 3) := by decide +kernel
theorem d_TextReader_closeBracket_16 : decode prog_11_method_14_code 16 = .ok (.iconst 1, 1) := by decide +kernel
theorem d_TextReader_closeBracket_17 : decode prog_11_method_14_code 17 = .ok (.isub, 1) := by decide +kernel
theorem d_TextReader_closeBracket_18 : decode prog_11_method_14_code 18 = .ok (.invokevirtual 170, 3) := by decide +kernel
theorem d_TextReader_closeBracket_21 : decode prog_11_method_14_code 21 = .ok (.iconst 3, 1) := by decide +kernel
theorem d_TextReader_closeBracket_22 : decode prog_11_method_14_code 22 = .ok (.if_icmp .eq 5, 3) := by decide +kernel
theorem d_TextReader_closeBracket_27 : decode prog_11_method_14_code 27 = .ok (.aload_n 0, 1) := by decide +kernel
theorem d_TextReader_closeBracket_28 : decode prog_11_method_14_code 28 = .ok (.getfield 12, 3) := by decide +kernel
theorem d_TextReader_closeBracket_31 : decode prog_11_method_14_code 31 = .ok (.invokevirtual 173, 3) := by decide +kernel
theorem d_TextReader_closeBracket_34 : decode prog_11_method_14_code 34 = .ok (.aload_n 0, 1) := by decide +kernel
theorem d_TextReader_closeBracket_35 : decode prog_11_method_14_code 35 = .ok (.dup, 1) := by decide +kernel
theorem d_TextReader_closeBracket_36 : decode prog_11_method_14_code 36 = .ok (.getfield 37, 3) := by decide +kernel
theorem d_TextReader_closeBracket_39 : decode prog_11_method_14_code 39 = .ok (.iconst 1, 1) := by decide +kernel
theorem d_TextReader_closeBracket_40 : decode prog_11_method_14_code 40 = .ok (.isub, 1) := by decide +kernel
theorem d_TextReader_closeBracket_41 : decode prog_11_method_14_code 41 = .ok (.putfield 37, 3) := by decide +kernel
theorem d_TextReader_closeBracket_44 : decode prog_11_method_14_code 44 = .ok (.aload_n 0, 1) := by decide +kernel
theorem d_TextReader_closeBracket_45 : decode prog_11_method_14_code 45 = .ok (.iconst 3, 1) := by decide +kernel
theorem d_TextReader_closeBracket_46 : decode prog_11_method_14_code 46 = .ok (.invokevirtual 141, 3) := by decide +kernel
theorem d_TextReader_closeBracket_49 : decode prog_11_method_14_code 49 = .ok (.iconst 1, 1) := by decide +kernel
theorem d_TextReader_closeBracket_50 : decode prog_11_method_14_code 50 = .ok (.ireturn, 1) := by decide +kernel
theorem d_TextReader_closeBracket_25 : decode prog_11_method_14_code 25 = .ok (.iconst 0, 1) := by decide +kernel
theorem d_TextReader_closeBracket_26 : decode prog_11_method_14_code 26 = .ok (.ireturn, 1) := by decide +kernel
theorem d_TextReader_operatorAt_0 : decode prog_11_method_18_code 0 = .ok (.aload_n 0, 1) := by decide +kernel
theorem d_TextReader_operatorAt_1 : decode prog_11_method_18_code 1 = .ok (.getfield 28, 3) := by decide +kernel
theorem d_TextReader_operatorAt_4 : decode prog_11_method_18_code 4 = .ok (.iload_n 1, 1) := by decide +kernel
theorem d_TextReader_operatorAt_5 : decode prog_11_method_18_code 5 = .ok (.ldc 179, 2) := by decide +kernel
theorem d_TextReader_operatorAt_7 : decode prog_11_method_18_code 7 = .ok (.invokevirtual 83, 3) := by decide +kernel
theorem d_TextReader_operatorAt_10 : decode prog_11_method_18_code 10 = .ok (.ifCond .eq 5, 3) := by decide +kernel
theorem d_TextReader_operatorAt_15 : decode prog_11_method_18_code 15 = .ok (.aload_n 0, 1) := by decide +kernel
theorem d_TextReader_operatorAt_16 : decode prog_11_method_18_code 16 = .ok (.getfield 28, 3) := by decide +kernel
theorem d_TextReader_operatorAt_19 : decode prog_11_method_18_code 19 = .ok (.iload_n 1, 1) := by decide +kernel
theorem d_TextReader_operatorAt_20 : decode prog_11_method_18_code 20 = .ok (.ldc 181, 2) := by decide +kernel
theorem d_TextReader_operatorAt_22 : decode prog_11_method_18_code 22 = .ok (.invokevirtual 83, 3) := by decide +kernel
theorem d_TextReader_operatorAt_25 : decode prog_11_method_18_code 25 = .ok (.ifCond .eq 5, 3) := by decide +kernel
theorem d_TextReader_operatorAt_30 : decode prog_11_method_18_code 30 = .ok (.aload_n 0, 1) := by decide +kernel
theorem d_TextReader_operatorAt_31 : decode prog_11_method_18_code 31 = .ok (.getfield 28, 3) := by decide +kernel
theorem d_TextReader_operatorAt_34 : decode prog_11_method_18_code 34 = .ok (.iload_n 1, 1) := by decide +kernel
theorem d_TextReader_operatorAt_35 : decode prog_11_method_18_code 35 = .ok (.ldc 183, 2) := by decide +kernel
theorem d_TextReader_operatorAt_37 : decode prog_11_method_18_code 37 = .ok (.invokevirtual 83, 3) := by decide +kernel
theorem d_TextReader_operatorAt_40 : decode prog_11_method_18_code 40 = .ok (.ifCond .eq 6, 3) := by decide +kernel
theorem d_TextReader_operatorAt_46 : decode prog_11_method_18_code 46 = .ok (.aload_n 0, 1) := by decide +kernel
theorem d_TextReader_operatorAt_47 : decode prog_11_method_18_code 47 = .ok (.getfield 28, 3) := by decide +kernel
theorem d_TextReader_operatorAt_50 : decode prog_11_method_18_code 50 = .ok (.iload_n 1, 1) := by decide +kernel
theorem d_TextReader_operatorAt_51 : decode prog_11_method_18_code 51 = .ok (.ldc 185, 2) := by decide +kernel
theorem d_TextReader_operatorAt_53 : decode prog_11_method_18_code 53 = .ok (.invokevirtual 83, 3) := by decide +kernel
theorem d_TextReader_operatorAt_56 : decode prog_11_method_18_code 56 = .ok (.ifCond .eq 6, 3) := by decide +kernel
theorem d_TextReader_operatorAt_62 : decode prog_11_method_18_code 62 = .ok (.aload_n 0, 1) := by decide +kernel
theorem d_TextReader_operatorAt_63 : decode prog_11_method_18_code 63 = .ok (.getfield 28, 3) := by decide +kernel
theorem d_TextReader_operatorAt_66 : decode prog_11_method_18_code 66 = .ok (.iload_n 1, 1) := by decide +kernel
theorem d_TextReader_operatorAt_67 : decode prog_11_method_18_code 67 = .ok (.ldc 187, 2) := by decide +kernel
theorem d_TextReader_operatorAt_69 : decode prog_11_method_18_code 69 = .ok (.invokevirtual 83, 3) := by decide +kernel
theorem d_TextReader_operatorAt_72 : decode prog_11_method_18_code 72 = .ok (.ifCond .eq 8, 3) := by decide +kernel
theorem d_TextReader_operatorAt_80 : decode prog_11_method_18_code 80 = .ok (.iconst (-1), 1) := by decide +kernel
theorem d_TextReader_operatorAt_81 : decode prog_11_method_18_code 81 = .ok (.ireturn, 1) := by decide +kernel
theorem d_TextReader_operatorAt_75 : decode prog_11_method_18_code 75 = .ok (.bipush 8, 2) := by decide +kernel
theorem d_TextReader_operatorAt_77 : decode prog_11_method_18_code 77 = .ok (.goto 4, 3) := by decide +kernel
theorem d_TextReader_operatorAt_59 : decode prog_11_method_18_code 59 = .ok (.bipush 7, 2) := by decide +kernel
theorem d_TextReader_operatorAt_61 : decode prog_11_method_18_code 61 = .ok (.ireturn, 1) := by decide +kernel
theorem d_TextReader_operatorAt_43 : decode prog_11_method_18_code 43 = .ok (.bipush 6, 2) := by decide +kernel
theorem d_TextReader_operatorAt_45 : decode prog_11_method_18_code 45 = .ok (.ireturn, 1) := by decide +kernel
theorem d_TextReader_operatorAt_28 : decode prog_11_method_18_code 28 = .ok (.iconst 5, 1) := by decide +kernel
theorem d_TextReader_operatorAt_29 : decode prog_11_method_18_code 29 = .ok (.ireturn, 1) := by decide +kernel
theorem d_TextReader_operatorAt_13 : decode prog_11_method_18_code 13 = .ok (.iconst 4, 1) := by decide +kernel
theorem d_TextReader_operatorAt_14 : decode prog_11_method_18_code 14 = .ok (.ireturn, 1) := by decide +kernel
theorem d_TextReader_relationAt_0 : decode prog_11_method_19_code 0 = .ok (.aload_n 0, 1) := by decide +kernel
theorem d_TextReader_relationAt_1 : decode prog_11_method_19_code 1 = .ok (.getfield 28, 3) := by decide +kernel
theorem d_TextReader_relationAt_4 : decode prog_11_method_19_code 4 = .ok (.iload_n 1, 1) := by decide +kernel
theorem d_TextReader_relationAt_5 : decode prog_11_method_19_code 5 = .ok (.ldc 189, 2) := by decide +kernel
theorem d_TextReader_relationAt_7 : decode prog_11_method_19_code 7 = .ok (.invokevirtual 83, 3) := by decide +kernel
theorem d_TextReader_relationAt_10 : decode prog_11_method_19_code 10 = .ok (.ifCond .eq 6, 3) := by decide +kernel
theorem d_TextReader_relationAt_16 : decode prog_11_method_19_code 16 = .ok (.aload_n 0, 1) := by decide +kernel
theorem d_TextReader_relationAt_17 : decode prog_11_method_19_code 17 = .ok (.getfield 28, 3) := by decide +kernel
theorem d_TextReader_relationAt_20 : decode prog_11_method_19_code 20 = .ok (.iload_n 1, 1) := by decide +kernel
theorem d_TextReader_relationAt_21 : decode prog_11_method_19_code 21 = .ok (.ldc 191, 2) := by decide +kernel
theorem d_TextReader_relationAt_23 : decode prog_11_method_19_code 23 = .ok (.invokevirtual 83, 3) := by decide +kernel
theorem d_TextReader_relationAt_26 : decode prog_11_method_19_code 26 = .ok (.ifCond .eq 6, 3) := by decide +kernel
theorem d_TextReader_relationAt_32 : decode prog_11_method_19_code 32 = .ok (.aload_n 0, 1) := by decide +kernel
theorem d_TextReader_relationAt_33 : decode prog_11_method_19_code 33 = .ok (.getfield 28, 3) := by decide +kernel
theorem d_TextReader_relationAt_36 : decode prog_11_method_19_code 36 = .ok (.iload_n 1, 1) := by decide +kernel
theorem d_TextReader_relationAt_37 : decode prog_11_method_19_code 37 = .ok (.ldc 193, 2) := by decide +kernel
theorem d_TextReader_relationAt_39 : decode prog_11_method_19_code 39 = .ok (.invokevirtual 83, 3) := by decide +kernel
theorem d_TextReader_relationAt_42 : decode prog_11_method_19_code 42 = .ok (.ifCond .eq 6, 3) := by decide +kernel
theorem d_TextReader_relationAt_48 : decode prog_11_method_19_code 48 = .ok (.aload_n 0, 1) := by decide +kernel
theorem d_TextReader_relationAt_49 : decode prog_11_method_19_code 49 = .ok (.getfield 28, 3) := by decide +kernel
theorem d_TextReader_relationAt_52 : decode prog_11_method_19_code 52 = .ok (.iload_n 1, 1) := by decide +kernel
theorem d_TextReader_relationAt_53 : decode prog_11_method_19_code 53 = .ok (.ldc 195, 2) := by decide +kernel
theorem d_TextReader_relationAt_55 : decode prog_11_method_19_code 55 = .ok (.invokevirtual 83, 3) := by decide +kernel
theorem d_TextReader_relationAt_58 : decode prog_11_method_19_code 58 = .ok (.ifCond .eq 8, 3) := by decide +kernel
theorem d_TextReader_relationAt_66 : decode prog_11_method_19_code 66 = .ok (.iconst (-1), 1) := by decide +kernel
theorem d_TextReader_relationAt_67 : decode prog_11_method_19_code 67 = .ok (.ireturn, 1) := by decide +kernel
theorem d_TextReader_relationAt_61 : decode prog_11_method_19_code 61 = .ok (.bipush 12, 2) := by decide +kernel
theorem d_TextReader_relationAt_63 : decode prog_11_method_19_code 63 = .ok (.goto 4, 3) := by decide +kernel
theorem d_TextReader_relationAt_45 : decode prog_11_method_19_code 45 = .ok (.bipush 11, 2) := by decide +kernel
theorem d_TextReader_relationAt_47 : decode prog_11_method_19_code 47 = .ok (.ireturn, 1) := by decide +kernel
theorem d_TextReader_relationAt_29 : decode prog_11_method_19_code 29 = .ok (.bipush 10, 2) := by decide +kernel
theorem d_TextReader_relationAt_31 : decode prog_11_method_19_code 31 = .ok (.ireturn, 1) := by decide +kernel
theorem d_TextReader_relationAt_13 : decode prog_11_method_19_code 13 = .ok (.bipush 9, 2) := by decide +kernel
theorem d_TextReader_relationAt_15 : decode prog_11_method_19_code 15 = .ok (.ireturn, 1) := by decide +kernel
theorem d_TextReader_takeNeed_0 : decode prog_11_method_11_code 0 = .ok (.aload_n 0, 1) := by decide +kernel
theorem d_TextReader_takeNeed_1 : decode prog_11_method_11_code 1 = .ok (.getfield 28, 3) := by decide +kernel
theorem d_TextReader_takeNeed_4 : decode prog_11_method_11_code 4 = .ok (.iload_n 1, 1) := by decide +kernel
theorem d_TextReader_takeNeed_5 : decode prog_11_method_11_code 5 = .ok (.ldc 161, 2) := by decide +kernel
theorem d_TextReader_takeNeed_7 : decode prog_11_method_11_code 7 = .ok (.invokevirtual 83, 3) := by decide +kernel
theorem d_TextReader_takeNeed_10 : decode prog_11_method_11_code 10 = .ok (.ifCond .ne 5, 3) := by decide +kernel
theorem d_TextReader_takeNeed_15 : decode prog_11_method_11_code 15 = .ok (.aload_n 0, 1) := by decide +kernel
theorem d_TextReader_takeNeed_16 : decode prog_11_method_11_code 16 = .ok (.getfield 18, 3) := by decide +kernel
theorem d_TextReader_takeNeed_19 : decode prog_11_method_11_code 19 = .ok (.invokevirtual 163, 3) := by decide +kernel
theorem d_TextReader_takeNeed_22 : decode prog_11_method_11_code 22 = .ok (.aload_n 0, 1) := by decide +kernel
theorem d_TextReader_takeNeed_23 : decode prog_11_method_11_code 23 = .ok (.iconst 0, 1) := by decide +kernel
theorem d_TextReader_takeNeed_24 : decode prog_11_method_11_code 24 = .ok (.putfield 43, 3) := by decide +kernel
theorem d_TextReader_takeNeed_27 : decode prog_11_method_11_code 27 = .ok (.aload_n 0, 1) := by decide +kernel
theorem d_TextReader_takeNeed_28 : decode prog_11_method_11_code 28 = .ok (.iconst 2, 1) := by decide +kernel
theorem d_TextReader_takeNeed_29 : decode prog_11_method_11_code 29 = .ok (.putfield 33, 3) := by decide +kernel
theorem d_TextReader_takeNeed_32 : decode prog_11_method_11_code 32 = .ok (.iconst 1, 1) := by decide +kernel
theorem d_TextReader_takeNeed_33 : decode prog_11_method_11_code 33 = .ok (.ireturn, 1) := by decide +kernel
theorem d_TextReader_takeNeed_13 : decode prog_11_method_11_code 13 = .ok (.iconst 0, 1) := by decide +kernel
theorem d_TextReader_takeNeed_14 : decode prog_11_method_11_code 14 = .ok (.ireturn, 1) := by decide +kernel
theorem d_TextReader_takeRuleEnd_0 : decode prog_11_method_12_code 0 = .ok (.aload_n 0, 1) := by decide +kernel
theorem d_TextReader_takeRuleEnd_1 : decode prog_11_method_12_code 1 = .ok (.getfield 28, 3) := by decide +kernel
theorem d_TextReader_takeRuleEnd_4 : decode prog_11_method_12_code 4 = .ok (.iload_n 1, 1) := by decide +kernel
theorem d_TextReader_takeRuleEnd_5 : decode prog_11_method_12_code 5 = .ok (.ldc 103, 2) := by decide +kernel
theorem d_TextReader_takeRuleEnd_7 : decode prog_11_method_12_code 7 = .ok (.invokevirtual 83, 3) := by decide +kernel
theorem d_TextReader_takeRuleEnd_10 : decode prog_11_method_12_code 10 = .ok (.ifCond .ne 5, 3) := by decide +kernel
theorem d_TextReader_takeRuleEnd_15 : decode prog_11_method_12_code 15 = .ok (.aload_n 0, 1) := by decide +kernel
theorem d_TextReader_takeRuleEnd_16 : decode prog_11_method_12_code 16 = .ok (.getfield 18, 3) := by decide +kernel
theorem d_TextReader_takeRuleEnd_19 : decode prog_11_method_12_code 19 = .ok (.iload_n 1, 1) := by decide +kernel
theorem d_TextReader_takeRuleEnd_20 : decode prog_11_method_12_code 20 = .ok (.invokevirtual 166, 3) := by decide +kernel
theorem d_TextReader_takeRuleEnd_23 : decode prog_11_method_12_code 23 = .ok (.aload_n 0, 1) := by decide +kernel
theorem d_TextReader_takeRuleEnd_24 : decode prog_11_method_12_code 24 = .ok (.iconst 0, 1) := by decide +kernel
theorem d_TextReader_takeRuleEnd_25 : decode prog_11_method_12_code 25 = .ok (.putfield 33, 3) := by decide +kernel
theorem d_TextReader_takeRuleEnd_28 : decode prog_11_method_12_code 28 = .ok (.iconst 1, 1) := by decide +kernel
theorem d_TextReader_takeRuleEnd_29 : decode prog_11_method_12_code 29 = .ok (.ireturn, 1) := by decide +kernel
theorem d_TextReader_takeRuleEnd_13 : decode prog_11_method_12_code 13 = .ok (.iconst 0, 1) := by decide +kernel
theorem d_TextReader_takeRuleEnd_14 : decode prog_11_method_12_code 14 = .ok (.ireturn, 1) := by decide +kernel
theorem d_TextReader_takeBehindAtom_0 : decode prog_11_method_10_code 0 = .ok (.aload_n 0, 1) := by decide +kernel
theorem d_TextReader_takeBehindAtom_1 : decode prog_11_method_10_code 1 = .ok (.iload_n 1, 1) := by decide +kernel
theorem d_TextReader_takeBehindAtom_2 : decode prog_11_method_10_code 2 = .ok (.invokevirtual 135, 3) := by decide +kernel
theorem d_TextReader_takeBehindAtom_5 : decode prog_11_method_10_code 5 = .ok (.istore_n 2, 1) := by decide +kernel
theorem d_TextReader_takeBehindAtom_6 : decode prog_11_method_10_code 6 = .ok (.iload_n 2, 1) := by decide +kernel
theorem d_TextReader_takeBehindAtom_7 : decode prog_11_method_10_code 7 = .ok (.iconst (-1), 1) := by decide +kernel
theorem d_TextReader_takeBehindAtom_8 : decode prog_11_method_10_code 8 = .ok (.if_icmp .eq 27, 3) := by decide +kernel
theorem d_TextReader_takeBehindAtom_35 : decode prog_11_method_10_code 35 = .ok (.aload_n 0, 1) := by decide +kernel
theorem d_TextReader_takeBehindAtom_36 : decode prog_11_method_10_code 36 = .ok (.getfield 37, 3) := by decide +kernel
theorem d_TextReader_takeBehindAtom_39 : decode prog_11_method_10_code 39 = .ok (.ifCond .le 29, 3) := by decide +kernel
theorem d_TextReader_takeBehindAtom_68 : decode prog_11_method_10_code 68 = .ok (.aload_n 0, 1) := by decide +kernel
theorem d_TextReader_takeBehindAtom_69 : decode prog_11_method_10_code 69 = .ok (.iconst 1, 1) := by decide +kernel
theorem d_TextReader_takeBehindAtom_70 : decode prog_11_method_10_code 70 = .ok (.invokevirtual 141, 3) := by decide +kernel
theorem d_TextReader_takeBehindAtom_73 : decode prog_11_method_10_code 73 = .ok (.aload_n 0, 1) := by decide +kernel
theorem d_TextReader_takeBehindAtom_74 : decode prog_11_method_10_code 74 = .ok (.getfield 40, 3) := by decide +kernel
theorem d_TextReader_takeBehindAtom_77 : decode prog_11_method_10_code 77 = .ok (.iconst (-1), 1) := by decide +kernel
theorem d_TextReader_takeBehindAtom_78 : decode prog_11_method_10_code 78 = .ok (.if_icmp .ne 31, 3) := by decide +kernel
theorem d_TextReader_takeBehindAtom_109 : decode prog_11_method_10_code 109 = .ok (.aload_n 0, 1) := by decide +kernel
theorem d_TextReader_takeBehindAtom_110 : decode prog_11_method_10_code 110 = .ok (.getfield 32, 3) := by decide +kernel
theorem d_TextReader_takeBehindAtom_113 : decode prog_11_method_10_code 113 = .ok (.aload_n 0, 1) := by decide +kernel
theorem d_TextReader_takeBehindAtom_114 : decode prog_11_method_10_code 114 = .ok (.getfield 40, 3) := by decide +kernel
theorem d_TextReader_takeBehindAtom_117 : decode prog_11_method_10_code 117 = .ok (.iconst (-1), 1) := by decide +kernel
theorem d_TextReader_takeBehindAtom_118 : decode prog_11_method_10_code 118 = .ok (.invokevirtual 116, 3) := by decide +kernel
theorem d_TextReader_takeBehindAtom_121 : decode prog_11_method_10_code 121 = .ok (.aload_n 0, 1) := by decide +kernel
theorem d_TextReader_takeBehindAtom_122 : decode prog_11_method_10_code 122 = .ok (.iconst (-1), 1) := by decide +kernel
theorem d_TextReader_takeBehindAtom_123 : decode prog_11_method_10_code 123 = .ok (.putfield 40, 3) := by decide +kernel
theorem d_TextReader_takeBehindAtom_126 : decode prog_11_method_10_code 126 = .ok (.aload_n 0, 1) := by decide +kernel
theorem d_TextReader_takeBehindAtom_127 : decode prog_11_method_10_code 127 = .ok (.getfield 28, 3) := by decide +kernel
theorem d_TextReader_takeBehindAtom_130 : decode prog_11_method_10_code 130 = .ok (.iload_n 1, 1) := by decide +kernel
theorem d_TextReader_takeBehindAtom_131 : decode prog_11_method_10_code 131 = .ok (.ldc 153, 2) := by decide +kernel
theorem d_TextReader_takeBehindAtom_133 : decode prog_11_method_10_code 133 = .ok (.invokevirtual 83, 3) := by decide +kernel
theorem d_TextReader_takeBehindAtom_136 : decode prog_11_method_10_code 136 = .ok (.ifCond .eq 10, 3) := by decide +kernel
theorem d_TextReader_takeBehindAtom_146 : decode prog_11_method_10_code 146 = .ok (.aload_n 0, 1) := by decide +kernel
theorem d_TextReader_takeBehindAtom_147 : decode prog_11_method_10_code 147 = .ok (.getfield 43, 3) := by decide +kernel
theorem d_TextReader_takeBehindAtom_150 : decode prog_11_method_10_code 150 = .ok (.ifCond .eq 11, 3) := by decide +kernel
theorem d_TextReader_takeBehindAtom_161 : decode prog_11_method_10_code 161 = .ok (.aload_n 0, 1) := by decide +kernel
theorem d_TextReader_takeBehindAtom_162 : decode prog_11_method_10_code 162 = .ok (.iload_n 1, 1) := by decide +kernel
theorem d_TextReader_takeBehindAtom_163 : decode prog_11_method_10_code 163 = .ok (.invokevirtual 158, 3) := by decide +kernel
theorem d_TextReader_takeBehindAtom_166 : decode prog_11_method_10_code 166 = .ok (.ireturn, 1) := by decide +kernel
theorem d_TextReader_takeBehindAtom_153 : decode prog_11_method_10_code 153 = .ok (.aload_n 0, 1) := by decide +kernel
theorem d_TextReader_takeBehindAtom_154 : decode prog_11_method_10_code 154 = .ok (.iload_n 1, 1) := by decide +kernel
theorem d_TextReader_takeBehindAtom_155 : decode prog_11_method_10_code 155 = .ok (.invokevirtual 155, 3) := by decide +kernel
theorem d_TextReader_takeBehindAtom_158 : decode prog_11_method_10_code 158 = .ok (.goto 8, 3) := by decide +kernel
theorem d_TextReader_takeBehindAtom_139 : decode prog_11_method_10_code 139 = .ok (.aload_n 0, 1) := by decide +kernel
theorem d_TextReader_takeBehindAtom_140 : decode prog_11_method_10_code 140 = .ok (.iconst 2, 1) := by decide +kernel
theorem d_TextReader_takeBehindAtom_141 : decode prog_11_method_10_code 141 = .ok (.putfield 33, 3) := by decide +kernel
theorem d_TextReader_takeBehindAtom_144 : decode prog_11_method_10_code 144 = .ok (.iconst 1, 1) := by decide +kernel
theorem d_TextReader_takeBehindAtom_145 : decode prog_11_method_10_code 145 = .ok (.ireturn, 1) := by decide +kernel
theorem d_TextReader_takeBehindAtom_81 : decode prog_11_method_10_code 81 = .ok (.aload_n 0, 1) := by decide +kernel
theorem d_TextReader_takeBehindAtom_82 : decode prog_11_method_10_code 82 = .ok (.aload_n 0, 1) := by decide +kernel
theorem d_TextReader_takeBehindAtom_83 : decode prog_11_method_10_code 83 = .ok (.iload_n 1, 1) := by decide +kernel
theorem d_TextReader_takeBehindAtom_84 : decode prog_11_method_10_code 84 = .ok (.invokevirtual 150, 3) := by decide +kernel
theorem d_TextReader_takeBehindAtom_87 : decode prog_11_method_10_code 87 = .ok (.putfield 40, 3) := by decide +kernel
theorem d_TextReader_takeBehindAtom_90 : decode prog_11_method_10_code 90 = .ok (.aload_n 0, 1) := by decide +kernel
theorem d_TextReader_takeBehindAtom_91 : decode prog_11_method_10_code 91 = .ok (.iconst 2, 1) := by decide +kernel
theorem d_TextReader_takeBehindAtom_92 : decode prog_11_method_10_code 92 = .ok (.putfield 33, 3) := by decide +kernel
theorem d_TextReader_takeBehindAtom_95 : decode prog_11_method_10_code 95 = .ok (.aload_n 0, 1) := by decide +kernel
theorem d_TextReader_takeBehindAtom_96 : decode prog_11_method_10_code 96 = .ok (.getfield 40, 3) := by decide +kernel
theorem d_TextReader_takeBehindAtom_99 : decode prog_11_method_10_code 99 = .ok (.iconst (-1), 1) := by decide +kernel
theorem d_TextReader_takeBehindAtom_100 : decode prog_11_method_10_code 100 = .ok (.if_icmp .eq 7, 3) := by decide +kernel
theorem d_TextReader_takeBehindAtom_107 : decode prog_11_method_10_code 107 = .ok (.iconst 0, 1) := by decide +kernel
theorem d_TextReader_takeBehindAtom_108 : decode prog_11_method_10_code 108 = .ok (.ireturn, 1) := by decide +kernel
theorem d_TextReader_takeBehindAtom_103 : decode prog_11_method_10_code 103 = .ok (.iconst 1, 1) := by decide +kernel
theorem d_TextReader_takeBehindAtom_104 : decode prog_11_method_10_code 104 = .ok (.goto 4, 3) := by decide +kernel
theorem d_TextReader_takeBehindAtom_42 : decode prog_11_method_10_code 42 = .ok (.aload_n 0, 1) := by decide +kernel
theorem d_TextReader_takeBehindAtom_43 : decode prog_11_method_10_code 43 = .ok (.getfield 28, 3) := by decide +kernel
theorem d_TextReader_takeBehindAtom_46 : decode prog_11_method_10_code 46 = .ok (.iload_n 1, 1) := by decide +kernel
theorem d_TextReader_takeBehindAtom_47 : decode prog_11_method_10_code 47 = .ok (.ldc 145, 2) := by decide +kernel
theorem d_TextReader_takeBehindAtom_49 : decode prog_11_method_10_code 49 = .ok (.invokevirtual 83, 3) := by decide +kernel
theorem d_TextReader_takeBehindAtom_52 : decode prog_11_method_10_code 52 = .ok (.ifCond .eq 14, 3) := by decide +kernel
theorem d_TextReader_takeBehindAtom_66 : decode prog_11_method_10_code 66 = .ok (.iconst 0, 1) := by decide +kernel
theorem d_TextReader_takeBehindAtom_67 : decode prog_11_method_10_code 67 = .ok (.ireturn, 1) := by decide +kernel
theorem d_TextReader_takeBehindAtom_55 : decode prog_11_method_10_code 55 = .ok (.aload_n 0, 1) := by decide +kernel
theorem d_TextReader_takeBehindAtom_56 : decode prog_11_method_10_code 56 = .ok (.invokevirtual 147, 3) := by decide +kernel
theorem d_TextReader_takeBehindAtom_59 : decode prog_11_method_10_code 59 = .ok (.ifCond .eq 7, 3) := by decide +kernel
theorem d_TextReader_takeBehindAtom_62 : decode prog_11_method_10_code 62 = .ok (.iconst 1, 1) := by decide +kernel
theorem d_TextReader_takeBehindAtom_63 : decode prog_11_method_10_code 63 = .ok (.goto 4, 3) := by decide +kernel
theorem d_TextReader_takeBehindAtom_11 : decode prog_11_method_10_code 11 = .ok (.aload_n 0, 1) := by decide +kernel
theorem d_TextReader_takeBehindAtom_12 : decode prog_11_method_10_code 12 = .ok (.iload_n 2, 1) := by decide +kernel
theorem d_TextReader_takeBehindAtom_13 : decode prog_11_method_10_code 13 = .ok (.invokestatic 138, 3) := by decide +kernel
theorem d_TextReader_takeBehindAtom_16 : decode prog_11_method_10_code 16 = .ok (.invokevirtual 141, 3) := by decide +kernel
theorem d_TextReader_takeBehindAtom_19 : decode prog_11_method_10_code 19 = .ok (.aload_n 0, 1) := by decide +kernel
theorem d_TextReader_takeBehindAtom_20 : decode prog_11_method_10_code 20 = .ok (.getfield 12, 3) := by decide +kernel
theorem d_TextReader_takeBehindAtom_23 : decode prog_11_method_10_code 23 = .ok (.iload_n 2, 1) := by decide +kernel
theorem d_TextReader_takeBehindAtom_24 : decode prog_11_method_10_code 24 = .ok (.iconst (-1), 1) := by decide +kernel
theorem d_TextReader_takeBehindAtom_25 : decode prog_11_method_10_code 25 = .ok (.invokevirtual 116, 3) := by decide +kernel
theorem d_TextReader_takeBehindAtom_28 : decode prog_11_method_10_code 28 = .ok (.aload_n 0, 1) := by decide +kernel
theorem d_TextReader_takeBehindAtom_29 : decode prog_11_method_10_code 29 = .ok (.iconst 2, 1) := by decide +kernel
theorem d_TextReader_takeBehindAtom_30 : decode prog_11_method_10_code 30 = .ok (.putfield 33, 3) := by decide +kernel
theorem d_TextReader_takeBehindAtom_33 : decode prog_11_method_10_code 33 = .ok (.iconst 1, 1) := by decide +kernel
theorem d_TextReader_takeBehindAtom_34 : decode prog_11_method_10_code 34 = .ok (.ireturn, 1) := by decide +kernel
theorem d_TextReader_takeTableName_0 : decode prog_11_method_9_code 0 = .ok (.aload_n 0, 1) := by decide +kernel
theorem d_TextReader_takeTableName_1 : decode prog_11_method_9_code 1 = .ok (.getfield 28, 3) := by decide +kernel
theorem d_TextReader_takeTableName_4 : decode prog_11_method_9_code 4 = .ok (.iload_n 1, 1) := by decide +kernel
theorem d_TextReader_takeTableName_5 : decode prog_11_method_9_code 5 = .ok (.invokevirtual 109, 3) := by decide +kernel
theorem d_TextReader_takeTableName_8 : decode prog_11_method_9_code 8 = .ok (.istore_n 2, 1) := by decide +kernel
theorem d_TextReader_takeTableName_9 : decode prog_11_method_9_code 9 = .ok (.iload_n 2, 1) := by decide +kernel
theorem d_TextReader_takeTableName_10 : decode prog_11_method_9_code 10 = .ok (.ifCond .lt 17, 3) := by decide +kernel
theorem d_TextReader_takeTableName_27 : decode prog_11_method_9_code 27 = .ok (.iconst 0, 1) := by decide +kernel
theorem d_TextReader_takeTableName_28 : decode prog_11_method_9_code 28 = .ok (.ireturn, 1) := by decide +kernel
theorem d_TextReader_takeTableName_13 : decode prog_11_method_9_code 13 = .ok (.iload_n 2, 1) := by decide +kernel
theorem d_TextReader_takeTableName_14 : decode prog_11_method_9_code 14 = .ok (.aload_n 0, 1) := by decide +kernel
theorem d_TextReader_takeTableName_15 : decode prog_11_method_9_code 15 = .ok (.getfield 18, 3) := by decide +kernel
theorem d_TextReader_takeTableName_18 : decode prog_11_method_9_code 18 = .ok (.getfield 87, 3) := by decide +kernel
theorem d_TextReader_takeTableName_21 : decode prog_11_method_9_code 21 = .ok (.getfield 134, 3) := by decide +kernel
theorem d_TextReader_takeTableName_24 : decode prog_11_method_9_code 24 = .ok (.if_icmp .lt 5, 3) := by decide +kernel
theorem d_TextReader_takeTableName_29 : decode prog_11_method_9_code 29 = .ok (.aload_n 0, 1) := by decide +kernel
theorem d_TextReader_takeTableName_30 : decode prog_11_method_9_code 30 = .ok (.iconst 2, 1) := by decide +kernel
theorem d_TextReader_takeTableName_31 : decode prog_11_method_9_code 31 = .ok (.iload_n 2, 1) := by decide +kernel
theorem d_TextReader_takeTableName_32 : decode prog_11_method_9_code 32 = .ok (.invokevirtual 129, 3) := by decide +kernel
theorem d_TextReader_takeTableName_35 : decode prog_11_method_9_code 35 = .ok (.iconst 1, 1) := by decide +kernel
theorem d_TextReader_takeTableName_36 : decode prog_11_method_9_code 36 = .ok (.ireturn, 1) := by decide +kernel
theorem d_TextReader_takeFactName_0 : decode prog_11_method_8_code 0 = .ok (.aload_n 0, 1) := by decide +kernel
theorem d_TextReader_takeFactName_1 : decode prog_11_method_8_code 1 = .ok (.getfield 28, 3) := by decide +kernel
theorem d_TextReader_takeFactName_4 : decode prog_11_method_8_code 4 = .ok (.iload_n 1, 1) := by decide +kernel
theorem d_TextReader_takeFactName_5 : decode prog_11_method_8_code 5 = .ok (.invokevirtual 109, 3) := by decide +kernel
theorem d_TextReader_takeFactName_8 : decode prog_11_method_8_code 8 = .ok (.istore_n 2, 1) := by decide +kernel
theorem d_TextReader_takeFactName_9 : decode prog_11_method_8_code 9 = .ok (.iload_n 2, 1) := by decide +kernel
theorem d_TextReader_takeFactName_10 : decode prog_11_method_8_code 10 = .ok (.ifCond .lt 9, 3) := by decide +kernel
theorem d_TextReader_takeFactName_19 : decode prog_11_method_8_code 19 = .ok (.iconst 0, 1) := by decide +kernel
theorem d_TextReader_takeFactName_20 : decode prog_11_method_8_code 20 = .ok (.ireturn, 1) := by decide +kernel
theorem d_TextReader_takeFactName_13 : decode prog_11_method_8_code 13 = .ok (.iload_n 2, 1) := by decide +kernel
theorem d_TextReader_takeFactName_14 : decode prog_11_method_8_code 14 = .ok (.bipush 20, 2) := by decide +kernel
theorem d_TextReader_takeFactName_16 : decode prog_11_method_8_code 16 = .ok (.if_icmp .lt 5, 3) := by decide +kernel
theorem d_TextReader_takeFactName_21 : decode prog_11_method_8_code 21 = .ok (.aload_n 0, 1) := by decide +kernel
theorem d_TextReader_takeFactName_22 : decode prog_11_method_8_code 22 = .ok (.getfield 32, 3) := by decide +kernel
theorem d_TextReader_takeFactName_25 : decode prog_11_method_8_code 25 = .ok (.iconst 1, 1) := by decide +kernel
theorem d_TextReader_takeFactName_26 : decode prog_11_method_8_code 26 = .ok (.iload_n 2, 1) := by decide +kernel
theorem d_TextReader_takeFactName_27 : decode prog_11_method_8_code 27 = .ok (.invokevirtual 116, 3) := by decide +kernel
theorem d_TextReader_takeFactName_30 : decode prog_11_method_8_code 30 = .ok (.aload_n 0, 1) := by decide +kernel
theorem d_TextReader_takeFactName_31 : decode prog_11_method_8_code 31 = .ok (.invokevirtual 120, 3) := by decide +kernel
theorem d_TextReader_takeFactName_34 : decode prog_11_method_8_code 34 = .ok (.iconst 1, 1) := by decide +kernel
theorem d_TextReader_takeFactName_35 : decode prog_11_method_8_code 35 = .ok (.ireturn, 1) := by decide +kernel
theorem d_TextReader_takeAtom_0 : decode prog_11_method_7_code 0 = .ok (.aload_n 0, 1) := by decide +kernel
theorem d_TextReader_takeAtom_1 : decode prog_11_method_7_code 1 = .ok (.getfield 37, 3) := by decide +kernel
theorem d_TextReader_takeAtom_4 : decode prog_11_method_7_code 4 = .ok (.bipush 12, 2) := by decide +kernel
theorem d_TextReader_takeAtom_6 : decode prog_11_method_7_code 6 = .ok (.if_icmp .le 5, 3) := by decide +kernel
theorem d_TextReader_takeAtom_11 : decode prog_11_method_7_code 11 = .ok (.aload_n 0, 1) := by decide +kernel
theorem d_TextReader_takeAtom_12 : decode prog_11_method_7_code 12 = .ok (.getfield 28, 3) := by decide +kernel
theorem d_TextReader_takeAtom_15 : decode prog_11_method_7_code 15 = .ok (.iload_n 1, 1) := by decide +kernel
theorem d_TextReader_takeAtom_16 : decode prog_11_method_7_code 16 = .ok (.invokevirtual 109, 3) := by decide +kernel
theorem d_TextReader_takeAtom_19 : decode prog_11_method_7_code 19 = .ok (.istore_n 2, 1) := by decide +kernel
theorem d_TextReader_takeAtom_20 : decode prog_11_method_7_code 20 = .ok (.iload_n 2, 1) := by decide +kernel
theorem d_TextReader_takeAtom_21 : decode prog_11_method_7_code 21 = .ok (.iconst (-1), 1) := by decide +kernel
theorem d_TextReader_takeAtom_22 : decode prog_11_method_7_code 22 = .ok (.if_icmp .eq 18, 3) := by decide +kernel
theorem d_TextReader_takeAtom_40 : decode prog_11_method_7_code 40 = .ok (.aload_n 0, 1) := by decide +kernel
theorem d_TextReader_takeAtom_41 : decode prog_11_method_7_code 41 = .ok (.getfield 28, 3) := by decide +kernel
theorem d_TextReader_takeAtom_44 : decode prog_11_method_7_code 44 = .ok (.iload_n 1, 1) := by decide +kernel
theorem d_TextReader_takeAtom_45 : decode prog_11_method_7_code 45 = .ok (.ldc 123, 2) := by decide +kernel
theorem d_TextReader_takeAtom_47 : decode prog_11_method_7_code 47 = .ok (.invokevirtual 83, 3) := by decide +kernel
theorem d_TextReader_takeAtom_50 : decode prog_11_method_7_code 50 = .ok (.ifCond .eq 10, 3) := by decide +kernel
theorem d_TextReader_takeAtom_60 : decode prog_11_method_7_code 60 = .ok (.aload_n 0, 1) := by decide +kernel
theorem d_TextReader_takeAtom_61 : decode prog_11_method_7_code 61 = .ok (.getfield 28, 3) := by decide +kernel
theorem d_TextReader_takeAtom_64 : decode prog_11_method_7_code 64 = .ok (.iload_n 1, 1) := by decide +kernel
theorem d_TextReader_takeAtom_65 : decode prog_11_method_7_code 65 = .ok (.ldc 125, 2) := by decide +kernel
theorem d_TextReader_takeAtom_67 : decode prog_11_method_7_code 67 = .ok (.invokevirtual 83, 3) := by decide +kernel
theorem d_TextReader_takeAtom_70 : decode prog_11_method_7_code 70 = .ok (.ifCond .eq 10, 3) := by decide +kernel
theorem d_TextReader_takeAtom_80 : decode prog_11_method_7_code 80 = .ok (.aload_n 0, 1) := by decide +kernel
theorem d_TextReader_takeAtom_81 : decode prog_11_method_7_code 81 = .ok (.getfield 28, 3) := by decide +kernel
theorem d_TextReader_takeAtom_84 : decode prog_11_method_7_code 84 = .ok (.iload_n 1, 1) := by decide +kernel
theorem d_TextReader_takeAtom_85 : decode prog_11_method_7_code 85 = .ok (.ldc 127, 2) := by decide +kernel
theorem d_TextReader_takeAtom_87 : decode prog_11_method_7_code 87 = .ok (.invokevirtual 83, 3) := by decide +kernel
theorem d_TextReader_takeAtom_90 : decode prog_11_method_7_code 90 = .ok (.ifCond .eq 11, 3) := by decide +kernel
theorem d_TextReader_takeAtom_101 : decode prog_11_method_7_code 101 = .ok (.iconst 0, 1) := by decide +kernel
theorem d_TextReader_takeAtom_102 : decode prog_11_method_7_code 102 = .ok (.ireturn, 1) := by decide +kernel
theorem d_TextReader_takeAtom_93 : decode prog_11_method_7_code 93 = .ok (.aload_n 0, 1) := by decide +kernel
theorem d_TextReader_takeAtom_94 : decode prog_11_method_7_code 94 = .ok (.iconst 3, 1) := by decide +kernel
theorem d_TextReader_takeAtom_95 : decode prog_11_method_7_code 95 = .ok (.iconst (-1), 1) := by decide +kernel
theorem d_TextReader_takeAtom_96 : decode prog_11_method_7_code 96 = .ok (.invokevirtual 129, 3) := by decide +kernel
theorem d_TextReader_takeAtom_99 : decode prog_11_method_7_code 99 = .ok (.iconst 1, 1) := by decide +kernel
theorem d_TextReader_takeAtom_100 : decode prog_11_method_7_code 100 = .ok (.ireturn, 1) := by decide +kernel
theorem d_TextReader_takeAtom_73 : decode prog_11_method_7_code 73 = .ok (.aload_n 0, 1) := by decide +kernel
theorem d_TextReader_takeAtom_74 : decode prog_11_method_7_code 74 = .ok (.iconst 4, 1) := by decide +kernel
theorem d_TextReader_takeAtom_75 : decode prog_11_method_7_code 75 = .ok (.putfield 33, 3) := by decide +kernel
theorem d_TextReader_takeAtom_78 : decode prog_11_method_7_code 78 = .ok (.iconst 1, 1) := by decide +kernel
theorem d_TextReader_takeAtom_79 : decode prog_11_method_7_code 79 = .ok (.ireturn, 1) := by decide +kernel
theorem d_TextReader_takeAtom_53 : decode prog_11_method_7_code 53 = .ok (.aload_n 0, 1) := by decide +kernel
theorem d_TextReader_takeAtom_54 : decode prog_11_method_7_code 54 = .ok (.iconst 3, 1) := by decide +kernel
theorem d_TextReader_takeAtom_55 : decode prog_11_method_7_code 55 = .ok (.putfield 33, 3) := by decide +kernel
theorem d_TextReader_takeAtom_58 : decode prog_11_method_7_code 58 = .ok (.iconst 1, 1) := by decide +kernel
theorem d_TextReader_takeAtom_59 : decode prog_11_method_7_code 59 = .ok (.ireturn, 1) := by decide +kernel
theorem d_TextReader_takeAtom_25 : decode prog_11_method_7_code 25 = .ok (.aload_n 0, 1) := by decide +kernel
theorem d_TextReader_takeAtom_26 : decode prog_11_method_7_code 26 = .ok (.getfield 32, 3) := by decide +kernel
theorem d_TextReader_takeAtom_29 : decode prog_11_method_7_code 29 = .ok (.iconst 0, 1) := by decide +kernel
theorem d_TextReader_takeAtom_30 : decode prog_11_method_7_code 30 = .ok (.iload_n 2, 1) := by decide +kernel
theorem d_TextReader_takeAtom_31 : decode prog_11_method_7_code 31 = .ok (.invokevirtual 116, 3) := by decide +kernel
theorem d_TextReader_takeAtom_34 : decode prog_11_method_7_code 34 = .ok (.aload_n 0, 1) := by decide +kernel
theorem d_TextReader_takeAtom_35 : decode prog_11_method_7_code 35 = .ok (.invokevirtual 120, 3) := by decide +kernel
theorem d_TextReader_takeAtom_38 : decode prog_11_method_7_code 38 = .ok (.iconst 1, 1) := by decide +kernel
theorem d_TextReader_takeAtom_39 : decode prog_11_method_7_code 39 = .ok (.ireturn, 1) := by decide +kernel
theorem d_TextReader_takeAtom_9 : decode prog_11_method_7_code 9 = .ok (.iconst 0, 1) := by decide +kernel
theorem d_TextReader_takeAtom_10 : decode prog_11_method_7_code 10 = .ok (.ireturn, 1) := by decide +kernel
theorem d_TextReader_takeTableNumber_0 : decode prog_11_method_6_code 0 = .ok (.aload_n 0, 1) := by decide +kernel
theorem d_TextReader_takeTableNumber_1 : decode prog_11_method_6_code 1 = .ok (.getfield 28, 3) := by decide +kernel
theorem d_TextReader_takeTableNumber_4 : decode prog_11_method_6_code 4 = .ok (.iload_n 1, 1) := by decide +kernel
theorem d_TextReader_takeTableNumber_5 : decode prog_11_method_6_code 5 = .ok (.ldc 103, 2) := by decide +kernel
theorem d_TextReader_takeTableNumber_7 : decode prog_11_method_6_code 7 = .ok (.invokevirtual 83, 3) := by decide +kernel
theorem d_TextReader_takeTableNumber_10 : decode prog_11_method_6_code 10 = .ok (.ifCond .eq 27, 3) := by decide +kernel
theorem d_TextReader_takeTableNumber_37 : decode prog_11_method_6_code 37 = .ok (.aload_n 0, 1) := by decide +kernel
theorem d_TextReader_takeTableNumber_38 : decode prog_11_method_6_code 38 = .ok (.getfield 28, 3) := by decide +kernel
theorem d_TextReader_takeTableNumber_41 : decode prog_11_method_6_code 41 = .ok (.iload_n 1, 1) := by decide +kernel
theorem d_TextReader_takeTableNumber_42 : decode prog_11_method_6_code 42 = .ok (.invokevirtual 109, 3) := by decide +kernel
theorem d_TextReader_takeTableNumber_45 : decode prog_11_method_6_code 45 = .ok (.istore_n 2, 1) := by decide +kernel
theorem d_TextReader_takeTableNumber_46 : decode prog_11_method_6_code 46 = .ok (.iload_n 2, 1) := by decide +kernel
theorem d_TextReader_takeTableNumber_47 : decode prog_11_method_6_code 47 = .ok (.iconst (-1), 1) := by decide +kernel
theorem d_TextReader_takeTableNumber_48 : decode prog_11_method_6_code 48 = .ok (.if_icmp .eq 21, 3) := by decide +kernel
theorem d_TextReader_takeTableNumber_69 : decode prog_11_method_6_code 69 = .ok (.iconst 0, 1) := by decide +kernel
theorem d_TextReader_takeTableNumber_70 : decode prog_11_method_6_code 70 = .ok (.ireturn, 1) := by decide +kernel
theorem d_TextReader_takeTableNumber_51 : decode prog_11_method_6_code 51 = .ok (.aload_n 0, 1) := by decide +kernel
theorem d_TextReader_takeTableNumber_52 : decode prog_11_method_6_code 52 = .ok (.getfield 18, 3) := by decide +kernel
theorem d_TextReader_takeTableNumber_55 : decode prog_11_method_6_code 55 = .ok (.getfield 87, 3) := by decide +kernel
theorem d_TextReader_takeTableNumber_58 : decode prog_11_method_6_code 58 = .ok (.iload_n 2, 1) := by decide +kernel
theorem d_TextReader_takeTableNumber_59 : decode prog_11_method_6_code 59 = .ok (.invokevirtual 113, 3) := by decide +kernel
theorem d_TextReader_takeTableNumber_62 : decode prog_11_method_6_code 62 = .ok (.ifCond .eq 7, 3) := by decide +kernel
theorem d_TextReader_takeTableNumber_65 : decode prog_11_method_6_code 65 = .ok (.iconst 1, 1) := by decide +kernel
theorem d_TextReader_takeTableNumber_66 : decode prog_11_method_6_code 66 = .ok (.goto 4, 3) := by decide +kernel
theorem d_TextReader_takeTableNumber_13 : decode prog_11_method_6_code 13 = .ok (.aload_n 0, 1) := by decide +kernel
theorem d_TextReader_takeTableNumber_14 : decode prog_11_method_6_code 14 = .ok (.iconst 0, 1) := by decide +kernel
theorem d_TextReader_takeTableNumber_15 : decode prog_11_method_6_code 15 = .ok (.putfield 33, 3) := by decide +kernel
theorem d_TextReader_takeTableNumber_18 : decode prog_11_method_6_code 18 = .ok (.aload_n 0, 1) := by decide +kernel
theorem d_TextReader_takeTableNumber_19 : decode prog_11_method_6_code 19 = .ok (.getfield 18, 3) := by decide +kernel
theorem d_TextReader_takeTableNumber_22 : decode prog_11_method_6_code 22 = .ok (.getfield 87, 3) := by decide +kernel
theorem d_TextReader_takeTableNumber_25 : decode prog_11_method_6_code 25 = .ok (.invokevirtual 105, 3) := by decide +kernel
theorem d_TextReader_takeTableNumber_28 : decode prog_11_method_6_code 28 = .ok (.ifCond .le 7, 3) := by decide +kernel
theorem d_TextReader_takeTableNumber_35 : decode prog_11_method_6_code 35 = .ok (.iconst 0, 1) := by decide +kernel
theorem d_TextReader_takeTableNumber_36 : decode prog_11_method_6_code 36 = .ok (.ireturn, 1) := by decide +kernel
theorem d_TextReader_takeTableNumber_31 : decode prog_11_method_6_code 31 = .ok (.iconst 1, 1) := by decide +kernel
theorem d_TextReader_takeTableNumber_32 : decode prog_11_method_6_code 32 = .ok (.goto 4, 3) := by decide +kernel
theorem d_TextReader_takeItem_68 : decode prog_11_method_5_code 68 = .ok (.aload_n 0, 1) := by decide +kernel
theorem d_TextReader_takeItem_69 : decode prog_11_method_5_code 69 = .ok (.getfield 18, 3) := by decide +kernel
theorem d_TextReader_takeItem_72 : decode prog_11_method_5_code 72 = .ok (.iload_n 1, 1) := by decide +kernel
theorem d_TextReader_takeItem_73 : decode prog_11_method_5_code 73 = .ok (.invokevirtual 100, 3) := by decide +kernel
theorem d_TextReader_takeItem_76 : decode prog_11_method_5_code 76 = .ok (.ifCond .eq 7, 3) := by decide +kernel
theorem d_TextReader_takeItem_83 : decode prog_11_method_5_code 83 = .ok (.iconst 0, 1) := by decide +kernel
theorem d_TextReader_takeItem_84 : decode prog_11_method_5_code 84 = .ok (.ireturn, 1) := by decide +kernel
theorem d_TextReader_takeItem_79 : decode prog_11_method_5_code 79 = .ok (.iconst 1, 1) := by decide +kernel
theorem d_TextReader_takeItem_80 : decode prog_11_method_5_code 80 = .ok (.goto 4, 3) := by decide +kernel
theorem d_TextReader_takeItem_0 : decode prog_11_method_5_code 0 = .ok (.aload_n 0, 1) := by decide +kernel
theorem d_TextReader_takeItem_1 : decode prog_11_method_5_code 1 = .ok (.getfield 28, 3) := by decide +kernel
theorem d_TextReader_takeItem_4 : decode prog_11_method_5_code 4 = .ok (.iload_n 1, 1) := by decide +kernel
theorem d_TextReader_takeItem_5 : decode prog_11_method_5_code 5 = .ok (.ldc 81, 2) := by decide +kernel
theorem d_TextReader_takeItem_7 : decode prog_11_method_5_code 7 = .ok (.invokevirtual 83, 3) := by decide +kernel
theorem d_TextReader_takeItem_10 : decode prog_11_method_5_code 10 = .ok (.ifCond .eq 19, 3) := by decide +kernel
theorem d_TextReader_takeItem_29 : decode prog_11_method_5_code 29 = .ok (.aload_n 0, 1) := by decide +kernel
theorem d_TextReader_takeItem_30 : decode prog_11_method_5_code 30 = .ok (.aload_n 0, 1) := by decide +kernel
theorem d_TextReader_takeItem_31 : decode prog_11_method_5_code 31 = .ok (.getfield 28, 3) := by decide +kernel
theorem d_TextReader_takeItem_34 : decode prog_11_method_5_code 34 = .ok (.iload_n 1, 1) := by decide +kernel
theorem d_TextReader_takeItem_35 : decode prog_11_method_5_code 35 = .ok (.ldc 96, 2) := by decide +kernel
theorem d_TextReader_takeItem_37 : decode prog_11_method_5_code 37 = .ok (.invokevirtual 83, 3) := by decide +kernel
theorem d_TextReader_takeItem_40 : decode prog_11_method_5_code 40 = .ok (.putfield 43, 3) := by decide +kernel
theorem d_TextReader_takeItem_43 : decode prog_11_method_5_code 43 = .ok (.aload_n 0, 1) := by decide +kernel
theorem d_TextReader_takeItem_44 : decode prog_11_method_5_code 44 = .ok (.iconst 2, 1) := by decide +kernel
theorem d_TextReader_takeItem_45 : decode prog_11_method_5_code 45 = .ok (.putfield 33, 3) := by decide +kernel
theorem d_TextReader_takeItem_48 : decode prog_11_method_5_code 48 = .ok (.aload_n 0, 1) := by decide +kernel
theorem d_TextReader_takeItem_49 : decode prog_11_method_5_code 49 = .ok (.getfield 43, 3) := by decide +kernel
theorem d_TextReader_takeItem_52 : decode prog_11_method_5_code 52 = .ok (.ifCond .ne 16, 3) := by decide +kernel
theorem d_TextReader_takeItem_55 : decode prog_11_method_5_code 55 = .ok (.aload_n 0, 1) := by decide +kernel
theorem d_TextReader_takeItem_56 : decode prog_11_method_5_code 56 = .ok (.getfield 28, 3) := by decide +kernel
theorem d_TextReader_takeItem_59 : decode prog_11_method_5_code 59 = .ok (.iload_n 1, 1) := by decide +kernel
theorem d_TextReader_takeItem_60 : decode prog_11_method_5_code 60 = .ok (.ldc 98, 2) := by decide +kernel
theorem d_TextReader_takeItem_62 : decode prog_11_method_5_code 62 = .ok (.invokevirtual 83, 3) := by decide +kernel
theorem d_TextReader_takeItem_65 : decode prog_11_method_5_code 65 = .ok (.ifCond .eq 18, 3) := by decide +kernel
theorem d_TextReader_takeItem_13 : decode prog_11_method_5_code 13 = .ok (.aload_n 0, 1) := by decide +kernel
theorem d_TextReader_takeItem_14 : decode prog_11_method_5_code 14 = .ok (.iconst 1, 1) := by decide +kernel
theorem d_TextReader_takeItem_15 : decode prog_11_method_5_code 15 = .ok (.putfield 33, 3) := by decide +kernel
theorem d_TextReader_takeItem_18 : decode prog_11_method_5_code 18 = .ok (.aload_n 0, 1) := by decide +kernel
theorem d_TextReader_takeItem_19 : decode prog_11_method_5_code 19 = .ok (.getfield 18, 3) := by decide +kernel
theorem d_TextReader_takeItem_22 : decode prog_11_method_5_code 22 = .ok (.getfield 87, 3) := by decide +kernel
theorem d_TextReader_takeItem_25 : decode prog_11_method_5_code 25 = .ok (.invokevirtual 91, 3) := by decide +kernel
theorem d_TextReader_takeItem_28 : decode prog_11_method_5_code 28 = .ok (.ireturn, 1) := by decide +kernel
theorem d_TextReader_take_0 : decode prog_11_method_4_code 0 = .ok (.aload_n 0, 1) := by decide +kernel
theorem d_TextReader_take_1 : decode prog_11_method_4_code 1 = .ok (.getfield 33, 3) := by decide +kernel
theorem d_TextReader_take_4 : decode prog_11_method_4_code 4 = .ok (.tableswitch 66 0 4 #[36, 42, 48, 54, 60], 36) := by decide +kernel
theorem d_TextReader_take_40 : decode prog_11_method_4_code 40 = .ok (.aload_n 0, 1) := by decide +kernel
theorem d_TextReader_take_41 : decode prog_11_method_4_code 41 = .ok (.iload_n 1, 1) := by decide +kernel
theorem d_TextReader_take_42 : decode prog_11_method_4_code 42 = .ok (.invokevirtual 63, 3) := by decide +kernel
theorem d_TextReader_take_45 : decode prog_11_method_4_code 45 = .ok (.ireturn, 1) := by decide +kernel
theorem d_TextReader_take_46 : decode prog_11_method_4_code 46 = .ok (.aload_n 0, 1) := by decide +kernel
theorem d_TextReader_take_47 : decode prog_11_method_4_code 47 = .ok (.iload_n 1, 1) := by decide +kernel
theorem d_TextReader_take_48 : decode prog_11_method_4_code 48 = .ok (.invokevirtual 66, 3) := by decide +kernel
theorem d_TextReader_take_51 : decode prog_11_method_4_code 51 = .ok (.ireturn, 1) := by decide +kernel
theorem d_TextReader_take_52 : decode prog_11_method_4_code 52 = .ok (.aload_n 0, 1) := by decide +kernel
theorem d_TextReader_take_53 : decode prog_11_method_4_code 53 = .ok (.iload_n 1, 1) := by decide +kernel
theorem d_TextReader_take_54 : decode prog_11_method_4_code 54 = .ok (.invokevirtual 69, 3) := by decide +kernel
theorem d_TextReader_take_57 : decode prog_11_method_4_code 57 = .ok (.ireturn, 1) := by decide +kernel
theorem d_TextReader_take_58 : decode prog_11_method_4_code 58 = .ok (.aload_n 0, 1) := by decide +kernel
theorem d_TextReader_take_59 : decode prog_11_method_4_code 59 = .ok (.iload_n 1, 1) := by decide +kernel
theorem d_TextReader_take_60 : decode prog_11_method_4_code 60 = .ok (.invokevirtual 72, 3) := by decide +kernel
theorem d_TextReader_take_63 : decode prog_11_method_4_code 63 = .ok (.ireturn, 1) := by decide +kernel
theorem d_TextReader_take_64 : decode prog_11_method_4_code 64 = .ok (.aload_n 0, 1) := by decide +kernel
theorem d_TextReader_take_65 : decode prog_11_method_4_code 65 = .ok (.iload_n 1, 1) := by decide +kernel
theorem d_TextReader_take_66 : decode prog_11_method_4_code 66 = .ok (.invokevirtual 75, 3) := by decide +kernel
theorem d_TextReader_take_69 : decode prog_11_method_4_code 69 = .ok (.ireturn, 1) := by decide +kernel
theorem d_TextReader_take_70 : decode prog_11_method_4_code 70 = .ok (.aload_n 0, 1) := by decide +kernel
theorem d_TextReader_take_71 : decode prog_11_method_4_code 71 = .ok (.iload_n 1, 1) := by decide +kernel
theorem d_TextReader_take_72 : decode prog_11_method_4_code 72 = .ok (.invokevirtual 78, 3) := by decide +kernel
theorem d_TextReader_take_75 : decode prog_11_method_4_code 75 = .ok (.ireturn, 1) := by decide +kernel
theorem d_TextReader_begin_0 : decode prog_11_method_3_code 0 = .ok (.aload_n 0, 1) := by decide +kernel
theorem d_TextReader_begin_1 : decode prog_11_method_3_code 1 = .ok (.aload_n 1, 1) := by decide +kernel
theorem d_TextReader_begin_2 : decode prog_11_method_3_code 2 = .ok (.putfield 18, 3) := by decide +kernel
theorem d_TextReader_begin_5 : decode prog_11_method_3_code 5 = .ok (.aload_n 0, 1) := by decide +kernel
theorem d_TextReader_begin_6 : decode prog_11_method_3_code 6 = .ok (.aload_n 1, 1) := by decide +kernel
theorem d_TextReader_begin_7 : decode prog_11_method_3_code 7 = .ok (.getfield 22, 3) := by decide +kernel
theorem d_TextReader_begin_10 : decode prog_11_method_3_code 10 = .ok (.putfield 28, 3) := by decide +kernel
theorem d_TextReader_begin_13 : decode prog_11_method_3_code 13 = .ok (.aload_n 0, 1) := by decide +kernel
theorem d_TextReader_begin_14 : decode prog_11_method_3_code 14 = .ok (.aload_n 1, 1) := by decide +kernel
theorem d_TextReader_begin_15 : decode prog_11_method_3_code 15 = .ok (.getfield 29, 3) := by decide +kernel
theorem d_TextReader_begin_18 : decode prog_11_method_3_code 18 = .ok (.putfield 32, 3) := by decide +kernel
theorem d_TextReader_begin_21 : decode prog_11_method_3_code 21 = .ok (.aload_n 0, 1) := by decide +kernel
theorem d_TextReader_begin_22 : decode prog_11_method_3_code 22 = .ok (.getfield 12, 3) := by decide +kernel
theorem d_TextReader_begin_25 : decode prog_11_method_3_code 25 = .ok (.invokevirtual 60, 3) := by decide +kernel
theorem d_TextReader_begin_28 : decode prog_11_method_3_code 28 = .ok (.aload_n 0, 1) := by decide +kernel
theorem d_TextReader_begin_29 : decode prog_11_method_3_code 29 = .ok (.iconst 0, 1) := by decide +kernel
theorem d_TextReader_begin_30 : decode prog_11_method_3_code 30 = .ok (.putfield 33, 3) := by decide +kernel
theorem d_TextReader_begin_33 : decode prog_11_method_3_code 33 = .ok (.aload_n 0, 1) := by decide +kernel
theorem d_TextReader_begin_34 : decode prog_11_method_3_code 34 = .ok (.iconst 0, 1) := by decide +kernel
theorem d_TextReader_begin_35 : decode prog_11_method_3_code 35 = .ok (.putfield 37, 3) := by decide +kernel
theorem d_TextReader_begin_38 : decode prog_11_method_3_code 38 = .ok (.aload_n 0, 1) := by decide +kernel
theorem d_TextReader_begin_39 : decode prog_11_method_3_code 39 = .ok (.iconst (-1), 1) := by decide +kernel
theorem d_TextReader_begin_40 : decode prog_11_method_3_code 40 = .ok (.putfield 40, 3) := by decide +kernel
theorem d_TextReader_begin_43 : decode prog_11_method_3_code 43 = .ok (.aload_n 0, 1) := by decide +kernel
theorem d_TextReader_begin_44 : decode prog_11_method_3_code 44 = .ok (.iconst 0, 1) := by decide +kernel
theorem d_TextReader_begin_45 : decode prog_11_method_3_code 45 = .ok (.putfield 43, 3) := by decide +kernel
theorem d_TextReader_begin_48 : decode prog_11_method_3_code 48 = .ok (.return_, 1) := by decide +kernel
theorem d_TextReader_firstWrong_7 : decode prog_11_method_2_code 7 = .ok (.iload_n 2, 1) := by decide +kernel
theorem d_TextReader_firstWrong_8 : decode prog_11_method_2_code 8 = .ok (.aload_n 0, 1) := by decide +kernel
theorem d_TextReader_firstWrong_9 : decode prog_11_method_2_code 9 = .ok (.getfield 28, 3) := by decide +kernel
theorem d_TextReader_firstWrong_12 : decode prog_11_method_2_code 12 = .ok (.getfield 51, 3) := by decide +kernel
theorem d_TextReader_firstWrong_15 : decode prog_11_method_2_code 15 = .ok (.if_icmp .ge 19, 3) := by decide +kernel
theorem d_TextReader_firstWrong_34 : decode prog_11_method_2_code 34 = .ok (.aload_n 0, 1) := by decide +kernel
theorem d_TextReader_firstWrong_35 : decode prog_11_method_2_code 35 = .ok (.getfield 33, 3) := by decide +kernel
theorem d_TextReader_firstWrong_38 : decode prog_11_method_2_code 38 = .ok (.ifCond .ne 7, 3) := by decide +kernel
theorem d_TextReader_firstWrong_45 : decode prog_11_method_2_code 45 = .ok (.aload_n 0, 1) := by decide +kernel
theorem d_TextReader_firstWrong_46 : decode prog_11_method_2_code 46 = .ok (.getfield 28, 3) := by decide +kernel
theorem d_TextReader_firstWrong_49 : decode prog_11_method_2_code 49 = .ok (.getfield 51, 3) := by decide +kernel
theorem d_TextReader_firstWrong_52 : decode prog_11_method_2_code 52 = .ok (.ireturn, 1) := by decide +kernel
theorem d_TextReader_firstWrong_41 : decode prog_11_method_2_code 41 = .ok (.iconst (-1), 1) := by decide +kernel
theorem d_TextReader_firstWrong_42 : decode prog_11_method_2_code 42 = .ok (.goto 10, 3) := by decide +kernel
theorem d_TextReader_firstWrong_18 : decode prog_11_method_2_code 18 = .ok (.aload_n 0, 1) := by decide +kernel
theorem d_TextReader_firstWrong_19 : decode prog_11_method_2_code 19 = .ok (.iload_n 2, 1) := by decide +kernel
theorem d_TextReader_firstWrong_20 : decode prog_11_method_2_code 20 = .ok (.invokevirtual 56, 3) := by decide +kernel
theorem d_TextReader_firstWrong_23 : decode prog_11_method_2_code 23 = .ok (.ifCond .ne 5, 3) := by decide +kernel
theorem d_TextReader_firstWrong_28 : decode prog_11_method_2_code 28 = .ok (.iinc 2 1, 3) := by decide +kernel
theorem d_TextReader_firstWrong_31 : decode prog_11_method_2_code 31 = .ok (.goto (-24), 3) := by decide +kernel
theorem d_TextReader_firstWrong_26 : decode prog_11_method_2_code 26 = .ok (.iload_n 2, 1) := by decide +kernel
theorem d_TextReader_firstWrong_27 : decode prog_11_method_2_code 27 = .ok (.ireturn, 1) := by decide +kernel
theorem d_TextReader_firstWrong_0 : decode prog_11_method_2_code 0 = .ok (.aload_n 0, 1) := by decide +kernel
theorem d_TextReader_firstWrong_1 : decode prog_11_method_2_code 1 = .ok (.aload_n 1, 1) := by decide +kernel
theorem d_TextReader_firstWrong_2 : decode prog_11_method_2_code 2 = .ok (.invokevirtual 47, 3) := by decide +kernel
theorem d_TextReader_firstWrong_5 : decode prog_11_method_2_code 5 = .ok (.iconst 0, 1) := by decide +kernel
theorem d_TextReader_firstWrong_6 : decode prog_11_method_2_code 6 = .ok (.istore_n 2, 1) := by decide +kernel
def M_TextReader_init (F : Nat) (h : hH) (x0 : Nat) (x1 : Nat) : Option hH :=
  (some (hAdd h (.inl (7, [.null, .null, .int 0])))).bind fun h1 =>
  (M_Steps_init F h1 h.1).bind fun h2 =>
  (hPut h2 x0 9 0 (.ref h.1)).bind fun h3 =>
  (hPut h3 x0 9 1 (.ref x1)).bind fun h4 =>
  (hGetA h4 x1 1 0).bind fun v5 =>
  (hPut h4 x0 9 2 (.ref v5)).bind fun h6 =>
  (hGetA h6 x1 1 1).bind fun v7 =>
  (hPut h6 x0 9 3 (.ref v7)).bind fun h8 =>
  (hPut h8 x0 9 4 (.int 0)).bind fun h9 =>
  (hPut h9 x0 9 5 (.int 0)).bind fun h10 =>
  (hPut h10 x0 9 6 (.int (-1))).bind fun h11 =>
  (hPut h11 x0 9 7 (.int 0)).bind fun h12 =>
  some h12
def M_TextReader_rankOf (F : Nat) (h : hH) (x0 : Int32) : Option (Int32 × hH) :=
  if x0 = 2 then (
    some (3, h)
  ) else
  if x0 = 3 then (
    some (0, h)
  ) else
  if x0 = 4 then (
    some (1, h)
  ) else
  if x0 = 5 then (
    some (1, h)
  ) else
  if x0 = 6 then (
    some (2, h)
  ) else
  if x0 = 7 then (
    some (2, h)
  ) else
  if x0 = 8 then (
    some (2, h)
  ) else
  some (0, h)
def M_TextReader_settle_70 (F : Nat) (r10 : hH → Nat → Int32 → Int32 → Option hH) (h : hH) (x0 : Nat) (x1 : Int32) (x2 : Int32) : Option hH :=
  r10 h x0 x1 (x2 + (-1))
def B_TextReader_settle_10 (F : Nat) (r10 : hH → Nat → Int32 → Int32 → Option hH) (h : hH) (x0 : Nat) (x1 : Int32) (x2 : Int32) : Option hH :=
  if x2 < 0 then (
    some h
  ) else (
    (hGetA h x0 9 0).bind fun v2 =>
    (hIs h v2 7).bind fun u3 =>
    (M_Steps_kindAt F h v2 x2).bind fun q4 =>
    (M_TextReader_rankOf F q4.2 q4.1).bind fun q5 =>
    if x1 ≤ q5.1 then (
      (hGetA q5.2 x0 9 3).bind fun v7 =>
      (hGetA q5.2 x0 9 0).bind fun v8 =>
      (hIs q5.2 v8 7).bind fun u9 =>
      (M_Steps_valueAt F q5.2 v8 x2).bind fun q10 =>
      (hIs q10.2 v7 7).bind fun u11 =>
      (M_Steps_add F q10.2 v7 q4.1 q10.1).bind fun h12 =>
      (hGetA h12 x0 9 0).bind fun v13 =>
      (hIs h12 v13 7).bind fun u14 =>
      (M_Steps_removeLast F h12 v13).bind fun h15 =>
      if q4.1 = 2 then (
        (hGetI h15 x0 9 5).bind fun v17 =>
        (hPut h15 x0 9 5 (.int (v17 - 1))).bind fun h18 =>
        M_TextReader_settle_70 F r10 h18 x0 x1 x2
      ) else (
        M_TextReader_settle_70 F r10 h15 x0 x1 x2
      )
    ) else (
      some q5.2
    )
  )
def M_TextReader_settle_10 (F : Nat) : Nat → hH → Nat → Int32 → Int32 → Option hH
  | 0 => fun _ _ _ _ => none
  | z + 1 => B_TextReader_settle_10 F (M_TextReader_settle_10 F z)
def M_TextReader_settle (F : Nat) (h : hH) (x0 : Nat) (x1 : Int32) : Option hH :=
  (hGetA h x0 9 0).bind fun v1 =>
  (hGetI h v1 7 2).bind fun v2 =>
  M_TextReader_settle_10 F F h x0 x1 (v2 - 1)
def M_TextReader_endAtom (F : Nat) (h : hH) (x0 : Nat) : Option hH :=
  (hIs h x0 9).bind fun u1 =>
  (M_TextReader_settle F h x0 3).bind fun h2 =>
  (hPut h2 x0 9 4 (.int 5)).bind fun h3 =>
  some h3
def M_TextReader_waitAround (F : Nat) (h : hH) (x0 : Nat) (x1 : Int32) (x2 : Int32) : Option hH :=
  (hGetA h x0 9 0).bind fun v1 =>
  (hIs h v1 7).bind fun u2 =>
  (M_Steps_add F h v1 x1 x2).bind fun h3 =>
  (hGetI h3 x0 9 5).bind fun v4 =>
  (hPut h3 x0 9 5 (.int (v4 + 1))).bind fun h5 =>
  (hPut h5 x0 9 4 (.int 2)).bind fun h6 =>
  some h6
def M_TextReader_closeBracket (F : Nat) (h : hH) (x0 : Nat) : Option (Int32 × hH) :=
  (hIs h x0 9).bind fun u1 =>
  (M_TextReader_settle F h x0 1).bind fun h2 =>
  (hGetA h2 x0 9 0).bind fun v3 =>
  (hGetA h2 x0 9 0).bind fun v4 =>
  (hGetI h2 v4 7 2).bind fun v5 =>
  (hIs h2 v3 7).bind fun u6 =>
  (M_Steps_kindAt F h2 v3 (v5 - 1)).bind fun q7 =>
  if q7.1 = 3 then (
    (hGetA q7.2 x0 9 0).bind fun v9 =>
    (hIs q7.2 v9 7).bind fun u10 =>
    (M_Steps_removeLast F q7.2 v9).bind fun h11 =>
    (hGetI h11 x0 9 5).bind fun v12 =>
    (hPut h11 x0 9 5 (.int (v12 - 1))).bind fun h13 =>
    (hIs h13 x0 9).bind fun u14 =>
    (M_TextReader_settle F h13 x0 3).bind fun h15 =>
    some (1, h15)
  ) else (
    some (0, q7.2)
  )
def M_TextReader_operatorAt (F : Nat) (h : hH) (x0 : Nat) (x1 : Int32) : Option (Int32 × hH) :=
  (hGetA h x0 9 2).bind fun v1 =>
  (hIs h v1 10).bind fun u2 =>
  (M_Words_is F h v1 x1 7).bind fun q3 =>
  if q3.1 = 0 then (
    (hGetA q3.2 x0 9 2).bind fun v5 =>
    (hIs q3.2 v5 10).bind fun u6 =>
    (M_Words_is F q3.2 v5 x1 8).bind fun q7 =>
    if q7.1 = 0 then (
      (hGetA q7.2 x0 9 2).bind fun v9 =>
      (hIs q7.2 v9 10).bind fun u10 =>
      (M_Words_is F q7.2 v9 x1 9).bind fun q11 =>
      if q11.1 = 0 then (
        (hGetA q11.2 x0 9 2).bind fun v13 =>
        (hIs q11.2 v13 10).bind fun u14 =>
        (M_Words_is F q11.2 v13 x1 10).bind fun q15 =>
        if q15.1 = 0 then (
          (hGetA q15.2 x0 9 2).bind fun v17 =>
          (hIs q15.2 v17 10).bind fun u18 =>
          (M_Words_is F q15.2 v17 x1 11).bind fun q19 =>
          if q19.1 = 0 then (
            some ((-1), q19.2)
          ) else (
            some (8, q19.2)
          )
        ) else (
          some (7, q15.2)
        )
      ) else (
        some (6, q11.2)
      )
    ) else (
      some (5, q7.2)
    )
  ) else (
    some (4, q3.2)
  )
def M_TextReader_relationAt (F : Nat) (h : hH) (x0 : Nat) (x1 : Int32) : Option (Int32 × hH) :=
  (hGetA h x0 9 2).bind fun v1 =>
  (hIs h v1 10).bind fun u2 =>
  (M_Words_is F h v1 x1 13).bind fun q3 =>
  if q3.1 = 0 then (
    (hGetA q3.2 x0 9 2).bind fun v5 =>
    (hIs q3.2 v5 10).bind fun u6 =>
    (M_Words_is F q3.2 v5 x1 14).bind fun q7 =>
    if q7.1 = 0 then (
      (hGetA q7.2 x0 9 2).bind fun v9 =>
      (hIs q7.2 v9 10).bind fun u10 =>
      (M_Words_is F q7.2 v9 x1 15).bind fun q11 =>
      if q11.1 = 0 then (
        (hGetA q11.2 x0 9 2).bind fun v13 =>
        (hIs q11.2 v13 10).bind fun u14 =>
        (M_Words_is F q11.2 v13 x1 16).bind fun q15 =>
        if q15.1 = 0 then (
          some ((-1), q15.2)
        ) else (
          some (12, q15.2)
        )
      ) else (
        some (11, q11.2)
      )
    ) else (
      some (10, q7.2)
    )
  ) else (
    some (9, q3.2)
  )
def M_TextReader_takeNeed (F : Nat) (h : hH) (x0 : Nat) (x1 : Int32) : Option (Int32 × hH) :=
  (hGetA h x0 9 2).bind fun v1 =>
  (hIs h v1 10).bind fun u2 =>
  (M_Words_is F h v1 x1 18).bind fun q3 =>
  if q3.1 = 0 then (
    some (0, q3.2)
  ) else (
    (hGetA q3.2 x0 9 1).bind fun v5 =>
    (hIs q3.2 v5 1).bind fun u6 =>
    (M_Edition_beginNeed F q3.2 v5).bind fun h7 =>
    (hPut h7 x0 9 7 (.int 0)).bind fun h8 =>
    (hPut h8 x0 9 4 (.int 2)).bind fun h9 =>
    some (1, h9)
  )
def M_TextReader_takeRuleEnd (F : Nat) (h : hH) (x0 : Nat) (x1 : Int32) : Option (Int32 × hH) :=
  (hGetA h x0 9 2).bind fun v1 =>
  (hIs h v1 10).bind fun u2 =>
  (M_Words_is F h v1 x1 3).bind fun q3 =>
  if q3.1 = 0 then (
    some (0, q3.2)
  ) else (
    (hGetA q3.2 x0 9 1).bind fun v5 =>
    (hIs q3.2 v5 1).bind fun u6 =>
    (M_Edition_endRule F q3.2 v5 x1).bind fun h7 =>
    (hPut h7 x0 9 4 (.int 0)).bind fun h8 =>
    some (1, h8)
  )
def M_TextReader_takeBehindAtom (F : Nat) (h : hH) (x0 : Nat) (x1 : Int32) : Option (Int32 × hH) :=
  (hIs h x0 9).bind fun u1 =>
  (M_TextReader_operatorAt F h x0 x1).bind fun q2 =>
  if q2.1 = (-1) then (
    (hGetI q2.2 x0 9 5).bind fun v4 =>
    if v4 ≤ 0 then (
      (hIs q2.2 x0 9).bind fun u6 =>
      (M_TextReader_settle F q2.2 x0 1).bind fun h7 =>
      (hGetI h7 x0 9 6).bind fun v8 =>
      if v8 = (-1) then (
        (hIs h7 x0 9).bind fun u28 =>
        (M_TextReader_relationAt F h7 x0 x1).bind fun q29 =>
        (hPut q29.2 x0 9 6 (.int q29.1)).bind fun h30 =>
        (hPut h30 x0 9 4 (.int 2)).bind fun h31 =>
        (hGetI h31 x0 9 6).bind fun v32 =>
        if v32 = (-1) then (
          some (0, h31)
        ) else (
          some (1, h31)
        )
      ) else (
        (hGetA h7 x0 9 3).bind fun v10 =>
        (hGetI h7 x0 9 6).bind fun v11 =>
        (hIs h7 v10 7).bind fun u12 =>
        (M_Steps_add F h7 v10 v11 (-1)).bind fun h13 =>
        (hPut h13 x0 9 6 (.int (-1))).bind fun h14 =>
        (hGetA h14 x0 9 2).bind fun v15 =>
        (hIs h14 v15 10).bind fun u16 =>
        (M_Words_is F h14 v15 x1 17).bind fun q17 =>
        if q17.1 = 0 then (
          (hGetI q17.2 x0 9 7).bind fun v19 =>
          if v19 = 0 then (
            (hIs q17.2 x0 9).bind fun u21 =>
            (M_TextReader_takeRuleEnd F q17.2 x0 x1).bind fun q22 =>
            (hZ q22.1).bind fun u23 =>
            some (q22.1, q22.2)
          ) else (
            (hIs q17.2 x0 9).bind fun u24 =>
            (M_TextReader_takeNeed F q17.2 x0 x1).bind fun q25 =>
            (hZ q25.1).bind fun u26 =>
            some (q25.1, q25.2)
          )
        ) else (
          (hPut q17.2 x0 9 4 (.int 2)).bind fun h27 =>
          some (1, h27)
        )
      )
    ) else (
      (hGetA q2.2 x0 9 2).bind fun v34 =>
      (hIs q2.2 v34 10).bind fun u35 =>
      (M_Words_is F q2.2 v34 x1 12).bind fun q36 =>
      if q36.1 = 0 then (
        some (0, q36.2)
      ) else (
        (hIs q36.2 x0 9).bind fun u38 =>
        (M_TextReader_closeBracket F q36.2 x0).bind fun q39 =>
        if q39.1 = 0 then (
          some (0, q39.2)
        ) else (
          some (1, q39.2)
        )
      )
    )
  ) else (
    (M_TextReader_rankOf F q2.2 q2.1).bind fun q41 =>
    (hIs q41.2 x0 9).bind fun u42 =>
    (M_TextReader_settle F q41.2 x0 q41.1).bind fun h43 =>
    (hGetA h43 x0 9 0).bind fun v44 =>
    (hIs h43 v44 7).bind fun u45 =>
    (M_Steps_add F h43 v44 q2.1 (-1)).bind fun h46 =>
    (hPut h46 x0 9 4 (.int 2)).bind fun h47 =>
    some (1, h47)
  )
def M_TextReader_takeTableName (F : Nat) (h : hH) (x0 : Nat) (x1 : Int32) : Option (Int32 × hH) :=
  (hGetA h x0 9 2).bind fun v1 =>
  (hIs h v1 10).bind fun u2 =>
  (M_Words_numberAt F h v1 x1).bind fun q3 =>
  if q3.1 < 0 then (
    some (0, q3.2)
  ) else (
    (hGetA q3.2 x0 9 1).bind fun v5 =>
    (hGetA q3.2 v5 1 2).bind fun v6 =>
    (hGetI q3.2 v6 8 2).bind fun v7 =>
    if q3.1 < v7 then (
      (hIs q3.2 x0 9).bind fun u9 =>
      (M_TextReader_waitAround F q3.2 x0 2 q3.1).bind fun h10 =>
      some (1, h10)
    ) else (
      some (0, q3.2)
    )
  )
def M_TextReader_takeFactName (F : Nat) (h : hH) (x0 : Nat) (x1 : Int32) : Option (Int32 × hH) :=
  (hGetA h x0 9 2).bind fun v1 =>
  (hIs h v1 10).bind fun u2 =>
  (M_Words_numberAt F h v1 x1).bind fun q3 =>
  if q3.1 < 0 then (
    some (0, q3.2)
  ) else (
    if q3.1 < 20 then (
      (hGetA q3.2 x0 9 3).bind fun v6 =>
      (hIs q3.2 v6 7).bind fun u7 =>
      (M_Steps_add F q3.2 v6 1 q3.1).bind fun h8 =>
      (hIs h8 x0 9).bind fun u9 =>
      (M_TextReader_endAtom F h8 x0).bind fun h10 =>
      some (1, h10)
    ) else (
      some (0, q3.2)
    )
  )
def M_TextReader_takeAtom (F : Nat) (h : hH) (x0 : Nat) (x1 : Int32) : Option (Int32 × hH) :=
  (hGetI h x0 9 5).bind fun v1 =>
  if v1 ≤ 12 then (
    (hGetA h x0 9 2).bind fun v3 =>
    (hIs h v3 10).bind fun u4 =>
    (M_Words_numberAt F h v3 x1).bind fun q5 =>
    if q5.1 = (-1) then (
      (hGetA q5.2 x0 9 2).bind fun v7 =>
      (hIs q5.2 v7 10).bind fun u8 =>
      (M_Words_is F q5.2 v7 x1 4).bind fun q9 =>
      if q9.1 = 0 then (
        (hGetA q9.2 x0 9 2).bind fun v11 =>
        (hIs q9.2 v11 10).bind fun u12 =>
        (M_Words_is F q9.2 v11 x1 5).bind fun q13 =>
        if q13.1 = 0 then (
          (hGetA q13.2 x0 9 2).bind fun v15 =>
          (hIs q13.2 v15 10).bind fun u16 =>
          (M_Words_is F q13.2 v15 x1 6).bind fun q17 =>
          if q17.1 = 0 then (
            some (0, q17.2)
          ) else (
            (hIs q17.2 x0 9).bind fun u19 =>
            (M_TextReader_waitAround F q17.2 x0 3 (-1)).bind fun h20 =>
            some (1, h20)
          )
        ) else (
          (hPut q13.2 x0 9 4 (.int 4)).bind fun h21 =>
          some (1, h21)
        )
      ) else (
        (hPut q9.2 x0 9 4 (.int 3)).bind fun h22 =>
        some (1, h22)
      )
    ) else (
      (hGetA q5.2 x0 9 3).bind fun v23 =>
      (hIs q5.2 v23 7).bind fun u24 =>
      (M_Steps_add F q5.2 v23 0 q5.1).bind fun h25 =>
      (hIs h25 x0 9).bind fun u26 =>
      (M_TextReader_endAtom F h25 x0).bind fun h27 =>
      some (1, h27)
    )
  ) else (
    some (0, h)
  )
def M_TextReader_takeTableNumber (F : Nat) (h : hH) (x0 : Nat) (x1 : Int32) : Option (Int32 × hH) :=
  (hGetA h x0 9 2).bind fun v1 =>
  (hIs h v1 10).bind fun u2 =>
  (M_Words_is F h v1 x1 3).bind fun q3 =>
  if q3.1 = 0 then (
    (hGetA q3.2 x0 9 2).bind fun v5 =>
    (hIs q3.2 v5 10).bind fun u6 =>
    (M_Words_numberAt F q3.2 v5 x1).bind fun q7 =>
    if q7.1 = (-1) then (
      some (0, q7.2)
    ) else (
      (hGetA q7.2 x0 9 1).bind fun v9 =>
      (hGetA q7.2 v9 1 2).bind fun v10 =>
      (hIs q7.2 v10 8).bind fun u11 =>
      (M_Tables_addNumber F q7.2 v10 q7.1).bind fun q12 =>
      if q12.1 = 0 then (
        some (0, q12.2)
      ) else (
        some (1, q12.2)
      )
    )
  ) else (
    (hPut q3.2 x0 9 4 (.int 0)).bind fun h14 =>
    (hGetA h14 x0 9 1).bind fun v15 =>
    (hGetA h14 v15 1 2).bind fun v16 =>
    (hIs h14 v16 8).bind fun u17 =>
    (M_Tables_lastSize F h14 v16).bind fun q18 =>
    if q18.1 ≤ 0 then (
      some (0, q18.2)
    ) else (
      some (1, q18.2)
    )
  )
def M_TextReader_takeItem_68 (F : Nat) (h : hH) (x0 : Nat) (x1 : Int32) : Option (Int32 × hH) :=
  (hGetA h x0 9 1).bind fun v1 =>
  (hIs h v1 1).bind fun u2 =>
  (M_Edition_beginRule F h v1 x1).bind fun q3 =>
  if q3.1 = 0 then (
    some (0, q3.2)
  ) else (
    some (1, q3.2)
  )
def M_TextReader_takeItem (F : Nat) (h : hH) (x0 : Nat) (x1 : Int32) : Option (Int32 × hH) :=
  (hGetA h x0 9 2).bind fun v1 =>
  (hIs h v1 10).bind fun u2 =>
  (M_Words_is F h v1 x1 0).bind fun q3 =>
  if q3.1 = 0 then (
    (hGetA q3.2 x0 9 2).bind fun v5 =>
    (hIs q3.2 v5 10).bind fun u6 =>
    (M_Words_is F q3.2 v5 x1 1).bind fun q7 =>
    (hPutZ q7.2 x0 9 7 q7.1).bind fun h8 =>
    (hPut h8 x0 9 4 (.int 2)).bind fun h9 =>
    (hGetI h9 x0 9 7).bind fun v10 =>
    if v10 = 0 then (
      (hGetA h9 x0 9 2).bind fun v12 =>
      (hIs h9 v12 10).bind fun u13 =>
      (M_Words_is F h9 v12 x1 2).bind fun q14 =>
      if q14.1 = 0 then (
        some (0, q14.2)
      ) else (
        M_TextReader_takeItem_68 F q14.2 x0 x1
      )
    ) else (
      M_TextReader_takeItem_68 F h9 x0 x1
    )
  ) else (
    (hPut q3.2 x0 9 4 (.int 1)).bind fun h16 =>
    (hGetA h16 x0 9 1).bind fun v17 =>
    (hGetA h16 v17 1 2).bind fun v18 =>
    (hIs h16 v18 8).bind fun u19 =>
    (M_Tables_begin F h16 v18).bind fun q20 =>
    (hZ q20.1).bind fun u21 =>
    some (q20.1, q20.2)
  )
def M_TextReader_take (F : Nat) (h : hH) (x0 : Nat) (x1 : Int32) : Option (Int32 × hH) :=
  (hGetI h x0 9 4).bind fun v1 =>
  if v1 = 0 then (
    (hIs h x0 9).bind fun u3 =>
    (M_TextReader_takeItem F h x0 x1).bind fun q4 =>
    (hZ q4.1).bind fun u5 =>
    some (q4.1, q4.2)
  ) else
  if v1 = 1 then (
    (hIs h x0 9).bind fun u7 =>
    (M_TextReader_takeTableNumber F h x0 x1).bind fun q8 =>
    (hZ q8.1).bind fun u9 =>
    some (q8.1, q8.2)
  ) else
  if v1 = 2 then (
    (hIs h x0 9).bind fun u11 =>
    (M_TextReader_takeAtom F h x0 x1).bind fun q12 =>
    (hZ q12.1).bind fun u13 =>
    some (q12.1, q12.2)
  ) else
  if v1 = 3 then (
    (hIs h x0 9).bind fun u15 =>
    (M_TextReader_takeFactName F h x0 x1).bind fun q16 =>
    (hZ q16.1).bind fun u17 =>
    some (q16.1, q16.2)
  ) else
  if v1 = 4 then (
    (hIs h x0 9).bind fun u19 =>
    (M_TextReader_takeTableName F h x0 x1).bind fun q20 =>
    (hZ q20.1).bind fun u21 =>
    some (q20.1, q20.2)
  ) else
  (hIs h x0 9).bind fun u22 =>
  (M_TextReader_takeBehindAtom F h x0 x1).bind fun q23 =>
  (hZ q23.1).bind fun u24 =>
  some (q23.1, q23.2)
def M_TextReader_begin (F : Nat) (h : hH) (x0 : Nat) (x1 : Nat) : Option hH :=
  (hPut h x0 9 1 (.ref x1)).bind fun h1 =>
  (hGetA h1 x1 1 0).bind fun v2 =>
  (hPut h1 x0 9 2 (.ref v2)).bind fun h3 =>
  (hGetA h3 x1 1 1).bind fun v4 =>
  (hPut h3 x0 9 3 (.ref v4)).bind fun h5 =>
  (hGetA h5 x0 9 0).bind fun v6 =>
  (hIs h5 v6 7).bind fun u7 =>
  (M_Steps_clear F h5 v6).bind fun h8 =>
  (hPut h8 x0 9 4 (.int 0)).bind fun h9 =>
  (hPut h9 x0 9 5 (.int 0)).bind fun h10 =>
  (hPut h10 x0 9 6 (.int (-1))).bind fun h11 =>
  (hPut h11 x0 9 7 (.int 0)).bind fun h12 =>
  some h12
def B_TextReader_firstWrong_7 (F : Nat) (r7 : hH → Nat → Int32 → Option (Int32 × hH)) (h : hH) (x0 : Nat) (x2 : Int32) : Option (Int32 × hH) :=
  (hGetA h x0 9 2).bind fun v1 =>
  (hGetI h v1 10 3).bind fun v2 =>
  if v2 ≤ x2 then (
    (hGetI h x0 9 4).bind fun v4 =>
    if v4 = 0 then (
      some ((-1), h)
    ) else (
      (hGetA h x0 9 2).bind fun v6 =>
      (hGetI h v6 10 3).bind fun v7 =>
      some (v7, h)
    )
  ) else (
    (hIs h x0 9).bind fun u8 =>
    (M_TextReader_take F h x0 x2).bind fun q9 =>
    if q9.1 = 0 then (
      some (x2, q9.2)
    ) else (
      r7 q9.2 x0 (x2 + 1)
    )
  )
def M_TextReader_firstWrong_7 (F : Nat) : Nat → hH → Nat → Int32 → Option (Int32 × hH)
  | 0 => fun _ _ _ => none
  | z + 1 => B_TextReader_firstWrong_7 F (M_TextReader_firstWrong_7 F z)
def M_TextReader_firstWrong (F : Nat) (h : hH) (x0 : Nat) (x1 : Nat) : Option (Int32 × hH) :=
  (hIs h x0 9).bind fun u1 =>
  (M_TextReader_begin F h x0 x1).bind fun h2 =>
  M_TextReader_firstWrong_7 F 401 h2 x0 0
abbrev rm_TextReader_init : Room := { frames := 2, cells := 3, slots := 803, locals := 32 }
set_option maxHeartbeats 4000000 in
set_option maxRecDepth 100000 in
theorem c_TextReader_init (l : Launch) (D : va_G) (K : (Nat → Nat) × (Nat → Nat)) (F : Nat) {h : hH} {x0 : Nat} {x1 : Nat} {q : hH} (hM : M_TextReader_init F h x0 x1 = some q) : Met l y_TextReader_init (.code y_TextReader_init prog_11_method_1_code 2 none :: T0) rm_TextReader_init (hPc hG D cls0 K [.ref x0, .ref x1] h) (hQ D cls0 h none q) 3 803 (hF h) := by
  refine J_met (lv := [(0, .ref x0), (1, .ref x1)]) (by decide) (Nat.le_of_ble_eq_true rfl) rfl ?_
  intro p e s m below meth c X hr hlk hnm
  have Y : HX p s m _ meth c prog_11_method_1_code 2 "LicenceTexts$TextReader" D K "<init>" none h := ⟨X, hr, hlk, hnm⟩
  unfold M_TextReader_init at hM
  refine J_aload_n (pc := 0) X 0 d_TextReader_init_0 rfl ?_
  refine J_objInit (pc := 1) X k_232 k_1 k_2 d_TextReader_init_1 (Nat.le_of_ble_eq_true rfl) (Nat.le_of_ble_eq_true rfl) ?_
  refine J_aload_n (pc := 4) X 0 d_TextReader_init_4 rfl ?_
  refine J_new (pc := 5) (fs := [.null, .null, .int 0]) X hc_Steps in_Steps t_Steps tk_Steps k_233 k_132 k_133 d_TextReader_init_5 rfl df_Steps (Nat.le_of_ble_eq_true rfl) (Nat.le_of_ble_eq_true rfl) ?_
  obtain ⟨h1, eh1, hM⟩ := hb_some hM
  rw [Option.some.inj eh1]
  refine J_dup (pc := 8) X d_TextReader_init_8 rfl ?_
  obtain ⟨h2, eh2, hM⟩ := hb_some hM
  refine J_callI (pc := 9) (As := []) (rest := [.ref h.1, .ref x0]) (o := none) (h2 := h2) X rfl (c_Steps_init l D K F eh2) (cwI_of (nA := 0) X.fix k_234 k_136 k_133 k_135 ⟨rfl, rfl, rfl⟩ (by decide +kernel) ⟨Nat.le_of_ble_eq_true rfl, Nat.le_of_ble_eq_true rfl⟩) d_TextReader_init_9 rfl rfl (Nat.le_of_ble_eq_true rfl) (Nat.le_of_ble_eq_true rfl) (Nat.le_of_ble_eq_true rfl) ?_
  obtain ⟨h3, eh3, hM⟩ := hb_some hM
  refine J_putF (pc := 12) X hc_TextReader in_TextReader t_TextReader tk_TextReader nk_TextReader 0 k_235 (by decide) rfl rfl rfl hnm d_TextReader_init_12 rfl rfl rfl eh3 ?_
  refine J_aload_n (pc := 15) X 0 d_TextReader_init_15 rfl ?_
  refine J_aload_n (pc := 16) X 1 d_TextReader_init_16 rfl ?_
  obtain ⟨h4, eh4, hM⟩ := hb_some hM
  refine J_put (pc := 17) X hc_TextReader in_TextReader t_TextReader tk_TextReader nk_TextReader 1 k_236 (by decide) rfl rfl d_TextReader_init_17 rfl rfl rfl eh4 ?_
  refine J_aload_n (pc := 20) X 0 d_TextReader_init_20 rfl ?_
  refine J_aload_n (pc := 21) X 1 d_TextReader_init_21 rfl ?_
  obtain ⟨v5, ev5, hM⟩ := hb_some hM
  refine J_getAN (pc := 22) X hc_Edition in_Edition 0 (nw_6) (by decide) rfl d_TextReader_init_22 rfl ev5 ?_
  obtain ⟨h6, eh6, hM⟩ := hb_some hM
  refine J_put (pc := 25) X hc_TextReader in_TextReader t_TextReader tk_TextReader nk_TextReader 2 k_237 (by decide) rfl rfl d_TextReader_init_25 rfl rfl rfl eh6 ?_
  refine J_aload_n (pc := 28) X 0 d_TextReader_init_28 rfl ?_
  refine J_aload_n (pc := 29) X 1 d_TextReader_init_29 rfl ?_
  obtain ⟨v7, ev7, hM⟩ := hb_some hM
  refine J_getAN (pc := 30) X hc_Edition in_Edition 1 (nw_8) (by decide) rfl d_TextReader_init_30 rfl ev7 ?_
  obtain ⟨h8, eh8, hM⟩ := hb_some hM
  refine J_put (pc := 33) X hc_TextReader in_TextReader t_TextReader tk_TextReader nk_TextReader 3 k_238 (by decide) rfl rfl d_TextReader_init_33 rfl rfl rfl eh8 ?_
  refine J_aload_n (pc := 36) X 0 d_TextReader_init_36 rfl ?_
  refine J_iconst (pc := 37) (v := (0)) X d_TextReader_init_37 (by decide) ?_
  obtain ⟨h9, eh9, hM⟩ := hb_some hM
  refine J_put (pc := 38) X hc_TextReader in_TextReader t_TextReader tk_TextReader nk_TextReader 4 k_239 (by decide) rfl rfl d_TextReader_init_38 rfl rfl rfl eh9 ?_
  refine J_aload_n (pc := 41) X 0 d_TextReader_init_41 rfl ?_
  refine J_iconst (pc := 42) (v := (0)) X d_TextReader_init_42 (by decide) ?_
  obtain ⟨h10, eh10, hM⟩ := hb_some hM
  refine J_put (pc := 43) X hc_TextReader in_TextReader t_TextReader tk_TextReader nk_TextReader 5 k_240 (by decide) rfl rfl d_TextReader_init_43 rfl rfl rfl eh10 ?_
  refine J_aload_n (pc := 46) X 0 d_TextReader_init_46 rfl ?_
  refine J_iconst (pc := 47) (v := (-1)) X d_TextReader_init_47 (by decide) ?_
  obtain ⟨h11, eh11, hM⟩ := hb_some hM
  refine J_put (pc := 48) X hc_TextReader in_TextReader t_TextReader tk_TextReader nk_TextReader 6 k_241 (by decide) rfl rfl d_TextReader_init_48 rfl rfl rfl eh11 ?_
  refine J_aload_n (pc := 51) X 0 d_TextReader_init_51 rfl ?_
  refine J_iconst (pc := 52) (v := (0)) X d_TextReader_init_52 (by decide) ?_
  obtain ⟨h12, eh12, hM⟩ := hb_some hM
  refine J_put (pc := 53) X hc_TextReader in_TextReader t_TextReader tk_TextReader nk_TextReader 7 k_242 (by decide) rfl rfl d_TextReader_init_53 rfl rfl rfl eh12 ?_
  obtain rfl := Option.some.inj hM
  exact J_vret (pc := 56) X hr hlk (Nat.le_of_ble_eq_true rfl) (Nat.le_of_ble_eq_true rfl) d_TextReader_init_56
abbrev rm_TextReader_rankOf : Room := { frames := 0, cells := 0, slots := 0, locals := 0 }
set_option maxHeartbeats 4000000 in
set_option maxRecDepth 100000 in
theorem c_TextReader_rankOf (l : Launch) (D : va_G) (K : (Nat → Nat) × (Nat → Nat)) (F : Nat) {h : hH} {x0 : Int32} {q : (Int32 × hH)} (hM : M_TextReader_rankOf F h x0 = some q) : Met l y_TextReader_rankOf (.code y_TextReader_rankOf prog_11_method_17_code 1 (some .int) :: T0) rm_TextReader_rankOf (hPc hG D cls0 K [.int x0] h) (hQ D cls0 h (some (.int q.1)) q.2) 0 0 (hF h) := by
  refine J_met (lv := [(0, .int x0)]) (by decide) (Nat.le_of_ble_eq_true rfl) rfl ?_
  intro p e s m below meth c X hr hlk hnm
  have Y : HX p s m _ meth c prog_11_method_17_code 1 "LicenceTexts$TextReader" D K "rankOf" (some .int) h := ⟨X, hr, hlk, hnm⟩
  unfold M_TextReader_rankOf at hM
  refine J_iload_n (pc := 0) X 0 d_TextReader_rankOf_0 rfl ?_
  by_cases c1 : x0 = 2
  · have hM := hif_t hM c1
    refine J_tableIn (pc := 1) (tgt := 48) X 2 c1 d_TextReader_rankOf_1 (by decide) (by decide) rfl (by decide) ?_
    refine J_iconst (pc := 48) (v := (3)) X d_TextReader_rankOf_48 (by decide) ?_
    obtain rfl := Option.some.inj hM
    exact J_iret (pc := 49) X hr hlk (Nat.le_of_ble_eq_true rfl) (Nat.le_of_ble_eq_true rfl) d_TextReader_rankOf_49
  · have hM := hif_f hM c1
    by_cases c2 : x0 = 3
    · have hM := hif_t hM c2
      refine J_tableIn (pc := 1) (tgt := 50) X 3 c2 d_TextReader_rankOf_1 (by decide) (by decide) rfl (by decide) ?_
      refine J_iconst (pc := 50) (v := (0)) X d_TextReader_rankOf_50 (by decide) ?_
      obtain rfl := Option.some.inj hM
      exact J_iret (pc := 51) X hr hlk (Nat.le_of_ble_eq_true rfl) (Nat.le_of_ble_eq_true rfl) d_TextReader_rankOf_51
    · have hM := hif_f hM c2
      by_cases c3 : x0 = 4
      · have hM := hif_t hM c3
        refine J_tableIn (pc := 1) (tgt := 44) X 4 c3 d_TextReader_rankOf_1 (by decide) (by decide) rfl (by decide) ?_
        refine J_iconst (pc := 44) (v := (1)) X d_TextReader_rankOf_44 (by decide) ?_
        obtain rfl := Option.some.inj hM
        exact J_iret (pc := 45) X hr hlk (Nat.le_of_ble_eq_true rfl) (Nat.le_of_ble_eq_true rfl) d_TextReader_rankOf_45
      · have hM := hif_f hM c3
        by_cases c4 : x0 = 5
        · have hM := hif_t hM c4
          refine J_tableIn (pc := 1) (tgt := 44) X 5 c4 d_TextReader_rankOf_1 (by decide) (by decide) rfl (by decide) ?_
          refine J_iconst (pc := 44) (v := (1)) X d_TextReader_rankOf_44 (by decide) ?_
          obtain rfl := Option.some.inj hM
          exact J_iret (pc := 45) X hr hlk (Nat.le_of_ble_eq_true rfl) (Nat.le_of_ble_eq_true rfl) d_TextReader_rankOf_45
        · have hM := hif_f hM c4
          by_cases c5 : x0 = 6
          · have hM := hif_t hM c5
            refine J_tableIn (pc := 1) (tgt := 46) X 6 c5 d_TextReader_rankOf_1 (by decide) (by decide) rfl (by decide) ?_
            refine J_iconst (pc := 46) (v := (2)) X d_TextReader_rankOf_46 (by decide) ?_
            obtain rfl := Option.some.inj hM
            exact J_iret (pc := 47) X hr hlk (Nat.le_of_ble_eq_true rfl) (Nat.le_of_ble_eq_true rfl) d_TextReader_rankOf_47
          · have hM := hif_f hM c5
            by_cases c6 : x0 = 7
            · have hM := hif_t hM c6
              refine J_tableIn (pc := 1) (tgt := 46) X 7 c6 d_TextReader_rankOf_1 (by decide) (by decide) rfl (by decide) ?_
              refine J_iconst (pc := 46) (v := (2)) X d_TextReader_rankOf_46 (by decide) ?_
              obtain rfl := Option.some.inj hM
              exact J_iret (pc := 47) X hr hlk (Nat.le_of_ble_eq_true rfl) (Nat.le_of_ble_eq_true rfl) d_TextReader_rankOf_47
            · have hM := hif_f hM c6
              by_cases c7 : x0 = 8
              · have hM := hif_t hM c7
                refine J_tableIn (pc := 1) (tgt := 46) X 8 c7 d_TextReader_rankOf_1 (by decide) (by decide) rfl (by decide) ?_
                refine J_iconst (pc := 46) (v := (2)) X d_TextReader_rankOf_46 (by decide) ?_
                obtain rfl := Option.some.inj hM
                exact J_iret (pc := 47) X hr hlk (Nat.le_of_ble_eq_true rfl) (Nat.le_of_ble_eq_true rfl) d_TextReader_rankOf_47
              · have hM := hif_f hM c7
                have nc1 := lv_neT c1 (a := 2) (by decide)
                have nc2 := lv_neT c2 (a := 3) (by decide)
                have nc3 := lv_neT c3 (a := 4) (by decide)
                have nc4 := lv_neT c4 (a := 5) (by decide)
                have nc5 := lv_neT c5 (a := 6) (by decide)
                have nc6 := lv_neT c6 (a := 7) (by decide)
                have nc7 := lv_neT c7 (a := 8) (by decide)
                refine J_tableOut (pc := 1) (tgt := 50) X d_TextReader_rankOf_1 (by omega) (by decide) ?_
                refine J_iconst (pc := 50) (v := (0)) X d_TextReader_rankOf_50 (by decide) ?_
                obtain rfl := Option.some.inj hM
                exact J_iret (pc := 51) X hr hlk (Nat.le_of_ble_eq_true rfl) (Nat.le_of_ble_eq_true rfl) d_TextReader_rankOf_51
abbrev rm_TextReader_settle : Room := { frames := 1, cells := 0, slots := 0, locals := 22 }
set_option maxHeartbeats 4000000 in
set_option maxRecDepth 100000 in
theorem w_TextReader_settle_70 {p : Program} {l : Launch} {e : Env} {s : State} {m : MethodId} {args : Array Value} {below : List Frame} {meth : Method} {c : Code} {D : va_G} {K : (Nat → Nat) × (Nat → Nat)} {h0 : hH} (Y : HX p s m args meth c prog_11_method_16_code 4 "LicenceTexts$TextReader" D K "settle" none h0) {F : Nat} {r10 : hH → Nat → Int32 → Int32 → Option hH} (R10 : ∀ (h : hH) (x0 : Nat) (x1 : Int32) (x2 : Int32) (q : hH), r10 h x0 x1 x2 = some q → J p l e rm_TextReader_settle s m args below meth c 4 D cls0 (hF h0) h [(0, .ref x0), (1, .int x1), (2, .int x2)] 0 0 (MQ below (hQ D cls0 h0 none q) args s 0 0 (hF h0)) 10 []) (h : hH) (x0 : Nat) (x1 : Int32) (x2 : Int32) (q : hH) (hM : M_TextReader_settle_70 F r10 h x0 x1 x2 = some q) : J p l e rm_TextReader_settle s m args below meth c 4 D cls0 (hF h0) h [(0, .ref x0), (1, .int x1), (2, .int x2)] 0 0 (MQ below (hQ D cls0 h0 none q) args s 0 0 (hF h0)) 70 [] := by
  obtain ⟨X, hr, hlk, hnm⟩ := id Y
  unfold M_TextReader_settle_70 at hM
  refine J_iinc (pc := 70) (v := x2 + (-1)) (lv' := [(2, .int (x2 + (-1))), (0, .ref x0), (1, .int x1)]) X 2 d_TextReader_settle_70 rfl rfl (by decide) rfl ?_
  refine J_goto (pc := 73) (tgt := 10) X d_TextReader_settle_73 (by decide) ?_
  refine J_sub [1, 2, 0] rfl ?_
  exact R10 _ _ _ _ _ hM
set_option maxHeartbeats 4000000 in
set_option maxRecDepth 100000 in
theorem b_TextReader_settle_10 {p : Program} {l : Launch} {e : Env} {s : State} {m : MethodId} {args : Array Value} {below : List Frame} {meth : Method} {c : Code} {D : va_G} {K : (Nat → Nat) × (Nat → Nat)} {h0 : hH} (Y : HX p s m args meth c prog_11_method_16_code 4 "LicenceTexts$TextReader" D K "settle" none h0) {F : Nat}   {r10 : hH → Nat → Int32 → Int32 → Option hH} (R10 : ∀ (h : hH) (x0 : Nat) (x1 : Int32) (x2 : Int32) (q : hH), r10 h x0 x1 x2 = some q → J p l e rm_TextReader_settle s m args below meth c 4 D cls0 (hF h0) h [(0, .ref x0), (1, .int x1), (2, .int x2)] 0 0 (MQ below (hQ D cls0 h0 none q) args s 0 0 (hF h0)) 10 []) : ∀ (h : hH) (x0 : Nat) (x1 : Int32) (x2 : Int32) (q : hH), B_TextReader_settle_10 F r10 h x0 x1 x2 = some q → J p l e rm_TextReader_settle s m args below meth c 4 D cls0 (hF h0) h [(0, .ref x0), (1, .int x1), (2, .int x2)] 0 0 (MQ below (hQ D cls0 h0 none q) args s 0 0 (hF h0)) 10 [] := by
  intro h x0 x1 x2 q hM
  obtain ⟨X, hr, hlk, hnm⟩ := id Y
  unfold B_TextReader_settle_10 at hM
  refine J_iload_n (pc := 10) X 2 d_TextReader_settle_10 rfl ?_
  refine J_if_lt (pc := 11) (tgt := 76) X d_TextReader_settle_11 (by decide) (fun c1 => ?_) (fun c1 => ?_)
  · have hM := hif_t hM c1
    obtain rfl := Option.some.inj hM
    exact J_vret (pc := 76) X hr hlk (Nat.le_of_ble_eq_true rfl) (Nat.le_of_ble_eq_true rfl) d_TextReader_settle_76
  · have hM := hif_f hM c1
    refine J_aload_n (pc := 14) X 0 d_TextReader_settle_14 rfl ?_
    obtain ⟨v2, ev2, hM⟩ := hb_some hM
    refine J_getA (pc := 15) X hc_TextReader in_TextReader 0 k_235 (by decide) rfl d_TextReader_settle_15 rfl ev2 ?_
    refine J_iload_n (pc := 18) X 2 d_TextReader_settle_18 rfl ?_
    obtain ⟨u3, eu3, hM⟩ := hb_some hM
    obtain ⟨q4, eq4, hM⟩ := hb_some hM
    refine J_callV (pc := 19) (As := [.int x2]) (rest := []) (o := (some (.int q4.1))) (h2 := q4.2) X rfl hc_Steps eu3 (c_Steps_kindAt l D K F eq4) (cwV_of (nA := 1) X.fix k_243 k_214 k_215 k_133 k_213 ⟨rfl, rfl, rfl⟩ (by decide +kernel) ⟨Nat.le_of_ble_eq_true rfl, Nat.le_of_ble_eq_true rfl⟩) d_TextReader_settle_19 rfl rfl (Nat.le_of_ble_eq_true rfl) (Nat.le_of_ble_eq_true rfl) (Nat.le_of_ble_eq_true rfl) ?_
    refine J_istore_n (pc := 22) (lv' := [(3, .int q4.1), (0, .ref x0), (1, .int x1), (2, .int x2)]) X d_TextReader_settle_22 rfl (by decide) rfl ?_
    refine J_iload_n (pc := 23) X 0 d_TextReader_settle_23 rfl ?_
    obtain ⟨q5, eq5, hM⟩ := hb_some hM
    refine J_callS (pc := 24) (As := [.int q4.1]) (rest := []) (o := (some (.int q5.1))) (h2 := q5.2) X (c_TextReader_rankOf l D K F eq5) (cwS_of (nA := 1) X.fix k_244 k_247 k_246 k_245 ⟨rfl, rfl⟩ (by decide +kernel) ⟨Nat.le_of_ble_eq_true rfl, Nat.le_of_ble_eq_true rfl⟩) d_TextReader_settle_24 rfl rfl (Nat.le_of_ble_eq_true rfl) (Nat.le_of_ble_eq_true rfl) (Nat.le_of_ble_eq_true rfl) ?_
    refine J_iload_n (pc := 27) X 2 d_TextReader_settle_27 rfl ?_
    refine J_icmp_ge (pc := 28) (tgt := 32) X d_TextReader_settle_28 (by decide) (fun c6 => ?_) (fun c6 => ?_)
    · have hM := hif_t hM c6
      refine J_aload_n (pc := 32) X 1 d_TextReader_settle_32 rfl ?_
      obtain ⟨v7, ev7, hM⟩ := hb_some hM
      refine J_getA (pc := 33) X hc_TextReader in_TextReader 3 k_238 (by decide) rfl d_TextReader_settle_33 rfl ev7 ?_
      refine J_iload_n (pc := 36) X 0 d_TextReader_settle_36 rfl ?_
      refine J_aload_n (pc := 37) X 1 d_TextReader_settle_37 rfl ?_
      obtain ⟨v8, ev8, hM⟩ := hb_some hM
      refine J_getA (pc := 38) X hc_TextReader in_TextReader 0 k_235 (by decide) rfl d_TextReader_settle_38 rfl ev8 ?_
      refine J_iload_n (pc := 41) X 3 d_TextReader_settle_41 rfl ?_
      obtain ⟨u9, eu9, hM⟩ := hb_some hM
      obtain ⟨q10, eq10, hM⟩ := hb_some hM
      refine J_callV (pc := 42) (As := [.int x2]) (rest := [.int q4.1, .ref v7]) (o := (some (.int q10.1))) (h2 := q10.2) X rfl hc_Steps eu9 (c_Steps_valueAt l D K F eq10) (cwV_of (nA := 1) X.fix k_248 k_218 k_219 k_133 k_217 ⟨rfl, rfl, rfl⟩ (by decide +kernel) ⟨Nat.le_of_ble_eq_true rfl, Nat.le_of_ble_eq_true rfl⟩) d_TextReader_settle_42 rfl rfl (Nat.le_of_ble_eq_true rfl) (Nat.le_of_ble_eq_true rfl) (Nat.le_of_ble_eq_true rfl) ?_
      obtain ⟨u11, eu11, hM⟩ := hb_some hM
      obtain ⟨h12, eh12, hM⟩ := hb_some hM
      refine J_callV (pc := 45) (As := [.int q4.1, .int q10.1]) (rest := []) (o := none) (h2 := h12) X rfl hc_Steps eu11 (c_Steps_add l D K F eh12) (cwV_of (nA := 2) X.fix k_249 k_251 k_252 k_133 k_250 ⟨rfl, rfl, rfl⟩ (by decide +kernel) ⟨Nat.le_of_ble_eq_true rfl, Nat.le_of_ble_eq_true rfl⟩) d_TextReader_settle_45 rfl rfl (Nat.le_of_ble_eq_true rfl) (Nat.le_of_ble_eq_true rfl) (Nat.le_of_ble_eq_true rfl) ?_
      refine J_aload_n (pc := 48) X 1 d_TextReader_settle_48 rfl ?_
      obtain ⟨v13, ev13, hM⟩ := hb_some hM
      refine J_getA (pc := 49) X hc_TextReader in_TextReader 0 k_235 (by decide) rfl d_TextReader_settle_49 rfl ev13 ?_
      obtain ⟨u14, eu14, hM⟩ := hb_some hM
      obtain ⟨h15, eh15, hM⟩ := hb_some hM
      refine J_callV (pc := 52) (As := []) (rest := []) (o := none) (h2 := h15) X rfl hc_Steps eu14 (c_Steps_removeLast l D K F eh15) (cwV_of (nA := 0) X.fix k_253 k_255 k_256 k_133 k_254 ⟨rfl, rfl, rfl⟩ (by decide +kernel) ⟨Nat.le_of_ble_eq_true rfl, Nat.le_of_ble_eq_true rfl⟩) d_TextReader_settle_52 rfl rfl (Nat.le_of_ble_eq_true rfl) (Nat.le_of_ble_eq_true rfl) (Nat.le_of_ble_eq_true rfl) ?_
      refine J_iload_n (pc := 55) X 0 d_TextReader_settle_55 rfl ?_
      refine J_iconst (pc := 56) (v := (2)) X d_TextReader_settle_56 (by decide) ?_
      refine J_icmp_ne (pc := 57) (tgt := 70) X d_TextReader_settle_57 (by decide) (fun c16 => ?_) (fun c16 => ?_)
      · have hM := hif_f hM c16
        refine J_sub [1, 2, 3] rfl ?_
        exact w_TextReader_settle_70 Y R10 _ _ _ _ _ hM
      · have hM := hif_t hM c16
        refine J_aload_n (pc := 60) X 1 d_TextReader_settle_60 rfl ?_
        refine J_dup (pc := 61) X d_TextReader_settle_61 rfl ?_
        obtain ⟨v17, ev17, hM⟩ := hb_some hM
        refine J_getI (pc := 62) X hc_TextReader in_TextReader 5 k_240 (by decide) rfl d_TextReader_settle_62 rfl ev17 ?_
        refine J_iconst (pc := 65) (v := (1)) X d_TextReader_settle_65 (by decide) ?_
        refine J_isub (pc := 66) X d_TextReader_settle_66 ?_
        obtain ⟨h18, eh18, hM⟩ := hb_some hM
        refine J_put (pc := 67) X hc_TextReader in_TextReader t_TextReader tk_TextReader nk_TextReader 5 k_240 (by decide) rfl rfl d_TextReader_settle_67 rfl rfl rfl eh18 ?_
        refine J_sub [1, 2, 3] rfl ?_
        exact w_TextReader_settle_70 Y R10 _ _ _ _ _ hM
    · have hM := hif_f hM c6
      obtain rfl := Option.some.inj hM
      exact J_vret (pc := 31) X hr hlk (Nat.le_of_ble_eq_true rfl) (Nat.le_of_ble_eq_true rfl) d_TextReader_settle_31
theorem w_TextReader_settle_10 {p : Program} {l : Launch} {e : Env} {s : State} {m : MethodId} {args : Array Value} {below : List Frame} {meth : Method} {c : Code} {D : va_G} {K : (Nat → Nat) × (Nat → Nat)} {h0 : hH} (Y : HX p s m args meth c prog_11_method_16_code 4 "LicenceTexts$TextReader" D K "settle" none h0) {F : Nat} : ∀ z : Nat, ∀ (h : hH) (x0 : Nat) (x1 : Int32) (x2 : Int32) (q : hH), M_TextReader_settle_10 F z h x0 x1 x2 = some q → J p l e rm_TextReader_settle s m args below meth c 4 D cls0 (hF h0) h [(0, .ref x0), (1, .int x1), (2, .int x2)] 0 0 (MQ below (hQ D cls0 h0 none q) args s 0 0 (hF h0)) 10 [] := by
  intro z
  induction z with
  | zero => intro h x0 x1 x2 q hM; exact absurd (show (none : Option _) = some q from hM) (fun t => by cases t)
  | succ z ih => exact b_TextReader_settle_10 Y ih
set_option maxHeartbeats 4000000 in
set_option maxRecDepth 100000 in
theorem c_TextReader_settle (l : Launch) (D : va_G) (K : (Nat → Nat) × (Nat → Nat)) (F : Nat) {h : hH} {x0 : Nat} {x1 : Int32} {q : hH} (hM : M_TextReader_settle F h x0 x1 = some q) : Met l y_TextReader_settle (.code y_TextReader_settle prog_11_method_16_code 4 none :: T0) rm_TextReader_settle (hPc hG D cls0 K [.ref x0, .int x1] h) (hQ D cls0 h none q) 0 0 (hF h) := by
  refine J_met (lv := [(0, .ref x0), (1, .int x1)]) (by decide) (Nat.le_of_ble_eq_true rfl) rfl ?_
  intro p e s m below meth c X hr hlk hnm
  have Y : HX p s m _ meth c prog_11_method_16_code 4 "LicenceTexts$TextReader" D K "settle" none h := ⟨X, hr, hlk, hnm⟩
  unfold M_TextReader_settle at hM
  refine J_aload_n (pc := 0) X 0 d_TextReader_settle_0 rfl ?_
  obtain ⟨v1, ev1, hM⟩ := hb_some hM
  refine J_getA (pc := 1) X hc_TextReader in_TextReader 0 k_235 (by decide) rfl d_TextReader_settle_1 rfl ev1 ?_
  obtain ⟨v2, ev2, hM⟩ := hb_some hM
  refine J_getIN (pc := 4) X hc_Steps in_Steps 2 (nw_4) (by decide) rfl d_TextReader_settle_4 rfl ev2 ?_
  refine J_iconst (pc := 7) (v := (1)) X d_TextReader_settle_7 (by decide) ?_
  refine J_isub (pc := 8) X d_TextReader_settle_8 ?_
  refine J_istore_n (pc := 9) (lv' := [(2, .int (v2 - 1)), (0, .ref x0), (1, .int x1)]) X d_TextReader_settle_9 rfl (by decide) rfl ?_
  refine J_sub [1, 2, 0] rfl ?_
  exact w_TextReader_settle_10 Y F _ _ _ _ _ hM
abbrev rm_TextReader_endAtom : Room := { frames := 2, cells := 0, slots := 0, locals := 45 }
set_option maxHeartbeats 4000000 in
set_option maxRecDepth 100000 in
theorem c_TextReader_endAtom (l : Launch) (D : va_G) (K : (Nat → Nat) × (Nat → Nat)) (F : Nat) {h : hH} {x0 : Nat} {q : hH} (hM : M_TextReader_endAtom F h x0 = some q) : Met l y_TextReader_endAtom (.code y_TextReader_endAtom prog_11_method_15_code 1 none :: T0) rm_TextReader_endAtom (hPc hG D cls0 K [.ref x0] h) (hQ D cls0 h none q) 0 0 (hF h) := by
  refine J_met (lv := [(0, .ref x0)]) (by decide) (Nat.le_of_ble_eq_true rfl) rfl ?_
  intro p e s m below meth c X hr hlk hnm
  have Y : HX p s m _ meth c prog_11_method_15_code 1 "LicenceTexts$TextReader" D K "endAtom" none h := ⟨X, hr, hlk, hnm⟩
  unfold M_TextReader_endAtom at hM
  refine J_aload_n (pc := 0) X 0 d_TextReader_endAtom_0 rfl ?_
  refine J_iconst (pc := 1) (v := (3)) X d_TextReader_endAtom_1 (by decide) ?_
  obtain ⟨u1, eu1, hM⟩ := hb_some hM
  obtain ⟨h2, eh2, hM⟩ := hb_some hM
  refine J_callV (pc := 2) (As := [.int 3]) (rest := []) (o := none) (h2 := h2) X rfl hc_TextReader eu1 (c_TextReader_settle l D K F eh2) (cwV_of (nA := 1) X.fix k_257 k_259 k_260 k_246 k_258 ⟨rfl, rfl, rfl⟩ (by decide +kernel) ⟨Nat.le_of_ble_eq_true rfl, Nat.le_of_ble_eq_true rfl⟩) d_TextReader_endAtom_2 rfl rfl (Nat.le_of_ble_eq_true rfl) (Nat.le_of_ble_eq_true rfl) (Nat.le_of_ble_eq_true rfl) ?_
  refine J_aload_n (pc := 5) X 0 d_TextReader_endAtom_5 rfl ?_
  refine J_iconst (pc := 6) (v := (5)) X d_TextReader_endAtom_6 (by decide) ?_
  obtain ⟨h3, eh3, hM⟩ := hb_some hM
  refine J_put (pc := 7) X hc_TextReader in_TextReader t_TextReader tk_TextReader nk_TextReader 4 k_239 (by decide) rfl rfl d_TextReader_endAtom_7 rfl rfl rfl eh3 ?_
  obtain rfl := Option.some.inj hM
  exact J_vret (pc := 10) X hr hlk (Nat.le_of_ble_eq_true rfl) (Nat.le_of_ble_eq_true rfl) d_TextReader_endAtom_10
abbrev rm_TextReader_waitAround : Room := { frames := 1, cells := 0, slots := 0, locals := 22 }
set_option maxHeartbeats 4000000 in
set_option maxRecDepth 100000 in
theorem c_TextReader_waitAround (l : Launch) (D : va_G) (K : (Nat → Nat) × (Nat → Nat)) (F : Nat) {h : hH} {x0 : Nat} {x1 : Int32} {x2 : Int32} {q : hH} (hM : M_TextReader_waitAround F h x0 x1 x2 = some q) : Met l y_TextReader_waitAround (.code y_TextReader_waitAround prog_11_method_13_code 3 none :: T0) rm_TextReader_waitAround (hPc hG D cls0 K [.ref x0, .int x1, .int x2] h) (hQ D cls0 h none q) 0 0 (hF h) := by
  refine J_met (lv := [(0, .ref x0), (1, .int x1), (2, .int x2)]) (by decide) (Nat.le_of_ble_eq_true rfl) rfl ?_
  intro p e s m below meth c X hr hlk hnm
  have Y : HX p s m _ meth c prog_11_method_13_code 3 "LicenceTexts$TextReader" D K "waitAround" none h := ⟨X, hr, hlk, hnm⟩
  unfold M_TextReader_waitAround at hM
  refine J_aload_n (pc := 0) X 0 d_TextReader_waitAround_0 rfl ?_
  obtain ⟨v1, ev1, hM⟩ := hb_some hM
  refine J_getA (pc := 1) X hc_TextReader in_TextReader 0 k_235 (by decide) rfl d_TextReader_waitAround_1 rfl ev1 ?_
  refine J_iload_n (pc := 4) X 1 d_TextReader_waitAround_4 rfl ?_
  refine J_iload_n (pc := 5) X 2 d_TextReader_waitAround_5 rfl ?_
  obtain ⟨u2, eu2, hM⟩ := hb_some hM
  obtain ⟨h3, eh3, hM⟩ := hb_some hM
  refine J_callV (pc := 6) (As := [.int x1, .int x2]) (rest := []) (o := none) (h2 := h3) X rfl hc_Steps eu2 (c_Steps_add l D K F eh3) (cwV_of (nA := 2) X.fix k_249 k_251 k_252 k_133 k_250 ⟨rfl, rfl, rfl⟩ (by decide +kernel) ⟨Nat.le_of_ble_eq_true rfl, Nat.le_of_ble_eq_true rfl⟩) d_TextReader_waitAround_6 rfl rfl (Nat.le_of_ble_eq_true rfl) (Nat.le_of_ble_eq_true rfl) (Nat.le_of_ble_eq_true rfl) ?_
  refine J_aload_n (pc := 9) X 0 d_TextReader_waitAround_9 rfl ?_
  refine J_dup (pc := 10) X d_TextReader_waitAround_10 rfl ?_
  obtain ⟨v4, ev4, hM⟩ := hb_some hM
  refine J_getI (pc := 11) X hc_TextReader in_TextReader 5 k_240 (by decide) rfl d_TextReader_waitAround_11 rfl ev4 ?_
  refine J_iconst (pc := 14) (v := (1)) X d_TextReader_waitAround_14 (by decide) ?_
  refine J_iadd (pc := 15) X d_TextReader_waitAround_15 ?_
  obtain ⟨h5, eh5, hM⟩ := hb_some hM
  refine J_put (pc := 16) X hc_TextReader in_TextReader t_TextReader tk_TextReader nk_TextReader 5 k_240 (by decide) rfl rfl d_TextReader_waitAround_16 rfl rfl rfl eh5 ?_
  refine J_aload_n (pc := 19) X 0 d_TextReader_waitAround_19 rfl ?_
  refine J_iconst (pc := 20) (v := (2)) X d_TextReader_waitAround_20 (by decide) ?_
  obtain ⟨h6, eh6, hM⟩ := hb_some hM
  refine J_put (pc := 21) X hc_TextReader in_TextReader t_TextReader tk_TextReader nk_TextReader 4 k_239 (by decide) rfl rfl d_TextReader_waitAround_21 rfl rfl rfl eh6 ?_
  obtain rfl := Option.some.inj hM
  exact J_vret (pc := 24) X hr hlk (Nat.le_of_ble_eq_true rfl) (Nat.le_of_ble_eq_true rfl) d_TextReader_waitAround_24
abbrev rm_TextReader_closeBracket : Room := { frames := 2, cells := 0, slots := 0, locals := 45 }
set_option maxHeartbeats 4000000 in
set_option maxRecDepth 100000 in
theorem c_TextReader_closeBracket (l : Launch) (D : va_G) (K : (Nat → Nat) × (Nat → Nat)) (F : Nat) {h : hH} {x0 : Nat} {q : (Int32 × hH)} (hM : M_TextReader_closeBracket F h x0 = some q) : Met l y_TextReader_closeBracket (.code y_TextReader_closeBracket prog_11_method_14_code 1 (some .boolean) :: T0) rm_TextReader_closeBracket (hPc hG D cls0 K [.ref x0] h) (hQ D cls0 h (some (.int q.1)) q.2) 0 0 (hF h) := by
  refine J_met (lv := [(0, .ref x0)]) (by decide) (Nat.le_of_ble_eq_true rfl) rfl ?_
  intro p e s m below meth c X hr hlk hnm
  have Y : HX p s m _ meth c prog_11_method_14_code 1 "LicenceTexts$TextReader" D K "closeBracket" (some .boolean) h := ⟨X, hr, hlk, hnm⟩
  unfold M_TextReader_closeBracket at hM
  refine J_aload_n (pc := 0) X 0 d_TextReader_closeBracket_0 rfl ?_
  refine J_iconst (pc := 1) (v := (1)) X d_TextReader_closeBracket_1 (by decide) ?_
  obtain ⟨u1, eu1, hM⟩ := hb_some hM
  obtain ⟨h2, eh2, hM⟩ := hb_some hM
  refine J_callV (pc := 2) (As := [.int 1]) (rest := []) (o := none) (h2 := h2) X rfl hc_TextReader eu1 (c_TextReader_settle l D K F eh2) (cwV_of (nA := 1) X.fix k_257 k_259 k_260 k_246 k_258 ⟨rfl, rfl, rfl⟩ (by decide +kernel) ⟨Nat.le_of_ble_eq_true rfl, Nat.le_of_ble_eq_true rfl⟩) d_TextReader_closeBracket_2 rfl rfl (Nat.le_of_ble_eq_true rfl) (Nat.le_of_ble_eq_true rfl) (Nat.le_of_ble_eq_true rfl) ?_
  refine J_aload_n (pc := 5) X 0 d_TextReader_closeBracket_5 rfl ?_
  obtain ⟨v3, ev3, hM⟩ := hb_some hM
  refine J_getA (pc := 6) X hc_TextReader in_TextReader 0 k_235 (by decide) rfl d_TextReader_closeBracket_6 rfl ev3 ?_
  refine J_aload_n (pc := 9) X 0 d_TextReader_closeBracket_9 rfl ?_
  obtain ⟨v4, ev4, hM⟩ := hb_some hM
  refine J_getA (pc := 10) X hc_TextReader in_TextReader 0 k_235 (by decide) rfl d_TextReader_closeBracket_10 rfl ev4 ?_
  obtain ⟨v5, ev5, hM⟩ := hb_some hM
  refine J_getIN (pc := 13) X hc_Steps in_Steps 2 (nw_4) (by decide) rfl d_TextReader_closeBracket_13 rfl ev5 ?_
  refine J_iconst (pc := 16) (v := (1)) X d_TextReader_closeBracket_16 (by decide) ?_
  refine J_isub (pc := 17) X d_TextReader_closeBracket_17 ?_
  obtain ⟨u6, eu6, hM⟩ := hb_some hM
  obtain ⟨q7, eq7, hM⟩ := hb_some hM
  refine J_callV (pc := 18) (As := [.int (v5 - 1)]) (rest := []) (o := (some (.int q7.1))) (h2 := q7.2) X rfl hc_Steps eu6 (c_Steps_kindAt l D K F eq7) (cwV_of (nA := 1) X.fix k_243 k_214 k_215 k_133 k_213 ⟨rfl, rfl, rfl⟩ (by decide +kernel) ⟨Nat.le_of_ble_eq_true rfl, Nat.le_of_ble_eq_true rfl⟩) d_TextReader_closeBracket_18 rfl rfl (Nat.le_of_ble_eq_true rfl) (Nat.le_of_ble_eq_true rfl) (Nat.le_of_ble_eq_true rfl) ?_
  refine J_iconst (pc := 21) (v := (3)) X d_TextReader_closeBracket_21 (by decide) ?_
  refine J_icmp_eq (pc := 22) (tgt := 27) X d_TextReader_closeBracket_22 (by decide) (fun c8 => ?_) (fun c8 => ?_)
  · have hM := hif_t hM c8
    refine J_aload_n (pc := 27) X 0 d_TextReader_closeBracket_27 rfl ?_
    obtain ⟨v9, ev9, hM⟩ := hb_some hM
    refine J_getA (pc := 28) X hc_TextReader in_TextReader 0 k_235 (by decide) rfl d_TextReader_closeBracket_28 rfl ev9 ?_
    obtain ⟨u10, eu10, hM⟩ := hb_some hM
    obtain ⟨h11, eh11, hM⟩ := hb_some hM
    refine J_callV (pc := 31) (As := []) (rest := []) (o := none) (h2 := h11) X rfl hc_Steps eu10 (c_Steps_removeLast l D K F eh11) (cwV_of (nA := 0) X.fix k_253 k_255 k_256 k_133 k_254 ⟨rfl, rfl, rfl⟩ (by decide +kernel) ⟨Nat.le_of_ble_eq_true rfl, Nat.le_of_ble_eq_true rfl⟩) d_TextReader_closeBracket_31 rfl rfl (Nat.le_of_ble_eq_true rfl) (Nat.le_of_ble_eq_true rfl) (Nat.le_of_ble_eq_true rfl) ?_
    refine J_aload_n (pc := 34) X 0 d_TextReader_closeBracket_34 rfl ?_
    refine J_dup (pc := 35) X d_TextReader_closeBracket_35 rfl ?_
    obtain ⟨v12, ev12, hM⟩ := hb_some hM
    refine J_getI (pc := 36) X hc_TextReader in_TextReader 5 k_240 (by decide) rfl d_TextReader_closeBracket_36 rfl ev12 ?_
    refine J_iconst (pc := 39) (v := (1)) X d_TextReader_closeBracket_39 (by decide) ?_
    refine J_isub (pc := 40) X d_TextReader_closeBracket_40 ?_
    obtain ⟨h13, eh13, hM⟩ := hb_some hM
    refine J_put (pc := 41) X hc_TextReader in_TextReader t_TextReader tk_TextReader nk_TextReader 5 k_240 (by decide) rfl rfl d_TextReader_closeBracket_41 rfl rfl rfl eh13 ?_
    refine J_aload_n (pc := 44) X 0 d_TextReader_closeBracket_44 rfl ?_
    refine J_iconst (pc := 45) (v := (3)) X d_TextReader_closeBracket_45 (by decide) ?_
    obtain ⟨u14, eu14, hM⟩ := hb_some hM
    obtain ⟨h15, eh15, hM⟩ := hb_some hM
    refine J_callV (pc := 46) (As := [.int 3]) (rest := []) (o := none) (h2 := h15) X rfl hc_TextReader eu14 (c_TextReader_settle l D K F eh15) (cwV_of (nA := 1) X.fix k_257 k_259 k_260 k_246 k_258 ⟨rfl, rfl, rfl⟩ (by decide +kernel) ⟨Nat.le_of_ble_eq_true rfl, Nat.le_of_ble_eq_true rfl⟩) d_TextReader_closeBracket_46 rfl rfl (Nat.le_of_ble_eq_true rfl) (Nat.le_of_ble_eq_true rfl) (Nat.le_of_ble_eq_true rfl) ?_
    refine J_iconst (pc := 49) (v := (1)) X d_TextReader_closeBracket_49 (by decide) ?_
    obtain rfl := Option.some.inj hM
    exact J_zret (pc := 50) X hr hz1 hlk (Nat.le_of_ble_eq_true rfl) (Nat.le_of_ble_eq_true rfl) d_TextReader_closeBracket_50
  · have hM := hif_f hM c8
    refine J_iconst (pc := 25) (v := (0)) X d_TextReader_closeBracket_25 (by decide) ?_
    obtain rfl := Option.some.inj hM
    exact J_zret (pc := 26) X hr hz0 hlk (Nat.le_of_ble_eq_true rfl) (Nat.le_of_ble_eq_true rfl) d_TextReader_closeBracket_26
abbrev rm_TextReader_operatorAt : Room := { frames := 5, cells := 0, slots := 0, locals := 109 }
set_option maxHeartbeats 4000000 in
set_option maxRecDepth 100000 in
theorem c_TextReader_operatorAt (l : Launch) (D : va_G) (K : (Nat → Nat) × (Nat → Nat)) (F : Nat) {h : hH} {x0 : Nat} {x1 : Int32} {q : (Int32 × hH)} (hM : M_TextReader_operatorAt F h x0 x1 = some q) : Met l y_TextReader_operatorAt (.code y_TextReader_operatorAt prog_11_method_18_code 2 (some .int) :: T0) rm_TextReader_operatorAt (hPc hG D cls0 K [.ref x0, .int x1] h) (hQ D cls0 h (some (.int q.1)) q.2) 0 0 (hF h) := by
  refine J_met (lv := [(0, .ref x0), (1, .int x1)]) (by decide) (Nat.le_of_ble_eq_true rfl) rfl ?_
  intro p e s m below meth c X hr hlk hnm
  have Y : HX p s m _ meth c prog_11_method_18_code 2 "LicenceTexts$TextReader" D K "operatorAt" (some .int) h := ⟨X, hr, hlk, hnm⟩
  unfold M_TextReader_operatorAt at hM
  refine J_aload_n (pc := 0) X 0 d_TextReader_operatorAt_0 rfl ?_
  obtain ⟨v1, ev1, hM⟩ := hb_some hM
  refine J_getA (pc := 1) X hc_TextReader in_TextReader 2 k_237 (by decide) rfl d_TextReader_operatorAt_1 rfl ev1 ?_
  refine J_iload_n (pc := 4) X 1 d_TextReader_operatorAt_4 rfl ?_
  refine J_ldcS (pc := 5) X 7 rfl rfl d_TextReader_operatorAt_5 ?_
  obtain ⟨u2, eu2, hM⟩ := hb_some hM
  obtain ⟨q3, eq3, hM⟩ := hb_some hM
  refine J_callV (pc := 7) (As := [.int x1, .ref (K.1 7)]) (rest := []) (o := (some (.int q3.1))) (h2 := q3.2) X rfl hc_Words eu2 (c_Words_is l D K F eq3) (cwV_of (nA := 2) X.fix k_261 k_263 k_264 k_88 k_262 ⟨rfl, rfl, rfl⟩ (by decide +kernel) ⟨Nat.le_of_ble_eq_true rfl, Nat.le_of_ble_eq_true rfl⟩) d_TextReader_operatorAt_7 rfl rfl (Nat.le_of_ble_eq_true rfl) (Nat.le_of_ble_eq_true rfl) (Nat.le_of_ble_eq_true rfl) ?_
  refine J_if_eq (pc := 10) (tgt := 15) X d_TextReader_operatorAt_10 (by decide) (fun c4 => ?_) (fun c4 => ?_)
  · have hM := hif_t hM c4
    refine J_aload_n (pc := 15) X 0 d_TextReader_operatorAt_15 rfl ?_
    obtain ⟨v5, ev5, hM⟩ := hb_some hM
    refine J_getA (pc := 16) X hc_TextReader in_TextReader 2 k_237 (by decide) rfl d_TextReader_operatorAt_16 rfl ev5 ?_
    refine J_iload_n (pc := 19) X 1 d_TextReader_operatorAt_19 rfl ?_
    refine J_ldcS (pc := 20) X 8 rfl rfl d_TextReader_operatorAt_20 ?_
    obtain ⟨u6, eu6, hM⟩ := hb_some hM
    obtain ⟨q7, eq7, hM⟩ := hb_some hM
    refine J_callV (pc := 22) (As := [.int x1, .ref (K.1 8)]) (rest := []) (o := (some (.int q7.1))) (h2 := q7.2) X rfl hc_Words eu6 (c_Words_is l D K F eq7) (cwV_of (nA := 2) X.fix k_261 k_263 k_264 k_88 k_262 ⟨rfl, rfl, rfl⟩ (by decide +kernel) ⟨Nat.le_of_ble_eq_true rfl, Nat.le_of_ble_eq_true rfl⟩) d_TextReader_operatorAt_22 rfl rfl (Nat.le_of_ble_eq_true rfl) (Nat.le_of_ble_eq_true rfl) (Nat.le_of_ble_eq_true rfl) ?_
    refine J_if_eq (pc := 25) (tgt := 30) X d_TextReader_operatorAt_25 (by decide) (fun c8 => ?_) (fun c8 => ?_)
    · have hM := hif_t hM c8
      refine J_aload_n (pc := 30) X 0 d_TextReader_operatorAt_30 rfl ?_
      obtain ⟨v9, ev9, hM⟩ := hb_some hM
      refine J_getA (pc := 31) X hc_TextReader in_TextReader 2 k_237 (by decide) rfl d_TextReader_operatorAt_31 rfl ev9 ?_
      refine J_iload_n (pc := 34) X 1 d_TextReader_operatorAt_34 rfl ?_
      refine J_ldcS (pc := 35) X 9 rfl rfl d_TextReader_operatorAt_35 ?_
      obtain ⟨u10, eu10, hM⟩ := hb_some hM
      obtain ⟨q11, eq11, hM⟩ := hb_some hM
      refine J_callV (pc := 37) (As := [.int x1, .ref (K.1 9)]) (rest := []) (o := (some (.int q11.1))) (h2 := q11.2) X rfl hc_Words eu10 (c_Words_is l D K F eq11) (cwV_of (nA := 2) X.fix k_261 k_263 k_264 k_88 k_262 ⟨rfl, rfl, rfl⟩ (by decide +kernel) ⟨Nat.le_of_ble_eq_true rfl, Nat.le_of_ble_eq_true rfl⟩) d_TextReader_operatorAt_37 rfl rfl (Nat.le_of_ble_eq_true rfl) (Nat.le_of_ble_eq_true rfl) (Nat.le_of_ble_eq_true rfl) ?_
      refine J_if_eq (pc := 40) (tgt := 46) X d_TextReader_operatorAt_40 (by decide) (fun c12 => ?_) (fun c12 => ?_)
      · have hM := hif_t hM c12
        refine J_aload_n (pc := 46) X 0 d_TextReader_operatorAt_46 rfl ?_
        obtain ⟨v13, ev13, hM⟩ := hb_some hM
        refine J_getA (pc := 47) X hc_TextReader in_TextReader 2 k_237 (by decide) rfl d_TextReader_operatorAt_47 rfl ev13 ?_
        refine J_iload_n (pc := 50) X 1 d_TextReader_operatorAt_50 rfl ?_
        refine J_ldcS (pc := 51) X 10 rfl rfl d_TextReader_operatorAt_51 ?_
        obtain ⟨u14, eu14, hM⟩ := hb_some hM
        obtain ⟨q15, eq15, hM⟩ := hb_some hM
        refine J_callV (pc := 53) (As := [.int x1, .ref (K.1 10)]) (rest := []) (o := (some (.int q15.1))) (h2 := q15.2) X rfl hc_Words eu14 (c_Words_is l D K F eq15) (cwV_of (nA := 2) X.fix k_261 k_263 k_264 k_88 k_262 ⟨rfl, rfl, rfl⟩ (by decide +kernel) ⟨Nat.le_of_ble_eq_true rfl, Nat.le_of_ble_eq_true rfl⟩) d_TextReader_operatorAt_53 rfl rfl (Nat.le_of_ble_eq_true rfl) (Nat.le_of_ble_eq_true rfl) (Nat.le_of_ble_eq_true rfl) ?_
        refine J_if_eq (pc := 56) (tgt := 62) X d_TextReader_operatorAt_56 (by decide) (fun c16 => ?_) (fun c16 => ?_)
        · have hM := hif_t hM c16
          refine J_aload_n (pc := 62) X 0 d_TextReader_operatorAt_62 rfl ?_
          obtain ⟨v17, ev17, hM⟩ := hb_some hM
          refine J_getA (pc := 63) X hc_TextReader in_TextReader 2 k_237 (by decide) rfl d_TextReader_operatorAt_63 rfl ev17 ?_
          refine J_iload_n (pc := 66) X 1 d_TextReader_operatorAt_66 rfl ?_
          refine J_ldcS (pc := 67) X 11 rfl rfl d_TextReader_operatorAt_67 ?_
          obtain ⟨u18, eu18, hM⟩ := hb_some hM
          obtain ⟨q19, eq19, hM⟩ := hb_some hM
          refine J_callV (pc := 69) (As := [.int x1, .ref (K.1 11)]) (rest := []) (o := (some (.int q19.1))) (h2 := q19.2) X rfl hc_Words eu18 (c_Words_is l D K F eq19) (cwV_of (nA := 2) X.fix k_261 k_263 k_264 k_88 k_262 ⟨rfl, rfl, rfl⟩ (by decide +kernel) ⟨Nat.le_of_ble_eq_true rfl, Nat.le_of_ble_eq_true rfl⟩) d_TextReader_operatorAt_69 rfl rfl (Nat.le_of_ble_eq_true rfl) (Nat.le_of_ble_eq_true rfl) (Nat.le_of_ble_eq_true rfl) ?_
          refine J_if_eq (pc := 72) (tgt := 80) X d_TextReader_operatorAt_72 (by decide) (fun c20 => ?_) (fun c20 => ?_)
          · have hM := hif_t hM c20
            refine J_iconst (pc := 80) (v := (-1)) X d_TextReader_operatorAt_80 (by decide) ?_
            obtain rfl := Option.some.inj hM
            exact J_iret (pc := 81) X hr hlk (Nat.le_of_ble_eq_true rfl) (Nat.le_of_ble_eq_true rfl) d_TextReader_operatorAt_81
          · have hM := hif_f hM c20
            refine J_bipush (pc := 75) (v := (8)) X d_TextReader_operatorAt_75 (by decide) ?_
            refine J_goto (pc := 77) (tgt := 81) X d_TextReader_operatorAt_77 (by decide) ?_
            obtain rfl := Option.some.inj hM
            exact J_iret (pc := 81) X hr hlk (Nat.le_of_ble_eq_true rfl) (Nat.le_of_ble_eq_true rfl) d_TextReader_operatorAt_81
        · have hM := hif_f hM c16
          refine J_bipush (pc := 59) (v := (7)) X d_TextReader_operatorAt_59 (by decide) ?_
          obtain rfl := Option.some.inj hM
          exact J_iret (pc := 61) X hr hlk (Nat.le_of_ble_eq_true rfl) (Nat.le_of_ble_eq_true rfl) d_TextReader_operatorAt_61
      · have hM := hif_f hM c12
        refine J_bipush (pc := 43) (v := (6)) X d_TextReader_operatorAt_43 (by decide) ?_
        obtain rfl := Option.some.inj hM
        exact J_iret (pc := 45) X hr hlk (Nat.le_of_ble_eq_true rfl) (Nat.le_of_ble_eq_true rfl) d_TextReader_operatorAt_45
    · have hM := hif_f hM c8
      refine J_iconst (pc := 28) (v := (5)) X d_TextReader_operatorAt_28 (by decide) ?_
      obtain rfl := Option.some.inj hM
      exact J_iret (pc := 29) X hr hlk (Nat.le_of_ble_eq_true rfl) (Nat.le_of_ble_eq_true rfl) d_TextReader_operatorAt_29
  · have hM := hif_f hM c4
    refine J_iconst (pc := 13) (v := (4)) X d_TextReader_operatorAt_13 (by decide) ?_
    obtain rfl := Option.some.inj hM
    exact J_iret (pc := 14) X hr hlk (Nat.le_of_ble_eq_true rfl) (Nat.le_of_ble_eq_true rfl) d_TextReader_operatorAt_14
abbrev rm_TextReader_relationAt : Room := { frames := 5, cells := 0, slots := 0, locals := 109 }
set_option maxHeartbeats 4000000 in
set_option maxRecDepth 100000 in
theorem c_TextReader_relationAt (l : Launch) (D : va_G) (K : (Nat → Nat) × (Nat → Nat)) (F : Nat) {h : hH} {x0 : Nat} {x1 : Int32} {q : (Int32 × hH)} (hM : M_TextReader_relationAt F h x0 x1 = some q) : Met l y_TextReader_relationAt (.code y_TextReader_relationAt prog_11_method_19_code 2 (some .int) :: T0) rm_TextReader_relationAt (hPc hG D cls0 K [.ref x0, .int x1] h) (hQ D cls0 h (some (.int q.1)) q.2) 0 0 (hF h) := by
  refine J_met (lv := [(0, .ref x0), (1, .int x1)]) (by decide) (Nat.le_of_ble_eq_true rfl) rfl ?_
  intro p e s m below meth c X hr hlk hnm
  have Y : HX p s m _ meth c prog_11_method_19_code 2 "LicenceTexts$TextReader" D K "relationAt" (some .int) h := ⟨X, hr, hlk, hnm⟩
  unfold M_TextReader_relationAt at hM
  refine J_aload_n (pc := 0) X 0 d_TextReader_relationAt_0 rfl ?_
  obtain ⟨v1, ev1, hM⟩ := hb_some hM
  refine J_getA (pc := 1) X hc_TextReader in_TextReader 2 k_237 (by decide) rfl d_TextReader_relationAt_1 rfl ev1 ?_
  refine J_iload_n (pc := 4) X 1 d_TextReader_relationAt_4 rfl ?_
  refine J_ldcS (pc := 5) X 13 rfl rfl d_TextReader_relationAt_5 ?_
  obtain ⟨u2, eu2, hM⟩ := hb_some hM
  obtain ⟨q3, eq3, hM⟩ := hb_some hM
  refine J_callV (pc := 7) (As := [.int x1, .ref (K.1 13)]) (rest := []) (o := (some (.int q3.1))) (h2 := q3.2) X rfl hc_Words eu2 (c_Words_is l D K F eq3) (cwV_of (nA := 2) X.fix k_261 k_263 k_264 k_88 k_262 ⟨rfl, rfl, rfl⟩ (by decide +kernel) ⟨Nat.le_of_ble_eq_true rfl, Nat.le_of_ble_eq_true rfl⟩) d_TextReader_relationAt_7 rfl rfl (Nat.le_of_ble_eq_true rfl) (Nat.le_of_ble_eq_true rfl) (Nat.le_of_ble_eq_true rfl) ?_
  refine J_if_eq (pc := 10) (tgt := 16) X d_TextReader_relationAt_10 (by decide) (fun c4 => ?_) (fun c4 => ?_)
  · have hM := hif_t hM c4
    refine J_aload_n (pc := 16) X 0 d_TextReader_relationAt_16 rfl ?_
    obtain ⟨v5, ev5, hM⟩ := hb_some hM
    refine J_getA (pc := 17) X hc_TextReader in_TextReader 2 k_237 (by decide) rfl d_TextReader_relationAt_17 rfl ev5 ?_
    refine J_iload_n (pc := 20) X 1 d_TextReader_relationAt_20 rfl ?_
    refine J_ldcS (pc := 21) X 14 rfl rfl d_TextReader_relationAt_21 ?_
    obtain ⟨u6, eu6, hM⟩ := hb_some hM
    obtain ⟨q7, eq7, hM⟩ := hb_some hM
    refine J_callV (pc := 23) (As := [.int x1, .ref (K.1 14)]) (rest := []) (o := (some (.int q7.1))) (h2 := q7.2) X rfl hc_Words eu6 (c_Words_is l D K F eq7) (cwV_of (nA := 2) X.fix k_261 k_263 k_264 k_88 k_262 ⟨rfl, rfl, rfl⟩ (by decide +kernel) ⟨Nat.le_of_ble_eq_true rfl, Nat.le_of_ble_eq_true rfl⟩) d_TextReader_relationAt_23 rfl rfl (Nat.le_of_ble_eq_true rfl) (Nat.le_of_ble_eq_true rfl) (Nat.le_of_ble_eq_true rfl) ?_
    refine J_if_eq (pc := 26) (tgt := 32) X d_TextReader_relationAt_26 (by decide) (fun c8 => ?_) (fun c8 => ?_)
    · have hM := hif_t hM c8
      refine J_aload_n (pc := 32) X 0 d_TextReader_relationAt_32 rfl ?_
      obtain ⟨v9, ev9, hM⟩ := hb_some hM
      refine J_getA (pc := 33) X hc_TextReader in_TextReader 2 k_237 (by decide) rfl d_TextReader_relationAt_33 rfl ev9 ?_
      refine J_iload_n (pc := 36) X 1 d_TextReader_relationAt_36 rfl ?_
      refine J_ldcS (pc := 37) X 15 rfl rfl d_TextReader_relationAt_37 ?_
      obtain ⟨u10, eu10, hM⟩ := hb_some hM
      obtain ⟨q11, eq11, hM⟩ := hb_some hM
      refine J_callV (pc := 39) (As := [.int x1, .ref (K.1 15)]) (rest := []) (o := (some (.int q11.1))) (h2 := q11.2) X rfl hc_Words eu10 (c_Words_is l D K F eq11) (cwV_of (nA := 2) X.fix k_261 k_263 k_264 k_88 k_262 ⟨rfl, rfl, rfl⟩ (by decide +kernel) ⟨Nat.le_of_ble_eq_true rfl, Nat.le_of_ble_eq_true rfl⟩) d_TextReader_relationAt_39 rfl rfl (Nat.le_of_ble_eq_true rfl) (Nat.le_of_ble_eq_true rfl) (Nat.le_of_ble_eq_true rfl) ?_
      refine J_if_eq (pc := 42) (tgt := 48) X d_TextReader_relationAt_42 (by decide) (fun c12 => ?_) (fun c12 => ?_)
      · have hM := hif_t hM c12
        refine J_aload_n (pc := 48) X 0 d_TextReader_relationAt_48 rfl ?_
        obtain ⟨v13, ev13, hM⟩ := hb_some hM
        refine J_getA (pc := 49) X hc_TextReader in_TextReader 2 k_237 (by decide) rfl d_TextReader_relationAt_49 rfl ev13 ?_
        refine J_iload_n (pc := 52) X 1 d_TextReader_relationAt_52 rfl ?_
        refine J_ldcS (pc := 53) X 16 rfl rfl d_TextReader_relationAt_53 ?_
        obtain ⟨u14, eu14, hM⟩ := hb_some hM
        obtain ⟨q15, eq15, hM⟩ := hb_some hM
        refine J_callV (pc := 55) (As := [.int x1, .ref (K.1 16)]) (rest := []) (o := (some (.int q15.1))) (h2 := q15.2) X rfl hc_Words eu14 (c_Words_is l D K F eq15) (cwV_of (nA := 2) X.fix k_261 k_263 k_264 k_88 k_262 ⟨rfl, rfl, rfl⟩ (by decide +kernel) ⟨Nat.le_of_ble_eq_true rfl, Nat.le_of_ble_eq_true rfl⟩) d_TextReader_relationAt_55 rfl rfl (Nat.le_of_ble_eq_true rfl) (Nat.le_of_ble_eq_true rfl) (Nat.le_of_ble_eq_true rfl) ?_
        refine J_if_eq (pc := 58) (tgt := 66) X d_TextReader_relationAt_58 (by decide) (fun c16 => ?_) (fun c16 => ?_)
        · have hM := hif_t hM c16
          refine J_iconst (pc := 66) (v := (-1)) X d_TextReader_relationAt_66 (by decide) ?_
          obtain rfl := Option.some.inj hM
          exact J_iret (pc := 67) X hr hlk (Nat.le_of_ble_eq_true rfl) (Nat.le_of_ble_eq_true rfl) d_TextReader_relationAt_67
        · have hM := hif_f hM c16
          refine J_bipush (pc := 61) (v := (12)) X d_TextReader_relationAt_61 (by decide) ?_
          refine J_goto (pc := 63) (tgt := 67) X d_TextReader_relationAt_63 (by decide) ?_
          obtain rfl := Option.some.inj hM
          exact J_iret (pc := 67) X hr hlk (Nat.le_of_ble_eq_true rfl) (Nat.le_of_ble_eq_true rfl) d_TextReader_relationAt_67
      · have hM := hif_f hM c12
        refine J_bipush (pc := 45) (v := (11)) X d_TextReader_relationAt_45 (by decide) ?_
        obtain rfl := Option.some.inj hM
        exact J_iret (pc := 47) X hr hlk (Nat.le_of_ble_eq_true rfl) (Nat.le_of_ble_eq_true rfl) d_TextReader_relationAt_47
    · have hM := hif_f hM c8
      refine J_bipush (pc := 29) (v := (10)) X d_TextReader_relationAt_29 (by decide) ?_
      obtain rfl := Option.some.inj hM
      exact J_iret (pc := 31) X hr hlk (Nat.le_of_ble_eq_true rfl) (Nat.le_of_ble_eq_true rfl) d_TextReader_relationAt_31
  · have hM := hif_f hM c4
    refine J_bipush (pc := 13) (v := (9)) X d_TextReader_relationAt_13 (by decide) ?_
    obtain rfl := Option.some.inj hM
    exact J_iret (pc := 15) X hr hlk (Nat.le_of_ble_eq_true rfl) (Nat.le_of_ble_eq_true rfl) d_TextReader_relationAt_15
abbrev rm_TextReader_takeNeed : Room := { frames := 5, cells := 0, slots := 0, locals := 109 }
set_option maxHeartbeats 4000000 in
set_option maxRecDepth 100000 in
theorem c_TextReader_takeNeed (l : Launch) (D : va_G) (K : (Nat → Nat) × (Nat → Nat)) (F : Nat) {h : hH} {x0 : Nat} {x1 : Int32} {q : (Int32 × hH)} (hM : M_TextReader_takeNeed F h x0 x1 = some q) : Met l y_TextReader_takeNeed (.code y_TextReader_takeNeed prog_11_method_11_code 2 (some .boolean) :: T0) rm_TextReader_takeNeed (hPc hG D cls0 K [.ref x0, .int x1] h) (hQ D cls0 h (some (.int q.1)) q.2) 0 0 (hF h) := by
  refine J_met (lv := [(0, .ref x0), (1, .int x1)]) (by decide) (Nat.le_of_ble_eq_true rfl) rfl ?_
  intro p e s m below meth c X hr hlk hnm
  have Y : HX p s m _ meth c prog_11_method_11_code 2 "LicenceTexts$TextReader" D K "takeNeed" (some .boolean) h := ⟨X, hr, hlk, hnm⟩
  unfold M_TextReader_takeNeed at hM
  refine J_aload_n (pc := 0) X 0 d_TextReader_takeNeed_0 rfl ?_
  obtain ⟨v1, ev1, hM⟩ := hb_some hM
  refine J_getA (pc := 1) X hc_TextReader in_TextReader 2 k_237 (by decide) rfl d_TextReader_takeNeed_1 rfl ev1 ?_
  refine J_iload_n (pc := 4) X 1 d_TextReader_takeNeed_4 rfl ?_
  refine J_ldcS (pc := 5) X 18 rfl rfl d_TextReader_takeNeed_5 ?_
  obtain ⟨u2, eu2, hM⟩ := hb_some hM
  obtain ⟨q3, eq3, hM⟩ := hb_some hM
  refine J_callV (pc := 7) (As := [.int x1, .ref (K.1 18)]) (rest := []) (o := (some (.int q3.1))) (h2 := q3.2) X rfl hc_Words eu2 (c_Words_is l D K F eq3) (cwV_of (nA := 2) X.fix k_261 k_263 k_264 k_88 k_262 ⟨rfl, rfl, rfl⟩ (by decide +kernel) ⟨Nat.le_of_ble_eq_true rfl, Nat.le_of_ble_eq_true rfl⟩) d_TextReader_takeNeed_7 rfl rfl (Nat.le_of_ble_eq_true rfl) (Nat.le_of_ble_eq_true rfl) (Nat.le_of_ble_eq_true rfl) ?_
  refine J_if_ne (pc := 10) (tgt := 15) X d_TextReader_takeNeed_10 (by decide) (fun c4 => ?_) (fun c4 => ?_)
  · have hM := hif_f hM c4
    refine J_aload_n (pc := 15) X 0 d_TextReader_takeNeed_15 rfl ?_
    obtain ⟨v5, ev5, hM⟩ := hb_some hM
    refine J_getA (pc := 16) X hc_TextReader in_TextReader 1 k_236 (by decide) rfl d_TextReader_takeNeed_16 rfl ev5 ?_
    obtain ⟨u6, eu6, hM⟩ := hb_some hM
    obtain ⟨h7, eh7, hM⟩ := hb_some hM
    refine J_callV (pc := 19) (As := []) (rest := []) (o := none) (h2 := h7) X rfl hc_Edition eu6 (c_Edition_beginNeed l D K F eh7) (cwV_of (nA := 0) X.fix k_265 k_267 k_268 k_167 k_266 ⟨rfl, rfl, rfl⟩ (by decide +kernel) ⟨Nat.le_of_ble_eq_true rfl, Nat.le_of_ble_eq_true rfl⟩) d_TextReader_takeNeed_19 rfl rfl (Nat.le_of_ble_eq_true rfl) (Nat.le_of_ble_eq_true rfl) (Nat.le_of_ble_eq_true rfl) ?_
    refine J_aload_n (pc := 22) X 0 d_TextReader_takeNeed_22 rfl ?_
    refine J_iconst (pc := 23) (v := (0)) X d_TextReader_takeNeed_23 (by decide) ?_
    obtain ⟨h8, eh8, hM⟩ := hb_some hM
    refine J_put (pc := 24) X hc_TextReader in_TextReader t_TextReader tk_TextReader nk_TextReader 7 k_242 (by decide) rfl rfl d_TextReader_takeNeed_24 rfl rfl rfl eh8 ?_
    refine J_aload_n (pc := 27) X 0 d_TextReader_takeNeed_27 rfl ?_
    refine J_iconst (pc := 28) (v := (2)) X d_TextReader_takeNeed_28 (by decide) ?_
    obtain ⟨h9, eh9, hM⟩ := hb_some hM
    refine J_put (pc := 29) X hc_TextReader in_TextReader t_TextReader tk_TextReader nk_TextReader 4 k_239 (by decide) rfl rfl d_TextReader_takeNeed_29 rfl rfl rfl eh9 ?_
    refine J_iconst (pc := 32) (v := (1)) X d_TextReader_takeNeed_32 (by decide) ?_
    obtain rfl := Option.some.inj hM
    exact J_zret (pc := 33) X hr hz1 hlk (Nat.le_of_ble_eq_true rfl) (Nat.le_of_ble_eq_true rfl) d_TextReader_takeNeed_33
  · have hM := hif_t hM c4
    refine J_iconst (pc := 13) (v := (0)) X d_TextReader_takeNeed_13 (by decide) ?_
    obtain rfl := Option.some.inj hM
    exact J_zret (pc := 14) X hr hz0 hlk (Nat.le_of_ble_eq_true rfl) (Nat.le_of_ble_eq_true rfl) d_TextReader_takeNeed_14
abbrev rm_TextReader_takeRuleEnd : Room := { frames := 5, cells := 0, slots := 0, locals := 109 }
set_option maxHeartbeats 4000000 in
set_option maxRecDepth 100000 in
theorem c_TextReader_takeRuleEnd (l : Launch) (D : va_G) (K : (Nat → Nat) × (Nat → Nat)) (F : Nat) {h : hH} {x0 : Nat} {x1 : Int32} {q : (Int32 × hH)} (hM : M_TextReader_takeRuleEnd F h x0 x1 = some q) : Met l y_TextReader_takeRuleEnd (.code y_TextReader_takeRuleEnd prog_11_method_12_code 2 (some .boolean) :: T0) rm_TextReader_takeRuleEnd (hPc hG D cls0 K [.ref x0, .int x1] h) (hQ D cls0 h (some (.int q.1)) q.2) 0 0 (hF h) := by
  refine J_met (lv := [(0, .ref x0), (1, .int x1)]) (by decide) (Nat.le_of_ble_eq_true rfl) rfl ?_
  intro p e s m below meth c X hr hlk hnm
  have Y : HX p s m _ meth c prog_11_method_12_code 2 "LicenceTexts$TextReader" D K "takeRuleEnd" (some .boolean) h := ⟨X, hr, hlk, hnm⟩
  unfold M_TextReader_takeRuleEnd at hM
  refine J_aload_n (pc := 0) X 0 d_TextReader_takeRuleEnd_0 rfl ?_
  obtain ⟨v1, ev1, hM⟩ := hb_some hM
  refine J_getA (pc := 1) X hc_TextReader in_TextReader 2 k_237 (by decide) rfl d_TextReader_takeRuleEnd_1 rfl ev1 ?_
  refine J_iload_n (pc := 4) X 1 d_TextReader_takeRuleEnd_4 rfl ?_
  refine J_ldcS (pc := 5) X 3 rfl rfl d_TextReader_takeRuleEnd_5 ?_
  obtain ⟨u2, eu2, hM⟩ := hb_some hM
  obtain ⟨q3, eq3, hM⟩ := hb_some hM
  refine J_callV (pc := 7) (As := [.int x1, .ref (K.1 3)]) (rest := []) (o := (some (.int q3.1))) (h2 := q3.2) X rfl hc_Words eu2 (c_Words_is l D K F eq3) (cwV_of (nA := 2) X.fix k_261 k_263 k_264 k_88 k_262 ⟨rfl, rfl, rfl⟩ (by decide +kernel) ⟨Nat.le_of_ble_eq_true rfl, Nat.le_of_ble_eq_true rfl⟩) d_TextReader_takeRuleEnd_7 rfl rfl (Nat.le_of_ble_eq_true rfl) (Nat.le_of_ble_eq_true rfl) (Nat.le_of_ble_eq_true rfl) ?_
  refine J_if_ne (pc := 10) (tgt := 15) X d_TextReader_takeRuleEnd_10 (by decide) (fun c4 => ?_) (fun c4 => ?_)
  · have hM := hif_f hM c4
    refine J_aload_n (pc := 15) X 0 d_TextReader_takeRuleEnd_15 rfl ?_
    obtain ⟨v5, ev5, hM⟩ := hb_some hM
    refine J_getA (pc := 16) X hc_TextReader in_TextReader 1 k_236 (by decide) rfl d_TextReader_takeRuleEnd_16 rfl ev5 ?_
    refine J_iload_n (pc := 19) X 1 d_TextReader_takeRuleEnd_19 rfl ?_
    obtain ⟨u6, eu6, hM⟩ := hb_some hM
    obtain ⟨h7, eh7, hM⟩ := hb_some hM
    refine J_callV (pc := 20) (As := [.int x1]) (rest := []) (o := none) (h2 := h7) X rfl hc_Edition eu6 (c_Edition_endRule l D K F eh7) (cwV_of (nA := 1) X.fix k_269 k_271 k_272 k_167 k_270 ⟨rfl, rfl, rfl⟩ (by decide +kernel) ⟨Nat.le_of_ble_eq_true rfl, Nat.le_of_ble_eq_true rfl⟩) d_TextReader_takeRuleEnd_20 rfl rfl (Nat.le_of_ble_eq_true rfl) (Nat.le_of_ble_eq_true rfl) (Nat.le_of_ble_eq_true rfl) ?_
    refine J_aload_n (pc := 23) X 0 d_TextReader_takeRuleEnd_23 rfl ?_
    refine J_iconst (pc := 24) (v := (0)) X d_TextReader_takeRuleEnd_24 (by decide) ?_
    obtain ⟨h8, eh8, hM⟩ := hb_some hM
    refine J_put (pc := 25) X hc_TextReader in_TextReader t_TextReader tk_TextReader nk_TextReader 4 k_239 (by decide) rfl rfl d_TextReader_takeRuleEnd_25 rfl rfl rfl eh8 ?_
    refine J_iconst (pc := 28) (v := (1)) X d_TextReader_takeRuleEnd_28 (by decide) ?_
    obtain rfl := Option.some.inj hM
    exact J_zret (pc := 29) X hr hz1 hlk (Nat.le_of_ble_eq_true rfl) (Nat.le_of_ble_eq_true rfl) d_TextReader_takeRuleEnd_29
  · have hM := hif_t hM c4
    refine J_iconst (pc := 13) (v := (0)) X d_TextReader_takeRuleEnd_13 (by decide) ?_
    obtain rfl := Option.some.inj hM
    exact J_zret (pc := 14) X hr hz0 hlk (Nat.le_of_ble_eq_true rfl) (Nat.le_of_ble_eq_true rfl) d_TextReader_takeRuleEnd_14
abbrev rm_TextReader_takeBehindAtom : Room := { frames := 6, cells := 0, slots := 0, locals := 130 }
set_option maxHeartbeats 4000000 in
set_option maxRecDepth 100000 in
theorem c_TextReader_takeBehindAtom (l : Launch) (D : va_G) (K : (Nat → Nat) × (Nat → Nat)) (F : Nat) {h : hH} {x0 : Nat} {x1 : Int32} {q : (Int32 × hH)} (hM : M_TextReader_takeBehindAtom F h x0 x1 = some q) : Met l y_TextReader_takeBehindAtom (.code y_TextReader_takeBehindAtom prog_11_method_10_code 3 (some .boolean) :: T0) rm_TextReader_takeBehindAtom (hPc hG D cls0 K [.ref x0, .int x1] h) (hQ D cls0 h (some (.int q.1)) q.2) 0 0 (hF h) := by
  refine J_met (lv := [(0, .ref x0), (1, .int x1)]) (by decide) (Nat.le_of_ble_eq_true rfl) rfl ?_
  intro p e s m below meth c X hr hlk hnm
  have Y : HX p s m _ meth c prog_11_method_10_code 3 "LicenceTexts$TextReader" D K "takeBehindAtom" (some .boolean) h := ⟨X, hr, hlk, hnm⟩
  unfold M_TextReader_takeBehindAtom at hM
  refine J_aload_n (pc := 0) X 0 d_TextReader_takeBehindAtom_0 rfl ?_
  refine J_iload_n (pc := 1) X 1 d_TextReader_takeBehindAtom_1 rfl ?_
  obtain ⟨u1, eu1, hM⟩ := hb_some hM
  obtain ⟨q2, eq2, hM⟩ := hb_some hM
  refine J_callV (pc := 2) (As := [.int x1]) (rest := []) (o := (some (.int q2.1))) (h2 := q2.2) X rfl hc_TextReader eu1 (c_TextReader_operatorAt l D K F eq2) (cwV_of (nA := 1) X.fix k_273 k_275 k_276 k_246 k_274 ⟨rfl, rfl, rfl⟩ (by decide +kernel) ⟨Nat.le_of_ble_eq_true rfl, Nat.le_of_ble_eq_true rfl⟩) d_TextReader_takeBehindAtom_2 rfl rfl (Nat.le_of_ble_eq_true rfl) (Nat.le_of_ble_eq_true rfl) (Nat.le_of_ble_eq_true rfl) ?_
  refine J_istore_n (pc := 5) (lv' := [(2, .int q2.1), (0, .ref x0), (1, .int x1)]) X d_TextReader_takeBehindAtom_5 rfl (by decide) rfl ?_
  refine J_iload_n (pc := 6) X 0 d_TextReader_takeBehindAtom_6 rfl ?_
  refine J_iconst (pc := 7) (v := (-1)) X d_TextReader_takeBehindAtom_7 (by decide) ?_
  refine J_icmp_eq (pc := 8) (tgt := 35) X d_TextReader_takeBehindAtom_8 (by decide) (fun c3 => ?_) (fun c3 => ?_)
  · have hM := hif_t hM c3
    refine J_aload_n (pc := 35) X 1 d_TextReader_takeBehindAtom_35 rfl ?_
    obtain ⟨v4, ev4, hM⟩ := hb_some hM
    refine J_getI (pc := 36) X hc_TextReader in_TextReader 5 k_240 (by decide) rfl d_TextReader_takeBehindAtom_36 rfl ev4 ?_
    refine J_if_le (pc := 39) (tgt := 68) X d_TextReader_takeBehindAtom_39 (by decide) (fun c5 => ?_) (fun c5 => ?_)
    · have hM := hif_t hM c5
      refine J_aload_n (pc := 68) X 1 d_TextReader_takeBehindAtom_68 rfl ?_
      refine J_iconst (pc := 69) (v := (1)) X d_TextReader_takeBehindAtom_69 (by decide) ?_
      obtain ⟨u6, eu6, hM⟩ := hb_some hM
      obtain ⟨h7, eh7, hM⟩ := hb_some hM
      refine J_callV (pc := 70) (As := [.int 1]) (rest := []) (o := none) (h2 := h7) X rfl hc_TextReader eu6 (c_TextReader_settle l D K F eh7) (cwV_of (nA := 1) X.fix k_257 k_259 k_260 k_246 k_258 ⟨rfl, rfl, rfl⟩ (by decide +kernel) ⟨Nat.le_of_ble_eq_true rfl, Nat.le_of_ble_eq_true rfl⟩) d_TextReader_takeBehindAtom_70 rfl rfl (Nat.le_of_ble_eq_true rfl) (Nat.le_of_ble_eq_true rfl) (Nat.le_of_ble_eq_true rfl) ?_
      refine J_aload_n (pc := 73) X 1 d_TextReader_takeBehindAtom_73 rfl ?_
      obtain ⟨v8, ev8, hM⟩ := hb_some hM
      refine J_getI (pc := 74) X hc_TextReader in_TextReader 6 k_241 (by decide) rfl d_TextReader_takeBehindAtom_74 rfl ev8 ?_
      refine J_iconst (pc := 77) (v := (-1)) X d_TextReader_takeBehindAtom_77 (by decide) ?_
      refine J_icmp_ne (pc := 78) (tgt := 109) X d_TextReader_takeBehindAtom_78 (by decide) (fun c9 => ?_) (fun c9 => ?_)
      · have hM := hif_f hM c9
        refine J_aload_n (pc := 109) X 1 d_TextReader_takeBehindAtom_109 rfl ?_
        obtain ⟨v10, ev10, hM⟩ := hb_some hM
        refine J_getA (pc := 110) X hc_TextReader in_TextReader 3 k_238 (by decide) rfl d_TextReader_takeBehindAtom_110 rfl ev10 ?_
        refine J_aload_n (pc := 113) X 1 d_TextReader_takeBehindAtom_113 rfl ?_
        obtain ⟨v11, ev11, hM⟩ := hb_some hM
        refine J_getI (pc := 114) X hc_TextReader in_TextReader 6 k_241 (by decide) rfl d_TextReader_takeBehindAtom_114 rfl ev11 ?_
        refine J_iconst (pc := 117) (v := (-1)) X d_TextReader_takeBehindAtom_117 (by decide) ?_
        obtain ⟨u12, eu12, hM⟩ := hb_some hM
        obtain ⟨h13, eh13, hM⟩ := hb_some hM
        refine J_callV (pc := 118) (As := [.int v11, .int (-1)]) (rest := []) (o := none) (h2 := h13) X rfl hc_Steps eu12 (c_Steps_add l D K F eh13) (cwV_of (nA := 2) X.fix k_249 k_251 k_252 k_133 k_250 ⟨rfl, rfl, rfl⟩ (by decide +kernel) ⟨Nat.le_of_ble_eq_true rfl, Nat.le_of_ble_eq_true rfl⟩) d_TextReader_takeBehindAtom_118 rfl rfl (Nat.le_of_ble_eq_true rfl) (Nat.le_of_ble_eq_true rfl) (Nat.le_of_ble_eq_true rfl) ?_
        refine J_aload_n (pc := 121) X 1 d_TextReader_takeBehindAtom_121 rfl ?_
        refine J_iconst (pc := 122) (v := (-1)) X d_TextReader_takeBehindAtom_122 (by decide) ?_
        obtain ⟨h14, eh14, hM⟩ := hb_some hM
        refine J_put (pc := 123) X hc_TextReader in_TextReader t_TextReader tk_TextReader nk_TextReader 6 k_241 (by decide) rfl rfl d_TextReader_takeBehindAtom_123 rfl rfl rfl eh14 ?_
        refine J_aload_n (pc := 126) X 1 d_TextReader_takeBehindAtom_126 rfl ?_
        obtain ⟨v15, ev15, hM⟩ := hb_some hM
        refine J_getA (pc := 127) X hc_TextReader in_TextReader 2 k_237 (by decide) rfl d_TextReader_takeBehindAtom_127 rfl ev15 ?_
        refine J_iload_n (pc := 130) X 2 d_TextReader_takeBehindAtom_130 rfl ?_
        refine J_ldcS (pc := 131) X 17 rfl rfl d_TextReader_takeBehindAtom_131 ?_
        obtain ⟨u16, eu16, hM⟩ := hb_some hM
        obtain ⟨q17, eq17, hM⟩ := hb_some hM
        refine J_callV (pc := 133) (As := [.int x1, .ref (K.1 17)]) (rest := []) (o := (some (.int q17.1))) (h2 := q17.2) X rfl hc_Words eu16 (c_Words_is l D K F eq17) (cwV_of (nA := 2) X.fix k_261 k_263 k_264 k_88 k_262 ⟨rfl, rfl, rfl⟩ (by decide +kernel) ⟨Nat.le_of_ble_eq_true rfl, Nat.le_of_ble_eq_true rfl⟩) d_TextReader_takeBehindAtom_133 rfl rfl (Nat.le_of_ble_eq_true rfl) (Nat.le_of_ble_eq_true rfl) (Nat.le_of_ble_eq_true rfl) ?_
        refine J_if_eq (pc := 136) (tgt := 146) X d_TextReader_takeBehindAtom_136 (by decide) (fun c18 => ?_) (fun c18 => ?_)
        · have hM := hif_t hM c18
          refine J_aload_n (pc := 146) X 1 d_TextReader_takeBehindAtom_146 rfl ?_
          obtain ⟨v19, ev19, hM⟩ := hb_some hM
          refine J_getI (pc := 147) X hc_TextReader in_TextReader 7 k_242 (by decide) rfl d_TextReader_takeBehindAtom_147 rfl ev19 ?_
          refine J_if_eq (pc := 150) (tgt := 161) X d_TextReader_takeBehindAtom_150 (by decide) (fun c20 => ?_) (fun c20 => ?_)
          · have hM := hif_t hM c20
            refine J_aload_n (pc := 161) X 1 d_TextReader_takeBehindAtom_161 rfl ?_
            refine J_iload_n (pc := 162) X 2 d_TextReader_takeBehindAtom_162 rfl ?_
            obtain ⟨u21, eu21, hM⟩ := hb_some hM
            obtain ⟨q22, eq22, hM⟩ := hb_some hM
            refine J_callV (pc := 163) (As := [.int x1]) (rest := []) (o := (some (.int q22.1))) (h2 := q22.2) X rfl hc_TextReader eu21 (c_TextReader_takeRuleEnd l D K F eq22) (cwV_of (nA := 1) X.fix k_277 k_279 k_280 k_246 k_278 ⟨rfl, rfl, rfl⟩ (by decide +kernel) ⟨Nat.le_of_ble_eq_true rfl, Nat.le_of_ble_eq_true rfl⟩) d_TextReader_takeBehindAtom_163 rfl rfl (Nat.le_of_ble_eq_true rfl) (Nat.le_of_ble_eq_true rfl) (Nat.le_of_ble_eq_true rfl) ?_
            obtain ⟨u23, eu23, hM⟩ := hb_some hM
            obtain rfl := Option.some.inj hM
            exact J_zret (pc := 166) X hr (hZ_of eu23) hlk (Nat.le_of_ble_eq_true rfl) (Nat.le_of_ble_eq_true rfl) d_TextReader_takeBehindAtom_166
          · have hM := hif_f hM c20
            refine J_aload_n (pc := 153) X 1 d_TextReader_takeBehindAtom_153 rfl ?_
            refine J_iload_n (pc := 154) X 2 d_TextReader_takeBehindAtom_154 rfl ?_
            obtain ⟨u24, eu24, hM⟩ := hb_some hM
            obtain ⟨q25, eq25, hM⟩ := hb_some hM
            refine J_callV (pc := 155) (As := [.int x1]) (rest := []) (o := (some (.int q25.1))) (h2 := q25.2) X rfl hc_TextReader eu24 (c_TextReader_takeNeed l D K F eq25) (cwV_of (nA := 1) X.fix k_281 k_283 k_284 k_246 k_282 ⟨rfl, rfl, rfl⟩ (by decide +kernel) ⟨Nat.le_of_ble_eq_true rfl, Nat.le_of_ble_eq_true rfl⟩) d_TextReader_takeBehindAtom_155 rfl rfl (Nat.le_of_ble_eq_true rfl) (Nat.le_of_ble_eq_true rfl) (Nat.le_of_ble_eq_true rfl) ?_
            refine J_goto (pc := 158) (tgt := 166) X d_TextReader_takeBehindAtom_158 (by decide) ?_
            obtain ⟨u26, eu26, hM⟩ := hb_some hM
            obtain rfl := Option.some.inj hM
            exact J_zret (pc := 166) X hr (hZ_of eu26) hlk (Nat.le_of_ble_eq_true rfl) (Nat.le_of_ble_eq_true rfl) d_TextReader_takeBehindAtom_166
        · have hM := hif_f hM c18
          refine J_aload_n (pc := 139) X 1 d_TextReader_takeBehindAtom_139 rfl ?_
          refine J_iconst (pc := 140) (v := (2)) X d_TextReader_takeBehindAtom_140 (by decide) ?_
          obtain ⟨h27, eh27, hM⟩ := hb_some hM
          refine J_put (pc := 141) X hc_TextReader in_TextReader t_TextReader tk_TextReader nk_TextReader 4 k_239 (by decide) rfl rfl d_TextReader_takeBehindAtom_141 rfl rfl rfl eh27 ?_
          refine J_iconst (pc := 144) (v := (1)) X d_TextReader_takeBehindAtom_144 (by decide) ?_
          obtain rfl := Option.some.inj hM
          exact J_zret (pc := 145) X hr hz1 hlk (Nat.le_of_ble_eq_true rfl) (Nat.le_of_ble_eq_true rfl) d_TextReader_takeBehindAtom_145
      · have hM := hif_t hM c9
        refine J_aload_n (pc := 81) X 1 d_TextReader_takeBehindAtom_81 rfl ?_
        refine J_aload_n (pc := 82) X 1 d_TextReader_takeBehindAtom_82 rfl ?_
        refine J_iload_n (pc := 83) X 2 d_TextReader_takeBehindAtom_83 rfl ?_
        obtain ⟨u28, eu28, hM⟩ := hb_some hM
        obtain ⟨q29, eq29, hM⟩ := hb_some hM
        refine J_callV (pc := 84) (As := [.int x1]) (rest := [.ref x0]) (o := (some (.int q29.1))) (h2 := q29.2) X rfl hc_TextReader eu28 (c_TextReader_relationAt l D K F eq29) (cwV_of (nA := 1) X.fix k_285 k_287 k_288 k_246 k_286 ⟨rfl, rfl, rfl⟩ (by decide +kernel) ⟨Nat.le_of_ble_eq_true rfl, Nat.le_of_ble_eq_true rfl⟩) d_TextReader_takeBehindAtom_84 rfl rfl (Nat.le_of_ble_eq_true rfl) (Nat.le_of_ble_eq_true rfl) (Nat.le_of_ble_eq_true rfl) ?_
        obtain ⟨h30, eh30, hM⟩ := hb_some hM
        refine J_put (pc := 87) X hc_TextReader in_TextReader t_TextReader tk_TextReader nk_TextReader 6 k_241 (by decide) rfl rfl d_TextReader_takeBehindAtom_87 rfl rfl rfl eh30 ?_
        refine J_aload_n (pc := 90) X 1 d_TextReader_takeBehindAtom_90 rfl ?_
        refine J_iconst (pc := 91) (v := (2)) X d_TextReader_takeBehindAtom_91 (by decide) ?_
        obtain ⟨h31, eh31, hM⟩ := hb_some hM
        refine J_put (pc := 92) X hc_TextReader in_TextReader t_TextReader tk_TextReader nk_TextReader 4 k_239 (by decide) rfl rfl d_TextReader_takeBehindAtom_92 rfl rfl rfl eh31 ?_
        refine J_aload_n (pc := 95) X 1 d_TextReader_takeBehindAtom_95 rfl ?_
        obtain ⟨v32, ev32, hM⟩ := hb_some hM
        refine J_getI (pc := 96) X hc_TextReader in_TextReader 6 k_241 (by decide) rfl d_TextReader_takeBehindAtom_96 rfl ev32 ?_
        refine J_iconst (pc := 99) (v := (-1)) X d_TextReader_takeBehindAtom_99 (by decide) ?_
        refine J_icmp_eq (pc := 100) (tgt := 107) X d_TextReader_takeBehindAtom_100 (by decide) (fun c33 => ?_) (fun c33 => ?_)
        · have hM := hif_t hM c33
          refine J_iconst (pc := 107) (v := (0)) X d_TextReader_takeBehindAtom_107 (by decide) ?_
          obtain rfl := Option.some.inj hM
          exact J_zret (pc := 108) X hr hz0 hlk (Nat.le_of_ble_eq_true rfl) (Nat.le_of_ble_eq_true rfl) d_TextReader_takeBehindAtom_108
        · have hM := hif_f hM c33
          refine J_iconst (pc := 103) (v := (1)) X d_TextReader_takeBehindAtom_103 (by decide) ?_
          refine J_goto (pc := 104) (tgt := 108) X d_TextReader_takeBehindAtom_104 (by decide) ?_
          obtain rfl := Option.some.inj hM
          exact J_zret (pc := 108) X hr hz1 hlk (Nat.le_of_ble_eq_true rfl) (Nat.le_of_ble_eq_true rfl) d_TextReader_takeBehindAtom_108
    · have hM := hif_f hM c5
      refine J_aload_n (pc := 42) X 1 d_TextReader_takeBehindAtom_42 rfl ?_
      obtain ⟨v34, ev34, hM⟩ := hb_some hM
      refine J_getA (pc := 43) X hc_TextReader in_TextReader 2 k_237 (by decide) rfl d_TextReader_takeBehindAtom_43 rfl ev34 ?_
      refine J_iload_n (pc := 46) X 2 d_TextReader_takeBehindAtom_46 rfl ?_
      refine J_ldcS (pc := 47) X 12 rfl rfl d_TextReader_takeBehindAtom_47 ?_
      obtain ⟨u35, eu35, hM⟩ := hb_some hM
      obtain ⟨q36, eq36, hM⟩ := hb_some hM
      refine J_callV (pc := 49) (As := [.int x1, .ref (K.1 12)]) (rest := []) (o := (some (.int q36.1))) (h2 := q36.2) X rfl hc_Words eu35 (c_Words_is l D K F eq36) (cwV_of (nA := 2) X.fix k_261 k_263 k_264 k_88 k_262 ⟨rfl, rfl, rfl⟩ (by decide +kernel) ⟨Nat.le_of_ble_eq_true rfl, Nat.le_of_ble_eq_true rfl⟩) d_TextReader_takeBehindAtom_49 rfl rfl (Nat.le_of_ble_eq_true rfl) (Nat.le_of_ble_eq_true rfl) (Nat.le_of_ble_eq_true rfl) ?_
      refine J_if_eq (pc := 52) (tgt := 66) X d_TextReader_takeBehindAtom_52 (by decide) (fun c37 => ?_) (fun c37 => ?_)
      · have hM := hif_t hM c37
        refine J_iconst (pc := 66) (v := (0)) X d_TextReader_takeBehindAtom_66 (by decide) ?_
        obtain rfl := Option.some.inj hM
        exact J_zret (pc := 67) X hr hz0 hlk (Nat.le_of_ble_eq_true rfl) (Nat.le_of_ble_eq_true rfl) d_TextReader_takeBehindAtom_67
      · have hM := hif_f hM c37
        refine J_aload_n (pc := 55) X 1 d_TextReader_takeBehindAtom_55 rfl ?_
        obtain ⟨u38, eu38, hM⟩ := hb_some hM
        obtain ⟨q39, eq39, hM⟩ := hb_some hM
        refine J_callV (pc := 56) (As := []) (rest := []) (o := (some (.int q39.1))) (h2 := q39.2) X rfl hc_TextReader eu38 (c_TextReader_closeBracket l D K F eq39) (cwV_of (nA := 0) X.fix k_289 k_291 k_292 k_246 k_290 ⟨rfl, rfl, rfl⟩ (by decide +kernel) ⟨Nat.le_of_ble_eq_true rfl, Nat.le_of_ble_eq_true rfl⟩) d_TextReader_takeBehindAtom_56 rfl rfl (Nat.le_of_ble_eq_true rfl) (Nat.le_of_ble_eq_true rfl) (Nat.le_of_ble_eq_true rfl) ?_
        refine J_if_eq (pc := 59) (tgt := 66) X d_TextReader_takeBehindAtom_59 (by decide) (fun c40 => ?_) (fun c40 => ?_)
        · have hM := hif_t hM c40
          refine J_iconst (pc := 66) (v := (0)) X d_TextReader_takeBehindAtom_66 (by decide) ?_
          obtain rfl := Option.some.inj hM
          exact J_zret (pc := 67) X hr hz0 hlk (Nat.le_of_ble_eq_true rfl) (Nat.le_of_ble_eq_true rfl) d_TextReader_takeBehindAtom_67
        · have hM := hif_f hM c40
          refine J_iconst (pc := 62) (v := (1)) X d_TextReader_takeBehindAtom_62 (by decide) ?_
          refine J_goto (pc := 63) (tgt := 67) X d_TextReader_takeBehindAtom_63 (by decide) ?_
          obtain rfl := Option.some.inj hM
          exact J_zret (pc := 67) X hr hz1 hlk (Nat.le_of_ble_eq_true rfl) (Nat.le_of_ble_eq_true rfl) d_TextReader_takeBehindAtom_67
  · have hM := hif_f hM c3
    refine J_aload_n (pc := 11) X 1 d_TextReader_takeBehindAtom_11 rfl ?_
    refine J_iload_n (pc := 12) X 0 d_TextReader_takeBehindAtom_12 rfl ?_
    obtain ⟨q41, eq41, hM⟩ := hb_some hM
    refine J_callS (pc := 13) (As := [.int q2.1]) (rest := [.ref x0]) (o := (some (.int q41.1))) (h2 := q41.2) X (c_TextReader_rankOf l D K F eq41) (cwS_of (nA := 1) X.fix k_244 k_247 k_246 k_245 ⟨rfl, rfl⟩ (by decide +kernel) ⟨Nat.le_of_ble_eq_true rfl, Nat.le_of_ble_eq_true rfl⟩) d_TextReader_takeBehindAtom_13 rfl rfl (Nat.le_of_ble_eq_true rfl) (Nat.le_of_ble_eq_true rfl) (Nat.le_of_ble_eq_true rfl) ?_
    obtain ⟨u42, eu42, hM⟩ := hb_some hM
    obtain ⟨h43, eh43, hM⟩ := hb_some hM
    refine J_callV (pc := 16) (As := [.int q41.1]) (rest := []) (o := none) (h2 := h43) X rfl hc_TextReader eu42 (c_TextReader_settle l D K F eh43) (cwV_of (nA := 1) X.fix k_257 k_259 k_260 k_246 k_258 ⟨rfl, rfl, rfl⟩ (by decide +kernel) ⟨Nat.le_of_ble_eq_true rfl, Nat.le_of_ble_eq_true rfl⟩) d_TextReader_takeBehindAtom_16 rfl rfl (Nat.le_of_ble_eq_true rfl) (Nat.le_of_ble_eq_true rfl) (Nat.le_of_ble_eq_true rfl) ?_
    refine J_aload_n (pc := 19) X 1 d_TextReader_takeBehindAtom_19 rfl ?_
    obtain ⟨v44, ev44, hM⟩ := hb_some hM
    refine J_getA (pc := 20) X hc_TextReader in_TextReader 0 k_235 (by decide) rfl d_TextReader_takeBehindAtom_20 rfl ev44 ?_
    refine J_iload_n (pc := 23) X 0 d_TextReader_takeBehindAtom_23 rfl ?_
    refine J_iconst (pc := 24) (v := (-1)) X d_TextReader_takeBehindAtom_24 (by decide) ?_
    obtain ⟨u45, eu45, hM⟩ := hb_some hM
    obtain ⟨h46, eh46, hM⟩ := hb_some hM
    refine J_callV (pc := 25) (As := [.int q2.1, .int (-1)]) (rest := []) (o := none) (h2 := h46) X rfl hc_Steps eu45 (c_Steps_add l D K F eh46) (cwV_of (nA := 2) X.fix k_249 k_251 k_252 k_133 k_250 ⟨rfl, rfl, rfl⟩ (by decide +kernel) ⟨Nat.le_of_ble_eq_true rfl, Nat.le_of_ble_eq_true rfl⟩) d_TextReader_takeBehindAtom_25 rfl rfl (Nat.le_of_ble_eq_true rfl) (Nat.le_of_ble_eq_true rfl) (Nat.le_of_ble_eq_true rfl) ?_
    refine J_aload_n (pc := 28) X 1 d_TextReader_takeBehindAtom_28 rfl ?_
    refine J_iconst (pc := 29) (v := (2)) X d_TextReader_takeBehindAtom_29 (by decide) ?_
    obtain ⟨h47, eh47, hM⟩ := hb_some hM
    refine J_put (pc := 30) X hc_TextReader in_TextReader t_TextReader tk_TextReader nk_TextReader 4 k_239 (by decide) rfl rfl d_TextReader_takeBehindAtom_30 rfl rfl rfl eh47 ?_
    refine J_iconst (pc := 33) (v := (1)) X d_TextReader_takeBehindAtom_33 (by decide) ?_
    obtain rfl := Option.some.inj hM
    exact J_zret (pc := 34) X hr hz1 hlk (Nat.le_of_ble_eq_true rfl) (Nat.le_of_ble_eq_true rfl) d_TextReader_takeBehindAtom_34
abbrev rm_TextReader_takeTableName : Room := { frames := 2, cells := 0, slots := 0, locals := 47 }
set_option maxHeartbeats 4000000 in
set_option maxRecDepth 100000 in
theorem c_TextReader_takeTableName (l : Launch) (D : va_G) (K : (Nat → Nat) × (Nat → Nat)) (F : Nat) {h : hH} {x0 : Nat} {x1 : Int32} {q : (Int32 × hH)} (hM : M_TextReader_takeTableName F h x0 x1 = some q) : Met l y_TextReader_takeTableName (.code y_TextReader_takeTableName prog_11_method_9_code 3 (some .boolean) :: T0) rm_TextReader_takeTableName (hPc hG D cls0 K [.ref x0, .int x1] h) (hQ D cls0 h (some (.int q.1)) q.2) 0 0 (hF h) := by
  refine J_met (lv := [(0, .ref x0), (1, .int x1)]) (by decide) (Nat.le_of_ble_eq_true rfl) rfl ?_
  intro p e s m below meth c X hr hlk hnm
  have Y : HX p s m _ meth c prog_11_method_9_code 3 "LicenceTexts$TextReader" D K "takeTableName" (some .boolean) h := ⟨X, hr, hlk, hnm⟩
  unfold M_TextReader_takeTableName at hM
  refine J_aload_n (pc := 0) X 0 d_TextReader_takeTableName_0 rfl ?_
  obtain ⟨v1, ev1, hM⟩ := hb_some hM
  refine J_getA (pc := 1) X hc_TextReader in_TextReader 2 k_237 (by decide) rfl d_TextReader_takeTableName_1 rfl ev1 ?_
  refine J_iload_n (pc := 4) X 1 d_TextReader_takeTableName_4 rfl ?_
  obtain ⟨u2, eu2, hM⟩ := hb_some hM
  obtain ⟨q3, eq3, hM⟩ := hb_some hM
  refine J_callV (pc := 5) (As := [.int x1]) (rest := []) (o := (some (.int q3.1))) (h2 := q3.2) X rfl hc_Words eu2 (c_Words_numberAt l D K F eq3) (cwV_of (nA := 1) X.fix k_293 k_295 k_296 k_88 k_294 ⟨rfl, rfl, rfl⟩ (by decide +kernel) ⟨Nat.le_of_ble_eq_true rfl, Nat.le_of_ble_eq_true rfl⟩) d_TextReader_takeTableName_5 rfl rfl (Nat.le_of_ble_eq_true rfl) (Nat.le_of_ble_eq_true rfl) (Nat.le_of_ble_eq_true rfl) ?_
  refine J_istore_n (pc := 8) (lv' := [(2, .int q3.1), (0, .ref x0), (1, .int x1)]) X d_TextReader_takeTableName_8 rfl (by decide) rfl ?_
  refine J_iload_n (pc := 9) X 0 d_TextReader_takeTableName_9 rfl ?_
  refine J_if_lt (pc := 10) (tgt := 27) X d_TextReader_takeTableName_10 (by decide) (fun c4 => ?_) (fun c4 => ?_)
  · have hM := hif_t hM c4
    refine J_iconst (pc := 27) (v := (0)) X d_TextReader_takeTableName_27 (by decide) ?_
    obtain rfl := Option.some.inj hM
    exact J_zret (pc := 28) X hr hz0 hlk (Nat.le_of_ble_eq_true rfl) (Nat.le_of_ble_eq_true rfl) d_TextReader_takeTableName_28
  · have hM := hif_f hM c4
    refine J_iload_n (pc := 13) X 0 d_TextReader_takeTableName_13 rfl ?_
    refine J_aload_n (pc := 14) X 1 d_TextReader_takeTableName_14 rfl ?_
    obtain ⟨v5, ev5, hM⟩ := hb_some hM
    refine J_getA (pc := 15) X hc_TextReader in_TextReader 1 k_236 (by decide) rfl d_TextReader_takeTableName_15 rfl ev5 ?_
    obtain ⟨v6, ev6, hM⟩ := hb_some hM
    refine J_getAN (pc := 18) X hc_Edition in_Edition 2 (nw_11) (by decide) rfl d_TextReader_takeTableName_18 rfl ev6 ?_
    obtain ⟨v7, ev7, hM⟩ := hb_some hM
    refine J_getIN (pc := 21) X hc_Tables in_Tables 2 (nw_5) (by decide) rfl d_TextReader_takeTableName_21 rfl ev7 ?_
    refine J_icmp_lt (pc := 24) (tgt := 29) X d_TextReader_takeTableName_24 (by decide) (fun c8 => ?_) (fun c8 => ?_)
    · have hM := hif_t hM c8
      refine J_aload_n (pc := 29) X 1 d_TextReader_takeTableName_29 rfl ?_
      refine J_iconst (pc := 30) (v := (2)) X d_TextReader_takeTableName_30 (by decide) ?_
      refine J_iload_n (pc := 31) X 0 d_TextReader_takeTableName_31 rfl ?_
      obtain ⟨u9, eu9, hM⟩ := hb_some hM
      obtain ⟨h10, eh10, hM⟩ := hb_some hM
      refine J_callV (pc := 32) (As := [.int 2, .int q3.1]) (rest := []) (o := none) (h2 := h10) X rfl hc_TextReader eu9 (c_TextReader_waitAround l D K F eh10) (cwV_of (nA := 2) X.fix k_297 k_299 k_300 k_246 k_298 ⟨rfl, rfl, rfl⟩ (by decide +kernel) ⟨Nat.le_of_ble_eq_true rfl, Nat.le_of_ble_eq_true rfl⟩) d_TextReader_takeTableName_32 rfl rfl (Nat.le_of_ble_eq_true rfl) (Nat.le_of_ble_eq_true rfl) (Nat.le_of_ble_eq_true rfl) ?_
      refine J_iconst (pc := 35) (v := (1)) X d_TextReader_takeTableName_35 (by decide) ?_
      obtain rfl := Option.some.inj hM
      exact J_zret (pc := 36) X hr hz1 hlk (Nat.le_of_ble_eq_true rfl) (Nat.le_of_ble_eq_true rfl) d_TextReader_takeTableName_36
    · have hM := hif_f hM c8
      refine J_iconst (pc := 27) (v := (0)) X d_TextReader_takeTableName_27 (by decide) ?_
      obtain rfl := Option.some.inj hM
      exact J_zret (pc := 28) X hr hz0 hlk (Nat.le_of_ble_eq_true rfl) (Nat.le_of_ble_eq_true rfl) d_TextReader_takeTableName_28
abbrev rm_TextReader_takeFactName : Room := { frames := 3, cells := 0, slots := 0, locals := 65 }
set_option maxHeartbeats 4000000 in
set_option maxRecDepth 100000 in
theorem c_TextReader_takeFactName (l : Launch) (D : va_G) (K : (Nat → Nat) × (Nat → Nat)) (F : Nat) {h : hH} {x0 : Nat} {x1 : Int32} {q : (Int32 × hH)} (hM : M_TextReader_takeFactName F h x0 x1 = some q) : Met l y_TextReader_takeFactName (.code y_TextReader_takeFactName prog_11_method_8_code 3 (some .boolean) :: T0) rm_TextReader_takeFactName (hPc hG D cls0 K [.ref x0, .int x1] h) (hQ D cls0 h (some (.int q.1)) q.2) 0 0 (hF h) := by
  refine J_met (lv := [(0, .ref x0), (1, .int x1)]) (by decide) (Nat.le_of_ble_eq_true rfl) rfl ?_
  intro p e s m below meth c X hr hlk hnm
  have Y : HX p s m _ meth c prog_11_method_8_code 3 "LicenceTexts$TextReader" D K "takeFactName" (some .boolean) h := ⟨X, hr, hlk, hnm⟩
  unfold M_TextReader_takeFactName at hM
  refine J_aload_n (pc := 0) X 0 d_TextReader_takeFactName_0 rfl ?_
  obtain ⟨v1, ev1, hM⟩ := hb_some hM
  refine J_getA (pc := 1) X hc_TextReader in_TextReader 2 k_237 (by decide) rfl d_TextReader_takeFactName_1 rfl ev1 ?_
  refine J_iload_n (pc := 4) X 1 d_TextReader_takeFactName_4 rfl ?_
  obtain ⟨u2, eu2, hM⟩ := hb_some hM
  obtain ⟨q3, eq3, hM⟩ := hb_some hM
  refine J_callV (pc := 5) (As := [.int x1]) (rest := []) (o := (some (.int q3.1))) (h2 := q3.2) X rfl hc_Words eu2 (c_Words_numberAt l D K F eq3) (cwV_of (nA := 1) X.fix k_293 k_295 k_296 k_88 k_294 ⟨rfl, rfl, rfl⟩ (by decide +kernel) ⟨Nat.le_of_ble_eq_true rfl, Nat.le_of_ble_eq_true rfl⟩) d_TextReader_takeFactName_5 rfl rfl (Nat.le_of_ble_eq_true rfl) (Nat.le_of_ble_eq_true rfl) (Nat.le_of_ble_eq_true rfl) ?_
  refine J_istore_n (pc := 8) (lv' := [(2, .int q3.1), (0, .ref x0), (1, .int x1)]) X d_TextReader_takeFactName_8 rfl (by decide) rfl ?_
  refine J_iload_n (pc := 9) X 0 d_TextReader_takeFactName_9 rfl ?_
  refine J_if_lt (pc := 10) (tgt := 19) X d_TextReader_takeFactName_10 (by decide) (fun c4 => ?_) (fun c4 => ?_)
  · have hM := hif_t hM c4
    refine J_iconst (pc := 19) (v := (0)) X d_TextReader_takeFactName_19 (by decide) ?_
    obtain rfl := Option.some.inj hM
    exact J_zret (pc := 20) X hr hz0 hlk (Nat.le_of_ble_eq_true rfl) (Nat.le_of_ble_eq_true rfl) d_TextReader_takeFactName_20
  · have hM := hif_f hM c4
    refine J_iload_n (pc := 13) X 0 d_TextReader_takeFactName_13 rfl ?_
    refine J_bipush (pc := 14) (v := (20)) X d_TextReader_takeFactName_14 (by decide) ?_
    refine J_icmp_lt (pc := 16) (tgt := 21) X d_TextReader_takeFactName_16 (by decide) (fun c5 => ?_) (fun c5 => ?_)
    · have hM := hif_t hM c5
      refine J_aload_n (pc := 21) X 1 d_TextReader_takeFactName_21 rfl ?_
      obtain ⟨v6, ev6, hM⟩ := hb_some hM
      refine J_getA (pc := 22) X hc_TextReader in_TextReader 3 k_238 (by decide) rfl d_TextReader_takeFactName_22 rfl ev6 ?_
      refine J_iconst (pc := 25) (v := (1)) X d_TextReader_takeFactName_25 (by decide) ?_
      refine J_iload_n (pc := 26) X 0 d_TextReader_takeFactName_26 rfl ?_
      obtain ⟨u7, eu7, hM⟩ := hb_some hM
      obtain ⟨h8, eh8, hM⟩ := hb_some hM
      refine J_callV (pc := 27) (As := [.int 1, .int q3.1]) (rest := []) (o := none) (h2 := h8) X rfl hc_Steps eu7 (c_Steps_add l D K F eh8) (cwV_of (nA := 2) X.fix k_249 k_251 k_252 k_133 k_250 ⟨rfl, rfl, rfl⟩ (by decide +kernel) ⟨Nat.le_of_ble_eq_true rfl, Nat.le_of_ble_eq_true rfl⟩) d_TextReader_takeFactName_27 rfl rfl (Nat.le_of_ble_eq_true rfl) (Nat.le_of_ble_eq_true rfl) (Nat.le_of_ble_eq_true rfl) ?_
      refine J_aload_n (pc := 30) X 1 d_TextReader_takeFactName_30 rfl ?_
      obtain ⟨u9, eu9, hM⟩ := hb_some hM
      obtain ⟨h10, eh10, hM⟩ := hb_some hM
      refine J_callV (pc := 31) (As := []) (rest := []) (o := none) (h2 := h10) X rfl hc_TextReader eu9 (c_TextReader_endAtom l D K F eh10) (cwV_of (nA := 0) X.fix k_301 k_303 k_304 k_246 k_302 ⟨rfl, rfl, rfl⟩ (by decide +kernel) ⟨Nat.le_of_ble_eq_true rfl, Nat.le_of_ble_eq_true rfl⟩) d_TextReader_takeFactName_31 rfl rfl (Nat.le_of_ble_eq_true rfl) (Nat.le_of_ble_eq_true rfl) (Nat.le_of_ble_eq_true rfl) ?_
      refine J_iconst (pc := 34) (v := (1)) X d_TextReader_takeFactName_34 (by decide) ?_
      obtain rfl := Option.some.inj hM
      exact J_zret (pc := 35) X hr hz1 hlk (Nat.le_of_ble_eq_true rfl) (Nat.le_of_ble_eq_true rfl) d_TextReader_takeFactName_35
    · have hM := hif_f hM c5
      refine J_iconst (pc := 19) (v := (0)) X d_TextReader_takeFactName_19 (by decide) ?_
      obtain rfl := Option.some.inj hM
      exact J_zret (pc := 20) X hr hz0 hlk (Nat.le_of_ble_eq_true rfl) (Nat.le_of_ble_eq_true rfl) d_TextReader_takeFactName_20
abbrev rm_TextReader_takeAtom : Room := { frames := 5, cells := 0, slots := 0, locals := 109 }
set_option maxHeartbeats 4000000 in
set_option maxRecDepth 100000 in
theorem c_TextReader_takeAtom (l : Launch) (D : va_G) (K : (Nat → Nat) × (Nat → Nat)) (F : Nat) {h : hH} {x0 : Nat} {x1 : Int32} {q : (Int32 × hH)} (hM : M_TextReader_takeAtom F h x0 x1 = some q) : Met l y_TextReader_takeAtom (.code y_TextReader_takeAtom prog_11_method_7_code 3 (some .boolean) :: T0) rm_TextReader_takeAtom (hPc hG D cls0 K [.ref x0, .int x1] h) (hQ D cls0 h (some (.int q.1)) q.2) 0 0 (hF h) := by
  refine J_met (lv := [(0, .ref x0), (1, .int x1)]) (by decide) (Nat.le_of_ble_eq_true rfl) rfl ?_
  intro p e s m below meth c X hr hlk hnm
  have Y : HX p s m _ meth c prog_11_method_7_code 3 "LicenceTexts$TextReader" D K "takeAtom" (some .boolean) h := ⟨X, hr, hlk, hnm⟩
  unfold M_TextReader_takeAtom at hM
  refine J_aload_n (pc := 0) X 0 d_TextReader_takeAtom_0 rfl ?_
  obtain ⟨v1, ev1, hM⟩ := hb_some hM
  refine J_getI (pc := 1) X hc_TextReader in_TextReader 5 k_240 (by decide) rfl d_TextReader_takeAtom_1 rfl ev1 ?_
  refine J_bipush (pc := 4) (v := (12)) X d_TextReader_takeAtom_4 (by decide) ?_
  refine J_icmp_le (pc := 6) (tgt := 11) X d_TextReader_takeAtom_6 (by decide) (fun c2 => ?_) (fun c2 => ?_)
  · have hM := hif_t hM c2
    refine J_aload_n (pc := 11) X 0 d_TextReader_takeAtom_11 rfl ?_
    obtain ⟨v3, ev3, hM⟩ := hb_some hM
    refine J_getA (pc := 12) X hc_TextReader in_TextReader 2 k_237 (by decide) rfl d_TextReader_takeAtom_12 rfl ev3 ?_
    refine J_iload_n (pc := 15) X 1 d_TextReader_takeAtom_15 rfl ?_
    obtain ⟨u4, eu4, hM⟩ := hb_some hM
    obtain ⟨q5, eq5, hM⟩ := hb_some hM
    refine J_callV (pc := 16) (As := [.int x1]) (rest := []) (o := (some (.int q5.1))) (h2 := q5.2) X rfl hc_Words eu4 (c_Words_numberAt l D K F eq5) (cwV_of (nA := 1) X.fix k_293 k_295 k_296 k_88 k_294 ⟨rfl, rfl, rfl⟩ (by decide +kernel) ⟨Nat.le_of_ble_eq_true rfl, Nat.le_of_ble_eq_true rfl⟩) d_TextReader_takeAtom_16 rfl rfl (Nat.le_of_ble_eq_true rfl) (Nat.le_of_ble_eq_true rfl) (Nat.le_of_ble_eq_true rfl) ?_
    refine J_istore_n (pc := 19) (lv' := [(2, .int q5.1), (0, .ref x0), (1, .int x1)]) X d_TextReader_takeAtom_19 rfl (by decide) rfl ?_
    refine J_iload_n (pc := 20) X 0 d_TextReader_takeAtom_20 rfl ?_
    refine J_iconst (pc := 21) (v := (-1)) X d_TextReader_takeAtom_21 (by decide) ?_
    refine J_icmp_eq (pc := 22) (tgt := 40) X d_TextReader_takeAtom_22 (by decide) (fun c6 => ?_) (fun c6 => ?_)
    · have hM := hif_t hM c6
      refine J_aload_n (pc := 40) X 1 d_TextReader_takeAtom_40 rfl ?_
      obtain ⟨v7, ev7, hM⟩ := hb_some hM
      refine J_getA (pc := 41) X hc_TextReader in_TextReader 2 k_237 (by decide) rfl d_TextReader_takeAtom_41 rfl ev7 ?_
      refine J_iload_n (pc := 44) X 2 d_TextReader_takeAtom_44 rfl ?_
      refine J_ldcS (pc := 45) X 4 rfl rfl d_TextReader_takeAtom_45 ?_
      obtain ⟨u8, eu8, hM⟩ := hb_some hM
      obtain ⟨q9, eq9, hM⟩ := hb_some hM
      refine J_callV (pc := 47) (As := [.int x1, .ref (K.1 4)]) (rest := []) (o := (some (.int q9.1))) (h2 := q9.2) X rfl hc_Words eu8 (c_Words_is l D K F eq9) (cwV_of (nA := 2) X.fix k_261 k_263 k_264 k_88 k_262 ⟨rfl, rfl, rfl⟩ (by decide +kernel) ⟨Nat.le_of_ble_eq_true rfl, Nat.le_of_ble_eq_true rfl⟩) d_TextReader_takeAtom_47 rfl rfl (Nat.le_of_ble_eq_true rfl) (Nat.le_of_ble_eq_true rfl) (Nat.le_of_ble_eq_true rfl) ?_
      refine J_if_eq (pc := 50) (tgt := 60) X d_TextReader_takeAtom_50 (by decide) (fun c10 => ?_) (fun c10 => ?_)
      · have hM := hif_t hM c10
        refine J_aload_n (pc := 60) X 1 d_TextReader_takeAtom_60 rfl ?_
        obtain ⟨v11, ev11, hM⟩ := hb_some hM
        refine J_getA (pc := 61) X hc_TextReader in_TextReader 2 k_237 (by decide) rfl d_TextReader_takeAtom_61 rfl ev11 ?_
        refine J_iload_n (pc := 64) X 2 d_TextReader_takeAtom_64 rfl ?_
        refine J_ldcS (pc := 65) X 5 rfl rfl d_TextReader_takeAtom_65 ?_
        obtain ⟨u12, eu12, hM⟩ := hb_some hM
        obtain ⟨q13, eq13, hM⟩ := hb_some hM
        refine J_callV (pc := 67) (As := [.int x1, .ref (K.1 5)]) (rest := []) (o := (some (.int q13.1))) (h2 := q13.2) X rfl hc_Words eu12 (c_Words_is l D K F eq13) (cwV_of (nA := 2) X.fix k_261 k_263 k_264 k_88 k_262 ⟨rfl, rfl, rfl⟩ (by decide +kernel) ⟨Nat.le_of_ble_eq_true rfl, Nat.le_of_ble_eq_true rfl⟩) d_TextReader_takeAtom_67 rfl rfl (Nat.le_of_ble_eq_true rfl) (Nat.le_of_ble_eq_true rfl) (Nat.le_of_ble_eq_true rfl) ?_
        refine J_if_eq (pc := 70) (tgt := 80) X d_TextReader_takeAtom_70 (by decide) (fun c14 => ?_) (fun c14 => ?_)
        · have hM := hif_t hM c14
          refine J_aload_n (pc := 80) X 1 d_TextReader_takeAtom_80 rfl ?_
          obtain ⟨v15, ev15, hM⟩ := hb_some hM
          refine J_getA (pc := 81) X hc_TextReader in_TextReader 2 k_237 (by decide) rfl d_TextReader_takeAtom_81 rfl ev15 ?_
          refine J_iload_n (pc := 84) X 2 d_TextReader_takeAtom_84 rfl ?_
          refine J_ldcS (pc := 85) X 6 rfl rfl d_TextReader_takeAtom_85 ?_
          obtain ⟨u16, eu16, hM⟩ := hb_some hM
          obtain ⟨q17, eq17, hM⟩ := hb_some hM
          refine J_callV (pc := 87) (As := [.int x1, .ref (K.1 6)]) (rest := []) (o := (some (.int q17.1))) (h2 := q17.2) X rfl hc_Words eu16 (c_Words_is l D K F eq17) (cwV_of (nA := 2) X.fix k_261 k_263 k_264 k_88 k_262 ⟨rfl, rfl, rfl⟩ (by decide +kernel) ⟨Nat.le_of_ble_eq_true rfl, Nat.le_of_ble_eq_true rfl⟩) d_TextReader_takeAtom_87 rfl rfl (Nat.le_of_ble_eq_true rfl) (Nat.le_of_ble_eq_true rfl) (Nat.le_of_ble_eq_true rfl) ?_
          refine J_if_eq (pc := 90) (tgt := 101) X d_TextReader_takeAtom_90 (by decide) (fun c18 => ?_) (fun c18 => ?_)
          · have hM := hif_t hM c18
            refine J_iconst (pc := 101) (v := (0)) X d_TextReader_takeAtom_101 (by decide) ?_
            obtain rfl := Option.some.inj hM
            exact J_zret (pc := 102) X hr hz0 hlk (Nat.le_of_ble_eq_true rfl) (Nat.le_of_ble_eq_true rfl) d_TextReader_takeAtom_102
          · have hM := hif_f hM c18
            refine J_aload_n (pc := 93) X 1 d_TextReader_takeAtom_93 rfl ?_
            refine J_iconst (pc := 94) (v := (3)) X d_TextReader_takeAtom_94 (by decide) ?_
            refine J_iconst (pc := 95) (v := (-1)) X d_TextReader_takeAtom_95 (by decide) ?_
            obtain ⟨u19, eu19, hM⟩ := hb_some hM
            obtain ⟨h20, eh20, hM⟩ := hb_some hM
            refine J_callV (pc := 96) (As := [.int 3, .int (-1)]) (rest := []) (o := none) (h2 := h20) X rfl hc_TextReader eu19 (c_TextReader_waitAround l D K F eh20) (cwV_of (nA := 2) X.fix k_297 k_299 k_300 k_246 k_298 ⟨rfl, rfl, rfl⟩ (by decide +kernel) ⟨Nat.le_of_ble_eq_true rfl, Nat.le_of_ble_eq_true rfl⟩) d_TextReader_takeAtom_96 rfl rfl (Nat.le_of_ble_eq_true rfl) (Nat.le_of_ble_eq_true rfl) (Nat.le_of_ble_eq_true rfl) ?_
            refine J_iconst (pc := 99) (v := (1)) X d_TextReader_takeAtom_99 (by decide) ?_
            obtain rfl := Option.some.inj hM
            exact J_zret (pc := 100) X hr hz1 hlk (Nat.le_of_ble_eq_true rfl) (Nat.le_of_ble_eq_true rfl) d_TextReader_takeAtom_100
        · have hM := hif_f hM c14
          refine J_aload_n (pc := 73) X 1 d_TextReader_takeAtom_73 rfl ?_
          refine J_iconst (pc := 74) (v := (4)) X d_TextReader_takeAtom_74 (by decide) ?_
          obtain ⟨h21, eh21, hM⟩ := hb_some hM
          refine J_put (pc := 75) X hc_TextReader in_TextReader t_TextReader tk_TextReader nk_TextReader 4 k_239 (by decide) rfl rfl d_TextReader_takeAtom_75 rfl rfl rfl eh21 ?_
          refine J_iconst (pc := 78) (v := (1)) X d_TextReader_takeAtom_78 (by decide) ?_
          obtain rfl := Option.some.inj hM
          exact J_zret (pc := 79) X hr hz1 hlk (Nat.le_of_ble_eq_true rfl) (Nat.le_of_ble_eq_true rfl) d_TextReader_takeAtom_79
      · have hM := hif_f hM c10
        refine J_aload_n (pc := 53) X 1 d_TextReader_takeAtom_53 rfl ?_
        refine J_iconst (pc := 54) (v := (3)) X d_TextReader_takeAtom_54 (by decide) ?_
        obtain ⟨h22, eh22, hM⟩ := hb_some hM
        refine J_put (pc := 55) X hc_TextReader in_TextReader t_TextReader tk_TextReader nk_TextReader 4 k_239 (by decide) rfl rfl d_TextReader_takeAtom_55 rfl rfl rfl eh22 ?_
        refine J_iconst (pc := 58) (v := (1)) X d_TextReader_takeAtom_58 (by decide) ?_
        obtain rfl := Option.some.inj hM
        exact J_zret (pc := 59) X hr hz1 hlk (Nat.le_of_ble_eq_true rfl) (Nat.le_of_ble_eq_true rfl) d_TextReader_takeAtom_59
    · have hM := hif_f hM c6
      refine J_aload_n (pc := 25) X 1 d_TextReader_takeAtom_25 rfl ?_
      obtain ⟨v23, ev23, hM⟩ := hb_some hM
      refine J_getA (pc := 26) X hc_TextReader in_TextReader 3 k_238 (by decide) rfl d_TextReader_takeAtom_26 rfl ev23 ?_
      refine J_iconst (pc := 29) (v := (0)) X d_TextReader_takeAtom_29 (by decide) ?_
      refine J_iload_n (pc := 30) X 0 d_TextReader_takeAtom_30 rfl ?_
      obtain ⟨u24, eu24, hM⟩ := hb_some hM
      obtain ⟨h25, eh25, hM⟩ := hb_some hM
      refine J_callV (pc := 31) (As := [.int 0, .int q5.1]) (rest := []) (o := none) (h2 := h25) X rfl hc_Steps eu24 (c_Steps_add l D K F eh25) (cwV_of (nA := 2) X.fix k_249 k_251 k_252 k_133 k_250 ⟨rfl, rfl, rfl⟩ (by decide +kernel) ⟨Nat.le_of_ble_eq_true rfl, Nat.le_of_ble_eq_true rfl⟩) d_TextReader_takeAtom_31 rfl rfl (Nat.le_of_ble_eq_true rfl) (Nat.le_of_ble_eq_true rfl) (Nat.le_of_ble_eq_true rfl) ?_
      refine J_aload_n (pc := 34) X 1 d_TextReader_takeAtom_34 rfl ?_
      obtain ⟨u26, eu26, hM⟩ := hb_some hM
      obtain ⟨h27, eh27, hM⟩ := hb_some hM
      refine J_callV (pc := 35) (As := []) (rest := []) (o := none) (h2 := h27) X rfl hc_TextReader eu26 (c_TextReader_endAtom l D K F eh27) (cwV_of (nA := 0) X.fix k_301 k_303 k_304 k_246 k_302 ⟨rfl, rfl, rfl⟩ (by decide +kernel) ⟨Nat.le_of_ble_eq_true rfl, Nat.le_of_ble_eq_true rfl⟩) d_TextReader_takeAtom_35 rfl rfl (Nat.le_of_ble_eq_true rfl) (Nat.le_of_ble_eq_true rfl) (Nat.le_of_ble_eq_true rfl) ?_
      refine J_iconst (pc := 38) (v := (1)) X d_TextReader_takeAtom_38 (by decide) ?_
      obtain rfl := Option.some.inj hM
      exact J_zret (pc := 39) X hr hz1 hlk (Nat.le_of_ble_eq_true rfl) (Nat.le_of_ble_eq_true rfl) d_TextReader_takeAtom_39
  · have hM := hif_f hM c2
    refine J_iconst (pc := 9) (v := (0)) X d_TextReader_takeAtom_9 (by decide) ?_
    obtain rfl := Option.some.inj hM
    exact J_zret (pc := 10) X hr hz0 hlk (Nat.le_of_ble_eq_true rfl) (Nat.le_of_ble_eq_true rfl) d_TextReader_takeAtom_10
abbrev rm_TextReader_takeTableNumber : Room := { frames := 5, cells := 0, slots := 0, locals := 109 }
set_option maxHeartbeats 4000000 in
set_option maxRecDepth 100000 in
theorem c_TextReader_takeTableNumber (l : Launch) (D : va_G) (K : (Nat → Nat) × (Nat → Nat)) (F : Nat) {h : hH} {x0 : Nat} {x1 : Int32} {q : (Int32 × hH)} (hM : M_TextReader_takeTableNumber F h x0 x1 = some q) : Met l y_TextReader_takeTableNumber (.code y_TextReader_takeTableNumber prog_11_method_6_code 3 (some .boolean) :: T0) rm_TextReader_takeTableNumber (hPc hG D cls0 K [.ref x0, .int x1] h) (hQ D cls0 h (some (.int q.1)) q.2) 0 0 (hF h) := by
  refine J_met (lv := [(0, .ref x0), (1, .int x1)]) (by decide) (Nat.le_of_ble_eq_true rfl) rfl ?_
  intro p e s m below meth c X hr hlk hnm
  have Y : HX p s m _ meth c prog_11_method_6_code 3 "LicenceTexts$TextReader" D K "takeTableNumber" (some .boolean) h := ⟨X, hr, hlk, hnm⟩
  unfold M_TextReader_takeTableNumber at hM
  refine J_aload_n (pc := 0) X 0 d_TextReader_takeTableNumber_0 rfl ?_
  obtain ⟨v1, ev1, hM⟩ := hb_some hM
  refine J_getA (pc := 1) X hc_TextReader in_TextReader 2 k_237 (by decide) rfl d_TextReader_takeTableNumber_1 rfl ev1 ?_
  refine J_iload_n (pc := 4) X 1 d_TextReader_takeTableNumber_4 rfl ?_
  refine J_ldcS (pc := 5) X 3 rfl rfl d_TextReader_takeTableNumber_5 ?_
  obtain ⟨u2, eu2, hM⟩ := hb_some hM
  obtain ⟨q3, eq3, hM⟩ := hb_some hM
  refine J_callV (pc := 7) (As := [.int x1, .ref (K.1 3)]) (rest := []) (o := (some (.int q3.1))) (h2 := q3.2) X rfl hc_Words eu2 (c_Words_is l D K F eq3) (cwV_of (nA := 2) X.fix k_261 k_263 k_264 k_88 k_262 ⟨rfl, rfl, rfl⟩ (by decide +kernel) ⟨Nat.le_of_ble_eq_true rfl, Nat.le_of_ble_eq_true rfl⟩) d_TextReader_takeTableNumber_7 rfl rfl (Nat.le_of_ble_eq_true rfl) (Nat.le_of_ble_eq_true rfl) (Nat.le_of_ble_eq_true rfl) ?_
  refine J_if_eq (pc := 10) (tgt := 37) X d_TextReader_takeTableNumber_10 (by decide) (fun c4 => ?_) (fun c4 => ?_)
  · have hM := hif_t hM c4
    refine J_aload_n (pc := 37) X 0 d_TextReader_takeTableNumber_37 rfl ?_
    obtain ⟨v5, ev5, hM⟩ := hb_some hM
    refine J_getA (pc := 38) X hc_TextReader in_TextReader 2 k_237 (by decide) rfl d_TextReader_takeTableNumber_38 rfl ev5 ?_
    refine J_iload_n (pc := 41) X 1 d_TextReader_takeTableNumber_41 rfl ?_
    obtain ⟨u6, eu6, hM⟩ := hb_some hM
    obtain ⟨q7, eq7, hM⟩ := hb_some hM
    refine J_callV (pc := 42) (As := [.int x1]) (rest := []) (o := (some (.int q7.1))) (h2 := q7.2) X rfl hc_Words eu6 (c_Words_numberAt l D K F eq7) (cwV_of (nA := 1) X.fix k_293 k_295 k_296 k_88 k_294 ⟨rfl, rfl, rfl⟩ (by decide +kernel) ⟨Nat.le_of_ble_eq_true rfl, Nat.le_of_ble_eq_true rfl⟩) d_TextReader_takeTableNumber_42 rfl rfl (Nat.le_of_ble_eq_true rfl) (Nat.le_of_ble_eq_true rfl) (Nat.le_of_ble_eq_true rfl) ?_
    refine J_istore_n (pc := 45) (lv' := [(2, .int q7.1), (0, .ref x0), (1, .int x1)]) X d_TextReader_takeTableNumber_45 rfl (by decide) rfl ?_
    refine J_iload_n (pc := 46) X 0 d_TextReader_takeTableNumber_46 rfl ?_
    refine J_iconst (pc := 47) (v := (-1)) X d_TextReader_takeTableNumber_47 (by decide) ?_
    refine J_icmp_eq (pc := 48) (tgt := 69) X d_TextReader_takeTableNumber_48 (by decide) (fun c8 => ?_) (fun c8 => ?_)
    · have hM := hif_t hM c8
      refine J_iconst (pc := 69) (v := (0)) X d_TextReader_takeTableNumber_69 (by decide) ?_
      obtain rfl := Option.some.inj hM
      exact J_zret (pc := 70) X hr hz0 hlk (Nat.le_of_ble_eq_true rfl) (Nat.le_of_ble_eq_true rfl) d_TextReader_takeTableNumber_70
    · have hM := hif_f hM c8
      refine J_aload_n (pc := 51) X 1 d_TextReader_takeTableNumber_51 rfl ?_
      obtain ⟨v9, ev9, hM⟩ := hb_some hM
      refine J_getA (pc := 52) X hc_TextReader in_TextReader 1 k_236 (by decide) rfl d_TextReader_takeTableNumber_52 rfl ev9 ?_
      obtain ⟨v10, ev10, hM⟩ := hb_some hM
      refine J_getAN (pc := 55) X hc_Edition in_Edition 2 (nw_11) (by decide) rfl d_TextReader_takeTableNumber_55 rfl ev10 ?_
      refine J_iload_n (pc := 58) X 0 d_TextReader_takeTableNumber_58 rfl ?_
      obtain ⟨u11, eu11, hM⟩ := hb_some hM
      obtain ⟨q12, eq12, hM⟩ := hb_some hM
      refine J_callV (pc := 59) (As := [.int q7.1]) (rest := []) (o := (some (.int q12.1))) (h2 := q12.2) X rfl hc_Tables eu11 (c_Tables_addNumber l D K F eq12) (cwV_of (nA := 1) X.fix k_305 k_307 k_308 k_71 k_306 ⟨rfl, rfl, rfl⟩ (by decide +kernel) ⟨Nat.le_of_ble_eq_true rfl, Nat.le_of_ble_eq_true rfl⟩) d_TextReader_takeTableNumber_59 rfl rfl (Nat.le_of_ble_eq_true rfl) (Nat.le_of_ble_eq_true rfl) (Nat.le_of_ble_eq_true rfl) ?_
      refine J_if_eq (pc := 62) (tgt := 69) X d_TextReader_takeTableNumber_62 (by decide) (fun c13 => ?_) (fun c13 => ?_)
      · have hM := hif_t hM c13
        refine J_iconst (pc := 69) (v := (0)) X d_TextReader_takeTableNumber_69 (by decide) ?_
        obtain rfl := Option.some.inj hM
        exact J_zret (pc := 70) X hr hz0 hlk (Nat.le_of_ble_eq_true rfl) (Nat.le_of_ble_eq_true rfl) d_TextReader_takeTableNumber_70
      · have hM := hif_f hM c13
        refine J_iconst (pc := 65) (v := (1)) X d_TextReader_takeTableNumber_65 (by decide) ?_
        refine J_goto (pc := 66) (tgt := 70) X d_TextReader_takeTableNumber_66 (by decide) ?_
        obtain rfl := Option.some.inj hM
        exact J_zret (pc := 70) X hr hz1 hlk (Nat.le_of_ble_eq_true rfl) (Nat.le_of_ble_eq_true rfl) d_TextReader_takeTableNumber_70
  · have hM := hif_f hM c4
    refine J_aload_n (pc := 13) X 0 d_TextReader_takeTableNumber_13 rfl ?_
    refine J_iconst (pc := 14) (v := (0)) X d_TextReader_takeTableNumber_14 (by decide) ?_
    obtain ⟨h14, eh14, hM⟩ := hb_some hM
    refine J_put (pc := 15) X hc_TextReader in_TextReader t_TextReader tk_TextReader nk_TextReader 4 k_239 (by decide) rfl rfl d_TextReader_takeTableNumber_15 rfl rfl rfl eh14 ?_
    refine J_aload_n (pc := 18) X 0 d_TextReader_takeTableNumber_18 rfl ?_
    obtain ⟨v15, ev15, hM⟩ := hb_some hM
    refine J_getA (pc := 19) X hc_TextReader in_TextReader 1 k_236 (by decide) rfl d_TextReader_takeTableNumber_19 rfl ev15 ?_
    obtain ⟨v16, ev16, hM⟩ := hb_some hM
    refine J_getAN (pc := 22) X hc_Edition in_Edition 2 (nw_11) (by decide) rfl d_TextReader_takeTableNumber_22 rfl ev16 ?_
    obtain ⟨u17, eu17, hM⟩ := hb_some hM
    obtain ⟨q18, eq18, hM⟩ := hb_some hM
    refine J_callV (pc := 25) (As := []) (rest := []) (o := (some (.int q18.1))) (h2 := q18.2) X rfl hc_Tables eu17 (c_Tables_lastSize l D K F eq18) (cwV_of (nA := 0) X.fix k_309 k_72 k_73 k_71 k_70 ⟨rfl, rfl, rfl⟩ (by decide +kernel) ⟨Nat.le_of_ble_eq_true rfl, Nat.le_of_ble_eq_true rfl⟩) d_TextReader_takeTableNumber_25 rfl rfl (Nat.le_of_ble_eq_true rfl) (Nat.le_of_ble_eq_true rfl) (Nat.le_of_ble_eq_true rfl) ?_
    refine J_if_le (pc := 28) (tgt := 35) X d_TextReader_takeTableNumber_28 (by decide) (fun c19 => ?_) (fun c19 => ?_)
    · have hM := hif_t hM c19
      refine J_iconst (pc := 35) (v := (0)) X d_TextReader_takeTableNumber_35 (by decide) ?_
      obtain rfl := Option.some.inj hM
      exact J_zret (pc := 36) X hr hz0 hlk (Nat.le_of_ble_eq_true rfl) (Nat.le_of_ble_eq_true rfl) d_TextReader_takeTableNumber_36
    · have hM := hif_f hM c19
      refine J_iconst (pc := 31) (v := (1)) X d_TextReader_takeTableNumber_31 (by decide) ?_
      refine J_goto (pc := 32) (tgt := 36) X d_TextReader_takeTableNumber_32 (by decide) ?_
      obtain rfl := Option.some.inj hM
      exact J_zret (pc := 36) X hr hz1 hlk (Nat.le_of_ble_eq_true rfl) (Nat.le_of_ble_eq_true rfl) d_TextReader_takeTableNumber_36
abbrev rm_TextReader_takeItem : Room := { frames := 5, cells := 1, slots := 5, locals := 109 }
set_option maxHeartbeats 4000000 in
set_option maxRecDepth 100000 in
theorem w_TextReader_takeItem_68 {p : Program} {l : Launch} {e : Env} {s : State} {m : MethodId} {args : Array Value} {below : List Frame} {meth : Method} {c : Code} {D : va_G} {K : (Nat → Nat) × (Nat → Nat)} {h0 : hH} (Y : HX p s m args meth c prog_11_method_5_code 2 "LicenceTexts$TextReader" D K "takeItem" (some .boolean) h0) {F : Nat} (h : hH) (x0 : Nat) (x1 : Int32) (q : (Int32 × hH)) (hM : M_TextReader_takeItem_68 F h x0 x1 = some q) : J p l e rm_TextReader_takeItem s m args below meth c 2 D cls0 (hF h0) h [(0, .ref x0), (1, .int x1)] 0 0 (MQ below (hQ D cls0 h0 (some (.int q.1)) q.2) args s 1 5 (hF h0)) 68 [] := by
  obtain ⟨X, hr, hlk, hnm⟩ := id Y
  unfold M_TextReader_takeItem_68 at hM
  refine J_aload_n (pc := 68) X 0 d_TextReader_takeItem_68 rfl ?_
  obtain ⟨v1, ev1, hM⟩ := hb_some hM
  refine J_getA (pc := 69) X hc_TextReader in_TextReader 1 k_236 (by decide) rfl d_TextReader_takeItem_69 rfl ev1 ?_
  refine J_iload_n (pc := 72) X 1 d_TextReader_takeItem_72 rfl ?_
  obtain ⟨u2, eu2, hM⟩ := hb_some hM
  obtain ⟨q3, eq3, hM⟩ := hb_some hM
  refine J_callV (pc := 73) (As := [.int x1]) (rest := []) (o := (some (.int q3.1))) (h2 := q3.2) X rfl hc_Edition eu2 (c_Edition_beginRule l D K F eq3) (cwV_of (nA := 1) X.fix k_310 k_312 k_313 k_167 k_311 ⟨rfl, rfl, rfl⟩ (by decide +kernel) ⟨Nat.le_of_ble_eq_true rfl, Nat.le_of_ble_eq_true rfl⟩) d_TextReader_takeItem_73 rfl rfl (Nat.le_of_ble_eq_true rfl) (Nat.le_of_ble_eq_true rfl) (Nat.le_of_ble_eq_true rfl) ?_
  refine J_if_eq (pc := 76) (tgt := 83) X d_TextReader_takeItem_76 (by decide) (fun c4 => ?_) (fun c4 => ?_)
  · have hM := hif_t hM c4
    refine J_iconst (pc := 83) (v := (0)) X d_TextReader_takeItem_83 (by decide) ?_
    obtain rfl := Option.some.inj hM
    exact J_zret (pc := 84) X hr hz0 hlk (Nat.le_of_ble_eq_true rfl) (Nat.le_of_ble_eq_true rfl) d_TextReader_takeItem_84
  · have hM := hif_f hM c4
    refine J_iconst (pc := 79) (v := (1)) X d_TextReader_takeItem_79 (by decide) ?_
    refine J_goto (pc := 80) (tgt := 84) X d_TextReader_takeItem_80 (by decide) ?_
    obtain rfl := Option.some.inj hM
    exact J_zret (pc := 84) X hr hz1 hlk (Nat.le_of_ble_eq_true rfl) (Nat.le_of_ble_eq_true rfl) d_TextReader_takeItem_84
set_option maxHeartbeats 4000000 in
set_option maxRecDepth 100000 in
theorem c_TextReader_takeItem (l : Launch) (D : va_G) (K : (Nat → Nat) × (Nat → Nat)) (F : Nat) {h : hH} {x0 : Nat} {x1 : Int32} {q : (Int32 × hH)} (hM : M_TextReader_takeItem F h x0 x1 = some q) : Met l y_TextReader_takeItem (.code y_TextReader_takeItem prog_11_method_5_code 2 (some .boolean) :: T0) rm_TextReader_takeItem (hPc hG D cls0 K [.ref x0, .int x1] h) (hQ D cls0 h (some (.int q.1)) q.2) 1 5 (hF h) := by
  refine J_met (lv := [(0, .ref x0), (1, .int x1)]) (by decide) (Nat.le_of_ble_eq_true rfl) rfl ?_
  intro p e s m below meth c X hr hlk hnm
  have Y : HX p s m _ meth c prog_11_method_5_code 2 "LicenceTexts$TextReader" D K "takeItem" (some .boolean) h := ⟨X, hr, hlk, hnm⟩
  unfold M_TextReader_takeItem at hM
  refine J_aload_n (pc := 0) X 0 d_TextReader_takeItem_0 rfl ?_
  obtain ⟨v1, ev1, hM⟩ := hb_some hM
  refine J_getA (pc := 1) X hc_TextReader in_TextReader 2 k_237 (by decide) rfl d_TextReader_takeItem_1 rfl ev1 ?_
  refine J_iload_n (pc := 4) X 1 d_TextReader_takeItem_4 rfl ?_
  refine J_ldcS (pc := 5) X 0 rfl rfl d_TextReader_takeItem_5 ?_
  obtain ⟨u2, eu2, hM⟩ := hb_some hM
  obtain ⟨q3, eq3, hM⟩ := hb_some hM
  refine J_callV (pc := 7) (As := [.int x1, .ref (K.1 0)]) (rest := []) (o := (some (.int q3.1))) (h2 := q3.2) X rfl hc_Words eu2 (c_Words_is l D K F eq3) (cwV_of (nA := 2) X.fix k_261 k_263 k_264 k_88 k_262 ⟨rfl, rfl, rfl⟩ (by decide +kernel) ⟨Nat.le_of_ble_eq_true rfl, Nat.le_of_ble_eq_true rfl⟩) d_TextReader_takeItem_7 rfl rfl (Nat.le_of_ble_eq_true rfl) (Nat.le_of_ble_eq_true rfl) (Nat.le_of_ble_eq_true rfl) ?_
  refine J_if_eq (pc := 10) (tgt := 29) X d_TextReader_takeItem_10 (by decide) (fun c4 => ?_) (fun c4 => ?_)
  · have hM := hif_t hM c4
    refine J_aload_n (pc := 29) X 0 d_TextReader_takeItem_29 rfl ?_
    refine J_aload_n (pc := 30) X 0 d_TextReader_takeItem_30 rfl ?_
    obtain ⟨v5, ev5, hM⟩ := hb_some hM
    refine J_getA (pc := 31) X hc_TextReader in_TextReader 2 k_237 (by decide) rfl d_TextReader_takeItem_31 rfl ev5 ?_
    refine J_iload_n (pc := 34) X 1 d_TextReader_takeItem_34 rfl ?_
    refine J_ldcS (pc := 35) X 1 rfl rfl d_TextReader_takeItem_35 ?_
    obtain ⟨u6, eu6, hM⟩ := hb_some hM
    obtain ⟨q7, eq7, hM⟩ := hb_some hM
    refine J_callV (pc := 37) (As := [.int x1, .ref (K.1 1)]) (rest := [.ref x0]) (o := (some (.int q7.1))) (h2 := q7.2) X rfl hc_Words eu6 (c_Words_is l D K F eq7) (cwV_of (nA := 2) X.fix k_261 k_263 k_264 k_88 k_262 ⟨rfl, rfl, rfl⟩ (by decide +kernel) ⟨Nat.le_of_ble_eq_true rfl, Nat.le_of_ble_eq_true rfl⟩) d_TextReader_takeItem_37 rfl rfl (Nat.le_of_ble_eq_true rfl) (Nat.le_of_ble_eq_true rfl) (Nat.le_of_ble_eq_true rfl) ?_
    obtain ⟨h8, eh8, hM⟩ := hb_some hM
    refine J_put (pc := 40) X hc_TextReader in_TextReader t_TextReader tk_TextReader nk_TextReader 7 k_242 (by decide) rfl rfl d_TextReader_takeItem_40 rfl ((hPutZ_of eh8).2.1) ((hPutZ_of eh8).2.2) ((hPutZ_of eh8).1) ?_
    refine J_aload_n (pc := 43) X 0 d_TextReader_takeItem_43 rfl ?_
    refine J_iconst (pc := 44) (v := (2)) X d_TextReader_takeItem_44 (by decide) ?_
    obtain ⟨h9, eh9, hM⟩ := hb_some hM
    refine J_put (pc := 45) X hc_TextReader in_TextReader t_TextReader tk_TextReader nk_TextReader 4 k_239 (by decide) rfl rfl d_TextReader_takeItem_45 rfl rfl rfl eh9 ?_
    refine J_aload_n (pc := 48) X 0 d_TextReader_takeItem_48 rfl ?_
    obtain ⟨v10, ev10, hM⟩ := hb_some hM
    refine J_getI (pc := 49) X hc_TextReader in_TextReader 7 k_242 (by decide) rfl d_TextReader_takeItem_49 rfl ev10 ?_
    refine J_if_ne (pc := 52) (tgt := 68) X d_TextReader_takeItem_52 (by decide) (fun c11 => ?_) (fun c11 => ?_)
    · have hM := hif_f hM c11
      exact w_TextReader_takeItem_68 Y _ _ _ _ hM
    · have hM := hif_t hM c11
      refine J_aload_n (pc := 55) X 0 d_TextReader_takeItem_55 rfl ?_
      obtain ⟨v12, ev12, hM⟩ := hb_some hM
      refine J_getA (pc := 56) X hc_TextReader in_TextReader 2 k_237 (by decide) rfl d_TextReader_takeItem_56 rfl ev12 ?_
      refine J_iload_n (pc := 59) X 1 d_TextReader_takeItem_59 rfl ?_
      refine J_ldcS (pc := 60) X 2 rfl rfl d_TextReader_takeItem_60 ?_
      obtain ⟨u13, eu13, hM⟩ := hb_some hM
      obtain ⟨q14, eq14, hM⟩ := hb_some hM
      refine J_callV (pc := 62) (As := [.int x1, .ref (K.1 2)]) (rest := []) (o := (some (.int q14.1))) (h2 := q14.2) X rfl hc_Words eu13 (c_Words_is l D K F eq14) (cwV_of (nA := 2) X.fix k_261 k_263 k_264 k_88 k_262 ⟨rfl, rfl, rfl⟩ (by decide +kernel) ⟨Nat.le_of_ble_eq_true rfl, Nat.le_of_ble_eq_true rfl⟩) d_TextReader_takeItem_62 rfl rfl (Nat.le_of_ble_eq_true rfl) (Nat.le_of_ble_eq_true rfl) (Nat.le_of_ble_eq_true rfl) ?_
      refine J_if_eq (pc := 65) (tgt := 83) X d_TextReader_takeItem_65 (by decide) (fun c15 => ?_) (fun c15 => ?_)
      · have hM := hif_t hM c15
        refine J_iconst (pc := 83) (v := (0)) X d_TextReader_takeItem_83 (by decide) ?_
        obtain rfl := Option.some.inj hM
        exact J_zret (pc := 84) X hr hz0 hlk (Nat.le_of_ble_eq_true rfl) (Nat.le_of_ble_eq_true rfl) d_TextReader_takeItem_84
      · have hM := hif_f hM c15
        exact w_TextReader_takeItem_68 Y _ _ _ _ hM
  · have hM := hif_f hM c4
    refine J_aload_n (pc := 13) X 0 d_TextReader_takeItem_13 rfl ?_
    refine J_iconst (pc := 14) (v := (1)) X d_TextReader_takeItem_14 (by decide) ?_
    obtain ⟨h16, eh16, hM⟩ := hb_some hM
    refine J_put (pc := 15) X hc_TextReader in_TextReader t_TextReader tk_TextReader nk_TextReader 4 k_239 (by decide) rfl rfl d_TextReader_takeItem_15 rfl rfl rfl eh16 ?_
    refine J_aload_n (pc := 18) X 0 d_TextReader_takeItem_18 rfl ?_
    obtain ⟨v17, ev17, hM⟩ := hb_some hM
    refine J_getA (pc := 19) X hc_TextReader in_TextReader 1 k_236 (by decide) rfl d_TextReader_takeItem_19 rfl ev17 ?_
    obtain ⟨v18, ev18, hM⟩ := hb_some hM
    refine J_getAN (pc := 22) X hc_Edition in_Edition 2 (nw_11) (by decide) rfl d_TextReader_takeItem_22 rfl ev18 ?_
    obtain ⟨u19, eu19, hM⟩ := hb_some hM
    obtain ⟨q20, eq20, hM⟩ := hb_some hM
    refine J_callV (pc := 25) (As := []) (rest := []) (o := (some (.int q20.1))) (h2 := q20.2) X rfl hc_Tables eu19 (c_Tables_begin l D K F eq20) (cwV_of (nA := 0) X.fix k_314 k_316 k_317 k_71 k_315 ⟨rfl, rfl, rfl⟩ (by decide +kernel) ⟨Nat.le_of_ble_eq_true rfl, Nat.le_of_ble_eq_true rfl⟩) d_TextReader_takeItem_25 rfl rfl (Nat.le_of_ble_eq_true rfl) (Nat.le_of_ble_eq_true rfl) (Nat.le_of_ble_eq_true rfl) ?_
    obtain ⟨u21, eu21, hM⟩ := hb_some hM
    obtain rfl := Option.some.inj hM
    exact J_zret (pc := 28) X hr (hZ_of eu21) hlk (Nat.le_of_ble_eq_true rfl) (Nat.le_of_ble_eq_true rfl) d_TextReader_takeItem_28
abbrev rm_TextReader_take : Room := { frames := 7, cells := 1, slots := 5, locals := 152 }
set_option maxHeartbeats 4000000 in
set_option maxRecDepth 100000 in
theorem c_TextReader_take (l : Launch) (D : va_G) (K : (Nat → Nat) × (Nat → Nat)) (F : Nat) {h : hH} {x0 : Nat} {x1 : Int32} {q : (Int32 × hH)} (hM : M_TextReader_take F h x0 x1 = some q) : Met l y_TextReader_take (.code y_TextReader_take prog_11_method_4_code 2 (some .boolean) :: T0) rm_TextReader_take (hPc hG D cls0 K [.ref x0, .int x1] h) (hQ D cls0 h (some (.int q.1)) q.2) 1 5 (hF h) := by
  refine J_met (lv := [(0, .ref x0), (1, .int x1)]) (by decide) (Nat.le_of_ble_eq_true rfl) rfl ?_
  intro p e s m below meth c X hr hlk hnm
  have Y : HX p s m _ meth c prog_11_method_4_code 2 "LicenceTexts$TextReader" D K "take" (some .boolean) h := ⟨X, hr, hlk, hnm⟩
  unfold M_TextReader_take at hM
  refine J_aload_n (pc := 0) X 0 d_TextReader_take_0 rfl ?_
  obtain ⟨v1, ev1, hM⟩ := hb_some hM
  refine J_getI (pc := 1) X hc_TextReader in_TextReader 4 k_239 (by decide) rfl d_TextReader_take_1 rfl ev1 ?_
  by_cases c2 : v1 = 0
  · have hM := hif_t hM c2
    refine J_tableIn (pc := 4) (tgt := 40) X 0 c2 d_TextReader_take_4 (by decide) (by decide) rfl (by decide) ?_
    refine J_aload_n (pc := 40) X 0 d_TextReader_take_40 rfl ?_
    refine J_iload_n (pc := 41) X 1 d_TextReader_take_41 rfl ?_
    obtain ⟨u3, eu3, hM⟩ := hb_some hM
    obtain ⟨q4, eq4, hM⟩ := hb_some hM
    refine J_callV (pc := 42) (As := [.int x1]) (rest := []) (o := (some (.int q4.1))) (h2 := q4.2) X rfl hc_TextReader eu3 (c_TextReader_takeItem l D K F eq4) (cwV_of (nA := 1) X.fix k_318 k_320 k_321 k_246 k_319 ⟨rfl, rfl, rfl⟩ (by decide +kernel) ⟨Nat.le_of_ble_eq_true rfl, Nat.le_of_ble_eq_true rfl⟩) d_TextReader_take_42 rfl rfl (Nat.le_of_ble_eq_true rfl) (Nat.le_of_ble_eq_true rfl) (Nat.le_of_ble_eq_true rfl) ?_
    obtain ⟨u5, eu5, hM⟩ := hb_some hM
    obtain rfl := Option.some.inj hM
    exact J_zret (pc := 45) X hr (hZ_of eu5) hlk (Nat.le_of_ble_eq_true rfl) (Nat.le_of_ble_eq_true rfl) d_TextReader_take_45
  · have hM := hif_f hM c2
    by_cases c6 : v1 = 1
    · have hM := hif_t hM c6
      refine J_tableIn (pc := 4) (tgt := 46) X 1 c6 d_TextReader_take_4 (by decide) (by decide) rfl (by decide) ?_
      refine J_aload_n (pc := 46) X 0 d_TextReader_take_46 rfl ?_
      refine J_iload_n (pc := 47) X 1 d_TextReader_take_47 rfl ?_
      obtain ⟨u7, eu7, hM⟩ := hb_some hM
      obtain ⟨q8, eq8, hM⟩ := hb_some hM
      refine J_callV (pc := 48) (As := [.int x1]) (rest := []) (o := (some (.int q8.1))) (h2 := q8.2) X rfl hc_TextReader eu7 (c_TextReader_takeTableNumber l D K F eq8) (cwV_of (nA := 1) X.fix k_322 k_324 k_325 k_246 k_323 ⟨rfl, rfl, rfl⟩ (by decide +kernel) ⟨Nat.le_of_ble_eq_true rfl, Nat.le_of_ble_eq_true rfl⟩) d_TextReader_take_48 rfl rfl (Nat.le_of_ble_eq_true rfl) (Nat.le_of_ble_eq_true rfl) (Nat.le_of_ble_eq_true rfl) ?_
      obtain ⟨u9, eu9, hM⟩ := hb_some hM
      obtain rfl := Option.some.inj hM
      exact J_zret (pc := 51) X hr (hZ_of eu9) hlk (Nat.le_of_ble_eq_true rfl) (Nat.le_of_ble_eq_true rfl) d_TextReader_take_51
    · have hM := hif_f hM c6
      by_cases c10 : v1 = 2
      · have hM := hif_t hM c10
        refine J_tableIn (pc := 4) (tgt := 52) X 2 c10 d_TextReader_take_4 (by decide) (by decide) rfl (by decide) ?_
        refine J_aload_n (pc := 52) X 0 d_TextReader_take_52 rfl ?_
        refine J_iload_n (pc := 53) X 1 d_TextReader_take_53 rfl ?_
        obtain ⟨u11, eu11, hM⟩ := hb_some hM
        obtain ⟨q12, eq12, hM⟩ := hb_some hM
        refine J_callV (pc := 54) (As := [.int x1]) (rest := []) (o := (some (.int q12.1))) (h2 := q12.2) X rfl hc_TextReader eu11 (c_TextReader_takeAtom l D K F eq12) (cwV_of (nA := 1) X.fix k_326 k_328 k_329 k_246 k_327 ⟨rfl, rfl, rfl⟩ (by decide +kernel) ⟨Nat.le_of_ble_eq_true rfl, Nat.le_of_ble_eq_true rfl⟩) d_TextReader_take_54 rfl rfl (Nat.le_of_ble_eq_true rfl) (Nat.le_of_ble_eq_true rfl) (Nat.le_of_ble_eq_true rfl) ?_
        obtain ⟨u13, eu13, hM⟩ := hb_some hM
        obtain rfl := Option.some.inj hM
        exact J_zret (pc := 57) X hr (hZ_of eu13) hlk (Nat.le_of_ble_eq_true rfl) (Nat.le_of_ble_eq_true rfl) d_TextReader_take_57
      · have hM := hif_f hM c10
        by_cases c14 : v1 = 3
        · have hM := hif_t hM c14
          refine J_tableIn (pc := 4) (tgt := 58) X 3 c14 d_TextReader_take_4 (by decide) (by decide) rfl (by decide) ?_
          refine J_aload_n (pc := 58) X 0 d_TextReader_take_58 rfl ?_
          refine J_iload_n (pc := 59) X 1 d_TextReader_take_59 rfl ?_
          obtain ⟨u15, eu15, hM⟩ := hb_some hM
          obtain ⟨q16, eq16, hM⟩ := hb_some hM
          refine J_callV (pc := 60) (As := [.int x1]) (rest := []) (o := (some (.int q16.1))) (h2 := q16.2) X rfl hc_TextReader eu15 (c_TextReader_takeFactName l D K F eq16) (cwV_of (nA := 1) X.fix k_330 k_332 k_333 k_246 k_331 ⟨rfl, rfl, rfl⟩ (by decide +kernel) ⟨Nat.le_of_ble_eq_true rfl, Nat.le_of_ble_eq_true rfl⟩) d_TextReader_take_60 rfl rfl (Nat.le_of_ble_eq_true rfl) (Nat.le_of_ble_eq_true rfl) (Nat.le_of_ble_eq_true rfl) ?_
          obtain ⟨u17, eu17, hM⟩ := hb_some hM
          obtain rfl := Option.some.inj hM
          exact J_zret (pc := 63) X hr (hZ_of eu17) hlk (Nat.le_of_ble_eq_true rfl) (Nat.le_of_ble_eq_true rfl) d_TextReader_take_63
        · have hM := hif_f hM c14
          by_cases c18 : v1 = 4
          · have hM := hif_t hM c18
            refine J_tableIn (pc := 4) (tgt := 64) X 4 c18 d_TextReader_take_4 (by decide) (by decide) rfl (by decide) ?_
            refine J_aload_n (pc := 64) X 0 d_TextReader_take_64 rfl ?_
            refine J_iload_n (pc := 65) X 1 d_TextReader_take_65 rfl ?_
            obtain ⟨u19, eu19, hM⟩ := hb_some hM
            obtain ⟨q20, eq20, hM⟩ := hb_some hM
            refine J_callV (pc := 66) (As := [.int x1]) (rest := []) (o := (some (.int q20.1))) (h2 := q20.2) X rfl hc_TextReader eu19 (c_TextReader_takeTableName l D K F eq20) (cwV_of (nA := 1) X.fix k_334 k_336 k_337 k_246 k_335 ⟨rfl, rfl, rfl⟩ (by decide +kernel) ⟨Nat.le_of_ble_eq_true rfl, Nat.le_of_ble_eq_true rfl⟩) d_TextReader_take_66 rfl rfl (Nat.le_of_ble_eq_true rfl) (Nat.le_of_ble_eq_true rfl) (Nat.le_of_ble_eq_true rfl) ?_
            obtain ⟨u21, eu21, hM⟩ := hb_some hM
            obtain rfl := Option.some.inj hM
            exact J_zret (pc := 69) X hr (hZ_of eu21) hlk (Nat.le_of_ble_eq_true rfl) (Nat.le_of_ble_eq_true rfl) d_TextReader_take_69
          · have hM := hif_f hM c18
            have nc2 := lv_neT c2 (a := 0) (by decide)
            have nc6 := lv_neT c6 (a := 1) (by decide)
            have nc10 := lv_neT c10 (a := 2) (by decide)
            have nc14 := lv_neT c14 (a := 3) (by decide)
            have nc18 := lv_neT c18 (a := 4) (by decide)
            refine J_tableOut (pc := 4) (tgt := 70) X d_TextReader_take_4 (by omega) (by decide) ?_
            refine J_aload_n (pc := 70) X 0 d_TextReader_take_70 rfl ?_
            refine J_iload_n (pc := 71) X 1 d_TextReader_take_71 rfl ?_
            obtain ⟨u22, eu22, hM⟩ := hb_some hM
            obtain ⟨q23, eq23, hM⟩ := hb_some hM
            refine J_callV (pc := 72) (As := [.int x1]) (rest := []) (o := (some (.int q23.1))) (h2 := q23.2) X rfl hc_TextReader eu22 (c_TextReader_takeBehindAtom l D K F eq23) (cwV_of (nA := 1) X.fix k_338 k_340 k_341 k_246 k_339 ⟨rfl, rfl, rfl⟩ (by decide +kernel) ⟨Nat.le_of_ble_eq_true rfl, Nat.le_of_ble_eq_true rfl⟩) d_TextReader_take_72 rfl rfl (Nat.le_of_ble_eq_true rfl) (Nat.le_of_ble_eq_true rfl) (Nat.le_of_ble_eq_true rfl) ?_
            obtain ⟨u24, eu24, hM⟩ := hb_some hM
            obtain rfl := Option.some.inj hM
            exact J_zret (pc := 75) X hr (hZ_of eu24) hlk (Nat.le_of_ble_eq_true rfl) (Nat.le_of_ble_eq_true rfl) d_TextReader_take_75
abbrev rm_TextReader_begin : Room := { frames := 1, cells := 0, slots := 0, locals := 20 }
set_option maxHeartbeats 4000000 in
set_option maxRecDepth 100000 in
theorem c_TextReader_begin (l : Launch) (D : va_G) (K : (Nat → Nat) × (Nat → Nat)) (F : Nat) {h : hH} {x0 : Nat} {x1 : Nat} {q : hH} (hM : M_TextReader_begin F h x0 x1 = some q) : Met l y_TextReader_begin (.code y_TextReader_begin prog_11_method_3_code 2 none :: T0) rm_TextReader_begin (hPc hG D cls0 K [.ref x0, .ref x1] h) (hQ D cls0 h none q) 0 0 (hF h) := by
  refine J_met (lv := [(0, .ref x0), (1, .ref x1)]) (by decide) (Nat.le_of_ble_eq_true rfl) rfl ?_
  intro p e s m below meth c X hr hlk hnm
  have Y : HX p s m _ meth c prog_11_method_3_code 2 "LicenceTexts$TextReader" D K "begin" none h := ⟨X, hr, hlk, hnm⟩
  unfold M_TextReader_begin at hM
  refine J_aload_n (pc := 0) X 0 d_TextReader_begin_0 rfl ?_
  refine J_aload_n (pc := 1) X 1 d_TextReader_begin_1 rfl ?_
  obtain ⟨h1, eh1, hM⟩ := hb_some hM
  refine J_put (pc := 2) X hc_TextReader in_TextReader t_TextReader tk_TextReader nk_TextReader 1 k_236 (by decide) rfl rfl d_TextReader_begin_2 rfl rfl rfl eh1 ?_
  refine J_aload_n (pc := 5) X 0 d_TextReader_begin_5 rfl ?_
  refine J_aload_n (pc := 6) X 1 d_TextReader_begin_6 rfl ?_
  obtain ⟨v2, ev2, hM⟩ := hb_some hM
  refine J_getAN (pc := 7) X hc_Edition in_Edition 0 (nw_6) (by decide) rfl d_TextReader_begin_7 rfl ev2 ?_
  obtain ⟨h3, eh3, hM⟩ := hb_some hM
  refine J_put (pc := 10) X hc_TextReader in_TextReader t_TextReader tk_TextReader nk_TextReader 2 k_237 (by decide) rfl rfl d_TextReader_begin_10 rfl rfl rfl eh3 ?_
  refine J_aload_n (pc := 13) X 0 d_TextReader_begin_13 rfl ?_
  refine J_aload_n (pc := 14) X 1 d_TextReader_begin_14 rfl ?_
  obtain ⟨v4, ev4, hM⟩ := hb_some hM
  refine J_getAN (pc := 15) X hc_Edition in_Edition 1 (nw_8) (by decide) rfl d_TextReader_begin_15 rfl ev4 ?_
  obtain ⟨h5, eh5, hM⟩ := hb_some hM
  refine J_put (pc := 18) X hc_TextReader in_TextReader t_TextReader tk_TextReader nk_TextReader 3 k_238 (by decide) rfl rfl d_TextReader_begin_18 rfl rfl rfl eh5 ?_
  refine J_aload_n (pc := 21) X 0 d_TextReader_begin_21 rfl ?_
  obtain ⟨v6, ev6, hM⟩ := hb_some hM
  refine J_getA (pc := 22) X hc_TextReader in_TextReader 0 k_235 (by decide) rfl d_TextReader_begin_22 rfl ev6 ?_
  obtain ⟨u7, eu7, hM⟩ := hb_some hM
  obtain ⟨h8, eh8, hM⟩ := hb_some hM
  refine J_callV (pc := 25) (As := []) (rest := []) (o := none) (h2 := h8) X rfl hc_Steps eu7 (c_Steps_clear l D K F eh8) (cwV_of (nA := 0) X.fix k_342 k_154 k_155 k_133 k_153 ⟨rfl, rfl, rfl⟩ (by decide +kernel) ⟨Nat.le_of_ble_eq_true rfl, Nat.le_of_ble_eq_true rfl⟩) d_TextReader_begin_25 rfl rfl (Nat.le_of_ble_eq_true rfl) (Nat.le_of_ble_eq_true rfl) (Nat.le_of_ble_eq_true rfl) ?_
  refine J_aload_n (pc := 28) X 0 d_TextReader_begin_28 rfl ?_
  refine J_iconst (pc := 29) (v := (0)) X d_TextReader_begin_29 (by decide) ?_
  obtain ⟨h9, eh9, hM⟩ := hb_some hM
  refine J_put (pc := 30) X hc_TextReader in_TextReader t_TextReader tk_TextReader nk_TextReader 4 k_239 (by decide) rfl rfl d_TextReader_begin_30 rfl rfl rfl eh9 ?_
  refine J_aload_n (pc := 33) X 0 d_TextReader_begin_33 rfl ?_
  refine J_iconst (pc := 34) (v := (0)) X d_TextReader_begin_34 (by decide) ?_
  obtain ⟨h10, eh10, hM⟩ := hb_some hM
  refine J_put (pc := 35) X hc_TextReader in_TextReader t_TextReader tk_TextReader nk_TextReader 5 k_240 (by decide) rfl rfl d_TextReader_begin_35 rfl rfl rfl eh10 ?_
  refine J_aload_n (pc := 38) X 0 d_TextReader_begin_38 rfl ?_
  refine J_iconst (pc := 39) (v := (-1)) X d_TextReader_begin_39 (by decide) ?_
  obtain ⟨h11, eh11, hM⟩ := hb_some hM
  refine J_put (pc := 40) X hc_TextReader in_TextReader t_TextReader tk_TextReader nk_TextReader 6 k_241 (by decide) rfl rfl d_TextReader_begin_40 rfl rfl rfl eh11 ?_
  refine J_aload_n (pc := 43) X 0 d_TextReader_begin_43 rfl ?_
  refine J_iconst (pc := 44) (v := (0)) X d_TextReader_begin_44 (by decide) ?_
  obtain ⟨h12, eh12, hM⟩ := hb_some hM
  refine J_put (pc := 45) X hc_TextReader in_TextReader t_TextReader tk_TextReader nk_TextReader 7 k_242 (by decide) rfl rfl d_TextReader_begin_45 rfl rfl rfl eh12 ?_
  obtain rfl := Option.some.inj hM
  exact J_vret (pc := 48) X hr hlk (Nat.le_of_ble_eq_true rfl) (Nat.le_of_ble_eq_true rfl) d_TextReader_begin_48
abbrev rm_TextReader_firstWrong : Room := { frames := 8, cells := 401, slots := 2005, locals := 173 }
set_option maxHeartbeats 4000000 in
set_option maxRecDepth 100000 in
theorem b_TextReader_firstWrong_7 {p : Program} {l : Launch} {e : Env} {s : State} {m : MethodId} {args : Array Value} {below : List Frame} {meth : Method} {c : Code} {D : va_G} {K : (Nat → Nat) × (Nat → Nat)} {h0 : hH} (Y : HX p s m args meth c prog_11_method_2_code 3 "LicenceTexts$TextReader" D K "firstWrong" (some .int) h0) {F : Nat} {z : Nat}   {r7 : hH → Nat → Int32 → Option (Int32 × hH)} (R7 : ∀ (k n : Nat) (h : hH) (x0 : Nat) (x2 : Int32) (q : (Int32 × hH)), k + z * 1 ≤ 401 → n + z * 5 ≤ 2005 → r7 h x0 x2 = some q → J p l e rm_TextReader_firstWrong s m args below meth c 3 D cls0 (hF h0) h [(0, .ref x0), (2, .int x2)] k n (MQ below (hQ D cls0 h0 (some (.int q.1)) q.2) args s 401 2005 (hF h0)) 7 []) : ∀ (k n : Nat) (h : hH) (x0 : Nat) (x2 : Int32) (q : (Int32 × hH)), k + (z + 1) * 1 ≤ 401 → n + (z + 1) * 5 ≤ 2005 → B_TextReader_firstWrong_7 F r7 h x0 x2 = some q → J p l e rm_TextReader_firstWrong s m args below meth c 3 D cls0 (hF h0) h [(0, .ref x0), (2, .int x2)] k n (MQ below (hQ D cls0 h0 (some (.int q.1)) q.2) args s 401 2005 (hF h0)) 7 [] := by
  intro k n h x0 x2 q hk hn hM
  obtain ⟨X, hr, hlk, hnm⟩ := id Y
  unfold B_TextReader_firstWrong_7 at hM
  refine J_iload_n (pc := 7) X 1 d_TextReader_firstWrong_7 rfl ?_
  refine J_aload_n (pc := 8) X 0 d_TextReader_firstWrong_8 rfl ?_
  obtain ⟨v1, ev1, hM⟩ := hb_some hM
  refine J_getA (pc := 9) X hc_TextReader in_TextReader 2 k_237 (by decide) rfl d_TextReader_firstWrong_9 rfl ev1 ?_
  obtain ⟨v2, ev2, hM⟩ := hb_some hM
  refine J_getIN (pc := 12) X hc_Words in_Words 3 (nw_2) (by decide) rfl d_TextReader_firstWrong_12 rfl ev2 ?_
  refine J_icmp_ge (pc := 15) (tgt := 34) X d_TextReader_firstWrong_15 (by decide) (fun c3 => ?_) (fun c3 => ?_)
  · have hM := hif_t hM c3
    refine J_aload_n (pc := 34) X 0 d_TextReader_firstWrong_34 rfl ?_
    obtain ⟨v4, ev4, hM⟩ := hb_some hM
    refine J_getI (pc := 35) X hc_TextReader in_TextReader 4 k_239 (by decide) rfl d_TextReader_firstWrong_35 rfl ev4 ?_
    refine J_if_ne (pc := 38) (tgt := 45) X d_TextReader_firstWrong_38 (by decide) (fun c5 => ?_) (fun c5 => ?_)
    · have hM := hif_f hM c5
      refine J_aload_n (pc := 45) X 0 d_TextReader_firstWrong_45 rfl ?_
      obtain ⟨v6, ev6, hM⟩ := hb_some hM
      refine J_getA (pc := 46) X hc_TextReader in_TextReader 2 k_237 (by decide) rfl d_TextReader_firstWrong_46 rfl ev6 ?_
      obtain ⟨v7, ev7, hM⟩ := hb_some hM
      refine J_getIN (pc := 49) X hc_Words in_Words 3 (nw_2) (by decide) rfl d_TextReader_firstWrong_49 rfl ev7 ?_
      obtain rfl := Option.some.inj hM
      exact J_iret (pc := 52) X hr hlk (by omega) (by omega) d_TextReader_firstWrong_52
    · have hM := hif_t hM c5
      refine J_iconst (pc := 41) (v := (-1)) X d_TextReader_firstWrong_41 (by decide) ?_
      refine J_goto (pc := 42) (tgt := 52) X d_TextReader_firstWrong_42 (by decide) ?_
      obtain rfl := Option.some.inj hM
      exact J_iret (pc := 52) X hr hlk (by omega) (by omega) d_TextReader_firstWrong_52
  · have hM := hif_f hM c3
    refine J_aload_n (pc := 18) X 0 d_TextReader_firstWrong_18 rfl ?_
    refine J_iload_n (pc := 19) X 1 d_TextReader_firstWrong_19 rfl ?_
    obtain ⟨u8, eu8, hM⟩ := hb_some hM
    obtain ⟨q9, eq9, hM⟩ := hb_some hM
    refine J_callV (pc := 20) (As := [.int x2]) (rest := []) (o := (some (.int q9.1))) (h2 := q9.2) X rfl hc_TextReader eu8 (c_TextReader_take l D K F eq9) (cwV_of (nA := 1) X.fix k_343 k_345 k_346 k_246 k_344 ⟨rfl, rfl, rfl⟩ (by decide +kernel) ⟨Nat.le_of_ble_eq_true rfl, Nat.le_of_ble_eq_true rfl⟩) d_TextReader_firstWrong_20 rfl rfl (Nat.le_of_ble_eq_true rfl) (by show _ ≤ _; simp only [rm_TextReader_firstWrong]; omega) (by show _ ≤ _; simp only [rm_TextReader_firstWrong]; omega) ?_
    refine J_if_ne (pc := 23) (tgt := 28) X d_TextReader_firstWrong_23 (by decide) (fun c10 => ?_) (fun c10 => ?_)
    · have hM := hif_f hM c10
      refine J_iinc (pc := 28) (v := x2 + 1) (lv' := [(2, .int (x2 + 1)), (0, .ref x0)]) X 1 d_TextReader_firstWrong_28 rfl rfl (by decide) rfl ?_
      refine J_goto (pc := 31) (tgt := 7) X d_TextReader_firstWrong_31 (by decide) ?_
      refine J_sub [1, 0] rfl ?_
      exact R7 _ _ _ _ _ _ (by omega) (by omega) hM
    · have hM := hif_t hM c10
      refine J_iload_n (pc := 26) X 1 d_TextReader_firstWrong_26 rfl ?_
      obtain rfl := Option.some.inj hM
      exact J_iret (pc := 27) X hr hlk (by omega) (by omega) d_TextReader_firstWrong_27
theorem w_TextReader_firstWrong_7 {p : Program} {l : Launch} {e : Env} {s : State} {m : MethodId} {args : Array Value} {below : List Frame} {meth : Method} {c : Code} {D : va_G} {K : (Nat → Nat) × (Nat → Nat)} {h0 : hH} (Y : HX p s m args meth c prog_11_method_2_code 3 "LicenceTexts$TextReader" D K "firstWrong" (some .int) h0) {F : Nat} : ∀ z : Nat, ∀ (k n : Nat) (h : hH) (x0 : Nat) (x2 : Int32) (q : (Int32 × hH)), k + z * 1 ≤ 401 → n + z * 5 ≤ 2005 → M_TextReader_firstWrong_7 F z h x0 x2 = some q → J p l e rm_TextReader_firstWrong s m args below meth c 3 D cls0 (hF h0) h [(0, .ref x0), (2, .int x2)] k n (MQ below (hQ D cls0 h0 (some (.int q.1)) q.2) args s 401 2005 (hF h0)) 7 [] := by
  intro z
  induction z with
  | zero => intro k n h x0 x2 q hk hn hM; exact absurd (show (none : Option _) = some q from hM) (fun t => by cases t)
  | succ z ih => exact b_TextReader_firstWrong_7 Y ih
set_option maxHeartbeats 4000000 in
set_option maxRecDepth 100000 in
theorem c_TextReader_firstWrong (l : Launch) (D : va_G) (K : (Nat → Nat) × (Nat → Nat)) (F : Nat) {h : hH} {x0 : Nat} {x1 : Nat} {q : (Int32 × hH)} (hM : M_TextReader_firstWrong F h x0 x1 = some q) : Met l y_TextReader_firstWrong (.code y_TextReader_firstWrong prog_11_method_2_code 3 (some .int) :: T0) rm_TextReader_firstWrong (hPc hG D cls0 K [.ref x0, .ref x1] h) (hQ D cls0 h (some (.int q.1)) q.2) 401 2005 (hF h) := by
  refine J_met (lv := [(0, .ref x0), (1, .ref x1)]) (by decide) (Nat.le_of_ble_eq_true rfl) rfl ?_
  intro p e s m below meth c X hr hlk hnm
  have Y : HX p s m _ meth c prog_11_method_2_code 3 "LicenceTexts$TextReader" D K "firstWrong" (some .int) h := ⟨X, hr, hlk, hnm⟩
  unfold M_TextReader_firstWrong at hM
  refine J_aload_n (pc := 0) X 0 d_TextReader_firstWrong_0 rfl ?_
  refine J_aload_n (pc := 1) X 1 d_TextReader_firstWrong_1 rfl ?_
  obtain ⟨u1, eu1, hM⟩ := hb_some hM
  obtain ⟨h2, eh2, hM⟩ := hb_some hM
  refine J_callV (pc := 2) (As := [.ref x1]) (rest := []) (o := none) (h2 := h2) X rfl hc_TextReader eu1 (c_TextReader_begin l D K F eh2) (cwV_of (nA := 1) X.fix k_347 k_349 k_350 k_246 k_348 ⟨rfl, rfl, rfl⟩ (by decide +kernel) ⟨Nat.le_of_ble_eq_true rfl, Nat.le_of_ble_eq_true rfl⟩) d_TextReader_firstWrong_2 rfl rfl (Nat.le_of_ble_eq_true rfl) (by show _ ≤ _; simp only [rm_TextReader_firstWrong]; omega) (by show _ ≤ _; simp only [rm_TextReader_firstWrong]; omega) ?_
  refine J_iconst (pc := 5) (v := (0)) X d_TextReader_firstWrong_5 (by decide) ?_
  refine J_istore_n (pc := 6) (lv' := [(2, .int 0), (0, .ref x0), (1, .ref x1)]) X d_TextReader_firstWrong_6 rfl (by decide) rfl ?_
  refine J_sub [1, 0] rfl ?_
  exact w_TextReader_firstWrong_7 Y 401 _ _ _ _ _ _ (by omega) (by omega) hM
