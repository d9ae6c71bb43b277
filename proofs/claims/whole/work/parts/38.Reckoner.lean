theorem d_Reckoner_init_0 : decode prog_7_method_1_code 0 = .ok (.aload_n 0, 1) := by decide +kernel
theorem d_Reckoner_init_1 : decode prog_7_method_1_code 1 = .ok (.invokespecial 3, 3) := by decide +kernel
theorem d_Reckoner_init_4 : decode prog_7_method_1_code 4 = .ok (.aload_n 0, 1) := by decide +kernel
theorem d_Reckoner_init_5 : decode prog_7_method_1_code 5 = .ok (.aload_n 1, 1) := by decide +kernel
theorem d_Reckoner_init_6 : decode prog_7_method_1_code 6 = .ok (.putfield 9, 3) := by decide +kernel
theorem d_Reckoner_init_9 : decode prog_7_method_1_code 9 = .ok (.aload_n 0, 1) := by decide +kernel
theorem d_Reckoner_init_10 : decode prog_7_method_1_code 10 = .ok (.bipush 64, 2) := by decide +kernel
theorem d_Reckoner_init_12 : decode prog_7_method_1_code 12 = .ok (.newarray .long, 2) := by decide +kernel
theorem d_Reckoner_init_14 : decode prog_7_method_1_code 14 = .ok (.putfield 15, 3) := by decide +kernel
theorem d_Reckoner_init_17 : decode prog_7_method_1_code 17 = .ok (.aload_n 0, 1) := by decide +kernel
theorem d_Reckoner_init_18 : decode prog_7_method_1_code 18 = .ok (.iconst 0, 1) := by decide +kernel
theorem d_Reckoner_init_19 : decode prog_7_method_1_code 19 = .ok (.putfield 19, 3) := by decide +kernel
theorem d_Reckoner_init_22 : decode prog_7_method_1_code 22 = .ok (.aload_n 0, 1) := by decide +kernel
theorem d_Reckoner_init_23 : decode prog_7_method_1_code 23 = .ok (.iconst (-1), 1) := by decide +kernel
theorem d_Reckoner_init_24 : decode prog_7_method_1_code 24 = .ok (.putfield 23, 3) := by decide +kernel
theorem d_Reckoner_init_27 : decode prog_7_method_1_code 27 = .ok (.aload_n 0, 1) := by decide +kernel
theorem d_Reckoner_init_28 : decode prog_7_method_1_code 28 = .ok (.iconst (-1), 1) := by decide +kernel
theorem d_Reckoner_init_29 : decode prog_7_method_1_code 29 = .ok (.putfield 26, 3) := by decide +kernel
theorem d_Reckoner_init_32 : decode prog_7_method_1_code 32 = .ok (.return_, 1) := by decide +kernel
theorem d_Reckoner_push_0 : decode prog_7_method_10_code 0 = .ok (.aload_n 0, 1) := by decide +kernel
theorem d_Reckoner_push_1 : decode prog_7_method_10_code 1 = .ok (.getfield 19, 3) := by decide +kernel
theorem d_Reckoner_push_4 : decode prog_7_method_10_code 4 = .ok (.ifCond .lt 35, 3) := by decide +kernel
theorem d_Reckoner_push_39 : decode prog_7_method_10_code 39 = .ok (.return_, 1) := by decide +kernel
theorem d_Reckoner_push_7 : decode prog_7_method_10_code 7 = .ok (.aload_n 0, 1) := by decide +kernel
theorem d_Reckoner_push_8 : decode prog_7_method_10_code 8 = .ok (.getfield 19, 3) := by decide +kernel
theorem d_Reckoner_push_11 : decode prog_7_method_10_code 11 = .ok (.aload_n 0, 1) := by decide +kernel
theorem d_Reckoner_push_12 : decode prog_7_method_10_code 12 = .ok (.getfield 15, 3) := by decide +kernel
theorem d_Reckoner_push_15 : decode prog_7_method_10_code 15 = .ok (.arraylength, 1) := by decide +kernel
theorem d_Reckoner_push_16 : decode prog_7_method_10_code 16 = .ok (.if_icmp .ge 23, 3) := by decide +kernel
theorem d_Reckoner_push_19 : decode prog_7_method_10_code 19 = .ok (.aload_n 0, 1) := by decide +kernel
theorem d_Reckoner_push_20 : decode prog_7_method_10_code 20 = .ok (.getfield 15, 3) := by decide +kernel
theorem d_Reckoner_push_23 : decode prog_7_method_10_code 23 = .ok (.aload_n 0, 1) := by decide +kernel
theorem d_Reckoner_push_24 : decode prog_7_method_10_code 24 = .ok (.getfield 19, 3) := by decide +kernel
theorem d_Reckoner_push_27 : decode prog_7_method_10_code 27 = .ok (.lload_n 1, 1) := by decide +kernel
theorem d_Reckoner_push_28 : decode prog_7_method_10_code 28 = .ok (.lastore, 1) := by decide +kernel
theorem d_Reckoner_push_29 : decode prog_7_method_10_code 29 = .ok (.aload_n 0, 1) := by decide +kernel
theorem d_Reckoner_push_30 : decode prog_7_method_10_code 30 = .ok (.dup, 1) := by decide +kernel
theorem d_Reckoner_push_31 : decode prog_7_method_10_code 31 = .ok (.getfield 19, 3) := by decide +kernel
theorem d_Reckoner_push_34 : decode prog_7_method_10_code 34 = .ok (.iconst 1, 1) := by decide +kernel
theorem d_Reckoner_push_35 : decode prog_7_method_10_code 35 = .ok (.iadd, 1) := by decide +kernel
theorem d_Reckoner_push_36 : decode prog_7_method_10_code 36 = .ok (.putfield 19, 3) := by decide +kernel
theorem d_Reckoner_pop_0 : decode prog_7_method_11_code 0 = .ok (.aload_n 0, 1) := by decide +kernel
theorem d_Reckoner_pop_1 : decode prog_7_method_11_code 1 = .ok (.getfield 19, 3) := by decide +kernel
theorem d_Reckoner_pop_4 : decode prog_7_method_11_code 4 = .ok (.ifCond .le 15, 3) := by decide +kernel
theorem d_Reckoner_pop_19 : decode prog_7_method_11_code 19 = .ok (.lconst 0, 1) := by decide +kernel
theorem d_Reckoner_pop_20 : decode prog_7_method_11_code 20 = .ok (.lreturn, 1) := by decide +kernel
theorem d_Reckoner_pop_7 : decode prog_7_method_11_code 7 = .ok (.aload_n 0, 1) := by decide +kernel
theorem d_Reckoner_pop_8 : decode prog_7_method_11_code 8 = .ok (.getfield 19, 3) := by decide +kernel
theorem d_Reckoner_pop_11 : decode prog_7_method_11_code 11 = .ok (.aload_n 0, 1) := by decide +kernel
theorem d_Reckoner_pop_12 : decode prog_7_method_11_code 12 = .ok (.getfield 15, 3) := by decide +kernel
theorem d_Reckoner_pop_15 : decode prog_7_method_11_code 15 = .ok (.arraylength, 1) := by decide +kernel
theorem d_Reckoner_pop_16 : decode prog_7_method_11_code 16 = .ok (.if_icmp .le 5, 3) := by decide +kernel
theorem d_Reckoner_pop_21 : decode prog_7_method_11_code 21 = .ok (.aload_n 0, 1) := by decide +kernel
theorem d_Reckoner_pop_22 : decode prog_7_method_11_code 22 = .ok (.dup, 1) := by decide +kernel
theorem d_Reckoner_pop_23 : decode prog_7_method_11_code 23 = .ok (.getfield 19, 3) := by decide +kernel
theorem d_Reckoner_pop_26 : decode prog_7_method_11_code 26 = .ok (.iconst 1, 1) := by decide +kernel
theorem d_Reckoner_pop_27 : decode prog_7_method_11_code 27 = .ok (.isub, 1) := by decide +kernel
theorem d_Reckoner_pop_28 : decode prog_7_method_11_code 28 = .ok (.putfield 19, 3) := by decide +kernel
theorem d_Reckoner_pop_31 : decode prog_7_method_11_code 31 = .ok (.aload_n 0, 1) := by decide +kernel
theorem d_Reckoner_pop_32 : decode prog_7_method_11_code 32 = .ok (.getfield 15, 3) := by decide +kernel
theorem d_Reckoner_pop_35 : decode prog_7_method_11_code 35 = .ok (.aload_n 0, 1) := by decide +kernel
theorem d_Reckoner_pop_36 : decode prog_7_method_11_code 36 = .ok (.getfield 19, 3) := by decide +kernel
theorem d_Reckoner_pop_39 : decode prog_7_method_11_code 39 = .ok (.laload, 1) := by decide +kernel
theorem d_Reckoner_pop_40 : decode prog_7_method_11_code 40 = .ok (.lreturn, 1) := by decide +kernel
theorem d_Reckoner_combined_0 : decode prog_7_method_9_code 0 = .ok (.iload_n 0, 1) := by decide +kernel
theorem d_Reckoner_combined_1 : decode prog_7_method_9_code 1 = .ok (.tableswitch 57 4 7 #[31, 35, 39, 43], 31) := by decide +kernel
theorem d_Reckoner_combined_32 : decode prog_7_method_9_code 32 = .ok (.lload_n 1, 1) := by decide +kernel
theorem d_Reckoner_combined_33 : decode prog_7_method_9_code 33 = .ok (.lload_n 3, 1) := by decide +kernel
theorem d_Reckoner_combined_34 : decode prog_7_method_9_code 34 = .ok (.ladd, 1) := by decide +kernel
theorem d_Reckoner_combined_35 : decode prog_7_method_9_code 35 = .ok (.lreturn, 1) := by decide +kernel
theorem d_Reckoner_combined_36 : decode prog_7_method_9_code 36 = .ok (.lload_n 1, 1) := by decide +kernel
theorem d_Reckoner_combined_37 : decode prog_7_method_9_code 37 = .ok (.lload_n 3, 1) := by decide +kernel
theorem d_Reckoner_combined_38 : decode prog_7_method_9_code 38 = .ok (.lsub, 1) := by decide +kernel
theorem d_Reckoner_combined_39 : decode prog_7_method_9_code 39 = .ok (.lreturn, 1) := by decide +kernel
theorem d_Reckoner_combined_40 : decode prog_7_method_9_code 40 = .ok (.lload_n 1, 1) := by decide +kernel
theorem d_Reckoner_combined_41 : decode prog_7_method_9_code 41 = .ok (.lload_n 3, 1) := by decide +kernel
theorem d_Reckoner_combined_42 : decode prog_7_method_9_code 42 = .ok (.lmul, 1) := by decide +kernel
theorem d_Reckoner_combined_43 : decode prog_7_method_9_code 43 = .ok (.lreturn, 1) := by decide +kernel
theorem d_Reckoner_combined_44 : decode prog_7_method_9_code 44 = .ok (.lload_n 3, 1) := by decide +kernel
theorem d_Reckoner_combined_45 : decode prog_7_method_9_code 45 = .ok (.lconst 0, 1) := by decide +kernel
theorem d_Reckoner_combined_46 : decode prog_7_method_9_code 46 = .ok (.lcmp, 1) := by decide +kernel
theorem d_Reckoner_combined_47 : decode prog_7_method_9_code 47 = .ok (.ifCond .ne 7, 3) := by decide +kernel
theorem d_Reckoner_combined_54 : decode prog_7_method_9_code 54 = .ok (.lload_n 1, 1) := by decide +kernel
theorem d_Reckoner_combined_55 : decode prog_7_method_9_code 55 = .ok (.lload_n 3, 1) := by decide +kernel
theorem d_Reckoner_combined_56 : decode prog_7_method_9_code 56 = .ok (.ldiv, 1) := by decide +kernel
theorem d_Reckoner_combined_57 : decode prog_7_method_9_code 57 = .ok (.lreturn, 1) := by decide +kernel
theorem d_Reckoner_combined_50 : decode prog_7_method_9_code 50 = .ok (.lconst 0, 1) := by decide +kernel
theorem d_Reckoner_combined_51 : decode prog_7_method_9_code 51 = .ok (.goto 6, 3) := by decide +kernel
theorem d_Reckoner_combined_58 : decode prog_7_method_9_code 58 = .ok (.lload_n 3, 1) := by decide +kernel
theorem d_Reckoner_combined_59 : decode prog_7_method_9_code 59 = .ok (.lconst 0, 1) := by decide +kernel
theorem d_Reckoner_combined_60 : decode prog_7_method_9_code 60 = .ok (.lcmp, 1) := by decide +kernel
theorem d_Reckoner_combined_61 : decode prog_7_method_9_code 61 = .ok (.ifCond .ne 7, 3) := by decide +kernel
theorem d_Reckoner_combined_68 : decode prog_7_method_9_code 68 = .ok (.lload_n 1, 1) := by decide +kernel
theorem d_Reckoner_combined_69 : decode prog_7_method_9_code 69 = .ok (.lload_n 3, 1) := by decide +kernel
theorem d_Reckoner_combined_70 : decode prog_7_method_9_code 70 = .ok (.lrem, 1) := by decide +kernel
theorem d_Reckoner_combined_71 : decode prog_7_method_9_code 71 = .ok (.lreturn, 1) := by decide +kernel
theorem d_Reckoner_combined_64 : decode prog_7_method_9_code 64 = .ok (.lconst 0, 1) := by decide +kernel
theorem d_Reckoner_combined_65 : decode prog_7_method_9_code 65 = .ok (.goto 6, 3) := by decide +kernel
theorem d_Reckoner_combine_36 : decode prog_7_method_8_code 36 = .ok (.aload_n 0, 1) := by decide +kernel
theorem d_Reckoner_combine_37 : decode prog_7_method_8_code 37 = .ok (.iload_n 1, 1) := by decide +kernel
theorem d_Reckoner_combine_38 : decode prog_7_method_8_code 38 = .ok (.lload 4, 2) := by decide +kernel
theorem d_Reckoner_combine_40 : decode prog_7_method_8_code 40 = .ok (.lload_n 2, 1) := by decide +kernel
theorem d_Reckoner_combine_41 : decode prog_7_method_8_code 41 = .ok (.invokestatic 104, 3) := by decide +kernel
theorem d_Reckoner_combine_44 : decode prog_7_method_8_code 44 = .ok (.invokevirtual 75, 3) := by decide +kernel
theorem d_Reckoner_combine_47 : decode prog_7_method_8_code 47 = .ok (.iconst 1, 1) := by decide +kernel
theorem d_Reckoner_combine_48 : decode prog_7_method_8_code 48 = .ok (.ireturn, 1) := by decide +kernel
theorem d_Reckoner_combine_23 : decode prog_7_method_8_code 23 = .ok (.lload_n 2, 1) := by decide +kernel
theorem d_Reckoner_combine_24 : decode prog_7_method_8_code 24 = .ok (.lconst 0, 1) := by decide +kernel
theorem d_Reckoner_combine_25 : decode prog_7_method_8_code 25 = .ok (.lcmp, 1) := by decide +kernel
theorem d_Reckoner_combine_26 : decode prog_7_method_8_code 26 = .ok (.ifCond .ne 10, 3) := by decide +kernel
theorem d_Reckoner_combine_29 : decode prog_7_method_8_code 29 = .ok (.aload_n 0, 1) := by decide +kernel
theorem d_Reckoner_combine_30 : decode prog_7_method_8_code 30 = .ok (.iconst 1, 1) := by decide +kernel
theorem d_Reckoner_combine_31 : decode prog_7_method_8_code 31 = .ok (.putfield 23, 3) := by decide +kernel
theorem d_Reckoner_combine_34 : decode prog_7_method_8_code 34 = .ok (.iconst 0, 1) := by decide +kernel
theorem d_Reckoner_combine_35 : decode prog_7_method_8_code 35 = .ok (.ireturn, 1) := by decide +kernel
theorem d_Reckoner_combine_0 : decode prog_7_method_8_code 0 = .ok (.aload_n 0, 1) := by decide +kernel
theorem d_Reckoner_combine_1 : decode prog_7_method_8_code 1 = .ok (.invokevirtual 71, 3) := by decide +kernel
theorem d_Reckoner_combine_4 : decode prog_7_method_8_code 4 = .ok (.lstore_n 2, 1) := by decide +kernel
theorem d_Reckoner_combine_5 : decode prog_7_method_8_code 5 = .ok (.aload_n 0, 1) := by decide +kernel
theorem d_Reckoner_combine_6 : decode prog_7_method_8_code 6 = .ok (.invokevirtual 71, 3) := by decide +kernel
theorem d_Reckoner_combine_9 : decode prog_7_method_8_code 9 = .ok (.lstore 4, 2) := by decide +kernel
theorem d_Reckoner_combine_11 : decode prog_7_method_8_code 11 = .ok (.iload_n 1, 1) := by decide +kernel
theorem d_Reckoner_combine_12 : decode prog_7_method_8_code 12 = .ok (.bipush 7, 2) := by decide +kernel
theorem d_Reckoner_combine_14 : decode prog_7_method_8_code 14 = .ok (.if_icmp .eq 9, 3) := by decide +kernel
theorem d_Reckoner_combine_17 : decode prog_7_method_8_code 17 = .ok (.iload_n 1, 1) := by decide +kernel
theorem d_Reckoner_combine_18 : decode prog_7_method_8_code 18 = .ok (.bipush 8, 2) := by decide +kernel
theorem d_Reckoner_combine_20 : decode prog_7_method_8_code 20 = .ok (.if_icmp .ne 16, 3) := by decide +kernel
theorem d_Reckoner_pushFact_0 : decode prog_7_method_6_code 0 = .ok (.aload_n 0, 1) := by decide +kernel
theorem d_Reckoner_pushFact_1 : decode prog_7_method_6_code 1 = .ok (.getfield 9, 3) := by decide +kernel
theorem d_Reckoner_pushFact_4 : decode prog_7_method_6_code 4 = .ok (.iload_n 1, 1) := by decide +kernel
theorem d_Reckoner_pushFact_5 : decode prog_7_method_6_code 5 = .ok (.invokevirtual 89, 3) := by decide +kernel
theorem d_Reckoner_pushFact_8 : decode prog_7_method_6_code 8 = .ok (.ifCond .ne 15, 3) := by decide +kernel
theorem d_Reckoner_pushFact_23 : decode prog_7_method_6_code 23 = .ok (.aload_n 0, 1) := by decide +kernel
theorem d_Reckoner_pushFact_24 : decode prog_7_method_6_code 24 = .ok (.aload_n 0, 1) := by decide +kernel
theorem d_Reckoner_pushFact_25 : decode prog_7_method_6_code 25 = .ok (.getfield 9, 3) := by decide +kernel
theorem d_Reckoner_pushFact_28 : decode prog_7_method_6_code 28 = .ok (.iload_n 1, 1) := by decide +kernel
theorem d_Reckoner_pushFact_29 : decode prog_7_method_6_code 29 = .ok (.invokevirtual 94, 3) := by decide +kernel
theorem d_Reckoner_pushFact_32 : decode prog_7_method_6_code 32 = .ok (.invokevirtual 75, 3) := by decide +kernel
theorem d_Reckoner_pushFact_35 : decode prog_7_method_6_code 35 = .ok (.iconst 1, 1) := by decide +kernel
theorem d_Reckoner_pushFact_36 : decode prog_7_method_6_code 36 = .ok (.ireturn, 1) := by decide +kernel
theorem d_Reckoner_pushFact_11 : decode prog_7_method_6_code 11 = .ok (.aload_n 0, 1) := by decide +kernel
theorem d_Reckoner_pushFact_12 : decode prog_7_method_6_code 12 = .ok (.iconst 3, 1) := by decide +kernel
theorem d_Reckoner_pushFact_13 : decode prog_7_method_6_code 13 = .ok (.putfield 23, 3) := by decide +kernel
theorem d_Reckoner_pushFact_16 : decode prog_7_method_6_code 16 = .ok (.aload_n 0, 1) := by decide +kernel
theorem d_Reckoner_pushFact_17 : decode prog_7_method_6_code 17 = .ok (.iload_n 1, 1) := by decide +kernel
theorem d_Reckoner_pushFact_18 : decode prog_7_method_6_code 18 = .ok (.putfield 26, 3) := by decide +kernel
theorem d_Reckoner_pushFact_21 : decode prog_7_method_6_code 21 = .ok (.iconst 0, 1) := by decide +kernel
theorem d_Reckoner_pushFact_22 : decode prog_7_method_6_code 22 = .ok (.ireturn, 1) := by decide +kernel
theorem d_Reckoner_pushPlace_0 : decode prog_7_method_7_code 0 = .ok (.aload_n 1, 1) := by decide +kernel
theorem d_Reckoner_pushPlace_1 : decode prog_7_method_7_code 1 = .ok (.iload_n 2, 1) := by decide +kernel
theorem d_Reckoner_pushPlace_2 : decode prog_7_method_7_code 2 = .ok (.aload_n 0, 1) := by decide +kernel
theorem d_Reckoner_pushPlace_3 : decode prog_7_method_7_code 3 = .ok (.invokevirtual 71, 3) := by decide +kernel
theorem d_Reckoner_pushPlace_6 : decode prog_7_method_7_code 6 = .ok (.invokevirtual 98, 3) := by decide +kernel
theorem d_Reckoner_pushPlace_9 : decode prog_7_method_7_code 9 = .ok (.istore_n 3, 1) := by decide +kernel
theorem d_Reckoner_pushPlace_10 : decode prog_7_method_7_code 10 = .ok (.iload_n 3, 1) := by decide +kernel
theorem d_Reckoner_pushPlace_11 : decode prog_7_method_7_code 11 = .ok (.iconst (-1), 1) := by decide +kernel
theorem d_Reckoner_pushPlace_12 : decode prog_7_method_7_code 12 = .ok (.if_icmp .ne 10, 3) := by decide +kernel
theorem d_Reckoner_pushPlace_22 : decode prog_7_method_7_code 22 = .ok (.aload_n 0, 1) := by decide +kernel
theorem d_Reckoner_pushPlace_23 : decode prog_7_method_7_code 23 = .ok (.iload_n 3, 1) := by decide +kernel
theorem d_Reckoner_pushPlace_24 : decode prog_7_method_7_code 24 = .ok (.i2l, 1) := by decide +kernel
theorem d_Reckoner_pushPlace_25 : decode prog_7_method_7_code 25 = .ok (.invokevirtual 75, 3) := by decide +kernel
theorem d_Reckoner_pushPlace_28 : decode prog_7_method_7_code 28 = .ok (.iconst 1, 1) := by decide +kernel
theorem d_Reckoner_pushPlace_29 : decode prog_7_method_7_code 29 = .ok (.ireturn, 1) := by decide +kernel
theorem d_Reckoner_pushPlace_15 : decode prog_7_method_7_code 15 = .ok (.aload_n 0, 1) := by decide +kernel
theorem d_Reckoner_pushPlace_16 : decode prog_7_method_7_code 16 = .ok (.iconst 2, 1) := by decide +kernel
theorem d_Reckoner_pushPlace_17 : decode prog_7_method_7_code 17 = .ok (.putfield 23, 3) := by decide +kernel
theorem d_Reckoner_pushPlace_20 : decode prog_7_method_7_code 20 = .ok (.iconst 0, 1) := by decide +kernel
theorem d_Reckoner_pushPlace_21 : decode prog_7_method_7_code 21 = .ok (.ireturn, 1) := by decide +kernel
theorem d_Reckoner_reckon_0 : decode prog_7_method_5_code 0 = .ok (.iload_n 1, 1) := by decide +kernel
theorem d_Reckoner_reckon_1 : decode prog_7_method_5_code 1 = .ok (.tableswitch 48 0 2 #[27, 35, 41], 27) := by decide +kernel
theorem d_Reckoner_reckon_28 : decode prog_7_method_5_code 28 = .ok (.aload_n 0, 1) := by decide +kernel
theorem d_Reckoner_reckon_29 : decode prog_7_method_5_code 29 = .ok (.iload_n 2, 1) := by decide +kernel
theorem d_Reckoner_reckon_30 : decode prog_7_method_5_code 30 = .ok (.i2l, 1) := by decide +kernel
theorem d_Reckoner_reckon_31 : decode prog_7_method_5_code 31 = .ok (.invokevirtual 75, 3) := by decide +kernel
theorem d_Reckoner_reckon_34 : decode prog_7_method_5_code 34 = .ok (.iconst 1, 1) := by decide +kernel
theorem d_Reckoner_reckon_35 : decode prog_7_method_5_code 35 = .ok (.ireturn, 1) := by decide +kernel
theorem d_Reckoner_reckon_36 : decode prog_7_method_5_code 36 = .ok (.aload_n 0, 1) := by decide +kernel
theorem d_Reckoner_reckon_37 : decode prog_7_method_5_code 37 = .ok (.iload_n 2, 1) := by decide +kernel
theorem d_Reckoner_reckon_38 : decode prog_7_method_5_code 38 = .ok (.invokevirtual 79, 3) := by decide +kernel
theorem d_Reckoner_reckon_41 : decode prog_7_method_5_code 41 = .ok (.ireturn, 1) := by decide +kernel
theorem d_Reckoner_reckon_42 : decode prog_7_method_5_code 42 = .ok (.aload_n 0, 1) := by decide +kernel
theorem d_Reckoner_reckon_43 : decode prog_7_method_5_code 43 = .ok (.aload_n 3, 1) := by decide +kernel
theorem d_Reckoner_reckon_44 : decode prog_7_method_5_code 44 = .ok (.iload_n 2, 1) := by decide +kernel
theorem d_Reckoner_reckon_45 : decode prog_7_method_5_code 45 = .ok (.invokevirtual 82, 3) := by decide +kernel
theorem d_Reckoner_reckon_48 : decode prog_7_method_5_code 48 = .ok (.ireturn, 1) := by decide +kernel
theorem d_Reckoner_reckon_49 : decode prog_7_method_5_code 49 = .ok (.aload_n 0, 1) := by decide +kernel
theorem d_Reckoner_reckon_50 : decode prog_7_method_5_code 50 = .ok (.iload_n 1, 1) := by decide +kernel
theorem d_Reckoner_reckon_51 : decode prog_7_method_5_code 51 = .ok (.invokevirtual 86, 3) := by decide +kernel
theorem d_Reckoner_reckon_54 : decode prog_7_method_5_code 54 = .ok (.ireturn, 1) := by decide +kernel
theorem d_Reckoner_related_0 : decode prog_7_method_4_code 0 = .ok (.aload_n 0, 1) := by decide +kernel
theorem d_Reckoner_related_1 : decode prog_7_method_4_code 1 = .ok (.invokevirtual 71, 3) := by decide +kernel
theorem d_Reckoner_related_4 : decode prog_7_method_4_code 4 = .ok (.lstore_n 2, 1) := by decide +kernel
theorem d_Reckoner_related_5 : decode prog_7_method_4_code 5 = .ok (.aload_n 0, 1) := by decide +kernel
theorem d_Reckoner_related_6 : decode prog_7_method_4_code 6 = .ok (.invokevirtual 71, 3) := by decide +kernel
theorem d_Reckoner_related_9 : decode prog_7_method_4_code 9 = .ok (.lstore 4, 2) := by decide +kernel
theorem d_Reckoner_related_11 : decode prog_7_method_4_code 11 = .ok (.iload_n 1, 1) := by decide +kernel
theorem d_Reckoner_related_12 : decode prog_7_method_4_code 12 = .ok (.tableswitch 67 9 11 #[28, 41, 54], 28) := by decide +kernel
theorem d_Reckoner_related_40 : decode prog_7_method_4_code 40 = .ok (.lload 4, 2) := by decide +kernel
theorem d_Reckoner_related_42 : decode prog_7_method_4_code 42 = .ok (.lload_n 2, 1) := by decide +kernel
theorem d_Reckoner_related_43 : decode prog_7_method_4_code 43 = .ok (.lcmp, 1) := by decide +kernel
theorem d_Reckoner_related_44 : decode prog_7_method_4_code 44 = .ok (.ifCond .ge 7, 3) := by decide +kernel
theorem d_Reckoner_related_51 : decode prog_7_method_4_code 51 = .ok (.iconst 0, 1) := by decide +kernel
theorem d_Reckoner_related_52 : decode prog_7_method_4_code 52 = .ok (.ireturn, 1) := by decide +kernel
theorem d_Reckoner_related_47 : decode prog_7_method_4_code 47 = .ok (.iconst 1, 1) := by decide +kernel
theorem d_Reckoner_related_48 : decode prog_7_method_4_code 48 = .ok (.goto 4, 3) := by decide +kernel
theorem d_Reckoner_related_53 : decode prog_7_method_4_code 53 = .ok (.lload 4, 2) := by decide +kernel
theorem d_Reckoner_related_55 : decode prog_7_method_4_code 55 = .ok (.lload_n 2, 1) := by decide +kernel
theorem d_Reckoner_related_56 : decode prog_7_method_4_code 56 = .ok (.lcmp, 1) := by decide +kernel
theorem d_Reckoner_related_57 : decode prog_7_method_4_code 57 = .ok (.ifCond .gt 7, 3) := by decide +kernel
theorem d_Reckoner_related_64 : decode prog_7_method_4_code 64 = .ok (.iconst 0, 1) := by decide +kernel
theorem d_Reckoner_related_65 : decode prog_7_method_4_code 65 = .ok (.ireturn, 1) := by decide +kernel
theorem d_Reckoner_related_60 : decode prog_7_method_4_code 60 = .ok (.iconst 1, 1) := by decide +kernel
theorem d_Reckoner_related_61 : decode prog_7_method_4_code 61 = .ok (.goto 4, 3) := by decide +kernel
theorem d_Reckoner_related_66 : decode prog_7_method_4_code 66 = .ok (.lload 4, 2) := by decide +kernel
theorem d_Reckoner_related_68 : decode prog_7_method_4_code 68 = .ok (.lload_n 2, 1) := by decide +kernel
theorem d_Reckoner_related_69 : decode prog_7_method_4_code 69 = .ok (.lcmp, 1) := by decide +kernel
theorem d_Reckoner_related_70 : decode prog_7_method_4_code 70 = .ok (.ifCond .ne 7, 3) := by decide +kernel
theorem d_Reckoner_related_77 : decode prog_7_method_4_code 77 = .ok (.iconst 0, 1) := by decide +kernel
theorem d_Reckoner_related_78 : decode prog_7_method_4_code 78 = .ok (.ireturn, 1) := by decide +kernel
theorem d_Reckoner_related_73 : decode prog_7_method_4_code 73 = .ok (.iconst 1, 1) := by decide +kernel
theorem d_Reckoner_related_74 : decode prog_7_method_4_code 74 = .ok (.goto 4, 3) := by decide +kernel
theorem d_Reckoner_related_79 : decode prog_7_method_4_code 79 = .ok (.lload 4, 2) := by decide +kernel
theorem d_Reckoner_related_81 : decode prog_7_method_4_code 81 = .ok (.lload_n 2, 1) := by decide +kernel
theorem d_Reckoner_related_82 : decode prog_7_method_4_code 82 = .ok (.lcmp, 1) := by decide +kernel
theorem d_Reckoner_related_83 : decode prog_7_method_4_code 83 = .ok (.ifCond .eq 7, 3) := by decide +kernel
theorem d_Reckoner_related_90 : decode prog_7_method_4_code 90 = .ok (.iconst 0, 1) := by decide +kernel
theorem d_Reckoner_related_91 : decode prog_7_method_4_code 91 = .ok (.ireturn, 1) := by decide +kernel
theorem d_Reckoner_related_86 : decode prog_7_method_4_code 86 = .ok (.iconst 1, 1) := by decide +kernel
theorem d_Reckoner_related_87 : decode prog_7_method_4_code 87 = .ok (.goto 4, 3) := by decide +kernel
theorem d_Reckoner_follow_71 : decode prog_7_method_3_code 71 = .ok (.iinc 4 1, 3) := by decide +kernel
theorem d_Reckoner_follow_74 : decode prog_7_method_3_code 74 = .ok (.goto (-66), 3) := by decide +kernel
theorem d_Reckoner_follow_8 : decode prog_7_method_3_code 8 = .ok (.iload 4, 2) := by decide +kernel
theorem d_Reckoner_follow_10 : decode prog_7_method_3_code 10 = .ok (.iload_n 3, 1) := by decide +kernel
theorem d_Reckoner_follow_11 : decode prog_7_method_3_code 11 = .ok (.if_icmp .ge 66, 3) := by decide +kernel
theorem d_Reckoner_follow_77 : decode prog_7_method_3_code 77 = .ok (.iconst 0, 1) := by decide +kernel
theorem d_Reckoner_follow_78 : decode prog_7_method_3_code 78 = .ok (.ireturn, 1) := by decide +kernel
theorem d_Reckoner_follow_14 : decode prog_7_method_3_code 14 = .ok (.aload_n 1, 1) := by decide +kernel
theorem d_Reckoner_follow_15 : decode prog_7_method_3_code 15 = .ok (.getfield 44, 3) := by decide +kernel
theorem d_Reckoner_follow_18 : decode prog_7_method_3_code 18 = .ok (.iload 4, 2) := by decide +kernel
theorem d_Reckoner_follow_20 : decode prog_7_method_3_code 20 = .ok (.invokevirtual 50, 3) := by decide +kernel
theorem d_Reckoner_follow_23 : decode prog_7_method_3_code 23 = .ok (.istore 5, 2) := by decide +kernel
theorem d_Reckoner_follow_25 : decode prog_7_method_3_code 25 = .ok (.aload_n 1, 1) := by decide +kernel
theorem d_Reckoner_follow_26 : decode prog_7_method_3_code 26 = .ok (.getfield 44, 3) := by decide +kernel
theorem d_Reckoner_follow_29 : decode prog_7_method_3_code 29 = .ok (.iload 4, 2) := by decide +kernel
theorem d_Reckoner_follow_31 : decode prog_7_method_3_code 31 = .ok (.invokevirtual 56, 3) := by decide +kernel
theorem d_Reckoner_follow_34 : decode prog_7_method_3_code 34 = .ok (.istore 6, 2) := by decide +kernel
theorem d_Reckoner_follow_36 : decode prog_7_method_3_code 36 = .ok (.iload 5, 2) := by decide +kernel
theorem d_Reckoner_follow_38 : decode prog_7_method_3_code 38 = .ok (.bipush 9, 2) := by decide +kernel
theorem d_Reckoner_follow_40 : decode prog_7_method_3_code 40 = .ok (.if_icmp .lt 14, 3) := by decide +kernel
theorem d_Reckoner_follow_54 : decode prog_7_method_3_code 54 = .ok (.aload_n 0, 1) := by decide +kernel
theorem d_Reckoner_follow_55 : decode prog_7_method_3_code 55 = .ok (.iload 5, 2) := by decide +kernel
theorem d_Reckoner_follow_57 : decode prog_7_method_3_code 57 = .ok (.iload 6, 2) := by decide +kernel
theorem d_Reckoner_follow_59 : decode prog_7_method_3_code 59 = .ok (.aload_n 1, 1) := by decide +kernel
theorem d_Reckoner_follow_60 : decode prog_7_method_3_code 60 = .ok (.getfield 63, 3) := by decide +kernel
theorem d_Reckoner_follow_63 : decode prog_7_method_3_code 63 = .ok (.invokevirtual 67, 3) := by decide +kernel
theorem d_Reckoner_follow_66 : decode prog_7_method_3_code 66 = .ok (.ifCond .ne 5, 3) := by decide +kernel
theorem d_Reckoner_follow_69 : decode prog_7_method_3_code 69 = .ok (.iconst 2, 1) := by decide +kernel
theorem d_Reckoner_follow_70 : decode prog_7_method_3_code 70 = .ok (.ireturn, 1) := by decide +kernel
theorem d_Reckoner_follow_43 : decode prog_7_method_3_code 43 = .ok (.aload_n 0, 1) := by decide +kernel
theorem d_Reckoner_follow_44 : decode prog_7_method_3_code 44 = .ok (.iload 5, 2) := by decide +kernel
theorem d_Reckoner_follow_46 : decode prog_7_method_3_code 46 = .ok (.invokevirtual 59, 3) := by decide +kernel
theorem d_Reckoner_follow_49 : decode prog_7_method_3_code 49 = .ok (.ifCond .ne 22, 3) := by decide +kernel
theorem d_Reckoner_follow_52 : decode prog_7_method_3_code 52 = .ok (.iconst 1, 1) := by decide +kernel
theorem d_Reckoner_follow_53 : decode prog_7_method_3_code 53 = .ok (.ireturn, 1) := by decide +kernel
theorem d_Reckoner_follow_0 : decode prog_7_method_3_code 0 = .ok (.aload_n 0, 1) := by decide +kernel
theorem d_Reckoner_follow_1 : decode prog_7_method_3_code 1 = .ok (.iconst 0, 1) := by decide +kernel
theorem d_Reckoner_follow_2 : decode prog_7_method_3_code 2 = .ok (.putfield 19, 3) := by decide +kernel
theorem d_Reckoner_follow_5 : decode prog_7_method_3_code 5 = .ok (.iload_n 2, 1) := by decide +kernel
theorem d_Reckoner_follow_6 : decode prog_7_method_3_code 6 = .ok (.istore 4, 2) := by decide +kernel
theorem d_Reckoner_judge_0 : decode prog_7_method_2_code 0 = .ok (.aload_n 0, 1) := by decide +kernel
theorem d_Reckoner_judge_1 : decode prog_7_method_2_code 1 = .ok (.iconst (-1), 1) := by decide +kernel
theorem d_Reckoner_judge_2 : decode prog_7_method_2_code 2 = .ok (.putfield 23, 3) := by decide +kernel
theorem d_Reckoner_judge_5 : decode prog_7_method_2_code 5 = .ok (.aload_n 0, 1) := by decide +kernel
theorem d_Reckoner_judge_6 : decode prog_7_method_2_code 6 = .ok (.iconst (-1), 1) := by decide +kernel
theorem d_Reckoner_judge_7 : decode prog_7_method_2_code 7 = .ok (.putfield 26, 3) := by decide +kernel
theorem d_Reckoner_judge_10 : decode prog_7_method_2_code 10 = .ok (.aload_n 0, 1) := by decide +kernel
theorem d_Reckoner_judge_11 : decode prog_7_method_2_code 11 = .ok (.aload_n 1, 1) := by decide +kernel
theorem d_Reckoner_judge_12 : decode prog_7_method_2_code 12 = .ok (.aload_n 2, 1) := by decide +kernel
theorem d_Reckoner_judge_13 : decode prog_7_method_2_code 13 = .ok (.getfield 29, 3) := by decide +kernel
theorem d_Reckoner_judge_16 : decode prog_7_method_2_code 16 = .ok (.aload_n 2, 1) := by decide +kernel
theorem d_Reckoner_judge_17 : decode prog_7_method_2_code 17 = .ok (.getfield 34, 3) := by decide +kernel
theorem d_Reckoner_judge_20 : decode prog_7_method_2_code 20 = .ok (.invokevirtual 37, 3) := by decide +kernel
theorem d_Reckoner_judge_23 : decode prog_7_method_2_code 23 = .ok (.istore_n 3, 1) := by decide +kernel
theorem d_Reckoner_judge_24 : decode prog_7_method_2_code 24 = .ok (.iload_n 3, 1) := by decide +kernel
theorem d_Reckoner_judge_25 : decode prog_7_method_2_code 25 = .ok (.iconst 1, 1) := by decide +kernel
theorem d_Reckoner_judge_26 : decode prog_7_method_2_code 26 = .ok (.if_icmp .ne 5, 3) := by decide +kernel
theorem d_Reckoner_judge_31 : decode prog_7_method_2_code 31 = .ok (.iload_n 3, 1) := by decide +kernel
theorem d_Reckoner_judge_32 : decode prog_7_method_2_code 32 = .ok (.ifCond .ne 19, 3) := by decide +kernel
theorem d_Reckoner_judge_51 : decode prog_7_method_2_code 51 = .ok (.iload_n 3, 1) := by decide +kernel
theorem d_Reckoner_judge_52 : decode prog_7_method_2_code 52 = .ok (.ireturn, 1) := by decide +kernel
theorem d_Reckoner_judge_35 : decode prog_7_method_2_code 35 = .ok (.aload_n 0, 1) := by decide +kernel
theorem d_Reckoner_judge_36 : decode prog_7_method_2_code 36 = .ok (.aload_n 1, 1) := by decide +kernel
theorem d_Reckoner_judge_37 : decode prog_7_method_2_code 37 = .ok (.aload_n 2, 1) := by decide +kernel
theorem d_Reckoner_judge_38 : decode prog_7_method_2_code 38 = .ok (.getfield 34, 3) := by decide +kernel
theorem d_Reckoner_judge_41 : decode prog_7_method_2_code 41 = .ok (.aload_n 2, 1) := by decide +kernel
theorem d_Reckoner_judge_42 : decode prog_7_method_2_code 42 = .ok (.getfield 41, 3) := by decide +kernel
theorem d_Reckoner_judge_45 : decode prog_7_method_2_code 45 = .ok (.invokevirtual 37, 3) := by decide +kernel
theorem d_Reckoner_judge_48 : decode prog_7_method_2_code 48 = .ok (.goto 4, 3) := by decide +kernel
theorem d_Reckoner_judge_29 : decode prog_7_method_2_code 29 = .ok (.iconst 3, 1) := by decide +kernel
theorem d_Reckoner_judge_30 : decode prog_7_method_2_code 30 = .ok (.ireturn, 1) := by decide +kernel
def M_Reckoner_init (F : Nat) (h : hH) (x0 : Nat) (x1 : Nat) : Option hH :=
  (hPut h x0 5 0 (.ref x1)).bind fun h1 =>
  (some (hAdd h1 (.inr (.long, 64, .inr (.inl (fun _ => 0)))))).bind fun h2 =>
  (hPut h2 x0 5 1 (.ref h1.1)).bind fun h3 =>
  (hPut h3 x0 5 2 (.int 0)).bind fun h4 =>
  (hPut h4 x0 5 3 (.int (-1))).bind fun h5 =>
  (hPut h5 x0 5 4 (.int (-1))).bind fun h6 =>
  some h6
def M_Reckoner_push (F : Nat) (h : hH) (x0 : Nat) (x1 : Int64) : Option hH :=
  (hGetI h x0 5 2).bind fun v1 =>
  if v1 < 0 then (
    some h
  ) else (
    (hGetI h x0 5 2).bind fun v3 =>
    (hGetA h x0 5 1).bind fun v4 =>
    (hLen h v4).bind fun v5 =>
    if v5 ≤ v3 then (
      some h
    ) else (
      (hGetA h x0 5 1).bind fun v7 =>
      (hGetI h x0 5 2).bind fun v8 =>
      (hStL h v7 v8 x1).bind fun h9 =>
      (hGetI h9 x0 5 2).bind fun v10 =>
      (hPut h9 x0 5 2 (.int (v10 + 1))).bind fun h11 =>
      some h11
    )
  )
def M_Reckoner_pop (F : Nat) (h : hH) (x0 : Nat) : Option (Int64 × hH) :=
  (hGetI h x0 5 2).bind fun v1 =>
  if v1 ≤ 0 then (
    some (0, h)
  ) else (
    (hGetI h x0 5 2).bind fun v3 =>
    (hGetA h x0 5 1).bind fun v4 =>
    (hLen h v4).bind fun v5 =>
    if v3 ≤ v5 then (
      (hGetI h x0 5 2).bind fun v7 =>
      (hPut h x0 5 2 (.int (v7 - 1))).bind fun h8 =>
      (hGetA h8 x0 5 1).bind fun v9 =>
      (hGetI h8 x0 5 2).bind fun v10 =>
      (hLdL h8 v9 v10).bind fun v11 =>
      some (v11, h8)
    ) else (
      some (0, h)
    )
  )
def M_Reckoner_combined (F : Nat) (h : hH) (x0 : Int32) (x1 : Int64) (x3 : Int64) : Option (Int64 × hH) :=
  if x0 = 4 then (
    some ((x1 + x3), h)
  ) else
  if x0 = 5 then (
    some ((x1 - x3), h)
  ) else
  if x0 = 6 then (
    some ((x1 * x3), h)
  ) else
  if x0 = 7 then (
    if (lg_cmp x3 0) = 0 then (
      some (0, h)
    ) else (
      if x3 = 0 then none else
      some ((x1 / x3), h)
    )
  ) else
  if (lg_cmp x3 0) = 0 then (
    some (0, h)
  ) else (
    if x3 = 0 then none else
    some ((x1 - x1 / x3 * x3), h)
  )
def M_Reckoner_combine_36 (F : Nat) (h : hH) (x0 : Nat) (x1 : Int32) (x2 : Int64) (x4 : Int64) : Option (Int32 × hH) :=
  (M_Reckoner_combined F h x1 x4 x2).bind fun q1 =>
  (hIs q1.2 x0 5).bind fun u2 =>
  (M_Reckoner_push F q1.2 x0 q1.1).bind fun h3 =>
  some (1, h3)
def M_Reckoner_combine_23 (F : Nat) (h : hH) (x0 : Nat) (x1 : Int32) (x2 : Int64) (x4 : Int64) : Option (Int32 × hH) :=
  if (lg_cmp x2 0) = 0 then (
    (hPut h x0 5 3 (.int 1)).bind fun h2 =>
    some (0, h2)
  ) else (
    M_Reckoner_combine_36 F h x0 x1 x2 x4
  )
def M_Reckoner_combine (F : Nat) (h : hH) (x0 : Nat) (x1 : Int32) : Option (Int32 × hH) :=
  (hIs h x0 5).bind fun u1 =>
  (M_Reckoner_pop F h x0).bind fun q2 =>
  (hIs q2.2 x0 5).bind fun u3 =>
  (M_Reckoner_pop F q2.2 x0).bind fun q4 =>
  if x1 = 7 then (
    M_Reckoner_combine_23 F q4.2 x0 x1 q2.1 q4.1
  ) else (
    if x1 = 8 then (
      M_Reckoner_combine_23 F q4.2 x0 x1 q2.1 q4.1
    ) else (
      M_Reckoner_combine_36 F q4.2 x0 x1 q2.1 q4.1
    )
  )
def M_Reckoner_pushFact (F : Nat) (h : hH) (x0 : Nat) (x1 : Int32) : Option (Int32 × hH) :=
  (hGetA h x0 5 0).bind fun v1 =>
  (hIs h v1 2).bind fun u2 =>
  (M_Facts_isTold F h v1 x1).bind fun q3 =>
  if q3.1 = 0 then (
    (hPut q3.2 x0 5 3 (.int 3)).bind fun h10 =>
    (hPut h10 x0 5 4 (.int x1)).bind fun h11 =>
    some (0, h11)
  ) else (
    (hGetA q3.2 x0 5 0).bind fun v5 =>
    (hIs q3.2 v5 2).bind fun u6 =>
    (M_Facts_valueOf F q3.2 v5 x1).bind fun q7 =>
    (hIs q7.2 x0 5).bind fun u8 =>
    (M_Reckoner_push F q7.2 x0 q7.1).bind fun h9 =>
    some (1, h9)
  )
def M_Reckoner_pushPlace (F : Nat) (h : hH) (x0 : Nat) (x1 : Nat) (x2 : Int32) : Option (Int32 × hH) :=
  (hIs h x0 5).bind fun u1 =>
  (M_Reckoner_pop F h x0).bind fun q2 =>
  (hIs q2.2 x1 8).bind fun u3 =>
  (M_Tables_numberAt F q2.2 x1 x2 q2.1).bind fun q4 =>
  if q4.1 = (-1) then (
    (hPut q4.2 x0 5 3 (.int 2)).bind fun h8 =>
    some (0, h8)
  ) else (
    (hIs q4.2 x0 5).bind fun u6 =>
    (M_Reckoner_push F q4.2 x0 q4.1.toInt64).bind fun h7 =>
    some (1, h7)
  )
def M_Reckoner_reckon (F : Nat) (h : hH) (x0 : Nat) (x1 : Int32) (x2 : Int32) (x3 : Nat) : Option (Int32 × hH) :=
  if x1 = 0 then (
    (hIs h x0 5).bind fun u2 =>
    (M_Reckoner_push F h x0 x2.toInt64).bind fun h3 =>
    some (1, h3)
  ) else
  if x1 = 1 then (
    (hIs h x0 5).bind fun u5 =>
    (M_Reckoner_pushFact F h x0 x2).bind fun q6 =>
    (hZ q6.1).bind fun u7 =>
    some (q6.1, q6.2)
  ) else
  if x1 = 2 then (
    (hIs h x0 5).bind fun u9 =>
    (M_Reckoner_pushPlace F h x0 x3 x2).bind fun q10 =>
    (hZ q10.1).bind fun u11 =>
    some (q10.1, q10.2)
  ) else
  (hIs h x0 5).bind fun u12 =>
  (M_Reckoner_combine F h x0 x1).bind fun q13 =>
  (hZ q13.1).bind fun u14 =>
  some (q13.1, q13.2)
def M_Reckoner_related (F : Nat) (h : hH) (x0 : Nat) (x1 : Int32) : Option (Int32 × hH) :=
  (hIs h x0 5).bind fun u1 =>
  (M_Reckoner_pop F h x0).bind fun q2 =>
  (hIs q2.2 x0 5).bind fun u3 =>
  (M_Reckoner_pop F q2.2 x0).bind fun q4 =>
  if x1 = 9 then (
    if 0 ≤ (lg_cmp q4.1 q2.1) then (
      some (0, q4.2)
    ) else (
      some (1, q4.2)
    )
  ) else
  if x1 = 10 then (
    if 0 < (lg_cmp q4.1 q2.1) then (
      some (0, q4.2)
    ) else (
      some (1, q4.2)
    )
  ) else
  if x1 = 11 then (
    if (lg_cmp q4.1 q2.1) = 0 then (
      some (1, q4.2)
    ) else (
      some (0, q4.2)
    )
  ) else
  if (lg_cmp q4.1 q2.1) = 0 then (
    some (0, q4.2)
  ) else (
    some (1, q4.2)
  )
def M_Reckoner_follow_71 (F : Nat) (r8 : hH → Nat → Nat → Int32 → Int32 → Option (Int32 × hH)) (h : hH) (x0 : Nat) (x1 : Nat) (x3 : Int32) (x4 : Int32) : Option (Int32 × hH) :=
  r8 h x0 x1 x3 (x4 + 1)
def B_Reckoner_follow_8 (F : Nat) (r8 : hH → Nat → Nat → Int32 → Int32 → Option (Int32 × hH)) (h : hH) (x0 : Nat) (x1 : Nat) (x3 : Int32) (x4 : Int32) : Option (Int32 × hH) :=
  if x3 ≤ x4 then (
    some (0, h)
  ) else (
    (hGetA h x1 1 1).bind fun v2 =>
    (hIs h v2 7).bind fun u3 =>
    (M_Steps_kindAt F h v2 x4).bind fun q4 =>
    (hGetA q4.2 x1 1 1).bind fun v5 =>
    (hIs q4.2 v5 7).bind fun u6 =>
    (M_Steps_valueAt F q4.2 v5 x4).bind fun q7 =>
    if q4.1 < 9 then (
      (hGetA q7.2 x1 1 2).bind fun v9 =>
      (hIs q7.2 x0 5).bind fun u10 =>
      (M_Reckoner_reckon F q7.2 x0 q4.1 q7.1 v9).bind fun q11 =>
      if q11.1 = 0 then (
        some (2, q11.2)
      ) else (
        M_Reckoner_follow_71 F r8 q11.2 x0 x1 x3 x4
      )
    ) else (
      (hIs q7.2 x0 5).bind fun u13 =>
      (M_Reckoner_related F q7.2 x0 q4.1).bind fun q14 =>
      if q14.1 = 0 then (
        some (1, q14.2)
      ) else (
        M_Reckoner_follow_71 F r8 q14.2 x0 x1 x3 x4
      )
    )
  )
def M_Reckoner_follow_8 (F : Nat) : Nat → hH → Nat → Nat → Int32 → Int32 → Option (Int32 × hH)
  | 0 => fun _ _ _ _ _ => none
  | z + 1 => B_Reckoner_follow_8 F (M_Reckoner_follow_8 F z)
def M_Reckoner_follow (F : Nat) (h : hH) (x0 : Nat) (x1 : Nat) (x2 : Int32) (x3 : Int32) : Option (Int32 × hH) :=
  (hPut h x0 5 2 (.int 0)).bind fun h1 =>
  M_Reckoner_follow_8 F F h1 x0 x1 x3 x2
def M_Reckoner_judge (F : Nat) (h : hH) (x0 : Nat) (x1 : Nat) (x2 : Nat) : Option (Int32 × hH) :=
  (hPut h x0 5 3 (.int (-1))).bind fun h1 =>
  (hPut h1 x0 5 4 (.int (-1))).bind fun h2 =>
  (hGetI h2 x2 6 1).bind fun v3 =>
  (hGetI h2 x2 6 3).bind fun v4 =>
  (hIs h2 x0 5).bind fun u5 =>
  (M_Reckoner_follow F h2 x0 x1 v3 v4).bind fun q6 =>
  if q6.1 = 1 then (
    some (3, q6.2)
  ) else (
    if q6.1 = 0 then (
      (hGetI q6.2 x2 6 3).bind fun v9 =>
      (hGetI q6.2 x2 6 4).bind fun v10 =>
      (hIs q6.2 x0 5).bind fun u11 =>
      (M_Reckoner_follow F q6.2 x0 x1 v9 v10).bind fun q12 =>
      some (q12.1, q12.2)
    ) else (
      some (q6.1, q6.2)
    )
  )
abbrev rm_Reckoner_init : Room := { frames := 1, cells := 1, slots := 64, locals := 12 }
set_option maxHeartbeats 4000000 in
set_option maxRecDepth 100000 in
theorem c_Reckoner_init (l : Launch) (D : va_G) (K : (Nat → Nat) × (Nat → Nat)) (F : Nat) {h : hH} {x0 : Nat} {x1 : Nat} {q : hH} (hM : M_Reckoner_init F h x0 x1 = some q) : Met l y_Reckoner_init (.code y_Reckoner_init prog_7_method_1_code 2 none :: T0) rm_Reckoner_init (hPc hG D cls0 K [.ref x0, .ref x1] h) (hQ D cls0 h none q) 1 64 (hF h) := by
  refine J_met (lv := [(0, .ref x0), (1, .ref x1)]) (by decide) (Nat.le_of_ble_eq_true rfl) rfl ?_
  intro p e s m below meth c X hr hlk hnm
  have Y : HX p s m _ meth c prog_7_method_1_code 2 "LicenceTexts$Reckoner" D K "<init>" none h := ⟨X, hr, hlk, hnm⟩
  unfold M_Reckoner_init at hM
  refine J_aload_n (pc := 0) X 0 d_Reckoner_init_0 rfl ?_
  refine J_objInit (pc := 1) X k_170 k_1 k_2 d_Reckoner_init_1 (Nat.le_of_ble_eq_true rfl) (Nat.le_of_ble_eq_true rfl) ?_
  refine J_aload_n (pc := 4) X 0 d_Reckoner_init_4 rfl ?_
  refine J_aload_n (pc := 5) X 1 d_Reckoner_init_5 rfl ?_
  obtain ⟨h1, eh1, hM⟩ := hb_some hM
  refine J_putF (pc := 6) X hc_Reckoner in_Reckoner t_Reckoner tk_Reckoner nk_Reckoner 0 k_171 (by decide) rfl rfl rfl hnm d_Reckoner_init_6 rfl rfl rfl eh1 ?_
  refine J_aload_n (pc := 9) X 0 d_Reckoner_init_9 rfl ?_
  refine J_bipush (pc := 10) (v := (64)) X d_Reckoner_init_10 (by decide) ?_
  refine J_newa (pc := 12) (ty := .long) (N := 64) (a0 := (64, .inr (.inl (fun _ => 0)))) X rfl k_7 d_Reckoner_init_12 (fun _ => rfl) (fun _ _ hq => hq) (by decide) (by decide) (by decide) (Nat.le_of_ble_eq_true rfl) (Nat.le_of_ble_eq_true rfl) ?_
  obtain ⟨h2, eh2, hM⟩ := hb_some hM
  rw [Option.some.inj eh2]
  obtain ⟨h3, eh3, hM⟩ := hb_some hM
  refine J_putF (pc := 14) X hc_Reckoner in_Reckoner t_Reckoner tk_Reckoner nk_Reckoner 1 k_172 (by decide) rfl rfl rfl hnm d_Reckoner_init_14 rfl rfl rfl eh3 ?_
  refine J_aload_n (pc := 17) X 0 d_Reckoner_init_17 rfl ?_
  refine J_iconst (pc := 18) (v := (0)) X d_Reckoner_init_18 (by decide) ?_
  obtain ⟨h4, eh4, hM⟩ := hb_some hM
  refine J_put (pc := 19) X hc_Reckoner in_Reckoner t_Reckoner tk_Reckoner nk_Reckoner 2 k_173 (by decide) rfl rfl d_Reckoner_init_19 rfl rfl rfl eh4 ?_
  refine J_aload_n (pc := 22) X 0 d_Reckoner_init_22 rfl ?_
  refine J_iconst (pc := 23) (v := (-1)) X d_Reckoner_init_23 (by decide) ?_
  obtain ⟨h5, eh5, hM⟩ := hb_some hM
  refine J_put (pc := 24) X hc_Reckoner in_Reckoner t_Reckoner tk_Reckoner nk_Reckoner 3 k_174 (by decide) rfl rfl d_Reckoner_init_24 rfl rfl rfl eh5 ?_
  refine J_aload_n (pc := 27) X 0 d_Reckoner_init_27 rfl ?_
  refine J_iconst (pc := 28) (v := (-1)) X d_Reckoner_init_28 (by decide) ?_
  obtain ⟨h6, eh6, hM⟩ := hb_some hM
  refine J_put (pc := 29) X hc_Reckoner in_Reckoner t_Reckoner tk_Reckoner nk_Reckoner 4 k_175 (by decide) rfl rfl d_Reckoner_init_29 rfl rfl rfl eh6 ?_
  obtain rfl := Option.some.inj hM
  exact J_vret (pc := 32) X hr hlk (Nat.le_of_ble_eq_true rfl) (Nat.le_of_ble_eq_true rfl) d_Reckoner_init_32
abbrev rm_Reckoner_push : Room := { frames := 0, cells := 0, slots := 0, locals := 0 }
set_option maxHeartbeats 4000000 in
set_option maxRecDepth 100000 in
theorem c_Reckoner_push (l : Launch) (D : va_G) (K : (Nat → Nat) × (Nat → Nat)) (F : Nat) {h : hH} {x0 : Nat} {x1 : Int64} {q : hH} (hM : M_Reckoner_push F h x0 x1 = some q) : Met l y_Reckoner_push (.code y_Reckoner_push prog_7_method_10_code 3 none :: T0) rm_Reckoner_push (hPc hG D cls0 K [.ref x0, .long x1] h) (hQ D cls0 h none q) 0 0 (hF h) := by
  refine J_met (lv := [(0, .ref x0), (1, .long x1)]) (by decide) (Nat.le_of_ble_eq_true rfl) rfl ?_
  intro p e s m below meth c X hr hlk hnm
  have Y : HX p s m _ meth c prog_7_method_10_code 3 "LicenceTexts$Reckoner" D K "push" none h := ⟨X, hr, hlk, hnm⟩
  unfold M_Reckoner_push at hM
  refine J_aload_n (pc := 0) X 0 d_Reckoner_push_0 rfl ?_
  obtain ⟨v1, ev1, hM⟩ := hb_some hM
  refine J_getI (pc := 1) X hc_Reckoner in_Reckoner 2 k_173 (by decide) rfl d_Reckoner_push_1 rfl ev1 ?_
  refine J_if_lt (pc := 4) (tgt := 39) X d_Reckoner_push_4 (by decide) (fun c2 => ?_) (fun c2 => ?_)
  · have hM := hif_t hM c2
    obtain rfl := Option.some.inj hM
    exact J_vret (pc := 39) X hr hlk (Nat.le_of_ble_eq_true rfl) (Nat.le_of_ble_eq_true rfl) d_Reckoner_push_39
  · have hM := hif_f hM c2
    refine J_aload_n (pc := 7) X 0 d_Reckoner_push_7 rfl ?_
    obtain ⟨v3, ev3, hM⟩ := hb_some hM
    refine J_getI (pc := 8) X hc_Reckoner in_Reckoner 2 k_173 (by decide) rfl d_Reckoner_push_8 rfl ev3 ?_
    refine J_aload_n (pc := 11) X 0 d_Reckoner_push_11 rfl ?_
    obtain ⟨v4, ev4, hM⟩ := hb_some hM
    refine J_getA (pc := 12) X hc_Reckoner in_Reckoner 1 k_172 (by decide) rfl d_Reckoner_push_12 rfl ev4 ?_
    obtain ⟨v5, ev5, hM⟩ := hb_some hM
    refine J_alen (pc := 15) X d_Reckoner_push_15 rfl ev5 ?_
    refine J_icmp_ge (pc := 16) (tgt := 39) X d_Reckoner_push_16 (by decide) (fun c6 => ?_) (fun c6 => ?_)
    · have hM := hif_t hM c6
      obtain rfl := Option.some.inj hM
      exact J_vret (pc := 39) X hr hlk (Nat.le_of_ble_eq_true rfl) (Nat.le_of_ble_eq_true rfl) d_Reckoner_push_39
    · have hM := hif_f hM c6
      refine J_aload_n (pc := 19) X 0 d_Reckoner_push_19 rfl ?_
      obtain ⟨v7, ev7, hM⟩ := hb_some hM
      refine J_getA (pc := 20) X hc_Reckoner in_Reckoner 1 k_172 (by decide) rfl d_Reckoner_push_20 rfl ev7 ?_
      refine J_aload_n (pc := 23) X 0 d_Reckoner_push_23 rfl ?_
      obtain ⟨v8, ev8, hM⟩ := hb_some hM
      refine J_getI (pc := 24) X hc_Reckoner in_Reckoner 2 k_173 (by decide) rfl d_Reckoner_push_24 rfl ev8 ?_
      refine J_lload_n (pc := 27) X 1 d_Reckoner_push_27 rfl ?_
      obtain ⟨h9, eh9, hM⟩ := hb_some hM
      refine J_last (pc := 28) X d_Reckoner_push_28 rfl eh9 ?_
      refine J_aload_n (pc := 29) X 0 d_Reckoner_push_29 rfl ?_
      refine J_dup (pc := 30) X d_Reckoner_push_30 rfl ?_
      obtain ⟨v10, ev10, hM⟩ := hb_some hM
      refine J_getI (pc := 31) X hc_Reckoner in_Reckoner 2 k_173 (by decide) rfl d_Reckoner_push_31 rfl ev10 ?_
      refine J_iconst (pc := 34) (v := (1)) X d_Reckoner_push_34 (by decide) ?_
      refine J_iadd (pc := 35) X d_Reckoner_push_35 ?_
      obtain ⟨h11, eh11, hM⟩ := hb_some hM
      refine J_put (pc := 36) X hc_Reckoner in_Reckoner t_Reckoner tk_Reckoner nk_Reckoner 2 k_173 (by decide) rfl rfl d_Reckoner_push_36 rfl rfl rfl eh11 ?_
      obtain rfl := Option.some.inj hM
      exact J_vret (pc := 39) X hr hlk (Nat.le_of_ble_eq_true rfl) (Nat.le_of_ble_eq_true rfl) d_Reckoner_push_39
abbrev rm_Reckoner_pop : Room := { frames := 0, cells := 0, slots := 0, locals := 0 }
set_option maxHeartbeats 4000000 in
set_option maxRecDepth 100000 in
theorem c_Reckoner_pop (l : Launch) (D : va_G) (K : (Nat → Nat) × (Nat → Nat)) (F : Nat) {h : hH} {x0 : Nat} {q : (Int64 × hH)} (hM : M_Reckoner_pop F h x0 = some q) : Met l y_Reckoner_pop (.code y_Reckoner_pop prog_7_method_11_code 1 (some .long) :: T0) rm_Reckoner_pop (hPc hG D cls0 K [.ref x0] h) (hQ D cls0 h (some (.long q.1)) q.2) 0 0 (hF h) := by
  refine J_met (lv := [(0, .ref x0)]) (by decide) (Nat.le_of_ble_eq_true rfl) rfl ?_
  intro p e s m below meth c X hr hlk hnm
  have Y : HX p s m _ meth c prog_7_method_11_code 1 "LicenceTexts$Reckoner" D K "pop" (some .long) h := ⟨X, hr, hlk, hnm⟩
  unfold M_Reckoner_pop at hM
  refine J_aload_n (pc := 0) X 0 d_Reckoner_pop_0 rfl ?_
  obtain ⟨v1, ev1, hM⟩ := hb_some hM
  refine J_getI (pc := 1) X hc_Reckoner in_Reckoner 2 k_173 (by decide) rfl d_Reckoner_pop_1 rfl ev1 ?_
  refine J_if_le (pc := 4) (tgt := 19) X d_Reckoner_pop_4 (by decide) (fun c2 => ?_) (fun c2 => ?_)
  · have hM := hif_t hM c2
    refine J_lconst (pc := 19) (v := (0)) X d_Reckoner_pop_19 (by decide) ?_
    obtain rfl := Option.some.inj hM
    exact J_lret (pc := 20) X hr hlk (Nat.le_of_ble_eq_true rfl) (Nat.le_of_ble_eq_true rfl) d_Reckoner_pop_20
  · have hM := hif_f hM c2
    refine J_aload_n (pc := 7) X 0 d_Reckoner_pop_7 rfl ?_
    obtain ⟨v3, ev3, hM⟩ := hb_some hM
    refine J_getI (pc := 8) X hc_Reckoner in_Reckoner 2 k_173 (by decide) rfl d_Reckoner_pop_8 rfl ev3 ?_
    refine J_aload_n (pc := 11) X 0 d_Reckoner_pop_11 rfl ?_
    obtain ⟨v4, ev4, hM⟩ := hb_some hM
    refine J_getA (pc := 12) X hc_Reckoner in_Reckoner 1 k_172 (by decide) rfl d_Reckoner_pop_12 rfl ev4 ?_
    obtain ⟨v5, ev5, hM⟩ := hb_some hM
    refine J_alen (pc := 15) X d_Reckoner_pop_15 rfl ev5 ?_
    refine J_icmp_le (pc := 16) (tgt := 21) X d_Reckoner_pop_16 (by decide) (fun c6 => ?_) (fun c6 => ?_)
    · have hM := hif_t hM c6
      refine J_aload_n (pc := 21) X 0 d_Reckoner_pop_21 rfl ?_
      refine J_dup (pc := 22) X d_Reckoner_pop_22 rfl ?_
      obtain ⟨v7, ev7, hM⟩ := hb_some hM
      refine J_getI (pc := 23) X hc_Reckoner in_Reckoner 2 k_173 (by decide) rfl d_Reckoner_pop_23 rfl ev7 ?_
      refine J_iconst (pc := 26) (v := (1)) X d_Reckoner_pop_26 (by decide) ?_
      refine J_isub (pc := 27) X d_Reckoner_pop_27 ?_
      obtain ⟨h8, eh8, hM⟩ := hb_some hM
      refine J_put (pc := 28) X hc_Reckoner in_Reckoner t_Reckoner tk_Reckoner nk_Reckoner 2 k_173 (by decide) rfl rfl d_Reckoner_pop_28 rfl rfl rfl eh8 ?_
      refine J_aload_n (pc := 31) X 0 d_Reckoner_pop_31 rfl ?_
      obtain ⟨v9, ev9, hM⟩ := hb_some hM
      refine J_getA (pc := 32) X hc_Reckoner in_Reckoner 1 k_172 (by decide) rfl d_Reckoner_pop_32 rfl ev9 ?_
      refine J_aload_n (pc := 35) X 0 d_Reckoner_pop_35 rfl ?_
      obtain ⟨v10, ev10, hM⟩ := hb_some hM
      refine J_getI (pc := 36) X hc_Reckoner in_Reckoner 2 k_173 (by decide) rfl d_Reckoner_pop_36 rfl ev10 ?_
      obtain ⟨v11, ev11, hM⟩ := hb_some hM
      refine J_lald (pc := 39) X d_Reckoner_pop_39 rfl ev11 ?_
      obtain rfl := Option.some.inj hM
      exact J_lret (pc := 40) X hr hlk (Nat.le_of_ble_eq_true rfl) (Nat.le_of_ble_eq_true rfl) d_Reckoner_pop_40
    · have hM := hif_f hM c6
      refine J_lconst (pc := 19) (v := (0)) X d_Reckoner_pop_19 (by decide) ?_
      obtain rfl := Option.some.inj hM
      exact J_lret (pc := 20) X hr hlk (Nat.le_of_ble_eq_true rfl) (Nat.le_of_ble_eq_true rfl) d_Reckoner_pop_20
abbrev rm_Reckoner_combined : Room := { frames := 0, cells := 0, slots := 0, locals := 0 }
set_option maxHeartbeats 4000000 in
set_option maxRecDepth 100000 in
theorem c_Reckoner_combined (l : Launch) (D : va_G) (K : (Nat → Nat) × (Nat → Nat)) (F : Nat) {h : hH} {x0 : Int32} {x1 : Int64} {x3 : Int64} {q : (Int64 × hH)} (hM : M_Reckoner_combined F h x0 x1 x3 = some q) : Met l y_Reckoner_combined (.code y_Reckoner_combined prog_7_method_9_code 5 (some .long) :: T0) rm_Reckoner_combined (hPc hG D cls0 K [.int x0, .long x1, .long x3] h) (hQ D cls0 h (some (.long q.1)) q.2) 0 0 (hF h) := by
  refine J_met (lv := [(0, .int x0), (1, .long x1), (3, .long x3)]) (by decide) (Nat.le_of_ble_eq_true rfl) rfl ?_
  intro p e s m below meth c X hr hlk hnm
  have Y : HX p s m _ meth c prog_7_method_9_code 5 "LicenceTexts$Reckoner" D K "combined" (some .long) h := ⟨X, hr, hlk, hnm⟩
  unfold M_Reckoner_combined at hM
  refine J_iload_n (pc := 0) X 0 d_Reckoner_combined_0 rfl ?_
  by_cases c1 : x0 = 4
  · have hM := hif_t hM c1
    refine J_tableIn (pc := 1) (tgt := 32) X 4 c1 d_Reckoner_combined_1 (by decide) (by decide) rfl (by decide) ?_
    refine J_lload_n (pc := 32) X 1 d_Reckoner_combined_32 rfl ?_
    refine J_lload_n (pc := 33) X 2 d_Reckoner_combined_33 rfl ?_
    refine J_ladd (pc := 34) X d_Reckoner_combined_34 ?_
    obtain rfl := Option.some.inj hM
    exact J_lret (pc := 35) X hr hlk (Nat.le_of_ble_eq_true rfl) (Nat.le_of_ble_eq_true rfl) d_Reckoner_combined_35
  · have hM := hif_f hM c1
    by_cases c2 : x0 = 5
    · have hM := hif_t hM c2
      refine J_tableIn (pc := 1) (tgt := 36) X 5 c2 d_Reckoner_combined_1 (by decide) (by decide) rfl (by decide) ?_
      refine J_lload_n (pc := 36) X 1 d_Reckoner_combined_36 rfl ?_
      refine J_lload_n (pc := 37) X 2 d_Reckoner_combined_37 rfl ?_
      refine J_lsub (pc := 38) X d_Reckoner_combined_38 ?_
      obtain rfl := Option.some.inj hM
      exact J_lret (pc := 39) X hr hlk (Nat.le_of_ble_eq_true rfl) (Nat.le_of_ble_eq_true rfl) d_Reckoner_combined_39
    · have hM := hif_f hM c2
      by_cases c3 : x0 = 6
      · have hM := hif_t hM c3
        refine J_tableIn (pc := 1) (tgt := 40) X 6 c3 d_Reckoner_combined_1 (by decide) (by decide) rfl (by decide) ?_
        refine J_lload_n (pc := 40) X 1 d_Reckoner_combined_40 rfl ?_
        refine J_lload_n (pc := 41) X 2 d_Reckoner_combined_41 rfl ?_
        refine J_lmul (pc := 42) X d_Reckoner_combined_42 ?_
        obtain rfl := Option.some.inj hM
        exact J_lret (pc := 43) X hr hlk (Nat.le_of_ble_eq_true rfl) (Nat.le_of_ble_eq_true rfl) d_Reckoner_combined_43
      · have hM := hif_f hM c3
        by_cases c4 : x0 = 7
        · have hM := hif_t hM c4
          refine J_tableIn (pc := 1) (tgt := 44) X 7 c4 d_Reckoner_combined_1 (by decide) (by decide) rfl (by decide) ?_
          refine J_lload_n (pc := 44) X 2 d_Reckoner_combined_44 rfl ?_
          refine J_lconst (pc := 45) (v := (0)) X d_Reckoner_combined_45 (by decide) ?_
          refine J_lcmp (pc := 46) X d_Reckoner_combined_46 ?_
          refine J_if_ne (pc := 47) (tgt := 54) X d_Reckoner_combined_47 (by decide) (fun c5 => ?_) (fun c5 => ?_)
          · have hM := hif_f hM c5
            refine J_lload_n (pc := 54) X 1 d_Reckoner_combined_54 rfl ?_
            refine J_lload_n (pc := 55) X 2 d_Reckoner_combined_55 rfl ?_
            obtain ⟨c6, hM⟩ := hnz hM
            refine J_ldiv (pc := 56) X d_Reckoner_combined_56 c6 ?_
            obtain rfl := Option.some.inj hM
            exact J_lret (pc := 57) X hr hlk (Nat.le_of_ble_eq_true rfl) (Nat.le_of_ble_eq_true rfl) d_Reckoner_combined_57
          · have hM := hif_t hM c5
            refine J_lconst (pc := 50) (v := (0)) X d_Reckoner_combined_50 (by decide) ?_
            refine J_goto (pc := 51) (tgt := 57) X d_Reckoner_combined_51 (by decide) ?_
            obtain rfl := Option.some.inj hM
            exact J_lret (pc := 57) X hr hlk (Nat.le_of_ble_eq_true rfl) (Nat.le_of_ble_eq_true rfl) d_Reckoner_combined_57
        · have hM := hif_f hM c4
          have nc1 := lv_neT c1 (a := 4) (by decide)
          have nc2 := lv_neT c2 (a := 5) (by decide)
          have nc3 := lv_neT c3 (a := 6) (by decide)
          have nc4 := lv_neT c4 (a := 7) (by decide)
          refine J_tableOut (pc := 1) (tgt := 58) X d_Reckoner_combined_1 (by omega) (by decide) ?_
          refine J_lload_n (pc := 58) X 2 d_Reckoner_combined_58 rfl ?_
          refine J_lconst (pc := 59) (v := (0)) X d_Reckoner_combined_59 (by decide) ?_
          refine J_lcmp (pc := 60) X d_Reckoner_combined_60 ?_
          refine J_if_ne (pc := 61) (tgt := 68) X d_Reckoner_combined_61 (by decide) (fun c7 => ?_) (fun c7 => ?_)
          · have hM := hif_f hM c7
            refine J_lload_n (pc := 68) X 1 d_Reckoner_combined_68 rfl ?_
            refine J_lload_n (pc := 69) X 2 d_Reckoner_combined_69 rfl ?_
            obtain ⟨c8, hM⟩ := hnz hM
            refine J_lrem (pc := 70) X d_Reckoner_combined_70 c8 ?_
            obtain rfl := Option.some.inj hM
            exact J_lret (pc := 71) X hr hlk (Nat.le_of_ble_eq_true rfl) (Nat.le_of_ble_eq_true rfl) d_Reckoner_combined_71
          · have hM := hif_t hM c7
            refine J_lconst (pc := 64) (v := (0)) X d_Reckoner_combined_64 (by decide) ?_
            refine J_goto (pc := 65) (tgt := 71) X d_Reckoner_combined_65 (by decide) ?_
            obtain rfl := Option.some.inj hM
            exact J_lret (pc := 71) X hr hlk (Nat.le_of_ble_eq_true rfl) (Nat.le_of_ble_eq_true rfl) d_Reckoner_combined_71
abbrev rm_Reckoner_combine : Room := { frames := 1, cells := 0, slots := 0, locals := 24 }
set_option maxHeartbeats 4000000 in
set_option maxRecDepth 100000 in
theorem w_Reckoner_combine_36 {p : Program} {l : Launch} {e : Env} {s : State} {m : MethodId} {args : Array Value} {below : List Frame} {meth : Method} {c : Code} {D : va_G} {K : (Nat → Nat) × (Nat → Nat)} {h0 : hH} (Y : HX p s m args meth c prog_7_method_8_code 6 "LicenceTexts$Reckoner" D K "combine" (some .boolean) h0) {F : Nat} (h : hH) (x0 : Nat) (x1 : Int32) (x2 : Int64) (x4 : Int64) (q : (Int32 × hH)) (hM : M_Reckoner_combine_36 F h x0 x1 x2 x4 = some q) : J p l e rm_Reckoner_combine s m args below meth c 6 D cls0 (hF h0) h [(0, .ref x0), (1, .int x1), (2, .long x2), (4, .long x4)] 0 0 (MQ below (hQ D cls0 h0 (some (.int q.1)) q.2) args s 0 0 (hF h0)) 36 [] := by
  obtain ⟨X, hr, hlk, hnm⟩ := id Y
  unfold M_Reckoner_combine_36 at hM
  refine J_aload_n (pc := 36) X 0 d_Reckoner_combine_36 rfl ?_
  refine J_iload_n (pc := 37) X 1 d_Reckoner_combine_37 rfl ?_
  refine J_lload (pc := 38) X 3 d_Reckoner_combine_38 rfl ?_
  refine J_lload_n (pc := 40) X 2 d_Reckoner_combine_40 rfl ?_
  obtain ⟨q1, eq1, hM⟩ := hb_some hM
  refine J_callS (pc := 41) (As := [.int x1, .long x4, .long x2]) (rest := [.ref x0]) (o := (some (.long q1.1))) (h2 := q1.2) X (c_Reckoner_combined l D K F eq1) (cwS_of (nA := 3) X.fix k_176 k_179 k_178 k_177 ⟨rfl, rfl⟩ (by decide +kernel) ⟨Nat.le_of_ble_eq_true rfl, Nat.le_of_ble_eq_true rfl⟩) d_Reckoner_combine_41 rfl rfl (Nat.le_of_ble_eq_true rfl) (Nat.le_of_ble_eq_true rfl) (Nat.le_of_ble_eq_true rfl) ?_
  obtain ⟨u2, eu2, hM⟩ := hb_some hM
  obtain ⟨h3, eh3, hM⟩ := hb_some hM
  refine J_callV (pc := 44) (As := [.long q1.1]) (rest := []) (o := none) (h2 := h3) X rfl hc_Reckoner eu2 (c_Reckoner_push l D K F eh3) (cwV_of (nA := 1) X.fix k_180 k_182 k_183 k_178 k_181 ⟨rfl, rfl, rfl⟩ (by decide +kernel) ⟨Nat.le_of_ble_eq_true rfl, Nat.le_of_ble_eq_true rfl⟩) d_Reckoner_combine_44 rfl rfl (Nat.le_of_ble_eq_true rfl) (Nat.le_of_ble_eq_true rfl) (Nat.le_of_ble_eq_true rfl) ?_
  refine J_iconst (pc := 47) (v := (1)) X d_Reckoner_combine_47 (by decide) ?_
  obtain rfl := Option.some.inj hM
  exact J_zret (pc := 48) X hr hz1 hlk (Nat.le_of_ble_eq_true rfl) (Nat.le_of_ble_eq_true rfl) d_Reckoner_combine_48
set_option maxHeartbeats 4000000 in
set_option maxRecDepth 100000 in
theorem w_Reckoner_combine_23 {p : Program} {l : Launch} {e : Env} {s : State} {m : MethodId} {args : Array Value} {below : List Frame} {meth : Method} {c : Code} {D : va_G} {K : (Nat → Nat) × (Nat → Nat)} {h0 : hH} (Y : HX p s m args meth c prog_7_method_8_code 6 "LicenceTexts$Reckoner" D K "combine" (some .boolean) h0) {F : Nat} (h : hH) (x0 : Nat) (x1 : Int32) (x2 : Int64) (x4 : Int64) (q : (Int32 × hH)) (hM : M_Reckoner_combine_23 F h x0 x1 x2 x4 = some q) : J p l e rm_Reckoner_combine s m args below meth c 6 D cls0 (hF h0) h [(0, .ref x0), (1, .int x1), (2, .long x2), (4, .long x4)] 0 0 (MQ below (hQ D cls0 h0 (some (.int q.1)) q.2) args s 0 0 (hF h0)) 23 [] := by
  obtain ⟨X, hr, hlk, hnm⟩ := id Y
  unfold M_Reckoner_combine_23 at hM
  refine J_lload_n (pc := 23) X 2 d_Reckoner_combine_23 rfl ?_
  refine J_lconst (pc := 24) (v := (0)) X d_Reckoner_combine_24 (by decide) ?_
  refine J_lcmp (pc := 25) X d_Reckoner_combine_25 ?_
  refine J_if_ne (pc := 26) (tgt := 36) X d_Reckoner_combine_26 (by decide) (fun c1 => ?_) (fun c1 => ?_)
  · have hM := hif_f hM c1
    exact w_Reckoner_combine_36 Y _ _ _ _ _ _ hM
  · have hM := hif_t hM c1
    refine J_aload_n (pc := 29) X 0 d_Reckoner_combine_29 rfl ?_
    refine J_iconst (pc := 30) (v := (1)) X d_Reckoner_combine_30 (by decide) ?_
    obtain ⟨h2, eh2, hM⟩ := hb_some hM
    refine J_put (pc := 31) X hc_Reckoner in_Reckoner t_Reckoner tk_Reckoner nk_Reckoner 3 k_174 (by decide) rfl rfl d_Reckoner_combine_31 rfl rfl rfl eh2 ?_
    refine J_iconst (pc := 34) (v := (0)) X d_Reckoner_combine_34 (by decide) ?_
    obtain rfl := Option.some.inj hM
    exact J_zret (pc := 35) X hr hz0 hlk (Nat.le_of_ble_eq_true rfl) (Nat.le_of_ble_eq_true rfl) d_Reckoner_combine_35
set_option maxHeartbeats 4000000 in
set_option maxRecDepth 100000 in
theorem c_Reckoner_combine (l : Launch) (D : va_G) (K : (Nat → Nat) × (Nat → Nat)) (F : Nat) {h : hH} {x0 : Nat} {x1 : Int32} {q : (Int32 × hH)} (hM : M_Reckoner_combine F h x0 x1 = some q) : Met l y_Reckoner_combine (.code y_Reckoner_combine prog_7_method_8_code 6 (some .boolean) :: T0) rm_Reckoner_combine (hPc hG D cls0 K [.ref x0, .int x1] h) (hQ D cls0 h (some (.int q.1)) q.2) 0 0 (hF h) := by
  refine J_met (lv := [(0, .ref x0), (1, .int x1)]) (by decide) (Nat.le_of_ble_eq_true rfl) rfl ?_
  intro p e s m below meth c X hr hlk hnm
  have Y : HX p s m _ meth c prog_7_method_8_code 6 "LicenceTexts$Reckoner" D K "combine" (some .boolean) h := ⟨X, hr, hlk, hnm⟩
  unfold M_Reckoner_combine at hM
  refine J_aload_n (pc := 0) X 0 d_Reckoner_combine_0 rfl ?_
  obtain ⟨u1, eu1, hM⟩ := hb_some hM
  obtain ⟨q2, eq2, hM⟩ := hb_some hM
  refine J_callV (pc := 1) (As := []) (rest := []) (o := (some (.long q2.1))) (h2 := q2.2) X rfl hc_Reckoner eu1 (c_Reckoner_pop l D K F eq2) (cwV_of (nA := 0) X.fix k_184 k_186 k_187 k_178 k_185 ⟨rfl, rfl, rfl⟩ (by decide +kernel) ⟨Nat.le_of_ble_eq_true rfl, Nat.le_of_ble_eq_true rfl⟩) d_Reckoner_combine_1 rfl rfl (Nat.le_of_ble_eq_true rfl) (Nat.le_of_ble_eq_true rfl) (Nat.le_of_ble_eq_true rfl) ?_
  refine J_lstore_n (pc := 4) (lv' := [(2, .long q2.1), (0, .ref x0), (1, .int x1)]) X d_Reckoner_combine_4 rfl (by decide) rfl ?_
  refine J_aload_n (pc := 5) X 1 d_Reckoner_combine_5 rfl ?_
  obtain ⟨u3, eu3, hM⟩ := hb_some hM
  obtain ⟨q4, eq4, hM⟩ := hb_some hM
  refine J_callV (pc := 6) (As := []) (rest := []) (o := (some (.long q4.1))) (h2 := q4.2) X rfl hc_Reckoner eu3 (c_Reckoner_pop l D K F eq4) (cwV_of (nA := 0) X.fix k_184 k_186 k_187 k_178 k_185 ⟨rfl, rfl, rfl⟩ (by decide +kernel) ⟨Nat.le_of_ble_eq_true rfl, Nat.le_of_ble_eq_true rfl⟩) d_Reckoner_combine_6 rfl rfl (Nat.le_of_ble_eq_true rfl) (Nat.le_of_ble_eq_true rfl) (Nat.le_of_ble_eq_true rfl) ?_
  refine J_lstore (pc := 9) (lv' := [(4, .long q4.1), (2, .long q2.1), (0, .ref x0), (1, .int x1)]) X d_Reckoner_combine_9 (by decide) rfl ?_
  refine J_iload_n (pc := 11) X 3 d_Reckoner_combine_11 rfl ?_
  refine J_bipush (pc := 12) (v := (7)) X d_Reckoner_combine_12 (by decide) ?_
  refine J_icmp_eq (pc := 14) (tgt := 23) X d_Reckoner_combine_14 (by decide) (fun c5 => ?_) (fun c5 => ?_)
  · have hM := hif_t hM c5
    refine J_sub [2, 3, 1, 0] rfl ?_
    exact w_Reckoner_combine_23 Y _ _ _ _ _ _ hM
  · have hM := hif_f hM c5
    refine J_iload_n (pc := 17) X 3 d_Reckoner_combine_17 rfl ?_
    refine J_bipush (pc := 18) (v := (8)) X d_Reckoner_combine_18 (by decide) ?_
    refine J_icmp_ne (pc := 20) (tgt := 36) X d_Reckoner_combine_20 (by decide) (fun c6 => ?_) (fun c6 => ?_)
    · have hM := hif_f hM c6
      refine J_sub [2, 3, 1, 0] rfl ?_
      exact w_Reckoner_combine_36 Y _ _ _ _ _ _ hM
    · have hM := hif_t hM c6
      refine J_sub [2, 3, 1, 0] rfl ?_
      exact w_Reckoner_combine_23 Y _ _ _ _ _ _ hM
abbrev rm_Reckoner_pushFact : Room := { frames := 1, cells := 0, slots := 0, locals := 22 }
set_option maxHeartbeats 4000000 in
set_option maxRecDepth 100000 in
theorem c_Reckoner_pushFact (l : Launch) (D : va_G) (K : (Nat → Nat) × (Nat → Nat)) (F : Nat) {h : hH} {x0 : Nat} {x1 : Int32} {q : (Int32 × hH)} (hM : M_Reckoner_pushFact F h x0 x1 = some q) : Met l y_Reckoner_pushFact (.code y_Reckoner_pushFact prog_7_method_6_code 2 (some .boolean) :: T0) rm_Reckoner_pushFact (hPc hG D cls0 K [.ref x0, .int x1] h) (hQ D cls0 h (some (.int q.1)) q.2) 0 0 (hF h) := by
  refine J_met (lv := [(0, .ref x0), (1, .int x1)]) (by decide) (Nat.le_of_ble_eq_true rfl) rfl ?_
  intro p e s m below meth c X hr hlk hnm
  have Y : HX p s m _ meth c prog_7_method_6_code 2 "LicenceTexts$Reckoner" D K "pushFact" (some .boolean) h := ⟨X, hr, hlk, hnm⟩
  unfold M_Reckoner_pushFact at hM
  refine J_aload_n (pc := 0) X 0 d_Reckoner_pushFact_0 rfl ?_
  obtain ⟨v1, ev1, hM⟩ := hb_some hM
  refine J_getA (pc := 1) X hc_Reckoner in_Reckoner 0 k_171 (by decide) rfl d_Reckoner_pushFact_1 rfl ev1 ?_
  refine J_iload_n (pc := 4) X 1 d_Reckoner_pushFact_4 rfl ?_
  obtain ⟨u2, eu2, hM⟩ := hb_some hM
  obtain ⟨q3, eq3, hM⟩ := hb_some hM
  refine J_callV (pc := 5) (As := [.int x1]) (rest := []) (o := (some (.int q3.1))) (h2 := q3.2) X rfl hc_Facts eu2 (c_Facts_isTold l D K F eq3) (cwV_of (nA := 1) X.fix k_188 k_190 k_191 k_13 k_189 ⟨rfl, rfl, rfl⟩ (by decide +kernel) ⟨Nat.le_of_ble_eq_true rfl, Nat.le_of_ble_eq_true rfl⟩) d_Reckoner_pushFact_5 rfl rfl (Nat.le_of_ble_eq_true rfl) (Nat.le_of_ble_eq_true rfl) (Nat.le_of_ble_eq_true rfl) ?_
  refine J_if_ne (pc := 8) (tgt := 23) X d_Reckoner_pushFact_8 (by decide) (fun c4 => ?_) (fun c4 => ?_)
  · have hM := hif_f hM c4
    refine J_aload_n (pc := 23) X 0 d_Reckoner_pushFact_23 rfl ?_
    refine J_aload_n (pc := 24) X 0 d_Reckoner_pushFact_24 rfl ?_
    obtain ⟨v5, ev5, hM⟩ := hb_some hM
    refine J_getA (pc := 25) X hc_Reckoner in_Reckoner 0 k_171 (by decide) rfl d_Reckoner_pushFact_25 rfl ev5 ?_
    refine J_iload_n (pc := 28) X 1 d_Reckoner_pushFact_28 rfl ?_
    obtain ⟨u6, eu6, hM⟩ := hb_some hM
    obtain ⟨q7, eq7, hM⟩ := hb_some hM
    refine J_callV (pc := 29) (As := [.int x1]) (rest := [.ref x0]) (o := (some (.long q7.1))) (h2 := q7.2) X rfl hc_Facts eu6 (c_Facts_valueOf l D K F eq7) (cwV_of (nA := 1) X.fix k_192 k_194 k_195 k_13 k_193 ⟨rfl, rfl, rfl⟩ (by decide +kernel) ⟨Nat.le_of_ble_eq_true rfl, Nat.le_of_ble_eq_true rfl⟩) d_Reckoner_pushFact_29 rfl rfl (Nat.le_of_ble_eq_true rfl) (Nat.le_of_ble_eq_true rfl) (Nat.le_of_ble_eq_true rfl) ?_
    obtain ⟨u8, eu8, hM⟩ := hb_some hM
    obtain ⟨h9, eh9, hM⟩ := hb_some hM
    refine J_callV (pc := 32) (As := [.long q7.1]) (rest := []) (o := none) (h2 := h9) X rfl hc_Reckoner eu8 (c_Reckoner_push l D K F eh9) (cwV_of (nA := 1) X.fix k_180 k_182 k_183 k_178 k_181 ⟨rfl, rfl, rfl⟩ (by decide +kernel) ⟨Nat.le_of_ble_eq_true rfl, Nat.le_of_ble_eq_true rfl⟩) d_Reckoner_pushFact_32 rfl rfl (Nat.le_of_ble_eq_true rfl) (Nat.le_of_ble_eq_true rfl) (Nat.le_of_ble_eq_true rfl) ?_
    refine J_iconst (pc := 35) (v := (1)) X d_Reckoner_pushFact_35 (by decide) ?_
    obtain rfl := Option.some.inj hM
    exact J_zret (pc := 36) X hr hz1 hlk (Nat.le_of_ble_eq_true rfl) (Nat.le_of_ble_eq_true rfl) d_Reckoner_pushFact_36
  · have hM := hif_t hM c4
    refine J_aload_n (pc := 11) X 0 d_Reckoner_pushFact_11 rfl ?_
    refine J_iconst (pc := 12) (v := (3)) X d_Reckoner_pushFact_12 (by decide) ?_
    obtain ⟨h10, eh10, hM⟩ := hb_some hM
    refine J_put (pc := 13) X hc_Reckoner in_Reckoner t_Reckoner tk_Reckoner nk_Reckoner 3 k_174 (by decide) rfl rfl d_Reckoner_pushFact_13 rfl rfl rfl eh10 ?_
    refine J_aload_n (pc := 16) X 0 d_Reckoner_pushFact_16 rfl ?_
    refine J_iload_n (pc := 17) X 1 d_Reckoner_pushFact_17 rfl ?_
    obtain ⟨h11, eh11, hM⟩ := hb_some hM
    refine J_put (pc := 18) X hc_Reckoner in_Reckoner t_Reckoner tk_Reckoner nk_Reckoner 4 k_175 (by decide) rfl rfl d_Reckoner_pushFact_18 rfl rfl rfl eh11 ?_
    refine J_iconst (pc := 21) (v := (0)) X d_Reckoner_pushFact_21 (by decide) ?_
    obtain rfl := Option.some.inj hM
    exact J_zret (pc := 22) X hr hz0 hlk (Nat.le_of_ble_eq_true rfl) (Nat.le_of_ble_eq_true rfl) d_Reckoner_pushFact_22
abbrev rm_Reckoner_pushPlace : Room := { frames := 1, cells := 0, slots := 0, locals := 24 }
set_option maxHeartbeats 4000000 in
set_option maxRecDepth 100000 in
theorem c_Reckoner_pushPlace (l : Launch) (D : va_G) (K : (Nat → Nat) × (Nat → Nat)) (F : Nat) {h : hH} {x0 : Nat} {x1 : Nat} {x2 : Int32} {q : (Int32 × hH)} (hM : M_Reckoner_pushPlace F h x0 x1 x2 = some q) : Met l y_Reckoner_pushPlace (.code y_Reckoner_pushPlace prog_7_method_7_code 4 (some .boolean) :: T0) rm_Reckoner_pushPlace (hPc hG D cls0 K [.ref x0, .ref x1, .int x2] h) (hQ D cls0 h (some (.int q.1)) q.2) 0 0 (hF h) := by
  refine J_met (lv := [(0, .ref x0), (1, .ref x1), (2, .int x2)]) (by decide) (Nat.le_of_ble_eq_true rfl) rfl ?_
  intro p e s m below meth c X hr hlk hnm
  have Y : HX p s m _ meth c prog_7_method_7_code 4 "LicenceTexts$Reckoner" D K "pushPlace" (some .boolean) h := ⟨X, hr, hlk, hnm⟩
  unfold M_Reckoner_pushPlace at hM
  refine J_aload_n (pc := 0) X 1 d_Reckoner_pushPlace_0 rfl ?_
  refine J_iload_n (pc := 1) X 2 d_Reckoner_pushPlace_1 rfl ?_
  refine J_aload_n (pc := 2) X 0 d_Reckoner_pushPlace_2 rfl ?_
  obtain ⟨u1, eu1, hM⟩ := hb_some hM
  obtain ⟨q2, eq2, hM⟩ := hb_some hM
  refine J_callV (pc := 3) (As := []) (rest := [.int x2, .ref x1]) (o := (some (.long q2.1))) (h2 := q2.2) X rfl hc_Reckoner eu1 (c_Reckoner_pop l D K F eq2) (cwV_of (nA := 0) X.fix k_184 k_186 k_187 k_178 k_185 ⟨rfl, rfl, rfl⟩ (by decide +kernel) ⟨Nat.le_of_ble_eq_true rfl, Nat.le_of_ble_eq_true rfl⟩) d_Reckoner_pushPlace_3 rfl rfl (Nat.le_of_ble_eq_true rfl) (Nat.le_of_ble_eq_true rfl) (Nat.le_of_ble_eq_true rfl) ?_
  obtain ⟨u3, eu3, hM⟩ := hb_some hM
  obtain ⟨q4, eq4, hM⟩ := hb_some hM
  refine J_callV (pc := 6) (As := [.int x2, .long q2.1]) (rest := []) (o := (some (.int q4.1))) (h2 := q4.2) X rfl hc_Tables eu3 (c_Tables_numberAt l D K F eq4) (cwV_of (nA := 2) X.fix k_196 k_198 k_199 k_71 k_197 ⟨rfl, rfl, rfl⟩ (by decide +kernel) ⟨Nat.le_of_ble_eq_true rfl, Nat.le_of_ble_eq_true rfl⟩) d_Reckoner_pushPlace_6 rfl rfl (Nat.le_of_ble_eq_true rfl) (Nat.le_of_ble_eq_true rfl) (Nat.le_of_ble_eq_true rfl) ?_
  refine J_istore_n (pc := 9) (lv' := [(3, .int q4.1), (0, .ref x0), (1, .ref x1), (2, .int x2)]) X d_Reckoner_pushPlace_9 rfl (by decide) rfl ?_
  refine J_iload_n (pc := 10) X 0 d_Reckoner_pushPlace_10 rfl ?_
  refine J_iconst (pc := 11) (v := (-1)) X d_Reckoner_pushPlace_11 (by decide) ?_
  refine J_icmp_ne (pc := 12) (tgt := 22) X d_Reckoner_pushPlace_12 (by decide) (fun c5 => ?_) (fun c5 => ?_)
  · have hM := hif_f hM c5
    refine J_aload_n (pc := 22) X 1 d_Reckoner_pushPlace_22 rfl ?_
    refine J_iload_n (pc := 23) X 0 d_Reckoner_pushPlace_23 rfl ?_
    refine J_i2l (pc := 24) X d_Reckoner_pushPlace_24 ?_
    obtain ⟨u6, eu6, hM⟩ := hb_some hM
    obtain ⟨h7, eh7, hM⟩ := hb_some hM
    refine J_callV (pc := 25) (As := [.long q4.1.toInt64]) (rest := []) (o := none) (h2 := h7) X rfl hc_Reckoner eu6 (c_Reckoner_push l D K F eh7) (cwV_of (nA := 1) X.fix k_180 k_182 k_183 k_178 k_181 ⟨rfl, rfl, rfl⟩ (by decide +kernel) ⟨Nat.le_of_ble_eq_true rfl, Nat.le_of_ble_eq_true rfl⟩) d_Reckoner_pushPlace_25 rfl rfl (Nat.le_of_ble_eq_true rfl) (Nat.le_of_ble_eq_true rfl) (Nat.le_of_ble_eq_true rfl) ?_
    refine J_iconst (pc := 28) (v := (1)) X d_Reckoner_pushPlace_28 (by decide) ?_
    obtain rfl := Option.some.inj hM
    exact J_zret (pc := 29) X hr hz1 hlk (Nat.le_of_ble_eq_true rfl) (Nat.le_of_ble_eq_true rfl) d_Reckoner_pushPlace_29
  · have hM := hif_t hM c5
    refine J_aload_n (pc := 15) X 1 d_Reckoner_pushPlace_15 rfl ?_
    refine J_iconst (pc := 16) (v := (2)) X d_Reckoner_pushPlace_16 (by decide) ?_
    obtain ⟨h8, eh8, hM⟩ := hb_some hM
    refine J_put (pc := 17) X hc_Reckoner in_Reckoner t_Reckoner tk_Reckoner nk_Reckoner 3 k_174 (by decide) rfl rfl d_Reckoner_pushPlace_17 rfl rfl rfl eh8 ?_
    refine J_iconst (pc := 20) (v := (0)) X d_Reckoner_pushPlace_20 (by decide) ?_
    obtain rfl := Option.some.inj hM
    exact J_zret (pc := 21) X hr hz0 hlk (Nat.le_of_ble_eq_true rfl) (Nat.le_of_ble_eq_true rfl) d_Reckoner_pushPlace_21
abbrev rm_Reckoner_reckon : Room := { frames := 2, cells := 0, slots := 0, locals := 49 }
set_option maxHeartbeats 4000000 in
set_option maxRecDepth 100000 in
theorem c_Reckoner_reckon (l : Launch) (D : va_G) (K : (Nat → Nat) × (Nat → Nat)) (F : Nat) {h : hH} {x0 : Nat} {x1 : Int32} {x2 : Int32} {x3 : Nat} {q : (Int32 × hH)} (hM : M_Reckoner_reckon F h x0 x1 x2 x3 = some q) : Met l y_Reckoner_reckon (.code y_Reckoner_reckon prog_7_method_5_code 4 (some .boolean) :: T0) rm_Reckoner_reckon (hPc hG D cls0 K [.ref x0, .int x1, .int x2, .ref x3] h) (hQ D cls0 h (some (.int q.1)) q.2) 0 0 (hF h) := by
  refine J_met (lv := [(0, .ref x0), (1, .int x1), (2, .int x2), (3, .ref x3)]) (by decide) (Nat.le_of_ble_eq_true rfl) rfl ?_
  intro p e s m below meth c X hr hlk hnm
  have Y : HX p s m _ meth c prog_7_method_5_code 4 "LicenceTexts$Reckoner" D K "reckon" (some .boolean) h := ⟨X, hr, hlk, hnm⟩
  unfold M_Reckoner_reckon at hM
  refine J_iload_n (pc := 0) X 1 d_Reckoner_reckon_0 rfl ?_
  by_cases c1 : x1 = 0
  · have hM := hif_t hM c1
    refine J_tableIn (pc := 1) (tgt := 28) X 0 c1 d_Reckoner_reckon_1 (by decide) (by decide) rfl (by decide) ?_
    refine J_aload_n (pc := 28) X 0 d_Reckoner_reckon_28 rfl ?_
    refine J_iload_n (pc := 29) X 2 d_Reckoner_reckon_29 rfl ?_
    refine J_i2l (pc := 30) X d_Reckoner_reckon_30 ?_
    obtain ⟨u2, eu2, hM⟩ := hb_some hM
    obtain ⟨h3, eh3, hM⟩ := hb_some hM
    refine J_callV (pc := 31) (As := [.long x2.toInt64]) (rest := []) (o := none) (h2 := h3) X rfl hc_Reckoner eu2 (c_Reckoner_push l D K F eh3) (cwV_of (nA := 1) X.fix k_180 k_182 k_183 k_178 k_181 ⟨rfl, rfl, rfl⟩ (by decide +kernel) ⟨Nat.le_of_ble_eq_true rfl, Nat.le_of_ble_eq_true rfl⟩) d_Reckoner_reckon_31 rfl rfl (Nat.le_of_ble_eq_true rfl) (Nat.le_of_ble_eq_true rfl) (Nat.le_of_ble_eq_true rfl) ?_
    refine J_iconst (pc := 34) (v := (1)) X d_Reckoner_reckon_34 (by decide) ?_
    obtain rfl := Option.some.inj hM
    exact J_zret (pc := 35) X hr hz1 hlk (Nat.le_of_ble_eq_true rfl) (Nat.le_of_ble_eq_true rfl) d_Reckoner_reckon_35
  · have hM := hif_f hM c1
    by_cases c4 : x1 = 1
    · have hM := hif_t hM c4
      refine J_tableIn (pc := 1) (tgt := 36) X 1 c4 d_Reckoner_reckon_1 (by decide) (by decide) rfl (by decide) ?_
      refine J_aload_n (pc := 36) X 0 d_Reckoner_reckon_36 rfl ?_
      refine J_iload_n (pc := 37) X 2 d_Reckoner_reckon_37 rfl ?_
      obtain ⟨u5, eu5, hM⟩ := hb_some hM
      obtain ⟨q6, eq6, hM⟩ := hb_some hM
      refine J_callV (pc := 38) (As := [.int x2]) (rest := []) (o := (some (.int q6.1))) (h2 := q6.2) X rfl hc_Reckoner eu5 (c_Reckoner_pushFact l D K F eq6) (cwV_of (nA := 1) X.fix k_200 k_202 k_203 k_178 k_201 ⟨rfl, rfl, rfl⟩ (by decide +kernel) ⟨Nat.le_of_ble_eq_true rfl, Nat.le_of_ble_eq_true rfl⟩) d_Reckoner_reckon_38 rfl rfl (Nat.le_of_ble_eq_true rfl) (Nat.le_of_ble_eq_true rfl) (Nat.le_of_ble_eq_true rfl) ?_
      obtain ⟨u7, eu7, hM⟩ := hb_some hM
      obtain rfl := Option.some.inj hM
      exact J_zret (pc := 41) X hr (hZ_of eu7) hlk (Nat.le_of_ble_eq_true rfl) (Nat.le_of_ble_eq_true rfl) d_Reckoner_reckon_41
    · have hM := hif_f hM c4
      by_cases c8 : x1 = 2
      · have hM := hif_t hM c8
        refine J_tableIn (pc := 1) (tgt := 42) X 2 c8 d_Reckoner_reckon_1 (by decide) (by decide) rfl (by decide) ?_
        refine J_aload_n (pc := 42) X 0 d_Reckoner_reckon_42 rfl ?_
        refine J_aload_n (pc := 43) X 3 d_Reckoner_reckon_43 rfl ?_
        refine J_iload_n (pc := 44) X 2 d_Reckoner_reckon_44 rfl ?_
        obtain ⟨u9, eu9, hM⟩ := hb_some hM
        obtain ⟨q10, eq10, hM⟩ := hb_some hM
        refine J_callV (pc := 45) (As := [.ref x3, .int x2]) (rest := []) (o := (some (.int q10.1))) (h2 := q10.2) X rfl hc_Reckoner eu9 (c_Reckoner_pushPlace l D K F eq10) (cwV_of (nA := 2) X.fix k_204 k_206 k_207 k_178 k_205 ⟨rfl, rfl, rfl⟩ (by decide +kernel) ⟨Nat.le_of_ble_eq_true rfl, Nat.le_of_ble_eq_true rfl⟩) d_Reckoner_reckon_45 rfl rfl (Nat.le_of_ble_eq_true rfl) (Nat.le_of_ble_eq_true rfl) (Nat.le_of_ble_eq_true rfl) ?_
        obtain ⟨u11, eu11, hM⟩ := hb_some hM
        obtain rfl := Option.some.inj hM
        exact J_zret (pc := 48) X hr (hZ_of eu11) hlk (Nat.le_of_ble_eq_true rfl) (Nat.le_of_ble_eq_true rfl) d_Reckoner_reckon_48
      · have hM := hif_f hM c8
        have nc1 := lv_neT c1 (a := 0) (by decide)
        have nc4 := lv_neT c4 (a := 1) (by decide)
        have nc8 := lv_neT c8 (a := 2) (by decide)
        refine J_tableOut (pc := 1) (tgt := 49) X d_Reckoner_reckon_1 (by omega) (by decide) ?_
        refine J_aload_n (pc := 49) X 0 d_Reckoner_reckon_49 rfl ?_
        refine J_iload_n (pc := 50) X 1 d_Reckoner_reckon_50 rfl ?_
        obtain ⟨u12, eu12, hM⟩ := hb_some hM
        obtain ⟨q13, eq13, hM⟩ := hb_some hM
        refine J_callV (pc := 51) (As := [.int x1]) (rest := []) (o := (some (.int q13.1))) (h2 := q13.2) X rfl hc_Reckoner eu12 (c_Reckoner_combine l D K F eq13) (cwV_of (nA := 1) X.fix k_208 k_210 k_211 k_178 k_209 ⟨rfl, rfl, rfl⟩ (by decide +kernel) ⟨Nat.le_of_ble_eq_true rfl, Nat.le_of_ble_eq_true rfl⟩) d_Reckoner_reckon_51 rfl rfl (Nat.le_of_ble_eq_true rfl) (Nat.le_of_ble_eq_true rfl) (Nat.le_of_ble_eq_true rfl) ?_
        obtain ⟨u14, eu14, hM⟩ := hb_some hM
        obtain rfl := Option.some.inj hM
        exact J_zret (pc := 54) X hr (hZ_of eu14) hlk (Nat.le_of_ble_eq_true rfl) (Nat.le_of_ble_eq_true rfl) d_Reckoner_reckon_54
abbrev rm_Reckoner_related : Room := { frames := 1, cells := 0, slots := 0, locals := 20 }
set_option maxHeartbeats 4000000 in
set_option maxRecDepth 100000 in
theorem c_Reckoner_related (l : Launch) (D : va_G) (K : (Nat → Nat) × (Nat → Nat)) (F : Nat) {h : hH} {x0 : Nat} {x1 : Int32} {q : (Int32 × hH)} (hM : M_Reckoner_related F h x0 x1 = some q) : Met l y_Reckoner_related (.code y_Reckoner_related prog_7_method_4_code 6 (some .boolean) :: T0) rm_Reckoner_related (hPc hG D cls0 K [.ref x0, .int x1] h) (hQ D cls0 h (some (.int q.1)) q.2) 0 0 (hF h) := by
  refine J_met (lv := [(0, .ref x0), (1, .int x1)]) (by decide) (Nat.le_of_ble_eq_true rfl) rfl ?_
  intro p e s m below meth c X hr hlk hnm
  have Y : HX p s m _ meth c prog_7_method_4_code 6 "LicenceTexts$Reckoner" D K "related" (some .boolean) h := ⟨X, hr, hlk, hnm⟩
  unfold M_Reckoner_related at hM
  refine J_aload_n (pc := 0) X 0 d_Reckoner_related_0 rfl ?_
  obtain ⟨u1, eu1, hM⟩ := hb_some hM
  obtain ⟨q2, eq2, hM⟩ := hb_some hM
  refine J_callV (pc := 1) (As := []) (rest := []) (o := (some (.long q2.1))) (h2 := q2.2) X rfl hc_Reckoner eu1 (c_Reckoner_pop l D K F eq2) (cwV_of (nA := 0) X.fix k_184 k_186 k_187 k_178 k_185 ⟨rfl, rfl, rfl⟩ (by decide +kernel) ⟨Nat.le_of_ble_eq_true rfl, Nat.le_of_ble_eq_true rfl⟩) d_Reckoner_related_1 rfl rfl (Nat.le_of_ble_eq_true rfl) (Nat.le_of_ble_eq_true rfl) (Nat.le_of_ble_eq_true rfl) ?_
  refine J_lstore_n (pc := 4) (lv' := [(2, .long q2.1), (0, .ref x0), (1, .int x1)]) X d_Reckoner_related_4 rfl (by decide) rfl ?_
  refine J_aload_n (pc := 5) X 1 d_Reckoner_related_5 rfl ?_
  obtain ⟨u3, eu3, hM⟩ := hb_some hM
  obtain ⟨q4, eq4, hM⟩ := hb_some hM
  refine J_callV (pc := 6) (As := []) (rest := []) (o := (some (.long q4.1))) (h2 := q4.2) X rfl hc_Reckoner eu3 (c_Reckoner_pop l D K F eq4) (cwV_of (nA := 0) X.fix k_184 k_186 k_187 k_178 k_185 ⟨rfl, rfl, rfl⟩ (by decide +kernel) ⟨Nat.le_of_ble_eq_true rfl, Nat.le_of_ble_eq_true rfl⟩) d_Reckoner_related_6 rfl rfl (Nat.le_of_ble_eq_true rfl) (Nat.le_of_ble_eq_true rfl) (Nat.le_of_ble_eq_true rfl) ?_
  refine J_lstore (pc := 9) (lv' := [(4, .long q4.1), (2, .long q2.1), (0, .ref x0), (1, .int x1)]) X d_Reckoner_related_9 (by decide) rfl ?_
  refine J_iload_n (pc := 11) X 3 d_Reckoner_related_11 rfl ?_
  by_cases c5 : x1 = 9
  · have hM := hif_t hM c5
    refine J_tableIn (pc := 12) (tgt := 40) X 9 c5 d_Reckoner_related_12 (by decide) (by decide) rfl (by decide) ?_
    refine J_lload (pc := 40) X 0 d_Reckoner_related_40 rfl ?_
    refine J_lload_n (pc := 42) X 1 d_Reckoner_related_42 rfl ?_
    refine J_lcmp (pc := 43) X d_Reckoner_related_43 ?_
    refine J_if_ge (pc := 44) (tgt := 51) X d_Reckoner_related_44 (by decide) (fun c6 => ?_) (fun c6 => ?_)
    · have hM := hif_t hM c6
      refine J_iconst (pc := 51) (v := (0)) X d_Reckoner_related_51 (by decide) ?_
      obtain rfl := Option.some.inj hM
      exact J_zret (pc := 52) X hr hz0 hlk (Nat.le_of_ble_eq_true rfl) (Nat.le_of_ble_eq_true rfl) d_Reckoner_related_52
    · have hM := hif_f hM c6
      refine J_iconst (pc := 47) (v := (1)) X d_Reckoner_related_47 (by decide) ?_
      refine J_goto (pc := 48) (tgt := 52) X d_Reckoner_related_48 (by decide) ?_
      obtain rfl := Option.some.inj hM
      exact J_zret (pc := 52) X hr hz1 hlk (Nat.le_of_ble_eq_true rfl) (Nat.le_of_ble_eq_true rfl) d_Reckoner_related_52
  · have hM := hif_f hM c5
    by_cases c7 : x1 = 10
    · have hM := hif_t hM c7
      refine J_tableIn (pc := 12) (tgt := 53) X 10 c7 d_Reckoner_related_12 (by decide) (by decide) rfl (by decide) ?_
      refine J_lload (pc := 53) X 0 d_Reckoner_related_53 rfl ?_
      refine J_lload_n (pc := 55) X 1 d_Reckoner_related_55 rfl ?_
      refine J_lcmp (pc := 56) X d_Reckoner_related_56 ?_
      refine J_if_gt (pc := 57) (tgt := 64) X d_Reckoner_related_57 (by decide) (fun c8 => ?_) (fun c8 => ?_)
      · have hM := hif_t hM c8
        refine J_iconst (pc := 64) (v := (0)) X d_Reckoner_related_64 (by decide) ?_
        obtain rfl := Option.some.inj hM
        exact J_zret (pc := 65) X hr hz0 hlk (Nat.le_of_ble_eq_true rfl) (Nat.le_of_ble_eq_true rfl) d_Reckoner_related_65
      · have hM := hif_f hM c8
        refine J_iconst (pc := 60) (v := (1)) X d_Reckoner_related_60 (by decide) ?_
        refine J_goto (pc := 61) (tgt := 65) X d_Reckoner_related_61 (by decide) ?_
        obtain rfl := Option.some.inj hM
        exact J_zret (pc := 65) X hr hz1 hlk (Nat.le_of_ble_eq_true rfl) (Nat.le_of_ble_eq_true rfl) d_Reckoner_related_65
    · have hM := hif_f hM c7
      by_cases c9 : x1 = 11
      · have hM := hif_t hM c9
        refine J_tableIn (pc := 12) (tgt := 66) X 11 c9 d_Reckoner_related_12 (by decide) (by decide) rfl (by decide) ?_
        refine J_lload (pc := 66) X 0 d_Reckoner_related_66 rfl ?_
        refine J_lload_n (pc := 68) X 1 d_Reckoner_related_68 rfl ?_
        refine J_lcmp (pc := 69) X d_Reckoner_related_69 ?_
        refine J_if_ne (pc := 70) (tgt := 77) X d_Reckoner_related_70 (by decide) (fun c10 => ?_) (fun c10 => ?_)
        · have hM := hif_f hM c10
          refine J_iconst (pc := 77) (v := (0)) X d_Reckoner_related_77 (by decide) ?_
          obtain rfl := Option.some.inj hM
          exact J_zret (pc := 78) X hr hz0 hlk (Nat.le_of_ble_eq_true rfl) (Nat.le_of_ble_eq_true rfl) d_Reckoner_related_78
        · have hM := hif_t hM c10
          refine J_iconst (pc := 73) (v := (1)) X d_Reckoner_related_73 (by decide) ?_
          refine J_goto (pc := 74) (tgt := 78) X d_Reckoner_related_74 (by decide) ?_
          obtain rfl := Option.some.inj hM
          exact J_zret (pc := 78) X hr hz1 hlk (Nat.le_of_ble_eq_true rfl) (Nat.le_of_ble_eq_true rfl) d_Reckoner_related_78
      · have hM := hif_f hM c9
        have nc5 := lv_neT c5 (a := 9) (by decide)
        have nc7 := lv_neT c7 (a := 10) (by decide)
        have nc9 := lv_neT c9 (a := 11) (by decide)
        refine J_tableOut (pc := 12) (tgt := 79) X d_Reckoner_related_12 (by omega) (by decide) ?_
        refine J_lload (pc := 79) X 0 d_Reckoner_related_79 rfl ?_
        refine J_lload_n (pc := 81) X 1 d_Reckoner_related_81 rfl ?_
        refine J_lcmp (pc := 82) X d_Reckoner_related_82 ?_
        refine J_if_eq (pc := 83) (tgt := 90) X d_Reckoner_related_83 (by decide) (fun c11 => ?_) (fun c11 => ?_)
        · have hM := hif_t hM c11
          refine J_iconst (pc := 90) (v := (0)) X d_Reckoner_related_90 (by decide) ?_
          obtain rfl := Option.some.inj hM
          exact J_zret (pc := 91) X hr hz0 hlk (Nat.le_of_ble_eq_true rfl) (Nat.le_of_ble_eq_true rfl) d_Reckoner_related_91
        · have hM := hif_f hM c11
          refine J_iconst (pc := 86) (v := (1)) X d_Reckoner_related_86 (by decide) ?_
          refine J_goto (pc := 87) (tgt := 91) X d_Reckoner_related_87 (by decide) ?_
          obtain rfl := Option.some.inj hM
          exact J_zret (pc := 91) X hr hz1 hlk (Nat.le_of_ble_eq_true rfl) (Nat.le_of_ble_eq_true rfl) d_Reckoner_related_91
abbrev rm_Reckoner_follow : Room := { frames := 3, cells := 0, slots := 0, locals := 72 }
set_option maxHeartbeats 4000000 in
set_option maxRecDepth 100000 in
theorem w_Reckoner_follow_71 {p : Program} {l : Launch} {e : Env} {s : State} {m : MethodId} {args : Array Value} {below : List Frame} {meth : Method} {c : Code} {D : va_G} {K : (Nat → Nat) × (Nat → Nat)} {h0 : hH} (Y : HX p s m args meth c prog_7_method_3_code 7 "LicenceTexts$Reckoner" D K "follow" (some .int) h0) {F : Nat} {r8 : hH → Nat → Nat → Int32 → Int32 → Option (Int32 × hH)} (R8 : ∀ (h : hH) (x0 : Nat) (x1 : Nat) (x3 : Int32) (x4 : Int32) (q : (Int32 × hH)), r8 h x0 x1 x3 x4 = some q → J p l e rm_Reckoner_follow s m args below meth c 7 D cls0 (hF h0) h [(0, .ref x0), (1, .ref x1), (3, .int x3), (4, .int x4)] 0 0 (MQ below (hQ D cls0 h0 (some (.int q.1)) q.2) args s 0 0 (hF h0)) 8 []) (h : hH) (x0 : Nat) (x1 : Nat) (x3 : Int32) (x4 : Int32) (q : (Int32 × hH)) (hM : M_Reckoner_follow_71 F r8 h x0 x1 x3 x4 = some q) : J p l e rm_Reckoner_follow s m args below meth c 7 D cls0 (hF h0) h [(0, .ref x0), (1, .ref x1), (3, .int x3), (4, .int x4)] 0 0 (MQ below (hQ D cls0 h0 (some (.int q.1)) q.2) args s 0 0 (hF h0)) 71 [] := by
  obtain ⟨X, hr, hlk, hnm⟩ := id Y
  unfold M_Reckoner_follow_71 at hM
  refine J_iinc (pc := 71) (v := x4 + 1) (lv' := [(4, .int (x4 + 1)), (0, .ref x0), (1, .ref x1), (3, .int x3)]) X 3 d_Reckoner_follow_71 rfl rfl (by decide) rfl ?_
  refine J_goto (pc := 74) (tgt := 8) X d_Reckoner_follow_74 (by decide) ?_
  refine J_sub [1, 2, 3, 0] rfl ?_
  exact R8 _ _ _ _ _ _ hM
set_option maxHeartbeats 4000000 in
set_option maxRecDepth 100000 in
theorem b_Reckoner_follow_8 {p : Program} {l : Launch} {e : Env} {s : State} {m : MethodId} {args : Array Value} {below : List Frame} {meth : Method} {c : Code} {D : va_G} {K : (Nat → Nat) × (Nat → Nat)} {h0 : hH} (Y : HX p s m args meth c prog_7_method_3_code 7 "LicenceTexts$Reckoner" D K "follow" (some .int) h0) {F : Nat}   {r8 : hH → Nat → Nat → Int32 → Int32 → Option (Int32 × hH)} (R8 : ∀ (h : hH) (x0 : Nat) (x1 : Nat) (x3 : Int32) (x4 : Int32) (q : (Int32 × hH)), r8 h x0 x1 x3 x4 = some q → J p l e rm_Reckoner_follow s m args below meth c 7 D cls0 (hF h0) h [(0, .ref x0), (1, .ref x1), (3, .int x3), (4, .int x4)] 0 0 (MQ below (hQ D cls0 h0 (some (.int q.1)) q.2) args s 0 0 (hF h0)) 8 []) : ∀ (h : hH) (x0 : Nat) (x1 : Nat) (x3 : Int32) (x4 : Int32) (q : (Int32 × hH)), B_Reckoner_follow_8 F r8 h x0 x1 x3 x4 = some q → J p l e rm_Reckoner_follow s m args below meth c 7 D cls0 (hF h0) h [(0, .ref x0), (1, .ref x1), (3, .int x3), (4, .int x4)] 0 0 (MQ below (hQ D cls0 h0 (some (.int q.1)) q.2) args s 0 0 (hF h0)) 8 [] := by
  intro h x0 x1 x3 x4 q hM
  obtain ⟨X, hr, hlk, hnm⟩ := id Y
  unfold B_Reckoner_follow_8 at hM
  refine J_iload (pc := 8) X 3 d_Reckoner_follow_8 rfl ?_
  refine J_iload_n (pc := 10) X 2 d_Reckoner_follow_10 rfl ?_
  refine J_icmp_ge (pc := 11) (tgt := 77) X d_Reckoner_follow_11 (by decide) (fun c1 => ?_) (fun c1 => ?_)
  · have hM := hif_t hM c1
    refine J_iconst (pc := 77) (v := (0)) X d_Reckoner_follow_77 (by decide) ?_
    obtain rfl := Option.some.inj hM
    exact J_iret (pc := 78) X hr hlk (Nat.le_of_ble_eq_true rfl) (Nat.le_of_ble_eq_true rfl) d_Reckoner_follow_78
  · have hM := hif_f hM c1
    refine J_aload_n (pc := 14) X 1 d_Reckoner_follow_14 rfl ?_
    obtain ⟨v2, ev2, hM⟩ := hb_some hM
    refine J_getAN (pc := 15) X hc_Edition in_Edition 1 (nw_9) (by decide) rfl d_Reckoner_follow_15 rfl ev2 ?_
    refine J_iload (pc := 18) X 3 d_Reckoner_follow_18 rfl ?_
    obtain ⟨u3, eu3, hM⟩ := hb_some hM
    obtain ⟨q4, eq4, hM⟩ := hb_some hM
    refine J_callV (pc := 20) (As := [.int x4]) (rest := []) (o := (some (.int q4.1))) (h2 := q4.2) X rfl hc_Steps eu3 (c_Steps_kindAt l D K F eq4) (cwV_of (nA := 1) X.fix k_212 k_214 k_215 k_133 k_213 ⟨rfl, rfl, rfl⟩ (by decide +kernel) ⟨Nat.le_of_ble_eq_true rfl, Nat.le_of_ble_eq_true rfl⟩) d_Reckoner_follow_20 rfl rfl (Nat.le_of_ble_eq_true rfl) (Nat.le_of_ble_eq_true rfl) (Nat.le_of_ble_eq_true rfl) ?_
    refine J_istore (pc := 23) (lv' := [(5, .int q4.1), (0, .ref x0), (1, .ref x1), (3, .int x3), (4, .int x4)]) X d_Reckoner_follow_23 (by decide) rfl ?_
    refine J_aload_n (pc := 25) X 2 d_Reckoner_follow_25 rfl ?_
    obtain ⟨v5, ev5, hM⟩ := hb_some hM
    refine J_getAN (pc := 26) X hc_Edition in_Edition 1 (nw_9) (by decide) rfl d_Reckoner_follow_26 rfl ev5 ?_
    refine J_iload (pc := 29) X 4 d_Reckoner_follow_29 rfl ?_
    obtain ⟨u6, eu6, hM⟩ := hb_some hM
    obtain ⟨q7, eq7, hM⟩ := hb_some hM
    refine J_callV (pc := 31) (As := [.int x4]) (rest := []) (o := (some (.int q7.1))) (h2 := q7.2) X rfl hc_Steps eu6 (c_Steps_valueAt l D K F eq7) (cwV_of (nA := 1) X.fix k_216 k_218 k_219 k_133 k_217 ⟨rfl, rfl, rfl⟩ (by decide +kernel) ⟨Nat.le_of_ble_eq_true rfl, Nat.le_of_ble_eq_true rfl⟩) d_Reckoner_follow_31 rfl rfl (Nat.le_of_ble_eq_true rfl) (Nat.le_of_ble_eq_true rfl) (Nat.le_of_ble_eq_true rfl) ?_
    refine J_istore (pc := 34) (lv' := [(6, .int q7.1), (5, .int q4.1), (0, .ref x0), (1, .ref x1), (3, .int x3), (4, .int x4)]) X d_Reckoner_follow_34 (by decide) rfl ?_
    refine J_iload (pc := 36) X 1 d_Reckoner_follow_36 rfl ?_
    refine J_bipush (pc := 38) (v := (9)) X d_Reckoner_follow_38 (by decide) ?_
    refine J_icmp_lt (pc := 40) (tgt := 54) X d_Reckoner_follow_40 (by decide) (fun c8 => ?_) (fun c8 => ?_)
    · have hM := hif_t hM c8
      refine J_aload_n (pc := 54) X 2 d_Reckoner_follow_54 rfl ?_
      refine J_iload (pc := 55) X 1 d_Reckoner_follow_55 rfl ?_
      refine J_iload (pc := 57) X 0 d_Reckoner_follow_57 rfl ?_
      refine J_aload_n (pc := 59) X 3 d_Reckoner_follow_59 rfl ?_
      obtain ⟨v9, ev9, hM⟩ := hb_some hM
      refine J_getAN (pc := 60) X hc_Edition in_Edition 2 (nw_10) (by decide) rfl d_Reckoner_follow_60 rfl ev9 ?_
      obtain ⟨u10, eu10, hM⟩ := hb_some hM
      obtain ⟨q11, eq11, hM⟩ := hb_some hM
      refine J_callV (pc := 63) (As := [.int q4.1, .int q7.1, .ref v9]) (rest := []) (o := (some (.int q11.1))) (h2 := q11.2) X rfl hc_Reckoner eu10 (c_Reckoner_reckon l D K F eq11) (cwV_of (nA := 3) X.fix k_220 k_222 k_223 k_178 k_221 ⟨rfl, rfl, rfl⟩ (by decide +kernel) ⟨Nat.le_of_ble_eq_true rfl, Nat.le_of_ble_eq_true rfl⟩) d_Reckoner_follow_63 rfl rfl (Nat.le_of_ble_eq_true rfl) (Nat.le_of_ble_eq_true rfl) (Nat.le_of_ble_eq_true rfl) ?_
      refine J_if_ne (pc := 66) (tgt := 71) X d_Reckoner_follow_66 (by decide) (fun c12 => ?_) (fun c12 => ?_)
      · have hM := hif_f hM c12
        refine J_sub [2, 3, 4, 5] rfl ?_
        exact w_Reckoner_follow_71 Y R8 _ _ _ _ _ _ hM
      · have hM := hif_t hM c12
        refine J_iconst (pc := 69) (v := (2)) X d_Reckoner_follow_69 (by decide) ?_
        obtain rfl := Option.some.inj hM
        exact J_iret (pc := 70) X hr hlk (Nat.le_of_ble_eq_true rfl) (Nat.le_of_ble_eq_true rfl) d_Reckoner_follow_70
    · have hM := hif_f hM c8
      refine J_aload_n (pc := 43) X 2 d_Reckoner_follow_43 rfl ?_
      refine J_iload (pc := 44) X 1 d_Reckoner_follow_44 rfl ?_
      obtain ⟨u13, eu13, hM⟩ := hb_some hM
      obtain ⟨q14, eq14, hM⟩ := hb_some hM
      refine J_callV (pc := 46) (As := [.int q4.1]) (rest := []) (o := (some (.int q14.1))) (h2 := q14.2) X rfl hc_Reckoner eu13 (c_Reckoner_related l D K F eq14) (cwV_of (nA := 1) X.fix k_224 k_226 k_227 k_178 k_225 ⟨rfl, rfl, rfl⟩ (by decide +kernel) ⟨Nat.le_of_ble_eq_true rfl, Nat.le_of_ble_eq_true rfl⟩) d_Reckoner_follow_46 rfl rfl (Nat.le_of_ble_eq_true rfl) (Nat.le_of_ble_eq_true rfl) (Nat.le_of_ble_eq_true rfl) ?_
      refine J_if_ne (pc := 49) (tgt := 71) X d_Reckoner_follow_49 (by decide) (fun c15 => ?_) (fun c15 => ?_)
      · have hM := hif_f hM c15
        refine J_sub [2, 3, 4, 5] rfl ?_
        exact w_Reckoner_follow_71 Y R8 _ _ _ _ _ _ hM
      · have hM := hif_t hM c15
        refine J_iconst (pc := 52) (v := (1)) X d_Reckoner_follow_52 (by decide) ?_
        obtain rfl := Option.some.inj hM
        exact J_iret (pc := 53) X hr hlk (Nat.le_of_ble_eq_true rfl) (Nat.le_of_ble_eq_true rfl) d_Reckoner_follow_53
theorem w_Reckoner_follow_8 {p : Program} {l : Launch} {e : Env} {s : State} {m : MethodId} {args : Array Value} {below : List Frame} {meth : Method} {c : Code} {D : va_G} {K : (Nat → Nat) × (Nat → Nat)} {h0 : hH} (Y : HX p s m args meth c prog_7_method_3_code 7 "LicenceTexts$Reckoner" D K "follow" (some .int) h0) {F : Nat} : ∀ z : Nat, ∀ (h : hH) (x0 : Nat) (x1 : Nat) (x3 : Int32) (x4 : Int32) (q : (Int32 × hH)), M_Reckoner_follow_8 F z h x0 x1 x3 x4 = some q → J p l e rm_Reckoner_follow s m args below meth c 7 D cls0 (hF h0) h [(0, .ref x0), (1, .ref x1), (3, .int x3), (4, .int x4)] 0 0 (MQ below (hQ D cls0 h0 (some (.int q.1)) q.2) args s 0 0 (hF h0)) 8 [] := by
  intro z
  induction z with
  | zero => intro h x0 x1 x3 x4 q hM; exact absurd (show (none : Option _) = some q from hM) (fun t => by cases t)
  | succ z ih => exact b_Reckoner_follow_8 Y ih
set_option maxHeartbeats 4000000 in
set_option maxRecDepth 100000 in
theorem c_Reckoner_follow (l : Launch) (D : va_G) (K : (Nat → Nat) × (Nat → Nat)) (F : Nat) {h : hH} {x0 : Nat} {x1 : Nat} {x2 : Int32} {x3 : Int32} {q : (Int32 × hH)} (hM : M_Reckoner_follow F h x0 x1 x2 x3 = some q) : Met l y_Reckoner_follow (.code y_Reckoner_follow prog_7_method_3_code 7 (some .int) :: T0) rm_Reckoner_follow (hPc hG D cls0 K [.ref x0, .ref x1, .int x2, .int x3] h) (hQ D cls0 h (some (.int q.1)) q.2) 0 0 (hF h) := by
  refine J_met (lv := [(0, .ref x0), (1, .ref x1), (2, .int x2), (3, .int x3)]) (by decide) (Nat.le_of_ble_eq_true rfl) rfl ?_
  intro p e s m below meth c X hr hlk hnm
  have Y : HX p s m _ meth c prog_7_method_3_code 7 "LicenceTexts$Reckoner" D K "follow" (some .int) h := ⟨X, hr, hlk, hnm⟩
  unfold M_Reckoner_follow at hM
  refine J_aload_n (pc := 0) X 0 d_Reckoner_follow_0 rfl ?_
  refine J_iconst (pc := 1) (v := (0)) X d_Reckoner_follow_1 (by decide) ?_
  obtain ⟨h1, eh1, hM⟩ := hb_some hM
  refine J_put (pc := 2) X hc_Reckoner in_Reckoner t_Reckoner tk_Reckoner nk_Reckoner 2 k_173 (by decide) rfl rfl d_Reckoner_follow_2 rfl rfl rfl eh1 ?_
  refine J_iload_n (pc := 5) X 2 d_Reckoner_follow_5 rfl ?_
  refine J_istore (pc := 6) (lv' := [(4, .int x2), (0, .ref x0), (1, .ref x1), (2, .int x2), (3, .int x3)]) X d_Reckoner_follow_6 (by decide) rfl ?_
  refine J_sub [1, 2, 4, 0] rfl ?_
  exact w_Reckoner_follow_8 Y F _ _ _ _ _ _ hM
abbrev rm_Reckoner_judge : Room := { frames := 4, cells := 0, slots := 0, locals := 98 }
set_option maxHeartbeats 4000000 in
set_option maxRecDepth 100000 in
theorem c_Reckoner_judge (l : Launch) (D : va_G) (K : (Nat → Nat) × (Nat → Nat)) (F : Nat) {h : hH} {x0 : Nat} {x1 : Nat} {x2 : Nat} {q : (Int32 × hH)} (hM : M_Reckoner_judge F h x0 x1 x2 = some q) : Met l y_Reckoner_judge (.code y_Reckoner_judge prog_7_method_2_code 4 (some .int) :: T0) rm_Reckoner_judge (hPc hG D cls0 K [.ref x0, .ref x1, .ref x2] h) (hQ D cls0 h (some (.int q.1)) q.2) 0 0 (hF h) := by
  refine J_met (lv := [(0, .ref x0), (1, .ref x1), (2, .ref x2)]) (by decide) (Nat.le_of_ble_eq_true rfl) rfl ?_
  intro p e s m below meth c X hr hlk hnm
  have Y : HX p s m _ meth c prog_7_method_2_code 4 "LicenceTexts$Reckoner" D K "judge" (some .int) h := ⟨X, hr, hlk, hnm⟩
  unfold M_Reckoner_judge at hM
  refine J_aload_n (pc := 0) X 0 d_Reckoner_judge_0 rfl ?_
  refine J_iconst (pc := 1) (v := (-1)) X d_Reckoner_judge_1 (by decide) ?_
  obtain ⟨h1, eh1, hM⟩ := hb_some hM
  refine J_put (pc := 2) X hc_Reckoner in_Reckoner t_Reckoner tk_Reckoner nk_Reckoner 3 k_174 (by decide) rfl rfl d_Reckoner_judge_2 rfl rfl rfl eh1 ?_
  refine J_aload_n (pc := 5) X 0 d_Reckoner_judge_5 rfl ?_
  refine J_iconst (pc := 6) (v := (-1)) X d_Reckoner_judge_6 (by decide) ?_
  obtain ⟨h2, eh2, hM⟩ := hb_some hM
  refine J_put (pc := 7) X hc_Reckoner in_Reckoner t_Reckoner tk_Reckoner nk_Reckoner 4 k_175 (by decide) rfl rfl d_Reckoner_judge_7 rfl rfl rfl eh2 ?_
  refine J_aload_n (pc := 10) X 0 d_Reckoner_judge_10 rfl ?_
  refine J_aload_n (pc := 11) X 1 d_Reckoner_judge_11 rfl ?_
  refine J_aload_n (pc := 12) X 2 d_Reckoner_judge_12 rfl ?_
  obtain ⟨v3, ev3, hM⟩ := hb_some hM
  refine J_getIN (pc := 13) X hc_Rule in_Rule 1 (nw_18) (by decide) rfl d_Reckoner_judge_13 rfl ev3 ?_
  refine J_aload_n (pc := 16) X 2 d_Reckoner_judge_16 rfl ?_
  obtain ⟨v4, ev4, hM⟩ := hb_some hM
  refine J_getIN (pc := 17) X hc_Rule in_Rule 3 (nw_21) (by decide) rfl d_Reckoner_judge_17 rfl ev4 ?_
  obtain ⟨u5, eu5, hM⟩ := hb_some hM
  obtain ⟨q6, eq6, hM⟩ := hb_some hM
  refine J_callV (pc := 20) (As := [.ref x1, .int v3, .int v4]) (rest := []) (o := (some (.int q6.1))) (h2 := q6.2) X rfl hc_Reckoner eu5 (c_Reckoner_follow l D K F eq6) (cwV_of (nA := 3) X.fix k_228 k_230 k_231 k_178 k_229 ⟨rfl, rfl, rfl⟩ (by decide +kernel) ⟨Nat.le_of_ble_eq_true rfl, Nat.le_of_ble_eq_true rfl⟩) d_Reckoner_judge_20 rfl rfl (Nat.le_of_ble_eq_true rfl) (Nat.le_of_ble_eq_true rfl) (Nat.le_of_ble_eq_true rfl) ?_
  refine J_istore_n (pc := 23) (lv' := [(3, .int q6.1), (0, .ref x0), (1, .ref x1), (2, .ref x2)]) X d_Reckoner_judge_23 rfl (by decide) rfl ?_
  refine J_iload_n (pc := 24) X 0 d_Reckoner_judge_24 rfl ?_
  refine J_iconst (pc := 25) (v := (1)) X d_Reckoner_judge_25 (by decide) ?_
  refine J_icmp_ne (pc := 26) (tgt := 31) X d_Reckoner_judge_26 (by decide) (fun c7 => ?_) (fun c7 => ?_)
  · have hM := hif_f hM c7
    refine J_iload_n (pc := 31) X 0 d_Reckoner_judge_31 rfl ?_
    refine J_if_ne (pc := 32) (tgt := 51) X d_Reckoner_judge_32 (by decide) (fun c8 => ?_) (fun c8 => ?_)
    · have hM := hif_f hM c8
      refine J_iload_n (pc := 51) X 0 d_Reckoner_judge_51 rfl ?_
      obtain rfl := Option.some.inj hM
      exact J_iret (pc := 52) X hr hlk (Nat.le_of_ble_eq_true rfl) (Nat.le_of_ble_eq_true rfl) d_Reckoner_judge_52
    · have hM := hif_t hM c8
      refine J_aload_n (pc := 35) X 1 d_Reckoner_judge_35 rfl ?_
      refine J_aload_n (pc := 36) X 2 d_Reckoner_judge_36 rfl ?_
      refine J_aload_n (pc := 37) X 3 d_Reckoner_judge_37 rfl ?_
      obtain ⟨v9, ev9, hM⟩ := hb_some hM
      refine J_getIN (pc := 38) X hc_Rule in_Rule 3 (nw_21) (by decide) rfl d_Reckoner_judge_38 rfl ev9 ?_
      refine J_aload_n (pc := 41) X 3 d_Reckoner_judge_41 rfl ?_
      obtain ⟨v10, ev10, hM⟩ := hb_some hM
      refine J_getIN (pc := 42) X hc_Rule in_Rule 4 (nw_23) (by decide) rfl d_Reckoner_judge_42 rfl ev10 ?_
      obtain ⟨u11, eu11, hM⟩ := hb_some hM
      obtain ⟨q12, eq12, hM⟩ := hb_some hM
      refine J_callV (pc := 45) (As := [.ref x1, .int v9, .int v10]) (rest := []) (o := (some (.int q12.1))) (h2 := q12.2) X rfl hc_Reckoner eu11 (c_Reckoner_follow l D K F eq12) (cwV_of (nA := 3) X.fix k_228 k_230 k_231 k_178 k_229 ⟨rfl, rfl, rfl⟩ (by decide +kernel) ⟨Nat.le_of_ble_eq_true rfl, Nat.le_of_ble_eq_true rfl⟩) d_Reckoner_judge_45 rfl rfl (Nat.le_of_ble_eq_true rfl) (Nat.le_of_ble_eq_true rfl) (Nat.le_of_ble_eq_true rfl) ?_
      refine J_goto (pc := 48) (tgt := 52) X d_Reckoner_judge_48 (by decide) ?_
      obtain rfl := Option.some.inj hM
      exact J_iret (pc := 52) X hr hlk (Nat.le_of_ble_eq_true rfl) (Nat.le_of_ble_eq_true rfl) d_Reckoner_judge_52
  · have hM := hif_t hM c7
    refine J_iconst (pc := 29) (v := (3)) X d_Reckoner_judge_29 (by decide) ?_
    obtain rfl := Option.some.inj hM
    exact J_iret (pc := 30) X hr hlk (Nat.le_of_ble_eq_true rfl) (Nat.le_of_ble_eq_true rfl) d_Reckoner_judge_30
