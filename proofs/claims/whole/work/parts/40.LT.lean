theorem d_LT_init_0 : decode prog_1_method_1_code 0 = .ok (.aload_n 0, 1) := by decide +kernel
theorem d_LT_init_1 : decode prog_1_method_1_code 1 = .ok (.invokespecial 1, 3) := by decide +kernel
theorem d_LT_init_4 : decode prog_1_method_1_code 4 = .ok (.aload_n 0, 1) := by decide +kernel
theorem d_LT_init_5 : decode prog_1_method_1_code 5 = .ok (.bipush 6, 2) := by decide +kernel
theorem d_LT_init_7 : decode prog_1_method_1_code 7 = .ok (.anewarray 9, 3) := by decide +kernel
theorem d_LT_init_10 : decode prog_1_method_1_code 10 = .ok (.putfield 11, 3) := by decide +kernel
theorem d_LT_init_13 : decode prog_1_method_1_code 13 = .ok (.aload_n 0, 1) := by decide +kernel
theorem d_LT_init_14 : decode prog_1_method_1_code 14 = .ok (.iconst 0, 1) := by decide +kernel
theorem d_LT_init_15 : decode prog_1_method_1_code 15 = .ok (.putfield 15, 3) := by decide +kernel
theorem d_LT_init_18 : decode prog_1_method_1_code 18 = .ok (.aload_n 0, 1) := by decide +kernel
theorem d_LT_init_19 : decode prog_1_method_1_code 19 = .ok (.new 9, 3) := by decide +kernel
theorem d_LT_init_22 : decode prog_1_method_1_code 22 = .ok (.dup, 1) := by decide +kernel
theorem d_LT_init_23 : decode prog_1_method_1_code 23 = .ok (.invokespecial 19, 3) := by decide +kernel
theorem d_LT_init_26 : decode prog_1_method_1_code 26 = .ok (.putfield 20, 3) := by decide +kernel
theorem d_LT_init_29 : decode prog_1_method_1_code 29 = .ok (.aload_n 0, 1) := by decide +kernel
theorem d_LT_init_30 : decode prog_1_method_1_code 30 = .ok (.new 24, 3) := by decide +kernel
theorem d_LT_init_33 : decode prog_1_method_1_code 33 = .ok (.dup, 1) := by decide +kernel
theorem d_LT_init_34 : decode prog_1_method_1_code 34 = .ok (.aload_n 0, 1) := by decide +kernel
theorem d_LT_init_35 : decode prog_1_method_1_code 35 = .ok (.getfield 20, 3) := by decide +kernel
theorem d_LT_init_38 : decode prog_1_method_1_code 38 = .ok (.invokespecial 26, 3) := by decide +kernel
theorem d_LT_init_41 : decode prog_1_method_1_code 41 = .ok (.putfield 29, 3) := by decide +kernel
theorem d_LT_init_44 : decode prog_1_method_1_code 44 = .ok (.aload_n 0, 1) := by decide +kernel
theorem d_LT_init_45 : decode prog_1_method_1_code 45 = .ok (.new 33, 3) := by decide +kernel
theorem d_LT_init_48 : decode prog_1_method_1_code 48 = .ok (.dup, 1) := by decide +kernel
theorem d_LT_init_49 : decode prog_1_method_1_code 49 = .ok (.invokespecial 35, 3) := by decide +kernel
theorem d_LT_init_52 : decode prog_1_method_1_code 52 = .ok (.putfield 36, 3) := by decide +kernel
theorem d_LT_init_55 : decode prog_1_method_1_code 55 = .ok (.aload_n 0, 1) := by decide +kernel
theorem d_LT_init_56 : decode prog_1_method_1_code 56 = .ok (.new 40, 3) := by decide +kernel
theorem d_LT_init_59 : decode prog_1_method_1_code 59 = .ok (.dup, 1) := by decide +kernel
theorem d_LT_init_60 : decode prog_1_method_1_code 60 = .ok (.aload_n 0, 1) := by decide +kernel
theorem d_LT_init_61 : decode prog_1_method_1_code 61 = .ok (.getfield 36, 3) := by decide +kernel
theorem d_LT_init_64 : decode prog_1_method_1_code 64 = .ok (.invokespecial 42, 3) := by decide +kernel
theorem d_LT_init_67 : decode prog_1_method_1_code 67 = .ok (.putfield 45, 3) := by decide +kernel
theorem d_LT_init_70 : decode prog_1_method_1_code 70 = .ok (.aload_n 0, 1) := by decide +kernel
theorem d_LT_init_71 : decode prog_1_method_1_code 71 = .ok (.new 49, 3) := by decide +kernel
theorem d_LT_init_74 : decode prog_1_method_1_code 74 = .ok (.dup, 1) := by decide +kernel
theorem d_LT_init_75 : decode prog_1_method_1_code 75 = .ok (.invokespecial 51, 3) := by decide +kernel
theorem d_LT_init_78 : decode prog_1_method_1_code 78 = .ok (.putfield 52, 3) := by decide +kernel
theorem d_LT_init_81 : decode prog_1_method_1_code 81 = .ok (.aload_n 0, 1) := by decide +kernel
theorem d_LT_init_82 : decode prog_1_method_1_code 82 = .ok (.new 49, 3) := by decide +kernel
theorem d_LT_init_85 : decode prog_1_method_1_code 85 = .ok (.dup, 1) := by decide +kernel
theorem d_LT_init_86 : decode prog_1_method_1_code 86 = .ok (.invokespecial 51, 3) := by decide +kernel
theorem d_LT_init_89 : decode prog_1_method_1_code 89 = .ok (.putfield 56, 3) := by decide +kernel
theorem d_LT_init_92 : decode prog_1_method_1_code 92 = .ok (.aload_n 0, 1) := by decide +kernel
theorem d_LT_init_93 : decode prog_1_method_1_code 93 = .ok (.new 59, 3) := by decide +kernel
theorem d_LT_init_96 : decode prog_1_method_1_code 96 = .ok (.dup, 1) := by decide +kernel
theorem d_LT_init_97 : decode prog_1_method_1_code 97 = .ok (.invokespecial 61, 3) := by decide +kernel
theorem d_LT_init_100 : decode prog_1_method_1_code 100 = .ok (.putfield 62, 3) := by decide +kernel
theorem d_LT_init_103 : decode prog_1_method_1_code 103 = .ok (.aload_n 0, 1) := by decide +kernel
theorem d_LT_init_104 : decode prog_1_method_1_code 104 = .ok (.new 66, 3) := by decide +kernel
theorem d_LT_init_107 : decode prog_1_method_1_code 107 = .ok (.dup, 1) := by decide +kernel
theorem d_LT_init_108 : decode prog_1_method_1_code 108 = .ok (.invokespecial 68, 3) := by decide +kernel
theorem d_LT_init_111 : decode prog_1_method_1_code 111 = .ok (.putfield 69, 3) := by decide +kernel
theorem d_LT_init_114 : decode prog_1_method_1_code 114 = .ok (.return_, 1) := by decide +kernel
theorem d_LT_unit_0 : decode prog_1_method_2_code 0 = .ok (.aload_n 0, 1) := by decide +kernel
theorem d_LT_unit_1 : decode prog_1_method_2_code 1 = .ok (.getfield 20, 3) := by decide +kernel
theorem d_LT_unit_4 : decode prog_1_method_2_code 4 = .ok (.getfield 73, 3) := by decide +kernel
theorem d_LT_unit_7 : decode prog_1_method_2_code 7 = .ok (.iload_n 1, 1) := by decide +kernel
theorem d_LT_unit_8 : decode prog_1_method_2_code 8 = .ok (.invokevirtual 77, 3) := by decide +kernel
theorem d_LT_unit_11 : decode prog_1_method_2_code 11 = .ok (.ireturn, 1) := by decide +kernel
theorem d_LT_mayBegin_0 : decode prog_1_method_18_code 0 = .ok (.iload_n 1, 1) := by decide +kernel
theorem d_LT_mayBegin_1 : decode prog_1_method_18_code 1 = .ok (.ifCond .lt 21, 3) := by decide +kernel
theorem d_LT_mayBegin_22 : decode prog_1_method_18_code 22 = .ok (.iconst 0, 1) := by decide +kernel
theorem d_LT_mayBegin_23 : decode prog_1_method_18_code 23 = .ok (.ireturn, 1) := by decide +kernel
theorem d_LT_mayBegin_4 : decode prog_1_method_18_code 4 = .ok (.iload_n 1, 1) := by decide +kernel
theorem d_LT_mayBegin_5 : decode prog_1_method_18_code 5 = .ok (.ldc 192, 2) := by decide +kernel
theorem d_LT_mayBegin_7 : decode prog_1_method_18_code 7 = .ok (.if_icmp .gt 15, 3) := by decide +kernel
theorem d_LT_mayBegin_10 : decode prog_1_method_18_code 10 = .ok (.aload_n 0, 1) := by decide +kernel
theorem d_LT_mayBegin_11 : decode prog_1_method_18_code 11 = .ok (.getfield 15, 3) := by decide +kernel
theorem d_LT_mayBegin_14 : decode prog_1_method_18_code 14 = .ok (.aload_n 0, 1) := by decide +kernel
theorem d_LT_mayBegin_15 : decode prog_1_method_18_code 15 = .ok (.getfield 11, 3) := by decide +kernel
theorem d_LT_mayBegin_18 : decode prog_1_method_18_code 18 = .ok (.arraylength, 1) := by decide +kernel
theorem d_LT_mayBegin_19 : decode prog_1_method_18_code 19 = .ok (.if_icmp .lt 5, 3) := by decide +kernel
theorem d_LT_mayBegin_24 : decode prog_1_method_18_code 24 = .ok (.aload_n 0, 1) := by decide +kernel
theorem d_LT_mayBegin_25 : decode prog_1_method_18_code 25 = .ok (.getfield 15, 3) := by decide +kernel
theorem d_LT_mayBegin_28 : decode prog_1_method_18_code 28 = .ok (.ifCond .gt 5, 3) := by decide +kernel
theorem d_LT_mayBegin_33 : decode prog_1_method_18_code 33 = .ok (.aload_n 0, 1) := by decide +kernel
theorem d_LT_mayBegin_34 : decode prog_1_method_18_code 34 = .ok (.getfield 11, 3) := by decide +kernel
theorem d_LT_mayBegin_37 : decode prog_1_method_18_code 37 = .ok (.aload_n 0, 1) := by decide +kernel
theorem d_LT_mayBegin_38 : decode prog_1_method_18_code 38 = .ok (.getfield 15, 3) := by decide +kernel
theorem d_LT_mayBegin_41 : decode prog_1_method_18_code 41 = .ok (.iconst 1, 1) := by decide +kernel
theorem d_LT_mayBegin_42 : decode prog_1_method_18_code 42 = .ok (.isub, 1) := by decide +kernel
theorem d_LT_mayBegin_43 : decode prog_1_method_18_code 43 = .ok (.aaload, 1) := by decide +kernel
theorem d_LT_mayBegin_44 : decode prog_1_method_18_code 44 = .ok (.astore_n 2, 1) := by decide +kernel
theorem d_LT_mayBegin_45 : decode prog_1_method_18_code 45 = .ok (.aload_n 2, 1) := by decide +kernel
theorem d_LT_mayBegin_46 : decode prog_1_method_18_code 46 = .ok (.ifnull 11, 3) := by decide +kernel
theorem d_LT_mayBegin_57 : decode prog_1_method_18_code 57 = .ok (.iconst 1, 1) := by decide +kernel
theorem d_LT_mayBegin_58 : decode prog_1_method_18_code 58 = .ok (.goto 4, 3) := by decide +kernel
theorem d_LT_mayBegin_62 : decode prog_1_method_18_code 62 = .ok (.ireturn, 1) := by decide +kernel
theorem d_LT_mayBegin_49 : decode prog_1_method_18_code 49 = .ok (.iload_n 1, 1) := by decide +kernel
theorem d_LT_mayBegin_50 : decode prog_1_method_18_code 50 = .ok (.aload_n 2, 1) := by decide +kernel
theorem d_LT_mayBegin_51 : decode prog_1_method_18_code 51 = .ok (.getfield 93, 3) := by decide +kernel
theorem d_LT_mayBegin_54 : decode prog_1_method_18_code 54 = .ok (.if_icmp .le 7, 3) := by decide +kernel
theorem d_LT_mayBegin_61 : decode prog_1_method_18_code 61 = .ok (.iconst 0, 1) := by decide +kernel
theorem d_LT_mayBegin_31 : decode prog_1_method_18_code 31 = .ok (.iconst 1, 1) := by decide +kernel
theorem d_LT_mayBegin_32 : decode prog_1_method_18_code 32 = .ok (.ireturn, 1) := by decide +kernel
theorem d_LT_keep_0 : decode prog_1_method_19_code 0 = .ok (.aload_n 0, 1) := by decide +kernel
theorem d_LT_keep_1 : decode prog_1_method_19_code 1 = .ok (.getfield 15, 3) := by decide +kernel
theorem d_LT_keep_4 : decode prog_1_method_19_code 4 = .ok (.ifCond .lt 35, 3) := by decide +kernel
theorem d_LT_keep_39 : decode prog_1_method_19_code 39 = .ok (.return_, 1) := by decide +kernel
theorem d_LT_keep_7 : decode prog_1_method_19_code 7 = .ok (.aload_n 0, 1) := by decide +kernel
theorem d_LT_keep_8 : decode prog_1_method_19_code 8 = .ok (.getfield 15, 3) := by decide +kernel
theorem d_LT_keep_11 : decode prog_1_method_19_code 11 = .ok (.aload_n 0, 1) := by decide +kernel
theorem d_LT_keep_12 : decode prog_1_method_19_code 12 = .ok (.getfield 11, 3) := by decide +kernel
theorem d_LT_keep_15 : decode prog_1_method_19_code 15 = .ok (.arraylength, 1) := by decide +kernel
theorem d_LT_keep_16 : decode prog_1_method_19_code 16 = .ok (.if_icmp .ge 23, 3) := by decide +kernel
theorem d_LT_keep_19 : decode prog_1_method_19_code 19 = .ok (.aload_n 0, 1) := by decide +kernel
theorem d_LT_keep_20 : decode prog_1_method_19_code 20 = .ok (.getfield 11, 3) := by decide +kernel
theorem d_LT_keep_23 : decode prog_1_method_19_code 23 = .ok (.aload_n 0, 1) := by decide +kernel
theorem d_LT_keep_24 : decode prog_1_method_19_code 24 = .ok (.getfield 15, 3) := by decide +kernel
theorem d_LT_keep_27 : decode prog_1_method_19_code 27 = .ok (.aload_n 1, 1) := by decide +kernel
theorem d_LT_keep_28 : decode prog_1_method_19_code 28 = .ok (.aastore, 1) := by decide +kernel
theorem d_LT_keep_29 : decode prog_1_method_19_code 29 = .ok (.aload_n 0, 1) := by decide +kernel
theorem d_LT_keep_30 : decode prog_1_method_19_code 30 = .ok (.dup, 1) := by decide +kernel
theorem d_LT_keep_31 : decode prog_1_method_19_code 31 = .ok (.getfield 15, 3) := by decide +kernel
theorem d_LT_keep_34 : decode prog_1_method_19_code 34 = .ok (.iconst 1, 1) := by decide +kernel
theorem d_LT_keep_35 : decode prog_1_method_19_code 35 = .ok (.iadd, 1) := by decide +kernel
theorem d_LT_keep_36 : decode prog_1_method_19_code 36 = .ok (.putfield 15, 3) := by decide +kernel
theorem d_LT_read_0 : decode prog_1_method_3_code 0 = .ok (.aload_n 0, 1) := by decide +kernel
theorem d_LT_read_1 : decode prog_1_method_3_code 1 = .ok (.iload_n 1, 1) := by decide +kernel
theorem d_LT_read_2 : decode prog_1_method_3_code 2 = .ok (.invokevirtual 83, 3) := by decide +kernel
theorem d_LT_read_5 : decode prog_1_method_3_code 5 = .ok (.ifCond .ne 7, 3) := by decide +kernel
theorem d_LT_read_12 : decode prog_1_method_3_code 12 = .ok (.aload_n 0, 1) := by decide +kernel
theorem d_LT_read_13 : decode prog_1_method_3_code 13 = .ok (.getfield 29, 3) := by decide +kernel
theorem d_LT_read_16 : decode prog_1_method_3_code 16 = .ok (.aload_n 0, 1) := by decide +kernel
theorem d_LT_read_17 : decode prog_1_method_3_code 17 = .ok (.getfield 20, 3) := by decide +kernel
theorem d_LT_read_20 : decode prog_1_method_3_code 20 = .ok (.invokevirtual 86, 3) := by decide +kernel
theorem d_LT_read_23 : decode prog_1_method_3_code 23 = .ok (.istore_n 2, 1) := by decide +kernel
theorem d_LT_read_24 : decode prog_1_method_3_code 24 = .ok (.iload_n 2, 1) := by decide +kernel
theorem d_LT_read_25 : decode prog_1_method_3_code 25 = .ok (.iconst (-1), 1) := by decide +kernel
theorem d_LT_read_26 : decode prog_1_method_3_code 26 = .ok (.if_icmp .eq 14, 3) := by decide +kernel
theorem d_LT_read_40 : decode prog_1_method_3_code 40 = .ok (.aload_n 0, 1) := by decide +kernel
theorem d_LT_read_41 : decode prog_1_method_3_code 41 = .ok (.getfield 20, 3) := by decide +kernel
theorem d_LT_read_44 : decode prog_1_method_3_code 44 = .ok (.astore_n 3, 1) := by decide +kernel
theorem d_LT_read_45 : decode prog_1_method_3_code 45 = .ok (.aload_n 3, 1) := by decide +kernel
theorem d_LT_read_46 : decode prog_1_method_3_code 46 = .ok (.iload_n 1, 1) := by decide +kernel
theorem d_LT_read_47 : decode prog_1_method_3_code 47 = .ok (.putfield 93, 3) := by decide +kernel
theorem d_LT_read_50 : decode prog_1_method_3_code 50 = .ok (.aload_n 0, 1) := by decide +kernel
theorem d_LT_read_51 : decode prog_1_method_3_code 51 = .ok (.aload_n 3, 1) := by decide +kernel
theorem d_LT_read_52 : decode prog_1_method_3_code 52 = .ok (.invokevirtual 96, 3) := by decide +kernel
theorem d_LT_read_55 : decode prog_1_method_3_code 55 = .ok (.aload_n 0, 1) := by decide +kernel
theorem d_LT_read_56 : decode prog_1_method_3_code 56 = .ok (.new 9, 3) := by decide +kernel
theorem d_LT_read_59 : decode prog_1_method_3_code 59 = .ok (.dup, 1) := by decide +kernel
theorem d_LT_read_60 : decode prog_1_method_3_code 60 = .ok (.invokespecial 19, 3) := by decide +kernel
theorem d_LT_read_63 : decode prog_1_method_3_code 63 = .ok (.putfield 20, 3) := by decide +kernel
theorem d_LT_read_66 : decode prog_1_method_3_code 66 = .ok (.aload_n 3, 1) := by decide +kernel
theorem d_LT_read_67 : decode prog_1_method_3_code 67 = .ok (.getfield 99, 3) := by decide +kernel
theorem d_LT_read_70 : decode prog_1_method_3_code 70 = .ok (.ireturn, 1) := by decide +kernel
theorem d_LT_read_29 : decode prog_1_method_3_code 29 = .ok (.aload_n 0, 1) := by decide +kernel
theorem d_LT_read_30 : decode prog_1_method_3_code 30 = .ok (.getfield 20, 3) := by decide +kernel
theorem d_LT_read_33 : decode prog_1_method_3_code 33 = .ok (.invokevirtual 90, 3) := by decide +kernel
theorem d_LT_read_36 : decode prog_1_method_3_code 36 = .ok (.iconst (-1), 1) := by decide +kernel
theorem d_LT_read_37 : decode prog_1_method_3_code 37 = .ok (.iload_n 2, 1) := by decide +kernel
theorem d_LT_read_38 : decode prog_1_method_3_code 38 = .ok (.isub, 1) := by decide +kernel
theorem d_LT_read_39 : decode prog_1_method_3_code 39 = .ok (.ireturn, 1) := by decide +kernel
theorem d_LT_read_8 : decode prog_1_method_3_code 8 = .ok (.sipush (-1000), 3) := by decide +kernel
theorem d_LT_read_11 : decode prog_1_method_3_code 11 = .ok (.ireturn, 1) := by decide +kernel
theorem d_LT_editions_0 : decode prog_1_method_4_code 0 = .ok (.aload_n 0, 1) := by decide +kernel
theorem d_LT_editions_1 : decode prog_1_method_4_code 1 = .ok (.getfield 15, 3) := by decide +kernel
theorem d_LT_editions_4 : decode prog_1_method_4_code 4 = .ok (.ireturn, 1) := by decide +kernel
theorem d_LT_fact_0 : decode prog_1_method_5_code 0 = .ok (.aload_n 0, 1) := by decide +kernel
theorem d_LT_fact_1 : decode prog_1_method_5_code 1 = .ok (.getfield 36, 3) := by decide +kernel
theorem d_LT_fact_4 : decode prog_1_method_5_code 4 = .ok (.iload_n 1, 1) := by decide +kernel
theorem d_LT_fact_5 : decode prog_1_method_5_code 5 = .ok (.invokevirtual 102, 3) := by decide +kernel
theorem d_LT_fact_8 : decode prog_1_method_5_code 8 = .ok (.ifCond .ne 5, 3) := by decide +kernel
theorem d_LT_fact_13 : decode prog_1_method_5_code 13 = .ok (.aload_n 0, 1) := by decide +kernel
theorem d_LT_fact_14 : decode prog_1_method_5_code 14 = .ok (.getfield 36, 3) := by decide +kernel
theorem d_LT_fact_17 : decode prog_1_method_5_code 17 = .ok (.iload_n 1, 1) := by decide +kernel
theorem d_LT_fact_18 : decode prog_1_method_5_code 18 = .ok (.lload_n 2, 1) := by decide +kernel
theorem d_LT_fact_19 : decode prog_1_method_5_code 19 = .ok (.iconst 1, 1) := by decide +kernel
theorem d_LT_fact_20 : decode prog_1_method_5_code 20 = .ok (.invokevirtual 105, 3) := by decide +kernel
theorem d_LT_fact_23 : decode prog_1_method_5_code 23 = .ok (.iconst 1, 1) := by decide +kernel
theorem d_LT_fact_24 : decode prog_1_method_5_code 24 = .ok (.ireturn, 1) := by decide +kernel
theorem d_LT_fact_11 : decode prog_1_method_5_code 11 = .ok (.iconst 0, 1) := by decide +kernel
theorem d_LT_fact_12 : decode prog_1_method_5_code 12 = .ok (.ireturn, 1) := by decide +kernel
theorem d_LT_clearFacts_0 : decode prog_1_method_6_code 0 = .ok (.aload_n 0, 1) := by decide +kernel
theorem d_LT_clearFacts_1 : decode prog_1_method_6_code 1 = .ok (.getfield 36, 3) := by decide +kernel
theorem d_LT_clearFacts_4 : decode prog_1_method_6_code 4 = .ok (.invokevirtual 109, 3) := by decide +kernel
theorem d_LT_clearFacts_7 : decode prog_1_method_6_code 7 = .ok (.ireturn, 1) := by decide +kernel
theorem d_LT_editionOn_33 : decode prog_1_method_20_code 33 = .ok (.iinc 2 (-1), 3) := by decide +kernel
theorem d_LT_editionOn_36 : decode prog_1_method_20_code 36 = .ok (.goto (-28), 3) := by decide +kernel
theorem d_LT_editionOn_8 : decode prog_1_method_20_code 8 = .ok (.iload_n 2, 1) := by decide +kernel
theorem d_LT_editionOn_9 : decode prog_1_method_20_code 9 = .ok (.ifCond .lt 30, 3) := by decide +kernel
theorem d_LT_editionOn_39 : decode prog_1_method_20_code 39 = .ok (.aconst_null, 1) := by decide +kernel
theorem d_LT_editionOn_40 : decode prog_1_method_20_code 40 = .ok (.areturn, 1) := by decide +kernel
theorem d_LT_editionOn_12 : decode prog_1_method_20_code 12 = .ok (.aload_n 0, 1) := by decide +kernel
theorem d_LT_editionOn_13 : decode prog_1_method_20_code 13 = .ok (.getfield 11, 3) := by decide +kernel
theorem d_LT_editionOn_16 : decode prog_1_method_20_code 16 = .ok (.iload_n 2, 1) := by decide +kernel
theorem d_LT_editionOn_17 : decode prog_1_method_20_code 17 = .ok (.aaload, 1) := by decide +kernel
theorem d_LT_editionOn_18 : decode prog_1_method_20_code 18 = .ok (.astore_n 3, 1) := by decide +kernel
theorem d_LT_editionOn_19 : decode prog_1_method_20_code 19 = .ok (.aload_n 3, 1) := by decide +kernel
theorem d_LT_editionOn_20 : decode prog_1_method_20_code 20 = .ok (.ifnull 13, 3) := by decide +kernel
theorem d_LT_editionOn_23 : decode prog_1_method_20_code 23 = .ok (.aload_n 3, 1) := by decide +kernel
theorem d_LT_editionOn_24 : decode prog_1_method_20_code 24 = .ok (.getfield 93, 3) := by decide +kernel
theorem d_LT_editionOn_27 : decode prog_1_method_20_code 27 = .ok (.iload_n 1, 1) := by decide +kernel
theorem d_LT_editionOn_28 : decode prog_1_method_20_code 28 = .ok (.if_icmp .gt 5, 3) := by decide +kernel
theorem d_LT_editionOn_31 : decode prog_1_method_20_code 31 = .ok (.aload_n 3, 1) := by decide +kernel
theorem d_LT_editionOn_32 : decode prog_1_method_20_code 32 = .ok (.areturn, 1) := by decide +kernel
theorem d_LT_editionOn_0 : decode prog_1_method_20_code 0 = .ok (.aload_n 0, 1) := by decide +kernel
theorem d_LT_editionOn_1 : decode prog_1_method_20_code 1 = .ok (.getfield 11, 3) := by decide +kernel
theorem d_LT_editionOn_4 : decode prog_1_method_20_code 4 = .ok (.arraylength, 1) := by decide +kernel
theorem d_LT_editionOn_5 : decode prog_1_method_20_code 5 = .ok (.iconst 1, 1) := by decide +kernel
theorem d_LT_editionOn_6 : decode prog_1_method_20_code 6 = .ok (.isub, 1) := by decide +kernel
theorem d_LT_editionOn_7 : decode prog_1_method_20_code 7 = .ok (.istore_n 2, 1) := by decide +kernel
theorem d_LT_look_81 : decode prog_1_method_21_code 81 = .ok (.iinc 4 1, 3) := by decide +kernel
theorem d_LT_look_84 : decode prog_1_method_21_code 84 = .ok (.goto (-62), 3) := by decide +kernel
theorem d_LT_look_22 : decode prog_1_method_21_code 22 = .ok (.iload 4, 2) := by decide +kernel
theorem d_LT_look_24 : decode prog_1_method_21_code 24 = .ok (.aload_n 3, 1) := by decide +kernel
theorem d_LT_look_25 : decode prog_1_method_21_code 25 = .ok (.getfield 99, 3) := by decide +kernel
theorem d_LT_look_28 : decode prog_1_method_21_code 28 = .ok (.if_icmp .ge 59, 3) := by decide +kernel
theorem d_LT_look_87 : decode prog_1_method_21_code 87 = .ok (.aload_n 2, 1) := by decide +kernel
theorem d_LT_look_88 : decode prog_1_method_21_code 88 = .ok (.invokevirtual 194, 3) := by decide +kernel
theorem d_LT_look_91 : decode prog_1_method_21_code 91 = .ok (.ireturn, 1) := by decide +kernel
theorem d_LT_look_31 : decode prog_1_method_21_code 31 = .ok (.aload_n 3, 1) := by decide +kernel
theorem d_LT_look_32 : decode prog_1_method_21_code 32 = .ok (.iload 4, 2) := by decide +kernel
theorem d_LT_look_34 : decode prog_1_method_21_code 34 = .ok (.invokevirtual 161, 3) := by decide +kernel
theorem d_LT_look_37 : decode prog_1_method_21_code 37 = .ok (.astore 5, 2) := by decide +kernel
theorem d_LT_look_39 : decode prog_1_method_21_code 39 = .ok (.aload 5, 2) := by decide +kernel
theorem d_LT_look_41 : decode prog_1_method_21_code 41 = .ok (.ifnull 40, 3) := by decide +kernel
theorem d_LT_look_44 : decode prog_1_method_21_code 44 = .ok (.aload_n 0, 1) := by decide +kernel
theorem d_LT_look_45 : decode prog_1_method_21_code 45 = .ok (.getfield 45, 3) := by decide +kernel
theorem d_LT_look_48 : decode prog_1_method_21_code 48 = .ok (.aload_n 3, 1) := by decide +kernel
theorem d_LT_look_49 : decode prog_1_method_21_code 49 = .ok (.aload 5, 2) := by decide +kernel
theorem d_LT_look_51 : decode prog_1_method_21_code 51 = .ok (.invokevirtual 197, 3) := by decide +kernel
theorem d_LT_look_54 : decode prog_1_method_21_code 54 = .ok (.istore 6, 2) := by decide +kernel
theorem d_LT_look_56 : decode prog_1_method_21_code 56 = .ok (.aload_n 2, 1) := by decide +kernel
theorem d_LT_look_57 : decode prog_1_method_21_code 57 = .ok (.iload 6, 2) := by decide +kernel
theorem d_LT_look_59 : decode prog_1_method_21_code 59 = .ok (.aload_n 0, 1) := by decide +kernel
theorem d_LT_look_60 : decode prog_1_method_21_code 60 = .ok (.getfield 45, 3) := by decide +kernel
theorem d_LT_look_63 : decode prog_1_method_21_code 63 = .ok (.getfield 201, 3) := by decide +kernel
theorem d_LT_look_66 : decode prog_1_method_21_code 66 = .ok (.aload_n 0, 1) := by decide +kernel
theorem d_LT_look_67 : decode prog_1_method_21_code 67 = .ok (.getfield 45, 3) := by decide +kernel
theorem d_LT_look_70 : decode prog_1_method_21_code 70 = .ok (.getfield 204, 3) := by decide +kernel
theorem d_LT_look_73 : decode prog_1_method_21_code 73 = .ok (.aload 5, 2) := by decide +kernel
theorem d_LT_look_75 : decode prog_1_method_21_code 75 = .ok (.getfield 166, 3) := by decide +kernel
theorem d_LT_look_78 : decode prog_1_method_21_code 78 = .ok (.invokevirtual 207, 3) := by decide +kernel
theorem d_LT_look_0 : decode prog_1_method_21_code 0 = .ok (.aload_n 2, 1) := by decide +kernel
theorem d_LT_look_1 : decode prog_1_method_21_code 1 = .ok (.invokevirtual 193, 3) := by decide +kernel
theorem d_LT_look_4 : decode prog_1_method_21_code 4 = .ok (.aload_n 0, 1) := by decide +kernel
theorem d_LT_look_5 : decode prog_1_method_21_code 5 = .ok (.iload_n 1, 1) := by decide +kernel
theorem d_LT_look_6 : decode prog_1_method_21_code 6 = .ok (.invokevirtual 133, 3) := by decide +kernel
theorem d_LT_look_9 : decode prog_1_method_21_code 9 = .ok (.astore_n 3, 1) := by decide +kernel
theorem d_LT_look_10 : decode prog_1_method_21_code 10 = .ok (.aload_n 3, 1) := by decide +kernel
theorem d_LT_look_11 : decode prog_1_method_21_code 11 = .ok (.ifnonnull 8, 3) := by decide +kernel
theorem d_LT_look_14 : decode prog_1_method_21_code 14 = .ok (.aload_n 2, 1) := by decide +kernel
theorem d_LT_look_15 : decode prog_1_method_21_code 15 = .ok (.invokevirtual 194, 3) := by decide +kernel
theorem d_LT_look_18 : decode prog_1_method_21_code 18 = .ok (.ireturn, 1) := by decide +kernel
theorem d_LT_look_19 : decode prog_1_method_21_code 19 = .ok (.iconst 0, 1) := by decide +kernel
theorem d_LT_look_20 : decode prog_1_method_21_code 20 = .ok (.istore 4, 2) := by decide +kernel
theorem d_LT_run_0 : decode prog_1_method_7_code 0 = .ok (.aload_n 0, 1) := by decide +kernel
theorem d_LT_run_1 : decode prog_1_method_7_code 1 = .ok (.iload_n 1, 1) := by decide +kernel
theorem d_LT_run_2 : decode prog_1_method_7_code 2 = .ok (.aload_n 0, 1) := by decide +kernel
theorem d_LT_run_3 : decode prog_1_method_7_code 3 = .ok (.getfield 52, 3) := by decide +kernel
theorem d_LT_run_6 : decode prog_1_method_7_code 6 = .ok (.invokevirtual 112, 3) := by decide +kernel
theorem d_LT_run_9 : decode prog_1_method_7_code 9 = .ok (.ireturn, 1) := by decide +kernel
theorem d_LT_walk_0 : decode prog_1_method_8_code 0 = .ok (.aload_n 0, 1) := by decide +kernel
theorem d_LT_walk_1 : decode prog_1_method_8_code 1 = .ok (.iload_n 1, 1) := by decide +kernel
theorem d_LT_walk_2 : decode prog_1_method_8_code 2 = .ok (.aload_n 0, 1) := by decide +kernel
theorem d_LT_walk_3 : decode prog_1_method_8_code 3 = .ok (.getfield 56, 3) := by decide +kernel
theorem d_LT_walk_6 : decode prog_1_method_8_code 6 = .ok (.invokevirtual 112, 3) := by decide +kernel
theorem d_LT_walk_9 : decode prog_1_method_8_code 9 = .ok (.ireturn, 1) := by decide +kernel
theorem d_LT_broken_0 : decode prog_1_method_9_code 0 = .ok (.aload_n 0, 1) := by decide +kernel
theorem d_LT_broken_1 : decode prog_1_method_9_code 1 = .ok (.getfield 52, 3) := by decide +kernel
theorem d_LT_broken_4 : decode prog_1_method_9_code 4 = .ok (.iconst 1, 1) := by decide +kernel
theorem d_LT_broken_5 : decode prog_1_method_9_code 5 = .ok (.iload_n 1, 1) := by decide +kernel
theorem d_LT_broken_6 : decode prog_1_method_9_code 6 = .ok (.invokevirtual 116, 3) := by decide +kernel
theorem d_LT_broken_9 : decode prog_1_method_9_code 9 = .ok (.istore_n 3, 1) := by decide +kernel
theorem d_LT_broken_10 : decode prog_1_method_9_code 10 = .ok (.iload_n 2, 1) := by decide +kernel
theorem d_LT_broken_11 : decode prog_1_method_9_code 11 = .ok (.lookupswitch 36 #[(0, 25), (1, 27)], 25) := by decide +kernel
theorem d_LT_broken_36 : decode prog_1_method_9_code 36 = .ok (.iload_n 3, 1) := by decide +kernel
theorem d_LT_broken_37 : decode prog_1_method_9_code 37 = .ok (.ireturn, 1) := by decide +kernel
theorem d_LT_broken_38 : decode prog_1_method_9_code 38 = .ok (.aload_n 0, 1) := by decide +kernel
theorem d_LT_broken_39 : decode prog_1_method_9_code 39 = .ok (.getfield 52, 3) := by decide +kernel
theorem d_LT_broken_42 : decode prog_1_method_9_code 42 = .ok (.iload_n 3, 1) := by decide +kernel
theorem d_LT_broken_43 : decode prog_1_method_9_code 43 = .ok (.invokevirtual 120, 3) := by decide +kernel
theorem d_LT_broken_46 : decode prog_1_method_9_code 46 = .ok (.ireturn, 1) := by decide +kernel
theorem d_LT_broken_47 : decode prog_1_method_9_code 47 = .ok (.iconst (-1), 1) := by decide +kernel
theorem d_LT_broken_48 : decode prog_1_method_9_code 48 = .ok (.ireturn, 1) := by decide +kernel
theorem d_LT_open_0 : decode prog_1_method_10_code 0 = .ok (.aload_n 0, 1) := by decide +kernel
theorem d_LT_open_1 : decode prog_1_method_10_code 1 = .ok (.getfield 52, 3) := by decide +kernel
theorem d_LT_open_4 : decode prog_1_method_10_code 4 = .ok (.iconst 2, 1) := by decide +kernel
theorem d_LT_open_5 : decode prog_1_method_10_code 5 = .ok (.iload_n 1, 1) := by decide +kernel
theorem d_LT_open_6 : decode prog_1_method_10_code 6 = .ok (.invokevirtual 116, 3) := by decide +kernel
theorem d_LT_open_9 : decode prog_1_method_10_code 9 = .ok (.istore_n 3, 1) := by decide +kernel
theorem d_LT_open_10 : decode prog_1_method_10_code 10 = .ok (.iload_n 2, 1) := by decide +kernel
theorem d_LT_open_11 : decode prog_1_method_10_code 11 = .ok (.tableswitch 45 0 2 #[25, 27, 36], 25) := by decide +kernel
theorem d_LT_open_36 : decode prog_1_method_10_code 36 = .ok (.iload_n 3, 1) := by decide +kernel
theorem d_LT_open_37 : decode prog_1_method_10_code 37 = .ok (.ireturn, 1) := by decide +kernel
theorem d_LT_open_38 : decode prog_1_method_10_code 38 = .ok (.aload_n 0, 1) := by decide +kernel
theorem d_LT_open_39 : decode prog_1_method_10_code 39 = .ok (.getfield 52, 3) := by decide +kernel
theorem d_LT_open_42 : decode prog_1_method_10_code 42 = .ok (.iload_n 3, 1) := by decide +kernel
theorem d_LT_open_43 : decode prog_1_method_10_code 43 = .ok (.invokevirtual 124, 3) := by decide +kernel
theorem d_LT_open_46 : decode prog_1_method_10_code 46 = .ok (.ireturn, 1) := by decide +kernel
theorem d_LT_open_47 : decode prog_1_method_10_code 47 = .ok (.aload_n 0, 1) := by decide +kernel
theorem d_LT_open_48 : decode prog_1_method_10_code 48 = .ok (.getfield 52, 3) := by decide +kernel
theorem d_LT_open_51 : decode prog_1_method_10_code 51 = .ok (.iload_n 3, 1) := by decide +kernel
theorem d_LT_open_52 : decode prog_1_method_10_code 52 = .ok (.invokevirtual 127, 3) := by decide +kernel
theorem d_LT_open_55 : decode prog_1_method_10_code 55 = .ok (.ireturn, 1) := by decide +kernel
theorem d_LT_open_56 : decode prog_1_method_10_code 56 = .ok (.iconst (-1), 1) := by decide +kernel
theorem d_LT_open_57 : decode prog_1_method_10_code 57 = .ok (.ireturn, 1) := by decide +kernel
theorem d_LT_explain_0 : decode prog_1_method_11_code 0 = .ok (.aload_n 0, 1) := by decide +kernel
theorem d_LT_explain_1 : decode prog_1_method_11_code 1 = .ok (.getfield 52, 3) := by decide +kernel
theorem d_LT_explain_4 : decode prog_1_method_11_code 4 = .ok (.iload_n 1, 1) := by decide +kernel
theorem d_LT_explain_5 : decode prog_1_method_11_code 5 = .ok (.invokevirtual 130, 3) := by decide +kernel
theorem d_LT_explain_8 : decode prog_1_method_11_code 8 = .ok (.ireturn, 1) := by decide +kernel
theorem d_LT_allowed_94 : decode prog_1_method_13_code 94 = .ok (.aload_n 0, 1) := by decide +kernel
theorem d_LT_allowed_95 : decode prog_1_method_13_code 95 = .ok (.getfield 36, 3) := by decide +kernel
theorem d_LT_allowed_98 : decode prog_1_method_13_code 98 = .ok (.iload_n 2, 1) := by decide +kernel
theorem d_LT_allowed_99 : decode prog_1_method_13_code 99 = .ok (.lload 5, 2) := by decide +kernel
theorem d_LT_allowed_101 : decode prog_1_method_13_code 101 = .ok (.iload 4, 2) := by decide +kernel
theorem d_LT_allowed_103 : decode prog_1_method_13_code 103 = .ok (.invokevirtual 105, 3) := by decide +kernel
theorem d_LT_allowed_106 : decode prog_1_method_13_code 106 = .ok (.iload 7, 2) := by decide +kernel
theorem d_LT_allowed_108 : decode prog_1_method_13_code 108 = .ok (.ireturn, 1) := by decide +kernel
theorem d_LT_allowed_88 : decode prog_1_method_13_code 88 = .ok (.iinc 8 (-1), 3) := by decide +kernel
theorem d_LT_allowed_91 : decode prog_1_method_13_code 91 = .ok (.goto (-42), 3) := by decide +kernel
theorem d_LT_allowed_49 : decode prog_1_method_13_code 49 = .ok (.iload 8, 2) := by decide +kernel
theorem d_LT_allowed_51 : decode prog_1_method_13_code 51 = .ok (.ifCond .lt 43, 3) := by decide +kernel
theorem d_LT_allowed_54 : decode prog_1_method_13_code 54 = .ok (.iload 7, 2) := by decide +kernel
theorem d_LT_allowed_56 : decode prog_1_method_13_code 56 = .ok (.iconst (-1), 1) := by decide +kernel
theorem d_LT_allowed_57 : decode prog_1_method_13_code 57 = .ok (.if_icmp .ne 37, 3) := by decide +kernel
theorem d_LT_allowed_60 : decode prog_1_method_13_code 60 = .ok (.aload_n 0, 1) := by decide +kernel
theorem d_LT_allowed_61 : decode prog_1_method_13_code 61 = .ok (.getfield 36, 3) := by decide +kernel
theorem d_LT_allowed_64 : decode prog_1_method_13_code 64 = .ok (.iload_n 2, 1) := by decide +kernel
theorem d_LT_allowed_65 : decode prog_1_method_13_code 65 = .ok (.iload 8, 2) := by decide +kernel
theorem d_LT_allowed_67 : decode prog_1_method_13_code 67 = .ok (.i2l, 1) := by decide +kernel
theorem d_LT_allowed_68 : decode prog_1_method_13_code 68 = .ok (.iconst 1, 1) := by decide +kernel
theorem d_LT_allowed_69 : decode prog_1_method_13_code 69 = .ok (.invokevirtual 105, 3) := by decide +kernel
theorem d_LT_allowed_72 : decode prog_1_method_13_code 72 = .ok (.aload_n 0, 1) := by decide +kernel
theorem d_LT_allowed_73 : decode prog_1_method_13_code 73 = .ok (.iload_n 1, 1) := by decide +kernel
theorem d_LT_allowed_74 : decode prog_1_method_13_code 74 = .ok (.aload_n 0, 1) := by decide +kernel
theorem d_LT_allowed_75 : decode prog_1_method_13_code 75 = .ok (.getfield 56, 3) := by decide +kernel
theorem d_LT_allowed_78 : decode prog_1_method_13_code 78 = .ok (.invokevirtual 112, 3) := by decide +kernel
theorem d_LT_allowed_81 : decode prog_1_method_13_code 81 = .ok (.ifCond .ne 7, 3) := by decide +kernel
theorem d_LT_allowed_84 : decode prog_1_method_13_code 84 = .ok (.iload 8, 2) := by decide +kernel
theorem d_LT_allowed_86 : decode prog_1_method_13_code 86 = .ok (.istore 7, 2) := by decide +kernel
theorem d_LT_allowed_0 : decode prog_1_method_13_code 0 = .ok (.aload_n 0, 1) := by decide +kernel
theorem d_LT_allowed_1 : decode prog_1_method_13_code 1 = .ok (.getfield 36, 3) := by decide +kernel
theorem d_LT_allowed_4 : decode prog_1_method_13_code 4 = .ok (.iload_n 2, 1) := by decide +kernel
theorem d_LT_allowed_5 : decode prog_1_method_13_code 5 = .ok (.invokevirtual 102, 3) := by decide +kernel
theorem d_LT_allowed_8 : decode prog_1_method_13_code 8 = .ok (.ifCond .eq 13, 3) := by decide +kernel
theorem d_LT_allowed_21 : decode prog_1_method_13_code 21 = .ok (.iconst (-1), 1) := by decide +kernel
theorem d_LT_allowed_22 : decode prog_1_method_13_code 22 = .ok (.ireturn, 1) := by decide +kernel
theorem d_LT_allowed_11 : decode prog_1_method_13_code 11 = .ok (.iload_n 3, 1) := by decide +kernel
theorem d_LT_allowed_12 : decode prog_1_method_13_code 12 = .ok (.ifCond .lt 9, 3) := by decide +kernel
theorem d_LT_allowed_15 : decode prog_1_method_13_code 15 = .ok (.iload_n 3, 1) := by decide +kernel
theorem d_LT_allowed_16 : decode prog_1_method_13_code 16 = .ok (.bipush 20, 2) := by decide +kernel
theorem d_LT_allowed_18 : decode prog_1_method_13_code 18 = .ok (.if_icmp .le 5, 3) := by decide +kernel
theorem d_LT_allowed_23 : decode prog_1_method_13_code 23 = .ok (.aload_n 0, 1) := by decide +kernel
theorem d_LT_allowed_24 : decode prog_1_method_13_code 24 = .ok (.getfield 36, 3) := by decide +kernel
theorem d_LT_allowed_27 : decode prog_1_method_13_code 27 = .ok (.iload_n 2, 1) := by decide +kernel
theorem d_LT_allowed_28 : decode prog_1_method_13_code 28 = .ok (.invokevirtual 154, 3) := by decide +kernel
theorem d_LT_allowed_31 : decode prog_1_method_13_code 31 = .ok (.istore 4, 2) := by decide +kernel
theorem d_LT_allowed_33 : decode prog_1_method_13_code 33 = .ok (.aload_n 0, 1) := by decide +kernel
theorem d_LT_allowed_34 : decode prog_1_method_13_code 34 = .ok (.getfield 36, 3) := by decide +kernel
theorem d_LT_allowed_37 : decode prog_1_method_13_code 37 = .ok (.iload_n 2, 1) := by decide +kernel
theorem d_LT_allowed_38 : decode prog_1_method_13_code 38 = .ok (.invokevirtual 157, 3) := by decide +kernel
theorem d_LT_allowed_41 : decode prog_1_method_13_code 41 = .ok (.lstore 5, 2) := by decide +kernel
theorem d_LT_allowed_43 : decode prog_1_method_13_code 43 = .ok (.iconst (-1), 1) := by decide +kernel
theorem d_LT_allowed_44 : decode prog_1_method_13_code 44 = .ok (.istore 7, 2) := by decide +kernel
theorem d_LT_allowed_46 : decode prog_1_method_13_code 46 = .ok (.iload_n 3, 1) := by decide +kernel
theorem d_LT_allowed_47 : decode prog_1_method_13_code 47 = .ok (.istore 8, 2) := by decide +kernel
theorem d_LT_write_0 : decode prog_1_method_14_code 0 = .ok (.aload_n 0, 1) := by decide +kernel
theorem d_LT_write_1 : decode prog_1_method_14_code 1 = .ok (.iload_n 1, 1) := by decide +kernel
theorem d_LT_write_2 : decode prog_1_method_14_code 2 = .ok (.invokevirtual 133, 3) := by decide +kernel
theorem d_LT_write_5 : decode prog_1_method_14_code 5 = .ok (.astore_n 3, 1) := by decide +kernel
theorem d_LT_write_6 : decode prog_1_method_14_code 6 = .ok (.aload_n 3, 1) := by decide +kernel
theorem d_LT_write_7 : decode prog_1_method_14_code 7 = .ok (.ifnonnull 5, 3) := by decide +kernel
theorem d_LT_write_10 : decode prog_1_method_14_code 10 = .ok (.iconst (-1), 1) := by decide +kernel
theorem d_LT_write_11 : decode prog_1_method_14_code 11 = .ok (.ireturn, 1) := by decide +kernel
theorem d_LT_write_12 : decode prog_1_method_14_code 12 = .ok (.aload_n 3, 1) := by decide +kernel
theorem d_LT_write_13 : decode prog_1_method_14_code 13 = .ok (.iload_n 2, 1) := by decide +kernel
theorem d_LT_write_14 : decode prog_1_method_14_code 14 = .ok (.invokevirtual 161, 3) := by decide +kernel
theorem d_LT_write_17 : decode prog_1_method_14_code 17 = .ok (.astore 4, 2) := by decide +kernel
theorem d_LT_write_19 : decode prog_1_method_14_code 19 = .ok (.aload 4, 2) := by decide +kernel
theorem d_LT_write_21 : decode prog_1_method_14_code 21 = .ok (.ifnonnull 5, 3) := by decide +kernel
theorem d_LT_write_24 : decode prog_1_method_14_code 24 = .ok (.iconst (-1), 1) := by decide +kernel
theorem d_LT_write_25 : decode prog_1_method_14_code 25 = .ok (.ireturn, 1) := by decide +kernel
theorem d_LT_write_26 : decode prog_1_method_14_code 26 = .ok (.aload_n 0, 1) := by decide +kernel
theorem d_LT_write_27 : decode prog_1_method_14_code 27 = .ok (.getfield 62, 3) := by decide +kernel
theorem d_LT_write_30 : decode prog_1_method_14_code 30 = .ok (.invokevirtual 165, 3) := by decide +kernel
theorem d_LT_write_33 : decode prog_1_method_14_code 33 = .ok (.aload_n 3, 1) := by decide +kernel
theorem d_LT_write_34 : decode prog_1_method_14_code 34 = .ok (.getfield 73, 3) := by decide +kernel
theorem d_LT_write_37 : decode prog_1_method_14_code 37 = .ok (.aload_n 0, 1) := by decide +kernel
theorem d_LT_write_38 : decode prog_1_method_14_code 38 = .ok (.getfield 62, 3) := by decide +kernel
theorem d_LT_write_41 : decode prog_1_method_14_code 41 = .ok (.aload 4, 2) := by decide +kernel
theorem d_LT_write_43 : decode prog_1_method_14_code 43 = .ok (.getfield 166, 3) := by decide +kernel
theorem d_LT_write_46 : decode prog_1_method_14_code 46 = .ok (.aload 4, 2) := by decide +kernel
theorem d_LT_write_48 : decode prog_1_method_14_code 48 = .ok (.getfield 171, 3) := by decide +kernel
theorem d_LT_write_51 : decode prog_1_method_14_code 51 = .ok (.invokevirtual 174, 3) := by decide +kernel
theorem d_LT_write_54 : decode prog_1_method_14_code 54 = .ok (.aload_n 0, 1) := by decide +kernel
theorem d_LT_write_55 : decode prog_1_method_14_code 55 = .ok (.getfield 62, 3) := by decide +kernel
theorem d_LT_write_58 : decode prog_1_method_14_code 58 = .ok (.getfield 178, 3) := by decide +kernel
theorem d_LT_write_61 : decode prog_1_method_14_code 61 = .ok (.ireturn, 1) := by decide +kernel
theorem d_LT_written_0 : decode prog_1_method_15_code 0 = .ok (.aload_n 0, 1) := by decide +kernel
theorem d_LT_written_1 : decode prog_1_method_15_code 1 = .ok (.getfield 62, 3) := by decide +kernel
theorem d_LT_written_4 : decode prog_1_method_15_code 4 = .ok (.iload_n 1, 1) := by decide +kernel
theorem d_LT_written_5 : decode prog_1_method_15_code 5 = .ok (.invokevirtual 181, 3) := by decide +kernel
theorem d_LT_written_8 : decode prog_1_method_15_code 8 = .ok (.ireturn, 1) := by decide +kernel
theorem d_LT_haul_0 : decode prog_1_method_16_code 0 = .ok (.aload_n 0, 1) := by decide +kernel
theorem d_LT_haul_1 : decode prog_1_method_16_code 1 = .ok (.getfield 69, 3) := by decide +kernel
theorem d_LT_haul_4 : decode prog_1_method_16_code 4 = .ok (.iload_n 1, 1) := by decide +kernel
theorem d_LT_haul_5 : decode prog_1_method_16_code 5 = .ok (.iload_n 2, 1) := by decide +kernel
theorem d_LT_haul_6 : decode prog_1_method_16_code 6 = .ok (.lload_n 3, 1) := by decide +kernel
theorem d_LT_haul_7 : decode prog_1_method_16_code 7 = .ok (.invokevirtual 184, 3) := by decide +kernel
theorem d_LT_haul_10 : decode prog_1_method_16_code 10 = .ok (.ireturn, 1) := by decide +kernel
theorem d_LT_byCatch_0 : decode prog_1_method_17_code 0 = .ok (.aload_n 0, 1) := by decide +kernel
theorem d_LT_byCatch_1 : decode prog_1_method_17_code 1 = .ok (.getfield 69, 3) := by decide +kernel
theorem d_LT_byCatch_4 : decode prog_1_method_17_code 4 = .ok (.iload_n 1, 1) := by decide +kernel
theorem d_LT_byCatch_5 : decode prog_1_method_17_code 5 = .ok (.iload_n 2, 1) := by decide +kernel
theorem d_LT_byCatch_6 : decode prog_1_method_17_code 6 = .ok (.iload_n 3, 1) := by decide +kernel
theorem d_LT_byCatch_7 : decode prog_1_method_17_code 7 = .ok (.invokevirtual 188, 3) := by decide +kernel
theorem d_LT_byCatch_10 : decode prog_1_method_17_code 10 = .ok (.lreturn, 1) := by decide +kernel
def M_LT_init (F : Nat) (h : hH) (x0 : Nat) : Option hH :=
  (some (hAdd h (.inr (.object "LicenceTexts$Edition", 6, .inr (.inr (.inr (.inr (fun _ => none)))))))).bind fun h1 =>
  (hPut h1 x0 11 0 (.ref h.1)).bind fun h2 =>
  (hPut h2 x0 11 1 (.int 0)).bind fun h3 =>
  (some (hAdd h3 (.inl (1, [.null, .null, .null, .null, .int 0, .int 0])))).bind fun h4 =>
  (M_Edition_init F h4 h3.1).bind fun h5 =>
  (hPut h5 x0 11 2 (.ref h3.1)).bind fun h6 =>
  (some (hAdd h6 (.inl (9, [.null, .null, .null, .null, .int 0, .int 0, .int 0, .int 0])))).bind fun h7 =>
  (hGetA h7 x0 11 2).bind fun v8 =>
  (M_TextReader_init F h7 h6.1 v8).bind fun h9 =>
  (hPut h9 x0 11 3 (.ref h6.1)).bind fun h10 =>
  (some (hAdd h10 (.inl (2, [.null, .null])))).bind fun h11 =>
  (M_Facts_init F h11 h10.1).bind fun h12 =>
  (hPut h12 x0 11 4 (.ref h10.1)).bind fun h13 =>
  (some (hAdd h13 (.inl (5, [.null, .null, .int 0, .int 0, .int 0])))).bind fun h14 =>
  (hGetA h14 x0 11 4).bind fun v15 =>
  (M_Reckoner_init F h14 h13.1 v15).bind fun h16 =>
  (hPut h16 x0 11 5 (.ref h13.1)).bind fun h17 =>
  (some (hAdd h17 (.inl (3, [.null, .null, .null, .null, .int 0])))).bind fun h18 =>
  (M_Findings_init F h18 h17.1).bind fun h19 =>
  (hPut h19 x0 11 6 (.ref h17.1)).bind fun h20 =>
  (some (hAdd h20 (.inl (3, [.null, .null, .null, .null, .int 0])))).bind fun h21 =>
  (M_Findings_init F h21 h20.1).bind fun h22 =>
  (hPut h22 x0 11 7 (.ref h20.1)).bind fun h23 =>
  (some (hAdd h23 (.inl (0, [.null, .int 0])))).bind fun h24 =>
  (M_Bytes_init F h24 h23.1).bind fun h25 =>
  (hPut h25 x0 11 8 (.ref h23.1)).bind fun h26 =>
  (some (hAdd h26 (.inl (4, [.null])))).bind fun h27 =>
  (M_Hauls_init F h27 h26.1).bind fun h28 =>
  (hPut h28 x0 11 9 (.ref h26.1)).bind fun h29 =>
  some h29
def M_LT_unit (F : Nat) (h : hH) (x0 : Nat) (x1 : Int32) : Option (Int32 × hH) :=
  (hGetA h x0 11 2).bind fun v1 =>
  (hGetA h v1 1 0).bind fun v2 =>
  (hIs h v2 10).bind fun u3 =>
  (M_Words_append F h v2 x1).bind fun q4 =>
  (hZ q4.1).bind fun u5 =>
  some (q4.1, q4.2)
def M_LT_mayBegin (F : Nat) (h : hH) (x0 : Nat) (x1 : Int32) : Option (Int32 × hH) :=
  if x1 < 0 then (
    some (0, h)
  ) else (
    if 100000 < x1 then (
      some (0, h)
    ) else (
      (hGetI h x0 11 1).bind fun v3 =>
      (hGetA h x0 11 0).bind fun v4 =>
      (hLen h v4).bind fun v5 =>
      if v3 < v5 then (
        (hGetI h x0 11 1).bind fun v7 =>
        if 0 < v7 then (
          (hGetA h x0 11 0).bind fun v9 =>
          (hGetI h x0 11 1).bind fun v10 =>
          (hLdO h v9 "LicenceTexts$Edition" (v10 - 1)).bind fun v11 =>
          hCase v11 (
            some (1, h)
          ) (fun a13 =>
            (hGetI h a13 1 5).bind fun v14 =>
            if x1 ≤ v14 then (
              some (0, h)
            ) else (
              some (1, h)
            )
          )
        ) else (
          some (1, h)
        )
      ) else (
        some (0, h)
      )
    )
  )
def M_LT_keep (F : Nat) (h : hH) (x0 : Nat) (x1 : Nat) : Option hH :=
  (hGetI h x0 11 1).bind fun v1 =>
  if v1 < 0 then (
    some h
  ) else (
    (hGetI h x0 11 1).bind fun v3 =>
    (hGetA h x0 11 0).bind fun v4 =>
    (hLen h v4).bind fun v5 =>
    if v5 ≤ v3 then (
      some h
    ) else (
      (hGetA h x0 11 0).bind fun v7 =>
      (hGetI h x0 11 1).bind fun v8 =>
      (hStA h v7 "LicenceTexts$Edition" v8 x1 1).bind fun h9 =>
      (hGetI h9 x0 11 1).bind fun v10 =>
      (hPut h9 x0 11 1 (.int (v10 + 1))).bind fun h11 =>
      some h11
    )
  )
def M_LT_read (F : Nat) (h : hH) (x0 : Nat) (x1 : Int32) : Option (Int32 × hH) :=
  (hIs h x0 11).bind fun u1 =>
  (M_LT_mayBegin F h x0 x1).bind fun q2 =>
  if q2.1 = 0 then (
    some ((-1000), q2.2)
  ) else (
    (hGetA q2.2 x0 11 3).bind fun v4 =>
    (hGetA q2.2 x0 11 2).bind fun v5 =>
    (hIs q2.2 v4 9).bind fun u6 =>
    (M_TextReader_firstWrong F q2.2 v4 v5).bind fun q7 =>
    if q7.1 = (-1) then (
      (hGetA q7.2 x0 11 2).bind fun v9 =>
      (hPut q7.2 v9 1 5 (.int x1)).bind fun h10 =>
      (hIs h10 x0 11).bind fun u11 =>
      (M_LT_keep F h10 x0 v9).bind fun h12 =>
      (some (hAdd h12 (.inl (1, [.null, .null, .null, .null, .int 0, .int 0])))).bind fun h13 =>
      (M_Edition_init F h13 h12.1).bind fun h14 =>
      (hPut h14 x0 11 2 (.ref h12.1)).bind fun h15 =>
      (hGetI h15 v9 1 4).bind fun v16 =>
      some (v16, h15)
    ) else (
      (hGetA q7.2 x0 11 2).bind fun v17 =>
      (hIs q7.2 v17 1).bind fun u18 =>
      (M_Edition_clear F q7.2 v17).bind fun h19 =>
      some (((-1) - q7.1), h19)
    )
  )
def M_LT_editions (F : Nat) (h : hH) (x0 : Nat) : Option (Int32 × hH) :=
  (hGetI h x0 11 1).bind fun v1 =>
  some (v1, h)
def M_LT_fact (F : Nat) (h : hH) (x0 : Nat) (x1 : Int32) (x2 : Int64) : Option (Int32 × hH) :=
  (hGetA h x0 11 4).bind fun v1 =>
  (hIs h v1 2).bind fun u2 =>
  (M_Facts_has F h v1 x1).bind fun q3 =>
  if q3.1 = 0 then (
    some (0, q3.2)
  ) else (
    (hGetA q3.2 x0 11 4).bind fun v5 =>
    (hIs q3.2 v5 2).bind fun u6 =>
    (M_Facts_put F q3.2 v5 x1 x2 1).bind fun h7 =>
    some (1, h7)
  )
def M_LT_clearFacts (F : Nat) (h : hH) (x0 : Nat) : Option (Int32 × hH) :=
  (hGetA h x0 11 4).bind fun v1 =>
  (hIs h v1 2).bind fun u2 =>
  (M_Facts_clear F h v1).bind fun q3 =>
  some (q3.1, q3.2)
def M_LT_editionOn_33 (F : Nat) (r8 : hH → Nat → Int32 → Int32 → Option (Option Nat × hH)) (h : hH) (x0 : Nat) (x1 : Int32) (x2 : Int32) : Option (Option Nat × hH) :=
  r8 h x0 x1 (x2 + (-1))
def B_LT_editionOn_8 (F : Nat) (r8 : hH → Nat → Int32 → Int32 → Option (Option Nat × hH)) (h : hH) (x0 : Nat) (x1 : Int32) (x2 : Int32) : Option (Option Nat × hH) :=
  if x2 < 0 then (
    some (none, h)
  ) else (
    (hGetA h x0 11 0).bind fun v2 =>
    (hLdO h v2 "LicenceTexts$Edition" x2).bind fun v3 =>
    hCase v3 (
      M_LT_editionOn_33 F r8 h x0 x1 x2
    ) (fun a5 =>
      (hGetI h a5 1 5).bind fun v6 =>
      if x1 < v6 then (
        M_LT_editionOn_33 F r8 h x0 x1 x2
      ) else (
        some (v3, h)
      )
    )
  )
def M_LT_editionOn_8 (F : Nat) : Nat → hH → Nat → Int32 → Int32 → Option (Option Nat × hH)
  | 0 => fun _ _ _ _ => none
  | z + 1 => B_LT_editionOn_8 F (M_LT_editionOn_8 F z)
def M_LT_editionOn (F : Nat) (h : hH) (x0 : Nat) (x1 : Int32) : Option (Option Nat × hH) :=
  (hGetA h x0 11 0).bind fun v1 =>
  (hLen h v1).bind fun v2 =>
  M_LT_editionOn_8 F F h x0 x1 (v2 - 1)
def M_LT_look_81 (F : Nat) (r22 : hH → Nat → Nat → Option Nat → Int32 → Option (Int32 × hH)) (h : hH) (x0 : Nat) (x2 : Nat) (x3 : Option Nat) (x4 : Int32) : Option (Int32 × hH) :=
  r22 h x0 x2 x3 (x4 + 1)
def B_LT_look_22 (F : Nat) (r22 : hH → Nat → Nat → Option Nat → Int32 → Option (Int32 × hH)) (h : hH) (x0 : Nat) (x2 : Nat) (x3 : Option Nat) (x4 : Int32) : Option (Int32 × hH) :=
  (x3).bind fun a1 =>
  (hGetI h a1 1 4).bind fun v2 =>
  if v2 ≤ x4 then (
    (hIs h x2 3).bind fun u4 =>
    (M_Findings_answer F h x2).bind fun q5 =>
    some (q5.1, q5.2)
  ) else (
    (hIs h a1 1).bind fun u6 =>
    (M_Edition_ruleAt F h a1 x4).bind fun q7 =>
    hCase q7.1 (
      M_LT_look_81 F r22 q7.2 x0 x2 x3 x4
    ) (fun a9 =>
      (hGetA q7.2 x0 11 5).bind fun v10 =>
      (hIs q7.2 v10 5).bind fun u11 =>
      (M_Reckoner_judge F q7.2 v10 a1 a9).bind fun q12 =>
      (hGetA q12.2 x0 11 5).bind fun v13 =>
      (hGetI q12.2 v13 5 3).bind fun v14 =>
      (hGetA q12.2 x0 11 5).bind fun v15 =>
      (hGetI q12.2 v15 5 4).bind fun v16 =>
      (hGetI q12.2 a9 6 0).bind fun v17 =>
      (hIs q12.2 x2 3).bind fun u18 =>
      (M_Findings_add F q12.2 x2 q12.1 v14 v16 v17).bind fun h19 =>
      M_LT_look_81 F r22 h19 x0 x2 x3 x4
    )
  )
def M_LT_look_22 (F : Nat) : Nat → hH → Nat → Nat → Option Nat → Int32 → Option (Int32 × hH)
  | 0 => fun _ _ _ _ _ => none
  | z + 1 => B_LT_look_22 F (M_LT_look_22 F z)
def M_LT_look (F : Nat) (h : hH) (x0 : Nat) (x1 : Int32) (x2 : Nat) : Option (Int32 × hH) :=
  (hIs h x2 3).bind fun u1 =>
  (M_Findings_clear F h x2).bind fun h2 =>
  (hIs h2 x0 11).bind fun u3 =>
  (M_LT_editionOn F h2 x0 x1).bind fun q4 =>
  hCase q4.1 (
    (hIs q4.2 x2 3).bind fun u7 =>
    (M_Findings_answer F q4.2 x2).bind fun q8 =>
    some (q8.1, q8.2)
  ) (fun a6 =>
    M_LT_look_22 F F q4.2 x0 x2 q4.1 0
  )
def M_LT_run (F : Nat) (h : hH) (x0 : Nat) (x1 : Int32) : Option (Int32 × hH) :=
  (hGetA h x0 11 6).bind fun v1 =>
  (hIs h x0 11).bind fun u2 =>
  (M_LT_look F h x0 x1 v1).bind fun q3 =>
  some (q3.1, q3.2)
def M_LT_walk (F : Nat) (h : hH) (x0 : Nat) (x1 : Int32) : Option (Int32 × hH) :=
  (hGetA h x0 11 7).bind fun v1 =>
  (hIs h x0 11).bind fun u2 =>
  (M_LT_look F h x0 x1 v1).bind fun q3 =>
  some (q3.1, q3.2)
def M_LT_broken (F : Nat) (h : hH) (x0 : Nat) (x1 : Int32) (x2 : Int32) : Option (Int32 × hH) :=
  (hGetA h x0 11 6).bind fun v1 =>
  (hIs h v1 3).bind fun u2 =>
  (M_Findings_rankedAs F h v1 1 x1).bind fun q3 =>
  if x2 = 0 then (
    some (q3.1, q3.2)
  ) else
  if x2 = 1 then (
    (hGetA q3.2 x0 11 6).bind fun v6 =>
    (hIs q3.2 v6 3).bind fun u7 =>
    (M_Findings_firstWordOf F q3.2 v6 q3.1).bind fun q8 =>
    some (q8.1, q8.2)
  ) else
  some ((-1), q3.2)
def M_LT_open (F : Nat) (h : hH) (x0 : Nat) (x1 : Int32) (x2 : Int32) : Option (Int32 × hH) :=
  (hGetA h x0 11 6).bind fun v1 =>
  (hIs h v1 3).bind fun u2 =>
  (M_Findings_rankedAs F h v1 2 x1).bind fun q3 =>
  if x2 = 0 then (
    some (q3.1, q3.2)
  ) else
  if x2 = 1 then (
    (hGetA q3.2 x0 11 6).bind fun v6 =>
    (hIs q3.2 v6 3).bind fun u7 =>
    (M_Findings_reasonOf F q3.2 v6 q3.1).bind fun q8 =>
    some (q8.1, q8.2)
  ) else
  if x2 = 2 then (
    (hGetA q3.2 x0 11 6).bind fun v10 =>
    (hIs q3.2 v10 3).bind fun u11 =>
    (M_Findings_untoldOf F q3.2 v10 q3.1).bind fun q12 =>
    some (q12.1, q12.2)
  ) else
  some ((-1), q3.2)
def M_LT_explain (F : Nat) (h : hH) (x0 : Nat) (x1 : Int32) : Option (Int32 × hH) :=
  (hGetA h x0 11 6).bind fun v1 =>
  (hIs h v1 3).bind fun u2 =>
  (M_Findings_outcomeOf F h v1 x1).bind fun q3 =>
  some (q3.1, q3.2)
def M_LT_allowed_94 (F : Nat) (h : hH) (x0 : Nat) (x2 : Int32) (x4 : Int32) (x5 : Int64) (x7 : Int32) : Option (Int32 × hH) :=
  (hGetA h x0 11 4).bind fun v1 =>
  (hIs h v1 2).bind fun u2 =>
  (M_Facts_put F h v1 x2 x5 x4).bind fun h3 =>
  some (x7, h3)
def M_LT_allowed_88 (F : Nat) (r49 : hH → Nat → Int32 → Int32 → Int32 → Int64 → Int32 → Int32 → Option (Int32 × hH)) (h : hH) (x0 : Nat) (x1 : Int32) (x2 : Int32) (x4 : Int32) (x5 : Int64) (x7 : Int32) (x8 : Int32) : Option (Int32 × hH) :=
  r49 h x0 x1 x2 x4 x5 x7 (x8 + (-1))
def B_LT_allowed_49 (F : Nat) (r49 : hH → Nat → Int32 → Int32 → Int32 → Int64 → Int32 → Int32 → Option (Int32 × hH)) (h : hH) (x0 : Nat) (x1 : Int32) (x2 : Int32) (x4 : Int32) (x5 : Int64) (x7 : Int32) (x8 : Int32) : Option (Int32 × hH) :=
  if x8 < 0 then (
    M_LT_allowed_94 F h x0 x2 x4 x5 x7
  ) else (
    if x7 = (-1) then (
      (hGetA h x0 11 4).bind fun v3 =>
      (hIs h v3 2).bind fun u4 =>
      (M_Facts_put F h v3 x2 x8.toInt64 1).bind fun h5 =>
      (hGetA h5 x0 11 7).bind fun v6 =>
      (hIs h5 x0 11).bind fun u7 =>
      (M_LT_look F h5 x0 x1 v6).bind fun q8 =>
      if q8.1 = 0 then (
        M_LT_allowed_88 F r49 q8.2 x0 x1 x2 x4 x5 x8 x8
      ) else (
        M_LT_allowed_88 F r49 q8.2 x0 x1 x2 x4 x5 x7 x8
      )
    ) else (
      M_LT_allowed_94 F h x0 x2 x4 x5 x7
    )
  )
def M_LT_allowed_49 (F : Nat) : Nat → hH → Nat → Int32 → Int32 → Int32 → Int64 → Int32 → Int32 → Option (Int32 × hH)
  | 0 => fun _ _ _ _ _ _ _ _ => none
  | z + 1 => B_LT_allowed_49 F (M_LT_allowed_49 F z)
def M_LT_allowed (F : Nat) (h : hH) (x0 : Nat) (x1 : Int32) (x2 : Int32) (x3 : Int32) : Option (Int32 × hH) :=
  (hGetA h x0 11 4).bind fun v1 =>
  (hIs h v1 2).bind fun u2 =>
  (M_Facts_has F h v1 x2).bind fun q3 =>
  if q3.1 = 0 then (
    some ((-1), q3.2)
  ) else (
    if x3 < 0 then (
      some ((-1), q3.2)
    ) else (
      if x3 ≤ 20 then (
        (hGetA q3.2 x0 11 4).bind fun v7 =>
        (hIs q3.2 v7 2).bind fun u8 =>
        (M_Facts_isTold F q3.2 v7 x2).bind fun q9 =>
        (hGetA q9.2 x0 11 4).bind fun v10 =>
        (hIs q9.2 v10 2).bind fun u11 =>
        (M_Facts_valueOf F q9.2 v10 x2).bind fun q12 =>
        M_LT_allowed_49 F F q12.2 x0 x1 x2 q9.1 q12.1 (-1) x3
      ) else (
        some ((-1), q3.2)
      )
    )
  )
def M_LT_write (F : Nat) (h : hH) (x0 : Nat) (x1 : Int32) (x2 : Int32) : Option (Int32 × hH) :=
  (hIs h x0 11).bind fun u1 =>
  (M_LT_editionOn F h x0 x1).bind fun q2 =>
  hCase q2.1 (
    some ((-1), q2.2)
  ) (fun a4 =>
    (hIs q2.2 a4 1).bind fun u5 =>
    (M_Edition_ruleAt F q2.2 a4 x2).bind fun q6 =>
    hCase q6.1 (
      some ((-1), q6.2)
    ) (fun a8 =>
      (hGetA q6.2 x0 11 8).bind fun v9 =>
      (hIs q6.2 v9 0).bind fun u10 =>
      (M_Bytes_clear F q6.2 v9).bind fun h11 =>
      (hGetA h11 a4 1 0).bind fun v12 =>
      (hGetA h11 x0 11 8).bind fun v13 =>
      (hGetI h11 a8 6 0).bind fun v14 =>
      (hGetI h11 a8 6 2).bind fun v15 =>
      (hIs h11 v12 10).bind fun u16 =>
      (M_Words_copyTo F h11 v12 v13 v14 v15).bind fun h17 =>
      (hGetA h17 x0 11 8).bind fun v18 =>
      (hGetI h17 v18 0 1).bind fun v19 =>
      some (v19, h17)
    )
  )
def M_LT_written (F : Nat) (h : hH) (x0 : Nat) (x1 : Int32) : Option (Int32 × hH) :=
  (hGetA h x0 11 8).bind fun v1 =>
  (hIs h v1 0).bind fun u2 =>
  (M_Bytes_byteAt F h v1 x1).bind fun q3 =>
  some (q3.1, q3.2)
def M_LT_haul (F : Nat) (h : hH) (x0 : Nat) (x1 : Int32) (x2 : Int32) (x3 : Int64) : Option (Int32 × hH) :=
  (hGetA h x0 11 9).bind fun v1 =>
  (hIs h v1 4).bind fun u2 =>
  (M_Hauls_add F h v1 x1 x2 x3).bind fun q3 =>
  (hZ q3.1).bind fun u4 =>
  some (q3.1, q3.2)
def M_LT_byCatch (F : Nat) (h : hH) (x0 : Nat) (x1 : Int32) (x2 : Int32) (x3 : Int32) : Option (Int64 × hH) :=
  (hGetA h x0 11 9).bind fun v1 =>
  (hIs h v1 4).bind fun u2 =>
  (M_Hauls_share F h v1 x1 x2 x3).bind fun q3 =>
  some (q3.1, q3.2)
abbrev rm_LT_init : Room := { frames := 4, cells := 37, slots := 4436, locals := 72 }
set_option maxHeartbeats 4000000 in
set_option maxRecDepth 100000 in
theorem c_LT_init (l : Launch) (D : va_G) (K : (Nat → Nat) × (Nat → Nat)) (F : Nat) {h : hH} {x0 : Nat} {q : hH} (hM : M_LT_init F h x0 = some q) : Met l y_LT_init (.code y_LT_init prog_1_method_1_code 1 none :: T0) rm_LT_init (hPc hG D cls0 K [.ref x0] h) (hQ D cls0 h none q) 37 4436 (hF h) := by
  refine J_met (lv := [(0, .ref x0)]) (by decide) (Nat.le_of_ble_eq_true rfl) rfl ?_
  intro p e s m below meth c X hr hlk hnm
  have Y : HX p s m _ meth c prog_1_method_1_code 1 "LicenceTexts" D K "<init>" none h := ⟨X, hr, hlk, hnm⟩
  unfold M_LT_init at hM
  refine J_aload_n (pc := 0) X 0 d_LT_init_0 rfl ?_
  refine J_objInit (pc := 1) X k_351 k_1 k_2 d_LT_init_1 (Nat.le_of_ble_eq_true rfl) (Nat.le_of_ble_eq_true rfl) ?_
  refine J_aload_n (pc := 4) X 0 d_LT_init_4 rfl ?_
  refine J_bipush (pc := 5) (v := (6)) X d_LT_init_5 (by decide) ?_
  refine J_newq (pc := 7) (C := "LicenceTexts$Edition") (N := 6) X k_352 (List.mem_of_getElem? (i := 0) rfl) d_LT_init_7 (by decide) (by decide) (by decide) (Nat.le_of_ble_eq_true rfl) (Nat.le_of_ble_eq_true rfl) ?_
  obtain ⟨h1, eh1, hM⟩ := hb_some hM
  rw [Option.some.inj eh1]
  obtain ⟨h2, eh2, hM⟩ := hb_some hM
  refine J_putF (pc := 10) X hc_LT in_LT t_LT tk_LT nk_LT 0 k_353 (by decide) rfl rfl rfl hnm d_LT_init_10 rfl rfl rfl eh2 ?_
  refine J_aload_n (pc := 13) X 0 d_LT_init_13 rfl ?_
  refine J_iconst (pc := 14) (v := (0)) X d_LT_init_14 (by decide) ?_
  obtain ⟨h3, eh3, hM⟩ := hb_some hM
  refine J_put (pc := 15) X hc_LT in_LT t_LT tk_LT nk_LT 1 k_354 (by decide) rfl rfl d_LT_init_15 rfl rfl rfl eh3 ?_
  refine J_aload_n (pc := 18) X 0 d_LT_init_18 rfl ?_
  refine J_new (pc := 19) (fs := [.null, .null, .null, .null, .int 0, .int 0]) X hc_Edition in_Edition t_Edition tk_Edition k_352 k_355 k_167 d_LT_init_19 rfl df_Edition (Nat.le_of_ble_eq_true rfl) (Nat.le_of_ble_eq_true rfl) ?_
  obtain ⟨h4, eh4, hM⟩ := hb_some hM
  rw [Option.some.inj eh4]
  refine J_dup (pc := 22) X d_LT_init_22 rfl ?_
  obtain ⟨h5, eh5, hM⟩ := hb_some hM
  refine J_callI (pc := 23) (As := []) (rest := [.ref h3.1, .ref x0]) (o := none) (h2 := h5) X rfl (c_Edition_init l D K F eh5) (cwI_of (nA := 0) X.fix k_356 k_358 k_167 k_357 ⟨rfl, rfl, rfl⟩ (by decide +kernel) ⟨Nat.le_of_ble_eq_true rfl, Nat.le_of_ble_eq_true rfl⟩) d_LT_init_23 rfl rfl (Nat.le_of_ble_eq_true rfl) (Nat.le_of_ble_eq_true rfl) (Nat.le_of_ble_eq_true rfl) ?_
  obtain ⟨h6, eh6, hM⟩ := hb_some hM
  refine J_put (pc := 26) X hc_LT in_LT t_LT tk_LT nk_LT 2 k_359 (by decide) rfl rfl d_LT_init_26 rfl rfl rfl eh6 ?_
  refine J_aload_n (pc := 29) X 0 d_LT_init_29 rfl ?_
  refine J_new (pc := 30) (fs := [.null, .null, .null, .null, .int 0, .int 0, .int 0, .int 0]) X hc_TextReader in_TextReader t_TextReader tk_TextReader k_360 k_361 k_246 d_LT_init_30 rfl df_TextReader (Nat.le_of_ble_eq_true rfl) (Nat.le_of_ble_eq_true rfl) ?_
  obtain ⟨h7, eh7, hM⟩ := hb_some hM
  rw [Option.some.inj eh7]
  refine J_dup (pc := 33) X d_LT_init_33 rfl ?_
  refine J_aload_n (pc := 34) X 0 d_LT_init_34 rfl ?_
  obtain ⟨v8, ev8, hM⟩ := hb_some hM
  refine J_getA (pc := 35) X hc_LT in_LT 2 k_359 (by decide) rfl d_LT_init_35 rfl ev8 ?_
  obtain ⟨h9, eh9, hM⟩ := hb_some hM
  refine J_callI (pc := 38) (As := [.ref v8]) (rest := [.ref h6.1, .ref x0]) (o := none) (h2 := h9) X rfl (c_TextReader_init l D K F eh9) (cwI_of (nA := 1) X.fix k_362 k_364 k_246 k_363 ⟨rfl, rfl, rfl⟩ (by decide +kernel) ⟨Nat.le_of_ble_eq_true rfl, Nat.le_of_ble_eq_true rfl⟩) d_LT_init_38 rfl rfl (Nat.le_of_ble_eq_true rfl) (Nat.le_of_ble_eq_true rfl) (Nat.le_of_ble_eq_true rfl) ?_
  obtain ⟨h10, eh10, hM⟩ := hb_some hM
  refine J_putF (pc := 41) X hc_LT in_LT t_LT tk_LT nk_LT 3 k_365 (by decide) rfl rfl rfl hnm d_LT_init_41 rfl rfl rfl eh10 ?_
  refine J_aload_n (pc := 44) X 0 d_LT_init_44 rfl ?_
  refine J_new (pc := 45) (fs := [.null, .null]) X hc_Facts in_Facts t_Facts tk_Facts k_366 k_367 k_13 d_LT_init_45 rfl df_Facts (Nat.le_of_ble_eq_true rfl) (Nat.le_of_ble_eq_true rfl) ?_
  obtain ⟨h11, eh11, hM⟩ := hb_some hM
  rw [Option.some.inj eh11]
  refine J_dup (pc := 48) X d_LT_init_48 rfl ?_
  obtain ⟨h12, eh12, hM⟩ := hb_some hM
  refine J_callI (pc := 49) (As := []) (rest := [.ref h10.1, .ref x0]) (o := none) (h2 := h12) X rfl (c_Facts_init l D K F eh12) (cwI_of (nA := 0) X.fix k_368 k_370 k_13 k_369 ⟨rfl, rfl, rfl⟩ (by decide +kernel) ⟨Nat.le_of_ble_eq_true rfl, Nat.le_of_ble_eq_true rfl⟩) d_LT_init_49 rfl rfl (Nat.le_of_ble_eq_true rfl) (Nat.le_of_ble_eq_true rfl) (Nat.le_of_ble_eq_true rfl) ?_
  obtain ⟨h13, eh13, hM⟩ := hb_some hM
  refine J_putF (pc := 52) X hc_LT in_LT t_LT tk_LT nk_LT 4 k_371 (by decide) rfl rfl rfl hnm d_LT_init_52 rfl rfl rfl eh13 ?_
  refine J_aload_n (pc := 55) X 0 d_LT_init_55 rfl ?_
  refine J_new (pc := 56) (fs := [.null, .null, .int 0, .int 0, .int 0]) X hc_Reckoner in_Reckoner t_Reckoner tk_Reckoner k_372 k_373 k_178 d_LT_init_56 rfl df_Reckoner (Nat.le_of_ble_eq_true rfl) (Nat.le_of_ble_eq_true rfl) ?_
  obtain ⟨h14, eh14, hM⟩ := hb_some hM
  rw [Option.some.inj eh14]
  refine J_dup (pc := 59) X d_LT_init_59 rfl ?_
  refine J_aload_n (pc := 60) X 0 d_LT_init_60 rfl ?_
  obtain ⟨v15, ev15, hM⟩ := hb_some hM
  refine J_getA (pc := 61) X hc_LT in_LT 4 k_371 (by decide) rfl d_LT_init_61 rfl ev15 ?_
  obtain ⟨h16, eh16, hM⟩ := hb_some hM
  refine J_callI (pc := 64) (As := [.ref v15]) (rest := [.ref h13.1, .ref x0]) (o := none) (h2 := h16) X rfl (c_Reckoner_init l D K F eh16) (cwI_of (nA := 1) X.fix k_374 k_376 k_178 k_375 ⟨rfl, rfl, rfl⟩ (by decide +kernel) ⟨Nat.le_of_ble_eq_true rfl, Nat.le_of_ble_eq_true rfl⟩) d_LT_init_64 rfl rfl (Nat.le_of_ble_eq_true rfl) (Nat.le_of_ble_eq_true rfl) (Nat.le_of_ble_eq_true rfl) ?_
  obtain ⟨h17, eh17, hM⟩ := hb_some hM
  refine J_putF (pc := 67) X hc_LT in_LT t_LT tk_LT nk_LT 5 k_377 (by decide) rfl rfl rfl hnm d_LT_init_67 rfl rfl rfl eh17 ?_
  refine J_aload_n (pc := 70) X 0 d_LT_init_70 rfl ?_
  refine J_new (pc := 71) (fs := [.null, .null, .null, .null, .int 0]) X hc_Findings in_Findings t_Findings tk_Findings k_378 k_379 k_25 d_LT_init_71 rfl df_Findings (Nat.le_of_ble_eq_true rfl) (Nat.le_of_ble_eq_true rfl) ?_
  obtain ⟨h18, eh18, hM⟩ := hb_some hM
  rw [Option.some.inj eh18]
  refine J_dup (pc := 74) X d_LT_init_74 rfl ?_
  obtain ⟨h19, eh19, hM⟩ := hb_some hM
  refine J_callI (pc := 75) (As := []) (rest := [.ref h17.1, .ref x0]) (o := none) (h2 := h19) X rfl (c_Findings_init l D K F eh19) (cwI_of (nA := 0) X.fix k_380 k_382 k_25 k_381 ⟨rfl, rfl, rfl⟩ (by decide +kernel) ⟨Nat.le_of_ble_eq_true rfl, Nat.le_of_ble_eq_true rfl⟩) d_LT_init_75 rfl rfl (Nat.le_of_ble_eq_true rfl) (Nat.le_of_ble_eq_true rfl) (Nat.le_of_ble_eq_true rfl) ?_
  obtain ⟨h20, eh20, hM⟩ := hb_some hM
  refine J_putF (pc := 78) X hc_LT in_LT t_LT tk_LT nk_LT 6 k_383 (by decide) rfl rfl rfl hnm d_LT_init_78 rfl rfl rfl eh20 ?_
  refine J_aload_n (pc := 81) X 0 d_LT_init_81 rfl ?_
  refine J_new (pc := 82) (fs := [.null, .null, .null, .null, .int 0]) X hc_Findings in_Findings t_Findings tk_Findings k_378 k_379 k_25 d_LT_init_82 rfl df_Findings (Nat.le_of_ble_eq_true rfl) (Nat.le_of_ble_eq_true rfl) ?_
  obtain ⟨h21, eh21, hM⟩ := hb_some hM
  rw [Option.some.inj eh21]
  refine J_dup (pc := 85) X d_LT_init_85 rfl ?_
  obtain ⟨h22, eh22, hM⟩ := hb_some hM
  refine J_callI (pc := 86) (As := []) (rest := [.ref h20.1, .ref x0]) (o := none) (h2 := h22) X rfl (c_Findings_init l D K F eh22) (cwI_of (nA := 0) X.fix k_380 k_382 k_25 k_381 ⟨rfl, rfl, rfl⟩ (by decide +kernel) ⟨Nat.le_of_ble_eq_true rfl, Nat.le_of_ble_eq_true rfl⟩) d_LT_init_86 rfl rfl (Nat.le_of_ble_eq_true rfl) (Nat.le_of_ble_eq_true rfl) (Nat.le_of_ble_eq_true rfl) ?_
  obtain ⟨h23, eh23, hM⟩ := hb_some hM
  refine J_putF (pc := 89) X hc_LT in_LT t_LT tk_LT nk_LT 7 k_384 (by decide) rfl rfl rfl hnm d_LT_init_89 rfl rfl rfl eh23 ?_
  refine J_aload_n (pc := 92) X 0 d_LT_init_92 rfl ?_
  refine J_new (pc := 93) (fs := [.null, .int 0]) X hc_Bytes in_Bytes t_Bytes tk_Bytes k_385 k_76 k_77 d_LT_init_93 rfl df_Bytes (Nat.le_of_ble_eq_true rfl) (Nat.le_of_ble_eq_true rfl) ?_
  obtain ⟨h24, eh24, hM⟩ := hb_some hM
  rw [Option.some.inj eh24]
  refine J_dup (pc := 96) X d_LT_init_96 rfl ?_
  obtain ⟨h25, eh25, hM⟩ := hb_some hM
  refine J_callI (pc := 97) (As := []) (rest := [.ref h23.1, .ref x0]) (o := none) (h2 := h25) X rfl (c_Bytes_init l D K F eh25) (cwI_of (nA := 0) X.fix k_386 k_80 k_77 k_79 ⟨rfl, rfl, rfl⟩ (by decide +kernel) ⟨Nat.le_of_ble_eq_true rfl, Nat.le_of_ble_eq_true rfl⟩) d_LT_init_97 rfl rfl (Nat.le_of_ble_eq_true rfl) (Nat.le_of_ble_eq_true rfl) (Nat.le_of_ble_eq_true rfl) ?_
  obtain ⟨h26, eh26, hM⟩ := hb_some hM
  refine J_putF (pc := 100) X hc_LT in_LT t_LT tk_LT nk_LT 8 k_387 (by decide) rfl rfl rfl hnm d_LT_init_100 rfl rfl rfl eh26 ?_
  refine J_aload_n (pc := 103) X 0 d_LT_init_103 rfl ?_
  refine J_new (pc := 104) (fs := [.null]) X hc_Hauls in_Hauls t_Hauls tk_Hauls k_388 k_389 k_40 d_LT_init_104 rfl df_Hauls (Nat.le_of_ble_eq_true rfl) (Nat.le_of_ble_eq_true rfl) ?_
  obtain ⟨h27, eh27, hM⟩ := hb_some hM
  rw [Option.some.inj eh27]
  refine J_dup (pc := 107) X d_LT_init_107 rfl ?_
  obtain ⟨h28, eh28, hM⟩ := hb_some hM
  refine J_callI (pc := 108) (As := []) (rest := [.ref h26.1, .ref x0]) (o := none) (h2 := h28) X rfl (c_Hauls_init l D K F eh28) (cwI_of (nA := 0) X.fix k_390 k_392 k_40 k_391 ⟨rfl, rfl, rfl⟩ (by decide +kernel) ⟨Nat.le_of_ble_eq_true rfl, Nat.le_of_ble_eq_true rfl⟩) d_LT_init_108 rfl rfl (Nat.le_of_ble_eq_true rfl) (Nat.le_of_ble_eq_true rfl) (Nat.le_of_ble_eq_true rfl) ?_
  obtain ⟨h29, eh29, hM⟩ := hb_some hM
  refine J_putF (pc := 111) X hc_LT in_LT t_LT tk_LT nk_LT 9 k_393 (by decide) rfl rfl rfl hnm d_LT_init_111 rfl rfl rfl eh29 ?_
  obtain rfl := Option.some.inj hM
  exact J_vret (pc := 114) X hr hlk (Nat.le_of_ble_eq_true rfl) (Nat.le_of_ble_eq_true rfl) d_LT_init_114
abbrev rm_LT_unit : Room := { frames := 2, cells := 0, slots := 0, locals := 46 }
set_option maxHeartbeats 4000000 in
set_option maxRecDepth 100000 in
theorem c_LT_unit (l : Launch) (D : va_G) (K : (Nat → Nat) × (Nat → Nat)) (F : Nat) {h : hH} {x0 : Nat} {x1 : Int32} {q : (Int32 × hH)} (hM : M_LT_unit F h x0 x1 = some q) : Met l y_LT_unit (.code y_LT_unit prog_1_method_2_code 2 (some .boolean) :: T0) rm_LT_unit (hPc hG D cls0 K [.ref x0, .int x1] h) (hQ D cls0 h (some (.int q.1)) q.2) 0 0 (hF h) := by
  refine J_met (lv := [(0, .ref x0), (1, .int x1)]) (by decide) (Nat.le_of_ble_eq_true rfl) rfl ?_
  intro p e s m below meth c X hr hlk hnm
  have Y : HX p s m _ meth c prog_1_method_2_code 2 "LicenceTexts" D K "unit" (some .boolean) h := ⟨X, hr, hlk, hnm⟩
  unfold M_LT_unit at hM
  refine J_aload_n (pc := 0) X 0 d_LT_unit_0 rfl ?_
  obtain ⟨v1, ev1, hM⟩ := hb_some hM
  refine J_getA (pc := 1) X hc_LT in_LT 2 k_359 (by decide) rfl d_LT_unit_1 rfl ev1 ?_
  obtain ⟨v2, ev2, hM⟩ := hb_some hM
  refine J_getAN (pc := 4) X hc_Edition in_Edition 0 (nw_7) (by decide) rfl d_LT_unit_4 rfl ev2 ?_
  refine J_iload_n (pc := 7) X 1 d_LT_unit_7 rfl ?_
  obtain ⟨u3, eu3, hM⟩ := hb_some hM
  obtain ⟨q4, eq4, hM⟩ := hb_some hM
  refine J_callV (pc := 8) (As := [.int x1]) (rest := []) (o := (some (.int q4.1))) (h2 := q4.2) X rfl hc_Words eu3 (c_Words_append l D K F eq4) (cwV_of (nA := 1) X.fix k_394 k_396 k_397 k_88 k_395 ⟨rfl, rfl, rfl⟩ (by decide +kernel) ⟨Nat.le_of_ble_eq_true rfl, Nat.le_of_ble_eq_true rfl⟩) d_LT_unit_8 rfl rfl (Nat.le_of_ble_eq_true rfl) (Nat.le_of_ble_eq_true rfl) (Nat.le_of_ble_eq_true rfl) ?_
  obtain ⟨u5, eu5, hM⟩ := hb_some hM
  obtain rfl := Option.some.inj hM
  exact J_zret (pc := 11) X hr (hZ_of eu5) hlk (Nat.le_of_ble_eq_true rfl) (Nat.le_of_ble_eq_true rfl) d_LT_unit_11
abbrev rm_LT_mayBegin : Room := { frames := 0, cells := 0, slots := 0, locals := 0 }
set_option maxHeartbeats 4000000 in
set_option maxRecDepth 100000 in
theorem c_LT_mayBegin (l : Launch) (D : va_G) (K : (Nat → Nat) × (Nat → Nat)) (F : Nat) {h : hH} {x0 : Nat} {x1 : Int32} {q : (Int32 × hH)} (hM : M_LT_mayBegin F h x0 x1 = some q) : Met l y_LT_mayBegin (.code y_LT_mayBegin prog_1_method_18_code 3 (some .boolean) :: T0) rm_LT_mayBegin (hPc hG D cls0 K [.ref x0, .int x1] h) (hQ D cls0 h (some (.int q.1)) q.2) 0 0 (hF h) := by
  refine J_met (lv := [(0, .ref x0), (1, .int x1)]) (by decide) (Nat.le_of_ble_eq_true rfl) rfl ?_
  intro p e s m below meth c X hr hlk hnm
  have Y : HX p s m _ meth c prog_1_method_18_code 3 "LicenceTexts" D K "mayBegin" (some .boolean) h := ⟨X, hr, hlk, hnm⟩
  unfold M_LT_mayBegin at hM
  refine J_iload_n (pc := 0) X 1 d_LT_mayBegin_0 rfl ?_
  refine J_if_lt (pc := 1) (tgt := 22) X d_LT_mayBegin_1 (by decide) (fun c1 => ?_) (fun c1 => ?_)
  · have hM := hif_t hM c1
    refine J_iconst (pc := 22) (v := (0)) X d_LT_mayBegin_22 (by decide) ?_
    obtain rfl := Option.some.inj hM
    exact J_zret (pc := 23) X hr hz0 hlk (Nat.le_of_ble_eq_true rfl) (Nat.le_of_ble_eq_true rfl) d_LT_mayBegin_23
  · have hM := hif_f hM c1
    refine J_iload_n (pc := 4) X 1 d_LT_mayBegin_4 rfl ?_
    refine J_ldc (pc := 5) X k_398 d_LT_mayBegin_5 ?_
    refine J_icmp_gt (pc := 7) (tgt := 22) X d_LT_mayBegin_7 (by decide) (fun c2 => ?_) (fun c2 => ?_)
    · have hM := hif_t hM c2
      refine J_iconst (pc := 22) (v := (0)) X d_LT_mayBegin_22 (by decide) ?_
      obtain rfl := Option.some.inj hM
      exact J_zret (pc := 23) X hr hz0 hlk (Nat.le_of_ble_eq_true rfl) (Nat.le_of_ble_eq_true rfl) d_LT_mayBegin_23
    · have hM := hif_f hM c2
      refine J_aload_n (pc := 10) X 0 d_LT_mayBegin_10 rfl ?_
      obtain ⟨v3, ev3, hM⟩ := hb_some hM
      refine J_getI (pc := 11) X hc_LT in_LT 1 k_354 (by decide) rfl d_LT_mayBegin_11 rfl ev3 ?_
      refine J_aload_n (pc := 14) X 0 d_LT_mayBegin_14 rfl ?_
      obtain ⟨v4, ev4, hM⟩ := hb_some hM
      refine J_getA (pc := 15) X hc_LT in_LT 0 k_353 (by decide) rfl d_LT_mayBegin_15 rfl ev4 ?_
      obtain ⟨v5, ev5, hM⟩ := hb_some hM
      refine J_alen (pc := 18) X d_LT_mayBegin_18 rfl ev5 ?_
      refine J_icmp_lt (pc := 19) (tgt := 24) X d_LT_mayBegin_19 (by decide) (fun c6 => ?_) (fun c6 => ?_)
      · have hM := hif_t hM c6
        refine J_aload_n (pc := 24) X 0 d_LT_mayBegin_24 rfl ?_
        obtain ⟨v7, ev7, hM⟩ := hb_some hM
        refine J_getI (pc := 25) X hc_LT in_LT 1 k_354 (by decide) rfl d_LT_mayBegin_25 rfl ev7 ?_
        refine J_if_gt (pc := 28) (tgt := 33) X d_LT_mayBegin_28 (by decide) (fun c8 => ?_) (fun c8 => ?_)
        · have hM := hif_t hM c8
          refine J_aload_n (pc := 33) X 0 d_LT_mayBegin_33 rfl ?_
          obtain ⟨v9, ev9, hM⟩ := hb_some hM
          refine J_getA (pc := 34) X hc_LT in_LT 0 k_353 (by decide) rfl d_LT_mayBegin_34 rfl ev9 ?_
          refine J_aload_n (pc := 37) X 0 d_LT_mayBegin_37 rfl ?_
          obtain ⟨v10, ev10, hM⟩ := hb_some hM
          refine J_getI (pc := 38) X hc_LT in_LT 1 k_354 (by decide) rfl d_LT_mayBegin_38 rfl ev10 ?_
          refine J_iconst (pc := 41) (v := (1)) X d_LT_mayBegin_41 (by decide) ?_
          refine J_isub (pc := 42) X d_LT_mayBegin_42 ?_
          obtain ⟨v11, ev11, hM⟩ := hb_some hM
          refine J_aald (pc := 43) X d_LT_mayBegin_43 rfl ev11 ?_
          refine J_astoreO_n (pc := 44) (lv' := [(2, va_rf v11), (0, .ref x0), (1, .int x1)]) X d_LT_mayBegin_44 rfl (by decide) rfl ?_
          refine J_aloadO_n (pc := 45) X 0 d_LT_mayBegin_45 rfl ?_
          refine J_ifnull (pc := 46) (tgt := 57) X d_LT_mayBegin_46 (by decide) (fun c12 => ?_) (fun a13 c12 => ?_)
          · have hM := hc_n hM c12
            refine J_iconst (pc := 57) (v := (1)) X d_LT_mayBegin_57 (by decide) ?_
            refine J_goto (pc := 58) (tgt := 62) X d_LT_mayBegin_58 (by decide) ?_
            obtain rfl := Option.some.inj hM
            exact J_zret (pc := 62) X hr hz1 hlk (Nat.le_of_ble_eq_true rfl) (Nat.le_of_ble_eq_true rfl) d_LT_mayBegin_62
          · have hM := hc_s hM c12
            refine J_iload_n (pc := 49) X 2 d_LT_mayBegin_49 rfl ?_
            refine J_aloadO_n (pc := 50) X 0 d_LT_mayBegin_50 rfl ?_
            obtain ⟨v14, ev14, hM⟩ := hb_some hM
            refine J_getIN (pc := 51) X hc_Edition in_Edition 5 (nw_14) (by decide) rfl d_LT_mayBegin_51 (hrf c12) ev14 ?_
            refine J_icmp_le (pc := 54) (tgt := 61) X d_LT_mayBegin_54 (by decide) (fun c15 => ?_) (fun c15 => ?_)
            · have hM := hif_t hM c15
              refine J_iconst (pc := 61) (v := (0)) X d_LT_mayBegin_61 (by decide) ?_
              obtain rfl := Option.some.inj hM
              exact J_zret (pc := 62) X hr hz0 hlk (Nat.le_of_ble_eq_true rfl) (Nat.le_of_ble_eq_true rfl) d_LT_mayBegin_62
            · have hM := hif_f hM c15
              refine J_iconst (pc := 57) (v := (1)) X d_LT_mayBegin_57 (by decide) ?_
              refine J_goto (pc := 58) (tgt := 62) X d_LT_mayBegin_58 (by decide) ?_
              obtain rfl := Option.some.inj hM
              exact J_zret (pc := 62) X hr hz1 hlk (Nat.le_of_ble_eq_true rfl) (Nat.le_of_ble_eq_true rfl) d_LT_mayBegin_62
        · have hM := hif_f hM c8
          refine J_iconst (pc := 31) (v := (1)) X d_LT_mayBegin_31 (by decide) ?_
          obtain rfl := Option.some.inj hM
          exact J_zret (pc := 32) X hr hz1 hlk (Nat.le_of_ble_eq_true rfl) (Nat.le_of_ble_eq_true rfl) d_LT_mayBegin_32
      · have hM := hif_f hM c6
        refine J_iconst (pc := 22) (v := (0)) X d_LT_mayBegin_22 (by decide) ?_
        obtain rfl := Option.some.inj hM
        exact J_zret (pc := 23) X hr hz0 hlk (Nat.le_of_ble_eq_true rfl) (Nat.le_of_ble_eq_true rfl) d_LT_mayBegin_23
abbrev rm_LT_keep : Room := { frames := 0, cells := 0, slots := 0, locals := 0 }
set_option maxHeartbeats 4000000 in
set_option maxRecDepth 100000 in
theorem c_LT_keep (l : Launch) (D : va_G) (K : (Nat → Nat) × (Nat → Nat)) (F : Nat) {h : hH} {x0 : Nat} {x1 : Nat} {q : hH} (hM : M_LT_keep F h x0 x1 = some q) : Met l y_LT_keep (.code y_LT_keep prog_1_method_19_code 2 none :: T0) rm_LT_keep (hPc hG D cls0 K [.ref x0, .ref x1] h) (hQ D cls0 h none q) 0 0 (hF h) := by
  refine J_met (lv := [(0, .ref x0), (1, .ref x1)]) (by decide) (Nat.le_of_ble_eq_true rfl) rfl ?_
  intro p e s m below meth c X hr hlk hnm
  have Y : HX p s m _ meth c prog_1_method_19_code 2 "LicenceTexts" D K "keep" none h := ⟨X, hr, hlk, hnm⟩
  unfold M_LT_keep at hM
  refine J_aload_n (pc := 0) X 0 d_LT_keep_0 rfl ?_
  obtain ⟨v1, ev1, hM⟩ := hb_some hM
  refine J_getI (pc := 1) X hc_LT in_LT 1 k_354 (by decide) rfl d_LT_keep_1 rfl ev1 ?_
  refine J_if_lt (pc := 4) (tgt := 39) X d_LT_keep_4 (by decide) (fun c2 => ?_) (fun c2 => ?_)
  · have hM := hif_t hM c2
    obtain rfl := Option.some.inj hM
    exact J_vret (pc := 39) X hr hlk (Nat.le_of_ble_eq_true rfl) (Nat.le_of_ble_eq_true rfl) d_LT_keep_39
  · have hM := hif_f hM c2
    refine J_aload_n (pc := 7) X 0 d_LT_keep_7 rfl ?_
    obtain ⟨v3, ev3, hM⟩ := hb_some hM
    refine J_getI (pc := 8) X hc_LT in_LT 1 k_354 (by decide) rfl d_LT_keep_8 rfl ev3 ?_
    refine J_aload_n (pc := 11) X 0 d_LT_keep_11 rfl ?_
    obtain ⟨v4, ev4, hM⟩ := hb_some hM
    refine J_getA (pc := 12) X hc_LT in_LT 0 k_353 (by decide) rfl d_LT_keep_12 rfl ev4 ?_
    obtain ⟨v5, ev5, hM⟩ := hb_some hM
    refine J_alen (pc := 15) X d_LT_keep_15 rfl ev5 ?_
    refine J_icmp_ge (pc := 16) (tgt := 39) X d_LT_keep_16 (by decide) (fun c6 => ?_) (fun c6 => ?_)
    · have hM := hif_t hM c6
      obtain rfl := Option.some.inj hM
      exact J_vret (pc := 39) X hr hlk (Nat.le_of_ble_eq_true rfl) (Nat.le_of_ble_eq_true rfl) d_LT_keep_39
    · have hM := hif_f hM c6
      refine J_aload_n (pc := 19) X 0 d_LT_keep_19 rfl ?_
      obtain ⟨v7, ev7, hM⟩ := hb_some hM
      refine J_getA (pc := 20) X hc_LT in_LT 0 k_353 (by decide) rfl d_LT_keep_20 rfl ev7 ?_
      refine J_aload_n (pc := 23) X 0 d_LT_keep_23 rfl ?_
      obtain ⟨v8, ev8, hM⟩ := hb_some hM
      refine J_getI (pc := 24) X hc_LT in_LT 1 k_354 (by decide) rfl d_LT_keep_24 rfl ev8 ?_
      refine J_aload_n (pc := 27) X 1 d_LT_keep_27 rfl ?_
      obtain ⟨h9, eh9, hM⟩ := hb_some hM
      refine J_aast (pc := 28) X hc_Edition d_LT_keep_28 rfl rfl eh9 ?_
      refine J_aload_n (pc := 29) X 0 d_LT_keep_29 rfl ?_
      refine J_dup (pc := 30) X d_LT_keep_30 rfl ?_
      obtain ⟨v10, ev10, hM⟩ := hb_some hM
      refine J_getI (pc := 31) X hc_LT in_LT 1 k_354 (by decide) rfl d_LT_keep_31 rfl ev10 ?_
      refine J_iconst (pc := 34) (v := (1)) X d_LT_keep_34 (by decide) ?_
      refine J_iadd (pc := 35) X d_LT_keep_35 ?_
      obtain ⟨h11, eh11, hM⟩ := hb_some hM
      refine J_put (pc := 36) X hc_LT in_LT t_LT tk_LT nk_LT 1 k_354 (by decide) rfl rfl d_LT_keep_36 rfl rfl rfl eh11 ?_
      obtain rfl := Option.some.inj hM
      exact J_vret (pc := 39) X hr hlk (Nat.le_of_ble_eq_true rfl) (Nat.le_of_ble_eq_true rfl) d_LT_keep_39
abbrev rm_LT_read : Room := { frames := 9, cells := 414, slots := 4524, locals := 195 }
set_option maxHeartbeats 4000000 in
set_option maxRecDepth 100000 in
theorem c_LT_read (l : Launch) (D : va_G) (K : (Nat → Nat) × (Nat → Nat)) (F : Nat) {h : hH} {x0 : Nat} {x1 : Int32} {q : (Int32 × hH)} (hM : M_LT_read F h x0 x1 = some q) : Met l y_LT_read (.code y_LT_read prog_1_method_3_code 4 (some .int) :: T0) rm_LT_read (hPc hG D cls0 K [.ref x0, .int x1] h) (hQ D cls0 h (some (.int q.1)) q.2) 414 4524 (hF h) := by
  refine J_met (lv := [(0, .ref x0), (1, .int x1)]) (by decide) (Nat.le_of_ble_eq_true rfl) rfl ?_
  intro p e s m below meth c X hr hlk hnm
  have Y : HX p s m _ meth c prog_1_method_3_code 4 "LicenceTexts" D K "read" (some .int) h := ⟨X, hr, hlk, hnm⟩
  unfold M_LT_read at hM
  refine J_aload_n (pc := 0) X 0 d_LT_read_0 rfl ?_
  refine J_iload_n (pc := 1) X 1 d_LT_read_1 rfl ?_
  obtain ⟨u1, eu1, hM⟩ := hb_some hM
  obtain ⟨q2, eq2, hM⟩ := hb_some hM
  refine J_callV (pc := 2) (As := [.int x1]) (rest := []) (o := (some (.int q2.1))) (h2 := q2.2) X rfl hc_LT eu1 (c_LT_mayBegin l D K F eq2) (cwV_of (nA := 1) X.fix k_399 k_402 k_403 k_401 k_400 ⟨rfl, rfl, rfl⟩ (by decide +kernel) ⟨Nat.le_of_ble_eq_true rfl, Nat.le_of_ble_eq_true rfl⟩) d_LT_read_2 rfl rfl (Nat.le_of_ble_eq_true rfl) (Nat.le_of_ble_eq_true rfl) (Nat.le_of_ble_eq_true rfl) ?_
  refine J_if_ne (pc := 5) (tgt := 12) X d_LT_read_5 (by decide) (fun c3 => ?_) (fun c3 => ?_)
  · have hM := hif_f hM c3
    refine J_aload_n (pc := 12) X 0 d_LT_read_12 rfl ?_
    obtain ⟨v4, ev4, hM⟩ := hb_some hM
    refine J_getA (pc := 13) X hc_LT in_LT 3 k_365 (by decide) rfl d_LT_read_13 rfl ev4 ?_
    refine J_aload_n (pc := 16) X 0 d_LT_read_16 rfl ?_
    obtain ⟨v5, ev5, hM⟩ := hb_some hM
    refine J_getA (pc := 17) X hc_LT in_LT 2 k_359 (by decide) rfl d_LT_read_17 rfl ev5 ?_
    obtain ⟨u6, eu6, hM⟩ := hb_some hM
    obtain ⟨q7, eq7, hM⟩ := hb_some hM
    refine J_callV (pc := 20) (As := [.ref v5]) (rest := []) (o := (some (.int q7.1))) (h2 := q7.2) X rfl hc_TextReader eu6 (c_TextReader_firstWrong l D K F eq7) (cwV_of (nA := 1) X.fix k_404 k_406 k_407 k_246 k_405 ⟨rfl, rfl, rfl⟩ (by decide +kernel) ⟨Nat.le_of_ble_eq_true rfl, Nat.le_of_ble_eq_true rfl⟩) d_LT_read_20 rfl rfl (Nat.le_of_ble_eq_true rfl) (Nat.le_of_ble_eq_true rfl) (Nat.le_of_ble_eq_true rfl) ?_
    refine J_istore_n (pc := 23) (lv' := [(2, .int q7.1), (0, .ref x0), (1, .int x1)]) X d_LT_read_23 rfl (by decide) rfl ?_
    refine J_iload_n (pc := 24) X 0 d_LT_read_24 rfl ?_
    refine J_iconst (pc := 25) (v := (-1)) X d_LT_read_25 (by decide) ?_
    refine J_icmp_eq (pc := 26) (tgt := 40) X d_LT_read_26 (by decide) (fun c8 => ?_) (fun c8 => ?_)
    · have hM := hif_t hM c8
      refine J_aload_n (pc := 40) X 1 d_LT_read_40 rfl ?_
      obtain ⟨v9, ev9, hM⟩ := hb_some hM
      refine J_getA (pc := 41) X hc_LT in_LT 2 k_359 (by decide) rfl d_LT_read_41 rfl ev9 ?_
      refine J_astore_n (pc := 44) (lv' := [(3, .ref v9), (2, .int q7.1), (0, .ref x0), (1, .int x1)]) X d_LT_read_44 rfl (by decide) rfl ?_
      refine J_aload_n (pc := 45) X 0 d_LT_read_45 rfl ?_
      refine J_iload_n (pc := 46) X 3 d_LT_read_46 rfl ?_
      obtain ⟨h10, eh10, hM⟩ := hb_some hM
      refine J_putN (pc := 47) X hc_Edition in_Edition t_Edition tk_Edition nk_Edition 5 (nw_14) (by decide) rfl rfl d_LT_read_47 rfl rfl rfl eh10 ?_
      refine J_aload_n (pc := 50) X 2 d_LT_read_50 rfl ?_
      refine J_aload_n (pc := 51) X 0 d_LT_read_51 rfl ?_
      obtain ⟨u11, eu11, hM⟩ := hb_some hM
      obtain ⟨h12, eh12, hM⟩ := hb_some hM
      refine J_callV (pc := 52) (As := [.ref v9]) (rest := []) (o := none) (h2 := h12) X rfl hc_LT eu11 (c_LT_keep l D K F eh12) (cwV_of (nA := 1) X.fix k_408 k_410 k_411 k_401 k_409 ⟨rfl, rfl, rfl⟩ (by decide +kernel) ⟨Nat.le_of_ble_eq_true rfl, Nat.le_of_ble_eq_true rfl⟩) d_LT_read_52 rfl rfl (Nat.le_of_ble_eq_true rfl) (Nat.le_of_ble_eq_true rfl) (Nat.le_of_ble_eq_true rfl) ?_
      refine J_aload_n (pc := 55) X 2 d_LT_read_55 rfl ?_
      refine J_new (pc := 56) (fs := [.null, .null, .null, .null, .int 0, .int 0]) X hc_Edition in_Edition t_Edition tk_Edition k_352 k_355 k_167 d_LT_read_56 rfl df_Edition (Nat.le_of_ble_eq_true rfl) (Nat.le_of_ble_eq_true rfl) ?_
      obtain ⟨h13, eh13, hM⟩ := hb_some hM
      rw [Option.some.inj eh13]
      refine J_dup (pc := 59) X d_LT_read_59 rfl ?_
      obtain ⟨h14, eh14, hM⟩ := hb_some hM
      refine J_callI (pc := 60) (As := []) (rest := [.ref h12.1, .ref x0]) (o := none) (h2 := h14) X rfl (c_Edition_init l D K F eh14) (cwI_of (nA := 0) X.fix k_356 k_358 k_167 k_357 ⟨rfl, rfl, rfl⟩ (by decide +kernel) ⟨Nat.le_of_ble_eq_true rfl, Nat.le_of_ble_eq_true rfl⟩) d_LT_read_60 rfl rfl (Nat.le_of_ble_eq_true rfl) (Nat.le_of_ble_eq_true rfl) (Nat.le_of_ble_eq_true rfl) ?_
      obtain ⟨h15, eh15, hM⟩ := hb_some hM
      refine J_put (pc := 63) X hc_LT in_LT t_LT tk_LT nk_LT 2 k_359 (by decide) rfl rfl d_LT_read_63 rfl rfl rfl eh15 ?_
      refine J_aload_n (pc := 66) X 0 d_LT_read_66 rfl ?_
      obtain ⟨v16, ev16, hM⟩ := hb_some hM
      refine J_getIN (pc := 67) X hc_Edition in_Edition 4 (nw_13) (by decide) rfl d_LT_read_67 rfl ev16 ?_
      obtain rfl := Option.some.inj hM
      exact J_iret (pc := 70) X hr hlk (Nat.le_of_ble_eq_true rfl) (Nat.le_of_ble_eq_true rfl) d_LT_read_70
    · have hM := hif_f hM c8
      refine J_aload_n (pc := 29) X 1 d_LT_read_29 rfl ?_
      obtain ⟨v17, ev17, hM⟩ := hb_some hM
      refine J_getA (pc := 30) X hc_LT in_LT 2 k_359 (by decide) rfl d_LT_read_30 rfl ev17 ?_
      obtain ⟨u18, eu18, hM⟩ := hb_some hM
      obtain ⟨h19, eh19, hM⟩ := hb_some hM
      refine J_callV (pc := 33) (As := []) (rest := []) (o := none) (h2 := h19) X rfl hc_Edition eu18 (c_Edition_clear l D K F eh19) (cwV_of (nA := 0) X.fix k_412 k_414 k_415 k_167 k_413 ⟨rfl, rfl, rfl⟩ (by decide +kernel) ⟨Nat.le_of_ble_eq_true rfl, Nat.le_of_ble_eq_true rfl⟩) d_LT_read_33 rfl rfl (Nat.le_of_ble_eq_true rfl) (Nat.le_of_ble_eq_true rfl) (Nat.le_of_ble_eq_true rfl) ?_
      refine J_iconst (pc := 36) (v := (-1)) X d_LT_read_36 (by decide) ?_
      refine J_iload_n (pc := 37) X 0 d_LT_read_37 rfl ?_
      refine J_isub (pc := 38) X d_LT_read_38 ?_
      obtain rfl := Option.some.inj hM
      exact J_iret (pc := 39) X hr hlk (Nat.le_of_ble_eq_true rfl) (Nat.le_of_ble_eq_true rfl) d_LT_read_39
  · have hM := hif_t hM c3
    refine J_sipush (pc := 8) (v := (-1000)) X d_LT_read_8 (by decide) ?_
    obtain rfl := Option.some.inj hM
    exact J_iret (pc := 11) X hr hlk (Nat.le_of_ble_eq_true rfl) (Nat.le_of_ble_eq_true rfl) d_LT_read_11
abbrev rm_LT_editions : Room := { frames := 0, cells := 0, slots := 0, locals := 0 }
set_option maxHeartbeats 4000000 in
set_option maxRecDepth 100000 in
theorem c_LT_editions (l : Launch) (D : va_G) (K : (Nat → Nat) × (Nat → Nat)) (F : Nat) {h : hH} {x0 : Nat} {q : (Int32 × hH)} (hM : M_LT_editions F h x0 = some q) : Met l y_LT_editions (.code y_LT_editions prog_1_method_4_code 1 (some .int) :: T0) rm_LT_editions (hPc hG D cls0 K [.ref x0] h) (hQ D cls0 h (some (.int q.1)) q.2) 0 0 (hF h) := by
  refine J_met (lv := [(0, .ref x0)]) (by decide) (Nat.le_of_ble_eq_true rfl) rfl ?_
  intro p e s m below meth c X hr hlk hnm
  have Y : HX p s m _ meth c prog_1_method_4_code 1 "LicenceTexts" D K "editions" (some .int) h := ⟨X, hr, hlk, hnm⟩
  unfold M_LT_editions at hM
  refine J_aload_n (pc := 0) X 0 d_LT_editions_0 rfl ?_
  obtain ⟨v1, ev1, hM⟩ := hb_some hM
  refine J_getI (pc := 1) X hc_LT in_LT 1 k_354 (by decide) rfl d_LT_editions_1 rfl ev1 ?_
  obtain rfl := Option.some.inj hM
  exact J_iret (pc := 4) X hr hlk (Nat.le_of_ble_eq_true rfl) (Nat.le_of_ble_eq_true rfl) d_LT_editions_4
abbrev rm_LT_fact : Room := { frames := 2, cells := 0, slots := 0, locals := 45 }
set_option maxHeartbeats 4000000 in
set_option maxRecDepth 100000 in
theorem c_LT_fact (l : Launch) (D : va_G) (K : (Nat → Nat) × (Nat → Nat)) (F : Nat) {h : hH} {x0 : Nat} {x1 : Int32} {x2 : Int64} {q : (Int32 × hH)} (hM : M_LT_fact F h x0 x1 x2 = some q) : Met l y_LT_fact (.code y_LT_fact prog_1_method_5_code 4 (some .boolean) :: T0) rm_LT_fact (hPc hG D cls0 K [.ref x0, .int x1, .long x2] h) (hQ D cls0 h (some (.int q.1)) q.2) 0 0 (hF h) := by
  refine J_met (lv := [(0, .ref x0), (1, .int x1), (2, .long x2)]) (by decide) (Nat.le_of_ble_eq_true rfl) rfl ?_
  intro p e s m below meth c X hr hlk hnm
  have Y : HX p s m _ meth c prog_1_method_5_code 4 "LicenceTexts" D K "fact" (some .boolean) h := ⟨X, hr, hlk, hnm⟩
  unfold M_LT_fact at hM
  refine J_aload_n (pc := 0) X 0 d_LT_fact_0 rfl ?_
  obtain ⟨v1, ev1, hM⟩ := hb_some hM
  refine J_getA (pc := 1) X hc_LT in_LT 4 k_371 (by decide) rfl d_LT_fact_1 rfl ev1 ?_
  refine J_iload_n (pc := 4) X 1 d_LT_fact_4 rfl ?_
  obtain ⟨u2, eu2, hM⟩ := hb_some hM
  obtain ⟨q3, eq3, hM⟩ := hb_some hM
  refine J_callV (pc := 5) (As := [.int x1]) (rest := []) (o := (some (.int q3.1))) (h2 := q3.2) X rfl hc_Facts eu2 (c_Facts_has l D K F eq3) (cwV_of (nA := 1) X.fix k_416 k_14 k_15 k_13 k_12 ⟨rfl, rfl, rfl⟩ (by decide +kernel) ⟨Nat.le_of_ble_eq_true rfl, Nat.le_of_ble_eq_true rfl⟩) d_LT_fact_5 rfl rfl (Nat.le_of_ble_eq_true rfl) (Nat.le_of_ble_eq_true rfl) (Nat.le_of_ble_eq_true rfl) ?_
  refine J_if_ne (pc := 8) (tgt := 13) X d_LT_fact_8 (by decide) (fun c4 => ?_) (fun c4 => ?_)
  · have hM := hif_f hM c4
    refine J_aload_n (pc := 13) X 0 d_LT_fact_13 rfl ?_
    obtain ⟨v5, ev5, hM⟩ := hb_some hM
    refine J_getA (pc := 14) X hc_LT in_LT 4 k_371 (by decide) rfl d_LT_fact_14 rfl ev5 ?_
    refine J_iload_n (pc := 17) X 1 d_LT_fact_17 rfl ?_
    refine J_lload_n (pc := 18) X 2 d_LT_fact_18 rfl ?_
    refine J_iconst (pc := 19) (v := (1)) X d_LT_fact_19 (by decide) ?_
    obtain ⟨u6, eu6, hM⟩ := hb_some hM
    obtain ⟨h7, eh7, hM⟩ := hb_some hM
    refine J_callV (pc := 20) (As := [.int x1, .long x2, .int 1]) (rest := []) (o := none) (h2 := h7) X rfl hc_Facts eu6 (c_Facts_put l D K F eh7) (cwV_of (nA := 3) X.fix k_417 k_419 k_420 k_13 k_418 ⟨rfl, rfl, rfl⟩ (by decide +kernel) ⟨Nat.le_of_ble_eq_true rfl, Nat.le_of_ble_eq_true rfl⟩) d_LT_fact_20 rfl rfl (Nat.le_of_ble_eq_true rfl) (Nat.le_of_ble_eq_true rfl) (Nat.le_of_ble_eq_true rfl) ?_
    refine J_iconst (pc := 23) (v := (1)) X d_LT_fact_23 (by decide) ?_
    obtain rfl := Option.some.inj hM
    exact J_zret (pc := 24) X hr hz1 hlk (Nat.le_of_ble_eq_true rfl) (Nat.le_of_ble_eq_true rfl) d_LT_fact_24
  · have hM := hif_t hM c4
    refine J_iconst (pc := 11) (v := (0)) X d_LT_fact_11 (by decide) ?_
    obtain rfl := Option.some.inj hM
    exact J_zret (pc := 12) X hr hz0 hlk (Nat.le_of_ble_eq_true rfl) (Nat.le_of_ble_eq_true rfl) d_LT_fact_12
abbrev rm_LT_clearFacts : Room := { frames := 1, cells := 0, slots := 0, locals := 22 }
set_option maxHeartbeats 4000000 in
set_option maxRecDepth 100000 in
theorem c_LT_clearFacts (l : Launch) (D : va_G) (K : (Nat → Nat) × (Nat → Nat)) (F : Nat) {h : hH} {x0 : Nat} {q : (Int32 × hH)} (hM : M_LT_clearFacts F h x0 = some q) : Met l y_LT_clearFacts (.code y_LT_clearFacts prog_1_method_6_code 1 (some .int) :: T0) rm_LT_clearFacts (hPc hG D cls0 K [.ref x0] h) (hQ D cls0 h (some (.int q.1)) q.2) 0 0 (hF h) := by
  refine J_met (lv := [(0, .ref x0)]) (by decide) (Nat.le_of_ble_eq_true rfl) rfl ?_
  intro p e s m below meth c X hr hlk hnm
  have Y : HX p s m _ meth c prog_1_method_6_code 1 "LicenceTexts" D K "clearFacts" (some .int) h := ⟨X, hr, hlk, hnm⟩
  unfold M_LT_clearFacts at hM
  refine J_aload_n (pc := 0) X 0 d_LT_clearFacts_0 rfl ?_
  obtain ⟨v1, ev1, hM⟩ := hb_some hM
  refine J_getA (pc := 1) X hc_LT in_LT 4 k_371 (by decide) rfl d_LT_clearFacts_1 rfl ev1 ?_
  obtain ⟨u2, eu2, hM⟩ := hb_some hM
  obtain ⟨q3, eq3, hM⟩ := hb_some hM
  refine J_callV (pc := 4) (As := []) (rest := []) (o := (some (.int q3.1))) (h2 := q3.2) X rfl hc_Facts eu2 (c_Facts_clear l D K F eq3) (cwV_of (nA := 0) X.fix k_421 k_423 k_424 k_13 k_422 ⟨rfl, rfl, rfl⟩ (by decide +kernel) ⟨Nat.le_of_ble_eq_true rfl, Nat.le_of_ble_eq_true rfl⟩) d_LT_clearFacts_4 rfl rfl (Nat.le_of_ble_eq_true rfl) (Nat.le_of_ble_eq_true rfl) (Nat.le_of_ble_eq_true rfl) ?_
  obtain rfl := Option.some.inj hM
  exact J_iret (pc := 7) X hr hlk (Nat.le_of_ble_eq_true rfl) (Nat.le_of_ble_eq_true rfl) d_LT_clearFacts_7
abbrev rm_LT_editionOn : Room := { frames := 0, cells := 0, slots := 0, locals := 0 }
set_option maxHeartbeats 4000000 in
set_option maxRecDepth 100000 in
theorem w_LT_editionOn_33 {p : Program} {l : Launch} {e : Env} {s : State} {m : MethodId} {args : Array Value} {below : List Frame} {meth : Method} {c : Code} {D : va_G} {K : (Nat → Nat) × (Nat → Nat)} {h0 : hH} (Y : HX p s m args meth c prog_1_method_20_code 4 "LicenceTexts" D K "editionOn" (some (.object "LicenceTexts$Edition")) h0) {F : Nat} {r8 : hH → Nat → Int32 → Int32 → Option (Option Nat × hH)} (R8 : ∀ (h : hH) (x0 : Nat) (x1 : Int32) (x2 : Int32) (q : (Option Nat × hH)), r8 h x0 x1 x2 = some q → J p l e rm_LT_editionOn s m args below meth c 4 D cls0 (hF h0) h [(0, .ref x0), (1, .int x1), (2, .int x2)] 0 0 (MQ below (hQ D cls0 h0 (some (va_rf q.1)) q.2) args s 0 0 (hF h0)) 8 []) (h : hH) (x0 : Nat) (x1 : Int32) (x2 : Int32) (q : (Option Nat × hH)) (hM : M_LT_editionOn_33 F r8 h x0 x1 x2 = some q) : J p l e rm_LT_editionOn s m args below meth c 4 D cls0 (hF h0) h [(0, .ref x0), (1, .int x1), (2, .int x2)] 0 0 (MQ below (hQ D cls0 h0 (some (va_rf q.1)) q.2) args s 0 0 (hF h0)) 33 [] := by
  obtain ⟨X, hr, hlk, hnm⟩ := id Y
  unfold M_LT_editionOn_33 at hM
  refine J_iinc (pc := 33) (v := x2 + (-1)) (lv' := [(2, .int (x2 + (-1))), (0, .ref x0), (1, .int x1)]) X 2 d_LT_editionOn_33 rfl rfl (by decide) rfl ?_
  refine J_goto (pc := 36) (tgt := 8) X d_LT_editionOn_36 (by decide) ?_
  refine J_sub [1, 2, 0] rfl ?_
  exact R8 _ _ _ _ _ hM
set_option maxHeartbeats 4000000 in
set_option maxRecDepth 100000 in
theorem b_LT_editionOn_8 {p : Program} {l : Launch} {e : Env} {s : State} {m : MethodId} {args : Array Value} {below : List Frame} {meth : Method} {c : Code} {D : va_G} {K : (Nat → Nat) × (Nat → Nat)} {h0 : hH} (Y : HX p s m args meth c prog_1_method_20_code 4 "LicenceTexts" D K "editionOn" (some (.object "LicenceTexts$Edition")) h0) {F : Nat}   {r8 : hH → Nat → Int32 → Int32 → Option (Option Nat × hH)} (R8 : ∀ (h : hH) (x0 : Nat) (x1 : Int32) (x2 : Int32) (q : (Option Nat × hH)), r8 h x0 x1 x2 = some q → J p l e rm_LT_editionOn s m args below meth c 4 D cls0 (hF h0) h [(0, .ref x0), (1, .int x1), (2, .int x2)] 0 0 (MQ below (hQ D cls0 h0 (some (va_rf q.1)) q.2) args s 0 0 (hF h0)) 8 []) : ∀ (h : hH) (x0 : Nat) (x1 : Int32) (x2 : Int32) (q : (Option Nat × hH)), B_LT_editionOn_8 F r8 h x0 x1 x2 = some q → J p l e rm_LT_editionOn s m args below meth c 4 D cls0 (hF h0) h [(0, .ref x0), (1, .int x1), (2, .int x2)] 0 0 (MQ below (hQ D cls0 h0 (some (va_rf q.1)) q.2) args s 0 0 (hF h0)) 8 [] := by
  intro h x0 x1 x2 q hM
  obtain ⟨X, hr, hlk, hnm⟩ := id Y
  unfold B_LT_editionOn_8 at hM
  refine J_iload_n (pc := 8) X 2 d_LT_editionOn_8 rfl ?_
  refine J_if_lt (pc := 9) (tgt := 39) X d_LT_editionOn_9 (by decide) (fun c1 => ?_) (fun c1 => ?_)
  · have hM := hif_t hM c1
    refine J_null (pc := 39) X d_LT_editionOn_39 ?_
    obtain rfl := Option.some.inj hM
    exact J_aret (pc := 40) (v := none) X hr hlk (Nat.le_of_ble_eq_true rfl) (Nat.le_of_ble_eq_true rfl) d_LT_editionOn_40
  · have hM := hif_f hM c1
    refine J_aload_n (pc := 12) X 0 d_LT_editionOn_12 rfl ?_
    obtain ⟨v2, ev2, hM⟩ := hb_some hM
    refine J_getA (pc := 13) X hc_LT in_LT 0 k_353 (by decide) rfl d_LT_editionOn_13 rfl ev2 ?_
    refine J_iload_n (pc := 16) X 2 d_LT_editionOn_16 rfl ?_
    obtain ⟨v3, ev3, hM⟩ := hb_some hM
    refine J_aald (pc := 17) X d_LT_editionOn_17 rfl ev3 ?_
    refine J_astoreO_n (pc := 18) (lv' := [(3, va_rf v3), (0, .ref x0), (1, .int x1), (2, .int x2)]) X d_LT_editionOn_18 rfl (by decide) rfl ?_
    refine J_aloadO_n (pc := 19) X 0 d_LT_editionOn_19 rfl ?_
    refine J_ifnull (pc := 20) (tgt := 33) X d_LT_editionOn_20 (by decide) (fun c4 => ?_) (fun a5 c4 => ?_)
    · have hM := hc_n hM c4
      refine J_sub [1, 2, 3] rfl ?_
      exact w_LT_editionOn_33 Y R8 _ _ _ _ _ hM
    · have hM := hc_s hM c4
      refine J_aloadO_n (pc := 23) X 0 d_LT_editionOn_23 rfl ?_
      obtain ⟨v6, ev6, hM⟩ := hb_some hM
      refine J_getIN (pc := 24) X hc_Edition in_Edition 5 (nw_14) (by decide) rfl d_LT_editionOn_24 (hrf c4) ev6 ?_
      refine J_iload_n (pc := 27) X 2 d_LT_editionOn_27 rfl ?_
      refine J_icmp_gt (pc := 28) (tgt := 33) X d_LT_editionOn_28 (by decide) (fun c7 => ?_) (fun c7 => ?_)
      · have hM := hif_t hM c7
        refine J_sub [1, 2, 3] rfl ?_
        exact w_LT_editionOn_33 Y R8 _ _ _ _ _ hM
      · have hM := hif_f hM c7
        refine J_aloadO_n (pc := 31) X 0 d_LT_editionOn_31 rfl ?_
        obtain rfl := Option.some.inj hM
        exact J_aret (pc := 32) (v := v3) X hr hlk (Nat.le_of_ble_eq_true rfl) (Nat.le_of_ble_eq_true rfl) d_LT_editionOn_32
theorem w_LT_editionOn_8 {p : Program} {l : Launch} {e : Env} {s : State} {m : MethodId} {args : Array Value} {below : List Frame} {meth : Method} {c : Code} {D : va_G} {K : (Nat → Nat) × (Nat → Nat)} {h0 : hH} (Y : HX p s m args meth c prog_1_method_20_code 4 "LicenceTexts" D K "editionOn" (some (.object "LicenceTexts$Edition")) h0) {F : Nat} : ∀ z : Nat, ∀ (h : hH) (x0 : Nat) (x1 : Int32) (x2 : Int32) (q : (Option Nat × hH)), M_LT_editionOn_8 F z h x0 x1 x2 = some q → J p l e rm_LT_editionOn s m args below meth c 4 D cls0 (hF h0) h [(0, .ref x0), (1, .int x1), (2, .int x2)] 0 0 (MQ below (hQ D cls0 h0 (some (va_rf q.1)) q.2) args s 0 0 (hF h0)) 8 [] := by
  intro z
  induction z with
  | zero => intro h x0 x1 x2 q hM; exact absurd (show (none : Option _) = some q from hM) (fun t => by cases t)
  | succ z ih => exact b_LT_editionOn_8 Y ih
set_option maxHeartbeats 4000000 in
set_option maxRecDepth 100000 in
theorem c_LT_editionOn (l : Launch) (D : va_G) (K : (Nat → Nat) × (Nat → Nat)) (F : Nat) {h : hH} {x0 : Nat} {x1 : Int32} {q : (Option Nat × hH)} (hM : M_LT_editionOn F h x0 x1 = some q) : Met l y_LT_editionOn (.code y_LT_editionOn prog_1_method_20_code 4 (some (.object "LicenceTexts$Edition")) :: T0) rm_LT_editionOn (hPc hG D cls0 K [.ref x0, .int x1] h) (hQ D cls0 h (some (va_rf q.1)) q.2) 0 0 (hF h) := by
  refine J_met (lv := [(0, .ref x0), (1, .int x1)]) (by decide) (Nat.le_of_ble_eq_true rfl) rfl ?_
  intro p e s m below meth c X hr hlk hnm
  have Y : HX p s m _ meth c prog_1_method_20_code 4 "LicenceTexts" D K "editionOn" (some (.object "LicenceTexts$Edition")) h := ⟨X, hr, hlk, hnm⟩
  unfold M_LT_editionOn at hM
  refine J_aload_n (pc := 0) X 0 d_LT_editionOn_0 rfl ?_
  obtain ⟨v1, ev1, hM⟩ := hb_some hM
  refine J_getA (pc := 1) X hc_LT in_LT 0 k_353 (by decide) rfl d_LT_editionOn_1 rfl ev1 ?_
  obtain ⟨v2, ev2, hM⟩ := hb_some hM
  refine J_alen (pc := 4) X d_LT_editionOn_4 rfl ev2 ?_
  refine J_iconst (pc := 5) (v := (1)) X d_LT_editionOn_5 (by decide) ?_
  refine J_isub (pc := 6) X d_LT_editionOn_6 ?_
  refine J_istore_n (pc := 7) (lv' := [(2, .int (v2 - 1)), (0, .ref x0), (1, .int x1)]) X d_LT_editionOn_7 rfl (by decide) rfl ?_
  refine J_sub [1, 2, 0] rfl ?_
  exact w_LT_editionOn_8 Y F _ _ _ _ _ hM
abbrev rm_LT_look : Room := { frames := 5, cells := 0, slots := 0, locals := 121 }
set_option maxHeartbeats 4000000 in
set_option maxRecDepth 100000 in
theorem w_LT_look_81 {p : Program} {l : Launch} {e : Env} {s : State} {m : MethodId} {args : Array Value} {below : List Frame} {meth : Method} {c : Code} {D : va_G} {K : (Nat → Nat) × (Nat → Nat)} {h0 : hH} (Y : HX p s m args meth c prog_1_method_21_code 7 "LicenceTexts" D K "look" (some .int) h0) {F : Nat} {r22 : hH → Nat → Nat → Option Nat → Int32 → Option (Int32 × hH)} (R22 : ∀ (h : hH) (x0 : Nat) (x2 : Nat) (x3 : Option Nat) (x4 : Int32) (q : (Int32 × hH)), r22 h x0 x2 x3 x4 = some q → J p l e rm_LT_look s m args below meth c 7 D cls0 (hF h0) h [(0, .ref x0), (2, .ref x2), (3, va_rf x3), (4, .int x4)] 0 0 (MQ below (hQ D cls0 h0 (some (.int q.1)) q.2) args s 0 0 (hF h0)) 22 []) (h : hH) (x0 : Nat) (x2 : Nat) (x3 : Option Nat) (x4 : Int32) (q : (Int32 × hH)) (hM : M_LT_look_81 F r22 h x0 x2 x3 x4 = some q) : J p l e rm_LT_look s m args below meth c 7 D cls0 (hF h0) h [(0, .ref x0), (2, .ref x2), (3, va_rf x3), (4, .int x4)] 0 0 (MQ below (hQ D cls0 h0 (some (.int q.1)) q.2) args s 0 0 (hF h0)) 81 [] := by
  obtain ⟨X, hr, hlk, hnm⟩ := id Y
  unfold M_LT_look_81 at hM
  refine J_iinc (pc := 81) (v := x4 + 1) (lv' := [(4, .int (x4 + 1)), (0, .ref x0), (2, .ref x2), (3, va_rf x3)]) X 3 d_LT_look_81 rfl rfl (by decide) (by simp [hrf_cat]) ?_
  refine J_goto (pc := 84) (tgt := 22) X d_LT_look_84 (by decide) ?_
  refine J_sub [1, 2, 3, 0] rfl ?_
  exact R22 _ _ _ _ _ _ hM
set_option maxHeartbeats 4000000 in
set_option maxRecDepth 100000 in
theorem b_LT_look_22 {p : Program} {l : Launch} {e : Env} {s : State} {m : MethodId} {args : Array Value} {below : List Frame} {meth : Method} {c : Code} {D : va_G} {K : (Nat → Nat) × (Nat → Nat)} {h0 : hH} (Y : HX p s m args meth c prog_1_method_21_code 7 "LicenceTexts" D K "look" (some .int) h0) {F : Nat}   {r22 : hH → Nat → Nat → Option Nat → Int32 → Option (Int32 × hH)} (R22 : ∀ (h : hH) (x0 : Nat) (x2 : Nat) (x3 : Option Nat) (x4 : Int32) (q : (Int32 × hH)), r22 h x0 x2 x3 x4 = some q → J p l e rm_LT_look s m args below meth c 7 D cls0 (hF h0) h [(0, .ref x0), (2, .ref x2), (3, va_rf x3), (4, .int x4)] 0 0 (MQ below (hQ D cls0 h0 (some (.int q.1)) q.2) args s 0 0 (hF h0)) 22 []) : ∀ (h : hH) (x0 : Nat) (x2 : Nat) (x3 : Option Nat) (x4 : Int32) (q : (Int32 × hH)), B_LT_look_22 F r22 h x0 x2 x3 x4 = some q → J p l e rm_LT_look s m args below meth c 7 D cls0 (hF h0) h [(0, .ref x0), (2, .ref x2), (3, va_rf x3), (4, .int x4)] 0 0 (MQ below (hQ D cls0 h0 (some (.int q.1)) q.2) args s 0 0 (hF h0)) 22 [] := by
  intro h x0 x2 x3 x4 q hM
  obtain ⟨X, hr, hlk, hnm⟩ := id Y
  unfold B_LT_look_22 at hM
  refine J_iload (pc := 22) X 3 d_LT_look_22 rfl ?_
  refine J_aloadO_n (pc := 24) X 2 d_LT_look_24 rfl ?_
  obtain ⟨a1, ea1, hM⟩ := hb_some hM
  obtain ⟨v2, ev2, hM⟩ := hb_some hM
  refine J_getIN (pc := 25) X hc_Edition in_Edition 4 (nw_13) (by decide) rfl d_LT_look_25 (hrf ea1) ev2 ?_
  refine J_icmp_ge (pc := 28) (tgt := 87) X d_LT_look_28 (by decide) (fun c3 => ?_) (fun c3 => ?_)
  · have hM := hif_t hM c3
    refine J_aload_n (pc := 87) X 1 d_LT_look_87 rfl ?_
    obtain ⟨u4, eu4, hM⟩ := hb_some hM
    obtain ⟨q5, eq5, hM⟩ := hb_some hM
    refine J_callV (pc := 88) (As := []) (rest := []) (o := (some (.int q5.1))) (h2 := q5.2) X rfl hc_Findings eu4 (c_Findings_answer l D K F eq5) (cwV_of (nA := 0) X.fix k_425 k_427 k_428 k_25 k_426 ⟨rfl, rfl, rfl⟩ (by decide +kernel) ⟨Nat.le_of_ble_eq_true rfl, Nat.le_of_ble_eq_true rfl⟩) d_LT_look_88 rfl rfl (Nat.le_of_ble_eq_true rfl) (Nat.le_of_ble_eq_true rfl) (Nat.le_of_ble_eq_true rfl) ?_
    obtain rfl := Option.some.inj hM
    exact J_iret (pc := 91) X hr hlk (Nat.le_of_ble_eq_true rfl) (Nat.le_of_ble_eq_true rfl) d_LT_look_91
  · have hM := hif_f hM c3
    refine J_aloadO_n (pc := 31) X 2 d_LT_look_31 rfl ?_
    refine J_iload (pc := 32) X 3 d_LT_look_32 rfl ?_
    refine J_st (st' := [.int x4, .ref a1]) (by rw [hrf ea1] <;> rfl) ?_
    obtain ⟨u6, eu6, hM⟩ := hb_some hM
    obtain ⟨q7, eq7, hM⟩ := hb_some hM
    refine J_callV (pc := 34) (As := [.int x4]) (rest := []) (o := (some (va_rf q7.1))) (h2 := q7.2) X rfl hc_Edition eu6 (c_Edition_ruleAt l D K F eq7) (cwV_of (nA := 1) X.fix k_429 k_168 k_169 k_167 k_166 ⟨rfl, rfl, rfl⟩ (by decide +kernel) ⟨Nat.le_of_ble_eq_true rfl, Nat.le_of_ble_eq_true rfl⟩) d_LT_look_34 rfl rfl (Nat.le_of_ble_eq_true rfl) (Nat.le_of_ble_eq_true rfl) (Nat.le_of_ble_eq_true rfl) ?_
    refine J_astoreO (pc := 37) (lv' := [(5, va_rf q7.1), (0, .ref x0), (2, .ref x2), (3, va_rf x3), (4, .int x4)]) X d_LT_look_37 (by decide) rfl ?_
    refine J_aloadO (pc := 39) X 0 d_LT_look_39 rfl ?_
    refine J_ifnull (pc := 41) (tgt := 81) X d_LT_look_41 (by decide) (fun c8 => ?_) (fun a9 c8 => ?_)
    · have hM := hc_n hM c8
      refine J_sub [1, 2, 3, 4] rfl ?_
      exact w_LT_look_81 Y R22 _ _ _ _ _ _ hM
    · have hM := hc_s hM c8
      refine J_aload_n (pc := 44) X 1 d_LT_look_44 rfl ?_
      obtain ⟨v10, ev10, hM⟩ := hb_some hM
      refine J_getA (pc := 45) X hc_LT in_LT 5 k_377 (by decide) rfl d_LT_look_45 rfl ev10 ?_
      refine J_aloadO_n (pc := 48) X 3 d_LT_look_48 rfl ?_
      refine J_aloadO (pc := 49) X 0 d_LT_look_49 rfl ?_
      refine J_st (st' := [.ref a9, .ref a1, .ref v10]) (by rw [hrf ea1, hrf c8] <;> rfl) ?_
      obtain ⟨u11, eu11, hM⟩ := hb_some hM
      obtain ⟨q12, eq12, hM⟩ := hb_some hM
      refine J_callV (pc := 51) (As := [.ref a1, .ref a9]) (rest := []) (o := (some (.int q12.1))) (h2 := q12.2) X rfl hc_Reckoner eu11 (c_Reckoner_judge l D K F eq12) (cwV_of (nA := 2) X.fix k_430 k_432 k_433 k_178 k_431 ⟨rfl, rfl, rfl⟩ (by decide +kernel) ⟨Nat.le_of_ble_eq_true rfl, Nat.le_of_ble_eq_true rfl⟩) d_LT_look_51 rfl rfl (Nat.le_of_ble_eq_true rfl) (Nat.le_of_ble_eq_true rfl) (Nat.le_of_ble_eq_true rfl) ?_
      refine J_istore (pc := 54) (lv' := [(6, .int q12.1), (5, va_rf q7.1), (0, .ref x0), (2, .ref x2), (3, va_rf x3), (4, .int x4)]) X d_LT_look_54 (by decide) (by simp [hrf_cat]) ?_
      refine J_aload_n (pc := 56) X 3 d_LT_look_56 rfl ?_
      refine J_iload (pc := 57) X 0 d_LT_look_57 rfl ?_
      refine J_aload_n (pc := 59) X 2 d_LT_look_59 rfl ?_
      obtain ⟨v13, ev13, hM⟩ := hb_some hM
      refine J_getA (pc := 60) X hc_LT in_LT 5 k_377 (by decide) rfl d_LT_look_60 rfl ev13 ?_
      obtain ⟨v14, ev14, hM⟩ := hb_some hM
      refine J_getIN (pc := 63) X hc_Reckoner in_Reckoner 3 (nw_15) (by decide) rfl d_LT_look_63 rfl ev14 ?_
      refine J_aload_n (pc := 66) X 2 d_LT_look_66 rfl ?_
      obtain ⟨v15, ev15, hM⟩ := hb_some hM
      refine J_getA (pc := 67) X hc_LT in_LT 5 k_377 (by decide) rfl d_LT_look_67 rfl ev15 ?_
      obtain ⟨v16, ev16, hM⟩ := hb_some hM
      refine J_getIN (pc := 70) X hc_Reckoner in_Reckoner 4 (nw_16) (by decide) rfl d_LT_look_70 rfl ev16 ?_
      refine J_aloadO (pc := 73) X 1 d_LT_look_73 rfl ?_
      obtain ⟨v17, ev17, hM⟩ := hb_some hM
      refine J_getIN (pc := 75) X hc_Rule in_Rule 0 (nw_17) (by decide) rfl d_LT_look_75 (hrf c8) ev17 ?_
      obtain ⟨u18, eu18, hM⟩ := hb_some hM
      obtain ⟨h19, eh19, hM⟩ := hb_some hM
      refine J_callV (pc := 78) (As := [.int q12.1, .int v14, .int v16, .int v17]) (rest := []) (o := none) (h2 := h19) X rfl hc_Findings eu18 (c_Findings_add l D K F eh19) (cwV_of (nA := 4) X.fix k_434 k_436 k_437 k_25 k_435 ⟨rfl, rfl, rfl⟩ (by decide +kernel) ⟨Nat.le_of_ble_eq_true rfl, Nat.le_of_ble_eq_true rfl⟩) d_LT_look_78 rfl rfl (Nat.le_of_ble_eq_true rfl) (Nat.le_of_ble_eq_true rfl) (Nat.le_of_ble_eq_true rfl) ?_
      refine J_sub [2, 3, 4, 5] rfl ?_
      exact w_LT_look_81 Y R22 _ _ _ _ _ _ hM
theorem w_LT_look_22 {p : Program} {l : Launch} {e : Env} {s : State} {m : MethodId} {args : Array Value} {below : List Frame} {meth : Method} {c : Code} {D : va_G} {K : (Nat → Nat) × (Nat → Nat)} {h0 : hH} (Y : HX p s m args meth c prog_1_method_21_code 7 "LicenceTexts" D K "look" (some .int) h0) {F : Nat} : ∀ z : Nat, ∀ (h : hH) (x0 : Nat) (x2 : Nat) (x3 : Option Nat) (x4 : Int32) (q : (Int32 × hH)), M_LT_look_22 F z h x0 x2 x3 x4 = some q → J p l e rm_LT_look s m args below meth c 7 D cls0 (hF h0) h [(0, .ref x0), (2, .ref x2), (3, va_rf x3), (4, .int x4)] 0 0 (MQ below (hQ D cls0 h0 (some (.int q.1)) q.2) args s 0 0 (hF h0)) 22 [] := by
  intro z
  induction z with
  | zero => intro h x0 x2 x3 x4 q hM; exact absurd (show (none : Option _) = some q from hM) (fun t => by cases t)
  | succ z ih => exact b_LT_look_22 Y ih
set_option maxHeartbeats 4000000 in
set_option maxRecDepth 100000 in
theorem c_LT_look (l : Launch) (D : va_G) (K : (Nat → Nat) × (Nat → Nat)) (F : Nat) {h : hH} {x0 : Nat} {x1 : Int32} {x2 : Nat} {q : (Int32 × hH)} (hM : M_LT_look F h x0 x1 x2 = some q) : Met l y_LT_look (.code y_LT_look prog_1_method_21_code 7 (some .int) :: T0) rm_LT_look (hPc hG D cls0 K [.ref x0, .int x1, .ref x2] h) (hQ D cls0 h (some (.int q.1)) q.2) 0 0 (hF h) := by
  refine J_met (lv := [(0, .ref x0), (1, .int x1), (2, .ref x2)]) (by decide) (Nat.le_of_ble_eq_true rfl) rfl ?_
  intro p e s m below meth c X hr hlk hnm
  have Y : HX p s m _ meth c prog_1_method_21_code 7 "LicenceTexts" D K "look" (some .int) h := ⟨X, hr, hlk, hnm⟩
  unfold M_LT_look at hM
  refine J_aload_n (pc := 0) X 2 d_LT_look_0 rfl ?_
  obtain ⟨u1, eu1, hM⟩ := hb_some hM
  obtain ⟨h2, eh2, hM⟩ := hb_some hM
  refine J_callV (pc := 1) (As := []) (rest := []) (o := none) (h2 := h2) X rfl hc_Findings eu1 (c_Findings_clear l D K F eh2) (cwV_of (nA := 0) X.fix k_438 k_440 k_441 k_25 k_439 ⟨rfl, rfl, rfl⟩ (by decide +kernel) ⟨Nat.le_of_ble_eq_true rfl, Nat.le_of_ble_eq_true rfl⟩) d_LT_look_1 rfl rfl (Nat.le_of_ble_eq_true rfl) (Nat.le_of_ble_eq_true rfl) (Nat.le_of_ble_eq_true rfl) ?_
  refine J_aload_n (pc := 4) X 0 d_LT_look_4 rfl ?_
  refine J_iload_n (pc := 5) X 1 d_LT_look_5 rfl ?_
  obtain ⟨u3, eu3, hM⟩ := hb_some hM
  obtain ⟨q4, eq4, hM⟩ := hb_some hM
  refine J_callV (pc := 6) (As := [.int x1]) (rest := []) (o := (some (va_rf q4.1))) (h2 := q4.2) X rfl hc_LT eu3 (c_LT_editionOn l D K F eq4) (cwV_of (nA := 1) X.fix k_442 k_444 k_445 k_401 k_443 ⟨rfl, rfl, rfl⟩ (by decide +kernel) ⟨Nat.le_of_ble_eq_true rfl, Nat.le_of_ble_eq_true rfl⟩) d_LT_look_6 rfl rfl (Nat.le_of_ble_eq_true rfl) (Nat.le_of_ble_eq_true rfl) (Nat.le_of_ble_eq_true rfl) ?_
  refine J_astoreO_n (pc := 9) (lv' := [(3, va_rf q4.1), (0, .ref x0), (1, .int x1), (2, .ref x2)]) X d_LT_look_9 rfl (by decide) rfl ?_
  refine J_aloadO_n (pc := 10) X 0 d_LT_look_10 rfl ?_
  refine J_ifnonnull (pc := 11) (tgt := 19) X d_LT_look_11 (by decide) (fun c5 => ?_) (fun a6 c5 => ?_)
  · have hM := hc_n hM c5
    refine J_aload_n (pc := 14) X 3 d_LT_look_14 rfl ?_
    obtain ⟨u7, eu7, hM⟩ := hb_some hM
    obtain ⟨q8, eq8, hM⟩ := hb_some hM
    refine J_callV (pc := 15) (As := []) (rest := []) (o := (some (.int q8.1))) (h2 := q8.2) X rfl hc_Findings eu7 (c_Findings_answer l D K F eq8) (cwV_of (nA := 0) X.fix k_425 k_427 k_428 k_25 k_426 ⟨rfl, rfl, rfl⟩ (by decide +kernel) ⟨Nat.le_of_ble_eq_true rfl, Nat.le_of_ble_eq_true rfl⟩) d_LT_look_15 rfl rfl (Nat.le_of_ble_eq_true rfl) (Nat.le_of_ble_eq_true rfl) (Nat.le_of_ble_eq_true rfl) ?_
    obtain rfl := Option.some.inj hM
    exact J_iret (pc := 18) X hr hlk (Nat.le_of_ble_eq_true rfl) (Nat.le_of_ble_eq_true rfl) d_LT_look_18
  · have hM := hc_s hM c5
    refine J_iconst (pc := 19) (v := (0)) X d_LT_look_19 (by decide) ?_
    refine J_istore (pc := 20) (lv' := [(4, .int 0), (3, va_rf q4.1), (0, .ref x0), (1, .int x1), (2, .ref x2)]) X d_LT_look_20 (by decide) (by simp [hrf_cat]) ?_
    refine J_sub [2, 4, 1, 0] rfl ?_
    exact w_LT_look_22 Y F _ _ _ _ _ _ hM
abbrev rm_LT_run : Room := { frames := 6, cells := 0, slots := 0, locals := 147 }
set_option maxHeartbeats 4000000 in
set_option maxRecDepth 100000 in
theorem c_LT_run (l : Launch) (D : va_G) (K : (Nat → Nat) × (Nat → Nat)) (F : Nat) {h : hH} {x0 : Nat} {x1 : Int32} {q : (Int32 × hH)} (hM : M_LT_run F h x0 x1 = some q) : Met l y_LT_run (.code y_LT_run prog_1_method_7_code 2 (some .int) :: T0) rm_LT_run (hPc hG D cls0 K [.ref x0, .int x1] h) (hQ D cls0 h (some (.int q.1)) q.2) 0 0 (hF h) := by
  refine J_met (lv := [(0, .ref x0), (1, .int x1)]) (by decide) (Nat.le_of_ble_eq_true rfl) rfl ?_
  intro p e s m below meth c X hr hlk hnm
  have Y : HX p s m _ meth c prog_1_method_7_code 2 "LicenceTexts" D K "run" (some .int) h := ⟨X, hr, hlk, hnm⟩
  unfold M_LT_run at hM
  refine J_aload_n (pc := 0) X 0 d_LT_run_0 rfl ?_
  refine J_iload_n (pc := 1) X 1 d_LT_run_1 rfl ?_
  refine J_aload_n (pc := 2) X 0 d_LT_run_2 rfl ?_
  obtain ⟨v1, ev1, hM⟩ := hb_some hM
  refine J_getA (pc := 3) X hc_LT in_LT 6 k_383 (by decide) rfl d_LT_run_3 rfl ev1 ?_
  obtain ⟨u2, eu2, hM⟩ := hb_some hM
  obtain ⟨q3, eq3, hM⟩ := hb_some hM
  refine J_callV (pc := 6) (As := [.int x1, .ref v1]) (rest := []) (o := (some (.int q3.1))) (h2 := q3.2) X rfl hc_LT eu2 (c_LT_look l D K F eq3) (cwV_of (nA := 2) X.fix k_446 k_448 k_449 k_401 k_447 ⟨rfl, rfl, rfl⟩ (by decide +kernel) ⟨Nat.le_of_ble_eq_true rfl, Nat.le_of_ble_eq_true rfl⟩) d_LT_run_6 rfl rfl (Nat.le_of_ble_eq_true rfl) (Nat.le_of_ble_eq_true rfl) (Nat.le_of_ble_eq_true rfl) ?_
  obtain rfl := Option.some.inj hM
  exact J_iret (pc := 9) X hr hlk (Nat.le_of_ble_eq_true rfl) (Nat.le_of_ble_eq_true rfl) d_LT_run_9
abbrev rm_LT_walk : Room := { frames := 6, cells := 0, slots := 0, locals := 147 }
set_option maxHeartbeats 4000000 in
set_option maxRecDepth 100000 in
theorem c_LT_walk (l : Launch) (D : va_G) (K : (Nat → Nat) × (Nat → Nat)) (F : Nat) {h : hH} {x0 : Nat} {x1 : Int32} {q : (Int32 × hH)} (hM : M_LT_walk F h x0 x1 = some q) : Met l y_LT_walk (.code y_LT_walk prog_1_method_8_code 2 (some .int) :: T0) rm_LT_walk (hPc hG D cls0 K [.ref x0, .int x1] h) (hQ D cls0 h (some (.int q.1)) q.2) 0 0 (hF h) := by
  refine J_met (lv := [(0, .ref x0), (1, .int x1)]) (by decide) (Nat.le_of_ble_eq_true rfl) rfl ?_
  intro p e s m below meth c X hr hlk hnm
  have Y : HX p s m _ meth c prog_1_method_8_code 2 "LicenceTexts" D K "walk" (some .int) h := ⟨X, hr, hlk, hnm⟩
  unfold M_LT_walk at hM
  refine J_aload_n (pc := 0) X 0 d_LT_walk_0 rfl ?_
  refine J_iload_n (pc := 1) X 1 d_LT_walk_1 rfl ?_
  refine J_aload_n (pc := 2) X 0 d_LT_walk_2 rfl ?_
  obtain ⟨v1, ev1, hM⟩ := hb_some hM
  refine J_getA (pc := 3) X hc_LT in_LT 7 k_384 (by decide) rfl d_LT_walk_3 rfl ev1 ?_
  obtain ⟨u2, eu2, hM⟩ := hb_some hM
  obtain ⟨q3, eq3, hM⟩ := hb_some hM
  refine J_callV (pc := 6) (As := [.int x1, .ref v1]) (rest := []) (o := (some (.int q3.1))) (h2 := q3.2) X rfl hc_LT eu2 (c_LT_look l D K F eq3) (cwV_of (nA := 2) X.fix k_446 k_448 k_449 k_401 k_447 ⟨rfl, rfl, rfl⟩ (by decide +kernel) ⟨Nat.le_of_ble_eq_true rfl, Nat.le_of_ble_eq_true rfl⟩) d_LT_walk_6 rfl rfl (Nat.le_of_ble_eq_true rfl) (Nat.le_of_ble_eq_true rfl) (Nat.le_of_ble_eq_true rfl) ?_
  obtain rfl := Option.some.inj hM
  exact J_iret (pc := 9) X hr hlk (Nat.le_of_ble_eq_true rfl) (Nat.le_of_ble_eq_true rfl) d_LT_walk_9
abbrev rm_LT_broken : Room := { frames := 3, cells := 0, slots := 0, locals := 66 }
set_option maxHeartbeats 4000000 in
set_option maxRecDepth 100000 in
theorem c_LT_broken (l : Launch) (D : va_G) (K : (Nat → Nat) × (Nat → Nat)) (F : Nat) {h : hH} {x0 : Nat} {x1 : Int32} {x2 : Int32} {q : (Int32 × hH)} (hM : M_LT_broken F h x0 x1 x2 = some q) : Met l y_LT_broken (.code y_LT_broken prog_1_method_9_code 4 (some .int) :: T0) rm_LT_broken (hPc hG D cls0 K [.ref x0, .int x1, .int x2] h) (hQ D cls0 h (some (.int q.1)) q.2) 0 0 (hF h) := by
  refine J_met (lv := [(0, .ref x0), (1, .int x1), (2, .int x2)]) (by decide) (Nat.le_of_ble_eq_true rfl) rfl ?_
  intro p e s m below meth c X hr hlk hnm
  have Y : HX p s m _ meth c prog_1_method_9_code 4 "LicenceTexts" D K "broken" (some .int) h := ⟨X, hr, hlk, hnm⟩
  unfold M_LT_broken at hM
  refine J_aload_n (pc := 0) X 0 d_LT_broken_0 rfl ?_
  obtain ⟨v1, ev1, hM⟩ := hb_some hM
  refine J_getA (pc := 1) X hc_LT in_LT 6 k_383 (by decide) rfl d_LT_broken_1 rfl ev1 ?_
  refine J_iconst (pc := 4) (v := (1)) X d_LT_broken_4 (by decide) ?_
  refine J_iload_n (pc := 5) X 1 d_LT_broken_5 rfl ?_
  obtain ⟨u2, eu2, hM⟩ := hb_some hM
  obtain ⟨q3, eq3, hM⟩ := hb_some hM
  refine J_callV (pc := 6) (As := [.int 1, .int x1]) (rest := []) (o := (some (.int q3.1))) (h2 := q3.2) X rfl hc_Findings eu2 (c_Findings_rankedAs l D K F eq3) (cwV_of (nA := 2) X.fix k_450 k_34 k_35 k_25 k_33 ⟨rfl, rfl, rfl⟩ (by decide +kernel) ⟨Nat.le_of_ble_eq_true rfl, Nat.le_of_ble_eq_true rfl⟩) d_LT_broken_6 rfl rfl (Nat.le_of_ble_eq_true rfl) (Nat.le_of_ble_eq_true rfl) (Nat.le_of_ble_eq_true rfl) ?_
  refine J_istore_n (pc := 9) (lv' := [(3, .int q3.1), (0, .ref x0), (1, .int x1), (2, .int x2)]) X d_LT_broken_9 rfl (by decide) rfl ?_
  refine J_iload_n (pc := 10) X 3 d_LT_broken_10 rfl ?_
  by_cases c4 : x2 = 0
  · have hM := hif_t hM c4
    refine J_lookup (pc := 11) (off := 25) (tgt := 36) X d_LT_broken_11 (by decide) (by rw [c4]; rfl) (by decide) ?_
    refine J_iload_n (pc := 36) X 0 d_LT_broken_36 rfl ?_
    obtain rfl := Option.some.inj hM
    exact J_iret (pc := 37) X hr hlk (Nat.le_of_ble_eq_true rfl) (Nat.le_of_ble_eq_true rfl) d_LT_broken_37
  · have hM := hif_f hM c4
    by_cases c5 : x2 = 1
    · have hM := hif_t hM c5
      refine J_lookup (pc := 11) (off := 27) (tgt := 38) X d_LT_broken_11 (by decide) (by rw [c5]; rfl) (by decide) ?_
      refine J_aload_n (pc := 38) X 1 d_LT_broken_38 rfl ?_
      obtain ⟨v6, ev6, hM⟩ := hb_some hM
      refine J_getA (pc := 39) X hc_LT in_LT 6 k_383 (by decide) rfl d_LT_broken_39 rfl ev6 ?_
      refine J_iload_n (pc := 42) X 0 d_LT_broken_42 rfl ?_
      obtain ⟨u7, eu7, hM⟩ := hb_some hM
      obtain ⟨q8, eq8, hM⟩ := hb_some hM
      refine J_callV (pc := 43) (As := [.int q3.1]) (rest := []) (o := (some (.int q8.1))) (h2 := q8.2) X rfl hc_Findings eu7 (c_Findings_firstWordOf l D K F eq8) (cwV_of (nA := 1) X.fix k_451 k_453 k_454 k_25 k_452 ⟨rfl, rfl, rfl⟩ (by decide +kernel) ⟨Nat.le_of_ble_eq_true rfl, Nat.le_of_ble_eq_true rfl⟩) d_LT_broken_43 rfl rfl (Nat.le_of_ble_eq_true rfl) (Nat.le_of_ble_eq_true rfl) (Nat.le_of_ble_eq_true rfl) ?_
      obtain rfl := Option.some.inj hM
      exact J_iret (pc := 46) X hr hlk (Nat.le_of_ble_eq_true rfl) (Nat.le_of_ble_eq_true rfl) d_LT_broken_46
    · have hM := hif_f hM c5
      refine J_lookup (pc := 11) (off := 36) (tgt := 47) X d_LT_broken_11 (by decide) (by rw [lv_osw c4 (a := 0) (by decide), lv_osw c5 (a := 1) (by decide)]; rfl) (by decide) ?_
      refine J_iconst (pc := 47) (v := (-1)) X d_LT_broken_47 (by decide) ?_
      obtain rfl := Option.some.inj hM
      exact J_iret (pc := 48) X hr hlk (Nat.le_of_ble_eq_true rfl) (Nat.le_of_ble_eq_true rfl) d_LT_broken_48
abbrev rm_LT_open : Room := { frames := 3, cells := 0, slots := 0, locals := 66 }
set_option maxHeartbeats 4000000 in
set_option maxRecDepth 100000 in
theorem c_LT_open (l : Launch) (D : va_G) (K : (Nat → Nat) × (Nat → Nat)) (F : Nat) {h : hH} {x0 : Nat} {x1 : Int32} {x2 : Int32} {q : (Int32 × hH)} (hM : M_LT_open F h x0 x1 x2 = some q) : Met l y_LT_open (.code y_LT_open prog_1_method_10_code 4 (some .int) :: T0) rm_LT_open (hPc hG D cls0 K [.ref x0, .int x1, .int x2] h) (hQ D cls0 h (some (.int q.1)) q.2) 0 0 (hF h) := by
  refine J_met (lv := [(0, .ref x0), (1, .int x1), (2, .int x2)]) (by decide) (Nat.le_of_ble_eq_true rfl) rfl ?_
  intro p e s m below meth c X hr hlk hnm
  have Y : HX p s m _ meth c prog_1_method_10_code 4 "LicenceTexts" D K "open" (some .int) h := ⟨X, hr, hlk, hnm⟩
  unfold M_LT_open at hM
  refine J_aload_n (pc := 0) X 0 d_LT_open_0 rfl ?_
  obtain ⟨v1, ev1, hM⟩ := hb_some hM
  refine J_getA (pc := 1) X hc_LT in_LT 6 k_383 (by decide) rfl d_LT_open_1 rfl ev1 ?_
  refine J_iconst (pc := 4) (v := (2)) X d_LT_open_4 (by decide) ?_
  refine J_iload_n (pc := 5) X 1 d_LT_open_5 rfl ?_
  obtain ⟨u2, eu2, hM⟩ := hb_some hM
  obtain ⟨q3, eq3, hM⟩ := hb_some hM
  refine J_callV (pc := 6) (As := [.int 2, .int x1]) (rest := []) (o := (some (.int q3.1))) (h2 := q3.2) X rfl hc_Findings eu2 (c_Findings_rankedAs l D K F eq3) (cwV_of (nA := 2) X.fix k_450 k_34 k_35 k_25 k_33 ⟨rfl, rfl, rfl⟩ (by decide +kernel) ⟨Nat.le_of_ble_eq_true rfl, Nat.le_of_ble_eq_true rfl⟩) d_LT_open_6 rfl rfl (Nat.le_of_ble_eq_true rfl) (Nat.le_of_ble_eq_true rfl) (Nat.le_of_ble_eq_true rfl) ?_
  refine J_istore_n (pc := 9) (lv' := [(3, .int q3.1), (0, .ref x0), (1, .int x1), (2, .int x2)]) X d_LT_open_9 rfl (by decide) rfl ?_
  refine J_iload_n (pc := 10) X 3 d_LT_open_10 rfl ?_
  by_cases c4 : x2 = 0
  · have hM := hif_t hM c4
    refine J_tableIn (pc := 11) (tgt := 36) X 0 c4 d_LT_open_11 (by decide) (by decide) rfl (by decide) ?_
    refine J_iload_n (pc := 36) X 0 d_LT_open_36 rfl ?_
    obtain rfl := Option.some.inj hM
    exact J_iret (pc := 37) X hr hlk (Nat.le_of_ble_eq_true rfl) (Nat.le_of_ble_eq_true rfl) d_LT_open_37
  · have hM := hif_f hM c4
    by_cases c5 : x2 = 1
    · have hM := hif_t hM c5
      refine J_tableIn (pc := 11) (tgt := 38) X 1 c5 d_LT_open_11 (by decide) (by decide) rfl (by decide) ?_
      refine J_aload_n (pc := 38) X 1 d_LT_open_38 rfl ?_
      obtain ⟨v6, ev6, hM⟩ := hb_some hM
      refine J_getA (pc := 39) X hc_LT in_LT 6 k_383 (by decide) rfl d_LT_open_39 rfl ev6 ?_
      refine J_iload_n (pc := 42) X 0 d_LT_open_42 rfl ?_
      obtain ⟨u7, eu7, hM⟩ := hb_some hM
      obtain ⟨q8, eq8, hM⟩ := hb_some hM
      refine J_callV (pc := 43) (As := [.int q3.1]) (rest := []) (o := (some (.int q8.1))) (h2 := q8.2) X rfl hc_Findings eu7 (c_Findings_reasonOf l D K F eq8) (cwV_of (nA := 1) X.fix k_455 k_457 k_458 k_25 k_456 ⟨rfl, rfl, rfl⟩ (by decide +kernel) ⟨Nat.le_of_ble_eq_true rfl, Nat.le_of_ble_eq_true rfl⟩) d_LT_open_43 rfl rfl (Nat.le_of_ble_eq_true rfl) (Nat.le_of_ble_eq_true rfl) (Nat.le_of_ble_eq_true rfl) ?_
      obtain rfl := Option.some.inj hM
      exact J_iret (pc := 46) X hr hlk (Nat.le_of_ble_eq_true rfl) (Nat.le_of_ble_eq_true rfl) d_LT_open_46
    · have hM := hif_f hM c5
      by_cases c9 : x2 = 2
      · have hM := hif_t hM c9
        refine J_tableIn (pc := 11) (tgt := 47) X 2 c9 d_LT_open_11 (by decide) (by decide) rfl (by decide) ?_
        refine J_aload_n (pc := 47) X 1 d_LT_open_47 rfl ?_
        obtain ⟨v10, ev10, hM⟩ := hb_some hM
        refine J_getA (pc := 48) X hc_LT in_LT 6 k_383 (by decide) rfl d_LT_open_48 rfl ev10 ?_
        refine J_iload_n (pc := 51) X 0 d_LT_open_51 rfl ?_
        obtain ⟨u11, eu11, hM⟩ := hb_some hM
        obtain ⟨q12, eq12, hM⟩ := hb_some hM
        refine J_callV (pc := 52) (As := [.int q3.1]) (rest := []) (o := (some (.int q12.1))) (h2 := q12.2) X rfl hc_Findings eu11 (c_Findings_untoldOf l D K F eq12) (cwV_of (nA := 1) X.fix k_459 k_461 k_462 k_25 k_460 ⟨rfl, rfl, rfl⟩ (by decide +kernel) ⟨Nat.le_of_ble_eq_true rfl, Nat.le_of_ble_eq_true rfl⟩) d_LT_open_52 rfl rfl (Nat.le_of_ble_eq_true rfl) (Nat.le_of_ble_eq_true rfl) (Nat.le_of_ble_eq_true rfl) ?_
        obtain rfl := Option.some.inj hM
        exact J_iret (pc := 55) X hr hlk (Nat.le_of_ble_eq_true rfl) (Nat.le_of_ble_eq_true rfl) d_LT_open_55
      · have hM := hif_f hM c9
        have nc4 := lv_neT c4 (a := 0) (by decide)
        have nc5 := lv_neT c5 (a := 1) (by decide)
        have nc9 := lv_neT c9 (a := 2) (by decide)
        refine J_tableOut (pc := 11) (tgt := 56) X d_LT_open_11 (by omega) (by decide) ?_
        refine J_iconst (pc := 56) (v := (-1)) X d_LT_open_56 (by decide) ?_
        obtain rfl := Option.some.inj hM
        exact J_iret (pc := 57) X hr hlk (Nat.le_of_ble_eq_true rfl) (Nat.le_of_ble_eq_true rfl) d_LT_open_57
abbrev rm_LT_explain : Room := { frames := 2, cells := 0, slots := 0, locals := 42 }
set_option maxHeartbeats 4000000 in
set_option maxRecDepth 100000 in
theorem c_LT_explain (l : Launch) (D : va_G) (K : (Nat → Nat) × (Nat → Nat)) (F : Nat) {h : hH} {x0 : Nat} {x1 : Int32} {q : (Int32 × hH)} (hM : M_LT_explain F h x0 x1 = some q) : Met l y_LT_explain (.code y_LT_explain prog_1_method_11_code 2 (some .int) :: T0) rm_LT_explain (hPc hG D cls0 K [.ref x0, .int x1] h) (hQ D cls0 h (some (.int q.1)) q.2) 0 0 (hF h) := by
  refine J_met (lv := [(0, .ref x0), (1, .int x1)]) (by decide) (Nat.le_of_ble_eq_true rfl) rfl ?_
  intro p e s m below meth c X hr hlk hnm
  have Y : HX p s m _ meth c prog_1_method_11_code 2 "LicenceTexts" D K "explain" (some .int) h := ⟨X, hr, hlk, hnm⟩
  unfold M_LT_explain at hM
  refine J_aload_n (pc := 0) X 0 d_LT_explain_0 rfl ?_
  obtain ⟨v1, ev1, hM⟩ := hb_some hM
  refine J_getA (pc := 1) X hc_LT in_LT 6 k_383 (by decide) rfl d_LT_explain_1 rfl ev1 ?_
  refine J_iload_n (pc := 4) X 1 d_LT_explain_4 rfl ?_
  obtain ⟨u2, eu2, hM⟩ := hb_some hM
  obtain ⟨q3, eq3, hM⟩ := hb_some hM
  refine J_callV (pc := 5) (As := [.int x1]) (rest := []) (o := (some (.int q3.1))) (h2 := q3.2) X rfl hc_Findings eu2 (c_Findings_outcomeOf l D K F eq3) (cwV_of (nA := 1) X.fix k_463 k_30 k_31 k_25 k_29 ⟨rfl, rfl, rfl⟩ (by decide +kernel) ⟨Nat.le_of_ble_eq_true rfl, Nat.le_of_ble_eq_true rfl⟩) d_LT_explain_5 rfl rfl (Nat.le_of_ble_eq_true rfl) (Nat.le_of_ble_eq_true rfl) (Nat.le_of_ble_eq_true rfl) ?_
  obtain rfl := Option.some.inj hM
  exact J_iret (pc := 8) X hr hlk (Nat.le_of_ble_eq_true rfl) (Nat.le_of_ble_eq_true rfl) d_LT_explain_8
abbrev rm_LT_allowed : Room := { frames := 6, cells := 0, slots := 0, locals := 147 }
set_option maxHeartbeats 4000000 in
set_option maxRecDepth 100000 in
theorem w_LT_allowed_94 {p : Program} {l : Launch} {e : Env} {s : State} {m : MethodId} {args : Array Value} {below : List Frame} {meth : Method} {c : Code} {D : va_G} {K : (Nat → Nat) × (Nat → Nat)} {h0 : hH} (Y : HX p s m args meth c prog_1_method_13_code 9 "LicenceTexts" D K "allowed" (some .int) h0) {F : Nat} (h : hH) (x0 : Nat) (x2 : Int32) (x4 : Int32) (x5 : Int64) (x7 : Int32) (q : (Int32 × hH)) (hM : M_LT_allowed_94 F h x0 x2 x4 x5 x7 = some q) : J p l e rm_LT_allowed s m args below meth c 9 D cls0 (hF h0) h [(0, .ref x0), (2, .int x2), (4, .int x4), (5, .long x5), (7, .int x7)] 0 0 (MQ below (hQ D cls0 h0 (some (.int q.1)) q.2) args s 0 0 (hF h0)) 94 [] := by
  obtain ⟨X, hr, hlk, hnm⟩ := id Y
  unfold M_LT_allowed_94 at hM
  refine J_aload_n (pc := 94) X 0 d_LT_allowed_94 rfl ?_
  obtain ⟨v1, ev1, hM⟩ := hb_some hM
  refine J_getA (pc := 95) X hc_LT in_LT 4 k_371 (by decide) rfl d_LT_allowed_95 rfl ev1 ?_
  refine J_iload_n (pc := 98) X 1 d_LT_allowed_98 rfl ?_
  refine J_lload (pc := 99) X 3 d_LT_allowed_99 rfl ?_
  refine J_iload (pc := 101) X 2 d_LT_allowed_101 rfl ?_
  obtain ⟨u2, eu2, hM⟩ := hb_some hM
  obtain ⟨h3, eh3, hM⟩ := hb_some hM
  refine J_callV (pc := 103) (As := [.int x2, .long x5, .int x4]) (rest := []) (o := none) (h2 := h3) X rfl hc_Facts eu2 (c_Facts_put l D K F eh3) (cwV_of (nA := 3) X.fix k_417 k_419 k_420 k_13 k_418 ⟨rfl, rfl, rfl⟩ (by decide +kernel) ⟨Nat.le_of_ble_eq_true rfl, Nat.le_of_ble_eq_true rfl⟩) d_LT_allowed_103 rfl rfl (Nat.le_of_ble_eq_true rfl) (Nat.le_of_ble_eq_true rfl) (Nat.le_of_ble_eq_true rfl) ?_
  refine J_iload (pc := 106) X 4 d_LT_allowed_106 rfl ?_
  obtain rfl := Option.some.inj hM
  exact J_iret (pc := 108) X hr hlk (Nat.le_of_ble_eq_true rfl) (Nat.le_of_ble_eq_true rfl) d_LT_allowed_108
set_option maxHeartbeats 4000000 in
set_option maxRecDepth 100000 in
theorem w_LT_allowed_88 {p : Program} {l : Launch} {e : Env} {s : State} {m : MethodId} {args : Array Value} {below : List Frame} {meth : Method} {c : Code} {D : va_G} {K : (Nat → Nat) × (Nat → Nat)} {h0 : hH} (Y : HX p s m args meth c prog_1_method_13_code 9 "LicenceTexts" D K "allowed" (some .int) h0) {F : Nat} {r49 : hH → Nat → Int32 → Int32 → Int32 → Int64 → Int32 → Int32 → Option (Int32 × hH)} (R49 : ∀ (h : hH) (x0 : Nat) (x1 : Int32) (x2 : Int32) (x4 : Int32) (x5 : Int64) (x7 : Int32) (x8 : Int32) (q : (Int32 × hH)), r49 h x0 x1 x2 x4 x5 x7 x8 = some q → J p l e rm_LT_allowed s m args below meth c 9 D cls0 (hF h0) h [(0, .ref x0), (1, .int x1), (2, .int x2), (4, .int x4), (5, .long x5), (7, .int x7), (8, .int x8)] 0 0 (MQ below (hQ D cls0 h0 (some (.int q.1)) q.2) args s 0 0 (hF h0)) 49 []) (h : hH) (x0 : Nat) (x1 : Int32) (x2 : Int32) (x4 : Int32) (x5 : Int64) (x7 : Int32) (x8 : Int32) (q : (Int32 × hH)) (hM : M_LT_allowed_88 F r49 h x0 x1 x2 x4 x5 x7 x8 = some q) : J p l e rm_LT_allowed s m args below meth c 9 D cls0 (hF h0) h [(0, .ref x0), (1, .int x1), (2, .int x2), (4, .int x4), (5, .long x5), (7, .int x7), (8, .int x8)] 0 0 (MQ below (hQ D cls0 h0 (some (.int q.1)) q.2) args s 0 0 (hF h0)) 88 [] := by
  obtain ⟨X, hr, hlk, hnm⟩ := id Y
  unfold M_LT_allowed_88 at hM
  refine J_iinc (pc := 88) (v := x8 + (-1)) (lv' := [(8, .int (x8 + (-1))), (0, .ref x0), (1, .int x1), (2, .int x2), (4, .int x4), (5, .long x5), (7, .int x7)]) X 6 d_LT_allowed_88 rfl rfl (by decide) rfl ?_
  refine J_goto (pc := 91) (tgt := 49) X d_LT_allowed_91 (by decide) ?_
  refine J_sub [1, 2, 3, 4, 5, 6, 0] rfl ?_
  exact R49 _ _ _ _ _ _ _ _ _ hM
set_option maxHeartbeats 4000000 in
set_option maxRecDepth 100000 in
theorem b_LT_allowed_49 {p : Program} {l : Launch} {e : Env} {s : State} {m : MethodId} {args : Array Value} {below : List Frame} {meth : Method} {c : Code} {D : va_G} {K : (Nat → Nat) × (Nat → Nat)} {h0 : hH} (Y : HX p s m args meth c prog_1_method_13_code 9 "LicenceTexts" D K "allowed" (some .int) h0) {F : Nat}   {r49 : hH → Nat → Int32 → Int32 → Int32 → Int64 → Int32 → Int32 → Option (Int32 × hH)} (R49 : ∀ (h : hH) (x0 : Nat) (x1 : Int32) (x2 : Int32) (x4 : Int32) (x5 : Int64) (x7 : Int32) (x8 : Int32) (q : (Int32 × hH)), r49 h x0 x1 x2 x4 x5 x7 x8 = some q → J p l e rm_LT_allowed s m args below meth c 9 D cls0 (hF h0) h [(0, .ref x0), (1, .int x1), (2, .int x2), (4, .int x4), (5, .long x5), (7, .int x7), (8, .int x8)] 0 0 (MQ below (hQ D cls0 h0 (some (.int q.1)) q.2) args s 0 0 (hF h0)) 49 []) : ∀ (h : hH) (x0 : Nat) (x1 : Int32) (x2 : Int32) (x4 : Int32) (x5 : Int64) (x7 : Int32) (x8 : Int32) (q : (Int32 × hH)), B_LT_allowed_49 F r49 h x0 x1 x2 x4 x5 x7 x8 = some q → J p l e rm_LT_allowed s m args below meth c 9 D cls0 (hF h0) h [(0, .ref x0), (1, .int x1), (2, .int x2), (4, .int x4), (5, .long x5), (7, .int x7), (8, .int x8)] 0 0 (MQ below (hQ D cls0 h0 (some (.int q.1)) q.2) args s 0 0 (hF h0)) 49 [] := by
  intro h x0 x1 x2 x4 x5 x7 x8 q hM
  obtain ⟨X, hr, hlk, hnm⟩ := id Y
  unfold B_LT_allowed_49 at hM
  refine J_iload (pc := 49) X 6 d_LT_allowed_49 rfl ?_
  refine J_if_lt (pc := 51) (tgt := 94) X d_LT_allowed_51 (by decide) (fun c1 => ?_) (fun c1 => ?_)
  · have hM := hif_t hM c1
    refine J_sub [0, 2, 3, 4, 5] rfl ?_
    exact w_LT_allowed_94 Y _ _ _ _ _ _ _ hM
  · have hM := hif_f hM c1
    refine J_iload (pc := 54) X 5 d_LT_allowed_54 rfl ?_
    refine J_iconst (pc := 56) (v := (-1)) X d_LT_allowed_56 (by decide) ?_
    refine J_icmp_ne (pc := 57) (tgt := 94) X d_LT_allowed_57 (by decide) (fun c2 => ?_) (fun c2 => ?_)
    · have hM := hif_f hM c2
      refine J_sub [0, 2, 3, 4, 5] rfl ?_
      exact w_LT_allowed_94 Y _ _ _ _ _ _ _ hM
    · have hM := hif_t hM c2
      refine J_aload_n (pc := 60) X 0 d_LT_allowed_60 rfl ?_
      obtain ⟨v3, ev3, hM⟩ := hb_some hM
      refine J_getA (pc := 61) X hc_LT in_LT 4 k_371 (by decide) rfl d_LT_allowed_61 rfl ev3 ?_
      refine J_iload_n (pc := 64) X 2 d_LT_allowed_64 rfl ?_
      refine J_iload (pc := 65) X 6 d_LT_allowed_65 rfl ?_
      refine J_i2l (pc := 67) X d_LT_allowed_67 ?_
      refine J_iconst (pc := 68) (v := (1)) X d_LT_allowed_68 (by decide) ?_
      obtain ⟨u4, eu4, hM⟩ := hb_some hM
      obtain ⟨h5, eh5, hM⟩ := hb_some hM
      refine J_callV (pc := 69) (As := [.int x2, .long x8.toInt64, .int 1]) (rest := []) (o := none) (h2 := h5) X rfl hc_Facts eu4 (c_Facts_put l D K F eh5) (cwV_of (nA := 3) X.fix k_417 k_419 k_420 k_13 k_418 ⟨rfl, rfl, rfl⟩ (by decide +kernel) ⟨Nat.le_of_ble_eq_true rfl, Nat.le_of_ble_eq_true rfl⟩) d_LT_allowed_69 rfl rfl (Nat.le_of_ble_eq_true rfl) (Nat.le_of_ble_eq_true rfl) (Nat.le_of_ble_eq_true rfl) ?_
      refine J_aload_n (pc := 72) X 0 d_LT_allowed_72 rfl ?_
      refine J_iload_n (pc := 73) X 1 d_LT_allowed_73 rfl ?_
      refine J_aload_n (pc := 74) X 0 d_LT_allowed_74 rfl ?_
      obtain ⟨v6, ev6, hM⟩ := hb_some hM
      refine J_getA (pc := 75) X hc_LT in_LT 7 k_384 (by decide) rfl d_LT_allowed_75 rfl ev6 ?_
      obtain ⟨u7, eu7, hM⟩ := hb_some hM
      obtain ⟨q8, eq8, hM⟩ := hb_some hM
      refine J_callV (pc := 78) (As := [.int x1, .ref v6]) (rest := []) (o := (some (.int q8.1))) (h2 := q8.2) X rfl hc_LT eu7 (c_LT_look l D K F eq8) (cwV_of (nA := 2) X.fix k_446 k_448 k_449 k_401 k_447 ⟨rfl, rfl, rfl⟩ (by decide +kernel) ⟨Nat.le_of_ble_eq_true rfl, Nat.le_of_ble_eq_true rfl⟩) d_LT_allowed_78 rfl rfl (Nat.le_of_ble_eq_true rfl) (Nat.le_of_ble_eq_true rfl) (Nat.le_of_ble_eq_true rfl) ?_
      refine J_if_ne (pc := 81) (tgt := 88) X d_LT_allowed_81 (by decide) (fun c9 => ?_) (fun c9 => ?_)
      · have hM := hif_f hM c9
        exact w_LT_allowed_88 Y R49 _ _ _ _ _ _ _ _ _ hM
      · have hM := hif_t hM c9
        refine J_iload (pc := 84) X 6 d_LT_allowed_84 rfl ?_
        refine J_istore (pc := 86) (lv' := [(7, .int x8), (0, .ref x0), (1, .int x1), (2, .int x2), (4, .int x4), (5, .long x5), (8, .int x8)]) X d_LT_allowed_86 (by decide) rfl ?_
        refine J_sub [1, 2, 3, 4, 5, 0, 6] rfl ?_
        exact w_LT_allowed_88 Y R49 _ _ _ _ _ _ _ _ _ hM
theorem w_LT_allowed_49 {p : Program} {l : Launch} {e : Env} {s : State} {m : MethodId} {args : Array Value} {below : List Frame} {meth : Method} {c : Code} {D : va_G} {K : (Nat → Nat) × (Nat → Nat)} {h0 : hH} (Y : HX p s m args meth c prog_1_method_13_code 9 "LicenceTexts" D K "allowed" (some .int) h0) {F : Nat} : ∀ z : Nat, ∀ (h : hH) (x0 : Nat) (x1 : Int32) (x2 : Int32) (x4 : Int32) (x5 : Int64) (x7 : Int32) (x8 : Int32) (q : (Int32 × hH)), M_LT_allowed_49 F z h x0 x1 x2 x4 x5 x7 x8 = some q → J p l e rm_LT_allowed s m args below meth c 9 D cls0 (hF h0) h [(0, .ref x0), (1, .int x1), (2, .int x2), (4, .int x4), (5, .long x5), (7, .int x7), (8, .int x8)] 0 0 (MQ below (hQ D cls0 h0 (some (.int q.1)) q.2) args s 0 0 (hF h0)) 49 [] := by
  intro z
  induction z with
  | zero => intro h x0 x1 x2 x4 x5 x7 x8 q hM; exact absurd (show (none : Option _) = some q from hM) (fun t => by cases t)
  | succ z ih => exact b_LT_allowed_49 Y ih
set_option maxHeartbeats 4000000 in
set_option maxRecDepth 100000 in
theorem c_LT_allowed (l : Launch) (D : va_G) (K : (Nat → Nat) × (Nat → Nat)) (F : Nat) {h : hH} {x0 : Nat} {x1 : Int32} {x2 : Int32} {x3 : Int32} {q : (Int32 × hH)} (hM : M_LT_allowed F h x0 x1 x2 x3 = some q) : Met l y_LT_allowed (.code y_LT_allowed prog_1_method_13_code 9 (some .int) :: T0) rm_LT_allowed (hPc hG D cls0 K [.ref x0, .int x1, .int x2, .int x3] h) (hQ D cls0 h (some (.int q.1)) q.2) 0 0 (hF h) := by
  refine J_met (lv := [(0, .ref x0), (1, .int x1), (2, .int x2), (3, .int x3)]) (by decide) (Nat.le_of_ble_eq_true rfl) rfl ?_
  intro p e s m below meth c X hr hlk hnm
  have Y : HX p s m _ meth c prog_1_method_13_code 9 "LicenceTexts" D K "allowed" (some .int) h := ⟨X, hr, hlk, hnm⟩
  unfold M_LT_allowed at hM
  refine J_aload_n (pc := 0) X 0 d_LT_allowed_0 rfl ?_
  obtain ⟨v1, ev1, hM⟩ := hb_some hM
  refine J_getA (pc := 1) X hc_LT in_LT 4 k_371 (by decide) rfl d_LT_allowed_1 rfl ev1 ?_
  refine J_iload_n (pc := 4) X 2 d_LT_allowed_4 rfl ?_
  obtain ⟨u2, eu2, hM⟩ := hb_some hM
  obtain ⟨q3, eq3, hM⟩ := hb_some hM
  refine J_callV (pc := 5) (As := [.int x2]) (rest := []) (o := (some (.int q3.1))) (h2 := q3.2) X rfl hc_Facts eu2 (c_Facts_has l D K F eq3) (cwV_of (nA := 1) X.fix k_416 k_14 k_15 k_13 k_12 ⟨rfl, rfl, rfl⟩ (by decide +kernel) ⟨Nat.le_of_ble_eq_true rfl, Nat.le_of_ble_eq_true rfl⟩) d_LT_allowed_5 rfl rfl (Nat.le_of_ble_eq_true rfl) (Nat.le_of_ble_eq_true rfl) (Nat.le_of_ble_eq_true rfl) ?_
  refine J_if_eq (pc := 8) (tgt := 21) X d_LT_allowed_8 (by decide) (fun c4 => ?_) (fun c4 => ?_)
  · have hM := hif_t hM c4
    refine J_iconst (pc := 21) (v := (-1)) X d_LT_allowed_21 (by decide) ?_
    obtain rfl := Option.some.inj hM
    exact J_iret (pc := 22) X hr hlk (Nat.le_of_ble_eq_true rfl) (Nat.le_of_ble_eq_true rfl) d_LT_allowed_22
  · have hM := hif_f hM c4
    refine J_iload_n (pc := 11) X 3 d_LT_allowed_11 rfl ?_
    refine J_if_lt (pc := 12) (tgt := 21) X d_LT_allowed_12 (by decide) (fun c5 => ?_) (fun c5 => ?_)
    · have hM := hif_t hM c5
      refine J_iconst (pc := 21) (v := (-1)) X d_LT_allowed_21 (by decide) ?_
      obtain rfl := Option.some.inj hM
      exact J_iret (pc := 22) X hr hlk (Nat.le_of_ble_eq_true rfl) (Nat.le_of_ble_eq_true rfl) d_LT_allowed_22
    · have hM := hif_f hM c5
      refine J_iload_n (pc := 15) X 3 d_LT_allowed_15 rfl ?_
      refine J_bipush (pc := 16) (v := (20)) X d_LT_allowed_16 (by decide) ?_
      refine J_icmp_le (pc := 18) (tgt := 23) X d_LT_allowed_18 (by decide) (fun c6 => ?_) (fun c6 => ?_)
      · have hM := hif_t hM c6
        refine J_aload_n (pc := 23) X 0 d_LT_allowed_23 rfl ?_
        obtain ⟨v7, ev7, hM⟩ := hb_some hM
        refine J_getA (pc := 24) X hc_LT in_LT 4 k_371 (by decide) rfl d_LT_allowed_24 rfl ev7 ?_
        refine J_iload_n (pc := 27) X 2 d_LT_allowed_27 rfl ?_
        obtain ⟨u8, eu8, hM⟩ := hb_some hM
        obtain ⟨q9, eq9, hM⟩ := hb_some hM
        refine J_callV (pc := 28) (As := [.int x2]) (rest := []) (o := (some (.int q9.1))) (h2 := q9.2) X rfl hc_Facts eu8 (c_Facts_isTold l D K F eq9) (cwV_of (nA := 1) X.fix k_464 k_190 k_191 k_13 k_189 ⟨rfl, rfl, rfl⟩ (by decide +kernel) ⟨Nat.le_of_ble_eq_true rfl, Nat.le_of_ble_eq_true rfl⟩) d_LT_allowed_28 rfl rfl (Nat.le_of_ble_eq_true rfl) (Nat.le_of_ble_eq_true rfl) (Nat.le_of_ble_eq_true rfl) ?_
        refine J_istore (pc := 31) (lv' := [(4, .int q9.1), (0, .ref x0), (1, .int x1), (2, .int x2), (3, .int x3)]) X d_LT_allowed_31 (by decide) rfl ?_
        refine J_aload_n (pc := 33) X 1 d_LT_allowed_33 rfl ?_
        obtain ⟨v10, ev10, hM⟩ := hb_some hM
        refine J_getA (pc := 34) X hc_LT in_LT 4 k_371 (by decide) rfl d_LT_allowed_34 rfl ev10 ?_
        refine J_iload_n (pc := 37) X 3 d_LT_allowed_37 rfl ?_
        obtain ⟨u11, eu11, hM⟩ := hb_some hM
        obtain ⟨q12, eq12, hM⟩ := hb_some hM
        refine J_callV (pc := 38) (As := [.int x2]) (rest := []) (o := (some (.long q12.1))) (h2 := q12.2) X rfl hc_Facts eu11 (c_Facts_valueOf l D K F eq12) (cwV_of (nA := 1) X.fix k_465 k_194 k_195 k_13 k_193 ⟨rfl, rfl, rfl⟩ (by decide +kernel) ⟨Nat.le_of_ble_eq_true rfl, Nat.le_of_ble_eq_true rfl⟩) d_LT_allowed_38 rfl rfl (Nat.le_of_ble_eq_true rfl) (Nat.le_of_ble_eq_true rfl) (Nat.le_of_ble_eq_true rfl) ?_
        refine J_lstore (pc := 41) (lv' := [(5, .long q12.1), (4, .int q9.1), (0, .ref x0), (1, .int x1), (2, .int x2), (3, .int x3)]) X d_LT_allowed_41 (by decide) rfl ?_
        refine J_iconst (pc := 43) (v := (-1)) X d_LT_allowed_43 (by decide) ?_
        refine J_istore (pc := 44) (lv' := [(7, .int (-1)), (5, .long q12.1), (4, .int q9.1), (0, .ref x0), (1, .int x1), (2, .int x2), (3, .int x3)]) X d_LT_allowed_44 (by decide) rfl ?_
        refine J_iload_n (pc := 46) X 6 d_LT_allowed_46 rfl ?_
        refine J_istore (pc := 47) (lv' := [(8, .int x3), (7, .int (-1)), (5, .long q12.1), (4, .int q9.1), (0, .ref x0), (1, .int x1), (2, .int x2), (3, .int x3)]) X d_LT_allowed_47 (by decide) rfl ?_
        refine J_sub [4, 5, 6, 3, 2, 1, 0] rfl ?_
        exact w_LT_allowed_49 Y F _ _ _ _ _ _ _ _ _ hM
      · have hM := hif_f hM c6
        refine J_iconst (pc := 21) (v := (-1)) X d_LT_allowed_21 (by decide) ?_
        obtain rfl := Option.some.inj hM
        exact J_iret (pc := 22) X hr hlk (Nat.le_of_ble_eq_true rfl) (Nat.le_of_ble_eq_true rfl) d_LT_allowed_22
abbrev rm_LT_write : Room := { frames := 2, cells := 0, slots := 0, locals := 47 }
set_option maxHeartbeats 4000000 in
set_option maxRecDepth 100000 in
theorem c_LT_write (l : Launch) (D : va_G) (K : (Nat → Nat) × (Nat → Nat)) (F : Nat) {h : hH} {x0 : Nat} {x1 : Int32} {x2 : Int32} {q : (Int32 × hH)} (hM : M_LT_write F h x0 x1 x2 = some q) : Met l y_LT_write (.code y_LT_write prog_1_method_14_code 5 (some .int) :: T0) rm_LT_write (hPc hG D cls0 K [.ref x0, .int x1, .int x2] h) (hQ D cls0 h (some (.int q.1)) q.2) 0 0 (hF h) := by
  refine J_met (lv := [(0, .ref x0), (1, .int x1), (2, .int x2)]) (by decide) (Nat.le_of_ble_eq_true rfl) rfl ?_
  intro p e s m below meth c X hr hlk hnm
  have Y : HX p s m _ meth c prog_1_method_14_code 5 "LicenceTexts" D K "write" (some .int) h := ⟨X, hr, hlk, hnm⟩
  unfold M_LT_write at hM
  refine J_aload_n (pc := 0) X 0 d_LT_write_0 rfl ?_
  refine J_iload_n (pc := 1) X 1 d_LT_write_1 rfl ?_
  obtain ⟨u1, eu1, hM⟩ := hb_some hM
  obtain ⟨q2, eq2, hM⟩ := hb_some hM
  refine J_callV (pc := 2) (As := [.int x1]) (rest := []) (o := (some (va_rf q2.1))) (h2 := q2.2) X rfl hc_LT eu1 (c_LT_editionOn l D K F eq2) (cwV_of (nA := 1) X.fix k_442 k_444 k_445 k_401 k_443 ⟨rfl, rfl, rfl⟩ (by decide +kernel) ⟨Nat.le_of_ble_eq_true rfl, Nat.le_of_ble_eq_true rfl⟩) d_LT_write_2 rfl rfl (Nat.le_of_ble_eq_true rfl) (Nat.le_of_ble_eq_true rfl) (Nat.le_of_ble_eq_true rfl) ?_
  refine J_astoreO_n (pc := 5) (lv' := [(3, va_rf q2.1), (0, .ref x0), (1, .int x1), (2, .int x2)]) X d_LT_write_5 rfl (by decide) rfl ?_
  refine J_aloadO_n (pc := 6) X 0 d_LT_write_6 rfl ?_
  refine J_ifnonnull (pc := 7) (tgt := 12) X d_LT_write_7 (by decide) (fun c3 => ?_) (fun a4 c3 => ?_)
  · have hM := hc_n hM c3
    refine J_iconst (pc := 10) (v := (-1)) X d_LT_write_10 (by decide) ?_
    obtain rfl := Option.some.inj hM
    exact J_iret (pc := 11) X hr hlk (Nat.le_of_ble_eq_true rfl) (Nat.le_of_ble_eq_true rfl) d_LT_write_11
  · have hM := hc_s hM c3
    refine J_aloadO_n (pc := 12) X 0 d_LT_write_12 rfl ?_
    refine J_iload_n (pc := 13) X 3 d_LT_write_13 rfl ?_
    refine J_st (st' := [.int x2, .ref a4]) (by rw [hrf c3] <;> rfl) ?_
    obtain ⟨u5, eu5, hM⟩ := hb_some hM
    obtain ⟨q6, eq6, hM⟩ := hb_some hM
    refine J_callV (pc := 14) (As := [.int x2]) (rest := []) (o := (some (va_rf q6.1))) (h2 := q6.2) X rfl hc_Edition eu5 (c_Edition_ruleAt l D K F eq6) (cwV_of (nA := 1) X.fix k_429 k_168 k_169 k_167 k_166 ⟨rfl, rfl, rfl⟩ (by decide +kernel) ⟨Nat.le_of_ble_eq_true rfl, Nat.le_of_ble_eq_true rfl⟩) d_LT_write_14 rfl rfl (Nat.le_of_ble_eq_true rfl) (Nat.le_of_ble_eq_true rfl) (Nat.le_of_ble_eq_true rfl) ?_
    refine J_astoreO (pc := 17) (lv' := [(4, va_rf q6.1), (3, va_rf q2.1), (0, .ref x0), (1, .int x1), (2, .int x2)]) X d_LT_write_17 (by decide) (by simp [hrf_cat]) ?_
    refine J_aloadO (pc := 19) X 0 d_LT_write_19 rfl ?_
    refine J_ifnonnull (pc := 21) (tgt := 26) X d_LT_write_21 (by decide) (fun c7 => ?_) (fun a8 c7 => ?_)
    · have hM := hc_n hM c7
      refine J_iconst (pc := 24) (v := (-1)) X d_LT_write_24 (by decide) ?_
      obtain rfl := Option.some.inj hM
      exact J_iret (pc := 25) X hr hlk (Nat.le_of_ble_eq_true rfl) (Nat.le_of_ble_eq_true rfl) d_LT_write_25
    · have hM := hc_s hM c7
      refine J_aload_n (pc := 26) X 2 d_LT_write_26 rfl ?_
      obtain ⟨v9, ev9, hM⟩ := hb_some hM
      refine J_getA (pc := 27) X hc_LT in_LT 8 k_387 (by decide) rfl d_LT_write_27 rfl ev9 ?_
      obtain ⟨u10, eu10, hM⟩ := hb_some hM
      obtain ⟨h11, eh11, hM⟩ := hb_some hM
      refine J_callV (pc := 30) (As := []) (rest := []) (o := none) (h2 := h11) X rfl hc_Bytes eu10 (c_Bytes_clear l D K F eh11) (cwV_of (nA := 0) X.fix k_466 k_101 k_102 k_77 k_100 ⟨rfl, rfl, rfl⟩ (by decide +kernel) ⟨Nat.le_of_ble_eq_true rfl, Nat.le_of_ble_eq_true rfl⟩) d_LT_write_30 rfl rfl (Nat.le_of_ble_eq_true rfl) (Nat.le_of_ble_eq_true rfl) (Nat.le_of_ble_eq_true rfl) ?_
      refine J_aloadO_n (pc := 33) X 1 d_LT_write_33 rfl ?_
      obtain ⟨v12, ev12, hM⟩ := hb_some hM
      refine J_getAN (pc := 34) X hc_Edition in_Edition 0 (nw_7) (by decide) rfl d_LT_write_34 (hrf c3) ev12 ?_
      refine J_aload_n (pc := 37) X 2 d_LT_write_37 rfl ?_
      obtain ⟨v13, ev13, hM⟩ := hb_some hM
      refine J_getA (pc := 38) X hc_LT in_LT 8 k_387 (by decide) rfl d_LT_write_38 rfl ev13 ?_
      refine J_aloadO (pc := 41) X 0 d_LT_write_41 rfl ?_
      obtain ⟨v14, ev14, hM⟩ := hb_some hM
      refine J_getIN (pc := 43) X hc_Rule in_Rule 0 (nw_17) (by decide) rfl d_LT_write_43 (hrf c7) ev14 ?_
      refine J_aloadO (pc := 46) X 0 d_LT_write_46 rfl ?_
      obtain ⟨v15, ev15, hM⟩ := hb_some hM
      refine J_getIN (pc := 48) X hc_Rule in_Rule 2 (nw_20) (by decide) rfl d_LT_write_48 (hrf c7) ev15 ?_
      obtain ⟨u16, eu16, hM⟩ := hb_some hM
      obtain ⟨h17, eh17, hM⟩ := hb_some hM
      refine J_callV (pc := 51) (As := [.ref v13, .int v14, .int v15]) (rest := []) (o := none) (h2 := h17) X rfl hc_Words eu16 (c_Words_copyTo l D K F eh17) (cwV_of (nA := 3) X.fix k_467 k_469 k_470 k_88 k_468 ⟨rfl, rfl, rfl⟩ (by decide +kernel) ⟨Nat.le_of_ble_eq_true rfl, Nat.le_of_ble_eq_true rfl⟩) d_LT_write_51 rfl rfl (Nat.le_of_ble_eq_true rfl) (Nat.le_of_ble_eq_true rfl) (Nat.le_of_ble_eq_true rfl) ?_
      refine J_aload_n (pc := 54) X 2 d_LT_write_54 rfl ?_
      obtain ⟨v18, ev18, hM⟩ := hb_some hM
      refine J_getA (pc := 55) X hc_LT in_LT 8 k_387 (by decide) rfl d_LT_write_55 rfl ev18 ?_
      obtain ⟨v19, ev19, hM⟩ := hb_some hM
      refine J_getIN (pc := 58) X hc_Bytes in_Bytes 1 (nw_1) (by decide) rfl d_LT_write_58 rfl ev19 ?_
      obtain rfl := Option.some.inj hM
      exact J_iret (pc := 61) X hr hlk (Nat.le_of_ble_eq_true rfl) (Nat.le_of_ble_eq_true rfl) d_LT_write_61
abbrev rm_LT_written : Room := { frames := 1, cells := 0, slots := 0, locals := 21 }
set_option maxHeartbeats 4000000 in
set_option maxRecDepth 100000 in
theorem c_LT_written (l : Launch) (D : va_G) (K : (Nat → Nat) × (Nat → Nat)) (F : Nat) {h : hH} {x0 : Nat} {x1 : Int32} {q : (Int32 × hH)} (hM : M_LT_written F h x0 x1 = some q) : Met l y_LT_written (.code y_LT_written prog_1_method_15_code 2 (some .int) :: T0) rm_LT_written (hPc hG D cls0 K [.ref x0, .int x1] h) (hQ D cls0 h (some (.int q.1)) q.2) 0 0 (hF h) := by
  refine J_met (lv := [(0, .ref x0), (1, .int x1)]) (by decide) (Nat.le_of_ble_eq_true rfl) rfl ?_
  intro p e s m below meth c X hr hlk hnm
  have Y : HX p s m _ meth c prog_1_method_15_code 2 "LicenceTexts" D K "written" (some .int) h := ⟨X, hr, hlk, hnm⟩
  unfold M_LT_written at hM
  refine J_aload_n (pc := 0) X 0 d_LT_written_0 rfl ?_
  obtain ⟨v1, ev1, hM⟩ := hb_some hM
  refine J_getA (pc := 1) X hc_LT in_LT 8 k_387 (by decide) rfl d_LT_written_1 rfl ev1 ?_
  refine J_iload_n (pc := 4) X 1 d_LT_written_4 rfl ?_
  obtain ⟨u2, eu2, hM⟩ := hb_some hM
  obtain ⟨q3, eq3, hM⟩ := hb_some hM
  refine J_callV (pc := 5) (As := [.int x1]) (rest := []) (o := (some (.int q3.1))) (h2 := q3.2) X rfl hc_Bytes eu2 (c_Bytes_byteAt l D K F eq3) (cwV_of (nA := 1) X.fix k_471 k_110 k_111 k_77 k_109 ⟨rfl, rfl, rfl⟩ (by decide +kernel) ⟨Nat.le_of_ble_eq_true rfl, Nat.le_of_ble_eq_true rfl⟩) d_LT_written_5 rfl rfl (Nat.le_of_ble_eq_true rfl) (Nat.le_of_ble_eq_true rfl) (Nat.le_of_ble_eq_true rfl) ?_
  obtain rfl := Option.some.inj hM
  exact J_iret (pc := 8) X hr hlk (Nat.le_of_ble_eq_true rfl) (Nat.le_of_ble_eq_true rfl) d_LT_written_8
abbrev rm_LT_haul : Room := { frames := 2, cells := 0, slots := 0, locals := 46 }
set_option maxHeartbeats 4000000 in
set_option maxRecDepth 100000 in
theorem c_LT_haul (l : Launch) (D : va_G) (K : (Nat → Nat) × (Nat → Nat)) (F : Nat) {h : hH} {x0 : Nat} {x1 : Int32} {x2 : Int32} {x3 : Int64} {q : (Int32 × hH)} (hM : M_LT_haul F h x0 x1 x2 x3 = some q) : Met l y_LT_haul (.code y_LT_haul prog_1_method_16_code 5 (some .boolean) :: T0) rm_LT_haul (hPc hG D cls0 K [.ref x0, .int x1, .int x2, .long x3] h) (hQ D cls0 h (some (.int q.1)) q.2) 0 0 (hF h) := by
  refine J_met (lv := [(0, .ref x0), (1, .int x1), (2, .int x2), (3, .long x3)]) (by decide) (Nat.le_of_ble_eq_true rfl) rfl ?_
  intro p e s m below meth c X hr hlk hnm
  have Y : HX p s m _ meth c prog_1_method_16_code 5 "LicenceTexts" D K "haul" (some .boolean) h := ⟨X, hr, hlk, hnm⟩
  unfold M_LT_haul at hM
  refine J_aload_n (pc := 0) X 0 d_LT_haul_0 rfl ?_
  obtain ⟨v1, ev1, hM⟩ := hb_some hM
  refine J_getA (pc := 1) X hc_LT in_LT 9 k_393 (by decide) rfl d_LT_haul_1 rfl ev1 ?_
  refine J_iload_n (pc := 4) X 1 d_LT_haul_4 rfl ?_
  refine J_iload_n (pc := 5) X 2 d_LT_haul_5 rfl ?_
  refine J_lload_n (pc := 6) X 3 d_LT_haul_6 rfl ?_
  obtain ⟨u2, eu2, hM⟩ := hb_some hM
  obtain ⟨q3, eq3, hM⟩ := hb_some hM
  refine J_callV (pc := 7) (As := [.int x1, .int x2, .long x3]) (rest := []) (o := (some (.int q3.1))) (h2 := q3.2) X rfl hc_Hauls eu2 (c_Hauls_add l D K F eq3) (cwV_of (nA := 3) X.fix k_472 k_474 k_475 k_40 k_473 ⟨rfl, rfl, rfl⟩ (by decide +kernel) ⟨Nat.le_of_ble_eq_true rfl, Nat.le_of_ble_eq_true rfl⟩) d_LT_haul_7 rfl rfl (Nat.le_of_ble_eq_true rfl) (Nat.le_of_ble_eq_true rfl) (Nat.le_of_ble_eq_true rfl) ?_
  obtain ⟨u4, eu4, hM⟩ := hb_some hM
  obtain rfl := Option.some.inj hM
  exact J_zret (pc := 10) X hr (hZ_of eu4) hlk (Nat.le_of_ble_eq_true rfl) (Nat.le_of_ble_eq_true rfl) d_LT_haul_10
abbrev rm_LT_byCatch : Room := { frames := 3, cells := 0, slots := 0, locals := 76 }
set_option maxHeartbeats 4000000 in
set_option maxRecDepth 100000 in
theorem c_LT_byCatch (l : Launch) (D : va_G) (K : (Nat → Nat) × (Nat → Nat)) (F : Nat) {h : hH} {x0 : Nat} {x1 : Int32} {x2 : Int32} {x3 : Int32} {q : (Int64 × hH)} (hM : M_LT_byCatch F h x0 x1 x2 x3 = some q) : Met l y_LT_byCatch (.code y_LT_byCatch prog_1_method_17_code 4 (some .long) :: T0) rm_LT_byCatch (hPc hG D cls0 K [.ref x0, .int x1, .int x2, .int x3] h) (hQ D cls0 h (some (.long q.1)) q.2) 0 0 (hF h) := by
  refine J_met (lv := [(0, .ref x0), (1, .int x1), (2, .int x2), (3, .int x3)]) (by decide) (Nat.le_of_ble_eq_true rfl) rfl ?_
  intro p e s m below meth c X hr hlk hnm
  have Y : HX p s m _ meth c prog_1_method_17_code 4 "LicenceTexts" D K "byCatch" (some .long) h := ⟨X, hr, hlk, hnm⟩
  unfold M_LT_byCatch at hM
  refine J_aload_n (pc := 0) X 0 d_LT_byCatch_0 rfl ?_
  obtain ⟨v1, ev1, hM⟩ := hb_some hM
  refine J_getA (pc := 1) X hc_LT in_LT 9 k_393 (by decide) rfl d_LT_byCatch_1 rfl ev1 ?_
  refine J_iload_n (pc := 4) X 1 d_LT_byCatch_4 rfl ?_
  refine J_iload_n (pc := 5) X 2 d_LT_byCatch_5 rfl ?_
  refine J_iload_n (pc := 6) X 3 d_LT_byCatch_6 rfl ?_
  obtain ⟨u2, eu2, hM⟩ := hb_some hM
  obtain ⟨q3, eq3, hM⟩ := hb_some hM
  refine J_callV (pc := 7) (As := [.int x1, .int x2, .int x3]) (rest := []) (o := (some (.long q3.1))) (h2 := q3.2) X rfl hc_Hauls eu2 (c_Hauls_share l D K F eq3) (cwV_of (nA := 3) X.fix k_476 k_478 k_479 k_40 k_477 ⟨rfl, rfl, rfl⟩ (by decide +kernel) ⟨Nat.le_of_ble_eq_true rfl, Nat.le_of_ble_eq_true rfl⟩) d_LT_byCatch_7 rfl rfl (Nat.le_of_ble_eq_true rfl) (Nat.le_of_ble_eq_true rfl) (Nat.le_of_ble_eq_true rfl) ?_
  obtain rfl := Option.some.inj hM
  exact J_lret (pc := 10) X hr hlk (Nat.le_of_ble_eq_true rfl) (Nat.le_of_ble_eq_true rfl) d_LT_byCatch_10
