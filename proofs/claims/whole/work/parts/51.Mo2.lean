theorem d_Mo_now_0 : decode prog_14_method_9_code 0 = .ok (.aload_n 0, 1) := by decide +kernel
theorem d_Mo_now_1 : decode prog_14_method_9_code 1 = .ok (.getfield 129, 3) := by decide +kernel
theorem d_Mo_now_4 : decode prog_14_method_9_code 4 = .ok (.aload_n 0, 1) := by decide +kernel
theorem d_Mo_now_5 : decode prog_14_method_9_code 5 = .ok (.getfield 29, 3) := by decide +kernel
theorem d_Mo_now_8 : decode prog_14_method_9_code 8 = .ok (.aload_n 0, 1) := by decide +kernel
theorem d_Mo_now_9 : decode prog_14_method_9_code 9 = .ok (.getfield 123, 3) := by decide +kernel
theorem d_Mo_now_12 : decode prog_14_method_9_code 12 = .ok (.iaload, 1) := by decide +kernel
theorem d_Mo_now_13 : decode prog_14_method_9_code 13 = .ok (.if_icmp .ge 24, 3) := by decide +kernel
theorem d_Mo_now_37 : decode prog_14_method_9_code 37 = .ok (.bipush (-20), 2) := by decide +kernel
theorem d_Mo_now_39 : decode prog_14_method_9_code 39 = .ok (.ireturn, 1) := by decide +kernel
theorem d_Mo_now_16 : decode prog_14_method_9_code 16 = .ok (.aload_n 0, 1) := by decide +kernel
theorem d_Mo_now_17 : decode prog_14_method_9_code 17 = .ok (.getfield 26, 3) := by decide +kernel
theorem d_Mo_now_20 : decode prog_14_method_9_code 20 = .ok (.sipush 400, 3) := by decide +kernel
theorem d_Mo_now_23 : decode prog_14_method_9_code 23 = .ok (.aload_n 0, 1) := by decide +kernel
theorem d_Mo_now_24 : decode prog_14_method_9_code 24 = .ok (.getfield 123, 3) := by decide +kernel
theorem d_Mo_now_27 : decode prog_14_method_9_code 27 = .ok (.imul, 1) := by decide +kernel
theorem d_Mo_now_28 : decode prog_14_method_9_code 28 = .ok (.aload_n 0, 1) := by decide +kernel
theorem d_Mo_now_29 : decode prog_14_method_9_code 29 = .ok (.getfield 129, 3) := by decide +kernel
theorem d_Mo_now_32 : decode prog_14_method_9_code 32 = .ok (.iadd, 1) := by decide +kernel
theorem d_Mo_now_33 : decode prog_14_method_9_code 33 = .ok (.iaload, 1) := by decide +kernel
theorem d_Mo_now_34 : decode prog_14_method_9_code 34 = .ok (.goto 5, 3) := by decide +kernel
theorem d_Mo_want_19 : decode prog_14_method_10_code 19 = .ok (.aload_n 0, 1) := by decide +kernel
theorem d_Mo_want_20 : decode prog_14_method_10_code 20 = .ok (.getfield 132, 3) := by decide +kernel
theorem d_Mo_want_23 : decode prog_14_method_10_code 23 = .ok (.ifCond .ge 7, 3) := by decide +kernel
theorem d_Mo_want_30 : decode prog_14_method_10_code 30 = .ok (.iconst 0, 1) := by decide +kernel
theorem d_Mo_want_31 : decode prog_14_method_10_code 31 = .ok (.ireturn, 1) := by decide +kernel
theorem d_Mo_want_26 : decode prog_14_method_10_code 26 = .ok (.iconst 1, 1) := by decide +kernel
theorem d_Mo_want_27 : decode prog_14_method_10_code 27 = .ok (.goto 4, 3) := by decide +kernel
theorem d_Mo_want_0 : decode prog_14_method_10_code 0 = .ok (.iload_n 1, 1) := by decide +kernel
theorem d_Mo_want_1 : decode prog_14_method_10_code 1 = .ok (.ifCond .ne 18, 3) := by decide +kernel
theorem d_Mo_want_4 : decode prog_14_method_10_code 4 = .ok (.aload_n 0, 1) := by decide +kernel
theorem d_Mo_want_5 : decode prog_14_method_10_code 5 = .ok (.getfield 132, 3) := by decide +kernel
theorem d_Mo_want_8 : decode prog_14_method_10_code 8 = .ok (.ifCond .ge 11, 3) := by decide +kernel
theorem d_Mo_want_11 : decode prog_14_method_10_code 11 = .ok (.aload_n 0, 1) := by decide +kernel
theorem d_Mo_want_12 : decode prog_14_method_10_code 12 = .ok (.aload_n 0, 1) := by decide +kernel
theorem d_Mo_want_13 : decode prog_14_method_10_code 13 = .ok (.getfield 129, 3) := by decide +kernel
theorem d_Mo_want_16 : decode prog_14_method_10_code 16 = .ok (.putfield 132, 3) := by decide +kernel
theorem d_Mo_needs_14 : decode prog_14_method_11_code 14 = .ok (.invokevirtual 139, 3) := by decide +kernel
theorem d_Mo_needs_17 : decode prog_14_method_11_code 17 = .ok (.istore_n 2, 1) := by decide +kernel
theorem d_Mo_needs_18 : decode prog_14_method_11_code 18 = .ok (.aload_n 0, 1) := by decide +kernel
theorem d_Mo_needs_19 : decode prog_14_method_11_code 19 = .ok (.dup, 1) := by decide +kernel
theorem d_Mo_needs_20 : decode prog_14_method_11_code 20 = .ok (.getfield 129, 3) := by decide +kernel
theorem d_Mo_needs_23 : decode prog_14_method_11_code 23 = .ok (.iload_n 2, 1) := by decide +kernel
theorem d_Mo_needs_24 : decode prog_14_method_11_code 24 = .ok (.ifCond .eq 7, 3) := by decide +kernel
theorem d_Mo_needs_31 : decode prog_14_method_11_code 31 = .ok (.iconst 0, 1) := by decide +kernel
theorem d_Mo_needs_32 : decode prog_14_method_11_code 32 = .ok (.iadd, 1) := by decide +kernel
theorem d_Mo_needs_33 : decode prog_14_method_11_code 33 = .ok (.putfield 129, 3) := by decide +kernel
theorem d_Mo_needs_36 : decode prog_14_method_11_code 36 = .ok (.iload_n 2, 1) := by decide +kernel
theorem d_Mo_needs_37 : decode prog_14_method_11_code 37 = .ok (.ireturn, 1) := by decide +kernel
theorem d_Mo_needs_27 : decode prog_14_method_11_code 27 = .ok (.iconst 1, 1) := by decide +kernel
theorem d_Mo_needs_28 : decode prog_14_method_11_code 28 = .ok (.goto 4, 3) := by decide +kernel
theorem d_Mo_needs_0 : decode prog_14_method_11_code 0 = .ok (.aload_n 0, 1) := by decide +kernel
theorem d_Mo_needs_1 : decode prog_14_method_11_code 1 = .ok (.aload_n 0, 1) := by decide +kernel
theorem d_Mo_needs_2 : decode prog_14_method_11_code 2 = .ok (.invokevirtual 135, 3) := by decide +kernel
theorem d_Mo_needs_5 : decode prog_14_method_11_code 5 = .ok (.iload_n 1, 1) := by decide +kernel
theorem d_Mo_needs_6 : decode prog_14_method_11_code 6 = .ok (.if_icmp .ne 7, 3) := by decide +kernel
theorem d_Mo_needs_13 : decode prog_14_method_11_code 13 = .ok (.iconst 0, 1) := by decide +kernel
theorem d_Mo_needs_9 : decode prog_14_method_11_code 9 = .ok (.iconst 1, 1) := by decide +kernel
theorem d_Mo_needs_10 : decode prog_14_method_11_code 10 = .ok (.goto 4, 3) := by decide +kernel
theorem d_Mo_put_0 : decode prog_14_method_12_code 0 = .ok (.aload_n 0, 1) := by decide +kernel
theorem d_Mo_put_1 : decode prog_14_method_12_code 1 = .ok (.getfield 59, 3) := by decide +kernel
theorem d_Mo_put_4 : decode prog_14_method_12_code 4 = .ok (.sipush 400, 3) := by decide +kernel
theorem d_Mo_put_7 : decode prog_14_method_12_code 7 = .ok (.aload_n 0, 1) := by decide +kernel
theorem d_Mo_put_8 : decode prog_14_method_12_code 8 = .ok (.getfield 123, 3) := by decide +kernel
theorem d_Mo_put_11 : decode prog_14_method_12_code 11 = .ok (.imul, 1) := by decide +kernel
theorem d_Mo_put_12 : decode prog_14_method_12_code 12 = .ok (.aload_n 0, 1) := by decide +kernel
theorem d_Mo_put_13 : decode prog_14_method_12_code 13 = .ok (.getfield 143, 3) := by decide +kernel
theorem d_Mo_put_16 : decode prog_14_method_12_code 16 = .ok (.iadd, 1) := by decide +kernel
theorem d_Mo_put_17 : decode prog_14_method_12_code 17 = .ok (.iload_n 1, 1) := by decide +kernel
theorem d_Mo_put_18 : decode prog_14_method_12_code 18 = .ok (.iastore, 1) := by decide +kernel
theorem d_Mo_put_19 : decode prog_14_method_12_code 19 = .ok (.aload_n 0, 1) := by decide +kernel
theorem d_Mo_put_20 : decode prog_14_method_12_code 20 = .ok (.getfield 62, 3) := by decide +kernel
theorem d_Mo_put_23 : decode prog_14_method_12_code 23 = .ok (.sipush 400, 3) := by decide +kernel
theorem d_Mo_put_26 : decode prog_14_method_12_code 26 = .ok (.aload_n 0, 1) := by decide +kernel
theorem d_Mo_put_27 : decode prog_14_method_12_code 27 = .ok (.getfield 123, 3) := by decide +kernel
theorem d_Mo_put_30 : decode prog_14_method_12_code 30 = .ok (.imul, 1) := by decide +kernel
theorem d_Mo_put_31 : decode prog_14_method_12_code 31 = .ok (.aload_n 0, 1) := by decide +kernel
theorem d_Mo_put_32 : decode prog_14_method_12_code 32 = .ok (.getfield 143, 3) := by decide +kernel
theorem d_Mo_put_35 : decode prog_14_method_12_code 35 = .ok (.iadd, 1) := by decide +kernel
theorem d_Mo_put_36 : decode prog_14_method_12_code 36 = .ok (.iload_n 2, 1) := by decide +kernel
theorem d_Mo_put_37 : decode prog_14_method_12_code 37 = .ok (.iastore, 1) := by decide +kernel
theorem d_Mo_put_38 : decode prog_14_method_12_code 38 = .ok (.aload_n 0, 1) := by decide +kernel
theorem d_Mo_put_39 : decode prog_14_method_12_code 39 = .ok (.dup, 1) := by decide +kernel
theorem d_Mo_put_40 : decode prog_14_method_12_code 40 = .ok (.getfield 143, 3) := by decide +kernel
theorem d_Mo_put_43 : decode prog_14_method_12_code 43 = .ok (.iconst 1, 1) := by decide +kernel
theorem d_Mo_put_44 : decode prog_14_method_12_code 44 = .ok (.iadd, 1) := by decide +kernel
theorem d_Mo_put_45 : decode prog_14_method_12_code 45 = .ok (.putfield 143, 3) := by decide +kernel
theorem d_Mo_put_48 : decode prog_14_method_12_code 48 = .ok (.return_, 1) := by decide +kernel
theorem d_Mo_tableP_110 : decode prog_14_method_13_code 110 = .ok (.invokevirtual 139, 3) := by decide +kernel
theorem d_Mo_tableP_113 : decode prog_14_method_13_code 113 = .ok (.ifCond .eq 40, 3) := by decide +kernel
theorem d_Mo_tableP_153 : decode prog_14_method_13_code 153 = .ok (.return_, 1) := by decide +kernel
theorem d_Mo_tableP_116 : decode prog_14_method_13_code 116 = .ok (.aload_n 0, 1) := by decide +kernel
theorem d_Mo_tableP_117 : decode prog_14_method_13_code 117 = .ok (.bipush (-19), 2) := by decide +kernel
theorem d_Mo_tableP_119 : decode prog_14_method_13_code 119 = .ok (.invokevirtual 146, 3) := by decide +kernel
theorem d_Mo_tableP_122 : decode prog_14_method_13_code 122 = .ok (.ifCond .eq 31, 3) := by decide +kernel
theorem d_Mo_tableP_125 : decode prog_14_method_13_code 125 = .ok (.aload_n 0, 1) := by decide +kernel
theorem d_Mo_tableP_126 : decode prog_14_method_13_code 126 = .ok (.getfield 35, 3) := by decide +kernel
theorem d_Mo_tableP_129 : decode prog_14_method_13_code 129 = .ok (.bipush 8, 2) := by decide +kernel
theorem d_Mo_tableP_131 : decode prog_14_method_13_code 131 = .ok (.aload_n 0, 1) := by decide +kernel
theorem d_Mo_tableP_132 : decode prog_14_method_13_code 132 = .ok (.getfield 123, 3) := by decide +kernel
theorem d_Mo_tableP_135 : decode prog_14_method_13_code 135 = .ok (.imul, 1) := by decide +kernel
theorem d_Mo_tableP_136 : decode prog_14_method_13_code 136 = .ok (.iload_n 1, 1) := by decide +kernel
theorem d_Mo_tableP_137 : decode prog_14_method_13_code 137 = .ok (.iadd, 1) := by decide +kernel
theorem d_Mo_tableP_138 : decode prog_14_method_13_code 138 = .ok (.iload_n 2, 1) := by decide +kernel
theorem d_Mo_tableP_139 : decode prog_14_method_13_code 139 = .ok (.iastore, 1) := by decide +kernel
theorem d_Mo_tableP_140 : decode prog_14_method_13_code 140 = .ok (.aload_n 0, 1) := by decide +kernel
theorem d_Mo_tableP_141 : decode prog_14_method_13_code 141 = .ok (.getfield 32, 3) := by decide +kernel
theorem d_Mo_tableP_144 : decode prog_14_method_13_code 144 = .ok (.aload_n 0, 1) := by decide +kernel
theorem d_Mo_tableP_145 : decode prog_14_method_13_code 145 = .ok (.getfield 123, 3) := by decide +kernel
theorem d_Mo_tableP_148 : decode prog_14_method_13_code 148 = .ok (.dup2, 1) := by decide +kernel
theorem d_Mo_tableP_149 : decode prog_14_method_13_code 149 = .ok (.iaload, 1) := by decide +kernel
theorem d_Mo_tableP_150 : decode prog_14_method_13_code 150 = .ok (.iconst 1, 1) := by decide +kernel
theorem d_Mo_tableP_151 : decode prog_14_method_13_code 151 = .ok (.iadd, 1) := by decide +kernel
theorem d_Mo_tableP_152 : decode prog_14_method_13_code 152 = .ok (.iastore, 1) := by decide +kernel
theorem d_Mo_tableP_100 : decode prog_14_method_13_code 100 = .ok (.aload_n 0, 1) := by decide +kernel
theorem d_Mo_tableP_101 : decode prog_14_method_13_code 101 = .ok (.iload_n 2, 1) := by decide +kernel
theorem d_Mo_tableP_102 : decode prog_14_method_13_code 102 = .ok (.ifCond .le 7, 3) := by decide +kernel
theorem d_Mo_tableP_109 : decode prog_14_method_13_code 109 = .ok (.iconst 0, 1) := by decide +kernel
theorem d_Mo_tableP_105 : decode prog_14_method_13_code 105 = .ok (.iconst 1, 1) := by decide +kernel
theorem d_Mo_tableP_106 : decode prog_14_method_13_code 106 = .ok (.goto 4, 3) := by decide +kernel
theorem d_Mo_tableP_41 : decode prog_14_method_13_code 41 = .ok (.aload_n 0, 1) := by decide +kernel
theorem d_Mo_tableP_42 : decode prog_14_method_13_code 42 = .ok (.getfield 132, 3) := by decide +kernel
theorem d_Mo_tableP_45 : decode prog_14_method_13_code 45 = .ok (.ifCond .ge 55, 3) := by decide +kernel
theorem d_Mo_tableP_48 : decode prog_14_method_13_code 48 = .ok (.aload_n 0, 1) := by decide +kernel
theorem d_Mo_tableP_49 : decode prog_14_method_13_code 49 = .ok (.invokevirtual 135, 3) := by decide +kernel
theorem d_Mo_tableP_52 : decode prog_14_method_13_code 52 = .ok (.ifCond .lt 48, 3) := by decide +kernel
theorem d_Mo_tableP_55 : decode prog_14_method_13_code 55 = .ok (.iload_n 2, 1) := by decide +kernel
theorem d_Mo_tableP_56 : decode prog_14_method_13_code 56 = .ok (.bipush 10, 2) := by decide +kernel
theorem d_Mo_tableP_58 : decode prog_14_method_13_code 58 = .ok (.if_icmp .ge 42, 3) := by decide +kernel
theorem d_Mo_tableP_61 : decode prog_14_method_13_code 61 = .ok (.aload_n 0, 1) := by decide +kernel
theorem d_Mo_tableP_62 : decode prog_14_method_13_code 62 = .ok (.getfield 38, 3) := by decide +kernel
theorem d_Mo_tableP_65 : decode prog_14_method_13_code 65 = .ok (.bipush 80, 2) := by decide +kernel
theorem d_Mo_tableP_67 : decode prog_14_method_13_code 67 = .ok (.aload_n 0, 1) := by decide +kernel
theorem d_Mo_tableP_68 : decode prog_14_method_13_code 68 = .ok (.getfield 123, 3) := by decide +kernel
theorem d_Mo_tableP_71 : decode prog_14_method_13_code 71 = .ok (.imul, 1) := by decide +kernel
theorem d_Mo_tableP_72 : decode prog_14_method_13_code 72 = .ok (.bipush 10, 2) := by decide +kernel
theorem d_Mo_tableP_74 : decode prog_14_method_13_code 74 = .ok (.iload_n 1, 1) := by decide +kernel
theorem d_Mo_tableP_75 : decode prog_14_method_13_code 75 = .ok (.imul, 1) := by decide +kernel
theorem d_Mo_tableP_76 : decode prog_14_method_13_code 76 = .ok (.iadd, 1) := by decide +kernel
theorem d_Mo_tableP_77 : decode prog_14_method_13_code 77 = .ok (.iload_n 2, 1) := by decide +kernel
theorem d_Mo_tableP_78 : decode prog_14_method_13_code 78 = .ok (.iadd, 1) := by decide +kernel
theorem d_Mo_tableP_79 : decode prog_14_method_13_code 79 = .ok (.aload_n 0, 1) := by decide +kernel
theorem d_Mo_tableP_80 : decode prog_14_method_13_code 80 = .ok (.invokevirtual 135, 3) := by decide +kernel
theorem d_Mo_tableP_83 : decode prog_14_method_13_code 83 = .ok (.iastore, 1) := by decide +kernel
theorem d_Mo_tableP_84 : decode prog_14_method_13_code 84 = .ok (.iinc 2 1, 3) := by decide +kernel
theorem d_Mo_tableP_87 : decode prog_14_method_13_code 87 = .ok (.aload_n 0, 1) := by decide +kernel
theorem d_Mo_tableP_88 : decode prog_14_method_13_code 88 = .ok (.dup, 1) := by decide +kernel
theorem d_Mo_tableP_89 : decode prog_14_method_13_code 89 = .ok (.getfield 129, 3) := by decide +kernel
theorem d_Mo_tableP_92 : decode prog_14_method_13_code 92 = .ok (.iconst 1, 1) := by decide +kernel
theorem d_Mo_tableP_93 : decode prog_14_method_13_code 93 = .ok (.iadd, 1) := by decide +kernel
theorem d_Mo_tableP_94 : decode prog_14_method_13_code 94 = .ok (.putfield 129, 3) := by decide +kernel
theorem d_Mo_tableP_97 : decode prog_14_method_13_code 97 = .ok (.goto (-56), 3) := by decide +kernel
theorem d_Mo_tableP_22 : decode prog_14_method_13_code 22 = .ok (.invokevirtual 139, 3) := by decide +kernel
theorem d_Mo_tableP_25 : decode prog_14_method_13_code 25 = .ok (.ifCond .ne 4, 3) := by decide +kernel
theorem d_Mo_tableP_29 : decode prog_14_method_13_code 29 = .ok (.aload_n 0, 1) := by decide +kernel
theorem d_Mo_tableP_30 : decode prog_14_method_13_code 30 = .ok (.dup, 1) := by decide +kernel
theorem d_Mo_tableP_31 : decode prog_14_method_13_code 31 = .ok (.getfield 129, 3) := by decide +kernel
theorem d_Mo_tableP_34 : decode prog_14_method_13_code 34 = .ok (.iconst 1, 1) := by decide +kernel
theorem d_Mo_tableP_35 : decode prog_14_method_13_code 35 = .ok (.iadd, 1) := by decide +kernel
theorem d_Mo_tableP_36 : decode prog_14_method_13_code 36 = .ok (.putfield 129, 3) := by decide +kernel
theorem d_Mo_tableP_39 : decode prog_14_method_13_code 39 = .ok (.iconst 0, 1) := by decide +kernel
theorem d_Mo_tableP_40 : decode prog_14_method_13_code 40 = .ok (.istore_n 2, 1) := by decide +kernel
theorem d_Mo_tableP_28 : decode prog_14_method_13_code 28 = .ok (.return_, 1) := by decide +kernel
theorem d_Mo_tableP_0 : decode prog_14_method_13_code 0 = .ok (.aload_n 0, 1) := by decide +kernel
theorem d_Mo_tableP_1 : decode prog_14_method_13_code 1 = .ok (.getfield 32, 3) := by decide +kernel
theorem d_Mo_tableP_4 : decode prog_14_method_13_code 4 = .ok (.aload_n 0, 1) := by decide +kernel
theorem d_Mo_tableP_5 : decode prog_14_method_13_code 5 = .ok (.getfield 123, 3) := by decide +kernel
theorem d_Mo_tableP_8 : decode prog_14_method_13_code 8 = .ok (.iaload, 1) := by decide +kernel
theorem d_Mo_tableP_9 : decode prog_14_method_13_code 9 = .ok (.istore_n 1, 1) := by decide +kernel
theorem d_Mo_tableP_10 : decode prog_14_method_13_code 10 = .ok (.aload_n 0, 1) := by decide +kernel
theorem d_Mo_tableP_11 : decode prog_14_method_13_code 11 = .ok (.iload_n 1, 1) := by decide +kernel
theorem d_Mo_tableP_12 : decode prog_14_method_13_code 12 = .ok (.bipush 8, 2) := by decide +kernel
theorem d_Mo_tableP_14 : decode prog_14_method_13_code 14 = .ok (.if_icmp .ge 7, 3) := by decide +kernel
theorem d_Mo_tableP_21 : decode prog_14_method_13_code 21 = .ok (.iconst 0, 1) := by decide +kernel
theorem d_Mo_tableP_17 : decode prog_14_method_13_code 17 = .ok (.iconst 1, 1) := by decide +kernel
theorem d_Mo_tableP_18 : decode prog_14_method_13_code 18 = .ok (.goto 4, 3) := by decide +kernel
theorem d_Mo_isOperator_0 : decode prog_14_method_14_code 0 = .ok (.iload_n 0, 1) := by decide +kernel
theorem d_Mo_isOperator_1 : decode prog_14_method_14_code 1 = .ok (.bipush (-10), 2) := by decide +kernel
theorem d_Mo_isOperator_3 : decode prog_14_method_14_code 3 = .ok (.if_icmp .gt 13, 3) := by decide +kernel
theorem d_Mo_isOperator_16 : decode prog_14_method_14_code 16 = .ok (.iconst 0, 1) := by decide +kernel
theorem d_Mo_isOperator_17 : decode prog_14_method_14_code 17 = .ok (.ireturn, 1) := by decide +kernel
theorem d_Mo_isOperator_6 : decode prog_14_method_14_code 6 = .ok (.iload_n 0, 1) := by decide +kernel
theorem d_Mo_isOperator_7 : decode prog_14_method_14_code 7 = .ok (.bipush (-15), 2) := by decide +kernel
theorem d_Mo_isOperator_9 : decode prog_14_method_14_code 9 = .ok (.if_icmp .le 7, 3) := by decide +kernel
theorem d_Mo_isOperator_12 : decode prog_14_method_14_code 12 = .ok (.iconst 1, 1) := by decide +kernel
theorem d_Mo_isOperator_13 : decode prog_14_method_14_code 13 = .ok (.goto 4, 3) := by decide +kernel
theorem d_Mo_isProduct_0 : decode prog_14_method_15_code 0 = .ok (.iload_n 0, 1) := by decide +kernel
theorem d_Mo_isProduct_1 : decode prog_14_method_15_code 1 = .ok (.bipush (-11), 2) := by decide +kernel
theorem d_Mo_isProduct_3 : decode prog_14_method_15_code 3 = .ok (.if_icmp .ge 7, 3) := by decide +kernel
theorem d_Mo_isProduct_10 : decode prog_14_method_15_code 10 = .ok (.iconst 0, 1) := by decide +kernel
theorem d_Mo_isProduct_11 : decode prog_14_method_15_code 11 = .ok (.ireturn, 1) := by decide +kernel
theorem d_Mo_isProduct_6 : decode prog_14_method_15_code 6 = .ok (.iconst 1, 1) := by decide +kernel
theorem d_Mo_isProduct_7 : decode prog_14_method_15_code 7 = .ok (.goto 4, 3) := by decide +kernel
theorem d_Mo_sum_484 : decode prog_14_method_16_code 484 = .ok (.iload_n 1, 1) := by decide +kernel
theorem d_Mo_sum_485 : decode prog_14_method_16_code 485 = .ok (.ifCond .le 20, 3) := by decide +kernel
theorem d_Mo_sum_505 : decode prog_14_method_16_code 505 = .ok (.return_, 1) := by decide +kernel
theorem d_Mo_sum_488 : decode prog_14_method_16_code 488 = .ok (.iinc 1 (-1), 3) := by decide +kernel
theorem d_Mo_sum_491 : decode prog_14_method_16_code 491 = .ok (.aload_n 0, 1) := by decide +kernel
theorem d_Mo_sum_492 : decode prog_14_method_16_code 492 = .ok (.aload_n 0, 1) := by decide +kernel
theorem d_Mo_sum_493 : decode prog_14_method_16_code 493 = .ok (.getfield 65, 3) := by decide +kernel
theorem d_Mo_sum_496 : decode prog_14_method_16_code 496 = .ok (.iload_n 1, 1) := by decide +kernel
theorem d_Mo_sum_497 : decode prog_14_method_16_code 497 = .ok (.iaload, 1) := by decide +kernel
theorem d_Mo_sum_498 : decode prog_14_method_16_code 498 = .ok (.iconst 0, 1) := by decide +kernel
theorem d_Mo_sum_499 : decode prog_14_method_16_code 499 = .ok (.invokevirtual 149, 3) := by decide +kernel
theorem d_Mo_sum_502 : decode prog_14_method_16_code 502 = .ok (.goto (-18), 3) := by decide +kernel
theorem d_Mo_sum_478 : decode prog_14_method_16_code 478 = .ok (.invokevirtual 139, 3) := by decide +kernel
theorem d_Mo_sum_481 : decode prog_14_method_16_code 481 = .ok (.ifCond .eq 24, 3) := by decide +kernel
theorem d_Mo_sum_468 : decode prog_14_method_16_code 468 = .ok (.aload_n 0, 1) := by decide +kernel
theorem d_Mo_sum_469 : decode prog_14_method_16_code 469 = .ok (.iload_n 3, 1) := by decide +kernel
theorem d_Mo_sum_470 : decode prog_14_method_16_code 470 = .ok (.ifCond .ne 7, 3) := by decide +kernel
theorem d_Mo_sum_477 : decode prog_14_method_16_code 477 = .ok (.iconst 0, 1) := by decide +kernel
theorem d_Mo_sum_473 : decode prog_14_method_16_code 473 = .ok (.iconst 1, 1) := by decide +kernel
theorem d_Mo_sum_474 : decode prog_14_method_16_code 474 = .ok (.goto 4, 3) := by decide +kernel
theorem d_Mo_sum_465 : decode prog_14_method_16_code 465 = .ok (.goto (-456), 3) := by decide +kernel
theorem d_Mo_sum_442 : decode prog_14_method_16_code 442 = .ok (.aload_n 0, 1) := by decide +kernel
theorem d_Mo_sum_443 : decode prog_14_method_16_code 443 = .ok (.getfield 65, 3) := by decide +kernel
theorem d_Mo_sum_446 : decode prog_14_method_16_code 446 = .ok (.iload_n 1, 1) := by decide +kernel
theorem d_Mo_sum_447 : decode prog_14_method_16_code 447 = .ok (.aload_n 0, 1) := by decide +kernel
theorem d_Mo_sum_448 : decode prog_14_method_16_code 448 = .ok (.invokevirtual 135, 3) := by decide +kernel
theorem d_Mo_sum_451 : decode prog_14_method_16_code 451 = .ok (.iastore, 1) := by decide +kernel
theorem d_Mo_sum_452 : decode prog_14_method_16_code 452 = .ok (.iinc 1 1, 3) := by decide +kernel
theorem d_Mo_sum_455 : decode prog_14_method_16_code 455 = .ok (.aload_n 0, 1) := by decide +kernel
theorem d_Mo_sum_456 : decode prog_14_method_16_code 456 = .ok (.dup, 1) := by decide +kernel
theorem d_Mo_sum_457 : decode prog_14_method_16_code 457 = .ok (.getfield 129, 3) := by decide +kernel
theorem d_Mo_sum_460 : decode prog_14_method_16_code 460 = .ok (.iconst 1, 1) := by decide +kernel
theorem d_Mo_sum_461 : decode prog_14_method_16_code 461 = .ok (.iadd, 1) := by decide +kernel
theorem d_Mo_sum_462 : decode prog_14_method_16_code 462 = .ok (.putfield 129, 3) := by decide +kernel
theorem d_Mo_sum_425 : decode prog_14_method_16_code 425 = .ok (.iinc 1 (-1), 3) := by decide +kernel
theorem d_Mo_sum_428 : decode prog_14_method_16_code 428 = .ok (.aload_n 0, 1) := by decide +kernel
theorem d_Mo_sum_429 : decode prog_14_method_16_code 429 = .ok (.aload_n 0, 1) := by decide +kernel
theorem d_Mo_sum_430 : decode prog_14_method_16_code 430 = .ok (.getfield 65, 3) := by decide +kernel
theorem d_Mo_sum_433 : decode prog_14_method_16_code 433 = .ok (.iload_n 1, 1) := by decide +kernel
theorem d_Mo_sum_434 : decode prog_14_method_16_code 434 = .ok (.iaload, 1) := by decide +kernel
theorem d_Mo_sum_435 : decode prog_14_method_16_code 435 = .ok (.iconst 0, 1) := by decide +kernel
theorem d_Mo_sum_436 : decode prog_14_method_16_code 436 = .ok (.invokevirtual 149, 3) := by decide +kernel
theorem d_Mo_sum_439 : decode prog_14_method_16_code 439 = .ok (.goto (-56), 3) := by decide +kernel
theorem d_Mo_sum_383 : decode prog_14_method_16_code 383 = .ok (.iload_n 1, 1) := by decide +kernel
theorem d_Mo_sum_384 : decode prog_14_method_16_code 384 = .ok (.ifCond .le 58, 3) := by decide +kernel
theorem d_Mo_sum_387 : decode prog_14_method_16_code 387 = .ok (.aload_n 0, 1) := by decide +kernel
theorem d_Mo_sum_388 : decode prog_14_method_16_code 388 = .ok (.getfield 65, 3) := by decide +kernel
theorem d_Mo_sum_391 : decode prog_14_method_16_code 391 = .ok (.iload_n 1, 1) := by decide +kernel
theorem d_Mo_sum_392 : decode prog_14_method_16_code 392 = .ok (.iconst 1, 1) := by decide +kernel
theorem d_Mo_sum_393 : decode prog_14_method_16_code 393 = .ok (.isub, 1) := by decide +kernel
theorem d_Mo_sum_394 : decode prog_14_method_16_code 394 = .ok (.iaload, 1) := by decide +kernel
theorem d_Mo_sum_395 : decode prog_14_method_16_code 395 = .ok (.invokestatic 153, 3) := by decide +kernel
theorem d_Mo_sum_398 : decode prog_14_method_16_code 398 = .ok (.ifCond .eq 44, 3) := by decide +kernel
theorem d_Mo_sum_401 : decode prog_14_method_16_code 401 = .ok (.aload_n 0, 1) := by decide +kernel
theorem d_Mo_sum_402 : decode prog_14_method_16_code 402 = .ok (.getfield 65, 3) := by decide +kernel
theorem d_Mo_sum_405 : decode prog_14_method_16_code 405 = .ok (.iload_n 1, 1) := by decide +kernel
theorem d_Mo_sum_406 : decode prog_14_method_16_code 406 = .ok (.iconst 1, 1) := by decide +kernel
theorem d_Mo_sum_407 : decode prog_14_method_16_code 407 = .ok (.isub, 1) := by decide +kernel
theorem d_Mo_sum_408 : decode prog_14_method_16_code 408 = .ok (.iaload, 1) := by decide +kernel
theorem d_Mo_sum_409 : decode prog_14_method_16_code 409 = .ok (.invokestatic 156, 3) := by decide +kernel
theorem d_Mo_sum_412 : decode prog_14_method_16_code 412 = .ok (.ifCond .ne 13, 3) := by decide +kernel
theorem d_Mo_sum_415 : decode prog_14_method_16_code 415 = .ok (.aload_n 0, 1) := by decide +kernel
theorem d_Mo_sum_416 : decode prog_14_method_16_code 416 = .ok (.invokevirtual 135, 3) := by decide +kernel
theorem d_Mo_sum_419 : decode prog_14_method_16_code 419 = .ok (.invokestatic 156, 3) := by decide +kernel
theorem d_Mo_sum_422 : decode prog_14_method_16_code 422 = .ok (.ifCond .ne 20, 3) := by decide +kernel
theorem d_Mo_sum_317 : decode prog_14_method_16_code 317 = .ok (.aload_n 0, 1) := by decide +kernel
theorem d_Mo_sum_318 : decode prog_14_method_16_code 318 = .ok (.getfield 65, 3) := by decide +kernel
theorem d_Mo_sum_321 : decode prog_14_method_16_code 321 = .ok (.iload_n 1, 1) := by decide +kernel
theorem d_Mo_sum_322 : decode prog_14_method_16_code 322 = .ok (.iconst 1, 1) := by decide +kernel
theorem d_Mo_sum_323 : decode prog_14_method_16_code 323 = .ok (.isub, 1) := by decide +kernel
theorem d_Mo_sum_324 : decode prog_14_method_16_code 324 = .ok (.iaload, 1) := by decide +kernel
theorem d_Mo_sum_325 : decode prog_14_method_16_code 325 = .ok (.bipush (-8), 2) := by decide +kernel
theorem d_Mo_sum_327 : decode prog_14_method_16_code 327 = .ok (.if_icmp .eq 20, 3) := by decide +kernel
theorem d_Mo_sum_347 : decode prog_14_method_16_code 347 = .ok (.iinc 1 (-1), 3) := by decide +kernel
theorem d_Mo_sum_350 : decode prog_14_method_16_code 350 = .ok (.iinc 2 (-1), 3) := by decide +kernel
theorem d_Mo_sum_353 : decode prog_14_method_16_code 353 = .ok (.iinc 3 (-1), 3) := by decide +kernel
theorem d_Mo_sum_356 : decode prog_14_method_16_code 356 = .ok (.aload_n 0, 1) := by decide +kernel
theorem d_Mo_sum_357 : decode prog_14_method_16_code 357 = .ok (.dup, 1) := by decide +kernel
theorem d_Mo_sum_358 : decode prog_14_method_16_code 358 = .ok (.getfield 129, 3) := by decide +kernel
theorem d_Mo_sum_361 : decode prog_14_method_16_code 361 = .ok (.iconst 1, 1) := by decide +kernel
theorem d_Mo_sum_362 : decode prog_14_method_16_code 362 = .ok (.iadd, 1) := by decide +kernel
theorem d_Mo_sum_363 : decode prog_14_method_16_code 363 = .ok (.putfield 129, 3) := by decide +kernel
theorem d_Mo_sum_366 : decode prog_14_method_16_code 366 = .ok (.goto (-117), 3) := by decide +kernel
theorem d_Mo_sum_330 : decode prog_14_method_16_code 330 = .ok (.iinc 1 (-1), 3) := by decide +kernel
theorem d_Mo_sum_333 : decode prog_14_method_16_code 333 = .ok (.aload_n 0, 1) := by decide +kernel
theorem d_Mo_sum_334 : decode prog_14_method_16_code 334 = .ok (.aload_n 0, 1) := by decide +kernel
theorem d_Mo_sum_335 : decode prog_14_method_16_code 335 = .ok (.getfield 65, 3) := by decide +kernel
theorem d_Mo_sum_338 : decode prog_14_method_16_code 338 = .ok (.iload_n 1, 1) := by decide +kernel
theorem d_Mo_sum_339 : decode prog_14_method_16_code 339 = .ok (.iaload, 1) := by decide +kernel
theorem d_Mo_sum_340 : decode prog_14_method_16_code 340 = .ok (.iconst 0, 1) := by decide +kernel
theorem d_Mo_sum_341 : decode prog_14_method_16_code 341 = .ok (.invokevirtual 149, 3) := by decide +kernel
theorem d_Mo_sum_344 : decode prog_14_method_16_code 344 = .ok (.goto (-27), 3) := by decide +kernel
theorem d_Mo_sum_310 : decode prog_14_method_16_code 310 = .ok (.istore 6, 2) := by decide +kernel
theorem d_Mo_sum_312 : decode prog_14_method_16_code 312 = .ok (.iload 6, 2) := by decide +kernel
theorem d_Mo_sum_314 : decode prog_14_method_16_code 314 = .ok (.ifCond .eq (-65), 3) := by decide +kernel
theorem d_Mo_sum_309 : decode prog_14_method_16_code 309 = .ok (.iconst 0, 1) := by decide +kernel
theorem d_Mo_sum_292 : decode prog_14_method_16_code 292 = .ok (.iload_n 3, 1) := by decide +kernel
theorem d_Mo_sum_293 : decode prog_14_method_16_code 293 = .ok (.ifCond .le 16, 3) := by decide +kernel
theorem d_Mo_sum_296 : decode prog_14_method_16_code 296 = .ok (.aload_n 0, 1) := by decide +kernel
theorem d_Mo_sum_297 : decode prog_14_method_16_code 297 = .ok (.invokevirtual 135, 3) := by decide +kernel
theorem d_Mo_sum_300 : decode prog_14_method_16_code 300 = .ok (.bipush (-9), 2) := by decide +kernel
theorem d_Mo_sum_302 : decode prog_14_method_16_code 302 = .ok (.if_icmp .ne 7, 3) := by decide +kernel
theorem d_Mo_sum_305 : decode prog_14_method_16_code 305 = .ok (.iconst 1, 1) := by decide +kernel
theorem d_Mo_sum_306 : decode prog_14_method_16_code 306 = .ok (.goto 4, 3) := by decide +kernel
theorem d_Mo_sum_254 : decode prog_14_method_16_code 254 = .ok (.iload_n 1, 1) := by decide +kernel
theorem d_Mo_sum_255 : decode prog_14_method_16_code 255 = .ok (.ifCond .le 37, 3) := by decide +kernel
theorem d_Mo_sum_258 : decode prog_14_method_16_code 258 = .ok (.aload_n 0, 1) := by decide +kernel
theorem d_Mo_sum_259 : decode prog_14_method_16_code 259 = .ok (.getfield 65, 3) := by decide +kernel
theorem d_Mo_sum_262 : decode prog_14_method_16_code 262 = .ok (.iload_n 1, 1) := by decide +kernel
theorem d_Mo_sum_263 : decode prog_14_method_16_code 263 = .ok (.iconst 1, 1) := by decide +kernel
theorem d_Mo_sum_264 : decode prog_14_method_16_code 264 = .ok (.isub, 1) := by decide +kernel
theorem d_Mo_sum_265 : decode prog_14_method_16_code 265 = .ok (.iaload, 1) := by decide +kernel
theorem d_Mo_sum_266 : decode prog_14_method_16_code 266 = .ok (.bipush (-7), 2) := by decide +kernel
theorem d_Mo_sum_268 : decode prog_14_method_16_code 268 = .ok (.if_icmp .ne 24, 3) := by decide +kernel
theorem d_Mo_sum_271 : decode prog_14_method_16_code 271 = .ok (.iinc 1 (-1), 3) := by decide +kernel
theorem d_Mo_sum_274 : decode prog_14_method_16_code 274 = .ok (.iinc 2 (-1), 3) := by decide +kernel
theorem d_Mo_sum_277 : decode prog_14_method_16_code 277 = .ok (.aload_n 0, 1) := by decide +kernel
theorem d_Mo_sum_278 : decode prog_14_method_16_code 278 = .ok (.bipush (-7), 2) := by decide +kernel
theorem d_Mo_sum_280 : decode prog_14_method_16_code 280 = .ok (.aload_n 0, 1) := by decide +kernel
theorem d_Mo_sum_281 : decode prog_14_method_16_code 281 = .ok (.getfield 68, 3) := by decide +kernel
theorem d_Mo_sum_284 : decode prog_14_method_16_code 284 = .ok (.iload_n 1, 1) := by decide +kernel
theorem d_Mo_sum_285 : decode prog_14_method_16_code 285 = .ok (.iaload, 1) := by decide +kernel
theorem d_Mo_sum_286 : decode prog_14_method_16_code 286 = .ok (.invokevirtual 149, 3) := by decide +kernel
theorem d_Mo_sum_289 : decode prog_14_method_16_code 289 = .ok (.goto (-35), 3) := by decide +kernel
theorem d_Mo_sum_249 : decode prog_14_method_16_code 249 = .ok (.iload 6, 2) := by decide +kernel
theorem d_Mo_sum_251 : decode prog_14_method_16_code 251 = .ok (.ifCond .eq 118, 3) := by decide +kernel
theorem d_Mo_sum_369 : decode prog_14_method_16_code 369 = .ok (.aload_n 0, 1) := by decide +kernel
theorem d_Mo_sum_370 : decode prog_14_method_16_code 370 = .ok (.invokevirtual 135, 3) := by decide +kernel
theorem d_Mo_sum_373 : decode prog_14_method_16_code 373 = .ok (.invokestatic 153, 3) := by decide +kernel
theorem d_Mo_sum_376 : decode prog_14_method_16_code 376 = .ok (.istore 4, 2) := by decide +kernel
theorem d_Mo_sum_378 : decode prog_14_method_16_code 378 = .ok (.iload 4, 2) := by decide +kernel
theorem d_Mo_sum_380 : decode prog_14_method_16_code 380 = .ok (.ifCond .eq 85, 3) := by decide +kernel
theorem d_Mo_sum_246 : decode prog_14_method_16_code 246 = .ok (.iconst 1, 1) := by decide +kernel
theorem d_Mo_sum_247 : decode prog_14_method_16_code 247 = .ok (.istore 6, 2) := by decide +kernel
theorem d_Mo_sum_164 : decode prog_14_method_16_code 164 = .ok (.invokevirtual 139, 3) := by decide +kernel
theorem d_Mo_sum_167 : decode prog_14_method_16_code 167 = .ok (.ifCond .ne 4, 3) := by decide +kernel
theorem d_Mo_sum_171 : decode prog_14_method_16_code 171 = .ok (.iload 5, 2) := by decide +kernel
theorem d_Mo_sum_173 : decode prog_14_method_16_code 173 = .ok (.bipush (-7), 2) := by decide +kernel
theorem d_Mo_sum_175 : decode prog_14_method_16_code 175 = .ok (.if_icmp .ne 40, 3) := by decide +kernel
theorem d_Mo_sum_215 : decode prog_14_method_16_code 215 = .ok (.aload_n 0, 1) := by decide +kernel
theorem d_Mo_sum_216 : decode prog_14_method_16_code 216 = .ok (.bipush (-6), 2) := by decide +kernel
theorem d_Mo_sum_218 : decode prog_14_method_16_code 218 = .ok (.aload_n 0, 1) := by decide +kernel
theorem d_Mo_sum_219 : decode prog_14_method_16_code 219 = .ok (.invokevirtual 135, 3) := by decide +kernel
theorem d_Mo_sum_222 : decode prog_14_method_16_code 222 = .ok (.invokevirtual 149, 3) := by decide +kernel
theorem d_Mo_sum_225 : decode prog_14_method_16_code 225 = .ok (.aload_n 0, 1) := by decide +kernel
theorem d_Mo_sum_226 : decode prog_14_method_16_code 226 = .ok (.dup, 1) := by decide +kernel
theorem d_Mo_sum_227 : decode prog_14_method_16_code 227 = .ok (.getfield 129, 3) := by decide +kernel
theorem d_Mo_sum_230 : decode prog_14_method_16_code 230 = .ok (.iconst 1, 1) := by decide +kernel
theorem d_Mo_sum_231 : decode prog_14_method_16_code 231 = .ok (.iadd, 1) := by decide +kernel
theorem d_Mo_sum_232 : decode prog_14_method_16_code 232 = .ok (.putfield 129, 3) := by decide +kernel
theorem d_Mo_sum_235 : decode prog_14_method_16_code 235 = .ok (.goto 11, 3) := by decide +kernel
theorem d_Mo_sum_178 : decode prog_14_method_16_code 178 = .ok (.aload_n 0, 1) := by decide +kernel
theorem d_Mo_sum_179 : decode prog_14_method_16_code 179 = .ok (.getfield 65, 3) := by decide +kernel
theorem d_Mo_sum_182 : decode prog_14_method_16_code 182 = .ok (.iload_n 1, 1) := by decide +kernel
theorem d_Mo_sum_183 : decode prog_14_method_16_code 183 = .ok (.bipush (-7), 2) := by decide +kernel
theorem d_Mo_sum_185 : decode prog_14_method_16_code 185 = .ok (.iastore, 1) := by decide +kernel
theorem d_Mo_sum_186 : decode prog_14_method_16_code 186 = .ok (.aload_n 0, 1) := by decide +kernel
theorem d_Mo_sum_187 : decode prog_14_method_16_code 187 = .ok (.getfield 68, 3) := by decide +kernel
theorem d_Mo_sum_190 : decode prog_14_method_16_code 190 = .ok (.iload_n 1, 1) := by decide +kernel
theorem d_Mo_sum_191 : decode prog_14_method_16_code 191 = .ok (.aload_n 0, 1) := by decide +kernel
theorem d_Mo_sum_192 : decode prog_14_method_16_code 192 = .ok (.invokevirtual 135, 3) := by decide +kernel
theorem d_Mo_sum_195 : decode prog_14_method_16_code 195 = .ok (.iastore, 1) := by decide +kernel
theorem d_Mo_sum_196 : decode prog_14_method_16_code 196 = .ok (.iinc 1 1, 3) := by decide +kernel
theorem d_Mo_sum_199 : decode prog_14_method_16_code 199 = .ok (.iinc 2 1, 3) := by decide +kernel
theorem d_Mo_sum_202 : decode prog_14_method_16_code 202 = .ok (.aload_n 0, 1) := by decide +kernel
theorem d_Mo_sum_203 : decode prog_14_method_16_code 203 = .ok (.dup, 1) := by decide +kernel
theorem d_Mo_sum_204 : decode prog_14_method_16_code 204 = .ok (.getfield 129, 3) := by decide +kernel
theorem d_Mo_sum_207 : decode prog_14_method_16_code 207 = .ok (.iconst 1, 1) := by decide +kernel
theorem d_Mo_sum_208 : decode prog_14_method_16_code 208 = .ok (.iadd, 1) := by decide +kernel
theorem d_Mo_sum_209 : decode prog_14_method_16_code 209 = .ok (.putfield 129, 3) := by decide +kernel
theorem d_Mo_sum_212 : decode prog_14_method_16_code 212 = .ok (.goto (-203), 3) := by decide +kernel
theorem d_Mo_sum_170 : decode prog_14_method_16_code 170 = .ok (.return_, 1) := by decide +kernel
theorem d_Mo_sum_163 : decode prog_14_method_16_code 163 = .ok (.iconst 0, 1) := by decide +kernel
theorem d_Mo_sum_156 : decode prog_14_method_16_code 156 = .ok (.if_icmp .ge 7, 3) := by decide +kernel
theorem d_Mo_sum_159 : decode prog_14_method_16_code 159 = .ok (.iconst 1, 1) := by decide +kernel
theorem d_Mo_sum_160 : decode prog_14_method_16_code 160 = .ok (.goto 4, 3) := by decide +kernel
theorem d_Mo_sum_123 : decode prog_14_method_16_code 123 = .ok (.aload_n 0, 1) := by decide +kernel
theorem d_Mo_sum_124 : decode prog_14_method_16_code 124 = .ok (.aload_n 0, 1) := by decide +kernel
theorem d_Mo_sum_125 : decode prog_14_method_16_code 125 = .ok (.invokevirtual 135, 3) := by decide +kernel
theorem d_Mo_sum_128 : decode prog_14_method_16_code 128 = .ok (.ifCond .lt 35, 3) := by decide +kernel
theorem d_Mo_sum_131 : decode prog_14_method_16_code 131 = .ok (.aload_n 0, 1) := by decide +kernel
theorem d_Mo_sum_132 : decode prog_14_method_16_code 132 = .ok (.invokevirtual 135, 3) := by decide +kernel
theorem d_Mo_sum_135 : decode prog_14_method_16_code 135 = .ok (.iload 5, 2) := by decide +kernel
theorem d_Mo_sum_137 : decode prog_14_method_16_code 137 = .ok (.bipush (-7), 2) := by decide +kernel
theorem d_Mo_sum_139 : decode prog_14_method_16_code 139 = .ok (.if_icmp .ne 15, 3) := by decide +kernel
theorem d_Mo_sum_154 : decode prog_14_method_16_code 154 = .ok (.bipush 20, 2) := by decide +kernel
theorem d_Mo_sum_142 : decode prog_14_method_16_code 142 = .ok (.aload_n 0, 1) := by decide +kernel
theorem d_Mo_sum_143 : decode prog_14_method_16_code 143 = .ok (.getfield 32, 3) := by decide +kernel
theorem d_Mo_sum_146 : decode prog_14_method_16_code 146 = .ok (.aload_n 0, 1) := by decide +kernel
theorem d_Mo_sum_147 : decode prog_14_method_16_code 147 = .ok (.getfield 123, 3) := by decide +kernel
theorem d_Mo_sum_150 : decode prog_14_method_16_code 150 = .ok (.iaload, 1) := by decide +kernel
theorem d_Mo_sum_151 : decode prog_14_method_16_code 151 = .ok (.goto 5, 3) := by decide +kernel
theorem d_Mo_sum_65 : decode prog_14_method_16_code 65 = .ok (.invokevirtual 139, 3) := by decide +kernel
theorem d_Mo_sum_68 : decode prog_14_method_16_code 68 = .ok (.ifCond .ne 4, 3) := by decide +kernel
theorem d_Mo_sum_72 : decode prog_14_method_16_code 72 = .ok (.aload_n 0, 1) := by decide +kernel
theorem d_Mo_sum_73 : decode prog_14_method_16_code 73 = .ok (.dup, 1) := by decide +kernel
theorem d_Mo_sum_74 : decode prog_14_method_16_code 74 = .ok (.getfield 129, 3) := by decide +kernel
theorem d_Mo_sum_77 : decode prog_14_method_16_code 77 = .ok (.iconst 1, 1) := by decide +kernel
theorem d_Mo_sum_78 : decode prog_14_method_16_code 78 = .ok (.iadd, 1) := by decide +kernel
theorem d_Mo_sum_79 : decode prog_14_method_16_code 79 = .ok (.putfield 129, 3) := by decide +kernel
theorem d_Mo_sum_82 : decode prog_14_method_16_code 82 = .ok (.iload 5, 2) := by decide +kernel
theorem d_Mo_sum_84 : decode prog_14_method_16_code 84 = .ok (.bipush (-8), 2) := by decide +kernel
theorem d_Mo_sum_86 : decode prog_14_method_16_code 86 = .ok (.if_icmp .ne 23, 3) := by decide +kernel
theorem d_Mo_sum_109 : decode prog_14_method_16_code 109 = .ok (.iload 5, 2) := by decide +kernel
theorem d_Mo_sum_111 : decode prog_14_method_16_code 111 = .ok (.bipush (-7), 2) := by decide +kernel
theorem d_Mo_sum_113 : decode prog_14_method_16_code 113 = .ok (.if_icmp .eq 10, 3) := by decide +kernel
theorem d_Mo_sum_116 : decode prog_14_method_16_code 116 = .ok (.iload 5, 2) := by decide +kernel
theorem d_Mo_sum_118 : decode prog_14_method_16_code 118 = .ok (.bipush (-6), 2) := by decide +kernel
theorem d_Mo_sum_120 : decode prog_14_method_16_code 120 = .ok (.if_icmp .ne 118, 3) := by decide +kernel
theorem d_Mo_sum_238 : decode prog_14_method_16_code 238 = .ok (.aload_n 0, 1) := by decide +kernel
theorem d_Mo_sum_239 : decode prog_14_method_16_code 239 = .ok (.bipush (-21), 2) := by decide +kernel
theorem d_Mo_sum_241 : decode prog_14_method_16_code 241 = .ok (.iload 5, 2) := by decide +kernel
theorem d_Mo_sum_243 : decode prog_14_method_16_code 243 = .ok (.invokevirtual 149, 3) := by decide +kernel
theorem d_Mo_sum_89 : decode prog_14_method_16_code 89 = .ok (.aload_n 0, 1) := by decide +kernel
theorem d_Mo_sum_90 : decode prog_14_method_16_code 90 = .ok (.getfield 65, 3) := by decide +kernel
theorem d_Mo_sum_93 : decode prog_14_method_16_code 93 = .ok (.iload_n 1, 1) := by decide +kernel
theorem d_Mo_sum_94 : decode prog_14_method_16_code 94 = .ok (.bipush (-8), 2) := by decide +kernel
theorem d_Mo_sum_96 : decode prog_14_method_16_code 96 = .ok (.iastore, 1) := by decide +kernel
theorem d_Mo_sum_97 : decode prog_14_method_16_code 97 = .ok (.iinc 1 1, 3) := by decide +kernel
theorem d_Mo_sum_100 : decode prog_14_method_16_code 100 = .ok (.iinc 2 1, 3) := by decide +kernel
theorem d_Mo_sum_103 : decode prog_14_method_16_code 103 = .ok (.iinc 3 1, 3) := by decide +kernel
theorem d_Mo_sum_106 : decode prog_14_method_16_code 106 = .ok (.goto (-97), 3) := by decide +kernel
theorem d_Mo_sum_71 : decode prog_14_method_16_code 71 = .ok (.return_, 1) := by decide +kernel
theorem d_Mo_sum_64 : decode prog_14_method_16_code 64 = .ok (.iconst 0, 1) := by decide +kernel
theorem d_Mo_sum_60 : decode prog_14_method_16_code 60 = .ok (.iconst 1, 1) := by decide +kernel
theorem d_Mo_sum_61 : decode prog_14_method_16_code 61 = .ok (.goto 4, 3) := by decide +kernel
theorem d_Mo_sum_9 : decode prog_14_method_16_code 9 = .ok (.iload 4, 2) := by decide +kernel
theorem d_Mo_sum_11 : decode prog_14_method_16_code 11 = .ok (.ifCond .eq 457, 3) := by decide +kernel
theorem d_Mo_sum_14 : decode prog_14_method_16_code 14 = .ok (.aload_n 0, 1) := by decide +kernel
theorem d_Mo_sum_15 : decode prog_14_method_16_code 15 = .ok (.getfield 132, 3) := by decide +kernel
theorem d_Mo_sum_18 : decode prog_14_method_16_code 18 = .ok (.ifCond .ge 450, 3) := by decide +kernel
theorem d_Mo_sum_21 : decode prog_14_method_16_code 21 = .ok (.aload_n 0, 1) := by decide +kernel
theorem d_Mo_sum_22 : decode prog_14_method_16_code 22 = .ok (.invokevirtual 135, 3) := by decide +kernel
theorem d_Mo_sum_25 : decode prog_14_method_16_code 25 = .ok (.istore 5, 2) := by decide +kernel
theorem d_Mo_sum_27 : decode prog_14_method_16_code 27 = .ok (.aload_n 0, 1) := by decide +kernel
theorem d_Mo_sum_28 : decode prog_14_method_16_code 28 = .ok (.iload_n 2, 1) := by decide +kernel
theorem d_Mo_sum_29 : decode prog_14_method_16_code 29 = .ok (.bipush 12, 2) := by decide +kernel
theorem d_Mo_sum_31 : decode prog_14_method_16_code 31 = .ok (.if_icmp .gt 33, 3) := by decide +kernel
theorem d_Mo_sum_34 : decode prog_14_method_16_code 34 = .ok (.iload 5, 2) := by decide +kernel
theorem d_Mo_sum_36 : decode prog_14_method_16_code 36 = .ok (.ifCond .ge 24, 3) := by decide +kernel
theorem d_Mo_sum_39 : decode prog_14_method_16_code 39 = .ok (.iload 5, 2) := by decide +kernel
theorem d_Mo_sum_41 : decode prog_14_method_16_code 41 = .ok (.bipush (-6), 2) := by decide +kernel
theorem d_Mo_sum_43 : decode prog_14_method_16_code 43 = .ok (.if_icmp .eq 17, 3) := by decide +kernel
theorem d_Mo_sum_46 : decode prog_14_method_16_code 46 = .ok (.iload 5, 2) := by decide +kernel
theorem d_Mo_sum_48 : decode prog_14_method_16_code 48 = .ok (.bipush (-7), 2) := by decide +kernel
theorem d_Mo_sum_50 : decode prog_14_method_16_code 50 = .ok (.if_icmp .eq 10, 3) := by decide +kernel
theorem d_Mo_sum_53 : decode prog_14_method_16_code 53 = .ok (.iload 5, 2) := by decide +kernel
theorem d_Mo_sum_55 : decode prog_14_method_16_code 55 = .ok (.bipush (-8), 2) := by decide +kernel
theorem d_Mo_sum_57 : decode prog_14_method_16_code 57 = .ok (.if_icmp .ne 7, 3) := by decide +kernel
theorem d_Mo_sum_0 : decode prog_14_method_16_code 0 = .ok (.iconst 0, 1) := by decide +kernel
theorem d_Mo_sum_1 : decode prog_14_method_16_code 1 = .ok (.istore_n 1, 1) := by decide +kernel
theorem d_Mo_sum_2 : decode prog_14_method_16_code 2 = .ok (.iconst 0, 1) := by decide +kernel
theorem d_Mo_sum_3 : decode prog_14_method_16_code 3 = .ok (.istore_n 2, 1) := by decide +kernel
theorem d_Mo_sum_4 : decode prog_14_method_16_code 4 = .ok (.iconst 0, 1) := by decide +kernel
theorem d_Mo_sum_5 : decode prog_14_method_16_code 5 = .ok (.istore_n 3, 1) := by decide +kernel
theorem d_Mo_sum_6 : decode prog_14_method_16_code 6 = .ok (.iconst 1, 1) := by decide +kernel
theorem d_Mo_sum_7 : decode prog_14_method_16_code 7 = .ok (.istore 4, 2) := by decide +kernel
def M_Mo_now (F : Nat) (h : hH) (x0 : Nat) : Option (Int32 × hH) :=
  (hGetI h x0 12 23).bind fun v1 =>
  (hGetA h x0 12 9).bind fun v2 =>
  (hGetI h x0 12 22).bind fun v3 =>
  (hLdI h v2 .int v3).bind fun v4 =>
  if v4 ≤ v1 then (
    some ((-20), h)
  ) else (
    (hGetA h x0 12 8).bind fun v6 =>
    (hGetI h x0 12 22).bind fun v7 =>
    (hGetI h x0 12 23).bind fun v8 =>
    (hLdI h v6 .int ((400 * v7) + v8)).bind fun v9 =>
    some (v9, h)
  )
def M_Mo_want_19 (F : Nat) (h : hH) (x0 : Nat) : Option (Int32 × hH) :=
  (hGetI h x0 12 24).bind fun v1 =>
  if 0 ≤ v1 then (
    some (0, h)
  ) else (
    some (1, h)
  )
def M_Mo_want (F : Nat) (h : hH) (x0 : Nat) (x1 : Int32) : Option (Int32 × hH) :=
  if x1 = 0 then (
    (hGetI h x0 12 24).bind fun v2 =>
    if 0 ≤ v2 then (
      M_Mo_want_19 F h x0
    ) else (
      (hGetI h x0 12 23).bind fun v4 =>
      (hPut h x0 12 24 (.int v4)).bind fun h5 =>
      M_Mo_want_19 F h5 x0
    )
  ) else (
    M_Mo_want_19 F h x0
  )
def M_Mo_needs_14 (F : Nat) (h : hH) (x0 : Nat) (s0 : Nat) (s1 : Int32) : Option (Int32 × hH) :=
  (hIs h s0 12).bind fun u1 =>
  (M_Mo_want F h s0 s1).bind fun q2 =>
  (hGetI q2.2 x0 12 23).bind fun v3 =>
  if q2.1 = 0 then (
    (hPut q2.2 x0 12 23 (.int (v3 + 0))).bind fun h5 =>
    (hZ q2.1).bind fun u6 =>
    some (q2.1, h5)
  ) else (
    (hPut q2.2 x0 12 23 (.int (v3 + 1))).bind fun h7 =>
    (hZ q2.1).bind fun u8 =>
    some (q2.1, h7)
  )
def M_Mo_needs (F : Nat) (h : hH) (x0 : Nat) (x1 : Int32) : Option (Int32 × hH) :=
  (hIs h x0 12).bind fun u1 =>
  (M_Mo_now F h x0).bind fun q2 =>
  if q2.1 = x1 then (
    M_Mo_needs_14 F q2.2 x0 x0 1
  ) else (
    M_Mo_needs_14 F q2.2 x0 x0 0
  )
def M_Mo_put (F : Nat) (h : hH) (x0 : Nat) (x1 : Int32) (x2 : Int32) : Option hH :=
  (hGetA h x0 12 19).bind fun v1 =>
  (hGetI h x0 12 22).bind fun v2 =>
  (hGetI h x0 12 21).bind fun v3 =>
  (hStI h v1 ((400 * v2) + v3) x1).bind fun h4 =>
  (hGetA h4 x0 12 20).bind fun v5 =>
  (hGetI h4 x0 12 22).bind fun v6 =>
  (hGetI h4 x0 12 21).bind fun v7 =>
  (hStI h4 v5 ((400 * v6) + v7) x2).bind fun h8 =>
  (hGetI h8 x0 12 21).bind fun v9 =>
  (hPut h8 x0 12 21 (.int (v9 + 1))).bind fun h10 =>
  some h10
def M_Mo_tableP_110 (F : Nat) (h : hH) (x0 : Nat) (x1 : Int32) (x2 : Int32) (s0 : Nat) (s1 : Int32) : Option hH :=
  (hIs h s0 12).bind fun u1 =>
  (M_Mo_want F h s0 s1).bind fun q2 =>
  if q2.1 = 0 then (
    some q2.2
  ) else (
    (hIs q2.2 x0 12).bind fun u4 =>
    (M_Mo_needs F q2.2 x0 (-19)).bind fun q5 =>
    if q5.1 = 0 then (
      some q5.2
    ) else (
      (hGetA q5.2 x0 12 11).bind fun v7 =>
      (hGetI q5.2 x0 12 22).bind fun v8 =>
      (hStI q5.2 v7 ((8 * v8) + x1) x2).bind fun h9 =>
      (hGetA h9 x0 12 10).bind fun v10 =>
      (hGetI h9 x0 12 22).bind fun v11 =>
      (hLdI h9 v10 .int v11).bind fun v12 =>
      (hStI h9 v10 v11 (v12 + 1)).bind fun h13 =>
      some h13
    )
  )
def M_Mo_tableP_100 (F : Nat) (h : hH) (x0 : Nat) (x1 : Int32) (x2 : Int32) : Option hH :=
  if x2 ≤ 0 then (
    M_Mo_tableP_110 F h x0 x1 x2 x0 0
  ) else (
    M_Mo_tableP_110 F h x0 x1 x2 x0 1
  )
def B_Mo_tableP_41 (F : Nat) (r41 : hH → Nat → Int32 → Int32 → Option hH) (h : hH) (x0 : Nat) (x1 : Int32) (x2 : Int32) : Option hH :=
  (hGetI h x0 12 24).bind fun v1 =>
  if 0 ≤ v1 then (
    M_Mo_tableP_100 F h x0 x1 x2
  ) else (
    (hIs h x0 12).bind fun u3 =>
    (M_Mo_now F h x0).bind fun q4 =>
    if q4.1 < 0 then (
      M_Mo_tableP_100 F q4.2 x0 x1 x2
    ) else (
      if 10 ≤ x2 then (
        M_Mo_tableP_100 F q4.2 x0 x1 x2
      ) else (
        (hGetA q4.2 x0 12 12).bind fun v7 =>
        (hGetI q4.2 x0 12 22).bind fun v8 =>
        (hIs q4.2 x0 12).bind fun u9 =>
        (M_Mo_now F q4.2 x0).bind fun q10 =>
        (hStI q10.2 v7 (((80 * v8) + (10 * x1)) + x2) q10.1).bind fun h11 =>
        (hGetI h11 x0 12 23).bind fun v12 =>
        (hPut h11 x0 12 23 (.int (v12 + 1))).bind fun h13 =>
        r41 h13 x0 x1 (x2 + 1)
      )
    )
  )
def M_Mo_tableP_41 (F : Nat) : Nat → hH → Nat → Int32 → Int32 → Option hH
  | 0 => fun _ _ _ _ => none
  | z + 1 => B_Mo_tableP_41 F (M_Mo_tableP_41 F z)
def M_Mo_tableP_22 (F : Nat) (h : hH) (x0 : Nat) (x1 : Int32) (s0 : Nat) (s1 : Int32) : Option hH :=
  (hIs h s0 12).bind fun u1 =>
  (M_Mo_want F h s0 s1).bind fun q2 =>
  if q2.1 = 0 then (
    some q2.2
  ) else (
    (hGetI q2.2 x0 12 23).bind fun v4 =>
    (hPut q2.2 x0 12 23 (.int (v4 + 1))).bind fun h5 =>
    M_Mo_tableP_41 F F h5 x0 x1 0
  )
def M_Mo_tableP (F : Nat) (h : hH) (x0 : Nat) : Option hH :=
  (hGetA h x0 12 10).bind fun v1 =>
  (hGetI h x0 12 22).bind fun v2 =>
  (hLdI h v1 .int v2).bind fun v3 =>
  if 8 ≤ v3 then (
    M_Mo_tableP_22 F h x0 v3 x0 0
  ) else (
    M_Mo_tableP_22 F h x0 v3 x0 1
  )
def M_Mo_isOperator (F : Nat) (h : hH) (x0 : Int32) : Option (Int32 × hH) :=
  if (-10) < x0 then (
    some (0, h)
  ) else (
    if x0 ≤ (-15) then (
      some (0, h)
    ) else (
      some (1, h)
    )
  )
def M_Mo_isProduct (F : Nat) (h : hH) (x0 : Int32) : Option (Int32 × hH) :=
  if (-11) ≤ x0 then (
    some (0, h)
  ) else (
    some (1, h)
  )
def B_Mo_sum_484 (F : Nat) (r484 : hH → Nat → Int32 → Option hH) (h : hH) (x0 : Nat) (x1 : Int32) : Option hH :=
  if x1 ≤ 0 then (
    some h
  ) else (
    (hGetA h x0 12 25).bind fun v2 =>
    (hLdI h v2 .int (x1 + (-1))).bind fun v3 =>
    (hIs h x0 12).bind fun u4 =>
    (M_Mo_put F h x0 v3 0).bind fun h5 =>
    r484 h5 x0 (x1 + (-1))
  )
def M_Mo_sum_484 (F : Nat) : Nat → hH → Nat → Int32 → Option hH
  | 0 => fun _ _ _ => none
  | z + 1 => B_Mo_sum_484 F (M_Mo_sum_484 F z)
def M_Mo_sum_478 (F : Nat) (h : hH) (x0 : Nat) (x1 : Int32) (s0 : Nat) (s1 : Int32) : Option hH :=
  (hIs h s0 12).bind fun u1 =>
  (M_Mo_want F h s0 s1).bind fun q2 =>
  if q2.1 = 0 then (
    some q2.2
  ) else (
    M_Mo_sum_484 F F q2.2 x0 x1
  )
def M_Mo_sum_468 (F : Nat) (h : hH) (x0 : Nat) (x1 : Int32) (x3 : Int32) : Option hH :=
  if x3 = 0 then (
    M_Mo_sum_478 F h x0 x1 x0 1
  ) else (
    M_Mo_sum_478 F h x0 x1 x0 0
  )
def M_Mo_sum_465 (F : Nat) (r9 : hH → Nat → Int32 → Int32 → Int32 → Int32 → Option hH) (h : hH) (x0 : Nat) (x1 : Int32) (x2 : Int32) (x3 : Int32) (x4 : Int32) : Option hH :=
  r9 h x0 x1 x2 x3 x4
def M_Mo_sum_442 (F : Nat) (r9 : hH → Nat → Int32 → Int32 → Int32 → Int32 → Option hH) (h : hH) (x0 : Nat) (x1 : Int32) (x2 : Int32) (x3 : Int32) (x4 : Int32) : Option hH :=
  (hGetA h x0 12 25).bind fun v1 =>
  (hIs h x0 12).bind fun u2 =>
  (M_Mo_now F h x0).bind fun q3 =>
  (hStI q3.2 v1 x1 q3.1).bind fun h4 =>
  (hGetI h4 x0 12 23).bind fun v5 =>
  (hPut h4 x0 12 23 (.int (v5 + 1))).bind fun h6 =>
  M_Mo_sum_465 F r9 h6 x0 (x1 + 1) x2 x3 x4
def M_Mo_sum_425 (F : Nat) (r9 : hH → Nat → Int32 → Int32 → Int32 → Int32 → Option hH) (r383 : hH → Nat → Int32 → Int32 → Int32 → Int32 → Option hH) (h : hH) (x0 : Nat) (x1 : Int32) (x2 : Int32) (x3 : Int32) (x4 : Int32) : Option hH :=
  (hGetA h x0 12 25).bind fun v1 =>
  (hLdI h v1 .int (x1 + (-1))).bind fun v2 =>
  (hIs h x0 12).bind fun u3 =>
  (M_Mo_put F h x0 v2 0).bind fun h4 =>
  r383 h4 x0 (x1 + (-1)) x2 x3 x4
def B_Mo_sum_383 (F : Nat) (r9 : hH → Nat → Int32 → Int32 → Int32 → Int32 → Option hH) (r383 : hH → Nat → Int32 → Int32 → Int32 → Int32 → Option hH) (h : hH) (x0 : Nat) (x1 : Int32) (x2 : Int32) (x3 : Int32) (x4 : Int32) : Option hH :=
  if x1 ≤ 0 then (
    M_Mo_sum_442 F r9 h x0 x1 x2 x3 x4
  ) else (
    (hGetA h x0 12 25).bind fun v2 =>
    (hLdI h v2 .int (x1 - 1)).bind fun v3 =>
    (M_Mo_isOperator F h v3).bind fun q4 =>
    if q4.1 = 0 then (
      M_Mo_sum_442 F r9 q4.2 x0 x1 x2 x3 x4
    ) else (
      (hGetA q4.2 x0 12 25).bind fun v6 =>
      (hLdI q4.2 v6 .int (x1 - 1)).bind fun v7 =>
      (M_Mo_isProduct F q4.2 v7).bind fun q8 =>
      if q8.1 = 0 then (
        (hIs q8.2 x0 12).bind fun u10 =>
        (M_Mo_now F q8.2 x0).bind fun q11 =>
        (M_Mo_isProduct F q11.2 q11.1).bind fun q12 =>
        if q12.1 = 0 then (
          M_Mo_sum_425 F r9 r383 q12.2 x0 x1 x2 x3 x4
        ) else (
          M_Mo_sum_442 F r9 q12.2 x0 x1 x2 x3 x4
        )
      ) else (
        M_Mo_sum_425 F r9 r383 q8.2 x0 x1 x2 x3 x4
      )
    )
  )
def M_Mo_sum_383 (F : Nat) (r9 : hH → Nat → Int32 → Int32 → Int32 → Int32 → Option hH) : Nat → hH → Nat → Int32 → Int32 → Int32 → Int32 → Option hH
  | 0 => fun _ _ _ _ _ _ => none
  | z + 1 => B_Mo_sum_383 F r9 (M_Mo_sum_383 F r9 z)
def B_Mo_sum_317 (F : Nat) (r9 : hH → Nat → Int32 → Int32 → Int32 → Int32 → Option hH) (r249 : hH → Nat → Int32 → Int32 → Int32 → Int32 → Option hH) (r317 : hH → Nat → Int32 → Int32 → Int32 → Int32 → Option hH) (h : hH) (x0 : Nat) (x1 : Int32) (x2 : Int32) (x3 : Int32) (x6 : Int32) : Option hH :=
  (hGetA h x0 12 25).bind fun v1 =>
  (hLdI h v1 .int (x1 - 1)).bind fun v2 =>
  if v2 = (-8) then (
    (hGetI h x0 12 23).bind fun v4 =>
    (hPut h x0 12 23 (.int (v4 + 1))).bind fun h5 =>
    r249 h5 x0 (x1 + (-1)) (x2 + (-1)) (x3 + (-1)) x6
  ) else (
    (hGetA h x0 12 25).bind fun v6 =>
    (hLdI h v6 .int (x1 + (-1))).bind fun v7 =>
    (hIs h x0 12).bind fun u8 =>
    (M_Mo_put F h x0 v7 0).bind fun h9 =>
    r317 h9 x0 (x1 + (-1)) x2 x3 x6
  )
def M_Mo_sum_317 (F : Nat) (r9 : hH → Nat → Int32 → Int32 → Int32 → Int32 → Option hH) (r249 : hH → Nat → Int32 → Int32 → Int32 → Int32 → Option hH) : Nat → hH → Nat → Int32 → Int32 → Int32 → Int32 → Option hH
  | 0 => fun _ _ _ _ _ _ => none
  | z + 1 => B_Mo_sum_317 F r9 r249 (M_Mo_sum_317 F r9 r249 z)
def M_Mo_sum_310 (F : Nat) (r9 : hH → Nat → Int32 → Int32 → Int32 → Int32 → Option hH) (r249 : hH → Nat → Int32 → Int32 → Int32 → Int32 → Option hH) (h : hH) (x0 : Nat) (x1 : Int32) (x2 : Int32) (x3 : Int32) (s0 : Int32) : Option hH :=
  if s0 = 0 then (
    r249 h x0 x1 x2 x3 s0
  ) else (
    M_Mo_sum_317 F r9 r249 F h x0 x1 x2 x3 s0
  )
def M_Mo_sum_309 (F : Nat) (r9 : hH → Nat → Int32 → Int32 → Int32 → Int32 → Option hH) (r249 : hH → Nat → Int32 → Int32 → Int32 → Int32 → Option hH) (h : hH) (x0 : Nat) (x1 : Int32) (x2 : Int32) (x3 : Int32) : Option hH :=
  M_Mo_sum_310 F r9 r249 h x0 x1 x2 x3 0
def M_Mo_sum_292 (F : Nat) (r9 : hH → Nat → Int32 → Int32 → Int32 → Int32 → Option hH) (r249 : hH → Nat → Int32 → Int32 → Int32 → Int32 → Option hH) (h : hH) (x0 : Nat) (x1 : Int32) (x2 : Int32) (x3 : Int32) : Option hH :=
  if x3 ≤ 0 then (
    M_Mo_sum_309 F r9 r249 h x0 x1 x2 x3
  ) else (
    (hIs h x0 12).bind fun u2 =>
    (M_Mo_now F h x0).bind fun q3 =>
    if q3.1 = (-9) then (
      M_Mo_sum_310 F r9 r249 q3.2 x0 x1 x2 x3 1
    ) else (
      M_Mo_sum_309 F r9 r249 q3.2 x0 x1 x2 x3
    )
  )
def B_Mo_sum_254 (F : Nat) (r9 : hH → Nat → Int32 → Int32 → Int32 → Int32 → Option hH) (r249 : hH → Nat → Int32 → Int32 → Int32 → Int32 → Option hH) (r254 : hH → Nat → Int32 → Int32 → Int32 → Option hH) (h : hH) (x0 : Nat) (x1 : Int32) (x2 : Int32) (x3 : Int32) : Option hH :=
  if x1 ≤ 0 then (
    M_Mo_sum_292 F r9 r249 h x0 x1 x2 x3
  ) else (
    (hGetA h x0 12 25).bind fun v2 =>
    (hLdI h v2 .int (x1 - 1)).bind fun v3 =>
    if v3 = (-7) then (
      (hGetA h x0 12 26).bind fun v5 =>
      (hLdI h v5 .int (x1 + (-1))).bind fun v6 =>
      (hIs h x0 12).bind fun u7 =>
      (M_Mo_put F h x0 (-7) v6).bind fun h8 =>
      r254 h8 x0 (x1 + (-1)) (x2 + (-1)) x3
    ) else (
      M_Mo_sum_292 F r9 r249 h x0 x1 x2 x3
    )
  )
def M_Mo_sum_254 (F : Nat) (r9 : hH → Nat → Int32 → Int32 → Int32 → Int32 → Option hH) (r249 : hH → Nat → Int32 → Int32 → Int32 → Int32 → Option hH) : Nat → hH → Nat → Int32 → Int32 → Int32 → Option hH
  | 0 => fun _ _ _ _ _ => none
  | z + 1 => B_Mo_sum_254 F r9 r249 (M_Mo_sum_254 F r9 r249 z)
def B_Mo_sum_249 (F : Nat) (r9 : hH → Nat → Int32 → Int32 → Int32 → Int32 → Option hH) (r249 : hH → Nat → Int32 → Int32 → Int32 → Int32 → Option hH) (h : hH) (x0 : Nat) (x1 : Int32) (x2 : Int32) (x3 : Int32) (x6 : Int32) : Option hH :=
  if x6 = 0 then (
    (hIs h x0 12).bind fun u2 =>
    (M_Mo_now F h x0).bind fun q3 =>
    (M_Mo_isOperator F q3.2 q3.1).bind fun q4 =>
    if q4.1 = 0 then (
      M_Mo_sum_465 F r9 q4.2 x0 x1 x2 x3 q4.1
    ) else (
      M_Mo_sum_383 F r9 F q4.2 x0 x1 x2 x3 q4.1
    )
  ) else (
    M_Mo_sum_254 F r9 r249 F h x0 x1 x2 x3
  )
def M_Mo_sum_249 (F : Nat) (r9 : hH → Nat → Int32 → Int32 → Int32 → Int32 → Option hH) : Nat → hH → Nat → Int32 → Int32 → Int32 → Int32 → Option hH
  | 0 => fun _ _ _ _ _ _ => none
  | z + 1 => B_Mo_sum_249 F r9 (M_Mo_sum_249 F r9 z)
def M_Mo_sum_246 (F : Nat) (r9 : hH → Nat → Int32 → Int32 → Int32 → Int32 → Option hH) (h : hH) (x0 : Nat) (x1 : Int32) (x2 : Int32) (x3 : Int32) : Option hH :=
  M_Mo_sum_249 F r9 F h x0 x1 x2 x3 1
def M_Mo_sum_164 (F : Nat) (r9 : hH → Nat → Int32 → Int32 → Int32 → Int32 → Option hH) (h : hH) (x0 : Nat) (x1 : Int32) (x2 : Int32) (x3 : Int32) (x4 : Int32) (x5 : Int32) (s0 : Nat) (s1 : Int32) : Option hH :=
  (hIs h s0 12).bind fun u1 =>
  (M_Mo_want F h s0 s1).bind fun q2 =>
  if q2.1 = 0 then (
    some q2.2
  ) else (
    if x5 = (-7) then (
      (hGetA q2.2 x0 12 25).bind fun v11 =>
      (hStI q2.2 v11 x1 (-7)).bind fun h12 =>
      (hGetA h12 x0 12 26).bind fun v13 =>
      (hIs h12 x0 12).bind fun u14 =>
      (M_Mo_now F h12 x0).bind fun q15 =>
      (hStI q15.2 v13 x1 q15.1).bind fun h16 =>
      (hGetI h16 x0 12 23).bind fun v17 =>
      (hPut h16 x0 12 23 (.int (v17 + 1))).bind fun h18 =>
      r9 h18 x0 (x1 + 1) (x2 + 1) x3 x4
    ) else (
      (hIs q2.2 x0 12).bind fun u5 =>
      (M_Mo_now F q2.2 x0).bind fun q6 =>
      (hIs q6.2 x0 12).bind fun u7 =>
      (M_Mo_put F q6.2 x0 (-6) q6.1).bind fun h8 =>
      (hGetI h8 x0 12 23).bind fun v9 =>
      (hPut h8 x0 12 23 (.int (v9 + 1))).bind fun h10 =>
      M_Mo_sum_246 F r9 h10 x0 x1 x2 x3
    )
  )
def M_Mo_sum_163 (F : Nat) (r9 : hH → Nat → Int32 → Int32 → Int32 → Int32 → Option hH) (h : hH) (x0 : Nat) (x1 : Int32) (x2 : Int32) (x3 : Int32) (x4 : Int32) (x5 : Int32) (s0 : Nat) : Option hH :=
  M_Mo_sum_164 F r9 h x0 x1 x2 x3 x4 x5 s0 0
def M_Mo_sum_156 (F : Nat) (r9 : hH → Nat → Int32 → Int32 → Int32 → Int32 → Option hH) (h : hH) (x0 : Nat) (x1 : Int32) (x2 : Int32) (x3 : Int32) (x4 : Int32) (x5 : Int32) (s0 : Nat) (s1 : Int32) (s2 : Int32) : Option hH :=
  if s2 ≤ s1 then (
    M_Mo_sum_163 F r9 h x0 x1 x2 x3 x4 x5 s0
  ) else (
    M_Mo_sum_164 F r9 h x0 x1 x2 x3 x4 x5 s0 1
  )
def M_Mo_sum_123 (F : Nat) (r9 : hH → Nat → Int32 → Int32 → Int32 → Int32 → Option hH) (h : hH) (x0 : Nat) (x1 : Int32) (x2 : Int32) (x3 : Int32) (x4 : Int32) (x5 : Int32) : Option hH :=
  (hIs h x0 12).bind fun u1 =>
  (M_Mo_now F h x0).bind fun q2 =>
  if q2.1 < 0 then (
    M_Mo_sum_163 F r9 q2.2 x0 x1 x2 x3 x4 x5 x0
  ) else (
    (hIs q2.2 x0 12).bind fun u4 =>
    (M_Mo_now F q2.2 x0).bind fun q5 =>
    if x5 = (-7) then (
      (hGetA q5.2 x0 12 10).bind fun v7 =>
      (hGetI q5.2 x0 12 22).bind fun v8 =>
      (hLdI q5.2 v7 .int v8).bind fun v9 =>
      M_Mo_sum_156 F r9 q5.2 x0 x1 x2 x3 x4 x5 x0 q5.1 v9
    ) else (
      M_Mo_sum_156 F r9 q5.2 x0 x1 x2 x3 x4 x5 x0 q5.1 20
    )
  )
def M_Mo_sum_65 (F : Nat) (r9 : hH → Nat → Int32 → Int32 → Int32 → Int32 → Option hH) (h : hH) (x0 : Nat) (x1 : Int32) (x2 : Int32) (x3 : Int32) (x4 : Int32) (x5 : Int32) (s0 : Nat) (s1 : Int32) : Option hH :=
  (hIs h s0 12).bind fun u1 =>
  (M_Mo_want F h s0 s1).bind fun q2 =>
  if q2.1 = 0 then (
    some q2.2
  ) else (
    (hGetI q2.2 x0 12 23).bind fun v4 =>
    (hPut q2.2 x0 12 23 (.int (v4 + 1))).bind fun h5 =>
    if x5 = (-8) then (
      (hGetA h5 x0 12 25).bind fun v11 =>
      (hStI h5 v11 x1 (-8)).bind fun h12 =>
      r9 h12 x0 (x1 + 1) (x2 + 1) (x3 + 1) x4
    ) else (
      if x5 = (-7) then (
        M_Mo_sum_123 F r9 h5 x0 x1 x2 x3 x4 x5
      ) else (
        if x5 = (-6) then (
          M_Mo_sum_123 F r9 h5 x0 x1 x2 x3 x4 x5
        ) else (
          (hIs h5 x0 12).bind fun u9 =>
          (M_Mo_put F h5 x0 (-21) x5).bind fun h10 =>
          M_Mo_sum_246 F r9 h10 x0 x1 x2 x3
        )
      )
    )
  )
def M_Mo_sum_64 (F : Nat) (r9 : hH → Nat → Int32 → Int32 → Int32 → Int32 → Option hH) (h : hH) (x0 : Nat) (x1 : Int32) (x2 : Int32) (x3 : Int32) (x4 : Int32) (x5 : Int32) (s0 : Nat) : Option hH :=
  M_Mo_sum_65 F r9 h x0 x1 x2 x3 x4 x5 s0 0
def M_Mo_sum_60 (F : Nat) (r9 : hH → Nat → Int32 → Int32 → Int32 → Int32 → Option hH) (h : hH) (x0 : Nat) (x1 : Int32) (x2 : Int32) (x3 : Int32) (x4 : Int32) (x5 : Int32) (s0 : Nat) : Option hH :=
  M_Mo_sum_65 F r9 h x0 x1 x2 x3 x4 x5 s0 1
def B_Mo_sum_9 (F : Nat) (r9 : hH → Nat → Int32 → Int32 → Int32 → Int32 → Option hH) (h : hH) (x0 : Nat) (x1 : Int32) (x2 : Int32) (x3 : Int32) (x4 : Int32) : Option hH :=
  if x4 = 0 then (
    M_Mo_sum_468 F h x0 x1 x3
  ) else (
    (hGetI h x0 12 24).bind fun v2 =>
    if 0 ≤ v2 then (
      M_Mo_sum_468 F h x0 x1 x3
    ) else (
      (hIs h x0 12).bind fun u4 =>
      (M_Mo_now F h x0).bind fun q5 =>
      if 12 < x2 then (
        M_Mo_sum_64 F r9 q5.2 x0 x1 x2 x3 x4 q5.1 x0
      ) else (
        if 0 ≤ q5.1 then (
          M_Mo_sum_60 F r9 q5.2 x0 x1 x2 x3 x4 q5.1 x0
        ) else (
          if q5.1 = (-6) then (
            M_Mo_sum_60 F r9 q5.2 x0 x1 x2 x3 x4 q5.1 x0
          ) else (
            if q5.1 = (-7) then (
              M_Mo_sum_60 F r9 q5.2 x0 x1 x2 x3 x4 q5.1 x0
            ) else (
              if q5.1 = (-8) then (
                M_Mo_sum_60 F r9 q5.2 x0 x1 x2 x3 x4 q5.1 x0
              ) else (
                M_Mo_sum_64 F r9 q5.2 x0 x1 x2 x3 x4 q5.1 x0
              )
            )
          )
        )
      )
    )
  )
def M_Mo_sum_9 (F : Nat) : Nat → hH → Nat → Int32 → Int32 → Int32 → Int32 → Option hH
  | 0 => fun _ _ _ _ _ _ => none
  | z + 1 => B_Mo_sum_9 F (M_Mo_sum_9 F z)
def M_Mo_sum (F : Nat) (h : hH) (x0 : Nat) : Option hH :=
  M_Mo_sum_9 F F h x0 0 0 0 1
abbrev rm_Mo_now : Room := { frames := 0, cells := 0, slots := 0, locals := 0 }
set_option maxHeartbeats 4000000 in
set_option maxRecDepth 100000 in
theorem c_Mo_now (l : Launch) (D : va_G) (K : (Nat → Nat) × (Nat → Nat)) (F : Nat) {h : hH} {x0 : Nat} {q : (Int32 × hH)} (hM : M_Mo_now F h x0 = some q) : Met l y_Mo_now (.code y_Mo_now prog_14_method_9_code 1 (some .int) :: T0) rm_Mo_now (hPc hG D cls0 K [.ref x0] h) (hQ D cls0 h (some (.int q.1)) q.2) 0 0 (hF h) := by
  refine J_met (lv := [(0, .ref x0)]) (by decide) (Nat.le_of_ble_eq_true rfl) rfl ?_
  intro p e s m below meth c X hr hlk hnm
  have Y : HX p s m _ meth c prog_14_method_9_code 1 "LicenceTextsModel" D K "now" (some .int) h := ⟨X, hr, hlk, hnm⟩
  unfold M_Mo_now at hM
  refine J_aload_n (pc := 0) X 0 d_Mo_now_0 rfl ?_
  obtain ⟨v1, ev1, hM⟩ := hb_some hM
  refine J_getI (pc := 1) X hc_Mo in_Mo 23 k_530 (by decide) rfl d_Mo_now_1 rfl ev1 ?_
  refine J_aload_n (pc := 4) X 0 d_Mo_now_4 rfl ?_
  obtain ⟨v2, ev2, hM⟩ := hb_some hM
  refine J_getA (pc := 5) X hc_Mo in_Mo 9 k_487 (by decide) rfl d_Mo_now_5 rfl ev2 ?_
  refine J_aload_n (pc := 8) X 0 d_Mo_now_8 rfl ?_
  obtain ⟨v3, ev3, hM⟩ := hb_some hM
  refine J_getI (pc := 9) X hc_Mo in_Mo 22 k_522 (by decide) rfl d_Mo_now_9 rfl ev3 ?_
  obtain ⟨v4, ev4, hM⟩ := hb_some hM
  refine J_iald (pc := 12) X d_Mo_now_12 rfl ev4 ?_
  refine J_icmp_ge (pc := 13) (tgt := 37) X d_Mo_now_13 (by decide) (fun c5 => ?_) (fun c5 => ?_)
  · have hM := hif_t hM c5
    refine J_bipush (pc := 37) (v := (-20)) X d_Mo_now_37 (by decide) ?_
    obtain rfl := Option.some.inj hM
    exact J_iret (pc := 39) X hr hlk (Nat.le_of_ble_eq_true rfl) (Nat.le_of_ble_eq_true rfl) d_Mo_now_39
  · have hM := hif_f hM c5
    refine J_aload_n (pc := 16) X 0 d_Mo_now_16 rfl ?_
    obtain ⟨v6, ev6, hM⟩ := hb_some hM
    refine J_getA (pc := 17) X hc_Mo in_Mo 8 k_486 (by decide) rfl d_Mo_now_17 rfl ev6 ?_
    refine J_sipush (pc := 20) (v := (400)) X d_Mo_now_20 (by decide) ?_
    refine J_aload_n (pc := 23) X 0 d_Mo_now_23 rfl ?_
    obtain ⟨v7, ev7, hM⟩ := hb_some hM
    refine J_getI (pc := 24) X hc_Mo in_Mo 22 k_522 (by decide) rfl d_Mo_now_24 rfl ev7 ?_
    refine J_imul (pc := 27) X d_Mo_now_27 ?_
    refine J_aload_n (pc := 28) X 0 d_Mo_now_28 rfl ?_
    obtain ⟨v8, ev8, hM⟩ := hb_some hM
    refine J_getI (pc := 29) X hc_Mo in_Mo 23 k_530 (by decide) rfl d_Mo_now_29 rfl ev8 ?_
    refine J_iadd (pc := 32) X d_Mo_now_32 ?_
    obtain ⟨v9, ev9, hM⟩ := hb_some hM
    refine J_iald (pc := 33) X d_Mo_now_33 rfl ev9 ?_
    refine J_goto (pc := 34) (tgt := 39) X d_Mo_now_34 (by decide) ?_
    obtain rfl := Option.some.inj hM
    exact J_iret (pc := 39) X hr hlk (Nat.le_of_ble_eq_true rfl) (Nat.le_of_ble_eq_true rfl) d_Mo_now_39
abbrev rm_Mo_want : Room := { frames := 0, cells := 0, slots := 0, locals := 0 }
set_option maxHeartbeats 4000000 in
set_option maxRecDepth 100000 in
theorem w_Mo_want_19 {p : Program} {l : Launch} {e : Env} {s : State} {m : MethodId} {args : Array Value} {below : List Frame} {meth : Method} {c : Code} {D : va_G} {K : (Nat → Nat) × (Nat → Nat)} {h0 : hH} (Y : HX p s m args meth c prog_14_method_10_code 2 "LicenceTextsModel" D K "want" (some .boolean) h0) {F : Nat} (h : hH) (x0 : Nat) (q : (Int32 × hH)) (hM : M_Mo_want_19 F h x0 = some q) : J p l e rm_Mo_want s m args below meth c 2 D cls0 (hF h0) h [(0, .ref x0)] 0 0 (MQ below (hQ D cls0 h0 (some (.int q.1)) q.2) args s 0 0 (hF h0)) 19 [] := by
  obtain ⟨X, hr, hlk, hnm⟩ := id Y
  unfold M_Mo_want_19 at hM
  refine J_aload_n (pc := 19) X 0 d_Mo_want_19 rfl ?_
  obtain ⟨v1, ev1, hM⟩ := hb_some hM
  refine J_getI (pc := 20) X hc_Mo in_Mo 24 k_531 (by decide) rfl d_Mo_want_20 rfl ev1 ?_
  refine J_if_ge (pc := 23) (tgt := 30) X d_Mo_want_23 (by decide) (fun c2 => ?_) (fun c2 => ?_)
  · have hM := hif_t hM c2
    refine J_iconst (pc := 30) (v := (0)) X d_Mo_want_30 (by decide) ?_
    obtain rfl := Option.some.inj hM
    exact J_zret (pc := 31) X hr hz0 hlk (Nat.le_of_ble_eq_true rfl) (Nat.le_of_ble_eq_true rfl) d_Mo_want_31
  · have hM := hif_f hM c2
    refine J_iconst (pc := 26) (v := (1)) X d_Mo_want_26 (by decide) ?_
    refine J_goto (pc := 27) (tgt := 31) X d_Mo_want_27 (by decide) ?_
    obtain rfl := Option.some.inj hM
    exact J_zret (pc := 31) X hr hz1 hlk (Nat.le_of_ble_eq_true rfl) (Nat.le_of_ble_eq_true rfl) d_Mo_want_31
set_option maxHeartbeats 4000000 in
set_option maxRecDepth 100000 in
theorem c_Mo_want (l : Launch) (D : va_G) (K : (Nat → Nat) × (Nat → Nat)) (F : Nat) {h : hH} {x0 : Nat} {x1 : Int32} {q : (Int32 × hH)} (hM : M_Mo_want F h x0 x1 = some q) : Met l y_Mo_want (.code y_Mo_want prog_14_method_10_code 2 (some .boolean) :: T0) rm_Mo_want (hPc hG D cls0 K [.ref x0, .int x1] h) (hQ D cls0 h (some (.int q.1)) q.2) 0 0 (hF h) := by
  refine J_met (lv := [(0, .ref x0), (1, .int x1)]) (by decide) (Nat.le_of_ble_eq_true rfl) rfl ?_
  intro p e s m below meth c X hr hlk hnm
  have Y : HX p s m _ meth c prog_14_method_10_code 2 "LicenceTextsModel" D K "want" (some .boolean) h := ⟨X, hr, hlk, hnm⟩
  unfold M_Mo_want at hM
  refine J_iload_n (pc := 0) X 1 d_Mo_want_0 rfl ?_
  refine J_if_ne (pc := 1) (tgt := 19) X d_Mo_want_1 (by decide) (fun c1 => ?_) (fun c1 => ?_)
  · have hM := hif_f hM c1
    refine J_sub [0] rfl ?_
    exact w_Mo_want_19 Y _ _ _ hM
  · have hM := hif_t hM c1
    refine J_aload_n (pc := 4) X 0 d_Mo_want_4 rfl ?_
    obtain ⟨v2, ev2, hM⟩ := hb_some hM
    refine J_getI (pc := 5) X hc_Mo in_Mo 24 k_531 (by decide) rfl d_Mo_want_5 rfl ev2 ?_
    refine J_if_ge (pc := 8) (tgt := 19) X d_Mo_want_8 (by decide) (fun c3 => ?_) (fun c3 => ?_)
    · have hM := hif_t hM c3
      refine J_sub [0] rfl ?_
      exact w_Mo_want_19 Y _ _ _ hM
    · have hM := hif_f hM c3
      refine J_aload_n (pc := 11) X 0 d_Mo_want_11 rfl ?_
      refine J_aload_n (pc := 12) X 0 d_Mo_want_12 rfl ?_
      obtain ⟨v4, ev4, hM⟩ := hb_some hM
      refine J_getI (pc := 13) X hc_Mo in_Mo 23 k_530 (by decide) rfl d_Mo_want_13 rfl ev4 ?_
      obtain ⟨h5, eh5, hM⟩ := hb_some hM
      refine J_put (pc := 16) X hc_Mo in_Mo t_Mo tk_Mo nk_Mo 24 k_531 (by decide) rfl rfl d_Mo_want_16 rfl rfl rfl eh5 ?_
      refine J_sub [0] rfl ?_
      exact w_Mo_want_19 Y _ _ _ hM
abbrev rm_Mo_needs : Room := { frames := 1, cells := 0, slots := 0, locals := 21 }
set_option maxHeartbeats 4000000 in
set_option maxRecDepth 100000 in
theorem w_Mo_needs_14 {p : Program} {l : Launch} {e : Env} {s : State} {m : MethodId} {args : Array Value} {below : List Frame} {meth : Method} {c : Code} {D : va_G} {K : (Nat → Nat) × (Nat → Nat)} {h0 : hH} (Y : HX p s m args meth c prog_14_method_11_code 3 "LicenceTextsModel" D K "needs" (some .boolean) h0) {F : Nat} (h : hH) (x0 : Nat) (s0 : Nat) (s1 : Int32) (q : (Int32 × hH)) (hM : M_Mo_needs_14 F h x0 s0 s1 = some q) : J p l e rm_Mo_needs s m args below meth c 3 D cls0 (hF h0) h [(0, .ref x0)] 0 0 (MQ below (hQ D cls0 h0 (some (.int q.1)) q.2) args s 0 0 (hF h0)) 14 [.int s1, .ref s0] := by
  obtain ⟨X, hr, hlk, hnm⟩ := id Y
  unfold M_Mo_needs_14 at hM
  obtain ⟨u1, eu1, hM⟩ := hb_some hM
  obtain ⟨q2, eq2, hM⟩ := hb_some hM
  refine J_callV (pc := 14) (As := [.int s1]) (rest := []) (o := (some (.int q2.1))) (h2 := q2.2) X rfl hc_Mo eu1 (c_Mo_want l D K F eq2) (cwV_of (nA := 1) X.fix k_532 k_534 k_535 k_515 k_533 ⟨rfl, rfl, rfl⟩ (by decide +kernel) ⟨Nat.le_of_ble_eq_true rfl, Nat.le_of_ble_eq_true rfl⟩) d_Mo_needs_14 rfl rfl (Nat.le_of_ble_eq_true rfl) (Nat.le_of_ble_eq_true rfl) (Nat.le_of_ble_eq_true rfl) ?_
  refine J_istore_n (pc := 17) (lv' := [(2, .int q2.1), (0, .ref x0)]) X d_Mo_needs_17 rfl (by decide) rfl ?_
  refine J_aload_n (pc := 18) X 1 d_Mo_needs_18 rfl ?_
  refine J_dup (pc := 19) X d_Mo_needs_19 rfl ?_
  obtain ⟨v3, ev3, hM⟩ := hb_some hM
  refine J_getI (pc := 20) X hc_Mo in_Mo 23 k_530 (by decide) rfl d_Mo_needs_20 rfl ev3 ?_
  refine J_iload_n (pc := 23) X 0 d_Mo_needs_23 rfl ?_
  refine J_if_eq (pc := 24) (tgt := 31) X d_Mo_needs_24 (by decide) (fun c4 => ?_) (fun c4 => ?_)
  · have hM := hif_t hM c4
    refine J_iconst (pc := 31) (v := (0)) X d_Mo_needs_31 (by decide) ?_
    refine J_iadd (pc := 32) X d_Mo_needs_32 ?_
    obtain ⟨h5, eh5, hM⟩ := hb_some hM
    refine J_put (pc := 33) X hc_Mo in_Mo t_Mo tk_Mo nk_Mo 23 k_530 (by decide) rfl rfl d_Mo_needs_33 rfl rfl rfl eh5 ?_
    refine J_iload_n (pc := 36) X 0 d_Mo_needs_36 rfl ?_
    obtain ⟨u6, eu6, hM⟩ := hb_some hM
    obtain rfl := Option.some.inj hM
    exact J_zret (pc := 37) X hr (hZ_of eu6) hlk (Nat.le_of_ble_eq_true rfl) (Nat.le_of_ble_eq_true rfl) d_Mo_needs_37
  · have hM := hif_f hM c4
    refine J_iconst (pc := 27) (v := (1)) X d_Mo_needs_27 (by decide) ?_
    refine J_goto (pc := 28) (tgt := 32) X d_Mo_needs_28 (by decide) ?_
    refine J_iadd (pc := 32) X d_Mo_needs_32 ?_
    obtain ⟨h7, eh7, hM⟩ := hb_some hM
    refine J_put (pc := 33) X hc_Mo in_Mo t_Mo tk_Mo nk_Mo 23 k_530 (by decide) rfl rfl d_Mo_needs_33 rfl rfl rfl eh7 ?_
    refine J_iload_n (pc := 36) X 0 d_Mo_needs_36 rfl ?_
    obtain ⟨u8, eu8, hM⟩ := hb_some hM
    obtain rfl := Option.some.inj hM
    exact J_zret (pc := 37) X hr (hZ_of eu8) hlk (Nat.le_of_ble_eq_true rfl) (Nat.le_of_ble_eq_true rfl) d_Mo_needs_37
set_option maxHeartbeats 4000000 in
set_option maxRecDepth 100000 in
theorem c_Mo_needs (l : Launch) (D : va_G) (K : (Nat → Nat) × (Nat → Nat)) (F : Nat) {h : hH} {x0 : Nat} {x1 : Int32} {q : (Int32 × hH)} (hM : M_Mo_needs F h x0 x1 = some q) : Met l y_Mo_needs (.code y_Mo_needs prog_14_method_11_code 3 (some .boolean) :: T0) rm_Mo_needs (hPc hG D cls0 K [.ref x0, .int x1] h) (hQ D cls0 h (some (.int q.1)) q.2) 0 0 (hF h) := by
  refine J_met (lv := [(0, .ref x0), (1, .int x1)]) (by decide) (Nat.le_of_ble_eq_true rfl) rfl ?_
  intro p e s m below meth c X hr hlk hnm
  have Y : HX p s m _ meth c prog_14_method_11_code 3 "LicenceTextsModel" D K "needs" (some .boolean) h := ⟨X, hr, hlk, hnm⟩
  unfold M_Mo_needs at hM
  refine J_aload_n (pc := 0) X 0 d_Mo_needs_0 rfl ?_
  refine J_aload_n (pc := 1) X 0 d_Mo_needs_1 rfl ?_
  obtain ⟨u1, eu1, hM⟩ := hb_some hM
  obtain ⟨q2, eq2, hM⟩ := hb_some hM
  refine J_callV (pc := 2) (As := []) (rest := [.ref x0]) (o := (some (.int q2.1))) (h2 := q2.2) X rfl hc_Mo eu1 (c_Mo_now l D K F eq2) (cwV_of (nA := 0) X.fix k_536 k_538 k_539 k_515 k_537 ⟨rfl, rfl, rfl⟩ (by decide +kernel) ⟨Nat.le_of_ble_eq_true rfl, Nat.le_of_ble_eq_true rfl⟩) d_Mo_needs_2 rfl rfl (Nat.le_of_ble_eq_true rfl) (Nat.le_of_ble_eq_true rfl) (Nat.le_of_ble_eq_true rfl) ?_
  refine J_iload_n (pc := 5) X 1 d_Mo_needs_5 rfl ?_
  refine J_icmp_ne (pc := 6) (tgt := 13) X d_Mo_needs_6 (by decide) (fun c3 => ?_) (fun c3 => ?_)
  · have hM := hif_f hM c3
    refine J_iconst (pc := 13) (v := (0)) X d_Mo_needs_13 (by decide) ?_
    refine J_sub [0] rfl ?_
    exact w_Mo_needs_14 Y _ _ _ _ _ hM
  · have hM := hif_t hM c3
    refine J_iconst (pc := 9) (v := (1)) X d_Mo_needs_9 (by decide) ?_
    refine J_goto (pc := 10) (tgt := 14) X d_Mo_needs_10 (by decide) ?_
    refine J_sub [0] rfl ?_
    exact w_Mo_needs_14 Y _ _ _ _ _ hM
abbrev rm_Mo_put : Room := { frames := 0, cells := 0, slots := 0, locals := 0 }
set_option maxHeartbeats 4000000 in
set_option maxRecDepth 100000 in
theorem c_Mo_put (l : Launch) (D : va_G) (K : (Nat → Nat) × (Nat → Nat)) (F : Nat) {h : hH} {x0 : Nat} {x1 : Int32} {x2 : Int32} {q : hH} (hM : M_Mo_put F h x0 x1 x2 = some q) : Met l y_Mo_put (.code y_Mo_put prog_14_method_12_code 3 none :: T0) rm_Mo_put (hPc hG D cls0 K [.ref x0, .int x1, .int x2] h) (hQ D cls0 h none q) 0 0 (hF h) := by
  refine J_met (lv := [(0, .ref x0), (1, .int x1), (2, .int x2)]) (by decide) (Nat.le_of_ble_eq_true rfl) rfl ?_
  intro p e s m below meth c X hr hlk hnm
  have Y : HX p s m _ meth c prog_14_method_12_code 3 "LicenceTextsModel" D K "put" none h := ⟨X, hr, hlk, hnm⟩
  unfold M_Mo_put at hM
  refine J_aload_n (pc := 0) X 0 d_Mo_put_0 rfl ?_
  obtain ⟨v1, ev1, hM⟩ := hb_some hM
  refine J_getA (pc := 1) X hc_Mo in_Mo 19 k_497 (by decide) rfl d_Mo_put_1 rfl ev1 ?_
  refine J_sipush (pc := 4) (v := (400)) X d_Mo_put_4 (by decide) ?_
  refine J_aload_n (pc := 7) X 0 d_Mo_put_7 rfl ?_
  obtain ⟨v2, ev2, hM⟩ := hb_some hM
  refine J_getI (pc := 8) X hc_Mo in_Mo 22 k_522 (by decide) rfl d_Mo_put_8 rfl ev2 ?_
  refine J_imul (pc := 11) X d_Mo_put_11 ?_
  refine J_aload_n (pc := 12) X 0 d_Mo_put_12 rfl ?_
  obtain ⟨v3, ev3, hM⟩ := hb_some hM
  refine J_getI (pc := 13) X hc_Mo in_Mo 21 k_540 (by decide) rfl d_Mo_put_13 rfl ev3 ?_
  refine J_iadd (pc := 16) X d_Mo_put_16 ?_
  refine J_iload_n (pc := 17) X 1 d_Mo_put_17 rfl ?_
  obtain ⟨h4, eh4, hM⟩ := hb_some hM
  refine J_iast (pc := 18) X d_Mo_put_18 rfl eh4 ?_
  refine J_aload_n (pc := 19) X 0 d_Mo_put_19 rfl ?_
  obtain ⟨v5, ev5, hM⟩ := hb_some hM
  refine J_getA (pc := 20) X hc_Mo in_Mo 20 k_498 (by decide) rfl d_Mo_put_20 rfl ev5 ?_
  refine J_sipush (pc := 23) (v := (400)) X d_Mo_put_23 (by decide) ?_
  refine J_aload_n (pc := 26) X 0 d_Mo_put_26 rfl ?_
  obtain ⟨v6, ev6, hM⟩ := hb_some hM
  refine J_getI (pc := 27) X hc_Mo in_Mo 22 k_522 (by decide) rfl d_Mo_put_27 rfl ev6 ?_
  refine J_imul (pc := 30) X d_Mo_put_30 ?_
  refine J_aload_n (pc := 31) X 0 d_Mo_put_31 rfl ?_
  obtain ⟨v7, ev7, hM⟩ := hb_some hM
  refine J_getI (pc := 32) X hc_Mo in_Mo 21 k_540 (by decide) rfl d_Mo_put_32 rfl ev7 ?_
  refine J_iadd (pc := 35) X d_Mo_put_35 ?_
  refine J_iload_n (pc := 36) X 2 d_Mo_put_36 rfl ?_
  obtain ⟨h8, eh8, hM⟩ := hb_some hM
  refine J_iast (pc := 37) X d_Mo_put_37 rfl eh8 ?_
  refine J_aload_n (pc := 38) X 0 d_Mo_put_38 rfl ?_
  refine J_dup (pc := 39) X d_Mo_put_39 rfl ?_
  obtain ⟨v9, ev9, hM⟩ := hb_some hM
  refine J_getI (pc := 40) X hc_Mo in_Mo 21 k_540 (by decide) rfl d_Mo_put_40 rfl ev9 ?_
  refine J_iconst (pc := 43) (v := (1)) X d_Mo_put_43 (by decide) ?_
  refine J_iadd (pc := 44) X d_Mo_put_44 ?_
  obtain ⟨h10, eh10, hM⟩ := hb_some hM
  refine J_put (pc := 45) X hc_Mo in_Mo t_Mo tk_Mo nk_Mo 21 k_540 (by decide) rfl rfl d_Mo_put_45 rfl rfl rfl eh10 ?_
  obtain rfl := Option.some.inj hM
  exact J_vret (pc := 48) X hr hlk (Nat.le_of_ble_eq_true rfl) (Nat.le_of_ble_eq_true rfl) d_Mo_put_48
abbrev rm_Mo_tableP : Room := { frames := 2, cells := 0, slots := 0, locals := 43 }
set_option maxHeartbeats 4000000 in
set_option maxRecDepth 100000 in
theorem w_Mo_tableP_110 {p : Program} {l : Launch} {e : Env} {s : State} {m : MethodId} {args : Array Value} {below : List Frame} {meth : Method} {c : Code} {D : va_G} {K : (Nat → Nat) × (Nat → Nat)} {h0 : hH} (Y : HX p s m args meth c prog_14_method_13_code 3 "LicenceTextsModel" D K "table" none h0) {F : Nat} (h : hH) (x0 : Nat) (x1 : Int32) (x2 : Int32) (s0 : Nat) (s1 : Int32) (q : hH) (hM : M_Mo_tableP_110 F h x0 x1 x2 s0 s1 = some q) : J p l e rm_Mo_tableP s m args below meth c 3 D cls0 (hF h0) h [(0, .ref x0), (1, .int x1), (2, .int x2)] 0 0 (MQ below (hQ D cls0 h0 none q) args s 0 0 (hF h0)) 110 [.int s1, .ref s0] := by
  obtain ⟨X, hr, hlk, hnm⟩ := id Y
  unfold M_Mo_tableP_110 at hM
  obtain ⟨u1, eu1, hM⟩ := hb_some hM
  obtain ⟨q2, eq2, hM⟩ := hb_some hM
  refine J_callV (pc := 110) (As := [.int s1]) (rest := []) (o := (some (.int q2.1))) (h2 := q2.2) X rfl hc_Mo eu1 (c_Mo_want l D K F eq2) (cwV_of (nA := 1) X.fix k_532 k_534 k_535 k_515 k_533 ⟨rfl, rfl, rfl⟩ (by decide +kernel) ⟨Nat.le_of_ble_eq_true rfl, Nat.le_of_ble_eq_true rfl⟩) d_Mo_tableP_110 rfl rfl (Nat.le_of_ble_eq_true rfl) (Nat.le_of_ble_eq_true rfl) (Nat.le_of_ble_eq_true rfl) ?_
  refine J_if_eq (pc := 113) (tgt := 153) X d_Mo_tableP_113 (by decide) (fun c3 => ?_) (fun c3 => ?_)
  · have hM := hif_t hM c3
    obtain rfl := Option.some.inj hM
    exact J_vret (pc := 153) X hr hlk (Nat.le_of_ble_eq_true rfl) (Nat.le_of_ble_eq_true rfl) d_Mo_tableP_153
  · have hM := hif_f hM c3
    refine J_aload_n (pc := 116) X 0 d_Mo_tableP_116 rfl ?_
    refine J_bipush (pc := 117) (v := (-19)) X d_Mo_tableP_117 (by decide) ?_
    obtain ⟨u4, eu4, hM⟩ := hb_some hM
    obtain ⟨q5, eq5, hM⟩ := hb_some hM
    refine J_callV (pc := 119) (As := [.int (-19)]) (rest := []) (o := (some (.int q5.1))) (h2 := q5.2) X rfl hc_Mo eu4 (c_Mo_needs l D K F eq5) (cwV_of (nA := 1) X.fix k_541 k_543 k_544 k_515 k_542 ⟨rfl, rfl, rfl⟩ (by decide +kernel) ⟨Nat.le_of_ble_eq_true rfl, Nat.le_of_ble_eq_true rfl⟩) d_Mo_tableP_119 rfl rfl (Nat.le_of_ble_eq_true rfl) (Nat.le_of_ble_eq_true rfl) (Nat.le_of_ble_eq_true rfl) ?_
    refine J_if_eq (pc := 122) (tgt := 153) X d_Mo_tableP_122 (by decide) (fun c6 => ?_) (fun c6 => ?_)
    · have hM := hif_t hM c6
      obtain rfl := Option.some.inj hM
      exact J_vret (pc := 153) X hr hlk (Nat.le_of_ble_eq_true rfl) (Nat.le_of_ble_eq_true rfl) d_Mo_tableP_153
    · have hM := hif_f hM c6
      refine J_aload_n (pc := 125) X 0 d_Mo_tableP_125 rfl ?_
      obtain ⟨v7, ev7, hM⟩ := hb_some hM
      refine J_getA (pc := 126) X hc_Mo in_Mo 11 k_489 (by decide) rfl d_Mo_tableP_126 rfl ev7 ?_
      refine J_bipush (pc := 129) (v := (8)) X d_Mo_tableP_129 (by decide) ?_
      refine J_aload_n (pc := 131) X 0 d_Mo_tableP_131 rfl ?_
      obtain ⟨v8, ev8, hM⟩ := hb_some hM
      refine J_getI (pc := 132) X hc_Mo in_Mo 22 k_522 (by decide) rfl d_Mo_tableP_132 rfl ev8 ?_
      refine J_imul (pc := 135) X d_Mo_tableP_135 ?_
      refine J_iload_n (pc := 136) X 1 d_Mo_tableP_136 rfl ?_
      refine J_iadd (pc := 137) X d_Mo_tableP_137 ?_
      refine J_iload_n (pc := 138) X 2 d_Mo_tableP_138 rfl ?_
      obtain ⟨h9, eh9, hM⟩ := hb_some hM
      refine J_iast (pc := 139) X d_Mo_tableP_139 rfl eh9 ?_
      refine J_aload_n (pc := 140) X 0 d_Mo_tableP_140 rfl ?_
      obtain ⟨v10, ev10, hM⟩ := hb_some hM
      refine J_getA (pc := 141) X hc_Mo in_Mo 10 k_488 (by decide) rfl d_Mo_tableP_141 rfl ev10 ?_
      refine J_aload_n (pc := 144) X 0 d_Mo_tableP_144 rfl ?_
      obtain ⟨v11, ev11, hM⟩ := hb_some hM
      refine J_getI (pc := 145) X hc_Mo in_Mo 22 k_522 (by decide) rfl d_Mo_tableP_145 rfl ev11 ?_
      refine J_dup2 (pc := 148) X d_Mo_tableP_148 rfl rfl ?_
      obtain ⟨v12, ev12, hM⟩ := hb_some hM
      refine J_iald (pc := 149) X d_Mo_tableP_149 rfl ev12 ?_
      refine J_iconst (pc := 150) (v := (1)) X d_Mo_tableP_150 (by decide) ?_
      refine J_iadd (pc := 151) X d_Mo_tableP_151 ?_
      obtain ⟨h13, eh13, hM⟩ := hb_some hM
      refine J_iast (pc := 152) X d_Mo_tableP_152 rfl eh13 ?_
      obtain rfl := Option.some.inj hM
      exact J_vret (pc := 153) X hr hlk (Nat.le_of_ble_eq_true rfl) (Nat.le_of_ble_eq_true rfl) d_Mo_tableP_153
set_option maxHeartbeats 4000000 in
set_option maxRecDepth 100000 in
theorem w_Mo_tableP_100 {p : Program} {l : Launch} {e : Env} {s : State} {m : MethodId} {args : Array Value} {below : List Frame} {meth : Method} {c : Code} {D : va_G} {K : (Nat → Nat) × (Nat → Nat)} {h0 : hH} (Y : HX p s m args meth c prog_14_method_13_code 3 "LicenceTextsModel" D K "table" none h0) {F : Nat} (h : hH) (x0 : Nat) (x1 : Int32) (x2 : Int32) (q : hH) (hM : M_Mo_tableP_100 F h x0 x1 x2 = some q) : J p l e rm_Mo_tableP s m args below meth c 3 D cls0 (hF h0) h [(0, .ref x0), (1, .int x1), (2, .int x2)] 0 0 (MQ below (hQ D cls0 h0 none q) args s 0 0 (hF h0)) 100 [] := by
  obtain ⟨X, hr, hlk, hnm⟩ := id Y
  unfold M_Mo_tableP_100 at hM
  refine J_aload_n (pc := 100) X 0 d_Mo_tableP_100 rfl ?_
  refine J_iload_n (pc := 101) X 2 d_Mo_tableP_101 rfl ?_
  refine J_if_le (pc := 102) (tgt := 109) X d_Mo_tableP_102 (by decide) (fun c1 => ?_) (fun c1 => ?_)
  · have hM := hif_t hM c1
    refine J_iconst (pc := 109) (v := (0)) X d_Mo_tableP_109 (by decide) ?_
    exact w_Mo_tableP_110 Y _ _ _ _ _ _ _ hM
  · have hM := hif_f hM c1
    refine J_iconst (pc := 105) (v := (1)) X d_Mo_tableP_105 (by decide) ?_
    refine J_goto (pc := 106) (tgt := 110) X d_Mo_tableP_106 (by decide) ?_
    exact w_Mo_tableP_110 Y _ _ _ _ _ _ _ hM
set_option maxHeartbeats 4000000 in
set_option maxRecDepth 100000 in
theorem b_Mo_tableP_41 {p : Program} {l : Launch} {e : Env} {s : State} {m : MethodId} {args : Array Value} {below : List Frame} {meth : Method} {c : Code} {D : va_G} {K : (Nat → Nat) × (Nat → Nat)} {h0 : hH} (Y : HX p s m args meth c prog_14_method_13_code 3 "LicenceTextsModel" D K "table" none h0) {F : Nat}   {r41 : hH → Nat → Int32 → Int32 → Option hH} (R41 : ∀ (h : hH) (x0 : Nat) (x1 : Int32) (x2 : Int32) (q : hH), r41 h x0 x1 x2 = some q → J p l e rm_Mo_tableP s m args below meth c 3 D cls0 (hF h0) h [(0, .ref x0), (1, .int x1), (2, .int x2)] 0 0 (MQ below (hQ D cls0 h0 none q) args s 0 0 (hF h0)) 41 []) : ∀ (h : hH) (x0 : Nat) (x1 : Int32) (x2 : Int32) (q : hH), B_Mo_tableP_41 F r41 h x0 x1 x2 = some q → J p l e rm_Mo_tableP s m args below meth c 3 D cls0 (hF h0) h [(0, .ref x0), (1, .int x1), (2, .int x2)] 0 0 (MQ below (hQ D cls0 h0 none q) args s 0 0 (hF h0)) 41 [] := by
  intro h x0 x1 x2 q hM
  obtain ⟨X, hr, hlk, hnm⟩ := id Y
  unfold B_Mo_tableP_41 at hM
  refine J_aload_n (pc := 41) X 0 d_Mo_tableP_41 rfl ?_
  obtain ⟨v1, ev1, hM⟩ := hb_some hM
  refine J_getI (pc := 42) X hc_Mo in_Mo 24 k_531 (by decide) rfl d_Mo_tableP_42 rfl ev1 ?_
  refine J_if_ge (pc := 45) (tgt := 100) X d_Mo_tableP_45 (by decide) (fun c2 => ?_) (fun c2 => ?_)
  · have hM := hif_t hM c2
    exact w_Mo_tableP_100 Y _ _ _ _ _ hM
  · have hM := hif_f hM c2
    refine J_aload_n (pc := 48) X 0 d_Mo_tableP_48 rfl ?_
    obtain ⟨u3, eu3, hM⟩ := hb_some hM
    obtain ⟨q4, eq4, hM⟩ := hb_some hM
    refine J_callV (pc := 49) (As := []) (rest := []) (o := (some (.int q4.1))) (h2 := q4.2) X rfl hc_Mo eu3 (c_Mo_now l D K F eq4) (cwV_of (nA := 0) X.fix k_536 k_538 k_539 k_515 k_537 ⟨rfl, rfl, rfl⟩ (by decide +kernel) ⟨Nat.le_of_ble_eq_true rfl, Nat.le_of_ble_eq_true rfl⟩) d_Mo_tableP_49 rfl rfl (Nat.le_of_ble_eq_true rfl) (Nat.le_of_ble_eq_true rfl) (Nat.le_of_ble_eq_true rfl) ?_
    refine J_if_lt (pc := 52) (tgt := 100) X d_Mo_tableP_52 (by decide) (fun c5 => ?_) (fun c5 => ?_)
    · have hM := hif_t hM c5
      exact w_Mo_tableP_100 Y _ _ _ _ _ hM
    · have hM := hif_f hM c5
      refine J_iload_n (pc := 55) X 2 d_Mo_tableP_55 rfl ?_
      refine J_bipush (pc := 56) (v := (10)) X d_Mo_tableP_56 (by decide) ?_
      refine J_icmp_ge (pc := 58) (tgt := 100) X d_Mo_tableP_58 (by decide) (fun c6 => ?_) (fun c6 => ?_)
      · have hM := hif_t hM c6
        exact w_Mo_tableP_100 Y _ _ _ _ _ hM
      · have hM := hif_f hM c6
        refine J_aload_n (pc := 61) X 0 d_Mo_tableP_61 rfl ?_
        obtain ⟨v7, ev7, hM⟩ := hb_some hM
        refine J_getA (pc := 62) X hc_Mo in_Mo 12 k_490 (by decide) rfl d_Mo_tableP_62 rfl ev7 ?_
        refine J_bipush (pc := 65) (v := (80)) X d_Mo_tableP_65 (by decide) ?_
        refine J_aload_n (pc := 67) X 0 d_Mo_tableP_67 rfl ?_
        obtain ⟨v8, ev8, hM⟩ := hb_some hM
        refine J_getI (pc := 68) X hc_Mo in_Mo 22 k_522 (by decide) rfl d_Mo_tableP_68 rfl ev8 ?_
        refine J_imul (pc := 71) X d_Mo_tableP_71 ?_
        refine J_bipush (pc := 72) (v := (10)) X d_Mo_tableP_72 (by decide) ?_
        refine J_iload_n (pc := 74) X 1 d_Mo_tableP_74 rfl ?_
        refine J_imul (pc := 75) X d_Mo_tableP_75 ?_
        refine J_iadd (pc := 76) X d_Mo_tableP_76 ?_
        refine J_iload_n (pc := 77) X 2 d_Mo_tableP_77 rfl ?_
        refine J_iadd (pc := 78) X d_Mo_tableP_78 ?_
        refine J_aload_n (pc := 79) X 0 d_Mo_tableP_79 rfl ?_
        obtain ⟨u9, eu9, hM⟩ := hb_some hM
        obtain ⟨q10, eq10, hM⟩ := hb_some hM
        refine J_callV (pc := 80) (As := []) (rest := [.int (((80 * v8) + (10 * x1)) + x2), .ref v7]) (o := (some (.int q10.1))) (h2 := q10.2) X rfl hc_Mo eu9 (c_Mo_now l D K F eq10) (cwV_of (nA := 0) X.fix k_536 k_538 k_539 k_515 k_537 ⟨rfl, rfl, rfl⟩ (by decide +kernel) ⟨Nat.le_of_ble_eq_true rfl, Nat.le_of_ble_eq_true rfl⟩) d_Mo_tableP_80 rfl rfl (Nat.le_of_ble_eq_true rfl) (Nat.le_of_ble_eq_true rfl) (Nat.le_of_ble_eq_true rfl) ?_
        obtain ⟨h11, eh11, hM⟩ := hb_some hM
        refine J_iast (pc := 83) X d_Mo_tableP_83 rfl eh11 ?_
        refine J_iinc (pc := 84) (v := x2 + 1) (lv' := [(2, .int (x2 + 1)), (0, .ref x0), (1, .int x1)]) X 2 d_Mo_tableP_84 rfl rfl (by decide) rfl ?_
        refine J_aload_n (pc := 87) X 1 d_Mo_tableP_87 rfl ?_
        refine J_dup (pc := 88) X d_Mo_tableP_88 rfl ?_
        obtain ⟨v12, ev12, hM⟩ := hb_some hM
        refine J_getI (pc := 89) X hc_Mo in_Mo 23 k_530 (by decide) rfl d_Mo_tableP_89 rfl ev12 ?_
        refine J_iconst (pc := 92) (v := (1)) X d_Mo_tableP_92 (by decide) ?_
        refine J_iadd (pc := 93) X d_Mo_tableP_93 ?_
        obtain ⟨h13, eh13, hM⟩ := hb_some hM
        refine J_put (pc := 94) X hc_Mo in_Mo t_Mo tk_Mo nk_Mo 23 k_530 (by decide) rfl rfl d_Mo_tableP_94 rfl rfl rfl eh13 ?_
        refine J_goto (pc := 97) (tgt := 41) X d_Mo_tableP_97 (by decide) ?_
        refine J_sub [1, 2, 0] rfl ?_
        exact R41 _ _ _ _ _ hM
theorem w_Mo_tableP_41 {p : Program} {l : Launch} {e : Env} {s : State} {m : MethodId} {args : Array Value} {below : List Frame} {meth : Method} {c : Code} {D : va_G} {K : (Nat → Nat) × (Nat → Nat)} {h0 : hH} (Y : HX p s m args meth c prog_14_method_13_code 3 "LicenceTextsModel" D K "table" none h0) {F : Nat} : ∀ z : Nat, ∀ (h : hH) (x0 : Nat) (x1 : Int32) (x2 : Int32) (q : hH), M_Mo_tableP_41 F z h x0 x1 x2 = some q → J p l e rm_Mo_tableP s m args below meth c 3 D cls0 (hF h0) h [(0, .ref x0), (1, .int x1), (2, .int x2)] 0 0 (MQ below (hQ D cls0 h0 none q) args s 0 0 (hF h0)) 41 [] := by
  intro z
  induction z with
  | zero => intro h x0 x1 x2 q hM; exact absurd (show (none : Option _) = some q from hM) (fun t => by cases t)
  | succ z ih => exact b_Mo_tableP_41 Y ih
set_option maxHeartbeats 4000000 in
set_option maxRecDepth 100000 in
theorem w_Mo_tableP_22 {p : Program} {l : Launch} {e : Env} {s : State} {m : MethodId} {args : Array Value} {below : List Frame} {meth : Method} {c : Code} {D : va_G} {K : (Nat → Nat) × (Nat → Nat)} {h0 : hH} (Y : HX p s m args meth c prog_14_method_13_code 3 "LicenceTextsModel" D K "table" none h0) {F : Nat} (h : hH) (x0 : Nat) (x1 : Int32) (s0 : Nat) (s1 : Int32) (q : hH) (hM : M_Mo_tableP_22 F h x0 x1 s0 s1 = some q) : J p l e rm_Mo_tableP s m args below meth c 3 D cls0 (hF h0) h [(0, .ref x0), (1, .int x1)] 0 0 (MQ below (hQ D cls0 h0 none q) args s 0 0 (hF h0)) 22 [.int s1, .ref s0] := by
  obtain ⟨X, hr, hlk, hnm⟩ := id Y
  unfold M_Mo_tableP_22 at hM
  obtain ⟨u1, eu1, hM⟩ := hb_some hM
  obtain ⟨q2, eq2, hM⟩ := hb_some hM
  refine J_callV (pc := 22) (As := [.int s1]) (rest := []) (o := (some (.int q2.1))) (h2 := q2.2) X rfl hc_Mo eu1 (c_Mo_want l D K F eq2) (cwV_of (nA := 1) X.fix k_532 k_534 k_535 k_515 k_533 ⟨rfl, rfl, rfl⟩ (by decide +kernel) ⟨Nat.le_of_ble_eq_true rfl, Nat.le_of_ble_eq_true rfl⟩) d_Mo_tableP_22 rfl rfl (Nat.le_of_ble_eq_true rfl) (Nat.le_of_ble_eq_true rfl) (Nat.le_of_ble_eq_true rfl) ?_
  refine J_if_ne (pc := 25) (tgt := 29) X d_Mo_tableP_25 (by decide) (fun c3 => ?_) (fun c3 => ?_)
  · have hM := hif_f hM c3
    refine J_aload_n (pc := 29) X 0 d_Mo_tableP_29 rfl ?_
    refine J_dup (pc := 30) X d_Mo_tableP_30 rfl ?_
    obtain ⟨v4, ev4, hM⟩ := hb_some hM
    refine J_getI (pc := 31) X hc_Mo in_Mo 23 k_530 (by decide) rfl d_Mo_tableP_31 rfl ev4 ?_
    refine J_iconst (pc := 34) (v := (1)) X d_Mo_tableP_34 (by decide) ?_
    refine J_iadd (pc := 35) X d_Mo_tableP_35 ?_
    obtain ⟨h5, eh5, hM⟩ := hb_some hM
    refine J_put (pc := 36) X hc_Mo in_Mo t_Mo tk_Mo nk_Mo 23 k_530 (by decide) rfl rfl d_Mo_tableP_36 rfl rfl rfl eh5 ?_
    refine J_iconst (pc := 39) (v := (0)) X d_Mo_tableP_39 (by decide) ?_
    refine J_istore_n (pc := 40) (lv' := [(2, .int 0), (0, .ref x0), (1, .int x1)]) X d_Mo_tableP_40 rfl (by decide) rfl ?_
    refine J_sub [1, 2, 0] rfl ?_
    exact w_Mo_tableP_41 Y F _ _ _ _ _ hM
  · have hM := hif_t hM c3
    obtain rfl := Option.some.inj hM
    exact J_vret (pc := 28) X hr hlk (Nat.le_of_ble_eq_true rfl) (Nat.le_of_ble_eq_true rfl) d_Mo_tableP_28
set_option maxHeartbeats 4000000 in
set_option maxRecDepth 100000 in
theorem c_Mo_tableP (l : Launch) (D : va_G) (K : (Nat → Nat) × (Nat → Nat)) (F : Nat) {h : hH} {x0 : Nat} {q : hH} (hM : M_Mo_tableP F h x0 = some q) : Met l y_Mo_tableP (.code y_Mo_tableP prog_14_method_13_code 3 none :: T0) rm_Mo_tableP (hPc hG D cls0 K [.ref x0] h) (hQ D cls0 h none q) 0 0 (hF h) := by
  refine J_met (lv := [(0, .ref x0)]) (by decide) (Nat.le_of_ble_eq_true rfl) rfl ?_
  intro p e s m below meth c X hr hlk hnm
  have Y : HX p s m _ meth c prog_14_method_13_code 3 "LicenceTextsModel" D K "table" none h := ⟨X, hr, hlk, hnm⟩
  unfold M_Mo_tableP at hM
  refine J_aload_n (pc := 0) X 0 d_Mo_tableP_0 rfl ?_
  obtain ⟨v1, ev1, hM⟩ := hb_some hM
  refine J_getA (pc := 1) X hc_Mo in_Mo 10 k_488 (by decide) rfl d_Mo_tableP_1 rfl ev1 ?_
  refine J_aload_n (pc := 4) X 0 d_Mo_tableP_4 rfl ?_
  obtain ⟨v2, ev2, hM⟩ := hb_some hM
  refine J_getI (pc := 5) X hc_Mo in_Mo 22 k_522 (by decide) rfl d_Mo_tableP_5 rfl ev2 ?_
  obtain ⟨v3, ev3, hM⟩ := hb_some hM
  refine J_iald (pc := 8) X d_Mo_tableP_8 rfl ev3 ?_
  refine J_istore_n (pc := 9) (lv' := [(1, .int v3), (0, .ref x0)]) X d_Mo_tableP_9 rfl (by decide) rfl ?_
  refine J_aload_n (pc := 10) X 1 d_Mo_tableP_10 rfl ?_
  refine J_iload_n (pc := 11) X 0 d_Mo_tableP_11 rfl ?_
  refine J_bipush (pc := 12) (v := (8)) X d_Mo_tableP_12 (by decide) ?_
  refine J_icmp_ge (pc := 14) (tgt := 21) X d_Mo_tableP_14 (by decide) (fun c4 => ?_) (fun c4 => ?_)
  · have hM := hif_t hM c4
    refine J_iconst (pc := 21) (v := (0)) X d_Mo_tableP_21 (by decide) ?_
    refine J_sub [1, 0] rfl ?_
    exact w_Mo_tableP_22 Y _ _ _ _ _ _ hM
  · have hM := hif_f hM c4
    refine J_iconst (pc := 17) (v := (1)) X d_Mo_tableP_17 (by decide) ?_
    refine J_goto (pc := 18) (tgt := 22) X d_Mo_tableP_18 (by decide) ?_
    refine J_sub [1, 0] rfl ?_
    exact w_Mo_tableP_22 Y _ _ _ _ _ _ hM
abbrev rm_Mo_isOperator : Room := { frames := 0, cells := 0, slots := 0, locals := 0 }
set_option maxHeartbeats 4000000 in
set_option maxRecDepth 100000 in
theorem c_Mo_isOperator (l : Launch) (D : va_G) (K : (Nat → Nat) × (Nat → Nat)) (F : Nat) {h : hH} {x0 : Int32} {q : (Int32 × hH)} (hM : M_Mo_isOperator F h x0 = some q) : Met l y_Mo_isOperator (.code y_Mo_isOperator prog_14_method_14_code 1 (some .boolean) :: T0) rm_Mo_isOperator (hPc hG D cls0 K [.int x0] h) (hQ D cls0 h (some (.int q.1)) q.2) 0 0 (hF h) := by
  refine J_met (lv := [(0, .int x0)]) (by decide) (Nat.le_of_ble_eq_true rfl) rfl ?_
  intro p e s m below meth c X hr hlk hnm
  have Y : HX p s m _ meth c prog_14_method_14_code 1 "LicenceTextsModel" D K "isOperator" (some .boolean) h := ⟨X, hr, hlk, hnm⟩
  unfold M_Mo_isOperator at hM
  refine J_iload_n (pc := 0) X 0 d_Mo_isOperator_0 rfl ?_
  refine J_bipush (pc := 1) (v := (-10)) X d_Mo_isOperator_1 (by decide) ?_
  refine J_icmp_gt (pc := 3) (tgt := 16) X d_Mo_isOperator_3 (by decide) (fun c1 => ?_) (fun c1 => ?_)
  · have hM := hif_t hM c1
    refine J_iconst (pc := 16) (v := (0)) X d_Mo_isOperator_16 (by decide) ?_
    obtain rfl := Option.some.inj hM
    exact J_zret (pc := 17) X hr hz0 hlk (Nat.le_of_ble_eq_true rfl) (Nat.le_of_ble_eq_true rfl) d_Mo_isOperator_17
  · have hM := hif_f hM c1
    refine J_iload_n (pc := 6) X 0 d_Mo_isOperator_6 rfl ?_
    refine J_bipush (pc := 7) (v := (-15)) X d_Mo_isOperator_7 (by decide) ?_
    refine J_icmp_le (pc := 9) (tgt := 16) X d_Mo_isOperator_9 (by decide) (fun c2 => ?_) (fun c2 => ?_)
    · have hM := hif_t hM c2
      refine J_iconst (pc := 16) (v := (0)) X d_Mo_isOperator_16 (by decide) ?_
      obtain rfl := Option.some.inj hM
      exact J_zret (pc := 17) X hr hz0 hlk (Nat.le_of_ble_eq_true rfl) (Nat.le_of_ble_eq_true rfl) d_Mo_isOperator_17
    · have hM := hif_f hM c2
      refine J_iconst (pc := 12) (v := (1)) X d_Mo_isOperator_12 (by decide) ?_
      refine J_goto (pc := 13) (tgt := 17) X d_Mo_isOperator_13 (by decide) ?_
      obtain rfl := Option.some.inj hM
      exact J_zret (pc := 17) X hr hz1 hlk (Nat.le_of_ble_eq_true rfl) (Nat.le_of_ble_eq_true rfl) d_Mo_isOperator_17
abbrev rm_Mo_isProduct : Room := { frames := 0, cells := 0, slots := 0, locals := 0 }
set_option maxHeartbeats 4000000 in
set_option maxRecDepth 100000 in
theorem c_Mo_isProduct (l : Launch) (D : va_G) (K : (Nat → Nat) × (Nat → Nat)) (F : Nat) {h : hH} {x0 : Int32} {q : (Int32 × hH)} (hM : M_Mo_isProduct F h x0 = some q) : Met l y_Mo_isProduct (.code y_Mo_isProduct prog_14_method_15_code 1 (some .boolean) :: T0) rm_Mo_isProduct (hPc hG D cls0 K [.int x0] h) (hQ D cls0 h (some (.int q.1)) q.2) 0 0 (hF h) := by
  refine J_met (lv := [(0, .int x0)]) (by decide) (Nat.le_of_ble_eq_true rfl) rfl ?_
  intro p e s m below meth c X hr hlk hnm
  have Y : HX p s m _ meth c prog_14_method_15_code 1 "LicenceTextsModel" D K "isProduct" (some .boolean) h := ⟨X, hr, hlk, hnm⟩
  unfold M_Mo_isProduct at hM
  refine J_iload_n (pc := 0) X 0 d_Mo_isProduct_0 rfl ?_
  refine J_bipush (pc := 1) (v := (-11)) X d_Mo_isProduct_1 (by decide) ?_
  refine J_icmp_ge (pc := 3) (tgt := 10) X d_Mo_isProduct_3 (by decide) (fun c1 => ?_) (fun c1 => ?_)
  · have hM := hif_t hM c1
    refine J_iconst (pc := 10) (v := (0)) X d_Mo_isProduct_10 (by decide) ?_
    obtain rfl := Option.some.inj hM
    exact J_zret (pc := 11) X hr hz0 hlk (Nat.le_of_ble_eq_true rfl) (Nat.le_of_ble_eq_true rfl) d_Mo_isProduct_11
  · have hM := hif_f hM c1
    refine J_iconst (pc := 6) (v := (1)) X d_Mo_isProduct_6 (by decide) ?_
    refine J_goto (pc := 7) (tgt := 11) X d_Mo_isProduct_7 (by decide) ?_
    obtain rfl := Option.some.inj hM
    exact J_zret (pc := 11) X hr hz1 hlk (Nat.le_of_ble_eq_true rfl) (Nat.le_of_ble_eq_true rfl) d_Mo_isProduct_11
abbrev rm_Mo_sum : Room := { frames := 1, cells := 0, slots := 0, locals := 22 }
set_option maxHeartbeats 4000000 in
set_option maxRecDepth 100000 in
theorem b_Mo_sum_484 {p : Program} {l : Launch} {e : Env} {s : State} {m : MethodId} {args : Array Value} {below : List Frame} {meth : Method} {c : Code} {D : va_G} {K : (Nat → Nat) × (Nat → Nat)} {h0 : hH} (Y : HX p s m args meth c prog_14_method_16_code 7 "LicenceTextsModel" D K "sum" none h0) {F : Nat}   {r484 : hH → Nat → Int32 → Option hH} (R484 : ∀ (h : hH) (x0 : Nat) (x1 : Int32) (q : hH), r484 h x0 x1 = some q → J p l e rm_Mo_sum s m args below meth c 7 D cls0 (hF h0) h [(0, .ref x0), (1, .int x1)] 0 0 (MQ below (hQ D cls0 h0 none q) args s 0 0 (hF h0)) 484 []) : ∀ (h : hH) (x0 : Nat) (x1 : Int32) (q : hH), B_Mo_sum_484 F r484 h x0 x1 = some q → J p l e rm_Mo_sum s m args below meth c 7 D cls0 (hF h0) h [(0, .ref x0), (1, .int x1)] 0 0 (MQ below (hQ D cls0 h0 none q) args s 0 0 (hF h0)) 484 [] := by
  intro h x0 x1 q hM
  obtain ⟨X, hr, hlk, hnm⟩ := id Y
  unfold B_Mo_sum_484 at hM
  refine J_iload_n (pc := 484) X 1 d_Mo_sum_484 rfl ?_
  refine J_if_le (pc := 485) (tgt := 505) X d_Mo_sum_485 (by decide) (fun c1 => ?_) (fun c1 => ?_)
  · have hM := hif_t hM c1
    obtain rfl := Option.some.inj hM
    exact J_vret (pc := 505) X hr hlk (Nat.le_of_ble_eq_true rfl) (Nat.le_of_ble_eq_true rfl) d_Mo_sum_505
  · have hM := hif_f hM c1
    refine J_iinc (pc := 488) (v := x1 + (-1)) (lv' := [(1, .int (x1 + (-1))), (0, .ref x0)]) X 1 d_Mo_sum_488 rfl rfl (by decide) rfl ?_
    refine J_aload_n (pc := 491) X 1 d_Mo_sum_491 rfl ?_
    refine J_aload_n (pc := 492) X 1 d_Mo_sum_492 rfl ?_
    obtain ⟨v2, ev2, hM⟩ := hb_some hM
    refine J_getA (pc := 493) X hc_Mo in_Mo 25 k_499 (by decide) rfl d_Mo_sum_493 rfl ev2 ?_
    refine J_iload_n (pc := 496) X 0 d_Mo_sum_496 rfl ?_
    obtain ⟨v3, ev3, hM⟩ := hb_some hM
    refine J_iald (pc := 497) X d_Mo_sum_497 rfl ev3 ?_
    refine J_iconst (pc := 498) (v := (0)) X d_Mo_sum_498 (by decide) ?_
    obtain ⟨u4, eu4, hM⟩ := hb_some hM
    obtain ⟨h5, eh5, hM⟩ := hb_some hM
    refine J_callV (pc := 499) (As := [.int v3, .int 0]) (rest := []) (o := none) (h2 := h5) X rfl hc_Mo eu4 (c_Mo_put l D K F eh5) (cwV_of (nA := 2) X.fix k_545 k_547 k_548 k_515 k_546 ⟨rfl, rfl, rfl⟩ (by decide +kernel) ⟨Nat.le_of_ble_eq_true rfl, Nat.le_of_ble_eq_true rfl⟩) d_Mo_sum_499 rfl rfl (Nat.le_of_ble_eq_true rfl) (Nat.le_of_ble_eq_true rfl) (Nat.le_of_ble_eq_true rfl) ?_
    refine J_goto (pc := 502) (tgt := 484) X d_Mo_sum_502 (by decide) ?_
    refine J_sub [1, 0] rfl ?_
    exact R484 _ _ _ _ hM
theorem w_Mo_sum_484 {p : Program} {l : Launch} {e : Env} {s : State} {m : MethodId} {args : Array Value} {below : List Frame} {meth : Method} {c : Code} {D : va_G} {K : (Nat → Nat) × (Nat → Nat)} {h0 : hH} (Y : HX p s m args meth c prog_14_method_16_code 7 "LicenceTextsModel" D K "sum" none h0) {F : Nat} : ∀ z : Nat, ∀ (h : hH) (x0 : Nat) (x1 : Int32) (q : hH), M_Mo_sum_484 F z h x0 x1 = some q → J p l e rm_Mo_sum s m args below meth c 7 D cls0 (hF h0) h [(0, .ref x0), (1, .int x1)] 0 0 (MQ below (hQ D cls0 h0 none q) args s 0 0 (hF h0)) 484 [] := by
  intro z
  induction z with
  | zero => intro h x0 x1 q hM; exact absurd (show (none : Option _) = some q from hM) (fun t => by cases t)
  | succ z ih => exact b_Mo_sum_484 Y ih
set_option maxHeartbeats 4000000 in
set_option maxRecDepth 100000 in
theorem w_Mo_sum_478 {p : Program} {l : Launch} {e : Env} {s : State} {m : MethodId} {args : Array Value} {below : List Frame} {meth : Method} {c : Code} {D : va_G} {K : (Nat → Nat) × (Nat → Nat)} {h0 : hH} (Y : HX p s m args meth c prog_14_method_16_code 7 "LicenceTextsModel" D K "sum" none h0) {F : Nat} (h : hH) (x0 : Nat) (x1 : Int32) (s0 : Nat) (s1 : Int32) (q : hH) (hM : M_Mo_sum_478 F h x0 x1 s0 s1 = some q) : J p l e rm_Mo_sum s m args below meth c 7 D cls0 (hF h0) h [(0, .ref x0), (1, .int x1)] 0 0 (MQ below (hQ D cls0 h0 none q) args s 0 0 (hF h0)) 478 [.int s1, .ref s0] := by
  obtain ⟨X, hr, hlk, hnm⟩ := id Y
  unfold M_Mo_sum_478 at hM
  obtain ⟨u1, eu1, hM⟩ := hb_some hM
  obtain ⟨q2, eq2, hM⟩ := hb_some hM
  refine J_callV (pc := 478) (As := [.int s1]) (rest := []) (o := (some (.int q2.1))) (h2 := q2.2) X rfl hc_Mo eu1 (c_Mo_want l D K F eq2) (cwV_of (nA := 1) X.fix k_532 k_534 k_535 k_515 k_533 ⟨rfl, rfl, rfl⟩ (by decide +kernel) ⟨Nat.le_of_ble_eq_true rfl, Nat.le_of_ble_eq_true rfl⟩) d_Mo_sum_478 rfl rfl (Nat.le_of_ble_eq_true rfl) (Nat.le_of_ble_eq_true rfl) (Nat.le_of_ble_eq_true rfl) ?_
  refine J_if_eq (pc := 481) (tgt := 505) X d_Mo_sum_481 (by decide) (fun c3 => ?_) (fun c3 => ?_)
  · have hM := hif_t hM c3
    obtain rfl := Option.some.inj hM
    exact J_vret (pc := 505) X hr hlk (Nat.le_of_ble_eq_true rfl) (Nat.le_of_ble_eq_true rfl) d_Mo_sum_505
  · have hM := hif_f hM c3
    exact w_Mo_sum_484 Y F _ _ _ _ hM
set_option maxHeartbeats 4000000 in
set_option maxRecDepth 100000 in
theorem w_Mo_sum_468 {p : Program} {l : Launch} {e : Env} {s : State} {m : MethodId} {args : Array Value} {below : List Frame} {meth : Method} {c : Code} {D : va_G} {K : (Nat → Nat) × (Nat → Nat)} {h0 : hH} (Y : HX p s m args meth c prog_14_method_16_code 7 "LicenceTextsModel" D K "sum" none h0) {F : Nat} (h : hH) (x0 : Nat) (x1 : Int32) (x3 : Int32) (q : hH) (hM : M_Mo_sum_468 F h x0 x1 x3 = some q) : J p l e rm_Mo_sum s m args below meth c 7 D cls0 (hF h0) h [(0, .ref x0), (1, .int x1), (3, .int x3)] 0 0 (MQ below (hQ D cls0 h0 none q) args s 0 0 (hF h0)) 468 [] := by
  obtain ⟨X, hr, hlk, hnm⟩ := id Y
  unfold M_Mo_sum_468 at hM
  refine J_aload_n (pc := 468) X 0 d_Mo_sum_468 rfl ?_
  refine J_iload_n (pc := 469) X 2 d_Mo_sum_469 rfl ?_
  refine J_if_ne (pc := 470) (tgt := 477) X d_Mo_sum_470 (by decide) (fun c1 => ?_) (fun c1 => ?_)
  · have hM := hif_f hM c1
    refine J_iconst (pc := 477) (v := (0)) X d_Mo_sum_477 (by decide) ?_
    refine J_sub [0, 1] rfl ?_
    exact w_Mo_sum_478 Y _ _ _ _ _ _ hM
  · have hM := hif_t hM c1
    refine J_iconst (pc := 473) (v := (1)) X d_Mo_sum_473 (by decide) ?_
    refine J_goto (pc := 474) (tgt := 478) X d_Mo_sum_474 (by decide) ?_
    refine J_sub [0, 1] rfl ?_
    exact w_Mo_sum_478 Y _ _ _ _ _ _ hM
set_option maxHeartbeats 4000000 in
set_option maxRecDepth 100000 in
theorem w_Mo_sum_465 {p : Program} {l : Launch} {e : Env} {s : State} {m : MethodId} {args : Array Value} {below : List Frame} {meth : Method} {c : Code} {D : va_G} {K : (Nat → Nat) × (Nat → Nat)} {h0 : hH} (Y : HX p s m args meth c prog_14_method_16_code 7 "LicenceTextsModel" D K "sum" none h0) {F : Nat} {r9 : hH → Nat → Int32 → Int32 → Int32 → Int32 → Option hH} (R9 : ∀ (h : hH) (x0 : Nat) (x1 : Int32) (x2 : Int32) (x3 : Int32) (x4 : Int32) (q : hH), r9 h x0 x1 x2 x3 x4 = some q → J p l e rm_Mo_sum s m args below meth c 7 D cls0 (hF h0) h [(0, .ref x0), (1, .int x1), (2, .int x2), (3, .int x3), (4, .int x4)] 0 0 (MQ below (hQ D cls0 h0 none q) args s 0 0 (hF h0)) 9 []) (h : hH) (x0 : Nat) (x1 : Int32) (x2 : Int32) (x3 : Int32) (x4 : Int32) (q : hH) (hM : M_Mo_sum_465 F r9 h x0 x1 x2 x3 x4 = some q) : J p l e rm_Mo_sum s m args below meth c 7 D cls0 (hF h0) h [(0, .ref x0), (1, .int x1), (2, .int x2), (3, .int x3), (4, .int x4)] 0 0 (MQ below (hQ D cls0 h0 none q) args s 0 0 (hF h0)) 465 [] := by
  obtain ⟨X, hr, hlk, hnm⟩ := id Y
  unfold M_Mo_sum_465 at hM
  refine J_goto (pc := 465) (tgt := 9) X d_Mo_sum_465 (by decide) ?_
  exact R9 _ _ _ _ _ _ _ hM
set_option maxHeartbeats 4000000 in
set_option maxRecDepth 100000 in
theorem w_Mo_sum_442 {p : Program} {l : Launch} {e : Env} {s : State} {m : MethodId} {args : Array Value} {below : List Frame} {meth : Method} {c : Code} {D : va_G} {K : (Nat → Nat) × (Nat → Nat)} {h0 : hH} (Y : HX p s m args meth c prog_14_method_16_code 7 "LicenceTextsModel" D K "sum" none h0) {F : Nat} {r9 : hH → Nat → Int32 → Int32 → Int32 → Int32 → Option hH} (R9 : ∀ (h : hH) (x0 : Nat) (x1 : Int32) (x2 : Int32) (x3 : Int32) (x4 : Int32) (q : hH), r9 h x0 x1 x2 x3 x4 = some q → J p l e rm_Mo_sum s m args below meth c 7 D cls0 (hF h0) h [(0, .ref x0), (1, .int x1), (2, .int x2), (3, .int x3), (4, .int x4)] 0 0 (MQ below (hQ D cls0 h0 none q) args s 0 0 (hF h0)) 9 []) (h : hH) (x0 : Nat) (x1 : Int32) (x2 : Int32) (x3 : Int32) (x4 : Int32) (q : hH) (hM : M_Mo_sum_442 F r9 h x0 x1 x2 x3 x4 = some q) : J p l e rm_Mo_sum s m args below meth c 7 D cls0 (hF h0) h [(0, .ref x0), (1, .int x1), (2, .int x2), (3, .int x3), (4, .int x4)] 0 0 (MQ below (hQ D cls0 h0 none q) args s 0 0 (hF h0)) 442 [] := by
  obtain ⟨X, hr, hlk, hnm⟩ := id Y
  unfold M_Mo_sum_442 at hM
  refine J_aload_n (pc := 442) X 0 d_Mo_sum_442 rfl ?_
  obtain ⟨v1, ev1, hM⟩ := hb_some hM
  refine J_getA (pc := 443) X hc_Mo in_Mo 25 k_499 (by decide) rfl d_Mo_sum_443 rfl ev1 ?_
  refine J_iload_n (pc := 446) X 1 d_Mo_sum_446 rfl ?_
  refine J_aload_n (pc := 447) X 0 d_Mo_sum_447 rfl ?_
  obtain ⟨u2, eu2, hM⟩ := hb_some hM
  obtain ⟨q3, eq3, hM⟩ := hb_some hM
  refine J_callV (pc := 448) (As := []) (rest := [.int x1, .ref v1]) (o := (some (.int q3.1))) (h2 := q3.2) X rfl hc_Mo eu2 (c_Mo_now l D K F eq3) (cwV_of (nA := 0) X.fix k_536 k_538 k_539 k_515 k_537 ⟨rfl, rfl, rfl⟩ (by decide +kernel) ⟨Nat.le_of_ble_eq_true rfl, Nat.le_of_ble_eq_true rfl⟩) d_Mo_sum_448 rfl rfl (Nat.le_of_ble_eq_true rfl) (Nat.le_of_ble_eq_true rfl) (Nat.le_of_ble_eq_true rfl) ?_
  obtain ⟨h4, eh4, hM⟩ := hb_some hM
  refine J_iast (pc := 451) X d_Mo_sum_451 rfl eh4 ?_
  refine J_iinc (pc := 452) (v := x1 + 1) (lv' := [(1, .int (x1 + 1)), (0, .ref x0), (2, .int x2), (3, .int x3), (4, .int x4)]) X 1 d_Mo_sum_452 rfl rfl (by decide) rfl ?_
  refine J_aload_n (pc := 455) X 1 d_Mo_sum_455 rfl ?_
  refine J_dup (pc := 456) X d_Mo_sum_456 rfl ?_
  obtain ⟨v5, ev5, hM⟩ := hb_some hM
  refine J_getI (pc := 457) X hc_Mo in_Mo 23 k_530 (by decide) rfl d_Mo_sum_457 rfl ev5 ?_
  refine J_iconst (pc := 460) (v := (1)) X d_Mo_sum_460 (by decide) ?_
  refine J_iadd (pc := 461) X d_Mo_sum_461 ?_
  obtain ⟨h6, eh6, hM⟩ := hb_some hM
  refine J_put (pc := 462) X hc_Mo in_Mo t_Mo tk_Mo nk_Mo 23 k_530 (by decide) rfl rfl d_Mo_sum_462 rfl rfl rfl eh6 ?_
  refine J_sub [1, 0, 2, 3, 4] rfl ?_
  exact w_Mo_sum_465 Y R9 _ _ _ _ _ _ _ hM
set_option maxHeartbeats 4000000 in
set_option maxRecDepth 100000 in
theorem w_Mo_sum_425 {p : Program} {l : Launch} {e : Env} {s : State} {m : MethodId} {args : Array Value} {below : List Frame} {meth : Method} {c : Code} {D : va_G} {K : (Nat → Nat) × (Nat → Nat)} {h0 : hH} (Y : HX p s m args meth c prog_14_method_16_code 7 "LicenceTextsModel" D K "sum" none h0) {F : Nat} {r9 : hH → Nat → Int32 → Int32 → Int32 → Int32 → Option hH} {r383 : hH → Nat → Int32 → Int32 → Int32 → Int32 → Option hH} (R9 : ∀ (h : hH) (x0 : Nat) (x1 : Int32) (x2 : Int32) (x3 : Int32) (x4 : Int32) (q : hH), r9 h x0 x1 x2 x3 x4 = some q → J p l e rm_Mo_sum s m args below meth c 7 D cls0 (hF h0) h [(0, .ref x0), (1, .int x1), (2, .int x2), (3, .int x3), (4, .int x4)] 0 0 (MQ below (hQ D cls0 h0 none q) args s 0 0 (hF h0)) 9 []) (R383 : ∀ (h : hH) (x0 : Nat) (x1 : Int32) (x2 : Int32) (x3 : Int32) (x4 : Int32) (q : hH), r383 h x0 x1 x2 x3 x4 = some q → J p l e rm_Mo_sum s m args below meth c 7 D cls0 (hF h0) h [(0, .ref x0), (1, .int x1), (2, .int x2), (3, .int x3), (4, .int x4)] 0 0 (MQ below (hQ D cls0 h0 none q) args s 0 0 (hF h0)) 383 []) (h : hH) (x0 : Nat) (x1 : Int32) (x2 : Int32) (x3 : Int32) (x4 : Int32) (q : hH) (hM : M_Mo_sum_425 F r9 r383 h x0 x1 x2 x3 x4 = some q) : J p l e rm_Mo_sum s m args below meth c 7 D cls0 (hF h0) h [(0, .ref x0), (1, .int x1), (2, .int x2), (3, .int x3), (4, .int x4)] 0 0 (MQ below (hQ D cls0 h0 none q) args s 0 0 (hF h0)) 425 [] := by
  obtain ⟨X, hr, hlk, hnm⟩ := id Y
  unfold M_Mo_sum_425 at hM
  refine J_iinc (pc := 425) (v := x1 + (-1)) (lv' := [(1, .int (x1 + (-1))), (0, .ref x0), (2, .int x2), (3, .int x3), (4, .int x4)]) X 1 d_Mo_sum_425 rfl rfl (by decide) rfl ?_
  refine J_aload_n (pc := 428) X 1 d_Mo_sum_428 rfl ?_
  refine J_aload_n (pc := 429) X 1 d_Mo_sum_429 rfl ?_
  obtain ⟨v1, ev1, hM⟩ := hb_some hM
  refine J_getA (pc := 430) X hc_Mo in_Mo 25 k_499 (by decide) rfl d_Mo_sum_430 rfl ev1 ?_
  refine J_iload_n (pc := 433) X 0 d_Mo_sum_433 rfl ?_
  obtain ⟨v2, ev2, hM⟩ := hb_some hM
  refine J_iald (pc := 434) X d_Mo_sum_434 rfl ev2 ?_
  refine J_iconst (pc := 435) (v := (0)) X d_Mo_sum_435 (by decide) ?_
  obtain ⟨u3, eu3, hM⟩ := hb_some hM
  obtain ⟨h4, eh4, hM⟩ := hb_some hM
  refine J_callV (pc := 436) (As := [.int v2, .int 0]) (rest := []) (o := none) (h2 := h4) X rfl hc_Mo eu3 (c_Mo_put l D K F eh4) (cwV_of (nA := 2) X.fix k_545 k_547 k_548 k_515 k_546 ⟨rfl, rfl, rfl⟩ (by decide +kernel) ⟨Nat.le_of_ble_eq_true rfl, Nat.le_of_ble_eq_true rfl⟩) d_Mo_sum_436 rfl rfl (Nat.le_of_ble_eq_true rfl) (Nat.le_of_ble_eq_true rfl) (Nat.le_of_ble_eq_true rfl) ?_
  refine J_goto (pc := 439) (tgt := 383) X d_Mo_sum_439 (by decide) ?_
  refine J_sub [1, 0, 2, 3, 4] rfl ?_
  exact R383 _ _ _ _ _ _ _ hM
set_option maxHeartbeats 4000000 in
set_option maxRecDepth 100000 in
theorem b_Mo_sum_383 {p : Program} {l : Launch} {e : Env} {s : State} {m : MethodId} {args : Array Value} {below : List Frame} {meth : Method} {c : Code} {D : va_G} {K : (Nat → Nat) × (Nat → Nat)} {h0 : hH} (Y : HX p s m args meth c prog_14_method_16_code 7 "LicenceTextsModel" D K "sum" none h0) {F : Nat}  {r9 : hH → Nat → Int32 → Int32 → Int32 → Int32 → Option hH}  (R9 : ∀ (h : hH) (x0 : Nat) (x1 : Int32) (x2 : Int32) (x3 : Int32) (x4 : Int32) (q : hH), r9 h x0 x1 x2 x3 x4 = some q → J p l e rm_Mo_sum s m args below meth c 7 D cls0 (hF h0) h [(0, .ref x0), (1, .int x1), (2, .int x2), (3, .int x3), (4, .int x4)] 0 0 (MQ below (hQ D cls0 h0 none q) args s 0 0 (hF h0)) 9 []) {r383 : hH → Nat → Int32 → Int32 → Int32 → Int32 → Option hH} (R383 : ∀ (h : hH) (x0 : Nat) (x1 : Int32) (x2 : Int32) (x3 : Int32) (x4 : Int32) (q : hH), r383 h x0 x1 x2 x3 x4 = some q → J p l e rm_Mo_sum s m args below meth c 7 D cls0 (hF h0) h [(0, .ref x0), (1, .int x1), (2, .int x2), (3, .int x3), (4, .int x4)] 0 0 (MQ below (hQ D cls0 h0 none q) args s 0 0 (hF h0)) 383 []) : ∀ (h : hH) (x0 : Nat) (x1 : Int32) (x2 : Int32) (x3 : Int32) (x4 : Int32) (q : hH), B_Mo_sum_383 F r9 r383 h x0 x1 x2 x3 x4 = some q → J p l e rm_Mo_sum s m args below meth c 7 D cls0 (hF h0) h [(0, .ref x0), (1, .int x1), (2, .int x2), (3, .int x3), (4, .int x4)] 0 0 (MQ below (hQ D cls0 h0 none q) args s 0 0 (hF h0)) 383 [] := by
  intro h x0 x1 x2 x3 x4 q hM
  obtain ⟨X, hr, hlk, hnm⟩ := id Y
  unfold B_Mo_sum_383 at hM
  refine J_iload_n (pc := 383) X 1 d_Mo_sum_383 rfl ?_
  refine J_if_le (pc := 384) (tgt := 442) X d_Mo_sum_384 (by decide) (fun c1 => ?_) (fun c1 => ?_)
  · have hM := hif_t hM c1
    exact w_Mo_sum_442 Y R9 _ _ _ _ _ _ _ hM
  · have hM := hif_f hM c1
    refine J_aload_n (pc := 387) X 0 d_Mo_sum_387 rfl ?_
    obtain ⟨v2, ev2, hM⟩ := hb_some hM
    refine J_getA (pc := 388) X hc_Mo in_Mo 25 k_499 (by decide) rfl d_Mo_sum_388 rfl ev2 ?_
    refine J_iload_n (pc := 391) X 1 d_Mo_sum_391 rfl ?_
    refine J_iconst (pc := 392) (v := (1)) X d_Mo_sum_392 (by decide) ?_
    refine J_isub (pc := 393) X d_Mo_sum_393 ?_
    obtain ⟨v3, ev3, hM⟩ := hb_some hM
    refine J_iald (pc := 394) X d_Mo_sum_394 rfl ev3 ?_
    obtain ⟨q4, eq4, hM⟩ := hb_some hM
    refine J_callS (pc := 395) (As := [.int v3]) (rest := []) (o := (some (.int q4.1))) (h2 := q4.2) X (c_Mo_isOperator l D K F eq4) (cwS_of (nA := 1) X.fix k_549 k_551 k_515 k_550 ⟨rfl, rfl⟩ (by decide +kernel) ⟨Nat.le_of_ble_eq_true rfl, Nat.le_of_ble_eq_true rfl⟩) d_Mo_sum_395 rfl rfl (Nat.le_of_ble_eq_true rfl) (Nat.le_of_ble_eq_true rfl) (Nat.le_of_ble_eq_true rfl) ?_
    refine J_if_eq (pc := 398) (tgt := 442) X d_Mo_sum_398 (by decide) (fun c5 => ?_) (fun c5 => ?_)
    · have hM := hif_t hM c5
      exact w_Mo_sum_442 Y R9 _ _ _ _ _ _ _ hM
    · have hM := hif_f hM c5
      refine J_aload_n (pc := 401) X 0 d_Mo_sum_401 rfl ?_
      obtain ⟨v6, ev6, hM⟩ := hb_some hM
      refine J_getA (pc := 402) X hc_Mo in_Mo 25 k_499 (by decide) rfl d_Mo_sum_402 rfl ev6 ?_
      refine J_iload_n (pc := 405) X 1 d_Mo_sum_405 rfl ?_
      refine J_iconst (pc := 406) (v := (1)) X d_Mo_sum_406 (by decide) ?_
      refine J_isub (pc := 407) X d_Mo_sum_407 ?_
      obtain ⟨v7, ev7, hM⟩ := hb_some hM
      refine J_iald (pc := 408) X d_Mo_sum_408 rfl ev7 ?_
      obtain ⟨q8, eq8, hM⟩ := hb_some hM
      refine J_callS (pc := 409) (As := [.int v7]) (rest := []) (o := (some (.int q8.1))) (h2 := q8.2) X (c_Mo_isProduct l D K F eq8) (cwS_of (nA := 1) X.fix k_552 k_554 k_515 k_553 ⟨rfl, rfl⟩ (by decide +kernel) ⟨Nat.le_of_ble_eq_true rfl, Nat.le_of_ble_eq_true rfl⟩) d_Mo_sum_409 rfl rfl (Nat.le_of_ble_eq_true rfl) (Nat.le_of_ble_eq_true rfl) (Nat.le_of_ble_eq_true rfl) ?_
      refine J_if_ne (pc := 412) (tgt := 425) X d_Mo_sum_412 (by decide) (fun c9 => ?_) (fun c9 => ?_)
      · have hM := hif_f hM c9
        exact w_Mo_sum_425 Y R9 R383 _ _ _ _ _ _ _ hM
      · have hM := hif_t hM c9
        refine J_aload_n (pc := 415) X 0 d_Mo_sum_415 rfl ?_
        obtain ⟨u10, eu10, hM⟩ := hb_some hM
        obtain ⟨q11, eq11, hM⟩ := hb_some hM
        refine J_callV (pc := 416) (As := []) (rest := []) (o := (some (.int q11.1))) (h2 := q11.2) X rfl hc_Mo eu10 (c_Mo_now l D K F eq11) (cwV_of (nA := 0) X.fix k_536 k_538 k_539 k_515 k_537 ⟨rfl, rfl, rfl⟩ (by decide +kernel) ⟨Nat.le_of_ble_eq_true rfl, Nat.le_of_ble_eq_true rfl⟩) d_Mo_sum_416 rfl rfl (Nat.le_of_ble_eq_true rfl) (Nat.le_of_ble_eq_true rfl) (Nat.le_of_ble_eq_true rfl) ?_
        obtain ⟨q12, eq12, hM⟩ := hb_some hM
        refine J_callS (pc := 419) (As := [.int q11.1]) (rest := []) (o := (some (.int q12.1))) (h2 := q12.2) X (c_Mo_isProduct l D K F eq12) (cwS_of (nA := 1) X.fix k_552 k_554 k_515 k_553 ⟨rfl, rfl⟩ (by decide +kernel) ⟨Nat.le_of_ble_eq_true rfl, Nat.le_of_ble_eq_true rfl⟩) d_Mo_sum_419 rfl rfl (Nat.le_of_ble_eq_true rfl) (Nat.le_of_ble_eq_true rfl) (Nat.le_of_ble_eq_true rfl) ?_
        refine J_if_ne (pc := 422) (tgt := 442) X d_Mo_sum_422 (by decide) (fun c13 => ?_) (fun c13 => ?_)
        · have hM := hif_f hM c13
          exact w_Mo_sum_442 Y R9 _ _ _ _ _ _ _ hM
        · have hM := hif_t hM c13
          exact w_Mo_sum_425 Y R9 R383 _ _ _ _ _ _ _ hM
theorem w_Mo_sum_383 {p : Program} {l : Launch} {e : Env} {s : State} {m : MethodId} {args : Array Value} {below : List Frame} {meth : Method} {c : Code} {D : va_G} {K : (Nat → Nat) × (Nat → Nat)} {h0 : hH} (Y : HX p s m args meth c prog_14_method_16_code 7 "LicenceTextsModel" D K "sum" none h0) {F : Nat} {r9 : hH → Nat → Int32 → Int32 → Int32 → Int32 → Option hH} (R9 : ∀ (h : hH) (x0 : Nat) (x1 : Int32) (x2 : Int32) (x3 : Int32) (x4 : Int32) (q : hH), r9 h x0 x1 x2 x3 x4 = some q → J p l e rm_Mo_sum s m args below meth c 7 D cls0 (hF h0) h [(0, .ref x0), (1, .int x1), (2, .int x2), (3, .int x3), (4, .int x4)] 0 0 (MQ below (hQ D cls0 h0 none q) args s 0 0 (hF h0)) 9 []) : ∀ z : Nat, ∀ (h : hH) (x0 : Nat) (x1 : Int32) (x2 : Int32) (x3 : Int32) (x4 : Int32) (q : hH), M_Mo_sum_383 F r9 z h x0 x1 x2 x3 x4 = some q → J p l e rm_Mo_sum s m args below meth c 7 D cls0 (hF h0) h [(0, .ref x0), (1, .int x1), (2, .int x2), (3, .int x3), (4, .int x4)] 0 0 (MQ below (hQ D cls0 h0 none q) args s 0 0 (hF h0)) 383 [] := by
  intro z
  induction z with
  | zero => intro h x0 x1 x2 x3 x4 q hM; exact absurd (show (none : Option _) = some q from hM) (fun t => by cases t)
  | succ z ih => exact b_Mo_sum_383 Y R9 ih
set_option maxHeartbeats 4000000 in
set_option maxRecDepth 100000 in
theorem b_Mo_sum_317 {p : Program} {l : Launch} {e : Env} {s : State} {m : MethodId} {args : Array Value} {below : List Frame} {meth : Method} {c : Code} {D : va_G} {K : (Nat → Nat) × (Nat → Nat)} {h0 : hH} (Y : HX p s m args meth c prog_14_method_16_code 7 "LicenceTextsModel" D K "sum" none h0) {F : Nat}  {r9 : hH → Nat → Int32 → Int32 → Int32 → Int32 → Option hH} {r249 : hH → Nat → Int32 → Int32 → Int32 → Int32 → Option hH}  (R9 : ∀ (h : hH) (x0 : Nat) (x1 : Int32) (x2 : Int32) (x3 : Int32) (x4 : Int32) (q : hH), r9 h x0 x1 x2 x3 x4 = some q → J p l e rm_Mo_sum s m args below meth c 7 D cls0 (hF h0) h [(0, .ref x0), (1, .int x1), (2, .int x2), (3, .int x3), (4, .int x4)] 0 0 (MQ below (hQ D cls0 h0 none q) args s 0 0 (hF h0)) 9 []) (R249 : ∀ (h : hH) (x0 : Nat) (x1 : Int32) (x2 : Int32) (x3 : Int32) (x6 : Int32) (q : hH), r249 h x0 x1 x2 x3 x6 = some q → J p l e rm_Mo_sum s m args below meth c 7 D cls0 (hF h0) h [(0, .ref x0), (1, .int x1), (2, .int x2), (3, .int x3), (6, .int x6)] 0 0 (MQ below (hQ D cls0 h0 none q) args s 0 0 (hF h0)) 249 []) {r317 : hH → Nat → Int32 → Int32 → Int32 → Int32 → Option hH} (R317 : ∀ (h : hH) (x0 : Nat) (x1 : Int32) (x2 : Int32) (x3 : Int32) (x6 : Int32) (q : hH), r317 h x0 x1 x2 x3 x6 = some q → J p l e rm_Mo_sum s m args below meth c 7 D cls0 (hF h0) h [(0, .ref x0), (1, .int x1), (2, .int x2), (3, .int x3), (6, .int x6)] 0 0 (MQ below (hQ D cls0 h0 none q) args s 0 0 (hF h0)) 317 []) : ∀ (h : hH) (x0 : Nat) (x1 : Int32) (x2 : Int32) (x3 : Int32) (x6 : Int32) (q : hH), B_Mo_sum_317 F r9 r249 r317 h x0 x1 x2 x3 x6 = some q → J p l e rm_Mo_sum s m args below meth c 7 D cls0 (hF h0) h [(0, .ref x0), (1, .int x1), (2, .int x2), (3, .int x3), (6, .int x6)] 0 0 (MQ below (hQ D cls0 h0 none q) args s 0 0 (hF h0)) 317 [] := by
  intro h x0 x1 x2 x3 x6 q hM
  obtain ⟨X, hr, hlk, hnm⟩ := id Y
  unfold B_Mo_sum_317 at hM
  refine J_aload_n (pc := 317) X 0 d_Mo_sum_317 rfl ?_
  obtain ⟨v1, ev1, hM⟩ := hb_some hM
  refine J_getA (pc := 318) X hc_Mo in_Mo 25 k_499 (by decide) rfl d_Mo_sum_318 rfl ev1 ?_
  refine J_iload_n (pc := 321) X 1 d_Mo_sum_321 rfl ?_
  refine J_iconst (pc := 322) (v := (1)) X d_Mo_sum_322 (by decide) ?_
  refine J_isub (pc := 323) X d_Mo_sum_323 ?_
  obtain ⟨v2, ev2, hM⟩ := hb_some hM
  refine J_iald (pc := 324) X d_Mo_sum_324 rfl ev2 ?_
  refine J_bipush (pc := 325) (v := (-8)) X d_Mo_sum_325 (by decide) ?_
  refine J_icmp_eq (pc := 327) (tgt := 347) X d_Mo_sum_327 (by decide) (fun c3 => ?_) (fun c3 => ?_)
  · have hM := hif_t hM c3
    refine J_iinc (pc := 347) (v := x1 + (-1)) (lv' := [(1, .int (x1 + (-1))), (0, .ref x0), (2, .int x2), (3, .int x3), (6, .int x6)]) X 1 d_Mo_sum_347 rfl rfl (by decide) rfl ?_
    refine J_iinc (pc := 350) (v := x2 + (-1)) (lv' := [(2, .int (x2 + (-1))), (1, .int (x1 + (-1))), (0, .ref x0), (3, .int x3), (6, .int x6)]) X 2 d_Mo_sum_350 rfl rfl (by decide) rfl ?_
    refine J_iinc (pc := 353) (v := x3 + (-1)) (lv' := [(3, .int (x3 + (-1))), (2, .int (x2 + (-1))), (1, .int (x1 + (-1))), (0, .ref x0), (6, .int x6)]) X 3 d_Mo_sum_353 rfl rfl (by decide) rfl ?_
    refine J_aload_n (pc := 356) X 3 d_Mo_sum_356 rfl ?_
    refine J_dup (pc := 357) X d_Mo_sum_357 rfl ?_
    obtain ⟨v4, ev4, hM⟩ := hb_some hM
    refine J_getI (pc := 358) X hc_Mo in_Mo 23 k_530 (by decide) rfl d_Mo_sum_358 rfl ev4 ?_
    refine J_iconst (pc := 361) (v := (1)) X d_Mo_sum_361 (by decide) ?_
    refine J_iadd (pc := 362) X d_Mo_sum_362 ?_
    obtain ⟨h5, eh5, hM⟩ := hb_some hM
    refine J_put (pc := 363) X hc_Mo in_Mo t_Mo tk_Mo nk_Mo 23 k_530 (by decide) rfl rfl d_Mo_sum_363 rfl rfl rfl eh5 ?_
    refine J_goto (pc := 366) (tgt := 249) X d_Mo_sum_366 (by decide) ?_
    refine J_sub [3, 2, 1, 0, 4] rfl ?_
    exact R249 _ _ _ _ _ _ _ hM
  · have hM := hif_f hM c3
    refine J_iinc (pc := 330) (v := x1 + (-1)) (lv' := [(1, .int (x1 + (-1))), (0, .ref x0), (2, .int x2), (3, .int x3), (6, .int x6)]) X 1 d_Mo_sum_330 rfl rfl (by decide) rfl ?_
    refine J_aload_n (pc := 333) X 1 d_Mo_sum_333 rfl ?_
    refine J_aload_n (pc := 334) X 1 d_Mo_sum_334 rfl ?_
    obtain ⟨v6, ev6, hM⟩ := hb_some hM
    refine J_getA (pc := 335) X hc_Mo in_Mo 25 k_499 (by decide) rfl d_Mo_sum_335 rfl ev6 ?_
    refine J_iload_n (pc := 338) X 0 d_Mo_sum_338 rfl ?_
    obtain ⟨v7, ev7, hM⟩ := hb_some hM
    refine J_iald (pc := 339) X d_Mo_sum_339 rfl ev7 ?_
    refine J_iconst (pc := 340) (v := (0)) X d_Mo_sum_340 (by decide) ?_
    obtain ⟨u8, eu8, hM⟩ := hb_some hM
    obtain ⟨h9, eh9, hM⟩ := hb_some hM
    refine J_callV (pc := 341) (As := [.int v7, .int 0]) (rest := []) (o := none) (h2 := h9) X rfl hc_Mo eu8 (c_Mo_put l D K F eh9) (cwV_of (nA := 2) X.fix k_545 k_547 k_548 k_515 k_546 ⟨rfl, rfl, rfl⟩ (by decide +kernel) ⟨Nat.le_of_ble_eq_true rfl, Nat.le_of_ble_eq_true rfl⟩) d_Mo_sum_341 rfl rfl (Nat.le_of_ble_eq_true rfl) (Nat.le_of_ble_eq_true rfl) (Nat.le_of_ble_eq_true rfl) ?_
    refine J_goto (pc := 344) (tgt := 317) X d_Mo_sum_344 (by decide) ?_
    refine J_sub [1, 0, 2, 3, 4] rfl ?_
    exact R317 _ _ _ _ _ _ _ hM
theorem w_Mo_sum_317 {p : Program} {l : Launch} {e : Env} {s : State} {m : MethodId} {args : Array Value} {below : List Frame} {meth : Method} {c : Code} {D : va_G} {K : (Nat → Nat) × (Nat → Nat)} {h0 : hH} (Y : HX p s m args meth c prog_14_method_16_code 7 "LicenceTextsModel" D K "sum" none h0) {F : Nat} {r9 : hH → Nat → Int32 → Int32 → Int32 → Int32 → Option hH} {r249 : hH → Nat → Int32 → Int32 → Int32 → Int32 → Option hH} (R9 : ∀ (h : hH) (x0 : Nat) (x1 : Int32) (x2 : Int32) (x3 : Int32) (x4 : Int32) (q : hH), r9 h x0 x1 x2 x3 x4 = some q → J p l e rm_Mo_sum s m args below meth c 7 D cls0 (hF h0) h [(0, .ref x0), (1, .int x1), (2, .int x2), (3, .int x3), (4, .int x4)] 0 0 (MQ below (hQ D cls0 h0 none q) args s 0 0 (hF h0)) 9 []) (R249 : ∀ (h : hH) (x0 : Nat) (x1 : Int32) (x2 : Int32) (x3 : Int32) (x6 : Int32) (q : hH), r249 h x0 x1 x2 x3 x6 = some q → J p l e rm_Mo_sum s m args below meth c 7 D cls0 (hF h0) h [(0, .ref x0), (1, .int x1), (2, .int x2), (3, .int x3), (6, .int x6)] 0 0 (MQ below (hQ D cls0 h0 none q) args s 0 0 (hF h0)) 249 []) : ∀ z : Nat, ∀ (h : hH) (x0 : Nat) (x1 : Int32) (x2 : Int32) (x3 : Int32) (x6 : Int32) (q : hH), M_Mo_sum_317 F r9 r249 z h x0 x1 x2 x3 x6 = some q → J p l e rm_Mo_sum s m args below meth c 7 D cls0 (hF h0) h [(0, .ref x0), (1, .int x1), (2, .int x2), (3, .int x3), (6, .int x6)] 0 0 (MQ below (hQ D cls0 h0 none q) args s 0 0 (hF h0)) 317 [] := by
  intro z
  induction z with
  | zero => intro h x0 x1 x2 x3 x6 q hM; exact absurd (show (none : Option _) = some q from hM) (fun t => by cases t)
  | succ z ih => exact b_Mo_sum_317 Y R9 R249 ih
set_option maxHeartbeats 4000000 in
set_option maxRecDepth 100000 in
theorem w_Mo_sum_310 {p : Program} {l : Launch} {e : Env} {s : State} {m : MethodId} {args : Array Value} {below : List Frame} {meth : Method} {c : Code} {D : va_G} {K : (Nat → Nat) × (Nat → Nat)} {h0 : hH} (Y : HX p s m args meth c prog_14_method_16_code 7 "LicenceTextsModel" D K "sum" none h0) {F : Nat} {r9 : hH → Nat → Int32 → Int32 → Int32 → Int32 → Option hH} {r249 : hH → Nat → Int32 → Int32 → Int32 → Int32 → Option hH} (R9 : ∀ (h : hH) (x0 : Nat) (x1 : Int32) (x2 : Int32) (x3 : Int32) (x4 : Int32) (q : hH), r9 h x0 x1 x2 x3 x4 = some q → J p l e rm_Mo_sum s m args below meth c 7 D cls0 (hF h0) h [(0, .ref x0), (1, .int x1), (2, .int x2), (3, .int x3), (4, .int x4)] 0 0 (MQ below (hQ D cls0 h0 none q) args s 0 0 (hF h0)) 9 []) (R249 : ∀ (h : hH) (x0 : Nat) (x1 : Int32) (x2 : Int32) (x3 : Int32) (x6 : Int32) (q : hH), r249 h x0 x1 x2 x3 x6 = some q → J p l e rm_Mo_sum s m args below meth c 7 D cls0 (hF h0) h [(0, .ref x0), (1, .int x1), (2, .int x2), (3, .int x3), (6, .int x6)] 0 0 (MQ below (hQ D cls0 h0 none q) args s 0 0 (hF h0)) 249 []) (h : hH) (x0 : Nat) (x1 : Int32) (x2 : Int32) (x3 : Int32) (s0 : Int32) (q : hH) (hM : M_Mo_sum_310 F r9 r249 h x0 x1 x2 x3 s0 = some q) : J p l e rm_Mo_sum s m args below meth c 7 D cls0 (hF h0) h [(0, .ref x0), (1, .int x1), (2, .int x2), (3, .int x3)] 0 0 (MQ below (hQ D cls0 h0 none q) args s 0 0 (hF h0)) 310 [.int s0] := by
  obtain ⟨X, hr, hlk, hnm⟩ := id Y
  unfold M_Mo_sum_310 at hM
  refine J_istore (pc := 310) (lv' := [(6, .int s0), (0, .ref x0), (1, .int x1), (2, .int x2), (3, .int x3)]) X d_Mo_sum_310 (by decide) rfl ?_
  refine J_iload (pc := 312) X 0 d_Mo_sum_312 rfl ?_
  refine J_if_eq (pc := 314) (tgt := 249) X d_Mo_sum_314 (by decide) (fun c1 => ?_) (fun c1 => ?_)
  · have hM := hif_t hM c1
    refine J_sub [1, 2, 3, 4, 0] rfl ?_
    exact R249 _ _ _ _ _ _ _ hM
  · have hM := hif_f hM c1
    refine J_sub [1, 2, 3, 4, 0] rfl ?_
    exact w_Mo_sum_317 Y R9 R249 F _ _ _ _ _ _ _ hM
set_option maxHeartbeats 4000000 in
set_option maxRecDepth 100000 in
theorem w_Mo_sum_309 {p : Program} {l : Launch} {e : Env} {s : State} {m : MethodId} {args : Array Value} {below : List Frame} {meth : Method} {c : Code} {D : va_G} {K : (Nat → Nat) × (Nat → Nat)} {h0 : hH} (Y : HX p s m args meth c prog_14_method_16_code 7 "LicenceTextsModel" D K "sum" none h0) {F : Nat} {r9 : hH → Nat → Int32 → Int32 → Int32 → Int32 → Option hH} {r249 : hH → Nat → Int32 → Int32 → Int32 → Int32 → Option hH} (R9 : ∀ (h : hH) (x0 : Nat) (x1 : Int32) (x2 : Int32) (x3 : Int32) (x4 : Int32) (q : hH), r9 h x0 x1 x2 x3 x4 = some q → J p l e rm_Mo_sum s m args below meth c 7 D cls0 (hF h0) h [(0, .ref x0), (1, .int x1), (2, .int x2), (3, .int x3), (4, .int x4)] 0 0 (MQ below (hQ D cls0 h0 none q) args s 0 0 (hF h0)) 9 []) (R249 : ∀ (h : hH) (x0 : Nat) (x1 : Int32) (x2 : Int32) (x3 : Int32) (x6 : Int32) (q : hH), r249 h x0 x1 x2 x3 x6 = some q → J p l e rm_Mo_sum s m args below meth c 7 D cls0 (hF h0) h [(0, .ref x0), (1, .int x1), (2, .int x2), (3, .int x3), (6, .int x6)] 0 0 (MQ below (hQ D cls0 h0 none q) args s 0 0 (hF h0)) 249 []) (h : hH) (x0 : Nat) (x1 : Int32) (x2 : Int32) (x3 : Int32) (q : hH) (hM : M_Mo_sum_309 F r9 r249 h x0 x1 x2 x3 = some q) : J p l e rm_Mo_sum s m args below meth c 7 D cls0 (hF h0) h [(0, .ref x0), (1, .int x1), (2, .int x2), (3, .int x3)] 0 0 (MQ below (hQ D cls0 h0 none q) args s 0 0 (hF h0)) 309 [] := by
  obtain ⟨X, hr, hlk, hnm⟩ := id Y
  unfold M_Mo_sum_309 at hM
  refine J_iconst (pc := 309) (v := (0)) X d_Mo_sum_309 (by decide) ?_
  exact w_Mo_sum_310 Y R9 R249 _ _ _ _ _ _ _ hM
set_option maxHeartbeats 4000000 in
set_option maxRecDepth 100000 in
theorem w_Mo_sum_292 {p : Program} {l : Launch} {e : Env} {s : State} {m : MethodId} {args : Array Value} {below : List Frame} {meth : Method} {c : Code} {D : va_G} {K : (Nat → Nat) × (Nat → Nat)} {h0 : hH} (Y : HX p s m args meth c prog_14_method_16_code 7 "LicenceTextsModel" D K "sum" none h0) {F : Nat} {r9 : hH → Nat → Int32 → Int32 → Int32 → Int32 → Option hH} {r249 : hH → Nat → Int32 → Int32 → Int32 → Int32 → Option hH} (R9 : ∀ (h : hH) (x0 : Nat) (x1 : Int32) (x2 : Int32) (x3 : Int32) (x4 : Int32) (q : hH), r9 h x0 x1 x2 x3 x4 = some q → J p l e rm_Mo_sum s m args below meth c 7 D cls0 (hF h0) h [(0, .ref x0), (1, .int x1), (2, .int x2), (3, .int x3), (4, .int x4)] 0 0 (MQ below (hQ D cls0 h0 none q) args s 0 0 (hF h0)) 9 []) (R249 : ∀ (h : hH) (x0 : Nat) (x1 : Int32) (x2 : Int32) (x3 : Int32) (x6 : Int32) (q : hH), r249 h x0 x1 x2 x3 x6 = some q → J p l e rm_Mo_sum s m args below meth c 7 D cls0 (hF h0) h [(0, .ref x0), (1, .int x1), (2, .int x2), (3, .int x3), (6, .int x6)] 0 0 (MQ below (hQ D cls0 h0 none q) args s 0 0 (hF h0)) 249 []) (h : hH) (x0 : Nat) (x1 : Int32) (x2 : Int32) (x3 : Int32) (q : hH) (hM : M_Mo_sum_292 F r9 r249 h x0 x1 x2 x3 = some q) : J p l e rm_Mo_sum s m args below meth c 7 D cls0 (hF h0) h [(0, .ref x0), (1, .int x1), (2, .int x2), (3, .int x3)] 0 0 (MQ below (hQ D cls0 h0 none q) args s 0 0 (hF h0)) 292 [] := by
  obtain ⟨X, hr, hlk, hnm⟩ := id Y
  unfold M_Mo_sum_292 at hM
  refine J_iload_n (pc := 292) X 3 d_Mo_sum_292 rfl ?_
  refine J_if_le (pc := 293) (tgt := 309) X d_Mo_sum_293 (by decide) (fun c1 => ?_) (fun c1 => ?_)
  · have hM := hif_t hM c1
    exact w_Mo_sum_309 Y R9 R249 _ _ _ _ _ _ hM
  · have hM := hif_f hM c1
    refine J_aload_n (pc := 296) X 0 d_Mo_sum_296 rfl ?_
    obtain ⟨u2, eu2, hM⟩ := hb_some hM
    obtain ⟨q3, eq3, hM⟩ := hb_some hM
    refine J_callV (pc := 297) (As := []) (rest := []) (o := (some (.int q3.1))) (h2 := q3.2) X rfl hc_Mo eu2 (c_Mo_now l D K F eq3) (cwV_of (nA := 0) X.fix k_536 k_538 k_539 k_515 k_537 ⟨rfl, rfl, rfl⟩ (by decide +kernel) ⟨Nat.le_of_ble_eq_true rfl, Nat.le_of_ble_eq_true rfl⟩) d_Mo_sum_297 rfl rfl (Nat.le_of_ble_eq_true rfl) (Nat.le_of_ble_eq_true rfl) (Nat.le_of_ble_eq_true rfl) ?_
    refine J_bipush (pc := 300) (v := (-9)) X d_Mo_sum_300 (by decide) ?_
    refine J_icmp_ne (pc := 302) (tgt := 309) X d_Mo_sum_302 (by decide) (fun c4 => ?_) (fun c4 => ?_)
    · have hM := hif_f hM c4
      exact w_Mo_sum_309 Y R9 R249 _ _ _ _ _ _ hM
    · have hM := hif_t hM c4
      refine J_iconst (pc := 305) (v := (1)) X d_Mo_sum_305 (by decide) ?_
      refine J_goto (pc := 306) (tgt := 310) X d_Mo_sum_306 (by decide) ?_
      exact w_Mo_sum_310 Y R9 R249 _ _ _ _ _ _ _ hM
set_option maxHeartbeats 4000000 in
set_option maxRecDepth 100000 in
theorem b_Mo_sum_254 {p : Program} {l : Launch} {e : Env} {s : State} {m : MethodId} {args : Array Value} {below : List Frame} {meth : Method} {c : Code} {D : va_G} {K : (Nat → Nat) × (Nat → Nat)} {h0 : hH} (Y : HX p s m args meth c prog_14_method_16_code 7 "LicenceTextsModel" D K "sum" none h0) {F : Nat}  {r9 : hH → Nat → Int32 → Int32 → Int32 → Int32 → Option hH} {r249 : hH → Nat → Int32 → Int32 → Int32 → Int32 → Option hH}  (R9 : ∀ (h : hH) (x0 : Nat) (x1 : Int32) (x2 : Int32) (x3 : Int32) (x4 : Int32) (q : hH), r9 h x0 x1 x2 x3 x4 = some q → J p l e rm_Mo_sum s m args below meth c 7 D cls0 (hF h0) h [(0, .ref x0), (1, .int x1), (2, .int x2), (3, .int x3), (4, .int x4)] 0 0 (MQ below (hQ D cls0 h0 none q) args s 0 0 (hF h0)) 9 []) (R249 : ∀ (h : hH) (x0 : Nat) (x1 : Int32) (x2 : Int32) (x3 : Int32) (x6 : Int32) (q : hH), r249 h x0 x1 x2 x3 x6 = some q → J p l e rm_Mo_sum s m args below meth c 7 D cls0 (hF h0) h [(0, .ref x0), (1, .int x1), (2, .int x2), (3, .int x3), (6, .int x6)] 0 0 (MQ below (hQ D cls0 h0 none q) args s 0 0 (hF h0)) 249 []) {r254 : hH → Nat → Int32 → Int32 → Int32 → Option hH} (R254 : ∀ (h : hH) (x0 : Nat) (x1 : Int32) (x2 : Int32) (x3 : Int32) (q : hH), r254 h x0 x1 x2 x3 = some q → J p l e rm_Mo_sum s m args below meth c 7 D cls0 (hF h0) h [(0, .ref x0), (1, .int x1), (2, .int x2), (3, .int x3)] 0 0 (MQ below (hQ D cls0 h0 none q) args s 0 0 (hF h0)) 254 []) : ∀ (h : hH) (x0 : Nat) (x1 : Int32) (x2 : Int32) (x3 : Int32) (q : hH), B_Mo_sum_254 F r9 r249 r254 h x0 x1 x2 x3 = some q → J p l e rm_Mo_sum s m args below meth c 7 D cls0 (hF h0) h [(0, .ref x0), (1, .int x1), (2, .int x2), (3, .int x3)] 0 0 (MQ below (hQ D cls0 h0 none q) args s 0 0 (hF h0)) 254 [] := by
  intro h x0 x1 x2 x3 q hM
  obtain ⟨X, hr, hlk, hnm⟩ := id Y
  unfold B_Mo_sum_254 at hM
  refine J_iload_n (pc := 254) X 1 d_Mo_sum_254 rfl ?_
  refine J_if_le (pc := 255) (tgt := 292) X d_Mo_sum_255 (by decide) (fun c1 => ?_) (fun c1 => ?_)
  · have hM := hif_t hM c1
    exact w_Mo_sum_292 Y R9 R249 _ _ _ _ _ _ hM
  · have hM := hif_f hM c1
    refine J_aload_n (pc := 258) X 0 d_Mo_sum_258 rfl ?_
    obtain ⟨v2, ev2, hM⟩ := hb_some hM
    refine J_getA (pc := 259) X hc_Mo in_Mo 25 k_499 (by decide) rfl d_Mo_sum_259 rfl ev2 ?_
    refine J_iload_n (pc := 262) X 1 d_Mo_sum_262 rfl ?_
    refine J_iconst (pc := 263) (v := (1)) X d_Mo_sum_263 (by decide) ?_
    refine J_isub (pc := 264) X d_Mo_sum_264 ?_
    obtain ⟨v3, ev3, hM⟩ := hb_some hM
    refine J_iald (pc := 265) X d_Mo_sum_265 rfl ev3 ?_
    refine J_bipush (pc := 266) (v := (-7)) X d_Mo_sum_266 (by decide) ?_
    refine J_icmp_ne (pc := 268) (tgt := 292) X d_Mo_sum_268 (by decide) (fun c4 => ?_) (fun c4 => ?_)
    · have hM := hif_f hM c4
      exact w_Mo_sum_292 Y R9 R249 _ _ _ _ _ _ hM
    · have hM := hif_t hM c4
      refine J_iinc (pc := 271) (v := x1 + (-1)) (lv' := [(1, .int (x1 + (-1))), (0, .ref x0), (2, .int x2), (3, .int x3)]) X 1 d_Mo_sum_271 rfl rfl (by decide) rfl ?_
      refine J_iinc (pc := 274) (v := x2 + (-1)) (lv' := [(2, .int (x2 + (-1))), (1, .int (x1 + (-1))), (0, .ref x0), (3, .int x3)]) X 2 d_Mo_sum_274 rfl rfl (by decide) rfl ?_
      refine J_aload_n (pc := 277) X 2 d_Mo_sum_277 rfl ?_
      refine J_bipush (pc := 278) (v := (-7)) X d_Mo_sum_278 (by decide) ?_
      refine J_aload_n (pc := 280) X 2 d_Mo_sum_280 rfl ?_
      obtain ⟨v5, ev5, hM⟩ := hb_some hM
      refine J_getA (pc := 281) X hc_Mo in_Mo 26 k_500 (by decide) rfl d_Mo_sum_281 rfl ev5 ?_
      refine J_iload_n (pc := 284) X 1 d_Mo_sum_284 rfl ?_
      obtain ⟨v6, ev6, hM⟩ := hb_some hM
      refine J_iald (pc := 285) X d_Mo_sum_285 rfl ev6 ?_
      obtain ⟨u7, eu7, hM⟩ := hb_some hM
      obtain ⟨h8, eh8, hM⟩ := hb_some hM
      refine J_callV (pc := 286) (As := [.int (-7), .int v6]) (rest := []) (o := none) (h2 := h8) X rfl hc_Mo eu7 (c_Mo_put l D K F eh8) (cwV_of (nA := 2) X.fix k_545 k_547 k_548 k_515 k_546 ⟨rfl, rfl, rfl⟩ (by decide +kernel) ⟨Nat.le_of_ble_eq_true rfl, Nat.le_of_ble_eq_true rfl⟩) d_Mo_sum_286 rfl rfl (Nat.le_of_ble_eq_true rfl) (Nat.le_of_ble_eq_true rfl) (Nat.le_of_ble_eq_true rfl) ?_
      refine J_goto (pc := 289) (tgt := 254) X d_Mo_sum_289 (by decide) ?_
      refine J_sub [2, 1, 0, 3] rfl ?_
      exact R254 _ _ _ _ _ _ hM
theorem w_Mo_sum_254 {p : Program} {l : Launch} {e : Env} {s : State} {m : MethodId} {args : Array Value} {below : List Frame} {meth : Method} {c : Code} {D : va_G} {K : (Nat → Nat) × (Nat → Nat)} {h0 : hH} (Y : HX p s m args meth c prog_14_method_16_code 7 "LicenceTextsModel" D K "sum" none h0) {F : Nat} {r9 : hH → Nat → Int32 → Int32 → Int32 → Int32 → Option hH} {r249 : hH → Nat → Int32 → Int32 → Int32 → Int32 → Option hH} (R9 : ∀ (h : hH) (x0 : Nat) (x1 : Int32) (x2 : Int32) (x3 : Int32) (x4 : Int32) (q : hH), r9 h x0 x1 x2 x3 x4 = some q → J p l e rm_Mo_sum s m args below meth c 7 D cls0 (hF h0) h [(0, .ref x0), (1, .int x1), (2, .int x2), (3, .int x3), (4, .int x4)] 0 0 (MQ below (hQ D cls0 h0 none q) args s 0 0 (hF h0)) 9 []) (R249 : ∀ (h : hH) (x0 : Nat) (x1 : Int32) (x2 : Int32) (x3 : Int32) (x6 : Int32) (q : hH), r249 h x0 x1 x2 x3 x6 = some q → J p l e rm_Mo_sum s m args below meth c 7 D cls0 (hF h0) h [(0, .ref x0), (1, .int x1), (2, .int x2), (3, .int x3), (6, .int x6)] 0 0 (MQ below (hQ D cls0 h0 none q) args s 0 0 (hF h0)) 249 []) : ∀ z : Nat, ∀ (h : hH) (x0 : Nat) (x1 : Int32) (x2 : Int32) (x3 : Int32) (q : hH), M_Mo_sum_254 F r9 r249 z h x0 x1 x2 x3 = some q → J p l e rm_Mo_sum s m args below meth c 7 D cls0 (hF h0) h [(0, .ref x0), (1, .int x1), (2, .int x2), (3, .int x3)] 0 0 (MQ below (hQ D cls0 h0 none q) args s 0 0 (hF h0)) 254 [] := by
  intro z
  induction z with
  | zero => intro h x0 x1 x2 x3 q hM; exact absurd (show (none : Option _) = some q from hM) (fun t => by cases t)
  | succ z ih => exact b_Mo_sum_254 Y R9 R249 ih
set_option maxHeartbeats 4000000 in
set_option maxRecDepth 100000 in
theorem b_Mo_sum_249 {p : Program} {l : Launch} {e : Env} {s : State} {m : MethodId} {args : Array Value} {below : List Frame} {meth : Method} {c : Code} {D : va_G} {K : (Nat → Nat) × (Nat → Nat)} {h0 : hH} (Y : HX p s m args meth c prog_14_method_16_code 7 "LicenceTextsModel" D K "sum" none h0) {F : Nat}  {r9 : hH → Nat → Int32 → Int32 → Int32 → Int32 → Option hH}  (R9 : ∀ (h : hH) (x0 : Nat) (x1 : Int32) (x2 : Int32) (x3 : Int32) (x4 : Int32) (q : hH), r9 h x0 x1 x2 x3 x4 = some q → J p l e rm_Mo_sum s m args below meth c 7 D cls0 (hF h0) h [(0, .ref x0), (1, .int x1), (2, .int x2), (3, .int x3), (4, .int x4)] 0 0 (MQ below (hQ D cls0 h0 none q) args s 0 0 (hF h0)) 9 []) {r249 : hH → Nat → Int32 → Int32 → Int32 → Int32 → Option hH} (R249 : ∀ (h : hH) (x0 : Nat) (x1 : Int32) (x2 : Int32) (x3 : Int32) (x6 : Int32) (q : hH), r249 h x0 x1 x2 x3 x6 = some q → J p l e rm_Mo_sum s m args below meth c 7 D cls0 (hF h0) h [(0, .ref x0), (1, .int x1), (2, .int x2), (3, .int x3), (6, .int x6)] 0 0 (MQ below (hQ D cls0 h0 none q) args s 0 0 (hF h0)) 249 []) : ∀ (h : hH) (x0 : Nat) (x1 : Int32) (x2 : Int32) (x3 : Int32) (x6 : Int32) (q : hH), B_Mo_sum_249 F r9 r249 h x0 x1 x2 x3 x6 = some q → J p l e rm_Mo_sum s m args below meth c 7 D cls0 (hF h0) h [(0, .ref x0), (1, .int x1), (2, .int x2), (3, .int x3), (6, .int x6)] 0 0 (MQ below (hQ D cls0 h0 none q) args s 0 0 (hF h0)) 249 [] := by
  intro h x0 x1 x2 x3 x6 q hM
  obtain ⟨X, hr, hlk, hnm⟩ := id Y
  unfold B_Mo_sum_249 at hM
  refine J_iload (pc := 249) X 4 d_Mo_sum_249 rfl ?_
  refine J_if_eq (pc := 251) (tgt := 369) X d_Mo_sum_251 (by decide) (fun c1 => ?_) (fun c1 => ?_)
  · have hM := hif_t hM c1
    refine J_aload_n (pc := 369) X 0 d_Mo_sum_369 rfl ?_
    obtain ⟨u2, eu2, hM⟩ := hb_some hM
    obtain ⟨q3, eq3, hM⟩ := hb_some hM
    refine J_callV (pc := 370) (As := []) (rest := []) (o := (some (.int q3.1))) (h2 := q3.2) X rfl hc_Mo eu2 (c_Mo_now l D K F eq3) (cwV_of (nA := 0) X.fix k_536 k_538 k_539 k_515 k_537 ⟨rfl, rfl, rfl⟩ (by decide +kernel) ⟨Nat.le_of_ble_eq_true rfl, Nat.le_of_ble_eq_true rfl⟩) d_Mo_sum_370 rfl rfl (Nat.le_of_ble_eq_true rfl) (Nat.le_of_ble_eq_true rfl) (Nat.le_of_ble_eq_true rfl) ?_
    obtain ⟨q4, eq4, hM⟩ := hb_some hM
    refine J_callS (pc := 373) (As := [.int q3.1]) (rest := []) (o := (some (.int q4.1))) (h2 := q4.2) X (c_Mo_isOperator l D K F eq4) (cwS_of (nA := 1) X.fix k_549 k_551 k_515 k_550 ⟨rfl, rfl⟩ (by decide +kernel) ⟨Nat.le_of_ble_eq_true rfl, Nat.le_of_ble_eq_true rfl⟩) d_Mo_sum_373 rfl rfl (Nat.le_of_ble_eq_true rfl) (Nat.le_of_ble_eq_true rfl) (Nat.le_of_ble_eq_true rfl) ?_
    refine J_istore (pc := 376) (lv' := [(4, .int q4.1), (0, .ref x0), (1, .int x1), (2, .int x2), (3, .int x3), (6, .int x6)]) X d_Mo_sum_376 (by decide) rfl ?_
    refine J_iload (pc := 378) X 0 d_Mo_sum_378 rfl ?_
    refine J_if_eq (pc := 380) (tgt := 465) X d_Mo_sum_380 (by decide) (fun c5 => ?_) (fun c5 => ?_)
    · have hM := hif_t hM c5
      refine J_sub [1, 2, 3, 4, 0] rfl ?_
      exact w_Mo_sum_465 Y R9 _ _ _ _ _ _ _ hM
    · have hM := hif_f hM c5
      refine J_sub [1, 2, 3, 4, 0] rfl ?_
      exact w_Mo_sum_383 Y R9 F _ _ _ _ _ _ _ hM
  · have hM := hif_f hM c1
    refine J_sub [0, 1, 2, 3] rfl ?_
    exact w_Mo_sum_254 Y R9 R249 F _ _ _ _ _ _ hM
theorem w_Mo_sum_249 {p : Program} {l : Launch} {e : Env} {s : State} {m : MethodId} {args : Array Value} {below : List Frame} {meth : Method} {c : Code} {D : va_G} {K : (Nat → Nat) × (Nat → Nat)} {h0 : hH} (Y : HX p s m args meth c prog_14_method_16_code 7 "LicenceTextsModel" D K "sum" none h0) {F : Nat} {r9 : hH → Nat → Int32 → Int32 → Int32 → Int32 → Option hH} (R9 : ∀ (h : hH) (x0 : Nat) (x1 : Int32) (x2 : Int32) (x3 : Int32) (x4 : Int32) (q : hH), r9 h x0 x1 x2 x3 x4 = some q → J p l e rm_Mo_sum s m args below meth c 7 D cls0 (hF h0) h [(0, .ref x0), (1, .int x1), (2, .int x2), (3, .int x3), (4, .int x4)] 0 0 (MQ below (hQ D cls0 h0 none q) args s 0 0 (hF h0)) 9 []) : ∀ z : Nat, ∀ (h : hH) (x0 : Nat) (x1 : Int32) (x2 : Int32) (x3 : Int32) (x6 : Int32) (q : hH), M_Mo_sum_249 F r9 z h x0 x1 x2 x3 x6 = some q → J p l e rm_Mo_sum s m args below meth c 7 D cls0 (hF h0) h [(0, .ref x0), (1, .int x1), (2, .int x2), (3, .int x3), (6, .int x6)] 0 0 (MQ below (hQ D cls0 h0 none q) args s 0 0 (hF h0)) 249 [] := by
  intro z
  induction z with
  | zero => intro h x0 x1 x2 x3 x6 q hM; exact absurd (show (none : Option _) = some q from hM) (fun t => by cases t)
  | succ z ih => exact b_Mo_sum_249 Y R9 ih
set_option maxHeartbeats 4000000 in
set_option maxRecDepth 100000 in
theorem w_Mo_sum_246 {p : Program} {l : Launch} {e : Env} {s : State} {m : MethodId} {args : Array Value} {below : List Frame} {meth : Method} {c : Code} {D : va_G} {K : (Nat → Nat) × (Nat → Nat)} {h0 : hH} (Y : HX p s m args meth c prog_14_method_16_code 7 "LicenceTextsModel" D K "sum" none h0) {F : Nat} {r9 : hH → Nat → Int32 → Int32 → Int32 → Int32 → Option hH} (R9 : ∀ (h : hH) (x0 : Nat) (x1 : Int32) (x2 : Int32) (x3 : Int32) (x4 : Int32) (q : hH), r9 h x0 x1 x2 x3 x4 = some q → J p l e rm_Mo_sum s m args below meth c 7 D cls0 (hF h0) h [(0, .ref x0), (1, .int x1), (2, .int x2), (3, .int x3), (4, .int x4)] 0 0 (MQ below (hQ D cls0 h0 none q) args s 0 0 (hF h0)) 9 []) (h : hH) (x0 : Nat) (x1 : Int32) (x2 : Int32) (x3 : Int32) (q : hH) (hM : M_Mo_sum_246 F r9 h x0 x1 x2 x3 = some q) : J p l e rm_Mo_sum s m args below meth c 7 D cls0 (hF h0) h [(0, .ref x0), (1, .int x1), (2, .int x2), (3, .int x3)] 0 0 (MQ below (hQ D cls0 h0 none q) args s 0 0 (hF h0)) 246 [] := by
  obtain ⟨X, hr, hlk, hnm⟩ := id Y
  unfold M_Mo_sum_246 at hM
  refine J_iconst (pc := 246) (v := (1)) X d_Mo_sum_246 (by decide) ?_
  refine J_istore (pc := 247) (lv' := [(6, .int 1), (0, .ref x0), (1, .int x1), (2, .int x2), (3, .int x3)]) X d_Mo_sum_247 (by decide) rfl ?_
  refine J_sub [1, 2, 3, 4, 0] rfl ?_
  exact w_Mo_sum_249 Y R9 F _ _ _ _ _ _ _ hM
set_option maxHeartbeats 4000000 in
set_option maxRecDepth 100000 in
theorem w_Mo_sum_164 {p : Program} {l : Launch} {e : Env} {s : State} {m : MethodId} {args : Array Value} {below : List Frame} {meth : Method} {c : Code} {D : va_G} {K : (Nat → Nat) × (Nat → Nat)} {h0 : hH} (Y : HX p s m args meth c prog_14_method_16_code 7 "LicenceTextsModel" D K "sum" none h0) {F : Nat} {r9 : hH → Nat → Int32 → Int32 → Int32 → Int32 → Option hH} (R9 : ∀ (h : hH) (x0 : Nat) (x1 : Int32) (x2 : Int32) (x3 : Int32) (x4 : Int32) (q : hH), r9 h x0 x1 x2 x3 x4 = some q → J p l e rm_Mo_sum s m args below meth c 7 D cls0 (hF h0) h [(0, .ref x0), (1, .int x1), (2, .int x2), (3, .int x3), (4, .int x4)] 0 0 (MQ below (hQ D cls0 h0 none q) args s 0 0 (hF h0)) 9 []) (h : hH) (x0 : Nat) (x1 : Int32) (x2 : Int32) (x3 : Int32) (x4 : Int32) (x5 : Int32) (s0 : Nat) (s1 : Int32) (q : hH) (hM : M_Mo_sum_164 F r9 h x0 x1 x2 x3 x4 x5 s0 s1 = some q) : J p l e rm_Mo_sum s m args below meth c 7 D cls0 (hF h0) h [(0, .ref x0), (1, .int x1), (2, .int x2), (3, .int x3), (4, .int x4), (5, .int x5)] 0 0 (MQ below (hQ D cls0 h0 none q) args s 0 0 (hF h0)) 164 [.int s1, .ref s0] := by
  obtain ⟨X, hr, hlk, hnm⟩ := id Y
  unfold M_Mo_sum_164 at hM
  obtain ⟨u1, eu1, hM⟩ := hb_some hM
  obtain ⟨q2, eq2, hM⟩ := hb_some hM
  refine J_callV (pc := 164) (As := [.int s1]) (rest := []) (o := (some (.int q2.1))) (h2 := q2.2) X rfl hc_Mo eu1 (c_Mo_want l D K F eq2) (cwV_of (nA := 1) X.fix k_532 k_534 k_535 k_515 k_533 ⟨rfl, rfl, rfl⟩ (by decide +kernel) ⟨Nat.le_of_ble_eq_true rfl, Nat.le_of_ble_eq_true rfl⟩) d_Mo_sum_164 rfl rfl (Nat.le_of_ble_eq_true rfl) (Nat.le_of_ble_eq_true rfl) (Nat.le_of_ble_eq_true rfl) ?_
  refine J_if_ne (pc := 167) (tgt := 171) X d_Mo_sum_167 (by decide) (fun c3 => ?_) (fun c3 => ?_)
  · have hM := hif_f hM c3
    refine J_iload (pc := 171) X 5 d_Mo_sum_171 rfl ?_
    refine J_bipush (pc := 173) (v := (-7)) X d_Mo_sum_173 (by decide) ?_
    refine J_icmp_ne (pc := 175) (tgt := 215) X d_Mo_sum_175 (by decide) (fun c4 => ?_) (fun c4 => ?_)
    · have hM := hif_f hM c4
      refine J_aload_n (pc := 215) X 0 d_Mo_sum_215 rfl ?_
      refine J_bipush (pc := 216) (v := (-6)) X d_Mo_sum_216 (by decide) ?_
      refine J_aload_n (pc := 218) X 0 d_Mo_sum_218 rfl ?_
      obtain ⟨u5, eu5, hM⟩ := hb_some hM
      obtain ⟨q6, eq6, hM⟩ := hb_some hM
      refine J_callV (pc := 219) (As := []) (rest := [.int (-6), .ref x0]) (o := (some (.int q6.1))) (h2 := q6.2) X rfl hc_Mo eu5 (c_Mo_now l D K F eq6) (cwV_of (nA := 0) X.fix k_536 k_538 k_539 k_515 k_537 ⟨rfl, rfl, rfl⟩ (by decide +kernel) ⟨Nat.le_of_ble_eq_true rfl, Nat.le_of_ble_eq_true rfl⟩) d_Mo_sum_219 rfl rfl (Nat.le_of_ble_eq_true rfl) (Nat.le_of_ble_eq_true rfl) (Nat.le_of_ble_eq_true rfl) ?_
      obtain ⟨u7, eu7, hM⟩ := hb_some hM
      obtain ⟨h8, eh8, hM⟩ := hb_some hM
      refine J_callV (pc := 222) (As := [.int (-6), .int q6.1]) (rest := []) (o := none) (h2 := h8) X rfl hc_Mo eu7 (c_Mo_put l D K F eh8) (cwV_of (nA := 2) X.fix k_545 k_547 k_548 k_515 k_546 ⟨rfl, rfl, rfl⟩ (by decide +kernel) ⟨Nat.le_of_ble_eq_true rfl, Nat.le_of_ble_eq_true rfl⟩) d_Mo_sum_222 rfl rfl (Nat.le_of_ble_eq_true rfl) (Nat.le_of_ble_eq_true rfl) (Nat.le_of_ble_eq_true rfl) ?_
      refine J_aload_n (pc := 225) X 0 d_Mo_sum_225 rfl ?_
      refine J_dup (pc := 226) X d_Mo_sum_226 rfl ?_
      obtain ⟨v9, ev9, hM⟩ := hb_some hM
      refine J_getI (pc := 227) X hc_Mo in_Mo 23 k_530 (by decide) rfl d_Mo_sum_227 rfl ev9 ?_
      refine J_iconst (pc := 230) (v := (1)) X d_Mo_sum_230 (by decide) ?_
      refine J_iadd (pc := 231) X d_Mo_sum_231 ?_
      obtain ⟨h10, eh10, hM⟩ := hb_some hM
      refine J_put (pc := 232) X hc_Mo in_Mo t_Mo tk_Mo nk_Mo 23 k_530 (by decide) rfl rfl d_Mo_sum_232 rfl rfl rfl eh10 ?_
      refine J_goto (pc := 235) (tgt := 246) X d_Mo_sum_235 (by decide) ?_
      refine J_sub [0, 1, 2, 3] rfl ?_
      exact w_Mo_sum_246 Y R9 _ _ _ _ _ _ hM
    · have hM := hif_t hM c4
      refine J_aload_n (pc := 178) X 0 d_Mo_sum_178 rfl ?_
      obtain ⟨v11, ev11, hM⟩ := hb_some hM
      refine J_getA (pc := 179) X hc_Mo in_Mo 25 k_499 (by decide) rfl d_Mo_sum_179 rfl ev11 ?_
      refine J_iload_n (pc := 182) X 1 d_Mo_sum_182 rfl ?_
      refine J_bipush (pc := 183) (v := (-7)) X d_Mo_sum_183 (by decide) ?_
      obtain ⟨h12, eh12, hM⟩ := hb_some hM
      refine J_iast (pc := 185) X d_Mo_sum_185 rfl eh12 ?_
      refine J_aload_n (pc := 186) X 0 d_Mo_sum_186 rfl ?_
      obtain ⟨v13, ev13, hM⟩ := hb_some hM
      refine J_getA (pc := 187) X hc_Mo in_Mo 26 k_500 (by decide) rfl d_Mo_sum_187 rfl ev13 ?_
      refine J_iload_n (pc := 190) X 1 d_Mo_sum_190 rfl ?_
      refine J_aload_n (pc := 191) X 0 d_Mo_sum_191 rfl ?_
      obtain ⟨u14, eu14, hM⟩ := hb_some hM
      obtain ⟨q15, eq15, hM⟩ := hb_some hM
      refine J_callV (pc := 192) (As := []) (rest := [.int x1, .ref v13]) (o := (some (.int q15.1))) (h2 := q15.2) X rfl hc_Mo eu14 (c_Mo_now l D K F eq15) (cwV_of (nA := 0) X.fix k_536 k_538 k_539 k_515 k_537 ⟨rfl, rfl, rfl⟩ (by decide +kernel) ⟨Nat.le_of_ble_eq_true rfl, Nat.le_of_ble_eq_true rfl⟩) d_Mo_sum_192 rfl rfl (Nat.le_of_ble_eq_true rfl) (Nat.le_of_ble_eq_true rfl) (Nat.le_of_ble_eq_true rfl) ?_
      obtain ⟨h16, eh16, hM⟩ := hb_some hM
      refine J_iast (pc := 195) X d_Mo_sum_195 rfl eh16 ?_
      refine J_iinc (pc := 196) (v := x1 + 1) (lv' := [(1, .int (x1 + 1)), (0, .ref x0), (2, .int x2), (3, .int x3), (4, .int x4), (5, .int x5)]) X 1 d_Mo_sum_196 rfl rfl (by decide) rfl ?_
      refine J_iinc (pc := 199) (v := x2 + 1) (lv' := [(2, .int (x2 + 1)), (1, .int (x1 + 1)), (0, .ref x0), (3, .int x3), (4, .int x4), (5, .int x5)]) X 2 d_Mo_sum_199 rfl rfl (by decide) rfl ?_
      refine J_aload_n (pc := 202) X 2 d_Mo_sum_202 rfl ?_
      refine J_dup (pc := 203) X d_Mo_sum_203 rfl ?_
      obtain ⟨v17, ev17, hM⟩ := hb_some hM
      refine J_getI (pc := 204) X hc_Mo in_Mo 23 k_530 (by decide) rfl d_Mo_sum_204 rfl ev17 ?_
      refine J_iconst (pc := 207) (v := (1)) X d_Mo_sum_207 (by decide) ?_
      refine J_iadd (pc := 208) X d_Mo_sum_208 ?_
      obtain ⟨h18, eh18, hM⟩ := hb_some hM
      refine J_put (pc := 209) X hc_Mo in_Mo t_Mo tk_Mo nk_Mo 23 k_530 (by decide) rfl rfl d_Mo_sum_209 rfl rfl rfl eh18 ?_
      refine J_goto (pc := 212) (tgt := 9) X d_Mo_sum_212 (by decide) ?_
      refine J_sub [2, 1, 0, 3, 4] rfl ?_
      exact R9 _ _ _ _ _ _ _ hM
  · have hM := hif_t hM c3
    obtain rfl := Option.some.inj hM
    exact J_vret (pc := 170) X hr hlk (Nat.le_of_ble_eq_true rfl) (Nat.le_of_ble_eq_true rfl) d_Mo_sum_170
set_option maxHeartbeats 4000000 in
set_option maxRecDepth 100000 in
theorem w_Mo_sum_163 {p : Program} {l : Launch} {e : Env} {s : State} {m : MethodId} {args : Array Value} {below : List Frame} {meth : Method} {c : Code} {D : va_G} {K : (Nat → Nat) × (Nat → Nat)} {h0 : hH} (Y : HX p s m args meth c prog_14_method_16_code 7 "LicenceTextsModel" D K "sum" none h0) {F : Nat} {r9 : hH → Nat → Int32 → Int32 → Int32 → Int32 → Option hH} (R9 : ∀ (h : hH) (x0 : Nat) (x1 : Int32) (x2 : Int32) (x3 : Int32) (x4 : Int32) (q : hH), r9 h x0 x1 x2 x3 x4 = some q → J p l e rm_Mo_sum s m args below meth c 7 D cls0 (hF h0) h [(0, .ref x0), (1, .int x1), (2, .int x2), (3, .int x3), (4, .int x4)] 0 0 (MQ below (hQ D cls0 h0 none q) args s 0 0 (hF h0)) 9 []) (h : hH) (x0 : Nat) (x1 : Int32) (x2 : Int32) (x3 : Int32) (x4 : Int32) (x5 : Int32) (s0 : Nat) (q : hH) (hM : M_Mo_sum_163 F r9 h x0 x1 x2 x3 x4 x5 s0 = some q) : J p l e rm_Mo_sum s m args below meth c 7 D cls0 (hF h0) h [(0, .ref x0), (1, .int x1), (2, .int x2), (3, .int x3), (4, .int x4), (5, .int x5)] 0 0 (MQ below (hQ D cls0 h0 none q) args s 0 0 (hF h0)) 163 [.ref s0] := by
  obtain ⟨X, hr, hlk, hnm⟩ := id Y
  unfold M_Mo_sum_163 at hM
  refine J_iconst (pc := 163) (v := (0)) X d_Mo_sum_163 (by decide) ?_
  exact w_Mo_sum_164 Y R9 _ _ _ _ _ _ _ _ _ _ hM
set_option maxHeartbeats 4000000 in
set_option maxRecDepth 100000 in
theorem w_Mo_sum_156 {p : Program} {l : Launch} {e : Env} {s : State} {m : MethodId} {args : Array Value} {below : List Frame} {meth : Method} {c : Code} {D : va_G} {K : (Nat → Nat) × (Nat → Nat)} {h0 : hH} (Y : HX p s m args meth c prog_14_method_16_code 7 "LicenceTextsModel" D K "sum" none h0) {F : Nat} {r9 : hH → Nat → Int32 → Int32 → Int32 → Int32 → Option hH} (R9 : ∀ (h : hH) (x0 : Nat) (x1 : Int32) (x2 : Int32) (x3 : Int32) (x4 : Int32) (q : hH), r9 h x0 x1 x2 x3 x4 = some q → J p l e rm_Mo_sum s m args below meth c 7 D cls0 (hF h0) h [(0, .ref x0), (1, .int x1), (2, .int x2), (3, .int x3), (4, .int x4)] 0 0 (MQ below (hQ D cls0 h0 none q) args s 0 0 (hF h0)) 9 []) (h : hH) (x0 : Nat) (x1 : Int32) (x2 : Int32) (x3 : Int32) (x4 : Int32) (x5 : Int32) (s0 : Nat) (s1 : Int32) (s2 : Int32) (q : hH) (hM : M_Mo_sum_156 F r9 h x0 x1 x2 x3 x4 x5 s0 s1 s2 = some q) : J p l e rm_Mo_sum s m args below meth c 7 D cls0 (hF h0) h [(0, .ref x0), (1, .int x1), (2, .int x2), (3, .int x3), (4, .int x4), (5, .int x5)] 0 0 (MQ below (hQ D cls0 h0 none q) args s 0 0 (hF h0)) 156 [.int s2, .int s1, .ref s0] := by
  obtain ⟨X, hr, hlk, hnm⟩ := id Y
  unfold M_Mo_sum_156 at hM
  refine J_icmp_ge (pc := 156) (tgt := 163) X d_Mo_sum_156 (by decide) (fun c1 => ?_) (fun c1 => ?_)
  · have hM := hif_t hM c1
    exact w_Mo_sum_163 Y R9 _ _ _ _ _ _ _ _ _ hM
  · have hM := hif_f hM c1
    refine J_iconst (pc := 159) (v := (1)) X d_Mo_sum_159 (by decide) ?_
    refine J_goto (pc := 160) (tgt := 164) X d_Mo_sum_160 (by decide) ?_
    exact w_Mo_sum_164 Y R9 _ _ _ _ _ _ _ _ _ _ hM
set_option maxHeartbeats 4000000 in
set_option maxRecDepth 100000 in
theorem w_Mo_sum_123 {p : Program} {l : Launch} {e : Env} {s : State} {m : MethodId} {args : Array Value} {below : List Frame} {meth : Method} {c : Code} {D : va_G} {K : (Nat → Nat) × (Nat → Nat)} {h0 : hH} (Y : HX p s m args meth c prog_14_method_16_code 7 "LicenceTextsModel" D K "sum" none h0) {F : Nat} {r9 : hH → Nat → Int32 → Int32 → Int32 → Int32 → Option hH} (R9 : ∀ (h : hH) (x0 : Nat) (x1 : Int32) (x2 : Int32) (x3 : Int32) (x4 : Int32) (q : hH), r9 h x0 x1 x2 x3 x4 = some q → J p l e rm_Mo_sum s m args below meth c 7 D cls0 (hF h0) h [(0, .ref x0), (1, .int x1), (2, .int x2), (3, .int x3), (4, .int x4)] 0 0 (MQ below (hQ D cls0 h0 none q) args s 0 0 (hF h0)) 9 []) (h : hH) (x0 : Nat) (x1 : Int32) (x2 : Int32) (x3 : Int32) (x4 : Int32) (x5 : Int32) (q : hH) (hM : M_Mo_sum_123 F r9 h x0 x1 x2 x3 x4 x5 = some q) : J p l e rm_Mo_sum s m args below meth c 7 D cls0 (hF h0) h [(0, .ref x0), (1, .int x1), (2, .int x2), (3, .int x3), (4, .int x4), (5, .int x5)] 0 0 (MQ below (hQ D cls0 h0 none q) args s 0 0 (hF h0)) 123 [] := by
  obtain ⟨X, hr, hlk, hnm⟩ := id Y
  unfold M_Mo_sum_123 at hM
  refine J_aload_n (pc := 123) X 0 d_Mo_sum_123 rfl ?_
  refine J_aload_n (pc := 124) X 0 d_Mo_sum_124 rfl ?_
  obtain ⟨u1, eu1, hM⟩ := hb_some hM
  obtain ⟨q2, eq2, hM⟩ := hb_some hM
  refine J_callV (pc := 125) (As := []) (rest := [.ref x0]) (o := (some (.int q2.1))) (h2 := q2.2) X rfl hc_Mo eu1 (c_Mo_now l D K F eq2) (cwV_of (nA := 0) X.fix k_536 k_538 k_539 k_515 k_537 ⟨rfl, rfl, rfl⟩ (by decide +kernel) ⟨Nat.le_of_ble_eq_true rfl, Nat.le_of_ble_eq_true rfl⟩) d_Mo_sum_125 rfl rfl (Nat.le_of_ble_eq_true rfl) (Nat.le_of_ble_eq_true rfl) (Nat.le_of_ble_eq_true rfl) ?_
  refine J_if_lt (pc := 128) (tgt := 163) X d_Mo_sum_128 (by decide) (fun c3 => ?_) (fun c3 => ?_)
  · have hM := hif_t hM c3
    exact w_Mo_sum_163 Y R9 _ _ _ _ _ _ _ _ _ hM
  · have hM := hif_f hM c3
    refine J_aload_n (pc := 131) X 0 d_Mo_sum_131 rfl ?_
    obtain ⟨u4, eu4, hM⟩ := hb_some hM
    obtain ⟨q5, eq5, hM⟩ := hb_some hM
    refine J_callV (pc := 132) (As := []) (rest := [.ref x0]) (o := (some (.int q5.1))) (h2 := q5.2) X rfl hc_Mo eu4 (c_Mo_now l D K F eq5) (cwV_of (nA := 0) X.fix k_536 k_538 k_539 k_515 k_537 ⟨rfl, rfl, rfl⟩ (by decide +kernel) ⟨Nat.le_of_ble_eq_true rfl, Nat.le_of_ble_eq_true rfl⟩) d_Mo_sum_132 rfl rfl (Nat.le_of_ble_eq_true rfl) (Nat.le_of_ble_eq_true rfl) (Nat.le_of_ble_eq_true rfl) ?_
    refine J_iload (pc := 135) X 5 d_Mo_sum_135 rfl ?_
    refine J_bipush (pc := 137) (v := (-7)) X d_Mo_sum_137 (by decide) ?_
    refine J_icmp_ne (pc := 139) (tgt := 154) X d_Mo_sum_139 (by decide) (fun c6 => ?_) (fun c6 => ?_)
    · have hM := hif_f hM c6
      refine J_bipush (pc := 154) (v := (20)) X d_Mo_sum_154 (by decide) ?_
      exact w_Mo_sum_156 Y R9 _ _ _ _ _ _ _ _ _ _ _ hM
    · have hM := hif_t hM c6
      refine J_aload_n (pc := 142) X 0 d_Mo_sum_142 rfl ?_
      obtain ⟨v7, ev7, hM⟩ := hb_some hM
      refine J_getA (pc := 143) X hc_Mo in_Mo 10 k_488 (by decide) rfl d_Mo_sum_143 rfl ev7 ?_
      refine J_aload_n (pc := 146) X 0 d_Mo_sum_146 rfl ?_
      obtain ⟨v8, ev8, hM⟩ := hb_some hM
      refine J_getI (pc := 147) X hc_Mo in_Mo 22 k_522 (by decide) rfl d_Mo_sum_147 rfl ev8 ?_
      obtain ⟨v9, ev9, hM⟩ := hb_some hM
      refine J_iald (pc := 150) X d_Mo_sum_150 rfl ev9 ?_
      refine J_goto (pc := 151) (tgt := 156) X d_Mo_sum_151 (by decide) ?_
      exact w_Mo_sum_156 Y R9 _ _ _ _ _ _ _ _ _ _ _ hM
set_option maxHeartbeats 4000000 in
set_option maxRecDepth 100000 in
theorem w_Mo_sum_65 {p : Program} {l : Launch} {e : Env} {s : State} {m : MethodId} {args : Array Value} {below : List Frame} {meth : Method} {c : Code} {D : va_G} {K : (Nat → Nat) × (Nat → Nat)} {h0 : hH} (Y : HX p s m args meth c prog_14_method_16_code 7 "LicenceTextsModel" D K "sum" none h0) {F : Nat} {r9 : hH → Nat → Int32 → Int32 → Int32 → Int32 → Option hH} (R9 : ∀ (h : hH) (x0 : Nat) (x1 : Int32) (x2 : Int32) (x3 : Int32) (x4 : Int32) (q : hH), r9 h x0 x1 x2 x3 x4 = some q → J p l e rm_Mo_sum s m args below meth c 7 D cls0 (hF h0) h [(0, .ref x0), (1, .int x1), (2, .int x2), (3, .int x3), (4, .int x4)] 0 0 (MQ below (hQ D cls0 h0 none q) args s 0 0 (hF h0)) 9 []) (h : hH) (x0 : Nat) (x1 : Int32) (x2 : Int32) (x3 : Int32) (x4 : Int32) (x5 : Int32) (s0 : Nat) (s1 : Int32) (q : hH) (hM : M_Mo_sum_65 F r9 h x0 x1 x2 x3 x4 x5 s0 s1 = some q) : J p l e rm_Mo_sum s m args below meth c 7 D cls0 (hF h0) h [(0, .ref x0), (1, .int x1), (2, .int x2), (3, .int x3), (4, .int x4), (5, .int x5)] 0 0 (MQ below (hQ D cls0 h0 none q) args s 0 0 (hF h0)) 65 [.int s1, .ref s0] := by
  obtain ⟨X, hr, hlk, hnm⟩ := id Y
  unfold M_Mo_sum_65 at hM
  obtain ⟨u1, eu1, hM⟩ := hb_some hM
  obtain ⟨q2, eq2, hM⟩ := hb_some hM
  refine J_callV (pc := 65) (As := [.int s1]) (rest := []) (o := (some (.int q2.1))) (h2 := q2.2) X rfl hc_Mo eu1 (c_Mo_want l D K F eq2) (cwV_of (nA := 1) X.fix k_532 k_534 k_535 k_515 k_533 ⟨rfl, rfl, rfl⟩ (by decide +kernel) ⟨Nat.le_of_ble_eq_true rfl, Nat.le_of_ble_eq_true rfl⟩) d_Mo_sum_65 rfl rfl (Nat.le_of_ble_eq_true rfl) (Nat.le_of_ble_eq_true rfl) (Nat.le_of_ble_eq_true rfl) ?_
  refine J_if_ne (pc := 68) (tgt := 72) X d_Mo_sum_68 (by decide) (fun c3 => ?_) (fun c3 => ?_)
  · have hM := hif_f hM c3
    refine J_aload_n (pc := 72) X 0 d_Mo_sum_72 rfl ?_
    refine J_dup (pc := 73) X d_Mo_sum_73 rfl ?_
    obtain ⟨v4, ev4, hM⟩ := hb_some hM
    refine J_getI (pc := 74) X hc_Mo in_Mo 23 k_530 (by decide) rfl d_Mo_sum_74 rfl ev4 ?_
    refine J_iconst (pc := 77) (v := (1)) X d_Mo_sum_77 (by decide) ?_
    refine J_iadd (pc := 78) X d_Mo_sum_78 ?_
    obtain ⟨h5, eh5, hM⟩ := hb_some hM
    refine J_put (pc := 79) X hc_Mo in_Mo t_Mo tk_Mo nk_Mo 23 k_530 (by decide) rfl rfl d_Mo_sum_79 rfl rfl rfl eh5 ?_
    refine J_iload (pc := 82) X 5 d_Mo_sum_82 rfl ?_
    refine J_bipush (pc := 84) (v := (-8)) X d_Mo_sum_84 (by decide) ?_
    refine J_icmp_ne (pc := 86) (tgt := 109) X d_Mo_sum_86 (by decide) (fun c6 => ?_) (fun c6 => ?_)
    · have hM := hif_f hM c6
      refine J_iload (pc := 109) X 5 d_Mo_sum_109 rfl ?_
      refine J_bipush (pc := 111) (v := (-7)) X d_Mo_sum_111 (by decide) ?_
      refine J_icmp_eq (pc := 113) (tgt := 123) X d_Mo_sum_113 (by decide) (fun c7 => ?_) (fun c7 => ?_)
      · have hM := hif_t hM c7
        exact w_Mo_sum_123 Y R9 _ _ _ _ _ _ _ _ hM
      · have hM := hif_f hM c7
        refine J_iload (pc := 116) X 5 d_Mo_sum_116 rfl ?_
        refine J_bipush (pc := 118) (v := (-6)) X d_Mo_sum_118 (by decide) ?_
        refine J_icmp_ne (pc := 120) (tgt := 238) X d_Mo_sum_120 (by decide) (fun c8 => ?_) (fun c8 => ?_)
        · have hM := hif_f hM c8
          refine J_aload_n (pc := 238) X 0 d_Mo_sum_238 rfl ?_
          refine J_bipush (pc := 239) (v := (-21)) X d_Mo_sum_239 (by decide) ?_
          refine J_iload (pc := 241) X 5 d_Mo_sum_241 rfl ?_
          obtain ⟨u9, eu9, hM⟩ := hb_some hM
          obtain ⟨h10, eh10, hM⟩ := hb_some hM
          refine J_callV (pc := 243) (As := [.int (-21), .int x5]) (rest := []) (o := none) (h2 := h10) X rfl hc_Mo eu9 (c_Mo_put l D K F eh10) (cwV_of (nA := 2) X.fix k_545 k_547 k_548 k_515 k_546 ⟨rfl, rfl, rfl⟩ (by decide +kernel) ⟨Nat.le_of_ble_eq_true rfl, Nat.le_of_ble_eq_true rfl⟩) d_Mo_sum_243 rfl rfl (Nat.le_of_ble_eq_true rfl) (Nat.le_of_ble_eq_true rfl) (Nat.le_of_ble_eq_true rfl) ?_
          refine J_sub [0, 1, 2, 3] rfl ?_
          exact w_Mo_sum_246 Y R9 _ _ _ _ _ _ hM
        · have hM := hif_t hM c8
          exact w_Mo_sum_123 Y R9 _ _ _ _ _ _ _ _ hM
    · have hM := hif_t hM c6
      refine J_aload_n (pc := 89) X 0 d_Mo_sum_89 rfl ?_
      obtain ⟨v11, ev11, hM⟩ := hb_some hM
      refine J_getA (pc := 90) X hc_Mo in_Mo 25 k_499 (by decide) rfl d_Mo_sum_90 rfl ev11 ?_
      refine J_iload_n (pc := 93) X 1 d_Mo_sum_93 rfl ?_
      refine J_bipush (pc := 94) (v := (-8)) X d_Mo_sum_94 (by decide) ?_
      obtain ⟨h12, eh12, hM⟩ := hb_some hM
      refine J_iast (pc := 96) X d_Mo_sum_96 rfl eh12 ?_
      refine J_iinc (pc := 97) (v := x1 + 1) (lv' := [(1, .int (x1 + 1)), (0, .ref x0), (2, .int x2), (3, .int x3), (4, .int x4), (5, .int x5)]) X 1 d_Mo_sum_97 rfl rfl (by decide) rfl ?_
      refine J_iinc (pc := 100) (v := x2 + 1) (lv' := [(2, .int (x2 + 1)), (1, .int (x1 + 1)), (0, .ref x0), (3, .int x3), (4, .int x4), (5, .int x5)]) X 2 d_Mo_sum_100 rfl rfl (by decide) rfl ?_
      refine J_iinc (pc := 103) (v := x3 + 1) (lv' := [(3, .int (x3 + 1)), (2, .int (x2 + 1)), (1, .int (x1 + 1)), (0, .ref x0), (4, .int x4), (5, .int x5)]) X 3 d_Mo_sum_103 rfl rfl (by decide) rfl ?_
      refine J_goto (pc := 106) (tgt := 9) X d_Mo_sum_106 (by decide) ?_
      refine J_sub [3, 2, 1, 0, 4] rfl ?_
      exact R9 _ _ _ _ _ _ _ hM
  · have hM := hif_t hM c3
    obtain rfl := Option.some.inj hM
    exact J_vret (pc := 71) X hr hlk (Nat.le_of_ble_eq_true rfl) (Nat.le_of_ble_eq_true rfl) d_Mo_sum_71
set_option maxHeartbeats 4000000 in
set_option maxRecDepth 100000 in
theorem w_Mo_sum_64 {p : Program} {l : Launch} {e : Env} {s : State} {m : MethodId} {args : Array Value} {below : List Frame} {meth : Method} {c : Code} {D : va_G} {K : (Nat → Nat) × (Nat → Nat)} {h0 : hH} (Y : HX p s m args meth c prog_14_method_16_code 7 "LicenceTextsModel" D K "sum" none h0) {F : Nat} {r9 : hH → Nat → Int32 → Int32 → Int32 → Int32 → Option hH} (R9 : ∀ (h : hH) (x0 : Nat) (x1 : Int32) (x2 : Int32) (x3 : Int32) (x4 : Int32) (q : hH), r9 h x0 x1 x2 x3 x4 = some q → J p l e rm_Mo_sum s m args below meth c 7 D cls0 (hF h0) h [(0, .ref x0), (1, .int x1), (2, .int x2), (3, .int x3), (4, .int x4)] 0 0 (MQ below (hQ D cls0 h0 none q) args s 0 0 (hF h0)) 9 []) (h : hH) (x0 : Nat) (x1 : Int32) (x2 : Int32) (x3 : Int32) (x4 : Int32) (x5 : Int32) (s0 : Nat) (q : hH) (hM : M_Mo_sum_64 F r9 h x0 x1 x2 x3 x4 x5 s0 = some q) : J p l e rm_Mo_sum s m args below meth c 7 D cls0 (hF h0) h [(0, .ref x0), (1, .int x1), (2, .int x2), (3, .int x3), (4, .int x4), (5, .int x5)] 0 0 (MQ below (hQ D cls0 h0 none q) args s 0 0 (hF h0)) 64 [.ref s0] := by
  obtain ⟨X, hr, hlk, hnm⟩ := id Y
  unfold M_Mo_sum_64 at hM
  refine J_iconst (pc := 64) (v := (0)) X d_Mo_sum_64 (by decide) ?_
  exact w_Mo_sum_65 Y R9 _ _ _ _ _ _ _ _ _ _ hM
set_option maxHeartbeats 4000000 in
set_option maxRecDepth 100000 in
theorem w_Mo_sum_60 {p : Program} {l : Launch} {e : Env} {s : State} {m : MethodId} {args : Array Value} {below : List Frame} {meth : Method} {c : Code} {D : va_G} {K : (Nat → Nat) × (Nat → Nat)} {h0 : hH} (Y : HX p s m args meth c prog_14_method_16_code 7 "LicenceTextsModel" D K "sum" none h0) {F : Nat} {r9 : hH → Nat → Int32 → Int32 → Int32 → Int32 → Option hH} (R9 : ∀ (h : hH) (x0 : Nat) (x1 : Int32) (x2 : Int32) (x3 : Int32) (x4 : Int32) (q : hH), r9 h x0 x1 x2 x3 x4 = some q → J p l e rm_Mo_sum s m args below meth c 7 D cls0 (hF h0) h [(0, .ref x0), (1, .int x1), (2, .int x2), (3, .int x3), (4, .int x4)] 0 0 (MQ below (hQ D cls0 h0 none q) args s 0 0 (hF h0)) 9 []) (h : hH) (x0 : Nat) (x1 : Int32) (x2 : Int32) (x3 : Int32) (x4 : Int32) (x5 : Int32) (s0 : Nat) (q : hH) (hM : M_Mo_sum_60 F r9 h x0 x1 x2 x3 x4 x5 s0 = some q) : J p l e rm_Mo_sum s m args below meth c 7 D cls0 (hF h0) h [(0, .ref x0), (1, .int x1), (2, .int x2), (3, .int x3), (4, .int x4), (5, .int x5)] 0 0 (MQ below (hQ D cls0 h0 none q) args s 0 0 (hF h0)) 60 [.ref s0] := by
  obtain ⟨X, hr, hlk, hnm⟩ := id Y
  unfold M_Mo_sum_60 at hM
  refine J_iconst (pc := 60) (v := (1)) X d_Mo_sum_60 (by decide) ?_
  refine J_goto (pc := 61) (tgt := 65) X d_Mo_sum_61 (by decide) ?_
  exact w_Mo_sum_65 Y R9 _ _ _ _ _ _ _ _ _ _ hM
set_option maxHeartbeats 4000000 in
set_option maxRecDepth 100000 in
theorem b_Mo_sum_9 {p : Program} {l : Launch} {e : Env} {s : State} {m : MethodId} {args : Array Value} {below : List Frame} {meth : Method} {c : Code} {D : va_G} {K : (Nat → Nat) × (Nat → Nat)} {h0 : hH} (Y : HX p s m args meth c prog_14_method_16_code 7 "LicenceTextsModel" D K "sum" none h0) {F : Nat}   {r9 : hH → Nat → Int32 → Int32 → Int32 → Int32 → Option hH} (R9 : ∀ (h : hH) (x0 : Nat) (x1 : Int32) (x2 : Int32) (x3 : Int32) (x4 : Int32) (q : hH), r9 h x0 x1 x2 x3 x4 = some q → J p l e rm_Mo_sum s m args below meth c 7 D cls0 (hF h0) h [(0, .ref x0), (1, .int x1), (2, .int x2), (3, .int x3), (4, .int x4)] 0 0 (MQ below (hQ D cls0 h0 none q) args s 0 0 (hF h0)) 9 []) : ∀ (h : hH) (x0 : Nat) (x1 : Int32) (x2 : Int32) (x3 : Int32) (x4 : Int32) (q : hH), B_Mo_sum_9 F r9 h x0 x1 x2 x3 x4 = some q → J p l e rm_Mo_sum s m args below meth c 7 D cls0 (hF h0) h [(0, .ref x0), (1, .int x1), (2, .int x2), (3, .int x3), (4, .int x4)] 0 0 (MQ below (hQ D cls0 h0 none q) args s 0 0 (hF h0)) 9 [] := by
  intro h x0 x1 x2 x3 x4 q hM
  obtain ⟨X, hr, hlk, hnm⟩ := id Y
  unfold B_Mo_sum_9 at hM
  refine J_iload (pc := 9) X 4 d_Mo_sum_9 rfl ?_
  refine J_if_eq (pc := 11) (tgt := 468) X d_Mo_sum_11 (by decide) (fun c1 => ?_) (fun c1 => ?_)
  · have hM := hif_t hM c1
    refine J_sub [0, 1, 3] rfl ?_
    exact w_Mo_sum_468 Y _ _ _ _ _ hM
  · have hM := hif_f hM c1
    refine J_aload_n (pc := 14) X 0 d_Mo_sum_14 rfl ?_
    obtain ⟨v2, ev2, hM⟩ := hb_some hM
    refine J_getI (pc := 15) X hc_Mo in_Mo 24 k_531 (by decide) rfl d_Mo_sum_15 rfl ev2 ?_
    refine J_if_ge (pc := 18) (tgt := 468) X d_Mo_sum_18 (by decide) (fun c3 => ?_) (fun c3 => ?_)
    · have hM := hif_t hM c3
      refine J_sub [0, 1, 3] rfl ?_
      exact w_Mo_sum_468 Y _ _ _ _ _ hM
    · have hM := hif_f hM c3
      refine J_aload_n (pc := 21) X 0 d_Mo_sum_21 rfl ?_
      obtain ⟨u4, eu4, hM⟩ := hb_some hM
      obtain ⟨q5, eq5, hM⟩ := hb_some hM
      refine J_callV (pc := 22) (As := []) (rest := []) (o := (some (.int q5.1))) (h2 := q5.2) X rfl hc_Mo eu4 (c_Mo_now l D K F eq5) (cwV_of (nA := 0) X.fix k_536 k_538 k_539 k_515 k_537 ⟨rfl, rfl, rfl⟩ (by decide +kernel) ⟨Nat.le_of_ble_eq_true rfl, Nat.le_of_ble_eq_true rfl⟩) d_Mo_sum_22 rfl rfl (Nat.le_of_ble_eq_true rfl) (Nat.le_of_ble_eq_true rfl) (Nat.le_of_ble_eq_true rfl) ?_
      refine J_istore (pc := 25) (lv' := [(5, .int q5.1), (0, .ref x0), (1, .int x1), (2, .int x2), (3, .int x3), (4, .int x4)]) X d_Mo_sum_25 (by decide) rfl ?_
      refine J_aload_n (pc := 27) X 1 d_Mo_sum_27 rfl ?_
      refine J_iload_n (pc := 28) X 3 d_Mo_sum_28 rfl ?_
      refine J_bipush (pc := 29) (v := (12)) X d_Mo_sum_29 (by decide) ?_
      refine J_icmp_gt (pc := 31) (tgt := 64) X d_Mo_sum_31 (by decide) (fun c6 => ?_) (fun c6 => ?_)
      · have hM := hif_t hM c6
        refine J_sub [1, 2, 3, 4, 5, 0] rfl ?_
        exact w_Mo_sum_64 Y R9 _ _ _ _ _ _ _ _ _ hM
      · have hM := hif_f hM c6
        refine J_iload (pc := 34) X 0 d_Mo_sum_34 rfl ?_
        refine J_if_ge (pc := 36) (tgt := 60) X d_Mo_sum_36 (by decide) (fun c7 => ?_) (fun c7 => ?_)
        · have hM := hif_t hM c7
          refine J_sub [1, 2, 3, 4, 5, 0] rfl ?_
          exact w_Mo_sum_60 Y R9 _ _ _ _ _ _ _ _ _ hM
        · have hM := hif_f hM c7
          refine J_iload (pc := 39) X 0 d_Mo_sum_39 rfl ?_
          refine J_bipush (pc := 41) (v := (-6)) X d_Mo_sum_41 (by decide) ?_
          refine J_icmp_eq (pc := 43) (tgt := 60) X d_Mo_sum_43 (by decide) (fun c8 => ?_) (fun c8 => ?_)
          · have hM := hif_t hM c8
            refine J_sub [1, 2, 3, 4, 5, 0] rfl ?_
            exact w_Mo_sum_60 Y R9 _ _ _ _ _ _ _ _ _ hM
          · have hM := hif_f hM c8
            refine J_iload (pc := 46) X 0 d_Mo_sum_46 rfl ?_
            refine J_bipush (pc := 48) (v := (-7)) X d_Mo_sum_48 (by decide) ?_
            refine J_icmp_eq (pc := 50) (tgt := 60) X d_Mo_sum_50 (by decide) (fun c9 => ?_) (fun c9 => ?_)
            · have hM := hif_t hM c9
              refine J_sub [1, 2, 3, 4, 5, 0] rfl ?_
              exact w_Mo_sum_60 Y R9 _ _ _ _ _ _ _ _ _ hM
            · have hM := hif_f hM c9
              refine J_iload (pc := 53) X 0 d_Mo_sum_53 rfl ?_
              refine J_bipush (pc := 55) (v := (-8)) X d_Mo_sum_55 (by decide) ?_
              refine J_icmp_ne (pc := 57) (tgt := 64) X d_Mo_sum_57 (by decide) (fun c10 => ?_) (fun c10 => ?_)
              · have hM := hif_f hM c10
                refine J_sub [1, 2, 3, 4, 5, 0] rfl ?_
                exact w_Mo_sum_64 Y R9 _ _ _ _ _ _ _ _ _ hM
              · have hM := hif_t hM c10
                refine J_sub [1, 2, 3, 4, 5, 0] rfl ?_
                exact w_Mo_sum_60 Y R9 _ _ _ _ _ _ _ _ _ hM
theorem w_Mo_sum_9 {p : Program} {l : Launch} {e : Env} {s : State} {m : MethodId} {args : Array Value} {below : List Frame} {meth : Method} {c : Code} {D : va_G} {K : (Nat → Nat) × (Nat → Nat)} {h0 : hH} (Y : HX p s m args meth c prog_14_method_16_code 7 "LicenceTextsModel" D K "sum" none h0) {F : Nat} : ∀ z : Nat, ∀ (h : hH) (x0 : Nat) (x1 : Int32) (x2 : Int32) (x3 : Int32) (x4 : Int32) (q : hH), M_Mo_sum_9 F z h x0 x1 x2 x3 x4 = some q → J p l e rm_Mo_sum s m args below meth c 7 D cls0 (hF h0) h [(0, .ref x0), (1, .int x1), (2, .int x2), (3, .int x3), (4, .int x4)] 0 0 (MQ below (hQ D cls0 h0 none q) args s 0 0 (hF h0)) 9 [] := by
  intro z
  induction z with
  | zero => intro h x0 x1 x2 x3 x4 q hM; exact absurd (show (none : Option _) = some q from hM) (fun t => by cases t)
  | succ z ih => exact b_Mo_sum_9 Y ih
set_option maxHeartbeats 4000000 in
set_option maxRecDepth 100000 in
theorem c_Mo_sum (l : Launch) (D : va_G) (K : (Nat → Nat) × (Nat → Nat)) (F : Nat) {h : hH} {x0 : Nat} {q : hH} (hM : M_Mo_sum F h x0 = some q) : Met l y_Mo_sum (.code y_Mo_sum prog_14_method_16_code 7 none :: T0) rm_Mo_sum (hPc hG D cls0 K [.ref x0] h) (hQ D cls0 h none q) 0 0 (hF h) := by
  refine J_met (lv := [(0, .ref x0)]) (by decide) (Nat.le_of_ble_eq_true rfl) rfl ?_
  intro p e s m below meth c X hr hlk hnm
  have Y : HX p s m _ meth c prog_14_method_16_code 7 "LicenceTextsModel" D K "sum" none h := ⟨X, hr, hlk, hnm⟩
  unfold M_Mo_sum at hM
  refine J_iconst (pc := 0) (v := (0)) X d_Mo_sum_0 (by decide) ?_
  refine J_istore_n (pc := 1) (lv' := [(1, .int 0), (0, .ref x0)]) X d_Mo_sum_1 rfl (by decide) rfl ?_
  refine J_iconst (pc := 2) (v := (0)) X d_Mo_sum_2 (by decide) ?_
  refine J_istore_n (pc := 3) (lv' := [(2, .int 0), (1, .int 0), (0, .ref x0)]) X d_Mo_sum_3 rfl (by decide) rfl ?_
  refine J_iconst (pc := 4) (v := (0)) X d_Mo_sum_4 (by decide) ?_
  refine J_istore_n (pc := 5) (lv' := [(3, .int 0), (2, .int 0), (1, .int 0), (0, .ref x0)]) X d_Mo_sum_5 rfl (by decide) rfl ?_
  refine J_iconst (pc := 6) (v := (1)) X d_Mo_sum_6 (by decide) ?_
  refine J_istore (pc := 7) (lv' := [(4, .int 1), (3, .int 0), (2, .int 0), (1, .int 0), (0, .ref x0)]) X d_Mo_sum_7 (by decide) rfl ?_
  refine J_sub [4, 3, 2, 1, 0] rfl ?_
  exact w_Mo_sum_9 Y F _ _ _ _ _ _ _ hM
