theorem d_Mo_table_86 : decode prog_14_method_35_code 86 = .ok (.putfield 101, 3) := by decide +kernel
theorem d_Mo_table_89 : decode prog_14_method_35_code 89 = .ok (.iload 5, 2) := by decide +kernel
theorem d_Mo_table_91 : decode prog_14_method_35_code 91 = .ok (.ifCond .eq 23, 3) := by decide +kernel
theorem d_Mo_table_114 : decode prog_14_method_35_code 114 = .ok (.iconst 0, 1) := by decide +kernel
theorem d_Mo_table_115 : decode prog_14_method_35_code 115 = .ok (.ireturn, 1) := by decide +kernel
theorem d_Mo_table_94 : decode prog_14_method_35_code 94 = .ok (.aload_n 0, 1) := by decide +kernel
theorem d_Mo_table_95 : decode prog_14_method_35_code 95 = .ok (.getfield 38, 3) := by decide +kernel
theorem d_Mo_table_98 : decode prog_14_method_35_code 98 = .ok (.bipush 80, 2) := by decide +kernel
theorem d_Mo_table_100 : decode prog_14_method_35_code 100 = .ok (.iload 4, 2) := by decide +kernel
theorem d_Mo_table_102 : decode prog_14_method_35_code 102 = .ok (.imul, 1) := by decide +kernel
theorem d_Mo_table_103 : decode prog_14_method_35_code 103 = .ok (.bipush 10, 2) := by decide +kernel
theorem d_Mo_table_105 : decode prog_14_method_35_code 105 = .ok (.iload_n 2, 1) := by decide +kernel
theorem d_Mo_table_106 : decode prog_14_method_35_code 106 = .ok (.imul, 1) := by decide +kernel
theorem d_Mo_table_107 : decode prog_14_method_35_code 107 = .ok (.iadd, 1) := by decide +kernel
theorem d_Mo_table_108 : decode prog_14_method_35_code 108 = .ok (.iload_n 3, 1) := by decide +kernel
theorem d_Mo_table_109 : decode prog_14_method_35_code 109 = .ok (.iadd, 1) := by decide +kernel
theorem d_Mo_table_110 : decode prog_14_method_35_code 110 = .ok (.iaload, 1) := by decide +kernel
theorem d_Mo_table_111 : decode prog_14_method_35_code 111 = .ok (.goto 4, 3) := by decide +kernel
theorem d_Mo_table_73 : decode prog_14_method_35_code 73 = .ok (.istore 5, 2) := by decide +kernel
theorem d_Mo_table_75 : decode prog_14_method_35_code 75 = .ok (.aload_n 0, 1) := by decide +kernel
theorem d_Mo_table_76 : decode prog_14_method_35_code 76 = .ok (.iload 5, 2) := by decide +kernel
theorem d_Mo_table_78 : decode prog_14_method_35_code 78 = .ok (.ifCond .eq 7, 3) := by decide +kernel
theorem d_Mo_table_85 : decode prog_14_method_35_code 85 = .ok (.iconst 1, 1) := by decide +kernel
theorem d_Mo_table_81 : decode prog_14_method_35_code 81 = .ok (.iconst 0, 1) := by decide +kernel
theorem d_Mo_table_82 : decode prog_14_method_35_code 82 = .ok (.goto 4, 3) := by decide +kernel
theorem d_Mo_table_72 : decode prog_14_method_35_code 72 = .ok (.iconst 0, 1) := by decide +kernel
theorem d_Mo_table_41 : decode prog_14_method_35_code 41 = .ok (.istore 5, 2) := by decide +kernel
theorem d_Mo_table_43 : decode prog_14_method_35_code 43 = .ok (.iload 5, 2) := by decide +kernel
theorem d_Mo_table_45 : decode prog_14_method_35_code 45 = .ok (.ifCond .eq 27, 3) := by decide +kernel
theorem d_Mo_table_48 : decode prog_14_method_35_code 48 = .ok (.iload_n 3, 1) := by decide +kernel
theorem d_Mo_table_49 : decode prog_14_method_35_code 49 = .ok (.ifCond .lt 23, 3) := by decide +kernel
theorem d_Mo_table_52 : decode prog_14_method_35_code 52 = .ok (.iload_n 3, 1) := by decide +kernel
theorem d_Mo_table_53 : decode prog_14_method_35_code 53 = .ok (.aload_n 0, 1) := by decide +kernel
theorem d_Mo_table_54 : decode prog_14_method_35_code 54 = .ok (.getfield 35, 3) := by decide +kernel
theorem d_Mo_table_57 : decode prog_14_method_35_code 57 = .ok (.bipush 8, 2) := by decide +kernel
theorem d_Mo_table_59 : decode prog_14_method_35_code 59 = .ok (.iload 4, 2) := by decide +kernel
theorem d_Mo_table_61 : decode prog_14_method_35_code 61 = .ok (.imul, 1) := by decide +kernel
theorem d_Mo_table_62 : decode prog_14_method_35_code 62 = .ok (.iload_n 2, 1) := by decide +kernel
theorem d_Mo_table_63 : decode prog_14_method_35_code 63 = .ok (.iadd, 1) := by decide +kernel
theorem d_Mo_table_64 : decode prog_14_method_35_code 64 = .ok (.iaload, 1) := by decide +kernel
theorem d_Mo_table_65 : decode prog_14_method_35_code 65 = .ok (.if_icmp .ge 7, 3) := by decide +kernel
theorem d_Mo_table_68 : decode prog_14_method_35_code 68 = .ok (.iconst 1, 1) := by decide +kernel
theorem d_Mo_table_69 : decode prog_14_method_35_code 69 = .ok (.goto 4, 3) := by decide +kernel
theorem d_Mo_table_40 : decode prog_14_method_35_code 40 = .ok (.iconst 0, 1) := by decide +kernel
theorem d_Mo_table_32 : decode prog_14_method_35_code 32 = .ok (.iaload, 1) := by decide +kernel
theorem d_Mo_table_33 : decode prog_14_method_35_code 33 = .ok (.if_icmp .ge 7, 3) := by decide +kernel
theorem d_Mo_table_36 : decode prog_14_method_35_code 36 = .ok (.iconst 1, 1) := by decide +kernel
theorem d_Mo_table_37 : decode prog_14_method_35_code 37 = .ok (.goto 4, 3) := by decide +kernel
theorem d_Mo_table_0 : decode prog_14_method_35_code 0 = .ok (.aload_n 0, 1) := by decide +kernel
theorem d_Mo_table_1 : decode prog_14_method_35_code 1 = .ok (.iload_n 1, 1) := by decide +kernel
theorem d_Mo_table_2 : decode prog_14_method_35_code 2 = .ok (.invokevirtual 195, 3) := by decide +kernel
theorem d_Mo_table_5 : decode prog_14_method_35_code 5 = .ok (.istore 4, 2) := by decide +kernel
theorem d_Mo_table_7 : decode prog_14_method_35_code 7 = .ok (.iload 4, 2) := by decide +kernel
theorem d_Mo_table_9 : decode prog_14_method_35_code 9 = .ok (.ifCond .lt 31, 3) := by decide +kernel
theorem d_Mo_table_12 : decode prog_14_method_35_code 12 = .ok (.iload_n 2, 1) := by decide +kernel
theorem d_Mo_table_13 : decode prog_14_method_35_code 13 = .ok (.ifCond .lt 27, 3) := by decide +kernel
theorem d_Mo_table_16 : decode prog_14_method_35_code 16 = .ok (.iload_n 2, 1) := by decide +kernel
theorem d_Mo_table_17 : decode prog_14_method_35_code 17 = .ok (.aload_n 0, 1) := by decide +kernel
theorem d_Mo_table_18 : decode prog_14_method_35_code 18 = .ok (.getfield 32, 3) := by decide +kernel
theorem d_Mo_table_21 : decode prog_14_method_35_code 21 = .ok (.iload 4, 2) := by decide +kernel
theorem d_Mo_table_23 : decode prog_14_method_35_code 23 = .ok (.ifCond .ge 7, 3) := by decide +kernel
theorem d_Mo_table_30 : decode prog_14_method_35_code 30 = .ok (.iload 4, 2) := by decide +kernel
theorem d_Mo_table_26 : decode prog_14_method_35_code 26 = .ok (.iconst 0, 1) := by decide +kernel
theorem d_Mo_table_27 : decode prog_14_method_35_code 27 = .ok (.goto 5, 3) := by decide +kernel
theorem d_Mo_allowed_103 : decode prog_14_method_36_code 103 = .ok (.aload_n 0, 1) := by decide +kernel
theorem d_Mo_allowed_104 : decode prog_14_method_36_code 104 = .ok (.getfield 71, 3) := by decide +kernel
theorem d_Mo_allowed_107 : decode prog_14_method_36_code 107 = .ok (.iload_n 2, 1) := by decide +kernel
theorem d_Mo_allowed_108 : decode prog_14_method_36_code 108 = .ok (.lload 4, 2) := by decide +kernel
theorem d_Mo_allowed_110 : decode prog_14_method_36_code 110 = .ok (.lastore, 1) := by decide +kernel
theorem d_Mo_allowed_111 : decode prog_14_method_36_code 111 = .ok (.aload_n 0, 1) := by decide +kernel
theorem d_Mo_allowed_112 : decode prog_14_method_36_code 112 = .ok (.getfield 75, 3) := by decide +kernel
theorem d_Mo_allowed_115 : decode prog_14_method_36_code 115 = .ok (.iload_n 2, 1) := by decide +kernel
theorem d_Mo_allowed_116 : decode prog_14_method_36_code 116 = .ok (.iload 6, 2) := by decide +kernel
theorem d_Mo_allowed_118 : decode prog_14_method_36_code 118 = .ok (.bastore, 1) := by decide +kernel
theorem d_Mo_allowed_119 : decode prog_14_method_36_code 119 = .ok (.iload 7, 2) := by decide +kernel
theorem d_Mo_allowed_121 : decode prog_14_method_36_code 121 = .ok (.ireturn, 1) := by decide +kernel
theorem d_Mo_allowed_95 : decode prog_14_method_36_code 95 = .ok (.istore 7, 2) := by decide +kernel
theorem d_Mo_allowed_97 : decode prog_14_method_36_code 97 = .ok (.iinc 8 (-1), 3) := by decide +kernel
theorem d_Mo_allowed_100 : decode prog_14_method_36_code 100 = .ok (.goto (-44), 3) := by decide +kernel
theorem d_Mo_allowed_56 : decode prog_14_method_36_code 56 = .ok (.iload 8, 2) := by decide +kernel
theorem d_Mo_allowed_58 : decode prog_14_method_36_code 58 = .ok (.ifCond .lt 45, 3) := by decide +kernel
theorem d_Mo_allowed_61 : decode prog_14_method_36_code 61 = .ok (.iload 7, 2) := by decide +kernel
theorem d_Mo_allowed_63 : decode prog_14_method_36_code 63 = .ok (.ifCond .ge 40, 3) := by decide +kernel
theorem d_Mo_allowed_66 : decode prog_14_method_36_code 66 = .ok (.aload_n 0, 1) := by decide +kernel
theorem d_Mo_allowed_67 : decode prog_14_method_36_code 67 = .ok (.getfield 71, 3) := by decide +kernel
theorem d_Mo_allowed_70 : decode prog_14_method_36_code 70 = .ok (.iload_n 2, 1) := by decide +kernel
theorem d_Mo_allowed_71 : decode prog_14_method_36_code 71 = .ok (.iload 8, 2) := by decide +kernel
theorem d_Mo_allowed_73 : decode prog_14_method_36_code 73 = .ok (.i2l, 1) := by decide +kernel
theorem d_Mo_allowed_74 : decode prog_14_method_36_code 74 = .ok (.lastore, 1) := by decide +kernel
theorem d_Mo_allowed_75 : decode prog_14_method_36_code 75 = .ok (.aload_n 0, 1) := by decide +kernel
theorem d_Mo_allowed_76 : decode prog_14_method_36_code 76 = .ok (.aload_n 0, 1) := by decide +kernel
theorem d_Mo_allowed_77 : decode prog_14_method_36_code 77 = .ok (.iload_n 1, 1) := by decide +kernel
theorem d_Mo_allowed_78 : decode prog_14_method_36_code 78 = .ok (.invokevirtual 195, 3) := by decide +kernel
theorem d_Mo_allowed_81 : decode prog_14_method_36_code 81 = .ok (.iconst 0, 1) := by decide +kernel
theorem d_Mo_allowed_82 : decode prog_14_method_36_code 82 = .ok (.invokevirtual 199, 3) := by decide +kernel
theorem d_Mo_allowed_85 : decode prog_14_method_36_code 85 = .ok (.ifCond .ne 8, 3) := by decide +kernel
theorem d_Mo_allowed_93 : decode prog_14_method_36_code 93 = .ok (.iload 7, 2) := by decide +kernel
theorem d_Mo_allowed_88 : decode prog_14_method_36_code 88 = .ok (.iload 8, 2) := by decide +kernel
theorem d_Mo_allowed_90 : decode prog_14_method_36_code 90 = .ok (.goto 5, 3) := by decide +kernel
theorem d_Mo_allowed_0 : decode prog_14_method_36_code 0 = .ok (.aload_n 0, 1) := by decide +kernel
theorem d_Mo_allowed_1 : decode prog_14_method_36_code 1 = .ok (.iconst 0, 1) := by decide +kernel
theorem d_Mo_allowed_2 : decode prog_14_method_36_code 2 = .ok (.putfield 101, 3) := by decide +kernel
theorem d_Mo_allowed_5 : decode prog_14_method_36_code 5 = .ok (.iload_n 2, 1) := by decide +kernel
theorem d_Mo_allowed_6 : decode prog_14_method_36_code 6 = .ok (.ifCond .lt 19, 3) := by decide +kernel
theorem d_Mo_allowed_25 : decode prog_14_method_36_code 25 = .ok (.iconst (-1), 1) := by decide +kernel
theorem d_Mo_allowed_26 : decode prog_14_method_36_code 26 = .ok (.ireturn, 1) := by decide +kernel
theorem d_Mo_allowed_9 : decode prog_14_method_36_code 9 = .ok (.iload_n 2, 1) := by decide +kernel
theorem d_Mo_allowed_10 : decode prog_14_method_36_code 10 = .ok (.bipush 19, 2) := by decide +kernel
theorem d_Mo_allowed_12 : decode prog_14_method_36_code 12 = .ok (.if_icmp .gt 13, 3) := by decide +kernel
theorem d_Mo_allowed_15 : decode prog_14_method_36_code 15 = .ok (.iload_n 3, 1) := by decide +kernel
theorem d_Mo_allowed_16 : decode prog_14_method_36_code 16 = .ok (.ifCond .lt 9, 3) := by decide +kernel
theorem d_Mo_allowed_19 : decode prog_14_method_36_code 19 = .ok (.iload_n 3, 1) := by decide +kernel
theorem d_Mo_allowed_20 : decode prog_14_method_36_code 20 = .ok (.bipush 20, 2) := by decide +kernel
theorem d_Mo_allowed_22 : decode prog_14_method_36_code 22 = .ok (.if_icmp .le 5, 3) := by decide +kernel
theorem d_Mo_allowed_27 : decode prog_14_method_36_code 27 = .ok (.aload_n 0, 1) := by decide +kernel
theorem d_Mo_allowed_28 : decode prog_14_method_36_code 28 = .ok (.getfield 71, 3) := by decide +kernel
theorem d_Mo_allowed_31 : decode prog_14_method_36_code 31 = .ok (.iload_n 2, 1) := by decide +kernel
theorem d_Mo_allowed_32 : decode prog_14_method_36_code 32 = .ok (.laload, 1) := by decide +kernel
theorem d_Mo_allowed_33 : decode prog_14_method_36_code 33 = .ok (.lstore 4, 2) := by decide +kernel
theorem d_Mo_allowed_35 : decode prog_14_method_36_code 35 = .ok (.aload_n 0, 1) := by decide +kernel
theorem d_Mo_allowed_36 : decode prog_14_method_36_code 36 = .ok (.getfield 75, 3) := by decide +kernel
theorem d_Mo_allowed_39 : decode prog_14_method_36_code 39 = .ok (.iload_n 2, 1) := by decide +kernel
theorem d_Mo_allowed_40 : decode prog_14_method_36_code 40 = .ok (.baload, 1) := by decide +kernel
theorem d_Mo_allowed_41 : decode prog_14_method_36_code 41 = .ok (.istore 6, 2) := by decide +kernel
theorem d_Mo_allowed_43 : decode prog_14_method_36_code 43 = .ok (.iconst (-1), 1) := by decide +kernel
theorem d_Mo_allowed_44 : decode prog_14_method_36_code 44 = .ok (.istore 7, 2) := by decide +kernel
theorem d_Mo_allowed_46 : decode prog_14_method_36_code 46 = .ok (.aload_n 0, 1) := by decide +kernel
theorem d_Mo_allowed_47 : decode prog_14_method_36_code 47 = .ok (.getfield 75, 3) := by decide +kernel
theorem d_Mo_allowed_50 : decode prog_14_method_36_code 50 = .ok (.iload_n 2, 1) := by decide +kernel
theorem d_Mo_allowed_51 : decode prog_14_method_36_code 51 = .ok (.iconst 1, 1) := by decide +kernel
theorem d_Mo_allowed_52 : decode prog_14_method_36_code 52 = .ok (.bastore, 1) := by decide +kernel
theorem d_Mo_allowed_53 : decode prog_14_method_36_code 53 = .ok (.iload_n 3, 1) := by decide +kernel
theorem d_Mo_allowed_54 : decode prog_14_method_36_code 54 = .ok (.istore 8, 2) := by decide +kernel
theorem d_Mo_write_96 : decode prog_14_method_37_code 96 = .ok (.iload 5, 2) := by decide +kernel
theorem d_Mo_write_98 : decode prog_14_method_37_code 98 = .ok (.aload_n 0, 1) := by decide +kernel
theorem d_Mo_write_99 : decode prog_14_method_37_code 99 = .ok (.getfield 23, 3) := by decide +kernel
theorem d_Mo_write_102 : decode prog_14_method_37_code 102 = .ok (.sipush 400, 3) := by decide +kernel
theorem d_Mo_write_105 : decode prog_14_method_37_code 105 = .ok (.iload_n 3, 1) := by decide +kernel
theorem d_Mo_write_106 : decode prog_14_method_37_code 106 = .ok (.imul, 1) := by decide +kernel
theorem d_Mo_write_107 : decode prog_14_method_37_code 107 = .ok (.iload 4, 2) := by decide +kernel
theorem d_Mo_write_109 : decode prog_14_method_37_code 109 = .ok (.iadd, 1) := by decide +kernel
theorem d_Mo_write_110 : decode prog_14_method_37_code 110 = .ok (.iaload, 1) := by decide +kernel
theorem d_Mo_write_111 : decode prog_14_method_37_code 111 = .ok (.if_icmp .ge 55, 3) := by decide +kernel
theorem d_Mo_write_166 : decode prog_14_method_37_code 166 = .ok (.iinc 4 1, 3) := by decide +kernel
theorem d_Mo_write_169 : decode prog_14_method_37_code 169 = .ok (.goto (-120), 3) := by decide +kernel
theorem d_Mo_write_114 : decode prog_14_method_37_code 114 = .ok (.aload_n 0, 1) := by decide +kernel
theorem d_Mo_write_115 : decode prog_14_method_37_code 115 = .ok (.getfield 95, 3) := by decide +kernel
theorem d_Mo_write_118 : decode prog_14_method_37_code 118 = .ok (.aload_n 0, 1) := by decide +kernel
theorem d_Mo_write_119 : decode prog_14_method_37_code 119 = .ok (.getfield 209, 3) := by decide +kernel
theorem d_Mo_write_122 : decode prog_14_method_37_code 122 = .ok (.aload_n 0, 1) := by decide +kernel
theorem d_Mo_write_123 : decode prog_14_method_37_code 123 = .ok (.getfield 17, 3) := by decide +kernel
theorem d_Mo_write_126 : decode prog_14_method_37_code 126 = .ok (.sipush 800, 3) := by decide +kernel
theorem d_Mo_write_129 : decode prog_14_method_37_code 129 = .ok (.iload_n 3, 1) := by decide +kernel
theorem d_Mo_write_130 : decode prog_14_method_37_code 130 = .ok (.imul, 1) := by decide +kernel
theorem d_Mo_write_131 : decode prog_14_method_37_code 131 = .ok (.aload_n 0, 1) := by decide +kernel
theorem d_Mo_write_132 : decode prog_14_method_37_code 132 = .ok (.getfield 20, 3) := by decide +kernel
theorem d_Mo_write_135 : decode prog_14_method_37_code 135 = .ok (.sipush 400, 3) := by decide +kernel
theorem d_Mo_write_138 : decode prog_14_method_37_code 138 = .ok (.iload_n 3, 1) := by decide +kernel
theorem d_Mo_write_139 : decode prog_14_method_37_code 139 = .ok (.imul, 1) := by decide +kernel
theorem d_Mo_write_140 : decode prog_14_method_37_code 140 = .ok (.iload 4, 2) := by decide +kernel
theorem d_Mo_write_142 : decode prog_14_method_37_code 142 = .ok (.iadd, 1) := by decide +kernel
theorem d_Mo_write_143 : decode prog_14_method_37_code 143 = .ok (.iaload, 1) := by decide +kernel
theorem d_Mo_write_144 : decode prog_14_method_37_code 144 = .ok (.iadd, 1) := by decide +kernel
theorem d_Mo_write_145 : decode prog_14_method_37_code 145 = .ok (.iload 5, 2) := by decide +kernel
theorem d_Mo_write_147 : decode prog_14_method_37_code 147 = .ok (.iadd, 1) := by decide +kernel
theorem d_Mo_write_148 : decode prog_14_method_37_code 148 = .ok (.baload, 1) := by decide +kernel
theorem d_Mo_write_149 : decode prog_14_method_37_code 149 = .ok (.bastore, 1) := by decide +kernel
theorem d_Mo_write_150 : decode prog_14_method_37_code 150 = .ok (.aload_n 0, 1) := by decide +kernel
theorem d_Mo_write_151 : decode prog_14_method_37_code 151 = .ok (.dup, 1) := by decide +kernel
theorem d_Mo_write_152 : decode prog_14_method_37_code 152 = .ok (.getfield 209, 3) := by decide +kernel
theorem d_Mo_write_155 : decode prog_14_method_37_code 155 = .ok (.iconst 1, 1) := by decide +kernel
theorem d_Mo_write_156 : decode prog_14_method_37_code 156 = .ok (.iadd, 1) := by decide +kernel
theorem d_Mo_write_157 : decode prog_14_method_37_code 157 = .ok (.putfield 209, 3) := by decide +kernel
theorem d_Mo_write_160 : decode prog_14_method_37_code 160 = .ok (.iinc 5 1, 3) := by decide +kernel
theorem d_Mo_write_163 : decode prog_14_method_37_code 163 = .ok (.goto (-67), 3) := by decide +kernel
theorem d_Mo_write_93 : decode prog_14_method_37_code 93 = .ok (.iconst 0, 1) := by decide +kernel
theorem d_Mo_write_94 : decode prog_14_method_37_code 94 = .ok (.istore 5, 2) := by decide +kernel
theorem d_Mo_write_49 : decode prog_14_method_37_code 49 = .ok (.iload 4, 2) := by decide +kernel
theorem d_Mo_write_51 : decode prog_14_method_37_code 51 = .ok (.aload_n 0, 1) := by decide +kernel
theorem d_Mo_write_52 : decode prog_14_method_37_code 52 = .ok (.getfield 56, 3) := by decide +kernel
theorem d_Mo_write_55 : decode prog_14_method_37_code 55 = .ok (.bipush 12, 2) := by decide +kernel
theorem d_Mo_write_57 : decode prog_14_method_37_code 57 = .ok (.iload_n 3, 1) := by decide +kernel
theorem d_Mo_write_58 : decode prog_14_method_37_code 58 = .ok (.imul, 1) := by decide +kernel
theorem d_Mo_write_59 : decode prog_14_method_37_code 59 = .ok (.iload_n 2, 1) := by decide +kernel
theorem d_Mo_write_60 : decode prog_14_method_37_code 60 = .ok (.iadd, 1) := by decide +kernel
theorem d_Mo_write_61 : decode prog_14_method_37_code 61 = .ok (.iaload, 1) := by decide +kernel
theorem d_Mo_write_62 : decode prog_14_method_37_code 62 = .ok (.if_icmp .gt 110, 3) := by decide +kernel
theorem d_Mo_write_172 : decode prog_14_method_37_code 172 = .ok (.aload_n 0, 1) := by decide +kernel
theorem d_Mo_write_173 : decode prog_14_method_37_code 173 = .ok (.getfield 209, 3) := by decide +kernel
theorem d_Mo_write_176 : decode prog_14_method_37_code 176 = .ok (.ireturn, 1) := by decide +kernel
theorem d_Mo_write_65 : decode prog_14_method_37_code 65 = .ok (.aload_n 0, 1) := by decide +kernel
theorem d_Mo_write_66 : decode prog_14_method_37_code 66 = .ok (.getfield 209, 3) := by decide +kernel
theorem d_Mo_write_69 : decode prog_14_method_37_code 69 = .ok (.ifCond .le 24, 3) := by decide +kernel
theorem d_Mo_write_72 : decode prog_14_method_37_code 72 = .ok (.aload_n 0, 1) := by decide +kernel
theorem d_Mo_write_73 : decode prog_14_method_37_code 73 = .ok (.getfield 95, 3) := by decide +kernel
theorem d_Mo_write_76 : decode prog_14_method_37_code 76 = .ok (.aload_n 0, 1) := by decide +kernel
theorem d_Mo_write_77 : decode prog_14_method_37_code 77 = .ok (.getfield 209, 3) := by decide +kernel
theorem d_Mo_write_80 : decode prog_14_method_37_code 80 = .ok (.bipush 32, 2) := by decide +kernel
theorem d_Mo_write_82 : decode prog_14_method_37_code 82 = .ok (.bastore, 1) := by decide +kernel
theorem d_Mo_write_83 : decode prog_14_method_37_code 83 = .ok (.aload_n 0, 1) := by decide +kernel
theorem d_Mo_write_84 : decode prog_14_method_37_code 84 = .ok (.dup, 1) := by decide +kernel
theorem d_Mo_write_85 : decode prog_14_method_37_code 85 = .ok (.getfield 209, 3) := by decide +kernel
theorem d_Mo_write_88 : decode prog_14_method_37_code 88 = .ok (.iconst 1, 1) := by decide +kernel
theorem d_Mo_write_89 : decode prog_14_method_37_code 89 = .ok (.iadd, 1) := by decide +kernel
theorem d_Mo_write_90 : decode prog_14_method_37_code 90 = .ok (.putfield 209, 3) := by decide +kernel
theorem d_Mo_write_0 : decode prog_14_method_37_code 0 = .ok (.aload_n 0, 1) := by decide +kernel
theorem d_Mo_write_1 : decode prog_14_method_37_code 1 = .ok (.iconst 0, 1) := by decide +kernel
theorem d_Mo_write_2 : decode prog_14_method_37_code 2 = .ok (.putfield 101, 3) := by decide +kernel
theorem d_Mo_write_5 : decode prog_14_method_37_code 5 = .ok (.aload_n 0, 1) := by decide +kernel
theorem d_Mo_write_6 : decode prog_14_method_37_code 6 = .ok (.iload_n 1, 1) := by decide +kernel
theorem d_Mo_write_7 : decode prog_14_method_37_code 7 = .ok (.invokevirtual 195, 3) := by decide +kernel
theorem d_Mo_write_10 : decode prog_14_method_37_code 10 = .ok (.istore_n 3, 1) := by decide +kernel
theorem d_Mo_write_11 : decode prog_14_method_37_code 11 = .ok (.iload_n 3, 1) := by decide +kernel
theorem d_Mo_write_12 : decode prog_14_method_37_code 12 = .ok (.ifCond .lt 17, 3) := by decide +kernel
theorem d_Mo_write_29 : decode prog_14_method_37_code 29 = .ok (.iconst (-1), 1) := by decide +kernel
theorem d_Mo_write_30 : decode prog_14_method_37_code 30 = .ok (.ireturn, 1) := by decide +kernel
theorem d_Mo_write_15 : decode prog_14_method_37_code 15 = .ok (.iload_n 2, 1) := by decide +kernel
theorem d_Mo_write_16 : decode prog_14_method_37_code 16 = .ok (.ifCond .lt 13, 3) := by decide +kernel
theorem d_Mo_write_19 : decode prog_14_method_37_code 19 = .ok (.iload_n 2, 1) := by decide +kernel
theorem d_Mo_write_20 : decode prog_14_method_37_code 20 = .ok (.aload_n 0, 1) := by decide +kernel
theorem d_Mo_write_21 : decode prog_14_method_37_code 21 = .ok (.getfield 41, 3) := by decide +kernel
theorem d_Mo_write_24 : decode prog_14_method_37_code 24 = .ok (.iload_n 3, 1) := by decide +kernel
theorem d_Mo_write_25 : decode prog_14_method_37_code 25 = .ok (.iaload, 1) := by decide +kernel
theorem d_Mo_write_26 : decode prog_14_method_37_code 26 = .ok (.if_icmp .lt 5, 3) := by decide +kernel
theorem d_Mo_write_31 : decode prog_14_method_37_code 31 = .ok (.aload_n 0, 1) := by decide +kernel
theorem d_Mo_write_32 : decode prog_14_method_37_code 32 = .ok (.iconst 0, 1) := by decide +kernel
theorem d_Mo_write_33 : decode prog_14_method_37_code 33 = .ok (.putfield 209, 3) := by decide +kernel
theorem d_Mo_write_36 : decode prog_14_method_37_code 36 = .ok (.aload_n 0, 1) := by decide +kernel
theorem d_Mo_write_37 : decode prog_14_method_37_code 37 = .ok (.getfield 53, 3) := by decide +kernel
theorem d_Mo_write_40 : decode prog_14_method_37_code 40 = .ok (.bipush 12, 2) := by decide +kernel
theorem d_Mo_write_42 : decode prog_14_method_37_code 42 = .ok (.iload_n 3, 1) := by decide +kernel
theorem d_Mo_write_43 : decode prog_14_method_37_code 43 = .ok (.imul, 1) := by decide +kernel
theorem d_Mo_write_44 : decode prog_14_method_37_code 44 = .ok (.iload_n 2, 1) := by decide +kernel
theorem d_Mo_write_45 : decode prog_14_method_37_code 45 = .ok (.iadd, 1) := by decide +kernel
theorem d_Mo_write_46 : decode prog_14_method_37_code 46 = .ok (.iaload, 1) := by decide +kernel
theorem d_Mo_write_47 : decode prog_14_method_37_code 47 = .ok (.istore 4, 2) := by decide +kernel
theorem d_Mo_written_0 : decode prog_14_method_38_code 0 = .ok (.aload_n 0, 1) := by decide +kernel
theorem d_Mo_written_1 : decode prog_14_method_38_code 1 = .ok (.iconst 0, 1) := by decide +kernel
theorem d_Mo_written_2 : decode prog_14_method_38_code 2 = .ok (.putfield 101, 3) := by decide +kernel
theorem d_Mo_written_5 : decode prog_14_method_38_code 5 = .ok (.iload_n 1, 1) := by decide +kernel
theorem d_Mo_written_6 : decode prog_14_method_38_code 6 = .ok (.ifCond .lt 24, 3) := by decide +kernel
theorem d_Mo_written_30 : decode prog_14_method_38_code 30 = .ok (.iconst (-1), 1) := by decide +kernel
theorem d_Mo_written_31 : decode prog_14_method_38_code 31 = .ok (.ireturn, 1) := by decide +kernel
theorem d_Mo_written_9 : decode prog_14_method_38_code 9 = .ok (.iload_n 1, 1) := by decide +kernel
theorem d_Mo_written_10 : decode prog_14_method_38_code 10 = .ok (.aload_n 0, 1) := by decide +kernel
theorem d_Mo_written_11 : decode prog_14_method_38_code 11 = .ok (.getfield 209, 3) := by decide +kernel
theorem d_Mo_written_14 : decode prog_14_method_38_code 14 = .ok (.if_icmp .ge 16, 3) := by decide +kernel
theorem d_Mo_written_17 : decode prog_14_method_38_code 17 = .ok (.aload_n 0, 1) := by decide +kernel
theorem d_Mo_written_18 : decode prog_14_method_38_code 18 = .ok (.getfield 95, 3) := by decide +kernel
theorem d_Mo_written_21 : decode prog_14_method_38_code 21 = .ok (.iload_n 1, 1) := by decide +kernel
theorem d_Mo_written_22 : decode prog_14_method_38_code 22 = .ok (.baload, 1) := by decide +kernel
theorem d_Mo_written_23 : decode prog_14_method_38_code 23 = .ok (.sipush 255, 3) := by decide +kernel
theorem d_Mo_written_26 : decode prog_14_method_38_code 26 = .ok (.iand, 1) := by decide +kernel
theorem d_Mo_written_27 : decode prog_14_method_38_code 27 = .ok (.goto 4, 3) := by decide +kernel
theorem d_Mo_haul_0 : decode prog_14_method_39_code 0 = .ok (.aload_n 0, 1) := by decide +kernel
theorem d_Mo_haul_1 : decode prog_14_method_39_code 1 = .ok (.iconst 0, 1) := by decide +kernel
theorem d_Mo_haul_2 : decode prog_14_method_39_code 2 = .ok (.putfield 101, 3) := by decide +kernel
theorem d_Mo_haul_5 : decode prog_14_method_39_code 5 = .ok (.iload_n 1, 1) := by decide +kernel
theorem d_Mo_haul_6 : decode prog_14_method_39_code 6 = .ok (.ifCond .lt 33, 3) := by decide +kernel
theorem d_Mo_haul_39 : decode prog_14_method_39_code 39 = .ok (.iconst 0, 1) := by decide +kernel
theorem d_Mo_haul_40 : decode prog_14_method_39_code 40 = .ok (.ireturn, 1) := by decide +kernel
theorem d_Mo_haul_9 : decode prog_14_method_39_code 9 = .ok (.iload_n 1, 1) := by decide +kernel
theorem d_Mo_haul_10 : decode prog_14_method_39_code 10 = .ok (.bipush 9, 2) := by decide +kernel
theorem d_Mo_haul_12 : decode prog_14_method_39_code 12 = .ok (.if_icmp .gt 27, 3) := by decide +kernel
theorem d_Mo_haul_15 : decode prog_14_method_39_code 15 = .ok (.iload_n 2, 1) := by decide +kernel
theorem d_Mo_haul_16 : decode prog_14_method_39_code 16 = .ok (.ifCond .lt 23, 3) := by decide +kernel
theorem d_Mo_haul_19 : decode prog_14_method_39_code 19 = .ok (.iload_n 2, 1) := by decide +kernel
theorem d_Mo_haul_20 : decode prog_14_method_39_code 20 = .ok (.bipush 7, 2) := by decide +kernel
theorem d_Mo_haul_22 : decode prog_14_method_39_code 22 = .ok (.if_icmp .gt 17, 3) := by decide +kernel
theorem d_Mo_haul_25 : decode prog_14_method_39_code 25 = .ok (.lload_n 3, 1) := by decide +kernel
theorem d_Mo_haul_26 : decode prog_14_method_39_code 26 = .ok (.lconst 1, 1) := by decide +kernel
theorem d_Mo_haul_27 : decode prog_14_method_39_code 27 = .ok (.lcmp, 1) := by decide +kernel
theorem d_Mo_haul_28 : decode prog_14_method_39_code 28 = .ok (.ifCond .lt 11, 3) := by decide +kernel
theorem d_Mo_haul_31 : decode prog_14_method_39_code 31 = .ok (.lload_n 3, 1) := by decide +kernel
theorem d_Mo_haul_32 : decode prog_14_method_39_code 32 = .ok (.ldc2_w 212, 3) := by decide +kernel
theorem d_Mo_haul_35 : decode prog_14_method_39_code 35 = .ok (.lcmp, 1) := by decide +kernel
theorem d_Mo_haul_36 : decode prog_14_method_39_code 36 = .ok (.ifCond .le 5, 3) := by decide +kernel
theorem d_Mo_haul_41 : decode prog_14_method_39_code 41 = .ok (.aload_n 0, 1) := by decide +kernel
theorem d_Mo_haul_42 : decode prog_14_method_39_code 42 = .ok (.getfield 98, 3) := by decide +kernel
theorem d_Mo_haul_45 : decode prog_14_method_39_code 45 = .ok (.bipush 8, 2) := by decide +kernel
theorem d_Mo_haul_47 : decode prog_14_method_39_code 47 = .ok (.iload_n 1, 1) := by decide +kernel
theorem d_Mo_haul_48 : decode prog_14_method_39_code 48 = .ok (.imul, 1) := by decide +kernel
theorem d_Mo_haul_49 : decode prog_14_method_39_code 49 = .ok (.iload_n 2, 1) := by decide +kernel
theorem d_Mo_haul_50 : decode prog_14_method_39_code 50 = .ok (.iadd, 1) := by decide +kernel
theorem d_Mo_haul_51 : decode prog_14_method_39_code 51 = .ok (.dup2, 1) := by decide +kernel
theorem d_Mo_haul_52 : decode prog_14_method_39_code 52 = .ok (.laload, 1) := by decide +kernel
theorem d_Mo_haul_53 : decode prog_14_method_39_code 53 = .ok (.lload_n 3, 1) := by decide +kernel
theorem d_Mo_haul_54 : decode prog_14_method_39_code 54 = .ok (.ladd, 1) := by decide +kernel
theorem d_Mo_haul_55 : decode prog_14_method_39_code 55 = .ok (.lastore, 1) := by decide +kernel
theorem d_Mo_haul_56 : decode prog_14_method_39_code 56 = .ok (.iconst 1, 1) := by decide +kernel
theorem d_Mo_haul_57 : decode prog_14_method_39_code 57 = .ok (.ireturn, 1) := by decide +kernel
theorem d_Mo_byCatch_102 : decode prog_14_method_40_code 102 = .ok (.lload 8, 2) := by decide +kernel
theorem d_Mo_byCatch_104 : decode prog_14_method_40_code 104 = .ok (.lconst 0, 1) := by decide +kernel
theorem d_Mo_byCatch_105 : decode prog_14_method_40_code 105 = .ok (.lcmp, 1) := by decide +kernel
theorem d_Mo_byCatch_106 : decode prog_14_method_40_code 106 = .ok (.ifCond .le 21, 3) := by decide +kernel
theorem d_Mo_byCatch_127 : decode prog_14_method_40_code 127 = .ok (.iload_n 3, 1) := by decide +kernel
theorem d_Mo_byCatch_128 : decode prog_14_method_40_code 128 = .ok (.ifCond .ne 20, 3) := by decide +kernel
theorem d_Mo_byCatch_148 : decode prog_14_method_40_code 148 = .ok (.lload 4, 2) := by decide +kernel
theorem d_Mo_byCatch_150 : decode prog_14_method_40_code 150 = .ok (.lload 6, 2) := by decide +kernel
theorem d_Mo_byCatch_152 : decode prog_14_method_40_code 152 = .ok (.ldiv, 1) := by decide +kernel
theorem d_Mo_byCatch_153 : decode prog_14_method_40_code 153 = .ok (.lreturn, 1) := by decide +kernel
theorem d_Mo_byCatch_131 : decode prog_14_method_40_code 131 = .ok (.aload_n 0, 1) := by decide +kernel
theorem d_Mo_byCatch_132 : decode prog_14_method_40_code 132 = .ok (.getfield 98, 3) := by decide +kernel
theorem d_Mo_byCatch_135 : decode prog_14_method_40_code 135 = .ok (.bipush 8, 2) := by decide +kernel
theorem d_Mo_byCatch_137 : decode prog_14_method_40_code 137 = .ok (.iload_n 1, 1) := by decide +kernel
theorem d_Mo_byCatch_138 : decode prog_14_method_40_code 138 = .ok (.imul, 1) := by decide +kernel
theorem d_Mo_byCatch_139 : decode prog_14_method_40_code 139 = .ok (.iload_n 2, 1) := by decide +kernel
theorem d_Mo_byCatch_140 : decode prog_14_method_40_code 140 = .ok (.iadd, 1) := by decide +kernel
theorem d_Mo_byCatch_141 : decode prog_14_method_40_code 141 = .ok (.laload, 1) := by decide +kernel
theorem d_Mo_byCatch_142 : decode prog_14_method_40_code 142 = .ok (.lload 6, 2) := by decide +kernel
theorem d_Mo_byCatch_144 : decode prog_14_method_40_code 144 = .ok (.ldiv, 1) := by decide +kernel
theorem d_Mo_byCatch_145 : decode prog_14_method_40_code 145 = .ok (.goto 8, 3) := by decide +kernel
theorem d_Mo_byCatch_109 : decode prog_14_method_40_code 109 = .ok (.lload 6, 2) := by decide +kernel
theorem d_Mo_byCatch_111 : decode prog_14_method_40_code 111 = .ok (.lload 8, 2) := by decide +kernel
theorem d_Mo_byCatch_113 : decode prog_14_method_40_code 113 = .ok (.lrem, 1) := by decide +kernel
theorem d_Mo_byCatch_114 : decode prog_14_method_40_code 114 = .ok (.lstore 10, 2) := by decide +kernel
theorem d_Mo_byCatch_116 : decode prog_14_method_40_code 116 = .ok (.lload 8, 2) := by decide +kernel
theorem d_Mo_byCatch_118 : decode prog_14_method_40_code 118 = .ok (.lstore 6, 2) := by decide +kernel
theorem d_Mo_byCatch_120 : decode prog_14_method_40_code 120 = .ok (.lload 10, 2) := by decide +kernel
theorem d_Mo_byCatch_122 : decode prog_14_method_40_code 122 = .ok (.lstore 8, 2) := by decide +kernel
theorem d_Mo_byCatch_124 : decode prog_14_method_40_code 124 = .ok (.goto (-22), 3) := by decide +kernel
theorem d_Mo_byCatch_44 : decode prog_14_method_40_code 44 = .ok (.iload 6, 2) := by decide +kernel
theorem d_Mo_byCatch_46 : decode prog_14_method_40_code 46 = .ok (.bipush 8, 2) := by decide +kernel
theorem d_Mo_byCatch_48 : decode prog_14_method_40_code 48 = .ok (.if_icmp .ge 26, 3) := by decide +kernel
theorem d_Mo_byCatch_74 : decode prog_14_method_40_code 74 = .ok (.lload 4, 2) := by decide +kernel
theorem d_Mo_byCatch_76 : decode prog_14_method_40_code 76 = .ok (.lconst 0, 1) := by decide +kernel
theorem d_Mo_byCatch_77 : decode prog_14_method_40_code 77 = .ok (.lcmp, 1) := by decide +kernel
theorem d_Mo_byCatch_78 : decode prog_14_method_40_code 78 = .ok (.ifCond .ne 7, 3) := by decide +kernel
theorem d_Mo_byCatch_85 : decode prog_14_method_40_code 85 = .ok (.aload_n 0, 1) := by decide +kernel
theorem d_Mo_byCatch_86 : decode prog_14_method_40_code 86 = .ok (.getfield 98, 3) := by decide +kernel
theorem d_Mo_byCatch_89 : decode prog_14_method_40_code 89 = .ok (.bipush 8, 2) := by decide +kernel
theorem d_Mo_byCatch_91 : decode prog_14_method_40_code 91 = .ok (.iload_n 1, 1) := by decide +kernel
theorem d_Mo_byCatch_92 : decode prog_14_method_40_code 92 = .ok (.imul, 1) := by decide +kernel
theorem d_Mo_byCatch_93 : decode prog_14_method_40_code 93 = .ok (.iload_n 2, 1) := by decide +kernel
theorem d_Mo_byCatch_94 : decode prog_14_method_40_code 94 = .ok (.iadd, 1) := by decide +kernel
theorem d_Mo_byCatch_95 : decode prog_14_method_40_code 95 = .ok (.laload, 1) := by decide +kernel
theorem d_Mo_byCatch_96 : decode prog_14_method_40_code 96 = .ok (.lstore 6, 2) := by decide +kernel
theorem d_Mo_byCatch_98 : decode prog_14_method_40_code 98 = .ok (.lload 4, 2) := by decide +kernel
theorem d_Mo_byCatch_100 : decode prog_14_method_40_code 100 = .ok (.lstore 8, 2) := by decide +kernel
theorem d_Mo_byCatch_81 : decode prog_14_method_40_code 81 = .ok (.ldc2_w 109, 3) := by decide +kernel
theorem d_Mo_byCatch_84 : decode prog_14_method_40_code 84 = .ok (.lreturn, 1) := by decide +kernel
theorem d_Mo_byCatch_51 : decode prog_14_method_40_code 51 = .ok (.lload 4, 2) := by decide +kernel
theorem d_Mo_byCatch_53 : decode prog_14_method_40_code 53 = .ok (.aload_n 0, 1) := by decide +kernel
theorem d_Mo_byCatch_54 : decode prog_14_method_40_code 54 = .ok (.getfield 98, 3) := by decide +kernel
theorem d_Mo_byCatch_57 : decode prog_14_method_40_code 57 = .ok (.bipush 8, 2) := by decide +kernel
theorem d_Mo_byCatch_59 : decode prog_14_method_40_code 59 = .ok (.iload_n 1, 1) := by decide +kernel
theorem d_Mo_byCatch_60 : decode prog_14_method_40_code 60 = .ok (.imul, 1) := by decide +kernel
theorem d_Mo_byCatch_61 : decode prog_14_method_40_code 61 = .ok (.iload 6, 2) := by decide +kernel
theorem d_Mo_byCatch_63 : decode prog_14_method_40_code 63 = .ok (.iadd, 1) := by decide +kernel
theorem d_Mo_byCatch_64 : decode prog_14_method_40_code 64 = .ok (.laload, 1) := by decide +kernel
theorem d_Mo_byCatch_65 : decode prog_14_method_40_code 65 = .ok (.ladd, 1) := by decide +kernel
theorem d_Mo_byCatch_66 : decode prog_14_method_40_code 66 = .ok (.lstore 4, 2) := by decide +kernel
theorem d_Mo_byCatch_68 : decode prog_14_method_40_code 68 = .ok (.iinc 6 1, 3) := by decide +kernel
theorem d_Mo_byCatch_71 : decode prog_14_method_40_code 71 = .ok (.goto (-27), 3) := by decide +kernel
theorem d_Mo_byCatch_0 : decode prog_14_method_40_code 0 = .ok (.aload_n 0, 1) := by decide +kernel
theorem d_Mo_byCatch_1 : decode prog_14_method_40_code 1 = .ok (.iconst 0, 1) := by decide +kernel
theorem d_Mo_byCatch_2 : decode prog_14_method_40_code 2 = .ok (.putfield 101, 3) := by decide +kernel
theorem d_Mo_byCatch_5 : decode prog_14_method_40_code 5 = .ok (.iload_n 1, 1) := by decide +kernel
theorem d_Mo_byCatch_6 : decode prog_14_method_40_code 6 = .ok (.ifCond .lt 28, 3) := by decide +kernel
theorem d_Mo_byCatch_34 : decode prog_14_method_40_code 34 = .ok (.ldc2_w 109, 3) := by decide +kernel
theorem d_Mo_byCatch_37 : decode prog_14_method_40_code 37 = .ok (.lreturn, 1) := by decide +kernel
theorem d_Mo_byCatch_9 : decode prog_14_method_40_code 9 = .ok (.iload_n 1, 1) := by decide +kernel
theorem d_Mo_byCatch_10 : decode prog_14_method_40_code 10 = .ok (.bipush 9, 2) := by decide +kernel
theorem d_Mo_byCatch_12 : decode prog_14_method_40_code 12 = .ok (.if_icmp .gt 22, 3) := by decide +kernel
theorem d_Mo_byCatch_15 : decode prog_14_method_40_code 15 = .ok (.iload_n 2, 1) := by decide +kernel
theorem d_Mo_byCatch_16 : decode prog_14_method_40_code 16 = .ok (.ifCond .lt 18, 3) := by decide +kernel
theorem d_Mo_byCatch_19 : decode prog_14_method_40_code 19 = .ok (.iload_n 2, 1) := by decide +kernel
theorem d_Mo_byCatch_20 : decode prog_14_method_40_code 20 = .ok (.bipush 7, 2) := by decide +kernel
theorem d_Mo_byCatch_22 : decode prog_14_method_40_code 22 = .ok (.if_icmp .gt 12, 3) := by decide +kernel
theorem d_Mo_byCatch_25 : decode prog_14_method_40_code 25 = .ok (.iload_n 3, 1) := by decide +kernel
theorem d_Mo_byCatch_26 : decode prog_14_method_40_code 26 = .ok (.ifCond .lt 8, 3) := by decide +kernel
theorem d_Mo_byCatch_29 : decode prog_14_method_40_code 29 = .ok (.iload_n 3, 1) := by decide +kernel
theorem d_Mo_byCatch_30 : decode prog_14_method_40_code 30 = .ok (.iconst 1, 1) := by decide +kernel
theorem d_Mo_byCatch_31 : decode prog_14_method_40_code 31 = .ok (.if_icmp .le 7, 3) := by decide +kernel
theorem d_Mo_byCatch_38 : decode prog_14_method_40_code 38 = .ok (.lconst 0, 1) := by decide +kernel
theorem d_Mo_byCatch_39 : decode prog_14_method_40_code 39 = .ok (.lstore 4, 2) := by decide +kernel
theorem d_Mo_byCatch_41 : decode prog_14_method_40_code 41 = .ok (.iconst 0, 1) := by decide +kernel
theorem d_Mo_byCatch_42 : decode prog_14_method_40_code 42 = .ok (.istore 6, 2) := by decide +kernel
def M_Mo_table_86 (F : Nat) (h : hH) (x0 : Nat) (x2 : Int32) (x3 : Int32) (x4 : Int32) (x5 : Int32) (s0 : Nat) (s1 : Int32) : Option (Int32 × hH) :=
  (hPut h s0 12 0 (.int s1)).bind fun h1 =>
  if x5 = 0 then (
    some (0, h1)
  ) else (
    (hGetA h1 x0 12 12).bind fun v3 =>
    (hLdI h1 v3 .int (((80 * x4) + (10 * x2)) + x3)).bind fun v4 =>
    some (v4, h1)
  )
def M_Mo_table_73 (F : Nat) (h : hH) (x0 : Nat) (x2 : Int32) (x3 : Int32) (x4 : Int32) (s0 : Int32) : Option (Int32 × hH) :=
  if s0 = 0 then (
    M_Mo_table_86 F h x0 x2 x3 x4 s0 x0 1
  ) else (
    M_Mo_table_86 F h x0 x2 x3 x4 s0 x0 0
  )
def M_Mo_table_72 (F : Nat) (h : hH) (x0 : Nat) (x2 : Int32) (x3 : Int32) (x4 : Int32) : Option (Int32 × hH) :=
  M_Mo_table_73 F h x0 x2 x3 x4 0
def M_Mo_table_41 (F : Nat) (h : hH) (x0 : Nat) (x2 : Int32) (x3 : Int32) (x4 : Int32) (s0 : Int32) : Option (Int32 × hH) :=
  if s0 = 0 then (
    M_Mo_table_72 F h x0 x2 x3 x4
  ) else (
    if x3 < 0 then (
      M_Mo_table_72 F h x0 x2 x3 x4
    ) else (
      (hGetA h x0 12 11).bind fun v3 =>
      (hLdI h v3 .int ((8 * x4) + x2)).bind fun v4 =>
      if v4 ≤ x3 then (
        M_Mo_table_72 F h x0 x2 x3 x4
      ) else (
        M_Mo_table_73 F h x0 x2 x3 x4 1
      )
    )
  )
def M_Mo_table_40 (F : Nat) (h : hH) (x0 : Nat) (x2 : Int32) (x3 : Int32) (x4 : Int32) : Option (Int32 × hH) :=
  M_Mo_table_41 F h x0 x2 x3 x4 0
def M_Mo_table_32 (F : Nat) (h : hH) (x0 : Nat) (x2 : Int32) (x3 : Int32) (x4 : Int32) (s0 : Int32) (s1 : Nat) (s2 : Int32) : Option (Int32 × hH) :=
  (hLdI h s1 .int s2).bind fun v1 =>
  if v1 ≤ s0 then (
    M_Mo_table_40 F h x0 x2 x3 x4
  ) else (
    M_Mo_table_41 F h x0 x2 x3 x4 1
  )
def M_Mo_table (F : Nat) (h : hH) (x0 : Nat) (x1 : Int32) (x2 : Int32) (x3 : Int32) : Option (Int32 × hH) :=
  (hIs h x0 12).bind fun u1 =>
  (M_Mo_editionOf F h x0 x1).bind fun q2 =>
  if q2.1 < 0 then (
    M_Mo_table_40 F q2.2 x0 x2 x3 q2.1
  ) else (
    if x2 < 0 then (
      M_Mo_table_40 F q2.2 x0 x2 x3 q2.1
    ) else (
      (hGetA q2.2 x0 12 10).bind fun v5 =>
      if 0 ≤ q2.1 then (
        M_Mo_table_32 F q2.2 x0 x2 x3 q2.1 x2 v5 q2.1
      ) else (
        M_Mo_table_32 F q2.2 x0 x2 x3 q2.1 x2 v5 0
      )
    )
  )
def M_Mo_allowed_103 (F : Nat) (h : hH) (x0 : Nat) (x2 : Int32) (x4 : Int64) (x6 : Int32) (x7 : Int32) : Option (Int32 × hH) :=
  (hGetA h x0 12 27).bind fun v1 =>
  (hStL h v1 x2 x4).bind fun h2 =>
  (hGetA h2 x0 12 28).bind fun v3 =>
  (hStZ h2 v3 x2 x6).bind fun h4 =>
  some (x7, h4)
def M_Mo_allowed_95 (F : Nat) (r56 : hH → Nat → Int32 → Int32 → Int64 → Int32 → Int32 → Int32 → Option (Int32 × hH)) (h : hH) (x0 : Nat) (x1 : Int32) (x2 : Int32) (x4 : Int64) (x6 : Int32) (x8 : Int32) (s0 : Int32) : Option (Int32 × hH) :=
  r56 h x0 x1 x2 x4 x6 s0 (x8 + (-1))
def B_Mo_allowed_56 (F : Nat) (r56 : hH → Nat → Int32 → Int32 → Int64 → Int32 → Int32 → Int32 → Option (Int32 × hH)) (h : hH) (x0 : Nat) (x1 : Int32) (x2 : Int32) (x4 : Int64) (x6 : Int32) (x7 : Int32) (x8 : Int32) : Option (Int32 × hH) :=
  if x8 < 0 then (
    M_Mo_allowed_103 F h x0 x2 x4 x6 x7
  ) else (
    if 0 ≤ x7 then (
      M_Mo_allowed_103 F h x0 x2 x4 x6 x7
    ) else (
      (hGetA h x0 12 27).bind fun v3 =>
      (hStL h v3 x2 x8.toInt64).bind fun h4 =>
      (hIs h4 x0 12).bind fun u5 =>
      (M_Mo_editionOf F h4 x0 x1).bind fun q6 =>
      (hIs q6.2 x0 12).bind fun u7 =>
      (M_Mo_answer F q6.2 x0 q6.1 0).bind fun q8 =>
      if q8.1 = 0 then (
        M_Mo_allowed_95 F r56 q8.2 x0 x1 x2 x4 x6 x8 x8
      ) else (
        M_Mo_allowed_95 F r56 q8.2 x0 x1 x2 x4 x6 x8 x7
      )
    )
  )
def M_Mo_allowed_56 (F : Nat) : Nat → hH → Nat → Int32 → Int32 → Int64 → Int32 → Int32 → Int32 → Option (Int32 × hH)
  | 0 => fun _ _ _ _ _ _ _ _ => none
  | z + 1 => B_Mo_allowed_56 F (M_Mo_allowed_56 F z)
def M_Mo_allowed (F : Nat) (h : hH) (x0 : Nat) (x1 : Int32) (x2 : Int32) (x3 : Int32) : Option (Int32 × hH) :=
  (hPut h x0 12 0 (.int 0)).bind fun h1 =>
  if x2 < 0 then (
    some ((-1), h1)
  ) else (
    if 19 < x2 then (
      some ((-1), h1)
    ) else (
      if x3 < 0 then (
        some ((-1), h1)
      ) else (
        if x3 ≤ 20 then (
          (hGetA h1 x0 12 27).bind fun v6 =>
          (hLdL h1 v6 x2).bind fun v7 =>
          (hGetA h1 x0 12 28).bind fun v8 =>
          (hLdI h1 v8 .boolean x2).bind fun v9 =>
          (hGetA h1 x0 12 28).bind fun v10 =>
          (hStZ h1 v10 x2 1).bind fun h11 =>
          M_Mo_allowed_56 F F h11 x0 x1 x2 v7 v9 (-1) x3
        ) else (
          some ((-1), h1)
        )
      )
    )
  )
def B_Mo_write_96 (F : Nat) (r49 : hH → Nat → Int32 → Int32 → Int32 → Option (Int32 × hH)) (r96 : hH → Nat → Int32 → Int32 → Int32 → Int32 → Option (Int32 × hH)) (h : hH) (x0 : Nat) (x2 : Int32) (x3 : Int32) (x4 : Int32) (x5 : Int32) : Option (Int32 × hH) :=
  (hGetA h x0 12 7).bind fun v1 =>
  (hLdI h v1 .int ((400 * x3) + x4)).bind fun v2 =>
  if v2 ≤ x5 then (
    r49 h x0 x2 x3 (x4 + 1)
  ) else (
    (hGetA h x0 12 36).bind fun v4 =>
    (hGetI h x0 12 37).bind fun v5 =>
    (hGetA h x0 12 5).bind fun v6 =>
    (hGetA h x0 12 6).bind fun v7 =>
    (hLdI h v7 .int ((400 * x3) + x4)).bind fun v8 =>
    (hLdI h v6 .byte (((800 * x3) + v8) + x5)).bind fun v9 =>
    (hStB h v4 v5 v9).bind fun h10 =>
    (hGetI h10 x0 12 37).bind fun v11 =>
    (hPut h10 x0 12 37 (.int (v11 + 1))).bind fun h12 =>
    r96 h12 x0 x2 x3 x4 (x5 + 1)
  )
def M_Mo_write_96 (F : Nat) (r49 : hH → Nat → Int32 → Int32 → Int32 → Option (Int32 × hH)) : Nat → hH → Nat → Int32 → Int32 → Int32 → Int32 → Option (Int32 × hH)
  | 0 => fun _ _ _ _ _ _ => none
  | z + 1 => B_Mo_write_96 F r49 (M_Mo_write_96 F r49 z)
def M_Mo_write_93 (F : Nat) (r49 : hH → Nat → Int32 → Int32 → Int32 → Option (Int32 × hH)) (h : hH) (x0 : Nat) (x2 : Int32) (x3 : Int32) (x4 : Int32) : Option (Int32 × hH) :=
  M_Mo_write_96 F r49 F h x0 x2 x3 x4 0
def B_Mo_write_49 (F : Nat) (r49 : hH → Nat → Int32 → Int32 → Int32 → Option (Int32 × hH)) (h : hH) (x0 : Nat) (x2 : Int32) (x3 : Int32) (x4 : Int32) : Option (Int32 × hH) :=
  (hGetA h x0 12 18).bind fun v1 =>
  (hLdI h v1 .int ((12 * x3) + x2)).bind fun v2 =>
  if v2 < x4 then (
    (hGetI h x0 12 37).bind fun v4 =>
    some (v4, h)
  ) else (
    (hGetI h x0 12 37).bind fun v5 =>
    if v5 ≤ 0 then (
      M_Mo_write_93 F r49 h x0 x2 x3 x4
    ) else (
      (hGetA h x0 12 36).bind fun v7 =>
      (hGetI h x0 12 37).bind fun v8 =>
      (hStB h v7 v8 32).bind fun h9 =>
      (hGetI h9 x0 12 37).bind fun v10 =>
      (hPut h9 x0 12 37 (.int (v10 + 1))).bind fun h11 =>
      M_Mo_write_93 F r49 h11 x0 x2 x3 x4
    )
  )
def M_Mo_write_49 (F : Nat) : Nat → hH → Nat → Int32 → Int32 → Int32 → Option (Int32 × hH)
  | 0 => fun _ _ _ _ _ => none
  | z + 1 => B_Mo_write_49 F (M_Mo_write_49 F z)
def M_Mo_write (F : Nat) (h : hH) (x0 : Nat) (x1 : Int32) (x2 : Int32) : Option (Int32 × hH) :=
  (hPut h x0 12 0 (.int 0)).bind fun h1 =>
  (hIs h1 x0 12).bind fun u2 =>
  (M_Mo_editionOf F h1 x0 x1).bind fun q3 =>
  if q3.1 < 0 then (
    some ((-1), q3.2)
  ) else (
    if x2 < 0 then (
      some ((-1), q3.2)
    ) else (
      (hGetA q3.2 x0 12 13).bind fun v6 =>
      (hLdI q3.2 v6 .int q3.1).bind fun v7 =>
      if x2 < v7 then (
        (hPut q3.2 x0 12 37 (.int 0)).bind fun h9 =>
        (hGetA h9 x0 12 17).bind fun v10 =>
        (hLdI h9 v10 .int ((12 * q3.1) + x2)).bind fun v11 =>
        M_Mo_write_49 F F h9 x0 x2 q3.1 v11
      ) else (
        some ((-1), q3.2)
      )
    )
  )
def M_Mo_written (F : Nat) (h : hH) (x0 : Nat) (x1 : Int32) : Option (Int32 × hH) :=
  (hPut h x0 12 0 (.int 0)).bind fun h1 =>
  if x1 < 0 then (
    some ((-1), h1)
  ) else (
    (hGetI h1 x0 12 37).bind fun v3 =>
    if v3 ≤ x1 then (
      some ((-1), h1)
    ) else (
      (hGetA h1 x0 12 36).bind fun v5 =>
      (hLdI h1 v5 .byte x1).bind fun v6 =>
      some ((v6 &&& 255), h1)
    )
  )
def M_Mo_haul (F : Nat) (h : hH) (x0 : Nat) (x1 : Int32) (x2 : Int32) (x3 : Int64) : Option (Int32 × hH) :=
  (hPut h x0 12 0 (.int 0)).bind fun h1 =>
  if x1 < 0 then (
    some (0, h1)
  ) else (
    if 9 < x1 then (
      some (0, h1)
    ) else (
      if x2 < 0 then (
        some (0, h1)
      ) else (
        if 7 < x2 then (
          some (0, h1)
        ) else (
          if (lg_cmp x3 1) < 0 then (
            some (0, h1)
          ) else (
            if (lg_cmp x3 1000000000) ≤ 0 then (
              (hGetA h1 x0 12 38).bind fun v8 =>
              (hLdL h1 v8 ((8 * x1) + x2)).bind fun v9 =>
              (hStL h1 v8 ((8 * x1) + x2) (v9 + x3)).bind fun h10 =>
              some (1, h10)
            ) else (
              some (0, h1)
            )
          )
        )
      )
    )
  )
def B_Mo_byCatch_102 (F : Nat) (r102 : hH → Nat → Int32 → Int32 → Int32 → Int64 → Int64 → Int64 → Option (Int64 × hH)) (h : hH) (x0 : Nat) (x1 : Int32) (x2 : Int32) (x3 : Int32) (x4 : Int64) (x6 : Int64) (x8 : Int64) : Option (Int64 × hH) :=
  if (lg_cmp x8 0) ≤ 0 then (
    if x3 = 0 then (
      (hGetA h x0 12 38).bind fun v4 =>
      (hLdL h v4 ((8 * x1) + x2)).bind fun v5 =>
      if x6 = 0 then none else
      some ((v5 / x6), h)
    ) else (
      if x6 = 0 then none else
      some ((x4 / x6), h)
    )
  ) else (
    if x8 = 0 then none else
    r102 h x0 x1 x2 x3 x4 x8 (x6 - x6 / x8 * x8)
  )
def M_Mo_byCatch_102 (F : Nat) : Nat → hH → Nat → Int32 → Int32 → Int32 → Int64 → Int64 → Int64 → Option (Int64 × hH)
  | 0 => fun _ _ _ _ _ _ _ _ => none
  | z + 1 => B_Mo_byCatch_102 F (M_Mo_byCatch_102 F z)
def B_Mo_byCatch_44 (F : Nat) (r44 : hH → Nat → Int32 → Int32 → Int32 → Int64 → Int32 → Option (Int64 × hH)) (h : hH) (x0 : Nat) (x1 : Int32) (x2 : Int32) (x3 : Int32) (x4 : Int64) (x6 : Int32) : Option (Int64 × hH) :=
  if 8 ≤ x6 then (
    if (lg_cmp x4 0) = 0 then (
      some ((-1), h)
    ) else (
      (hGetA h x0 12 38).bind fun v3 =>
      (hLdL h v3 ((8 * x1) + x2)).bind fun v4 =>
      M_Mo_byCatch_102 F F h x0 x1 x2 x3 x4 v4 x4
    )
  ) else (
    (hGetA h x0 12 38).bind fun v5 =>
    (hLdL h v5 ((8 * x1) + x6)).bind fun v6 =>
    r44 h x0 x1 x2 x3 (x4 + v6) (x6 + 1)
  )
def M_Mo_byCatch_44 (F : Nat) : Nat → hH → Nat → Int32 → Int32 → Int32 → Int64 → Int32 → Option (Int64 × hH)
  | 0 => fun _ _ _ _ _ _ _ => none
  | z + 1 => B_Mo_byCatch_44 F (M_Mo_byCatch_44 F z)
def M_Mo_byCatch (F : Nat) (h : hH) (x0 : Nat) (x1 : Int32) (x2 : Int32) (x3 : Int32) : Option (Int64 × hH) :=
  (hPut h x0 12 0 (.int 0)).bind fun h1 =>
  if x1 < 0 then (
    some ((-1), h1)
  ) else (
    if 9 < x1 then (
      some ((-1), h1)
    ) else (
      if x2 < 0 then (
        some ((-1), h1)
      ) else (
        if 7 < x2 then (
          some ((-1), h1)
        ) else (
          if x3 < 0 then (
            some ((-1), h1)
          ) else (
            if x3 ≤ 1 then (
              M_Mo_byCatch_44 F F h1 x0 x1 x2 x3 0 0
            ) else (
              some ((-1), h1)
            )
          )
        )
      )
    )
  )
abbrev rm_Mo_table : Room := { frames := 1, cells := 0, slots := 0, locals := 23 }
set_option maxHeartbeats 4000000 in
set_option maxRecDepth 100000 in
theorem w_Mo_table_86 {p : Program} {l : Launch} {e : Env} {s : State} {m : MethodId} {args : Array Value} {below : List Frame} {meth : Method} {c : Code} {D : va_G} {K : (Nat → Nat) × (Nat → Nat)} {h0 : hH} (Y : HX p s m args meth c prog_14_method_35_code 6 "LicenceTextsModel" D K "table" (some .int) h0) {F : Nat} (h : hH) (x0 : Nat) (x2 : Int32) (x3 : Int32) (x4 : Int32) (x5 : Int32) (s0 : Nat) (s1 : Int32) (q : (Int32 × hH)) (hM : M_Mo_table_86 F h x0 x2 x3 x4 x5 s0 s1 = some q) : J p l e rm_Mo_table s m args below meth c 6 D cls0 (hF h0) h [(0, .ref x0), (2, .int x2), (3, .int x3), (4, .int x4), (5, .int x5)] 0 0 (MQ below (hQ D cls0 h0 (some (.int q.1)) q.2) args s 0 0 (hF h0)) 86 [.int s1, .ref s0] := by
  obtain ⟨X, hr, hlk, hnm⟩ := id Y
  unfold M_Mo_table_86 at hM
  obtain ⟨h1, eh1, hM⟩ := hb_some hM
  refine J_put (pc := 86) X hc_Mo in_Mo t_Mo tk_Mo nk_Mo 0 k_510 (by decide) rfl rfl d_Mo_table_86 rfl rfl rfl eh1 ?_
  refine J_iload (pc := 89) X 4 d_Mo_table_89 rfl ?_
  refine J_if_eq (pc := 91) (tgt := 114) X d_Mo_table_91 (by decide) (fun c2 => ?_) (fun c2 => ?_)
  · have hM := hif_t hM c2
    refine J_iconst (pc := 114) (v := (0)) X d_Mo_table_114 (by decide) ?_
    obtain rfl := Option.some.inj hM
    exact J_iret (pc := 115) X hr hlk (Nat.le_of_ble_eq_true rfl) (Nat.le_of_ble_eq_true rfl) d_Mo_table_115
  · have hM := hif_f hM c2
    refine J_aload_n (pc := 94) X 0 d_Mo_table_94 rfl ?_
    obtain ⟨v3, ev3, hM⟩ := hb_some hM
    refine J_getA (pc := 95) X hc_Mo in_Mo 12 k_490 (by decide) rfl d_Mo_table_95 rfl ev3 ?_
    refine J_bipush (pc := 98) (v := (80)) X d_Mo_table_98 (by decide) ?_
    refine J_iload (pc := 100) X 3 d_Mo_table_100 rfl ?_
    refine J_imul (pc := 102) X d_Mo_table_102 ?_
    refine J_bipush (pc := 103) (v := (10)) X d_Mo_table_103 (by decide) ?_
    refine J_iload_n (pc := 105) X 1 d_Mo_table_105 rfl ?_
    refine J_imul (pc := 106) X d_Mo_table_106 ?_
    refine J_iadd (pc := 107) X d_Mo_table_107 ?_
    refine J_iload_n (pc := 108) X 2 d_Mo_table_108 rfl ?_
    refine J_iadd (pc := 109) X d_Mo_table_109 ?_
    obtain ⟨v4, ev4, hM⟩ := hb_some hM
    refine J_iald (pc := 110) X d_Mo_table_110 rfl ev4 ?_
    refine J_goto (pc := 111) (tgt := 115) X d_Mo_table_111 (by decide) ?_
    obtain rfl := Option.some.inj hM
    exact J_iret (pc := 115) X hr hlk (Nat.le_of_ble_eq_true rfl) (Nat.le_of_ble_eq_true rfl) d_Mo_table_115
set_option maxHeartbeats 4000000 in
set_option maxRecDepth 100000 in
theorem w_Mo_table_73 {p : Program} {l : Launch} {e : Env} {s : State} {m : MethodId} {args : Array Value} {below : List Frame} {meth : Method} {c : Code} {D : va_G} {K : (Nat → Nat) × (Nat → Nat)} {h0 : hH} (Y : HX p s m args meth c prog_14_method_35_code 6 "LicenceTextsModel" D K "table" (some .int) h0) {F : Nat} (h : hH) (x0 : Nat) (x2 : Int32) (x3 : Int32) (x4 : Int32) (s0 : Int32) (q : (Int32 × hH)) (hM : M_Mo_table_73 F h x0 x2 x3 x4 s0 = some q) : J p l e rm_Mo_table s m args below meth c 6 D cls0 (hF h0) h [(0, .ref x0), (2, .int x2), (3, .int x3), (4, .int x4)] 0 0 (MQ below (hQ D cls0 h0 (some (.int q.1)) q.2) args s 0 0 (hF h0)) 73 [.int s0] := by
  obtain ⟨X, hr, hlk, hnm⟩ := id Y
  unfold M_Mo_table_73 at hM
  refine J_istore (pc := 73) (lv' := [(5, .int s0), (0, .ref x0), (2, .int x2), (3, .int x3), (4, .int x4)]) X d_Mo_table_73 (by decide) rfl ?_
  refine J_aload_n (pc := 75) X 1 d_Mo_table_75 rfl ?_
  refine J_iload (pc := 76) X 0 d_Mo_table_76 rfl ?_
  refine J_if_eq (pc := 78) (tgt := 85) X d_Mo_table_78 (by decide) (fun c1 => ?_) (fun c1 => ?_)
  · have hM := hif_t hM c1
    refine J_iconst (pc := 85) (v := (1)) X d_Mo_table_85 (by decide) ?_
    refine J_sub [1, 2, 3, 4, 0] rfl ?_
    exact w_Mo_table_86 Y _ _ _ _ _ _ _ _ _ hM
  · have hM := hif_f hM c1
    refine J_iconst (pc := 81) (v := (0)) X d_Mo_table_81 (by decide) ?_
    refine J_goto (pc := 82) (tgt := 86) X d_Mo_table_82 (by decide) ?_
    refine J_sub [1, 2, 3, 4, 0] rfl ?_
    exact w_Mo_table_86 Y _ _ _ _ _ _ _ _ _ hM
set_option maxHeartbeats 4000000 in
set_option maxRecDepth 100000 in
theorem w_Mo_table_72 {p : Program} {l : Launch} {e : Env} {s : State} {m : MethodId} {args : Array Value} {below : List Frame} {meth : Method} {c : Code} {D : va_G} {K : (Nat → Nat) × (Nat → Nat)} {h0 : hH} (Y : HX p s m args meth c prog_14_method_35_code 6 "LicenceTextsModel" D K "table" (some .int) h0) {F : Nat} (h : hH) (x0 : Nat) (x2 : Int32) (x3 : Int32) (x4 : Int32) (q : (Int32 × hH)) (hM : M_Mo_table_72 F h x0 x2 x3 x4 = some q) : J p l e rm_Mo_table s m args below meth c 6 D cls0 (hF h0) h [(0, .ref x0), (2, .int x2), (3, .int x3), (4, .int x4)] 0 0 (MQ below (hQ D cls0 h0 (some (.int q.1)) q.2) args s 0 0 (hF h0)) 72 [] := by
  obtain ⟨X, hr, hlk, hnm⟩ := id Y
  unfold M_Mo_table_72 at hM
  refine J_iconst (pc := 72) (v := (0)) X d_Mo_table_72 (by decide) ?_
  exact w_Mo_table_73 Y _ _ _ _ _ _ _ hM
set_option maxHeartbeats 4000000 in
set_option maxRecDepth 100000 in
theorem w_Mo_table_41 {p : Program} {l : Launch} {e : Env} {s : State} {m : MethodId} {args : Array Value} {below : List Frame} {meth : Method} {c : Code} {D : va_G} {K : (Nat → Nat) × (Nat → Nat)} {h0 : hH} (Y : HX p s m args meth c prog_14_method_35_code 6 "LicenceTextsModel" D K "table" (some .int) h0) {F : Nat} (h : hH) (x0 : Nat) (x2 : Int32) (x3 : Int32) (x4 : Int32) (s0 : Int32) (q : (Int32 × hH)) (hM : M_Mo_table_41 F h x0 x2 x3 x4 s0 = some q) : J p l e rm_Mo_table s m args below meth c 6 D cls0 (hF h0) h [(0, .ref x0), (2, .int x2), (3, .int x3), (4, .int x4)] 0 0 (MQ below (hQ D cls0 h0 (some (.int q.1)) q.2) args s 0 0 (hF h0)) 41 [.int s0] := by
  obtain ⟨X, hr, hlk, hnm⟩ := id Y
  unfold M_Mo_table_41 at hM
  refine J_istore (pc := 41) (lv' := [(5, .int s0), (0, .ref x0), (2, .int x2), (3, .int x3), (4, .int x4)]) X d_Mo_table_41 (by decide) rfl ?_
  refine J_iload (pc := 43) X 0 d_Mo_table_43 rfl ?_
  refine J_if_eq (pc := 45) (tgt := 72) X d_Mo_table_45 (by decide) (fun c1 => ?_) (fun c1 => ?_)
  · have hM := hif_t hM c1
    refine J_sub [1, 2, 3, 4] rfl ?_
    exact w_Mo_table_72 Y _ _ _ _ _ _ hM
  · have hM := hif_f hM c1
    refine J_iload_n (pc := 48) X 3 d_Mo_table_48 rfl ?_
    refine J_if_lt (pc := 49) (tgt := 72) X d_Mo_table_49 (by decide) (fun c2 => ?_) (fun c2 => ?_)
    · have hM := hif_t hM c2
      refine J_sub [1, 2, 3, 4] rfl ?_
      exact w_Mo_table_72 Y _ _ _ _ _ _ hM
    · have hM := hif_f hM c2
      refine J_iload_n (pc := 52) X 3 d_Mo_table_52 rfl ?_
      refine J_aload_n (pc := 53) X 1 d_Mo_table_53 rfl ?_
      obtain ⟨v3, ev3, hM⟩ := hb_some hM
      refine J_getA (pc := 54) X hc_Mo in_Mo 11 k_489 (by decide) rfl d_Mo_table_54 rfl ev3 ?_
      refine J_bipush (pc := 57) (v := (8)) X d_Mo_table_57 (by decide) ?_
      refine J_iload (pc := 59) X 4 d_Mo_table_59 rfl ?_
      refine J_imul (pc := 61) X d_Mo_table_61 ?_
      refine J_iload_n (pc := 62) X 2 d_Mo_table_62 rfl ?_
      refine J_iadd (pc := 63) X d_Mo_table_63 ?_
      obtain ⟨v4, ev4, hM⟩ := hb_some hM
      refine J_iald (pc := 64) X d_Mo_table_64 rfl ev4 ?_
      refine J_icmp_ge (pc := 65) (tgt := 72) X d_Mo_table_65 (by decide) (fun c5 => ?_) (fun c5 => ?_)
      · have hM := hif_t hM c5
        refine J_sub [1, 2, 3, 4] rfl ?_
        exact w_Mo_table_72 Y _ _ _ _ _ _ hM
      · have hM := hif_f hM c5
        refine J_iconst (pc := 68) (v := (1)) X d_Mo_table_68 (by decide) ?_
        refine J_goto (pc := 69) (tgt := 73) X d_Mo_table_69 (by decide) ?_
        refine J_sub [1, 2, 3, 4] rfl ?_
        exact w_Mo_table_73 Y _ _ _ _ _ _ _ hM
set_option maxHeartbeats 4000000 in
set_option maxRecDepth 100000 in
theorem w_Mo_table_40 {p : Program} {l : Launch} {e : Env} {s : State} {m : MethodId} {args : Array Value} {below : List Frame} {meth : Method} {c : Code} {D : va_G} {K : (Nat → Nat) × (Nat → Nat)} {h0 : hH} (Y : HX p s m args meth c prog_14_method_35_code 6 "LicenceTextsModel" D K "table" (some .int) h0) {F : Nat} (h : hH) (x0 : Nat) (x2 : Int32) (x3 : Int32) (x4 : Int32) (q : (Int32 × hH)) (hM : M_Mo_table_40 F h x0 x2 x3 x4 = some q) : J p l e rm_Mo_table s m args below meth c 6 D cls0 (hF h0) h [(0, .ref x0), (2, .int x2), (3, .int x3), (4, .int x4)] 0 0 (MQ below (hQ D cls0 h0 (some (.int q.1)) q.2) args s 0 0 (hF h0)) 40 [] := by
  obtain ⟨X, hr, hlk, hnm⟩ := id Y
  unfold M_Mo_table_40 at hM
  refine J_iconst (pc := 40) (v := (0)) X d_Mo_table_40 (by decide) ?_
  exact w_Mo_table_41 Y _ _ _ _ _ _ _ hM
set_option maxHeartbeats 4000000 in
set_option maxRecDepth 100000 in
theorem w_Mo_table_32 {p : Program} {l : Launch} {e : Env} {s : State} {m : MethodId} {args : Array Value} {below : List Frame} {meth : Method} {c : Code} {D : va_G} {K : (Nat → Nat) × (Nat → Nat)} {h0 : hH} (Y : HX p s m args meth c prog_14_method_35_code 6 "LicenceTextsModel" D K "table" (some .int) h0) {F : Nat} (h : hH) (x0 : Nat) (x2 : Int32) (x3 : Int32) (x4 : Int32) (s0 : Int32) (s1 : Nat) (s2 : Int32) (q : (Int32 × hH)) (hM : M_Mo_table_32 F h x0 x2 x3 x4 s0 s1 s2 = some q) : J p l e rm_Mo_table s m args below meth c 6 D cls0 (hF h0) h [(0, .ref x0), (2, .int x2), (3, .int x3), (4, .int x4)] 0 0 (MQ below (hQ D cls0 h0 (some (.int q.1)) q.2) args s 0 0 (hF h0)) 32 [.int s2, .ref s1, .int s0] := by
  obtain ⟨X, hr, hlk, hnm⟩ := id Y
  unfold M_Mo_table_32 at hM
  obtain ⟨v1, ev1, hM⟩ := hb_some hM
  refine J_iald (pc := 32) X d_Mo_table_32 rfl ev1 ?_
  refine J_icmp_ge (pc := 33) (tgt := 40) X d_Mo_table_33 (by decide) (fun c2 => ?_) (fun c2 => ?_)
  · have hM := hif_t hM c2
    exact w_Mo_table_40 Y _ _ _ _ _ _ hM
  · have hM := hif_f hM c2
    refine J_iconst (pc := 36) (v := (1)) X d_Mo_table_36 (by decide) ?_
    refine J_goto (pc := 37) (tgt := 41) X d_Mo_table_37 (by decide) ?_
    exact w_Mo_table_41 Y _ _ _ _ _ _ _ hM
set_option maxHeartbeats 4000000 in
set_option maxRecDepth 100000 in
theorem c_Mo_table (l : Launch) (D : va_G) (K : (Nat → Nat) × (Nat → Nat)) (F : Nat) {h : hH} {x0 : Nat} {x1 : Int32} {x2 : Int32} {x3 : Int32} {q : (Int32 × hH)} (hM : M_Mo_table F h x0 x1 x2 x3 = some q) : Met l y_Mo_table (.code y_Mo_table prog_14_method_35_code 6 (some .int) :: T0) rm_Mo_table (hPc hG D cls0 K [.ref x0, .int x1, .int x2, .int x3] h) (hQ D cls0 h (some (.int q.1)) q.2) 0 0 (hF h) := by
  refine J_met (lv := [(0, .ref x0), (1, .int x1), (2, .int x2), (3, .int x3)]) (by decide) (Nat.le_of_ble_eq_true rfl) rfl ?_
  intro p e s m below meth c X hr hlk hnm
  have Y : HX p s m _ meth c prog_14_method_35_code 6 "LicenceTextsModel" D K "table" (some .int) h := ⟨X, hr, hlk, hnm⟩
  unfold M_Mo_table at hM
  refine J_aload_n (pc := 0) X 0 d_Mo_table_0 rfl ?_
  refine J_iload_n (pc := 1) X 1 d_Mo_table_1 rfl ?_
  obtain ⟨u1, eu1, hM⟩ := hb_some hM
  obtain ⟨q2, eq2, hM⟩ := hb_some hM
  refine J_callV (pc := 2) (As := [.int x1]) (rest := []) (o := (some (.int q2.1))) (h2 := q2.2) X rfl hc_Mo eu1 (c_Mo_editionOf l D K F eq2) (cwV_of (nA := 1) X.fix k_589 k_591 k_592 k_515 k_590 ⟨rfl, rfl, rfl⟩ (by decide +kernel) ⟨Nat.le_of_ble_eq_true rfl, Nat.le_of_ble_eq_true rfl⟩) d_Mo_table_2 rfl rfl (Nat.le_of_ble_eq_true rfl) (Nat.le_of_ble_eq_true rfl) (Nat.le_of_ble_eq_true rfl) ?_
  refine J_istore (pc := 5) (lv' := [(4, .int q2.1), (0, .ref x0), (1, .int x1), (2, .int x2), (3, .int x3)]) X d_Mo_table_5 (by decide) rfl ?_
  refine J_iload (pc := 7) X 0 d_Mo_table_7 rfl ?_
  refine J_if_lt (pc := 9) (tgt := 40) X d_Mo_table_9 (by decide) (fun c3 => ?_) (fun c3 => ?_)
  · have hM := hif_t hM c3
    refine J_sub [1, 3, 4, 0] rfl ?_
    exact w_Mo_table_40 Y _ _ _ _ _ _ hM
  · have hM := hif_f hM c3
    refine J_iload_n (pc := 12) X 3 d_Mo_table_12 rfl ?_
    refine J_if_lt (pc := 13) (tgt := 40) X d_Mo_table_13 (by decide) (fun c4 => ?_) (fun c4 => ?_)
    · have hM := hif_t hM c4
      refine J_sub [1, 3, 4, 0] rfl ?_
      exact w_Mo_table_40 Y _ _ _ _ _ _ hM
    · have hM := hif_f hM c4
      refine J_iload_n (pc := 16) X 3 d_Mo_table_16 rfl ?_
      refine J_aload_n (pc := 17) X 1 d_Mo_table_17 rfl ?_
      obtain ⟨v5, ev5, hM⟩ := hb_some hM
      refine J_getA (pc := 18) X hc_Mo in_Mo 10 k_488 (by decide) rfl d_Mo_table_18 rfl ev5 ?_
      refine J_iload (pc := 21) X 0 d_Mo_table_21 rfl ?_
      refine J_if_ge (pc := 23) (tgt := 30) X d_Mo_table_23 (by decide) (fun c6 => ?_) (fun c6 => ?_)
      · have hM := hif_t hM c6
        refine J_iload (pc := 30) X 0 d_Mo_table_30 rfl ?_
        refine J_sub [1, 3, 4, 0] rfl ?_
        exact w_Mo_table_32 Y _ _ _ _ _ _ _ _ _ hM
      · have hM := hif_f hM c6
        refine J_iconst (pc := 26) (v := (0)) X d_Mo_table_26 (by decide) ?_
        refine J_goto (pc := 27) (tgt := 32) X d_Mo_table_27 (by decide) ?_
        refine J_sub [1, 3, 4, 0] rfl ?_
        exact w_Mo_table_32 Y _ _ _ _ _ _ _ _ _ hM
abbrev rm_Mo_allowed : Room := { frames := 3, cells := 0, slots := 0, locals := 80 }
set_option maxHeartbeats 4000000 in
set_option maxRecDepth 100000 in
theorem w_Mo_allowed_103 {p : Program} {l : Launch} {e : Env} {s : State} {m : MethodId} {args : Array Value} {below : List Frame} {meth : Method} {c : Code} {D : va_G} {K : (Nat → Nat) × (Nat → Nat)} {h0 : hH} (Y : HX p s m args meth c prog_14_method_36_code 9 "LicenceTextsModel" D K "allowed" (some .int) h0) {F : Nat} (h : hH) (x0 : Nat) (x2 : Int32) (x4 : Int64) (x6 : Int32) (x7 : Int32) (q : (Int32 × hH)) (hM : M_Mo_allowed_103 F h x0 x2 x4 x6 x7 = some q) : J p l e rm_Mo_allowed s m args below meth c 9 D cls0 (hF h0) h [(0, .ref x0), (2, .int x2), (4, .long x4), (6, .int x6), (7, .int x7)] 0 0 (MQ below (hQ D cls0 h0 (some (.int q.1)) q.2) args s 0 0 (hF h0)) 103 [] := by
  obtain ⟨X, hr, hlk, hnm⟩ := id Y
  unfold M_Mo_allowed_103 at hM
  refine J_aload_n (pc := 103) X 0 d_Mo_allowed_103 rfl ?_
  obtain ⟨v1, ev1, hM⟩ := hb_some hM
  refine J_getA (pc := 104) X hc_Mo in_Mo 27 k_501 (by decide) rfl d_Mo_allowed_104 rfl ev1 ?_
  refine J_iload_n (pc := 107) X 1 d_Mo_allowed_107 rfl ?_
  refine J_lload (pc := 108) X 2 d_Mo_allowed_108 rfl ?_
  obtain ⟨h2, eh2, hM⟩ := hb_some hM
  refine J_last (pc := 110) X d_Mo_allowed_110 rfl eh2 ?_
  refine J_aload_n (pc := 111) X 0 d_Mo_allowed_111 rfl ?_
  obtain ⟨v3, ev3, hM⟩ := hb_some hM
  refine J_getA (pc := 112) X hc_Mo in_Mo 28 k_502 (by decide) rfl d_Mo_allowed_112 rfl ev3 ?_
  refine J_iload_n (pc := 115) X 1 d_Mo_allowed_115 rfl ?_
  refine J_iload (pc := 116) X 3 d_Mo_allowed_116 rfl ?_
  obtain ⟨h4, eh4, hM⟩ := hb_some hM
  refine J_zast (pc := 118) X d_Mo_allowed_118 rfl eh4 ?_
  refine J_iload (pc := 119) X 4 d_Mo_allowed_119 rfl ?_
  obtain rfl := Option.some.inj hM
  exact J_iret (pc := 121) X hr hlk (Nat.le_of_ble_eq_true rfl) (Nat.le_of_ble_eq_true rfl) d_Mo_allowed_121
set_option maxHeartbeats 4000000 in
set_option maxRecDepth 100000 in
theorem w_Mo_allowed_95 {p : Program} {l : Launch} {e : Env} {s : State} {m : MethodId} {args : Array Value} {below : List Frame} {meth : Method} {c : Code} {D : va_G} {K : (Nat → Nat) × (Nat → Nat)} {h0 : hH} (Y : HX p s m args meth c prog_14_method_36_code 9 "LicenceTextsModel" D K "allowed" (some .int) h0) {F : Nat} {r56 : hH → Nat → Int32 → Int32 → Int64 → Int32 → Int32 → Int32 → Option (Int32 × hH)} (R56 : ∀ (h : hH) (x0 : Nat) (x1 : Int32) (x2 : Int32) (x4 : Int64) (x6 : Int32) (x7 : Int32) (x8 : Int32) (q : (Int32 × hH)), r56 h x0 x1 x2 x4 x6 x7 x8 = some q → J p l e rm_Mo_allowed s m args below meth c 9 D cls0 (hF h0) h [(0, .ref x0), (1, .int x1), (2, .int x2), (4, .long x4), (6, .int x6), (7, .int x7), (8, .int x8)] 0 0 (MQ below (hQ D cls0 h0 (some (.int q.1)) q.2) args s 0 0 (hF h0)) 56 []) (h : hH) (x0 : Nat) (x1 : Int32) (x2 : Int32) (x4 : Int64) (x6 : Int32) (x8 : Int32) (s0 : Int32) (q : (Int32 × hH)) (hM : M_Mo_allowed_95 F r56 h x0 x1 x2 x4 x6 x8 s0 = some q) : J p l e rm_Mo_allowed s m args below meth c 9 D cls0 (hF h0) h [(0, .ref x0), (1, .int x1), (2, .int x2), (4, .long x4), (6, .int x6), (8, .int x8)] 0 0 (MQ below (hQ D cls0 h0 (some (.int q.1)) q.2) args s 0 0 (hF h0)) 95 [.int s0] := by
  obtain ⟨X, hr, hlk, hnm⟩ := id Y
  unfold M_Mo_allowed_95 at hM
  refine J_istore (pc := 95) (lv' := [(7, .int s0), (0, .ref x0), (1, .int x1), (2, .int x2), (4, .long x4), (6, .int x6), (8, .int x8)]) X d_Mo_allowed_95 (by decide) rfl ?_
  refine J_iinc (pc := 97) (v := x8 + (-1)) (lv' := [(8, .int (x8 + (-1))), (7, .int s0), (0, .ref x0), (1, .int x1), (2, .int x2), (4, .long x4), (6, .int x6)]) X 6 d_Mo_allowed_97 rfl rfl (by decide) rfl ?_
  refine J_goto (pc := 100) (tgt := 56) X d_Mo_allowed_100 (by decide) ?_
  refine J_sub [2, 3, 4, 5, 6, 1, 0] rfl ?_
  exact R56 _ _ _ _ _ _ _ _ _ hM
set_option maxHeartbeats 4000000 in
set_option maxRecDepth 100000 in
theorem b_Mo_allowed_56 {p : Program} {l : Launch} {e : Env} {s : State} {m : MethodId} {args : Array Value} {below : List Frame} {meth : Method} {c : Code} {D : va_G} {K : (Nat → Nat) × (Nat → Nat)} {h0 : hH} (Y : HX p s m args meth c prog_14_method_36_code 9 "LicenceTextsModel" D K "allowed" (some .int) h0) {F : Nat}   {r56 : hH → Nat → Int32 → Int32 → Int64 → Int32 → Int32 → Int32 → Option (Int32 × hH)} (R56 : ∀ (h : hH) (x0 : Nat) (x1 : Int32) (x2 : Int32) (x4 : Int64) (x6 : Int32) (x7 : Int32) (x8 : Int32) (q : (Int32 × hH)), r56 h x0 x1 x2 x4 x6 x7 x8 = some q → J p l e rm_Mo_allowed s m args below meth c 9 D cls0 (hF h0) h [(0, .ref x0), (1, .int x1), (2, .int x2), (4, .long x4), (6, .int x6), (7, .int x7), (8, .int x8)] 0 0 (MQ below (hQ D cls0 h0 (some (.int q.1)) q.2) args s 0 0 (hF h0)) 56 []) : ∀ (h : hH) (x0 : Nat) (x1 : Int32) (x2 : Int32) (x4 : Int64) (x6 : Int32) (x7 : Int32) (x8 : Int32) (q : (Int32 × hH)), B_Mo_allowed_56 F r56 h x0 x1 x2 x4 x6 x7 x8 = some q → J p l e rm_Mo_allowed s m args below meth c 9 D cls0 (hF h0) h [(0, .ref x0), (1, .int x1), (2, .int x2), (4, .long x4), (6, .int x6), (7, .int x7), (8, .int x8)] 0 0 (MQ below (hQ D cls0 h0 (some (.int q.1)) q.2) args s 0 0 (hF h0)) 56 [] := by
  intro h x0 x1 x2 x4 x6 x7 x8 q hM
  obtain ⟨X, hr, hlk, hnm⟩ := id Y
  unfold B_Mo_allowed_56 at hM
  refine J_iload (pc := 56) X 6 d_Mo_allowed_56 rfl ?_
  refine J_if_lt (pc := 58) (tgt := 103) X d_Mo_allowed_58 (by decide) (fun c1 => ?_) (fun c1 => ?_)
  · have hM := hif_t hM c1
    refine J_sub [0, 2, 3, 4, 5] rfl ?_
    exact w_Mo_allowed_103 Y _ _ _ _ _ _ _ hM
  · have hM := hif_f hM c1
    refine J_iload (pc := 61) X 5 d_Mo_allowed_61 rfl ?_
    refine J_if_ge (pc := 63) (tgt := 103) X d_Mo_allowed_63 (by decide) (fun c2 => ?_) (fun c2 => ?_)
    · have hM := hif_t hM c2
      refine J_sub [0, 2, 3, 4, 5] rfl ?_
      exact w_Mo_allowed_103 Y _ _ _ _ _ _ _ hM
    · have hM := hif_f hM c2
      refine J_aload_n (pc := 66) X 0 d_Mo_allowed_66 rfl ?_
      obtain ⟨v3, ev3, hM⟩ := hb_some hM
      refine J_getA (pc := 67) X hc_Mo in_Mo 27 k_501 (by decide) rfl d_Mo_allowed_67 rfl ev3 ?_
      refine J_iload_n (pc := 70) X 2 d_Mo_allowed_70 rfl ?_
      refine J_iload (pc := 71) X 6 d_Mo_allowed_71 rfl ?_
      refine J_i2l (pc := 73) X d_Mo_allowed_73 ?_
      obtain ⟨h4, eh4, hM⟩ := hb_some hM
      refine J_last (pc := 74) X d_Mo_allowed_74 rfl eh4 ?_
      refine J_aload_n (pc := 75) X 0 d_Mo_allowed_75 rfl ?_
      refine J_aload_n (pc := 76) X 0 d_Mo_allowed_76 rfl ?_
      refine J_iload_n (pc := 77) X 1 d_Mo_allowed_77 rfl ?_
      obtain ⟨u5, eu5, hM⟩ := hb_some hM
      obtain ⟨q6, eq6, hM⟩ := hb_some hM
      refine J_callV (pc := 78) (As := [.int x1]) (rest := [.ref x0]) (o := (some (.int q6.1))) (h2 := q6.2) X rfl hc_Mo eu5 (c_Mo_editionOf l D K F eq6) (cwV_of (nA := 1) X.fix k_589 k_591 k_592 k_515 k_590 ⟨rfl, rfl, rfl⟩ (by decide +kernel) ⟨Nat.le_of_ble_eq_true rfl, Nat.le_of_ble_eq_true rfl⟩) d_Mo_allowed_78 rfl rfl (Nat.le_of_ble_eq_true rfl) (Nat.le_of_ble_eq_true rfl) (Nat.le_of_ble_eq_true rfl) ?_
      refine J_iconst (pc := 81) (v := (0)) X d_Mo_allowed_81 (by decide) ?_
      obtain ⟨u7, eu7, hM⟩ := hb_some hM
      obtain ⟨q8, eq8, hM⟩ := hb_some hM
      refine J_callV (pc := 82) (As := [.int q6.1, .int 0]) (rest := []) (o := (some (.int q8.1))) (h2 := q8.2) X rfl hc_Mo eu7 (c_Mo_answer l D K F eq8) (cwV_of (nA := 2) X.fix k_593 k_595 k_596 k_515 k_594 ⟨rfl, rfl, rfl⟩ (by decide +kernel) ⟨Nat.le_of_ble_eq_true rfl, Nat.le_of_ble_eq_true rfl⟩) d_Mo_allowed_82 rfl rfl (Nat.le_of_ble_eq_true rfl) (Nat.le_of_ble_eq_true rfl) (Nat.le_of_ble_eq_true rfl) ?_
      refine J_if_ne (pc := 85) (tgt := 93) X d_Mo_allowed_85 (by decide) (fun c9 => ?_) (fun c9 => ?_)
      · have hM := hif_f hM c9
        refine J_iload (pc := 93) X 5 d_Mo_allowed_93 rfl ?_
        refine J_sub [0, 1, 2, 3, 4, 6] rfl ?_
        exact w_Mo_allowed_95 Y R56 _ _ _ _ _ _ _ _ _ hM
      · have hM := hif_t hM c9
        refine J_iload (pc := 88) X 6 d_Mo_allowed_88 rfl ?_
        refine J_goto (pc := 90) (tgt := 95) X d_Mo_allowed_90 (by decide) ?_
        refine J_sub [0, 1, 2, 3, 4, 6] rfl ?_
        exact w_Mo_allowed_95 Y R56 _ _ _ _ _ _ _ _ _ hM
theorem w_Mo_allowed_56 {p : Program} {l : Launch} {e : Env} {s : State} {m : MethodId} {args : Array Value} {below : List Frame} {meth : Method} {c : Code} {D : va_G} {K : (Nat → Nat) × (Nat → Nat)} {h0 : hH} (Y : HX p s m args meth c prog_14_method_36_code 9 "LicenceTextsModel" D K "allowed" (some .int) h0) {F : Nat} : ∀ z : Nat, ∀ (h : hH) (x0 : Nat) (x1 : Int32) (x2 : Int32) (x4 : Int64) (x6 : Int32) (x7 : Int32) (x8 : Int32) (q : (Int32 × hH)), M_Mo_allowed_56 F z h x0 x1 x2 x4 x6 x7 x8 = some q → J p l e rm_Mo_allowed s m args below meth c 9 D cls0 (hF h0) h [(0, .ref x0), (1, .int x1), (2, .int x2), (4, .long x4), (6, .int x6), (7, .int x7), (8, .int x8)] 0 0 (MQ below (hQ D cls0 h0 (some (.int q.1)) q.2) args s 0 0 (hF h0)) 56 [] := by
  intro z
  induction z with
  | zero => intro h x0 x1 x2 x4 x6 x7 x8 q hM; exact absurd (show (none : Option _) = some q from hM) (fun t => by cases t)
  | succ z ih => exact b_Mo_allowed_56 Y ih
set_option maxHeartbeats 4000000 in
set_option maxRecDepth 100000 in
theorem c_Mo_allowed (l : Launch) (D : va_G) (K : (Nat → Nat) × (Nat → Nat)) (F : Nat) {h : hH} {x0 : Nat} {x1 : Int32} {x2 : Int32} {x3 : Int32} {q : (Int32 × hH)} (hM : M_Mo_allowed F h x0 x1 x2 x3 = some q) : Met l y_Mo_allowed (.code y_Mo_allowed prog_14_method_36_code 9 (some .int) :: T0) rm_Mo_allowed (hPc hG D cls0 K [.ref x0, .int x1, .int x2, .int x3] h) (hQ D cls0 h (some (.int q.1)) q.2) 0 0 (hF h) := by
  refine J_met (lv := [(0, .ref x0), (1, .int x1), (2, .int x2), (3, .int x3)]) (by decide) (Nat.le_of_ble_eq_true rfl) rfl ?_
  intro p e s m below meth c X hr hlk hnm
  have Y : HX p s m _ meth c prog_14_method_36_code 9 "LicenceTextsModel" D K "allowed" (some .int) h := ⟨X, hr, hlk, hnm⟩
  unfold M_Mo_allowed at hM
  refine J_aload_n (pc := 0) X 0 d_Mo_allowed_0 rfl ?_
  refine J_iconst (pc := 1) (v := (0)) X d_Mo_allowed_1 (by decide) ?_
  obtain ⟨h1, eh1, hM⟩ := hb_some hM
  refine J_put (pc := 2) X hc_Mo in_Mo t_Mo tk_Mo nk_Mo 0 k_510 (by decide) rfl rfl d_Mo_allowed_2 rfl rfl rfl eh1 ?_
  refine J_iload_n (pc := 5) X 2 d_Mo_allowed_5 rfl ?_
  refine J_if_lt (pc := 6) (tgt := 25) X d_Mo_allowed_6 (by decide) (fun c2 => ?_) (fun c2 => ?_)
  · have hM := hif_t hM c2
    refine J_iconst (pc := 25) (v := (-1)) X d_Mo_allowed_25 (by decide) ?_
    obtain rfl := Option.some.inj hM
    exact J_iret (pc := 26) X hr hlk (Nat.le_of_ble_eq_true rfl) (Nat.le_of_ble_eq_true rfl) d_Mo_allowed_26
  · have hM := hif_f hM c2
    refine J_iload_n (pc := 9) X 2 d_Mo_allowed_9 rfl ?_
    refine J_bipush (pc := 10) (v := (19)) X d_Mo_allowed_10 (by decide) ?_
    refine J_icmp_gt (pc := 12) (tgt := 25) X d_Mo_allowed_12 (by decide) (fun c3 => ?_) (fun c3 => ?_)
    · have hM := hif_t hM c3
      refine J_iconst (pc := 25) (v := (-1)) X d_Mo_allowed_25 (by decide) ?_
      obtain rfl := Option.some.inj hM
      exact J_iret (pc := 26) X hr hlk (Nat.le_of_ble_eq_true rfl) (Nat.le_of_ble_eq_true rfl) d_Mo_allowed_26
    · have hM := hif_f hM c3
      refine J_iload_n (pc := 15) X 3 d_Mo_allowed_15 rfl ?_
      refine J_if_lt (pc := 16) (tgt := 25) X d_Mo_allowed_16 (by decide) (fun c4 => ?_) (fun c4 => ?_)
      · have hM := hif_t hM c4
        refine J_iconst (pc := 25) (v := (-1)) X d_Mo_allowed_25 (by decide) ?_
        obtain rfl := Option.some.inj hM
        exact J_iret (pc := 26) X hr hlk (Nat.le_of_ble_eq_true rfl) (Nat.le_of_ble_eq_true rfl) d_Mo_allowed_26
      · have hM := hif_f hM c4
        refine J_iload_n (pc := 19) X 3 d_Mo_allowed_19 rfl ?_
        refine J_bipush (pc := 20) (v := (20)) X d_Mo_allowed_20 (by decide) ?_
        refine J_icmp_le (pc := 22) (tgt := 27) X d_Mo_allowed_22 (by decide) (fun c5 => ?_) (fun c5 => ?_)
        · have hM := hif_t hM c5
          refine J_aload_n (pc := 27) X 0 d_Mo_allowed_27 rfl ?_
          obtain ⟨v6, ev6, hM⟩ := hb_some hM
          refine J_getA (pc := 28) X hc_Mo in_Mo 27 k_501 (by decide) rfl d_Mo_allowed_28 rfl ev6 ?_
          refine J_iload_n (pc := 31) X 2 d_Mo_allowed_31 rfl ?_
          obtain ⟨v7, ev7, hM⟩ := hb_some hM
          refine J_lald (pc := 32) X d_Mo_allowed_32 rfl ev7 ?_
          refine J_lstore (pc := 33) (lv' := [(4, .long v7), (0, .ref x0), (1, .int x1), (2, .int x2), (3, .int x3)]) X d_Mo_allowed_33 (by decide) rfl ?_
          refine J_aload_n (pc := 35) X 1 d_Mo_allowed_35 rfl ?_
          obtain ⟨v8, ev8, hM⟩ := hb_some hM
          refine J_getA (pc := 36) X hc_Mo in_Mo 28 k_502 (by decide) rfl d_Mo_allowed_36 rfl ev8 ?_
          refine J_iload_n (pc := 39) X 3 d_Mo_allowed_39 rfl ?_
          obtain ⟨v9, ev9, hM⟩ := hb_some hM
          refine J_zald (pc := 40) X d_Mo_allowed_40 rfl ev9 ?_
          refine J_istore (pc := 41) (lv' := [(6, .int v9), (4, .long v7), (0, .ref x0), (1, .int x1), (2, .int x2), (3, .int x3)]) X d_Mo_allowed_41 (by decide) rfl ?_
          refine J_iconst (pc := 43) (v := (-1)) X d_Mo_allowed_43 (by decide) ?_
          refine J_istore (pc := 44) (lv' := [(7, .int (-1)), (6, .int v9), (4, .long v7), (0, .ref x0), (1, .int x1), (2, .int x2), (3, .int x3)]) X d_Mo_allowed_44 (by decide) rfl ?_
          refine J_aload_n (pc := 46) X 3 d_Mo_allowed_46 rfl ?_
          obtain ⟨v10, ev10, hM⟩ := hb_some hM
          refine J_getA (pc := 47) X hc_Mo in_Mo 28 k_502 (by decide) rfl d_Mo_allowed_47 rfl ev10 ?_
          refine J_iload_n (pc := 50) X 5 d_Mo_allowed_50 rfl ?_
          refine J_iconst (pc := 51) (v := (1)) X d_Mo_allowed_51 (by decide) ?_
          obtain ⟨h11, eh11, hM⟩ := hb_some hM
          refine J_zast (pc := 52) X d_Mo_allowed_52 rfl eh11 ?_
          refine J_iload_n (pc := 53) X 6 d_Mo_allowed_53 rfl ?_
          refine J_istore (pc := 54) (lv' := [(8, .int x3), (7, .int (-1)), (6, .int v9), (4, .long v7), (0, .ref x0), (1, .int x1), (2, .int x2), (3, .int x3)]) X d_Mo_allowed_54 (by decide) rfl ?_
          refine J_sub [4, 5, 6, 3, 2, 1, 0] rfl ?_
          exact w_Mo_allowed_56 Y F _ _ _ _ _ _ _ _ _ hM
        · have hM := hif_f hM c5
          refine J_iconst (pc := 25) (v := (-1)) X d_Mo_allowed_25 (by decide) ?_
          obtain rfl := Option.some.inj hM
          exact J_iret (pc := 26) X hr hlk (Nat.le_of_ble_eq_true rfl) (Nat.le_of_ble_eq_true rfl) d_Mo_allowed_26
abbrev rm_Mo_write : Room := { frames := 1, cells := 0, slots := 0, locals := 23 }
set_option maxHeartbeats 4000000 in
set_option maxRecDepth 100000 in
theorem b_Mo_write_96 {p : Program} {l : Launch} {e : Env} {s : State} {m : MethodId} {args : Array Value} {below : List Frame} {meth : Method} {c : Code} {D : va_G} {K : (Nat → Nat) × (Nat → Nat)} {h0 : hH} (Y : HX p s m args meth c prog_14_method_37_code 6 "LicenceTextsModel" D K "write" (some .int) h0) {F : Nat}  {r49 : hH → Nat → Int32 → Int32 → Int32 → Option (Int32 × hH)}  (R49 : ∀ (h : hH) (x0 : Nat) (x2 : Int32) (x3 : Int32) (x4 : Int32) (q : (Int32 × hH)), r49 h x0 x2 x3 x4 = some q → J p l e rm_Mo_write s m args below meth c 6 D cls0 (hF h0) h [(0, .ref x0), (2, .int x2), (3, .int x3), (4, .int x4)] 0 0 (MQ below (hQ D cls0 h0 (some (.int q.1)) q.2) args s 0 0 (hF h0)) 49 []) {r96 : hH → Nat → Int32 → Int32 → Int32 → Int32 → Option (Int32 × hH)} (R96 : ∀ (h : hH) (x0 : Nat) (x2 : Int32) (x3 : Int32) (x4 : Int32) (x5 : Int32) (q : (Int32 × hH)), r96 h x0 x2 x3 x4 x5 = some q → J p l e rm_Mo_write s m args below meth c 6 D cls0 (hF h0) h [(0, .ref x0), (2, .int x2), (3, .int x3), (4, .int x4), (5, .int x5)] 0 0 (MQ below (hQ D cls0 h0 (some (.int q.1)) q.2) args s 0 0 (hF h0)) 96 []) : ∀ (h : hH) (x0 : Nat) (x2 : Int32) (x3 : Int32) (x4 : Int32) (x5 : Int32) (q : (Int32 × hH)), B_Mo_write_96 F r49 r96 h x0 x2 x3 x4 x5 = some q → J p l e rm_Mo_write s m args below meth c 6 D cls0 (hF h0) h [(0, .ref x0), (2, .int x2), (3, .int x3), (4, .int x4), (5, .int x5)] 0 0 (MQ below (hQ D cls0 h0 (some (.int q.1)) q.2) args s 0 0 (hF h0)) 96 [] := by
  intro h x0 x2 x3 x4 x5 q hM
  obtain ⟨X, hr, hlk, hnm⟩ := id Y
  unfold B_Mo_write_96 at hM
  refine J_iload (pc := 96) X 4 d_Mo_write_96 rfl ?_
  refine J_aload_n (pc := 98) X 0 d_Mo_write_98 rfl ?_
  obtain ⟨v1, ev1, hM⟩ := hb_some hM
  refine J_getA (pc := 99) X hc_Mo in_Mo 7 k_485 (by decide) rfl d_Mo_write_99 rfl ev1 ?_
  refine J_sipush (pc := 102) (v := (400)) X d_Mo_write_102 (by decide) ?_
  refine J_iload_n (pc := 105) X 2 d_Mo_write_105 rfl ?_
  refine J_imul (pc := 106) X d_Mo_write_106 ?_
  refine J_iload (pc := 107) X 3 d_Mo_write_107 rfl ?_
  refine J_iadd (pc := 109) X d_Mo_write_109 ?_
  obtain ⟨v2, ev2, hM⟩ := hb_some hM
  refine J_iald (pc := 110) X d_Mo_write_110 rfl ev2 ?_
  refine J_icmp_ge (pc := 111) (tgt := 166) X d_Mo_write_111 (by decide) (fun c3 => ?_) (fun c3 => ?_)
  · have hM := hif_t hM c3
    refine J_iinc (pc := 166) (v := x4 + 1) (lv' := [(4, .int (x4 + 1)), (0, .ref x0), (2, .int x2), (3, .int x3), (5, .int x5)]) X 3 d_Mo_write_166 rfl rfl (by decide) rfl ?_
    refine J_goto (pc := 169) (tgt := 49) X d_Mo_write_169 (by decide) ?_
    refine J_sub [1, 2, 3, 0] rfl ?_
    exact R49 _ _ _ _ _ _ hM
  · have hM := hif_f hM c3
    refine J_aload_n (pc := 114) X 0 d_Mo_write_114 rfl ?_
    obtain ⟨v4, ev4, hM⟩ := hb_some hM
    refine J_getA (pc := 115) X hc_Mo in_Mo 36 k_508 (by decide) rfl d_Mo_write_115 rfl ev4 ?_
    refine J_aload_n (pc := 118) X 0 d_Mo_write_118 rfl ?_
    obtain ⟨v5, ev5, hM⟩ := hb_some hM
    refine J_getI (pc := 119) X hc_Mo in_Mo 37 k_605 (by decide) rfl d_Mo_write_119 rfl ev5 ?_
    refine J_aload_n (pc := 122) X 0 d_Mo_write_122 rfl ?_
    obtain ⟨v6, ev6, hM⟩ := hb_some hM
    refine J_getA (pc := 123) X hc_Mo in_Mo 5 k_483 (by decide) rfl d_Mo_write_123 rfl ev6 ?_
    refine J_sipush (pc := 126) (v := (800)) X d_Mo_write_126 (by decide) ?_
    refine J_iload_n (pc := 129) X 2 d_Mo_write_129 rfl ?_
    refine J_imul (pc := 130) X d_Mo_write_130 ?_
    refine J_aload_n (pc := 131) X 0 d_Mo_write_131 rfl ?_
    obtain ⟨v7, ev7, hM⟩ := hb_some hM
    refine J_getA (pc := 132) X hc_Mo in_Mo 6 k_484 (by decide) rfl d_Mo_write_132 rfl ev7 ?_
    refine J_sipush (pc := 135) (v := (400)) X d_Mo_write_135 (by decide) ?_
    refine J_iload_n (pc := 138) X 2 d_Mo_write_138 rfl ?_
    refine J_imul (pc := 139) X d_Mo_write_139 ?_
    refine J_iload (pc := 140) X 3 d_Mo_write_140 rfl ?_
    refine J_iadd (pc := 142) X d_Mo_write_142 ?_
    obtain ⟨v8, ev8, hM⟩ := hb_some hM
    refine J_iald (pc := 143) X d_Mo_write_143 rfl ev8 ?_
    refine J_iadd (pc := 144) X d_Mo_write_144 ?_
    refine J_iload (pc := 145) X 4 d_Mo_write_145 rfl ?_
    refine J_iadd (pc := 147) X d_Mo_write_147 ?_
    obtain ⟨v9, ev9, hM⟩ := hb_some hM
    refine J_bald (pc := 148) X d_Mo_write_148 rfl ev9 ?_
    obtain ⟨h10, eh10, hM⟩ := hb_some hM
    refine J_bast (pc := 149) X d_Mo_write_149 rfl eh10 ?_
    refine J_aload_n (pc := 150) X 0 d_Mo_write_150 rfl ?_
    refine J_dup (pc := 151) X d_Mo_write_151 rfl ?_
    obtain ⟨v11, ev11, hM⟩ := hb_some hM
    refine J_getI (pc := 152) X hc_Mo in_Mo 37 k_605 (by decide) rfl d_Mo_write_152 rfl ev11 ?_
    refine J_iconst (pc := 155) (v := (1)) X d_Mo_write_155 (by decide) ?_
    refine J_iadd (pc := 156) X d_Mo_write_156 ?_
    obtain ⟨h12, eh12, hM⟩ := hb_some hM
    refine J_put (pc := 157) X hc_Mo in_Mo t_Mo tk_Mo nk_Mo 37 k_605 (by decide) rfl rfl d_Mo_write_157 rfl rfl rfl eh12 ?_
    refine J_iinc (pc := 160) (v := x5 + 1) (lv' := [(5, .int (x5 + 1)), (0, .ref x0), (2, .int x2), (3, .int x3), (4, .int x4)]) X 4 d_Mo_write_160 rfl rfl (by decide) rfl ?_
    refine J_goto (pc := 163) (tgt := 96) X d_Mo_write_163 (by decide) ?_
    refine J_sub [1, 2, 3, 4, 0] rfl ?_
    exact R96 _ _ _ _ _ _ _ hM
theorem w_Mo_write_96 {p : Program} {l : Launch} {e : Env} {s : State} {m : MethodId} {args : Array Value} {below : List Frame} {meth : Method} {c : Code} {D : va_G} {K : (Nat → Nat) × (Nat → Nat)} {h0 : hH} (Y : HX p s m args meth c prog_14_method_37_code 6 "LicenceTextsModel" D K "write" (some .int) h0) {F : Nat} {r49 : hH → Nat → Int32 → Int32 → Int32 → Option (Int32 × hH)} (R49 : ∀ (h : hH) (x0 : Nat) (x2 : Int32) (x3 : Int32) (x4 : Int32) (q : (Int32 × hH)), r49 h x0 x2 x3 x4 = some q → J p l e rm_Mo_write s m args below meth c 6 D cls0 (hF h0) h [(0, .ref x0), (2, .int x2), (3, .int x3), (4, .int x4)] 0 0 (MQ below (hQ D cls0 h0 (some (.int q.1)) q.2) args s 0 0 (hF h0)) 49 []) : ∀ z : Nat, ∀ (h : hH) (x0 : Nat) (x2 : Int32) (x3 : Int32) (x4 : Int32) (x5 : Int32) (q : (Int32 × hH)), M_Mo_write_96 F r49 z h x0 x2 x3 x4 x5 = some q → J p l e rm_Mo_write s m args below meth c 6 D cls0 (hF h0) h [(0, .ref x0), (2, .int x2), (3, .int x3), (4, .int x4), (5, .int x5)] 0 0 (MQ below (hQ D cls0 h0 (some (.int q.1)) q.2) args s 0 0 (hF h0)) 96 [] := by
  intro z
  induction z with
  | zero => intro h x0 x2 x3 x4 x5 q hM; exact absurd (show (none : Option _) = some q from hM) (fun t => by cases t)
  | succ z ih => exact b_Mo_write_96 Y R49 ih
set_option maxHeartbeats 4000000 in
set_option maxRecDepth 100000 in
theorem w_Mo_write_93 {p : Program} {l : Launch} {e : Env} {s : State} {m : MethodId} {args : Array Value} {below : List Frame} {meth : Method} {c : Code} {D : va_G} {K : (Nat → Nat) × (Nat → Nat)} {h0 : hH} (Y : HX p s m args meth c prog_14_method_37_code 6 "LicenceTextsModel" D K "write" (some .int) h0) {F : Nat} {r49 : hH → Nat → Int32 → Int32 → Int32 → Option (Int32 × hH)} (R49 : ∀ (h : hH) (x0 : Nat) (x2 : Int32) (x3 : Int32) (x4 : Int32) (q : (Int32 × hH)), r49 h x0 x2 x3 x4 = some q → J p l e rm_Mo_write s m args below meth c 6 D cls0 (hF h0) h [(0, .ref x0), (2, .int x2), (3, .int x3), (4, .int x4)] 0 0 (MQ below (hQ D cls0 h0 (some (.int q.1)) q.2) args s 0 0 (hF h0)) 49 []) (h : hH) (x0 : Nat) (x2 : Int32) (x3 : Int32) (x4 : Int32) (q : (Int32 × hH)) (hM : M_Mo_write_93 F r49 h x0 x2 x3 x4 = some q) : J p l e rm_Mo_write s m args below meth c 6 D cls0 (hF h0) h [(0, .ref x0), (2, .int x2), (3, .int x3), (4, .int x4)] 0 0 (MQ below (hQ D cls0 h0 (some (.int q.1)) q.2) args s 0 0 (hF h0)) 93 [] := by
  obtain ⟨X, hr, hlk, hnm⟩ := id Y
  unfold M_Mo_write_93 at hM
  refine J_iconst (pc := 93) (v := (0)) X d_Mo_write_93 (by decide) ?_
  refine J_istore (pc := 94) (lv' := [(5, .int 0), (0, .ref x0), (2, .int x2), (3, .int x3), (4, .int x4)]) X d_Mo_write_94 (by decide) rfl ?_
  refine J_sub [1, 2, 3, 4, 0] rfl ?_
  exact w_Mo_write_96 Y R49 F _ _ _ _ _ _ _ hM
set_option maxHeartbeats 4000000 in
set_option maxRecDepth 100000 in
theorem b_Mo_write_49 {p : Program} {l : Launch} {e : Env} {s : State} {m : MethodId} {args : Array Value} {below : List Frame} {meth : Method} {c : Code} {D : va_G} {K : (Nat → Nat) × (Nat → Nat)} {h0 : hH} (Y : HX p s m args meth c prog_14_method_37_code 6 "LicenceTextsModel" D K "write" (some .int) h0) {F : Nat}   {r49 : hH → Nat → Int32 → Int32 → Int32 → Option (Int32 × hH)} (R49 : ∀ (h : hH) (x0 : Nat) (x2 : Int32) (x3 : Int32) (x4 : Int32) (q : (Int32 × hH)), r49 h x0 x2 x3 x4 = some q → J p l e rm_Mo_write s m args below meth c 6 D cls0 (hF h0) h [(0, .ref x0), (2, .int x2), (3, .int x3), (4, .int x4)] 0 0 (MQ below (hQ D cls0 h0 (some (.int q.1)) q.2) args s 0 0 (hF h0)) 49 []) : ∀ (h : hH) (x0 : Nat) (x2 : Int32) (x3 : Int32) (x4 : Int32) (q : (Int32 × hH)), B_Mo_write_49 F r49 h x0 x2 x3 x4 = some q → J p l e rm_Mo_write s m args below meth c 6 D cls0 (hF h0) h [(0, .ref x0), (2, .int x2), (3, .int x3), (4, .int x4)] 0 0 (MQ below (hQ D cls0 h0 (some (.int q.1)) q.2) args s 0 0 (hF h0)) 49 [] := by
  intro h x0 x2 x3 x4 q hM
  obtain ⟨X, hr, hlk, hnm⟩ := id Y
  unfold B_Mo_write_49 at hM
  refine J_iload (pc := 49) X 3 d_Mo_write_49 rfl ?_
  refine J_aload_n (pc := 51) X 0 d_Mo_write_51 rfl ?_
  obtain ⟨v1, ev1, hM⟩ := hb_some hM
  refine J_getA (pc := 52) X hc_Mo in_Mo 18 k_496 (by decide) rfl d_Mo_write_52 rfl ev1 ?_
  refine J_bipush (pc := 55) (v := (12)) X d_Mo_write_55 (by decide) ?_
  refine J_iload_n (pc := 57) X 2 d_Mo_write_57 rfl ?_
  refine J_imul (pc := 58) X d_Mo_write_58 ?_
  refine J_iload_n (pc := 59) X 1 d_Mo_write_59 rfl ?_
  refine J_iadd (pc := 60) X d_Mo_write_60 ?_
  obtain ⟨v2, ev2, hM⟩ := hb_some hM
  refine J_iald (pc := 61) X d_Mo_write_61 rfl ev2 ?_
  refine J_icmp_gt (pc := 62) (tgt := 172) X d_Mo_write_62 (by decide) (fun c3 => ?_) (fun c3 => ?_)
  · have hM := hif_t hM c3
    refine J_aload_n (pc := 172) X 0 d_Mo_write_172 rfl ?_
    obtain ⟨v4, ev4, hM⟩ := hb_some hM
    refine J_getI (pc := 173) X hc_Mo in_Mo 37 k_605 (by decide) rfl d_Mo_write_173 rfl ev4 ?_
    obtain rfl := Option.some.inj hM
    exact J_iret (pc := 176) X hr hlk (Nat.le_of_ble_eq_true rfl) (Nat.le_of_ble_eq_true rfl) d_Mo_write_176
  · have hM := hif_f hM c3
    refine J_aload_n (pc := 65) X 0 d_Mo_write_65 rfl ?_
    obtain ⟨v5, ev5, hM⟩ := hb_some hM
    refine J_getI (pc := 66) X hc_Mo in_Mo 37 k_605 (by decide) rfl d_Mo_write_66 rfl ev5 ?_
    refine J_if_le (pc := 69) (tgt := 93) X d_Mo_write_69 (by decide) (fun c6 => ?_) (fun c6 => ?_)
    · have hM := hif_t hM c6
      exact w_Mo_write_93 Y R49 _ _ _ _ _ _ hM
    · have hM := hif_f hM c6
      refine J_aload_n (pc := 72) X 0 d_Mo_write_72 rfl ?_
      obtain ⟨v7, ev7, hM⟩ := hb_some hM
      refine J_getA (pc := 73) X hc_Mo in_Mo 36 k_508 (by decide) rfl d_Mo_write_73 rfl ev7 ?_
      refine J_aload_n (pc := 76) X 0 d_Mo_write_76 rfl ?_
      obtain ⟨v8, ev8, hM⟩ := hb_some hM
      refine J_getI (pc := 77) X hc_Mo in_Mo 37 k_605 (by decide) rfl d_Mo_write_77 rfl ev8 ?_
      refine J_bipush (pc := 80) (v := (32)) X d_Mo_write_80 (by decide) ?_
      obtain ⟨h9, eh9, hM⟩ := hb_some hM
      refine J_bast (pc := 82) X d_Mo_write_82 rfl eh9 ?_
      refine J_aload_n (pc := 83) X 0 d_Mo_write_83 rfl ?_
      refine J_dup (pc := 84) X d_Mo_write_84 rfl ?_
      obtain ⟨v10, ev10, hM⟩ := hb_some hM
      refine J_getI (pc := 85) X hc_Mo in_Mo 37 k_605 (by decide) rfl d_Mo_write_85 rfl ev10 ?_
      refine J_iconst (pc := 88) (v := (1)) X d_Mo_write_88 (by decide) ?_
      refine J_iadd (pc := 89) X d_Mo_write_89 ?_
      obtain ⟨h11, eh11, hM⟩ := hb_some hM
      refine J_put (pc := 90) X hc_Mo in_Mo t_Mo tk_Mo nk_Mo 37 k_605 (by decide) rfl rfl d_Mo_write_90 rfl rfl rfl eh11 ?_
      exact w_Mo_write_93 Y R49 _ _ _ _ _ _ hM
theorem w_Mo_write_49 {p : Program} {l : Launch} {e : Env} {s : State} {m : MethodId} {args : Array Value} {below : List Frame} {meth : Method} {c : Code} {D : va_G} {K : (Nat → Nat) × (Nat → Nat)} {h0 : hH} (Y : HX p s m args meth c prog_14_method_37_code 6 "LicenceTextsModel" D K "write" (some .int) h0) {F : Nat} : ∀ z : Nat, ∀ (h : hH) (x0 : Nat) (x2 : Int32) (x3 : Int32) (x4 : Int32) (q : (Int32 × hH)), M_Mo_write_49 F z h x0 x2 x3 x4 = some q → J p l e rm_Mo_write s m args below meth c 6 D cls0 (hF h0) h [(0, .ref x0), (2, .int x2), (3, .int x3), (4, .int x4)] 0 0 (MQ below (hQ D cls0 h0 (some (.int q.1)) q.2) args s 0 0 (hF h0)) 49 [] := by
  intro z
  induction z with
  | zero => intro h x0 x2 x3 x4 q hM; exact absurd (show (none : Option _) = some q from hM) (fun t => by cases t)
  | succ z ih => exact b_Mo_write_49 Y ih
set_option maxHeartbeats 4000000 in
set_option maxRecDepth 100000 in
theorem c_Mo_write (l : Launch) (D : va_G) (K : (Nat → Nat) × (Nat → Nat)) (F : Nat) {h : hH} {x0 : Nat} {x1 : Int32} {x2 : Int32} {q : (Int32 × hH)} (hM : M_Mo_write F h x0 x1 x2 = some q) : Met l y_Mo_write (.code y_Mo_write prog_14_method_37_code 6 (some .int) :: T0) rm_Mo_write (hPc hG D cls0 K [.ref x0, .int x1, .int x2] h) (hQ D cls0 h (some (.int q.1)) q.2) 0 0 (hF h) := by
  refine J_met (lv := [(0, .ref x0), (1, .int x1), (2, .int x2)]) (by decide) (Nat.le_of_ble_eq_true rfl) rfl ?_
  intro p e s m below meth c X hr hlk hnm
  have Y : HX p s m _ meth c prog_14_method_37_code 6 "LicenceTextsModel" D K "write" (some .int) h := ⟨X, hr, hlk, hnm⟩
  unfold M_Mo_write at hM
  refine J_aload_n (pc := 0) X 0 d_Mo_write_0 rfl ?_
  refine J_iconst (pc := 1) (v := (0)) X d_Mo_write_1 (by decide) ?_
  obtain ⟨h1, eh1, hM⟩ := hb_some hM
  refine J_put (pc := 2) X hc_Mo in_Mo t_Mo tk_Mo nk_Mo 0 k_510 (by decide) rfl rfl d_Mo_write_2 rfl rfl rfl eh1 ?_
  refine J_aload_n (pc := 5) X 0 d_Mo_write_5 rfl ?_
  refine J_iload_n (pc := 6) X 1 d_Mo_write_6 rfl ?_
  obtain ⟨u2, eu2, hM⟩ := hb_some hM
  obtain ⟨q3, eq3, hM⟩ := hb_some hM
  refine J_callV (pc := 7) (As := [.int x1]) (rest := []) (o := (some (.int q3.1))) (h2 := q3.2) X rfl hc_Mo eu2 (c_Mo_editionOf l D K F eq3) (cwV_of (nA := 1) X.fix k_589 k_591 k_592 k_515 k_590 ⟨rfl, rfl, rfl⟩ (by decide +kernel) ⟨Nat.le_of_ble_eq_true rfl, Nat.le_of_ble_eq_true rfl⟩) d_Mo_write_7 rfl rfl (Nat.le_of_ble_eq_true rfl) (Nat.le_of_ble_eq_true rfl) (Nat.le_of_ble_eq_true rfl) ?_
  refine J_istore_n (pc := 10) (lv' := [(3, .int q3.1), (0, .ref x0), (1, .int x1), (2, .int x2)]) X d_Mo_write_10 rfl (by decide) rfl ?_
  refine J_iload_n (pc := 11) X 0 d_Mo_write_11 rfl ?_
  refine J_if_lt (pc := 12) (tgt := 29) X d_Mo_write_12 (by decide) (fun c4 => ?_) (fun c4 => ?_)
  · have hM := hif_t hM c4
    refine J_iconst (pc := 29) (v := (-1)) X d_Mo_write_29 (by decide) ?_
    obtain rfl := Option.some.inj hM
    exact J_iret (pc := 30) X hr hlk (Nat.le_of_ble_eq_true rfl) (Nat.le_of_ble_eq_true rfl) d_Mo_write_30
  · have hM := hif_f hM c4
    refine J_iload_n (pc := 15) X 3 d_Mo_write_15 rfl ?_
    refine J_if_lt (pc := 16) (tgt := 29) X d_Mo_write_16 (by decide) (fun c5 => ?_) (fun c5 => ?_)
    · have hM := hif_t hM c5
      refine J_iconst (pc := 29) (v := (-1)) X d_Mo_write_29 (by decide) ?_
      obtain rfl := Option.some.inj hM
      exact J_iret (pc := 30) X hr hlk (Nat.le_of_ble_eq_true rfl) (Nat.le_of_ble_eq_true rfl) d_Mo_write_30
    · have hM := hif_f hM c5
      refine J_iload_n (pc := 19) X 3 d_Mo_write_19 rfl ?_
      refine J_aload_n (pc := 20) X 1 d_Mo_write_20 rfl ?_
      obtain ⟨v6, ev6, hM⟩ := hb_some hM
      refine J_getA (pc := 21) X hc_Mo in_Mo 13 k_491 (by decide) rfl d_Mo_write_21 rfl ev6 ?_
      refine J_iload_n (pc := 24) X 0 d_Mo_write_24 rfl ?_
      obtain ⟨v7, ev7, hM⟩ := hb_some hM
      refine J_iald (pc := 25) X d_Mo_write_25 rfl ev7 ?_
      refine J_icmp_lt (pc := 26) (tgt := 31) X d_Mo_write_26 (by decide) (fun c8 => ?_) (fun c8 => ?_)
      · have hM := hif_t hM c8
        refine J_aload_n (pc := 31) X 1 d_Mo_write_31 rfl ?_
        refine J_iconst (pc := 32) (v := (0)) X d_Mo_write_32 (by decide) ?_
        obtain ⟨h9, eh9, hM⟩ := hb_some hM
        refine J_put (pc := 33) X hc_Mo in_Mo t_Mo tk_Mo nk_Mo 37 k_605 (by decide) rfl rfl d_Mo_write_33 rfl rfl rfl eh9 ?_
        refine J_aload_n (pc := 36) X 1 d_Mo_write_36 rfl ?_
        obtain ⟨v10, ev10, hM⟩ := hb_some hM
        refine J_getA (pc := 37) X hc_Mo in_Mo 17 k_495 (by decide) rfl d_Mo_write_37 rfl ev10 ?_
        refine J_bipush (pc := 40) (v := (12)) X d_Mo_write_40 (by decide) ?_
        refine J_iload_n (pc := 42) X 0 d_Mo_write_42 rfl ?_
        refine J_imul (pc := 43) X d_Mo_write_43 ?_
        refine J_iload_n (pc := 44) X 3 d_Mo_write_44 rfl ?_
        refine J_iadd (pc := 45) X d_Mo_write_45 ?_
        obtain ⟨v11, ev11, hM⟩ := hb_some hM
        refine J_iald (pc := 46) X d_Mo_write_46 rfl ev11 ?_
        refine J_istore (pc := 47) (lv' := [(4, .int v11), (3, .int q3.1), (0, .ref x0), (1, .int x1), (2, .int x2)]) X d_Mo_write_47 (by decide) rfl ?_
        refine J_sub [2, 4, 1, 0] rfl ?_
        exact w_Mo_write_49 Y F _ _ _ _ _ _ hM
      · have hM := hif_f hM c8
        refine J_iconst (pc := 29) (v := (-1)) X d_Mo_write_29 (by decide) ?_
        obtain rfl := Option.some.inj hM
        exact J_iret (pc := 30) X hr hlk (Nat.le_of_ble_eq_true rfl) (Nat.le_of_ble_eq_true rfl) d_Mo_write_30
abbrev rm_Mo_written : Room := { frames := 0, cells := 0, slots := 0, locals := 0 }
set_option maxHeartbeats 4000000 in
set_option maxRecDepth 100000 in
theorem c_Mo_written (l : Launch) (D : va_G) (K : (Nat → Nat) × (Nat → Nat)) (F : Nat) {h : hH} {x0 : Nat} {x1 : Int32} {q : (Int32 × hH)} (hM : M_Mo_written F h x0 x1 = some q) : Met l y_Mo_written (.code y_Mo_written prog_14_method_38_code 2 (some .int) :: T0) rm_Mo_written (hPc hG D cls0 K [.ref x0, .int x1] h) (hQ D cls0 h (some (.int q.1)) q.2) 0 0 (hF h) := by
  refine J_met (lv := [(0, .ref x0), (1, .int x1)]) (by decide) (Nat.le_of_ble_eq_true rfl) rfl ?_
  intro p e s m below meth c X hr hlk hnm
  have Y : HX p s m _ meth c prog_14_method_38_code 2 "LicenceTextsModel" D K "written" (some .int) h := ⟨X, hr, hlk, hnm⟩
  unfold M_Mo_written at hM
  refine J_aload_n (pc := 0) X 0 d_Mo_written_0 rfl ?_
  refine J_iconst (pc := 1) (v := (0)) X d_Mo_written_1 (by decide) ?_
  obtain ⟨h1, eh1, hM⟩ := hb_some hM
  refine J_put (pc := 2) X hc_Mo in_Mo t_Mo tk_Mo nk_Mo 0 k_510 (by decide) rfl rfl d_Mo_written_2 rfl rfl rfl eh1 ?_
  refine J_iload_n (pc := 5) X 1 d_Mo_written_5 rfl ?_
  refine J_if_lt (pc := 6) (tgt := 30) X d_Mo_written_6 (by decide) (fun c2 => ?_) (fun c2 => ?_)
  · have hM := hif_t hM c2
    refine J_iconst (pc := 30) (v := (-1)) X d_Mo_written_30 (by decide) ?_
    obtain rfl := Option.some.inj hM
    exact J_iret (pc := 31) X hr hlk (Nat.le_of_ble_eq_true rfl) (Nat.le_of_ble_eq_true rfl) d_Mo_written_31
  · have hM := hif_f hM c2
    refine J_iload_n (pc := 9) X 1 d_Mo_written_9 rfl ?_
    refine J_aload_n (pc := 10) X 0 d_Mo_written_10 rfl ?_
    obtain ⟨v3, ev3, hM⟩ := hb_some hM
    refine J_getI (pc := 11) X hc_Mo in_Mo 37 k_605 (by decide) rfl d_Mo_written_11 rfl ev3 ?_
    refine J_icmp_ge (pc := 14) (tgt := 30) X d_Mo_written_14 (by decide) (fun c4 => ?_) (fun c4 => ?_)
    · have hM := hif_t hM c4
      refine J_iconst (pc := 30) (v := (-1)) X d_Mo_written_30 (by decide) ?_
      obtain rfl := Option.some.inj hM
      exact J_iret (pc := 31) X hr hlk (Nat.le_of_ble_eq_true rfl) (Nat.le_of_ble_eq_true rfl) d_Mo_written_31
    · have hM := hif_f hM c4
      refine J_aload_n (pc := 17) X 0 d_Mo_written_17 rfl ?_
      obtain ⟨v5, ev5, hM⟩ := hb_some hM
      refine J_getA (pc := 18) X hc_Mo in_Mo 36 k_508 (by decide) rfl d_Mo_written_18 rfl ev5 ?_
      refine J_iload_n (pc := 21) X 1 d_Mo_written_21 rfl ?_
      obtain ⟨v6, ev6, hM⟩ := hb_some hM
      refine J_bald (pc := 22) X d_Mo_written_22 rfl ev6 ?_
      refine J_sipush (pc := 23) (v := (255)) X d_Mo_written_23 (by decide) ?_
      refine J_iand (pc := 26) X d_Mo_written_26 ?_
      refine J_goto (pc := 27) (tgt := 31) X d_Mo_written_27 (by decide) ?_
      obtain rfl := Option.some.inj hM
      exact J_iret (pc := 31) X hr hlk (Nat.le_of_ble_eq_true rfl) (Nat.le_of_ble_eq_true rfl) d_Mo_written_31
abbrev rm_Mo_haul : Room := { frames := 0, cells := 0, slots := 0, locals := 0 }
set_option maxHeartbeats 4000000 in
set_option maxRecDepth 100000 in
theorem c_Mo_haul (l : Launch) (D : va_G) (K : (Nat → Nat) × (Nat → Nat)) (F : Nat) {h : hH} {x0 : Nat} {x1 : Int32} {x2 : Int32} {x3 : Int64} {q : (Int32 × hH)} (hM : M_Mo_haul F h x0 x1 x2 x3 = some q) : Met l y_Mo_haul (.code y_Mo_haul prog_14_method_39_code 5 (some .boolean) :: T0) rm_Mo_haul (hPc hG D cls0 K [.ref x0, .int x1, .int x2, .long x3] h) (hQ D cls0 h (some (.int q.1)) q.2) 0 0 (hF h) := by
  refine J_met (lv := [(0, .ref x0), (1, .int x1), (2, .int x2), (3, .long x3)]) (by decide) (Nat.le_of_ble_eq_true rfl) rfl ?_
  intro p e s m below meth c X hr hlk hnm
  have Y : HX p s m _ meth c prog_14_method_39_code 5 "LicenceTextsModel" D K "haul" (some .boolean) h := ⟨X, hr, hlk, hnm⟩
  unfold M_Mo_haul at hM
  refine J_aload_n (pc := 0) X 0 d_Mo_haul_0 rfl ?_
  refine J_iconst (pc := 1) (v := (0)) X d_Mo_haul_1 (by decide) ?_
  obtain ⟨h1, eh1, hM⟩ := hb_some hM
  refine J_put (pc := 2) X hc_Mo in_Mo t_Mo tk_Mo nk_Mo 0 k_510 (by decide) rfl rfl d_Mo_haul_2 rfl rfl rfl eh1 ?_
  refine J_iload_n (pc := 5) X 1 d_Mo_haul_5 rfl ?_
  refine J_if_lt (pc := 6) (tgt := 39) X d_Mo_haul_6 (by decide) (fun c2 => ?_) (fun c2 => ?_)
  · have hM := hif_t hM c2
    refine J_iconst (pc := 39) (v := (0)) X d_Mo_haul_39 (by decide) ?_
    obtain rfl := Option.some.inj hM
    exact J_zret (pc := 40) X hr hz0 hlk (Nat.le_of_ble_eq_true rfl) (Nat.le_of_ble_eq_true rfl) d_Mo_haul_40
  · have hM := hif_f hM c2
    refine J_iload_n (pc := 9) X 1 d_Mo_haul_9 rfl ?_
    refine J_bipush (pc := 10) (v := (9)) X d_Mo_haul_10 (by decide) ?_
    refine J_icmp_gt (pc := 12) (tgt := 39) X d_Mo_haul_12 (by decide) (fun c3 => ?_) (fun c3 => ?_)
    · have hM := hif_t hM c3
      refine J_iconst (pc := 39) (v := (0)) X d_Mo_haul_39 (by decide) ?_
      obtain rfl := Option.some.inj hM
      exact J_zret (pc := 40) X hr hz0 hlk (Nat.le_of_ble_eq_true rfl) (Nat.le_of_ble_eq_true rfl) d_Mo_haul_40
    · have hM := hif_f hM c3
      refine J_iload_n (pc := 15) X 2 d_Mo_haul_15 rfl ?_
      refine J_if_lt (pc := 16) (tgt := 39) X d_Mo_haul_16 (by decide) (fun c4 => ?_) (fun c4 => ?_)
      · have hM := hif_t hM c4
        refine J_iconst (pc := 39) (v := (0)) X d_Mo_haul_39 (by decide) ?_
        obtain rfl := Option.some.inj hM
        exact J_zret (pc := 40) X hr hz0 hlk (Nat.le_of_ble_eq_true rfl) (Nat.le_of_ble_eq_true rfl) d_Mo_haul_40
      · have hM := hif_f hM c4
        refine J_iload_n (pc := 19) X 2 d_Mo_haul_19 rfl ?_
        refine J_bipush (pc := 20) (v := (7)) X d_Mo_haul_20 (by decide) ?_
        refine J_icmp_gt (pc := 22) (tgt := 39) X d_Mo_haul_22 (by decide) (fun c5 => ?_) (fun c5 => ?_)
        · have hM := hif_t hM c5
          refine J_iconst (pc := 39) (v := (0)) X d_Mo_haul_39 (by decide) ?_
          obtain rfl := Option.some.inj hM
          exact J_zret (pc := 40) X hr hz0 hlk (Nat.le_of_ble_eq_true rfl) (Nat.le_of_ble_eq_true rfl) d_Mo_haul_40
        · have hM := hif_f hM c5
          refine J_lload_n (pc := 25) X 3 d_Mo_haul_25 rfl ?_
          refine J_lconst (pc := 26) (v := (1)) X d_Mo_haul_26 (by decide) ?_
          refine J_lcmp (pc := 27) X d_Mo_haul_27 ?_
          refine J_if_lt (pc := 28) (tgt := 39) X d_Mo_haul_28 (by decide) (fun c6 => ?_) (fun c6 => ?_)
          · have hM := hif_t hM c6
            refine J_iconst (pc := 39) (v := (0)) X d_Mo_haul_39 (by decide) ?_
            obtain rfl := Option.some.inj hM
            exact J_zret (pc := 40) X hr hz0 hlk (Nat.le_of_ble_eq_true rfl) (Nat.le_of_ble_eq_true rfl) d_Mo_haul_40
          · have hM := hif_f hM c6
            refine J_lload_n (pc := 31) X 3 d_Mo_haul_31 rfl ?_
            refine J_ldc2 (pc := 32) X k_606 d_Mo_haul_32 ?_
            refine J_lcmp (pc := 35) X d_Mo_haul_35 ?_
            refine J_if_le (pc := 36) (tgt := 41) X d_Mo_haul_36 (by decide) (fun c7 => ?_) (fun c7 => ?_)
            · have hM := hif_t hM c7
              refine J_aload_n (pc := 41) X 0 d_Mo_haul_41 rfl ?_
              obtain ⟨v8, ev8, hM⟩ := hb_some hM
              refine J_getA (pc := 42) X hc_Mo in_Mo 38 k_509 (by decide) rfl d_Mo_haul_42 rfl ev8 ?_
              refine J_bipush (pc := 45) (v := (8)) X d_Mo_haul_45 (by decide) ?_
              refine J_iload_n (pc := 47) X 1 d_Mo_haul_47 rfl ?_
              refine J_imul (pc := 48) X d_Mo_haul_48 ?_
              refine J_iload_n (pc := 49) X 2 d_Mo_haul_49 rfl ?_
              refine J_iadd (pc := 50) X d_Mo_haul_50 ?_
              refine J_dup2 (pc := 51) X d_Mo_haul_51 rfl rfl ?_
              obtain ⟨v9, ev9, hM⟩ := hb_some hM
              refine J_lald (pc := 52) X d_Mo_haul_52 rfl ev9 ?_
              refine J_lload_n (pc := 53) X 3 d_Mo_haul_53 rfl ?_
              refine J_ladd (pc := 54) X d_Mo_haul_54 ?_
              obtain ⟨h10, eh10, hM⟩ := hb_some hM
              refine J_last (pc := 55) X d_Mo_haul_55 rfl eh10 ?_
              refine J_iconst (pc := 56) (v := (1)) X d_Mo_haul_56 (by decide) ?_
              obtain rfl := Option.some.inj hM
              exact J_zret (pc := 57) X hr hz1 hlk (Nat.le_of_ble_eq_true rfl) (Nat.le_of_ble_eq_true rfl) d_Mo_haul_57
            · have hM := hif_f hM c7
              refine J_iconst (pc := 39) (v := (0)) X d_Mo_haul_39 (by decide) ?_
              obtain rfl := Option.some.inj hM
              exact J_zret (pc := 40) X hr hz0 hlk (Nat.le_of_ble_eq_true rfl) (Nat.le_of_ble_eq_true rfl) d_Mo_haul_40
abbrev rm_Mo_byCatch : Room := { frames := 0, cells := 0, slots := 0, locals := 0 }
set_option maxHeartbeats 4000000 in
set_option maxRecDepth 100000 in
theorem b_Mo_byCatch_102 {p : Program} {l : Launch} {e : Env} {s : State} {m : MethodId} {args : Array Value} {below : List Frame} {meth : Method} {c : Code} {D : va_G} {K : (Nat → Nat) × (Nat → Nat)} {h0 : hH} (Y : HX p s m args meth c prog_14_method_40_code 12 "LicenceTextsModel" D K "byCatch" (some .long) h0) {F : Nat}   {r102 : hH → Nat → Int32 → Int32 → Int32 → Int64 → Int64 → Int64 → Option (Int64 × hH)} (R102 : ∀ (h : hH) (x0 : Nat) (x1 : Int32) (x2 : Int32) (x3 : Int32) (x4 : Int64) (x6 : Int64) (x8 : Int64) (q : (Int64 × hH)), r102 h x0 x1 x2 x3 x4 x6 x8 = some q → J p l e rm_Mo_byCatch s m args below meth c 12 D cls0 (hF h0) h [(0, .ref x0), (1, .int x1), (2, .int x2), (3, .int x3), (4, .long x4), (6, .long x6), (8, .long x8)] 0 0 (MQ below (hQ D cls0 h0 (some (.long q.1)) q.2) args s 0 0 (hF h0)) 102 []) : ∀ (h : hH) (x0 : Nat) (x1 : Int32) (x2 : Int32) (x3 : Int32) (x4 : Int64) (x6 : Int64) (x8 : Int64) (q : (Int64 × hH)), B_Mo_byCatch_102 F r102 h x0 x1 x2 x3 x4 x6 x8 = some q → J p l e rm_Mo_byCatch s m args below meth c 12 D cls0 (hF h0) h [(0, .ref x0), (1, .int x1), (2, .int x2), (3, .int x3), (4, .long x4), (6, .long x6), (8, .long x8)] 0 0 (MQ below (hQ D cls0 h0 (some (.long q.1)) q.2) args s 0 0 (hF h0)) 102 [] := by
  intro h x0 x1 x2 x3 x4 x6 x8 q hM
  obtain ⟨X, hr, hlk, hnm⟩ := id Y
  unfold B_Mo_byCatch_102 at hM
  refine J_lload (pc := 102) X 6 d_Mo_byCatch_102 rfl ?_
  refine J_lconst (pc := 104) (v := (0)) X d_Mo_byCatch_104 (by decide) ?_
  refine J_lcmp (pc := 105) X d_Mo_byCatch_105 ?_
  refine J_if_le (pc := 106) (tgt := 127) X d_Mo_byCatch_106 (by decide) (fun c1 => ?_) (fun c1 => ?_)
  · have hM := hif_t hM c1
    refine J_iload_n (pc := 127) X 3 d_Mo_byCatch_127 rfl ?_
    refine J_if_ne (pc := 128) (tgt := 148) X d_Mo_byCatch_128 (by decide) (fun c2 => ?_) (fun c2 => ?_)
    · have hM := hif_f hM c2
      refine J_lload (pc := 148) X 4 d_Mo_byCatch_148 rfl ?_
      refine J_lload (pc := 150) X 5 d_Mo_byCatch_150 rfl ?_
      obtain ⟨c3, hM⟩ := hnz hM
      refine J_ldiv (pc := 152) X d_Mo_byCatch_152 c3 ?_
      obtain rfl := Option.some.inj hM
      exact J_lret (pc := 153) X hr hlk (Nat.le_of_ble_eq_true rfl) (Nat.le_of_ble_eq_true rfl) d_Mo_byCatch_153
    · have hM := hif_t hM c2
      refine J_aload_n (pc := 131) X 0 d_Mo_byCatch_131 rfl ?_
      obtain ⟨v4, ev4, hM⟩ := hb_some hM
      refine J_getA (pc := 132) X hc_Mo in_Mo 38 k_509 (by decide) rfl d_Mo_byCatch_132 rfl ev4 ?_
      refine J_bipush (pc := 135) (v := (8)) X d_Mo_byCatch_135 (by decide) ?_
      refine J_iload_n (pc := 137) X 1 d_Mo_byCatch_137 rfl ?_
      refine J_imul (pc := 138) X d_Mo_byCatch_138 ?_
      refine J_iload_n (pc := 139) X 2 d_Mo_byCatch_139 rfl ?_
      refine J_iadd (pc := 140) X d_Mo_byCatch_140 ?_
      obtain ⟨v5, ev5, hM⟩ := hb_some hM
      refine J_lald (pc := 141) X d_Mo_byCatch_141 rfl ev5 ?_
      refine J_lload (pc := 142) X 5 d_Mo_byCatch_142 rfl ?_
      obtain ⟨c6, hM⟩ := hnz hM
      refine J_ldiv (pc := 144) X d_Mo_byCatch_144 c6 ?_
      refine J_goto (pc := 145) (tgt := 153) X d_Mo_byCatch_145 (by decide) ?_
      obtain rfl := Option.some.inj hM
      exact J_lret (pc := 153) X hr hlk (Nat.le_of_ble_eq_true rfl) (Nat.le_of_ble_eq_true rfl) d_Mo_byCatch_153
  · have hM := hif_f hM c1
    refine J_lload (pc := 109) X 5 d_Mo_byCatch_109 rfl ?_
    refine J_lload (pc := 111) X 6 d_Mo_byCatch_111 rfl ?_
    obtain ⟨c7, hM⟩ := hnz hM
    refine J_lrem (pc := 113) X d_Mo_byCatch_113 c7 ?_
    refine J_lstore (pc := 114) (lv' := [(10, .long (x6 - x6 / x8 * x8)), (0, .ref x0), (1, .int x1), (2, .int x2), (3, .int x3), (4, .long x4), (6, .long x6), (8, .long x8)]) X d_Mo_byCatch_114 (by decide) rfl ?_
    refine J_lload (pc := 116) X 7 d_Mo_byCatch_116 rfl ?_
    refine J_lstore (pc := 118) (lv' := [(6, .long x8), (10, .long (x6 - x6 / x8 * x8)), (0, .ref x0), (1, .int x1), (2, .int x2), (3, .int x3), (4, .long x4), (8, .long x8)]) X d_Mo_byCatch_118 (by decide) rfl ?_
    refine J_lload (pc := 120) X 1 d_Mo_byCatch_120 rfl ?_
    refine J_lstore (pc := 122) (lv' := [(8, .long (x6 - x6 / x8 * x8)), (6, .long x8), (10, .long (x6 - x6 / x8 * x8)), (0, .ref x0), (1, .int x1), (2, .int x2), (3, .int x3), (4, .long x4)]) X d_Mo_byCatch_122 (by decide) rfl ?_
    refine J_goto (pc := 124) (tgt := 102) X d_Mo_byCatch_124 (by decide) ?_
    refine J_sub [3, 4, 5, 6, 7, 1, 0] rfl ?_
    exact R102 _ _ _ _ _ _ _ _ _ hM
theorem w_Mo_byCatch_102 {p : Program} {l : Launch} {e : Env} {s : State} {m : MethodId} {args : Array Value} {below : List Frame} {meth : Method} {c : Code} {D : va_G} {K : (Nat → Nat) × (Nat → Nat)} {h0 : hH} (Y : HX p s m args meth c prog_14_method_40_code 12 "LicenceTextsModel" D K "byCatch" (some .long) h0) {F : Nat} : ∀ z : Nat, ∀ (h : hH) (x0 : Nat) (x1 : Int32) (x2 : Int32) (x3 : Int32) (x4 : Int64) (x6 : Int64) (x8 : Int64) (q : (Int64 × hH)), M_Mo_byCatch_102 F z h x0 x1 x2 x3 x4 x6 x8 = some q → J p l e rm_Mo_byCatch s m args below meth c 12 D cls0 (hF h0) h [(0, .ref x0), (1, .int x1), (2, .int x2), (3, .int x3), (4, .long x4), (6, .long x6), (8, .long x8)] 0 0 (MQ below (hQ D cls0 h0 (some (.long q.1)) q.2) args s 0 0 (hF h0)) 102 [] := by
  intro z
  induction z with
  | zero => intro h x0 x1 x2 x3 x4 x6 x8 q hM; exact absurd (show (none : Option _) = some q from hM) (fun t => by cases t)
  | succ z ih => exact b_Mo_byCatch_102 Y ih
set_option maxHeartbeats 4000000 in
set_option maxRecDepth 100000 in
theorem b_Mo_byCatch_44 {p : Program} {l : Launch} {e : Env} {s : State} {m : MethodId} {args : Array Value} {below : List Frame} {meth : Method} {c : Code} {D : va_G} {K : (Nat → Nat) × (Nat → Nat)} {h0 : hH} (Y : HX p s m args meth c prog_14_method_40_code 12 "LicenceTextsModel" D K "byCatch" (some .long) h0) {F : Nat}   {r44 : hH → Nat → Int32 → Int32 → Int32 → Int64 → Int32 → Option (Int64 × hH)} (R44 : ∀ (h : hH) (x0 : Nat) (x1 : Int32) (x2 : Int32) (x3 : Int32) (x4 : Int64) (x6 : Int32) (q : (Int64 × hH)), r44 h x0 x1 x2 x3 x4 x6 = some q → J p l e rm_Mo_byCatch s m args below meth c 12 D cls0 (hF h0) h [(0, .ref x0), (1, .int x1), (2, .int x2), (3, .int x3), (4, .long x4), (6, .int x6)] 0 0 (MQ below (hQ D cls0 h0 (some (.long q.1)) q.2) args s 0 0 (hF h0)) 44 []) : ∀ (h : hH) (x0 : Nat) (x1 : Int32) (x2 : Int32) (x3 : Int32) (x4 : Int64) (x6 : Int32) (q : (Int64 × hH)), B_Mo_byCatch_44 F r44 h x0 x1 x2 x3 x4 x6 = some q → J p l e rm_Mo_byCatch s m args below meth c 12 D cls0 (hF h0) h [(0, .ref x0), (1, .int x1), (2, .int x2), (3, .int x3), (4, .long x4), (6, .int x6)] 0 0 (MQ below (hQ D cls0 h0 (some (.long q.1)) q.2) args s 0 0 (hF h0)) 44 [] := by
  intro h x0 x1 x2 x3 x4 x6 q hM
  obtain ⟨X, hr, hlk, hnm⟩ := id Y
  unfold B_Mo_byCatch_44 at hM
  refine J_iload (pc := 44) X 5 d_Mo_byCatch_44 rfl ?_
  refine J_bipush (pc := 46) (v := (8)) X d_Mo_byCatch_46 (by decide) ?_
  refine J_icmp_ge (pc := 48) (tgt := 74) X d_Mo_byCatch_48 (by decide) (fun c1 => ?_) (fun c1 => ?_)
  · have hM := hif_t hM c1
    refine J_lload (pc := 74) X 4 d_Mo_byCatch_74 rfl ?_
    refine J_lconst (pc := 76) (v := (0)) X d_Mo_byCatch_76 (by decide) ?_
    refine J_lcmp (pc := 77) X d_Mo_byCatch_77 ?_
    refine J_if_ne (pc := 78) (tgt := 85) X d_Mo_byCatch_78 (by decide) (fun c2 => ?_) (fun c2 => ?_)
    · have hM := hif_f hM c2
      refine J_aload_n (pc := 85) X 0 d_Mo_byCatch_85 rfl ?_
      obtain ⟨v3, ev3, hM⟩ := hb_some hM
      refine J_getA (pc := 86) X hc_Mo in_Mo 38 k_509 (by decide) rfl d_Mo_byCatch_86 rfl ev3 ?_
      refine J_bipush (pc := 89) (v := (8)) X d_Mo_byCatch_89 (by decide) ?_
      refine J_iload_n (pc := 91) X 1 d_Mo_byCatch_91 rfl ?_
      refine J_imul (pc := 92) X d_Mo_byCatch_92 ?_
      refine J_iload_n (pc := 93) X 2 d_Mo_byCatch_93 rfl ?_
      refine J_iadd (pc := 94) X d_Mo_byCatch_94 ?_
      obtain ⟨v4, ev4, hM⟩ := hb_some hM
      refine J_lald (pc := 95) X d_Mo_byCatch_95 rfl ev4 ?_
      refine J_lstore (pc := 96) (lv' := [(6, .long v4), (0, .ref x0), (1, .int x1), (2, .int x2), (3, .int x3), (4, .long x4)]) X d_Mo_byCatch_96 (by decide) rfl ?_
      refine J_lload (pc := 98) X 5 d_Mo_byCatch_98 rfl ?_
      refine J_lstore (pc := 100) (lv' := [(8, .long x4), (6, .long v4), (0, .ref x0), (1, .int x1), (2, .int x2), (3, .int x3), (4, .long x4)]) X d_Mo_byCatch_100 (by decide) rfl ?_
      refine J_sub [2, 3, 4, 5, 6, 1, 0] rfl ?_
      exact w_Mo_byCatch_102 Y F _ _ _ _ _ _ _ _ _ hM
    · have hM := hif_t hM c2
      refine J_ldc2 (pc := 81) X k_517 d_Mo_byCatch_81 ?_
      obtain rfl := Option.some.inj hM
      exact J_lret (pc := 84) X hr hlk (Nat.le_of_ble_eq_true rfl) (Nat.le_of_ble_eq_true rfl) d_Mo_byCatch_84
  · have hM := hif_f hM c1
    refine J_lload (pc := 51) X 4 d_Mo_byCatch_51 rfl ?_
    refine J_aload_n (pc := 53) X 0 d_Mo_byCatch_53 rfl ?_
    obtain ⟨v5, ev5, hM⟩ := hb_some hM
    refine J_getA (pc := 54) X hc_Mo in_Mo 38 k_509 (by decide) rfl d_Mo_byCatch_54 rfl ev5 ?_
    refine J_bipush (pc := 57) (v := (8)) X d_Mo_byCatch_57 (by decide) ?_
    refine J_iload_n (pc := 59) X 1 d_Mo_byCatch_59 rfl ?_
    refine J_imul (pc := 60) X d_Mo_byCatch_60 ?_
    refine J_iload (pc := 61) X 5 d_Mo_byCatch_61 rfl ?_
    refine J_iadd (pc := 63) X d_Mo_byCatch_63 ?_
    obtain ⟨v6, ev6, hM⟩ := hb_some hM
    refine J_lald (pc := 64) X d_Mo_byCatch_64 rfl ev6 ?_
    refine J_ladd (pc := 65) X d_Mo_byCatch_65 ?_
    refine J_lstore (pc := 66) (lv' := [(4, .long (x4 + v6)), (0, .ref x0), (1, .int x1), (2, .int x2), (3, .int x3), (6, .int x6)]) X d_Mo_byCatch_66 (by decide) rfl ?_
    refine J_iinc (pc := 68) (v := x6 + 1) (lv' := [(6, .int (x6 + 1)), (4, .long (x4 + v6)), (0, .ref x0), (1, .int x1), (2, .int x2), (3, .int x3)]) X 5 d_Mo_byCatch_68 rfl rfl (by decide) rfl ?_
    refine J_goto (pc := 71) (tgt := 44) X d_Mo_byCatch_71 (by decide) ?_
    refine J_sub [2, 3, 4, 5, 1, 0] rfl ?_
    exact R44 _ _ _ _ _ _ _ _ hM
theorem w_Mo_byCatch_44 {p : Program} {l : Launch} {e : Env} {s : State} {m : MethodId} {args : Array Value} {below : List Frame} {meth : Method} {c : Code} {D : va_G} {K : (Nat → Nat) × (Nat → Nat)} {h0 : hH} (Y : HX p s m args meth c prog_14_method_40_code 12 "LicenceTextsModel" D K "byCatch" (some .long) h0) {F : Nat} : ∀ z : Nat, ∀ (h : hH) (x0 : Nat) (x1 : Int32) (x2 : Int32) (x3 : Int32) (x4 : Int64) (x6 : Int32) (q : (Int64 × hH)), M_Mo_byCatch_44 F z h x0 x1 x2 x3 x4 x6 = some q → J p l e rm_Mo_byCatch s m args below meth c 12 D cls0 (hF h0) h [(0, .ref x0), (1, .int x1), (2, .int x2), (3, .int x3), (4, .long x4), (6, .int x6)] 0 0 (MQ below (hQ D cls0 h0 (some (.long q.1)) q.2) args s 0 0 (hF h0)) 44 [] := by
  intro z
  induction z with
  | zero => intro h x0 x1 x2 x3 x4 x6 q hM; exact absurd (show (none : Option _) = some q from hM) (fun t => by cases t)
  | succ z ih => exact b_Mo_byCatch_44 Y ih
set_option maxHeartbeats 4000000 in
set_option maxRecDepth 100000 in
theorem c_Mo_byCatch (l : Launch) (D : va_G) (K : (Nat → Nat) × (Nat → Nat)) (F : Nat) {h : hH} {x0 : Nat} {x1 : Int32} {x2 : Int32} {x3 : Int32} {q : (Int64 × hH)} (hM : M_Mo_byCatch F h x0 x1 x2 x3 = some q) : Met l y_Mo_byCatch (.code y_Mo_byCatch prog_14_method_40_code 12 (some .long) :: T0) rm_Mo_byCatch (hPc hG D cls0 K [.ref x0, .int x1, .int x2, .int x3] h) (hQ D cls0 h (some (.long q.1)) q.2) 0 0 (hF h) := by
  refine J_met (lv := [(0, .ref x0), (1, .int x1), (2, .int x2), (3, .int x3)]) (by decide) (Nat.le_of_ble_eq_true rfl) rfl ?_
  intro p e s m below meth c X hr hlk hnm
  have Y : HX p s m _ meth c prog_14_method_40_code 12 "LicenceTextsModel" D K "byCatch" (some .long) h := ⟨X, hr, hlk, hnm⟩
  unfold M_Mo_byCatch at hM
  refine J_aload_n (pc := 0) X 0 d_Mo_byCatch_0 rfl ?_
  refine J_iconst (pc := 1) (v := (0)) X d_Mo_byCatch_1 (by decide) ?_
  obtain ⟨h1, eh1, hM⟩ := hb_some hM
  refine J_put (pc := 2) X hc_Mo in_Mo t_Mo tk_Mo nk_Mo 0 k_510 (by decide) rfl rfl d_Mo_byCatch_2 rfl rfl rfl eh1 ?_
  refine J_iload_n (pc := 5) X 1 d_Mo_byCatch_5 rfl ?_
  refine J_if_lt (pc := 6) (tgt := 34) X d_Mo_byCatch_6 (by decide) (fun c2 => ?_) (fun c2 => ?_)
  · have hM := hif_t hM c2
    refine J_ldc2 (pc := 34) X k_517 d_Mo_byCatch_34 ?_
    obtain rfl := Option.some.inj hM
    exact J_lret (pc := 37) X hr hlk (Nat.le_of_ble_eq_true rfl) (Nat.le_of_ble_eq_true rfl) d_Mo_byCatch_37
  · have hM := hif_f hM c2
    refine J_iload_n (pc := 9) X 1 d_Mo_byCatch_9 rfl ?_
    refine J_bipush (pc := 10) (v := (9)) X d_Mo_byCatch_10 (by decide) ?_
    refine J_icmp_gt (pc := 12) (tgt := 34) X d_Mo_byCatch_12 (by decide) (fun c3 => ?_) (fun c3 => ?_)
    · have hM := hif_t hM c3
      refine J_ldc2 (pc := 34) X k_517 d_Mo_byCatch_34 ?_
      obtain rfl := Option.some.inj hM
      exact J_lret (pc := 37) X hr hlk (Nat.le_of_ble_eq_true rfl) (Nat.le_of_ble_eq_true rfl) d_Mo_byCatch_37
    · have hM := hif_f hM c3
      refine J_iload_n (pc := 15) X 2 d_Mo_byCatch_15 rfl ?_
      refine J_if_lt (pc := 16) (tgt := 34) X d_Mo_byCatch_16 (by decide) (fun c4 => ?_) (fun c4 => ?_)
      · have hM := hif_t hM c4
        refine J_ldc2 (pc := 34) X k_517 d_Mo_byCatch_34 ?_
        obtain rfl := Option.some.inj hM
        exact J_lret (pc := 37) X hr hlk (Nat.le_of_ble_eq_true rfl) (Nat.le_of_ble_eq_true rfl) d_Mo_byCatch_37
      · have hM := hif_f hM c4
        refine J_iload_n (pc := 19) X 2 d_Mo_byCatch_19 rfl ?_
        refine J_bipush (pc := 20) (v := (7)) X d_Mo_byCatch_20 (by decide) ?_
        refine J_icmp_gt (pc := 22) (tgt := 34) X d_Mo_byCatch_22 (by decide) (fun c5 => ?_) (fun c5 => ?_)
        · have hM := hif_t hM c5
          refine J_ldc2 (pc := 34) X k_517 d_Mo_byCatch_34 ?_
          obtain rfl := Option.some.inj hM
          exact J_lret (pc := 37) X hr hlk (Nat.le_of_ble_eq_true rfl) (Nat.le_of_ble_eq_true rfl) d_Mo_byCatch_37
        · have hM := hif_f hM c5
          refine J_iload_n (pc := 25) X 3 d_Mo_byCatch_25 rfl ?_
          refine J_if_lt (pc := 26) (tgt := 34) X d_Mo_byCatch_26 (by decide) (fun c6 => ?_) (fun c6 => ?_)
          · have hM := hif_t hM c6
            refine J_ldc2 (pc := 34) X k_517 d_Mo_byCatch_34 ?_
            obtain rfl := Option.some.inj hM
            exact J_lret (pc := 37) X hr hlk (Nat.le_of_ble_eq_true rfl) (Nat.le_of_ble_eq_true rfl) d_Mo_byCatch_37
          · have hM := hif_f hM c6
            refine J_iload_n (pc := 29) X 3 d_Mo_byCatch_29 rfl ?_
            refine J_iconst (pc := 30) (v := (1)) X d_Mo_byCatch_30 (by decide) ?_
            refine J_icmp_le (pc := 31) (tgt := 38) X d_Mo_byCatch_31 (by decide) (fun c7 => ?_) (fun c7 => ?_)
            · have hM := hif_t hM c7
              refine J_lconst (pc := 38) (v := (0)) X d_Mo_byCatch_38 (by decide) ?_
              refine J_lstore (pc := 39) (lv' := [(4, .long 0), (0, .ref x0), (1, .int x1), (2, .int x2), (3, .int x3)]) X d_Mo_byCatch_39 (by decide) rfl ?_
              refine J_iconst (pc := 41) (v := (0)) X d_Mo_byCatch_41 (by decide) ?_
              refine J_istore (pc := 42) (lv' := [(6, .int 0), (4, .long 0), (0, .ref x0), (1, .int x1), (2, .int x2), (3, .int x3)]) X d_Mo_byCatch_42 (by decide) rfl ?_
              refine J_sub [2, 3, 4, 5, 1, 0] rfl ?_
              exact w_Mo_byCatch_44 Y F _ _ _ _ _ _ _ _ hM
            · have hM := hif_f hM c7
              refine J_ldc2 (pc := 34) X k_517 d_Mo_byCatch_34 ?_
              obtain rfl := Option.some.inj hM
              exact J_lret (pc := 37) X hr hlk (Nat.le_of_ble_eq_true rfl) (Nat.le_of_ble_eq_true rfl) d_Mo_byCatch_37
