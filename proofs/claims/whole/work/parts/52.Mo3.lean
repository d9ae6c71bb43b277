theorem d_Mo_conditions_116 : decode prog_14_method_17_code 116 = .ok (.iadd, 1) := by decide +kernel
theorem d_Mo_conditions_117 : decode prog_14_method_17_code 117 = .ok (.putfield 129, 3) := by decide +kernel
theorem d_Mo_conditions_120 : decode prog_14_method_17_code 120 = .ok (.goto (-118), 3) := by decide +kernel
theorem d_Mo_conditions_101 : decode prog_14_method_17_code 101 = .ok (.istore_n 1, 1) := by decide +kernel
theorem d_Mo_conditions_102 : decode prog_14_method_17_code 102 = .ok (.aload_n 0, 1) := by decide +kernel
theorem d_Mo_conditions_103 : decode prog_14_method_17_code 103 = .ok (.dup, 1) := by decide +kernel
theorem d_Mo_conditions_104 : decode prog_14_method_17_code 104 = .ok (.getfield 129, 3) := by decide +kernel
theorem d_Mo_conditions_107 : decode prog_14_method_17_code 107 = .ok (.iload_n 1, 1) := by decide +kernel
theorem d_Mo_conditions_108 : decode prog_14_method_17_code 108 = .ok (.ifCond .eq 7, 3) := by decide +kernel
theorem d_Mo_conditions_115 : decode prog_14_method_17_code 115 = .ok (.iconst 0, 1) := by decide +kernel
theorem d_Mo_conditions_111 : decode prog_14_method_17_code 111 = .ok (.iconst 1, 1) := by decide +kernel
theorem d_Mo_conditions_112 : decode prog_14_method_17_code 112 = .ok (.goto 4, 3) := by decide +kernel
theorem d_Mo_conditions_100 : decode prog_14_method_17_code 100 = .ok (.iconst 0, 1) := by decide +kernel
theorem d_Mo_conditions_80 : decode prog_14_method_17_code 80 = .ok (.aload_n 0, 1) := by decide +kernel
theorem d_Mo_conditions_81 : decode prog_14_method_17_code 81 = .ok (.getfield 132, 3) := by decide +kernel
theorem d_Mo_conditions_84 : decode prog_14_method_17_code 84 = .ok (.ifCond .ge 16, 3) := by decide +kernel
theorem d_Mo_conditions_87 : decode prog_14_method_17_code 87 = .ok (.aload_n 0, 1) := by decide +kernel
theorem d_Mo_conditions_88 : decode prog_14_method_17_code 88 = .ok (.invokevirtual 135, 3) := by decide +kernel
theorem d_Mo_conditions_91 : decode prog_14_method_17_code 91 = .ok (.bipush (-5), 2) := by decide +kernel
theorem d_Mo_conditions_93 : decode prog_14_method_17_code 93 = .ok (.if_icmp .ne 7, 3) := by decide +kernel
theorem d_Mo_conditions_96 : decode prog_14_method_17_code 96 = .ok (.iconst 1, 1) := by decide +kernel
theorem d_Mo_conditions_97 : decode prog_14_method_17_code 97 = .ok (.goto 4, 3) := by decide +kernel
theorem d_Mo_conditions_47 : decode prog_14_method_17_code 47 = .ok (.invokevirtual 139, 3) := by decide +kernel
theorem d_Mo_conditions_50 : decode prog_14_method_17_code 50 = .ok (.ifCond .eq 30, 3) := by decide +kernel
theorem d_Mo_conditions_53 : decode prog_14_method_17_code 53 = .ok (.aload_n 0, 1) := by decide +kernel
theorem d_Mo_conditions_54 : decode prog_14_method_17_code 54 = .ok (.dup, 1) := by decide +kernel
theorem d_Mo_conditions_55 : decode prog_14_method_17_code 55 = .ok (.getfield 129, 3) := by decide +kernel
theorem d_Mo_conditions_58 : decode prog_14_method_17_code 58 = .ok (.iconst 1, 1) := by decide +kernel
theorem d_Mo_conditions_59 : decode prog_14_method_17_code 59 = .ok (.iadd, 1) := by decide +kernel
theorem d_Mo_conditions_60 : decode prog_14_method_17_code 60 = .ok (.putfield 129, 3) := by decide +kernel
theorem d_Mo_conditions_63 : decode prog_14_method_17_code 63 = .ok (.aload_n 0, 1) := by decide +kernel
theorem d_Mo_conditions_64 : decode prog_14_method_17_code 64 = .ok (.invokevirtual 159, 3) := by decide +kernel
theorem d_Mo_conditions_67 : decode prog_14_method_17_code 67 = .ok (.aload_n 0, 1) := by decide +kernel
theorem d_Mo_conditions_68 : decode prog_14_method_17_code 68 = .ok (.getfield 132, 3) := by decide +kernel
theorem d_Mo_conditions_71 : decode prog_14_method_17_code 71 = .ok (.ifCond .ge 9, 3) := by decide +kernel
theorem d_Mo_conditions_74 : decode prog_14_method_17_code 74 = .ok (.aload_n 0, 1) := by decide +kernel
theorem d_Mo_conditions_75 : decode prog_14_method_17_code 75 = .ok (.iload_n 2, 1) := by decide +kernel
theorem d_Mo_conditions_76 : decode prog_14_method_17_code 76 = .ok (.iconst 0, 1) := by decide +kernel
theorem d_Mo_conditions_77 : decode prog_14_method_17_code 77 = .ok (.invokevirtual 149, 3) := by decide +kernel
theorem d_Mo_conditions_46 : decode prog_14_method_17_code 46 = .ok (.iconst 0, 1) := by decide +kernel
theorem d_Mo_conditions_2 : decode prog_14_method_17_code 2 = .ok (.iload_n 1, 1) := by decide +kernel
theorem d_Mo_conditions_3 : decode prog_14_method_17_code 3 = .ok (.ifCond .eq 120, 3) := by decide +kernel
theorem d_Mo_conditions_123 : decode prog_14_method_17_code 123 = .ok (.return_, 1) := by decide +kernel
theorem d_Mo_conditions_6 : decode prog_14_method_17_code 6 = .ok (.aload_n 0, 1) := by decide +kernel
theorem d_Mo_conditions_7 : decode prog_14_method_17_code 7 = .ok (.getfield 132, 3) := by decide +kernel
theorem d_Mo_conditions_10 : decode prog_14_method_17_code 10 = .ok (.ifCond .ge 113, 3) := by decide +kernel
theorem d_Mo_conditions_13 : decode prog_14_method_17_code 13 = .ok (.aload_n 0, 1) := by decide +kernel
theorem d_Mo_conditions_14 : decode prog_14_method_17_code 14 = .ok (.invokevirtual 159, 3) := by decide +kernel
theorem d_Mo_conditions_17 : decode prog_14_method_17_code 17 = .ok (.aload_n 0, 1) := by decide +kernel
theorem d_Mo_conditions_18 : decode prog_14_method_17_code 18 = .ok (.invokevirtual 135, 3) := by decide +kernel
theorem d_Mo_conditions_21 : decode prog_14_method_17_code 21 = .ok (.istore_n 2, 1) := by decide +kernel
theorem d_Mo_conditions_22 : decode prog_14_method_17_code 22 = .ok (.aload_n 0, 1) := by decide +kernel
theorem d_Mo_conditions_23 : decode prog_14_method_17_code 23 = .ok (.getfield 132, 3) := by decide +kernel
theorem d_Mo_conditions_26 : decode prog_14_method_17_code 26 = .ok (.ifCond .ge 54, 3) := by decide +kernel
theorem d_Mo_conditions_29 : decode prog_14_method_17_code 29 = .ok (.aload_n 0, 1) := by decide +kernel
theorem d_Mo_conditions_30 : decode prog_14_method_17_code 30 = .ok (.iload_n 2, 1) := by decide +kernel
theorem d_Mo_conditions_31 : decode prog_14_method_17_code 31 = .ok (.bipush (-15), 2) := by decide +kernel
theorem d_Mo_conditions_33 : decode prog_14_method_17_code 33 = .ok (.if_icmp .gt 13, 3) := by decide +kernel
theorem d_Mo_conditions_36 : decode prog_14_method_17_code 36 = .ok (.iload_n 2, 1) := by decide +kernel
theorem d_Mo_conditions_37 : decode prog_14_method_17_code 37 = .ok (.bipush (-18), 2) := by decide +kernel
theorem d_Mo_conditions_39 : decode prog_14_method_17_code 39 = .ok (.if_icmp .lt 7, 3) := by decide +kernel
theorem d_Mo_conditions_42 : decode prog_14_method_17_code 42 = .ok (.iconst 1, 1) := by decide +kernel
theorem d_Mo_conditions_43 : decode prog_14_method_17_code 43 = .ok (.goto 4, 3) := by decide +kernel
theorem d_Mo_conditions_0 : decode prog_14_method_17_code 0 = .ok (.iconst 1, 1) := by decide +kernel
theorem d_Mo_conditions_1 : decode prog_14_method_17_code 1 = .ok (.istore_n 1, 1) := by decide +kernel
theorem d_Mo_rule_135 : decode prog_14_method_18_code 135 = .ok (.aload_n 0, 1) := by decide +kernel
theorem d_Mo_rule_136 : decode prog_14_method_18_code 136 = .ok (.getfield 132, 3) := by decide +kernel
theorem d_Mo_rule_139 : decode prog_14_method_18_code 139 = .ok (.ifCond .ge 47, 3) := by decide +kernel
theorem d_Mo_rule_186 : decode prog_14_method_18_code 186 = .ok (.return_, 1) := by decide +kernel
theorem d_Mo_rule_142 : decode prog_14_method_18_code 142 = .ok (.aload_n 0, 1) := by decide +kernel
theorem d_Mo_rule_143 : decode prog_14_method_18_code 143 = .ok (.bipush (-19), 2) := by decide +kernel
theorem d_Mo_rule_145 : decode prog_14_method_18_code 145 = .ok (.invokevirtual 146, 3) := by decide +kernel
theorem d_Mo_rule_148 : decode prog_14_method_18_code 148 = .ok (.ifCond .eq 38, 3) := by decide +kernel
theorem d_Mo_rule_151 : decode prog_14_method_18_code 151 = .ok (.aload_n 0, 1) := by decide +kernel
theorem d_Mo_rule_152 : decode prog_14_method_18_code 152 = .ok (.getfield 50, 3) := by decide +kernel
theorem d_Mo_rule_155 : decode prog_14_method_18_code 155 = .ok (.iload_n 1, 1) := by decide +kernel
theorem d_Mo_rule_156 : decode prog_14_method_18_code 156 = .ok (.aload_n 0, 1) := by decide +kernel
theorem d_Mo_rule_157 : decode prog_14_method_18_code 157 = .ok (.getfield 143, 3) := by decide +kernel
theorem d_Mo_rule_160 : decode prog_14_method_18_code 160 = .ok (.iastore, 1) := by decide +kernel
theorem d_Mo_rule_161 : decode prog_14_method_18_code 161 = .ok (.aload_n 0, 1) := by decide +kernel
theorem d_Mo_rule_162 : decode prog_14_method_18_code 162 = .ok (.getfield 56, 3) := by decide +kernel
theorem d_Mo_rule_165 : decode prog_14_method_18_code 165 = .ok (.iload_n 1, 1) := by decide +kernel
theorem d_Mo_rule_166 : decode prog_14_method_18_code 166 = .ok (.aload_n 0, 1) := by decide +kernel
theorem d_Mo_rule_167 : decode prog_14_method_18_code 167 = .ok (.getfield 129, 3) := by decide +kernel
theorem d_Mo_rule_170 : decode prog_14_method_18_code 170 = .ok (.iconst 2, 1) := by decide +kernel
theorem d_Mo_rule_171 : decode prog_14_method_18_code 171 = .ok (.isub, 1) := by decide +kernel
theorem d_Mo_rule_172 : decode prog_14_method_18_code 172 = .ok (.iastore, 1) := by decide +kernel
theorem d_Mo_rule_173 : decode prog_14_method_18_code 173 = .ok (.aload_n 0, 1) := by decide +kernel
theorem d_Mo_rule_174 : decode prog_14_method_18_code 174 = .ok (.getfield 41, 3) := by decide +kernel
theorem d_Mo_rule_177 : decode prog_14_method_18_code 177 = .ok (.aload_n 0, 1) := by decide +kernel
theorem d_Mo_rule_178 : decode prog_14_method_18_code 178 = .ok (.getfield 123, 3) := by decide +kernel
theorem d_Mo_rule_181 : decode prog_14_method_18_code 181 = .ok (.dup2, 1) := by decide +kernel
theorem d_Mo_rule_182 : decode prog_14_method_18_code 182 = .ok (.iaload, 1) := by decide +kernel
theorem d_Mo_rule_183 : decode prog_14_method_18_code 183 = .ok (.iconst 1, 1) := by decide +kernel
theorem d_Mo_rule_184 : decode prog_14_method_18_code 184 = .ok (.iadd, 1) := by decide +kernel
theorem d_Mo_rule_185 : decode prog_14_method_18_code 185 = .ok (.iastore, 1) := by decide +kernel
theorem d_Mo_rule_59 : decode prog_14_method_18_code 59 = .ok (.istore_n 2, 1) := by decide +kernel
theorem d_Mo_rule_60 : decode prog_14_method_18_code 60 = .ok (.aload_n 0, 1) := by decide +kernel
theorem d_Mo_rule_61 : decode prog_14_method_18_code 61 = .ok (.getfield 44, 3) := by decide +kernel
theorem d_Mo_rule_64 : decode prog_14_method_18_code 64 = .ok (.iload_n 1, 1) := by decide +kernel
theorem d_Mo_rule_65 : decode prog_14_method_18_code 65 = .ok (.aload_n 0, 1) := by decide +kernel
theorem d_Mo_rule_66 : decode prog_14_method_18_code 66 = .ok (.getfield 143, 3) := by decide +kernel
theorem d_Mo_rule_69 : decode prog_14_method_18_code 69 = .ok (.iastore, 1) := by decide +kernel
theorem d_Mo_rule_70 : decode prog_14_method_18_code 70 = .ok (.aload_n 0, 1) := by decide +kernel
theorem d_Mo_rule_71 : decode prog_14_method_18_code 71 = .ok (.getfield 47, 3) := by decide +kernel
theorem d_Mo_rule_74 : decode prog_14_method_18_code 74 = .ok (.iload_n 1, 1) := by decide +kernel
theorem d_Mo_rule_75 : decode prog_14_method_18_code 75 = .ok (.iconst (-1), 1) := by decide +kernel
theorem d_Mo_rule_76 : decode prog_14_method_18_code 76 = .ok (.iastore, 1) := by decide +kernel
theorem d_Mo_rule_77 : decode prog_14_method_18_code 77 = .ok (.aload_n 0, 1) := by decide +kernel
theorem d_Mo_rule_78 : decode prog_14_method_18_code 78 = .ok (.getfield 53, 3) := by decide +kernel
theorem d_Mo_rule_81 : decode prog_14_method_18_code 81 = .ok (.iload_n 1, 1) := by decide +kernel
theorem d_Mo_rule_82 : decode prog_14_method_18_code 82 = .ok (.aload_n 0, 1) := by decide +kernel
theorem d_Mo_rule_83 : decode prog_14_method_18_code 83 = .ok (.getfield 129, 3) := by decide +kernel
theorem d_Mo_rule_86 : decode prog_14_method_18_code 86 = .ok (.iastore, 1) := by decide +kernel
theorem d_Mo_rule_87 : decode prog_14_method_18_code 87 = .ok (.aload_n 0, 1) := by decide +kernel
theorem d_Mo_rule_88 : decode prog_14_method_18_code 88 = .ok (.dup, 1) := by decide +kernel
theorem d_Mo_rule_89 : decode prog_14_method_18_code 89 = .ok (.getfield 129, 3) := by decide +kernel
theorem d_Mo_rule_92 : decode prog_14_method_18_code 92 = .ok (.iconst 1, 1) := by decide +kernel
theorem d_Mo_rule_93 : decode prog_14_method_18_code 93 = .ok (.iadd, 1) := by decide +kernel
theorem d_Mo_rule_94 : decode prog_14_method_18_code 94 = .ok (.putfield 129, 3) := by decide +kernel
theorem d_Mo_rule_97 : decode prog_14_method_18_code 97 = .ok (.aload_n 0, 1) := by decide +kernel
theorem d_Mo_rule_98 : decode prog_14_method_18_code 98 = .ok (.invokevirtual 162, 3) := by decide +kernel
theorem d_Mo_rule_101 : decode prog_14_method_18_code 101 = .ok (.aload_n 0, 1) := by decide +kernel
theorem d_Mo_rule_102 : decode prog_14_method_18_code 102 = .ok (.getfield 132, 3) := by decide +kernel
theorem d_Mo_rule_105 : decode prog_14_method_18_code 105 = .ok (.ifCond .ge 30, 3) := by decide +kernel
theorem d_Mo_rule_108 : decode prog_14_method_18_code 108 = .ok (.iload_n 2, 1) := by decide +kernel
theorem d_Mo_rule_109 : decode prog_14_method_18_code 109 = .ok (.ifCond .eq 26, 3) := by decide +kernel
theorem d_Mo_rule_112 : decode prog_14_method_18_code 112 = .ok (.aload_n 0, 1) := by decide +kernel
theorem d_Mo_rule_113 : decode prog_14_method_18_code 113 = .ok (.bipush (-4), 2) := by decide +kernel
theorem d_Mo_rule_115 : decode prog_14_method_18_code 115 = .ok (.invokevirtual 146, 3) := by decide +kernel
theorem d_Mo_rule_118 : decode prog_14_method_18_code 118 = .ok (.ifCond .eq 17, 3) := by decide +kernel
theorem d_Mo_rule_121 : decode prog_14_method_18_code 121 = .ok (.aload_n 0, 1) := by decide +kernel
theorem d_Mo_rule_122 : decode prog_14_method_18_code 122 = .ok (.getfield 47, 3) := by decide +kernel
theorem d_Mo_rule_125 : decode prog_14_method_18_code 125 = .ok (.iload_n 1, 1) := by decide +kernel
theorem d_Mo_rule_126 : decode prog_14_method_18_code 126 = .ok (.aload_n 0, 1) := by decide +kernel
theorem d_Mo_rule_127 : decode prog_14_method_18_code 127 = .ok (.getfield 143, 3) := by decide +kernel
theorem d_Mo_rule_130 : decode prog_14_method_18_code 130 = .ok (.iastore, 1) := by decide +kernel
theorem d_Mo_rule_131 : decode prog_14_method_18_code 131 = .ok (.aload_n 0, 1) := by decide +kernel
theorem d_Mo_rule_132 : decode prog_14_method_18_code 132 = .ok (.invokevirtual 162, 3) := by decide +kernel
theorem d_Mo_rule_38 : decode prog_14_method_18_code 38 = .ok (.invokevirtual 139, 3) := by decide +kernel
theorem d_Mo_rule_41 : decode prog_14_method_18_code 41 = .ok (.ifCond .ne 4, 3) := by decide +kernel
theorem d_Mo_rule_45 : decode prog_14_method_18_code 45 = .ok (.aload_n 0, 1) := by decide +kernel
theorem d_Mo_rule_46 : decode prog_14_method_18_code 46 = .ok (.invokevirtual 135, 3) := by decide +kernel
theorem d_Mo_rule_49 : decode prog_14_method_18_code 49 = .ok (.bipush (-3), 2) := by decide +kernel
theorem d_Mo_rule_51 : decode prog_14_method_18_code 51 = .ok (.if_icmp .ne 7, 3) := by decide +kernel
theorem d_Mo_rule_58 : decode prog_14_method_18_code 58 = .ok (.iconst 0, 1) := by decide +kernel
theorem d_Mo_rule_54 : decode prog_14_method_18_code 54 = .ok (.iconst 1, 1) := by decide +kernel
theorem d_Mo_rule_55 : decode prog_14_method_18_code 55 = .ok (.goto 4, 3) := by decide +kernel
theorem d_Mo_rule_44 : decode prog_14_method_18_code 44 = .ok (.return_, 1) := by decide +kernel
theorem d_Mo_rule_0 : decode prog_14_method_18_code 0 = .ok (.bipush 12, 2) := by decide +kernel
theorem d_Mo_rule_2 : decode prog_14_method_18_code 2 = .ok (.aload_n 0, 1) := by decide +kernel
theorem d_Mo_rule_3 : decode prog_14_method_18_code 3 = .ok (.getfield 123, 3) := by decide +kernel
theorem d_Mo_rule_6 : decode prog_14_method_18_code 6 = .ok (.imul, 1) := by decide +kernel
theorem d_Mo_rule_7 : decode prog_14_method_18_code 7 = .ok (.aload_n 0, 1) := by decide +kernel
theorem d_Mo_rule_8 : decode prog_14_method_18_code 8 = .ok (.getfield 41, 3) := by decide +kernel
theorem d_Mo_rule_11 : decode prog_14_method_18_code 11 = .ok (.aload_n 0, 1) := by decide +kernel
theorem d_Mo_rule_12 : decode prog_14_method_18_code 12 = .ok (.getfield 123, 3) := by decide +kernel
theorem d_Mo_rule_15 : decode prog_14_method_18_code 15 = .ok (.iaload, 1) := by decide +kernel
theorem d_Mo_rule_16 : decode prog_14_method_18_code 16 = .ok (.iadd, 1) := by decide +kernel
theorem d_Mo_rule_17 : decode prog_14_method_18_code 17 = .ok (.istore_n 1, 1) := by decide +kernel
theorem d_Mo_rule_18 : decode prog_14_method_18_code 18 = .ok (.aload_n 0, 1) := by decide +kernel
theorem d_Mo_rule_19 : decode prog_14_method_18_code 19 = .ok (.aload_n 0, 1) := by decide +kernel
theorem d_Mo_rule_20 : decode prog_14_method_18_code 20 = .ok (.getfield 41, 3) := by decide +kernel
theorem d_Mo_rule_23 : decode prog_14_method_18_code 23 = .ok (.aload_n 0, 1) := by decide +kernel
theorem d_Mo_rule_24 : decode prog_14_method_18_code 24 = .ok (.getfield 123, 3) := by decide +kernel
theorem d_Mo_rule_27 : decode prog_14_method_18_code 27 = .ok (.iaload, 1) := by decide +kernel
theorem d_Mo_rule_28 : decode prog_14_method_18_code 28 = .ok (.bipush 12, 2) := by decide +kernel
theorem d_Mo_rule_30 : decode prog_14_method_18_code 30 = .ok (.if_icmp .ge 7, 3) := by decide +kernel
theorem d_Mo_rule_37 : decode prog_14_method_18_code 37 = .ok (.iconst 0, 1) := by decide +kernel
theorem d_Mo_rule_33 : decode prog_14_method_18_code 33 = .ok (.iconst 1, 1) := by decide +kernel
theorem d_Mo_rule_34 : decode prog_14_method_18_code 34 = .ok (.goto 4, 3) := by decide +kernel
theorem d_Mo_read_188 : decode prog_14_method_19_code 188 = .ok (.aload_n 0, 1) := by decide +kernel
theorem d_Mo_read_189 : decode prog_14_method_19_code 189 = .ok (.getfield 132, 3) := by decide +kernel
theorem d_Mo_read_192 : decode prog_14_method_19_code 192 = .ok (.ifCond .lt 10, 3) := by decide +kernel
theorem d_Mo_read_202 : decode prog_14_method_19_code 202 = .ok (.aload_n 0, 1) := by decide +kernel
theorem d_Mo_read_203 : decode prog_14_method_19_code 203 = .ok (.getfield 13, 3) := by decide +kernel
theorem d_Mo_read_206 : decode prog_14_method_19_code 206 = .ok (.aload_n 0, 1) := by decide +kernel
theorem d_Mo_read_207 : decode prog_14_method_19_code 207 = .ok (.getfield 123, 3) := by decide +kernel
theorem d_Mo_read_210 : decode prog_14_method_19_code 210 = .ok (.iload_n 1, 1) := by decide +kernel
theorem d_Mo_read_211 : decode prog_14_method_19_code 211 = .ok (.iastore, 1) := by decide +kernel
theorem d_Mo_read_212 : decode prog_14_method_19_code 212 = .ok (.aload_n 0, 1) := by decide +kernel
theorem d_Mo_read_213 : decode prog_14_method_19_code 213 = .ok (.dup, 1) := by decide +kernel
theorem d_Mo_read_214 : decode prog_14_method_19_code 214 = .ok (.getfield 166, 3) := by decide +kernel
theorem d_Mo_read_217 : decode prog_14_method_19_code 217 = .ok (.iconst 1, 1) := by decide +kernel
theorem d_Mo_read_218 : decode prog_14_method_19_code 218 = .ok (.iadd, 1) := by decide +kernel
theorem d_Mo_read_219 : decode prog_14_method_19_code 219 = .ok (.putfield 166, 3) := by decide +kernel
theorem d_Mo_read_222 : decode prog_14_method_19_code 222 = .ok (.aload_n 0, 1) := by decide +kernel
theorem d_Mo_read_223 : decode prog_14_method_19_code 223 = .ok (.getfield 41, 3) := by decide +kernel
theorem d_Mo_read_226 : decode prog_14_method_19_code 226 = .ok (.aload_n 0, 1) := by decide +kernel
theorem d_Mo_read_227 : decode prog_14_method_19_code 227 = .ok (.getfield 123, 3) := by decide +kernel
theorem d_Mo_read_230 : decode prog_14_method_19_code 230 = .ok (.iaload, 1) := by decide +kernel
theorem d_Mo_read_231 : decode prog_14_method_19_code 231 = .ok (.ireturn, 1) := by decide +kernel
theorem d_Mo_read_195 : decode prog_14_method_19_code 195 = .ok (.iconst (-1), 1) := by decide +kernel
theorem d_Mo_read_196 : decode prog_14_method_19_code 196 = .ok (.aload_n 0, 1) := by decide +kernel
theorem d_Mo_read_197 : decode prog_14_method_19_code 197 = .ok (.getfield 132, 3) := by decide +kernel
theorem d_Mo_read_200 : decode prog_14_method_19_code 200 = .ok (.isub, 1) := by decide +kernel
theorem d_Mo_read_201 : decode prog_14_method_19_code 201 = .ok (.ireturn, 1) := by decide +kernel
theorem d_Mo_read_175 : decode prog_14_method_19_code 175 = .ok (.invokevirtual 139, 3) := by decide +kernel
theorem d_Mo_read_178 : decode prog_14_method_19_code 178 = .ok (.ifCond .eq (-65), 3) := by decide +kernel
theorem d_Mo_read_181 : decode prog_14_method_19_code 181 = .ok (.aload_n 0, 1) := by decide +kernel
theorem d_Mo_read_182 : decode prog_14_method_19_code 182 = .ok (.invokevirtual 175, 3) := by decide +kernel
theorem d_Mo_read_185 : decode prog_14_method_19_code 185 = .ok (.goto (-72), 3) := by decide +kernel
theorem d_Mo_read_170 : decode prog_14_method_19_code 170 = .ok (.iconst 1, 1) := by decide +kernel
theorem d_Mo_read_171 : decode prog_14_method_19_code 171 = .ok (.goto 4, 3) := by decide +kernel
theorem d_Mo_read_113 : decode prog_14_method_19_code 113 = .ok (.aload_n 0, 1) := by decide +kernel
theorem d_Mo_read_114 : decode prog_14_method_19_code 114 = .ok (.getfield 132, 3) := by decide +kernel
theorem d_Mo_read_117 : decode prog_14_method_19_code 117 = .ok (.ifCond .ge 71, 3) := by decide +kernel
theorem d_Mo_read_120 : decode prog_14_method_19_code 120 = .ok (.aload_n 0, 1) := by decide +kernel
theorem d_Mo_read_121 : decode prog_14_method_19_code 121 = .ok (.getfield 129, 3) := by decide +kernel
theorem d_Mo_read_124 : decode prog_14_method_19_code 124 = .ok (.aload_n 0, 1) := by decide +kernel
theorem d_Mo_read_125 : decode prog_14_method_19_code 125 = .ok (.getfield 29, 3) := by decide +kernel
theorem d_Mo_read_128 : decode prog_14_method_19_code 128 = .ok (.aload_n 0, 1) := by decide +kernel
theorem d_Mo_read_129 : decode prog_14_method_19_code 129 = .ok (.getfield 123, 3) := by decide +kernel
theorem d_Mo_read_132 : decode prog_14_method_19_code 132 = .ok (.iaload, 1) := by decide +kernel
theorem d_Mo_read_133 : decode prog_14_method_19_code 133 = .ok (.if_icmp .ge 55, 3) := by decide +kernel
theorem d_Mo_read_136 : decode prog_14_method_19_code 136 = .ok (.aload_n 0, 1) := by decide +kernel
theorem d_Mo_read_137 : decode prog_14_method_19_code 137 = .ok (.invokevirtual 135, 3) := by decide +kernel
theorem d_Mo_read_140 : decode prog_14_method_19_code 140 = .ok (.iconst (-1), 1) := by decide +kernel
theorem d_Mo_read_141 : decode prog_14_method_19_code 141 = .ok (.if_icmp .ne 10, 3) := by decide +kernel
theorem d_Mo_read_151 : decode prog_14_method_19_code 151 = .ok (.aload_n 0, 1) := by decide +kernel
theorem d_Mo_read_152 : decode prog_14_method_19_code 152 = .ok (.aload_n 0, 1) := by decide +kernel
theorem d_Mo_read_153 : decode prog_14_method_19_code 153 = .ok (.invokevirtual 135, 3) := by decide +kernel
theorem d_Mo_read_156 : decode prog_14_method_19_code 156 = .ok (.bipush (-2), 2) := by decide +kernel
theorem d_Mo_read_158 : decode prog_14_method_19_code 158 = .ok (.if_icmp .eq 12, 3) := by decide +kernel
theorem d_Mo_read_161 : decode prog_14_method_19_code 161 = .ok (.aload_n 0, 1) := by decide +kernel
theorem d_Mo_read_162 : decode prog_14_method_19_code 162 = .ok (.invokevirtual 135, 3) := by decide +kernel
theorem d_Mo_read_165 : decode prog_14_method_19_code 165 = .ok (.bipush (-3), 2) := by decide +kernel
theorem d_Mo_read_167 : decode prog_14_method_19_code 167 = .ok (.if_icmp .ne 7, 3) := by decide +kernel
theorem d_Mo_read_174 : decode prog_14_method_19_code 174 = .ok (.iconst 0, 1) := by decide +kernel
theorem d_Mo_read_144 : decode prog_14_method_19_code 144 = .ok (.aload_n 0, 1) := by decide +kernel
theorem d_Mo_read_145 : decode prog_14_method_19_code 145 = .ok (.invokevirtual 172, 3) := by decide +kernel
theorem d_Mo_read_148 : decode prog_14_method_19_code 148 = .ok (.goto (-35), 3) := by decide +kernel
theorem d_Mo_read_61 : decode prog_14_method_19_code 61 = .ok (.aload_n 0, 1) := by decide +kernel
theorem d_Mo_read_62 : decode prog_14_method_19_code 62 = .ok (.aload_n 0, 1) := by decide +kernel
theorem d_Mo_read_63 : decode prog_14_method_19_code 63 = .ok (.getfield 166, 3) := by decide +kernel
theorem d_Mo_read_66 : decode prog_14_method_19_code 66 = .ok (.putfield 123, 3) := by decide +kernel
theorem d_Mo_read_69 : decode prog_14_method_19_code 69 = .ok (.aload_n 0, 1) := by decide +kernel
theorem d_Mo_read_70 : decode prog_14_method_19_code 70 = .ok (.invokevirtual 169, 3) := by decide +kernel
theorem d_Mo_read_73 : decode prog_14_method_19_code 73 = .ok (.aload_n 0, 1) := by decide +kernel
theorem d_Mo_read_74 : decode prog_14_method_19_code 74 = .ok (.iconst 0, 1) := by decide +kernel
theorem d_Mo_read_75 : decode prog_14_method_19_code 75 = .ok (.putfield 104, 3) := by decide +kernel
theorem d_Mo_read_78 : decode prog_14_method_19_code 78 = .ok (.aload_n 0, 1) := by decide +kernel
theorem d_Mo_read_79 : decode prog_14_method_19_code 79 = .ok (.iconst 0, 1) := by decide +kernel
theorem d_Mo_read_80 : decode prog_14_method_19_code 80 = .ok (.putfield 129, 3) := by decide +kernel
theorem d_Mo_read_83 : decode prog_14_method_19_code 83 = .ok (.aload_n 0, 1) := by decide +kernel
theorem d_Mo_read_84 : decode prog_14_method_19_code 84 = .ok (.iconst (-1), 1) := by decide +kernel
theorem d_Mo_read_85 : decode prog_14_method_19_code 85 = .ok (.putfield 132, 3) := by decide +kernel
theorem d_Mo_read_88 : decode prog_14_method_19_code 88 = .ok (.aload_n 0, 1) := by decide +kernel
theorem d_Mo_read_89 : decode prog_14_method_19_code 89 = .ok (.iconst 0, 1) := by decide +kernel
theorem d_Mo_read_90 : decode prog_14_method_19_code 90 = .ok (.putfield 143, 3) := by decide +kernel
theorem d_Mo_read_93 : decode prog_14_method_19_code 93 = .ok (.aload_n 0, 1) := by decide +kernel
theorem d_Mo_read_94 : decode prog_14_method_19_code 94 = .ok (.getfield 32, 3) := by decide +kernel
theorem d_Mo_read_97 : decode prog_14_method_19_code 97 = .ok (.aload_n 0, 1) := by decide +kernel
theorem d_Mo_read_98 : decode prog_14_method_19_code 98 = .ok (.getfield 123, 3) := by decide +kernel
theorem d_Mo_read_101 : decode prog_14_method_19_code 101 = .ok (.iconst 0, 1) := by decide +kernel
theorem d_Mo_read_102 : decode prog_14_method_19_code 102 = .ok (.iastore, 1) := by decide +kernel
theorem d_Mo_read_103 : decode prog_14_method_19_code 103 = .ok (.aload_n 0, 1) := by decide +kernel
theorem d_Mo_read_104 : decode prog_14_method_19_code 104 = .ok (.getfield 41, 3) := by decide +kernel
theorem d_Mo_read_107 : decode prog_14_method_19_code 107 = .ok (.aload_n 0, 1) := by decide +kernel
theorem d_Mo_read_108 : decode prog_14_method_19_code 108 = .ok (.getfield 123, 3) := by decide +kernel
theorem d_Mo_read_111 : decode prog_14_method_19_code 111 = .ok (.iconst 0, 1) := by decide +kernel
theorem d_Mo_read_112 : decode prog_14_method_19_code 112 = .ok (.iastore, 1) := by decide +kernel
theorem d_Mo_read_53 : decode prog_14_method_19_code 53 = .ok (.iaload, 1) := by decide +kernel
theorem d_Mo_read_54 : decode prog_14_method_19_code 54 = .ok (.if_icmp .gt 7, 3) := by decide +kernel
theorem d_Mo_read_57 : decode prog_14_method_19_code 57 = .ok (.sipush (-1000), 3) := by decide +kernel
theorem d_Mo_read_60 : decode prog_14_method_19_code 60 = .ok (.ireturn, 1) := by decide +kernel
theorem d_Mo_read_0 : decode prog_14_method_19_code 0 = .ok (.aload_n 0, 1) := by decide +kernel
theorem d_Mo_read_1 : decode prog_14_method_19_code 1 = .ok (.iconst 0, 1) := by decide +kernel
theorem d_Mo_read_2 : decode prog_14_method_19_code 2 = .ok (.putfield 101, 3) := by decide +kernel
theorem d_Mo_read_5 : decode prog_14_method_19_code 5 = .ok (.iload_n 1, 1) := by decide +kernel
theorem d_Mo_read_6 : decode prog_14_method_19_code 6 = .ok (.ifCond .lt 51, 3) := by decide +kernel
theorem d_Mo_read_9 : decode prog_14_method_19_code 9 = .ok (.iload_n 1, 1) := by decide +kernel
theorem d_Mo_read_10 : decode prog_14_method_19_code 10 = .ok (.ldc 165, 2) := by decide +kernel
theorem d_Mo_read_12 : decode prog_14_method_19_code 12 = .ok (.if_icmp .gt 45, 3) := by decide +kernel
theorem d_Mo_read_15 : decode prog_14_method_19_code 15 = .ok (.aload_n 0, 1) := by decide +kernel
theorem d_Mo_read_16 : decode prog_14_method_19_code 16 = .ok (.getfield 166, 3) := by decide +kernel
theorem d_Mo_read_19 : decode prog_14_method_19_code 19 = .ok (.bipush 6, 2) := by decide +kernel
theorem d_Mo_read_21 : decode prog_14_method_19_code 21 = .ok (.if_icmp .eq 36, 3) := by decide +kernel
theorem d_Mo_read_24 : decode prog_14_method_19_code 24 = .ok (.aload_n 0, 1) := by decide +kernel
theorem d_Mo_read_25 : decode prog_14_method_19_code 25 = .ok (.getfield 166, 3) := by decide +kernel
theorem d_Mo_read_28 : decode prog_14_method_19_code 28 = .ok (.ifCond .le 33, 3) := by decide +kernel
theorem d_Mo_read_31 : decode prog_14_method_19_code 31 = .ok (.iload_n 1, 1) := by decide +kernel
theorem d_Mo_read_32 : decode prog_14_method_19_code 32 = .ok (.aload_n 0, 1) := by decide +kernel
theorem d_Mo_read_33 : decode prog_14_method_19_code 33 = .ok (.getfield 13, 3) := by decide +kernel
theorem d_Mo_read_36 : decode prog_14_method_19_code 36 = .ok (.aload_n 0, 1) := by decide +kernel
theorem d_Mo_read_37 : decode prog_14_method_19_code 37 = .ok (.getfield 166, 3) := by decide +kernel
theorem d_Mo_read_40 : decode prog_14_method_19_code 40 = .ok (.ifCond .le 12, 3) := by decide +kernel
theorem d_Mo_read_52 : decode prog_14_method_19_code 52 = .ok (.iconst 0, 1) := by decide +kernel
theorem d_Mo_read_43 : decode prog_14_method_19_code 43 = .ok (.aload_n 0, 1) := by decide +kernel
theorem d_Mo_read_44 : decode prog_14_method_19_code 44 = .ok (.getfield 166, 3) := by decide +kernel
theorem d_Mo_read_47 : decode prog_14_method_19_code 47 = .ok (.iconst 1, 1) := by decide +kernel
theorem d_Mo_read_48 : decode prog_14_method_19_code 48 = .ok (.isub, 1) := by decide +kernel
theorem d_Mo_read_49 : decode prog_14_method_19_code 49 = .ok (.goto 4, 3) := by decide +kernel
theorem d_Mo_editions_0 : decode prog_14_method_20_code 0 = .ok (.aload_n 0, 1) := by decide +kernel
theorem d_Mo_editions_1 : decode prog_14_method_20_code 1 = .ok (.iconst 0, 1) := by decide +kernel
theorem d_Mo_editions_2 : decode prog_14_method_20_code 2 = .ok (.putfield 101, 3) := by decide +kernel
theorem d_Mo_editions_5 : decode prog_14_method_20_code 5 = .ok (.aload_n 0, 1) := by decide +kernel
theorem d_Mo_editions_6 : decode prog_14_method_20_code 6 = .ok (.getfield 166, 3) := by decide +kernel
theorem d_Mo_editions_9 : decode prog_14_method_20_code 9 = .ok (.ireturn, 1) := by decide +kernel
theorem d_Mo_fact_0 : decode prog_14_method_21_code 0 = .ok (.aload_n 0, 1) := by decide +kernel
theorem d_Mo_fact_1 : decode prog_14_method_21_code 1 = .ok (.iconst 0, 1) := by decide +kernel
theorem d_Mo_fact_2 : decode prog_14_method_21_code 2 = .ok (.putfield 101, 3) := by decide +kernel
theorem d_Mo_fact_5 : decode prog_14_method_21_code 5 = .ok (.iload_n 1, 1) := by decide +kernel
theorem d_Mo_fact_6 : decode prog_14_method_21_code 6 = .ok (.ifCond .lt 9, 3) := by decide +kernel
theorem d_Mo_fact_15 : decode prog_14_method_21_code 15 = .ok (.iconst 0, 1) := by decide +kernel
theorem d_Mo_fact_16 : decode prog_14_method_21_code 16 = .ok (.ireturn, 1) := by decide +kernel
theorem d_Mo_fact_9 : decode prog_14_method_21_code 9 = .ok (.iload_n 1, 1) := by decide +kernel
theorem d_Mo_fact_10 : decode prog_14_method_21_code 10 = .ok (.bipush 19, 2) := by decide +kernel
theorem d_Mo_fact_12 : decode prog_14_method_21_code 12 = .ok (.if_icmp .le 5, 3) := by decide +kernel
theorem d_Mo_fact_17 : decode prog_14_method_21_code 17 = .ok (.aload_n 0, 1) := by decide +kernel
theorem d_Mo_fact_18 : decode prog_14_method_21_code 18 = .ok (.getfield 71, 3) := by decide +kernel
theorem d_Mo_fact_21 : decode prog_14_method_21_code 21 = .ok (.iload_n 1, 1) := by decide +kernel
theorem d_Mo_fact_22 : decode prog_14_method_21_code 22 = .ok (.lload_n 2, 1) := by decide +kernel
theorem d_Mo_fact_23 : decode prog_14_method_21_code 23 = .ok (.lastore, 1) := by decide +kernel
theorem d_Mo_fact_24 : decode prog_14_method_21_code 24 = .ok (.aload_n 0, 1) := by decide +kernel
theorem d_Mo_fact_25 : decode prog_14_method_21_code 25 = .ok (.getfield 75, 3) := by decide +kernel
theorem d_Mo_fact_28 : decode prog_14_method_21_code 28 = .ok (.iload_n 1, 1) := by decide +kernel
theorem d_Mo_fact_29 : decode prog_14_method_21_code 29 = .ok (.iconst 1, 1) := by decide +kernel
theorem d_Mo_fact_30 : decode prog_14_method_21_code 30 = .ok (.bastore, 1) := by decide +kernel
theorem d_Mo_fact_31 : decode prog_14_method_21_code 31 = .ok (.iconst 1, 1) := by decide +kernel
theorem d_Mo_fact_32 : decode prog_14_method_21_code 32 = .ok (.ireturn, 1) := by decide +kernel
theorem d_Mo_clearFacts_30 : decode prog_14_method_22_code 30 = .ok (.iadd, 1) := by decide +kernel
theorem d_Mo_clearFacts_31 : decode prog_14_method_22_code 31 = .ok (.istore_n 1, 1) := by decide +kernel
theorem d_Mo_clearFacts_32 : decode prog_14_method_22_code 32 = .ok (.aload_n 0, 1) := by decide +kernel
theorem d_Mo_clearFacts_33 : decode prog_14_method_22_code 33 = .ok (.getfield 75, 3) := by decide +kernel
theorem d_Mo_clearFacts_36 : decode prog_14_method_22_code 36 = .ok (.iload_n 2, 1) := by decide +kernel
theorem d_Mo_clearFacts_37 : decode prog_14_method_22_code 37 = .ok (.iconst 0, 1) := by decide +kernel
theorem d_Mo_clearFacts_38 : decode prog_14_method_22_code 38 = .ok (.bastore, 1) := by decide +kernel
theorem d_Mo_clearFacts_39 : decode prog_14_method_22_code 39 = .ok (.iinc 2 1, 3) := by decide +kernel
theorem d_Mo_clearFacts_42 : decode prog_14_method_22_code 42 = .ok (.goto (-33), 3) := by decide +kernel
theorem d_Mo_clearFacts_9 : decode prog_14_method_22_code 9 = .ok (.iload_n 2, 1) := by decide +kernel
theorem d_Mo_clearFacts_10 : decode prog_14_method_22_code 10 = .ok (.bipush 20, 2) := by decide +kernel
theorem d_Mo_clearFacts_12 : decode prog_14_method_22_code 12 = .ok (.if_icmp .ge 33, 3) := by decide +kernel
theorem d_Mo_clearFacts_45 : decode prog_14_method_22_code 45 = .ok (.iload_n 1, 1) := by decide +kernel
theorem d_Mo_clearFacts_46 : decode prog_14_method_22_code 46 = .ok (.ireturn, 1) := by decide +kernel
theorem d_Mo_clearFacts_15 : decode prog_14_method_22_code 15 = .ok (.iload_n 1, 1) := by decide +kernel
theorem d_Mo_clearFacts_16 : decode prog_14_method_22_code 16 = .ok (.aload_n 0, 1) := by decide +kernel
theorem d_Mo_clearFacts_17 : decode prog_14_method_22_code 17 = .ok (.getfield 75, 3) := by decide +kernel
theorem d_Mo_clearFacts_20 : decode prog_14_method_22_code 20 = .ok (.iload_n 2, 1) := by decide +kernel
theorem d_Mo_clearFacts_21 : decode prog_14_method_22_code 21 = .ok (.baload, 1) := by decide +kernel
theorem d_Mo_clearFacts_22 : decode prog_14_method_22_code 22 = .ok (.ifCond .eq 7, 3) := by decide +kernel
theorem d_Mo_clearFacts_29 : decode prog_14_method_22_code 29 = .ok (.iconst 0, 1) := by decide +kernel
theorem d_Mo_clearFacts_25 : decode prog_14_method_22_code 25 = .ok (.iconst 1, 1) := by decide +kernel
theorem d_Mo_clearFacts_26 : decode prog_14_method_22_code 26 = .ok (.goto 4, 3) := by decide +kernel
theorem d_Mo_clearFacts_0 : decode prog_14_method_22_code 0 = .ok (.aload_n 0, 1) := by decide +kernel
theorem d_Mo_clearFacts_1 : decode prog_14_method_22_code 1 = .ok (.iconst 0, 1) := by decide +kernel
theorem d_Mo_clearFacts_2 : decode prog_14_method_22_code 2 = .ok (.putfield 101, 3) := by decide +kernel
theorem d_Mo_clearFacts_5 : decode prog_14_method_22_code 5 = .ok (.iconst 0, 1) := by decide +kernel
theorem d_Mo_clearFacts_6 : decode prog_14_method_22_code 6 = .ok (.istore_n 1, 1) := by decide +kernel
theorem d_Mo_clearFacts_7 : decode prog_14_method_22_code 7 = .ok (.iconst 0, 1) := by decide +kernel
theorem d_Mo_clearFacts_8 : decode prog_14_method_22_code 8 = .ok (.istore_n 2, 1) := by decide +kernel
theorem d_Mo_editionOf_27 : decode prog_14_method_23_code 27 = .ok (.istore_n 2, 1) := by decide +kernel
theorem d_Mo_editionOf_28 : decode prog_14_method_23_code 28 = .ok (.iinc 3 1, 3) := by decide +kernel
theorem d_Mo_editionOf_31 : decode prog_14_method_23_code 31 = .ok (.goto (-27), 3) := by decide +kernel
theorem d_Mo_editionOf_4 : decode prog_14_method_23_code 4 = .ok (.iload_n 3, 1) := by decide +kernel
theorem d_Mo_editionOf_5 : decode prog_14_method_23_code 5 = .ok (.aload_n 0, 1) := by decide +kernel
theorem d_Mo_editionOf_6 : decode prog_14_method_23_code 6 = .ok (.getfield 166, 3) := by decide +kernel
theorem d_Mo_editionOf_9 : decode prog_14_method_23_code 9 = .ok (.if_icmp .ge 25, 3) := by decide +kernel
theorem d_Mo_editionOf_34 : decode prog_14_method_23_code 34 = .ok (.iload_n 2, 1) := by decide +kernel
theorem d_Mo_editionOf_35 : decode prog_14_method_23_code 35 = .ok (.ireturn, 1) := by decide +kernel
theorem d_Mo_editionOf_12 : decode prog_14_method_23_code 12 = .ok (.aload_n 0, 1) := by decide +kernel
theorem d_Mo_editionOf_13 : decode prog_14_method_23_code 13 = .ok (.getfield 13, 3) := by decide +kernel
theorem d_Mo_editionOf_16 : decode prog_14_method_23_code 16 = .ok (.iload_n 3, 1) := by decide +kernel
theorem d_Mo_editionOf_17 : decode prog_14_method_23_code 17 = .ok (.iaload, 1) := by decide +kernel
theorem d_Mo_editionOf_18 : decode prog_14_method_23_code 18 = .ok (.iload_n 1, 1) := by decide +kernel
theorem d_Mo_editionOf_19 : decode prog_14_method_23_code 19 = .ok (.if_icmp .gt 7, 3) := by decide +kernel
theorem d_Mo_editionOf_26 : decode prog_14_method_23_code 26 = .ok (.iload_n 2, 1) := by decide +kernel
theorem d_Mo_editionOf_22 : decode prog_14_method_23_code 22 = .ok (.iload_n 3, 1) := by decide +kernel
theorem d_Mo_editionOf_23 : decode prog_14_method_23_code 23 = .ok (.goto 4, 3) := by decide +kernel
theorem d_Mo_editionOf_0 : decode prog_14_method_23_code 0 = .ok (.iconst (-1), 1) := by decide +kernel
theorem d_Mo_editionOf_1 : decode prog_14_method_23_code 1 = .ok (.istore_n 2, 1) := by decide +kernel
theorem d_Mo_editionOf_2 : decode prog_14_method_23_code 2 = .ok (.iconst 0, 1) := by decide +kernel
theorem d_Mo_editionOf_3 : decode prog_14_method_23_code 3 = .ok (.istore_n 3, 1) := by decide +kernel
def M_Mo_conditions_116 (F : Nat) (r2 : hH → Nat → Int32 → Option hH) (h : hH) (x0 : Nat) (x1 : Int32) (s0 : Nat) (s1 : Int32) (s2 : Int32) : Option hH :=
  (hPut h s0 12 23 (.int (s1 + s2))).bind fun h1 =>
  r2 h1 x0 x1
def M_Mo_conditions_101 (F : Nat) (r2 : hH → Nat → Int32 → Option hH) (h : hH) (x0 : Nat) (s0 : Int32) : Option hH :=
  (hGetI h x0 12 23).bind fun v1 =>
  if s0 = 0 then (
    M_Mo_conditions_116 F r2 h x0 s0 x0 v1 0
  ) else (
    M_Mo_conditions_116 F r2 h x0 s0 x0 v1 1
  )
def M_Mo_conditions_100 (F : Nat) (r2 : hH → Nat → Int32 → Option hH) (h : hH) (x0 : Nat) : Option hH :=
  M_Mo_conditions_101 F r2 h x0 0
def M_Mo_conditions_80 (F : Nat) (r2 : hH → Nat → Int32 → Option hH) (h : hH) (x0 : Nat) : Option hH :=
  (hGetI h x0 12 24).bind fun v1 =>
  if 0 ≤ v1 then (
    M_Mo_conditions_100 F r2 h x0
  ) else (
    (hIs h x0 12).bind fun u3 =>
    (M_Mo_now F h x0).bind fun q4 =>
    if q4.1 = (-5) then (
      M_Mo_conditions_101 F r2 q4.2 x0 1
    ) else (
      M_Mo_conditions_100 F r2 q4.2 x0
    )
  )
def M_Mo_conditions_47 (F : Nat) (r2 : hH → Nat → Int32 → Option hH) (h : hH) (x0 : Nat) (x2 : Int32) (s0 : Nat) (s1 : Int32) : Option hH :=
  (hIs h s0 12).bind fun u1 =>
  (M_Mo_want F h s0 s1).bind fun q2 =>
  if q2.1 = 0 then (
    M_Mo_conditions_80 F r2 q2.2 x0
  ) else (
    (hGetI q2.2 x0 12 23).bind fun v4 =>
    (hPut q2.2 x0 12 23 (.int (v4 + 1))).bind fun h5 =>
    (hIs h5 x0 12).bind fun u6 =>
    (M_Mo_sum F h5 x0).bind fun h7 =>
    (hGetI h7 x0 12 24).bind fun v8 =>
    if 0 ≤ v8 then (
      M_Mo_conditions_80 F r2 h7 x0
    ) else (
      (hIs h7 x0 12).bind fun u10 =>
      (M_Mo_put F h7 x0 x2 0).bind fun h11 =>
      M_Mo_conditions_80 F r2 h11 x0
    )
  )
def M_Mo_conditions_46 (F : Nat) (r2 : hH → Nat → Int32 → Option hH) (h : hH) (x0 : Nat) (x2 : Int32) (s0 : Nat) : Option hH :=
  M_Mo_conditions_47 F r2 h x0 x2 s0 0
def B_Mo_conditions_2 (F : Nat) (r2 : hH → Nat → Int32 → Option hH) (h : hH) (x0 : Nat) (x1 : Int32) : Option hH :=
  if x1 = 0 then (
    some h
  ) else (
    (hGetI h x0 12 24).bind fun v2 =>
    if 0 ≤ v2 then (
      some h
    ) else (
      (hIs h x0 12).bind fun u4 =>
      (M_Mo_sum F h x0).bind fun h5 =>
      (hIs h5 x0 12).bind fun u6 =>
      (M_Mo_now F h5 x0).bind fun q7 =>
      (hGetI q7.2 x0 12 24).bind fun v8 =>
      if 0 ≤ v8 then (
        M_Mo_conditions_80 F r2 q7.2 x0
      ) else (
        if (-15) < q7.1 then (
          M_Mo_conditions_46 F r2 q7.2 x0 q7.1 x0
        ) else (
          if q7.1 < (-18) then (
            M_Mo_conditions_46 F r2 q7.2 x0 q7.1 x0
          ) else (
            M_Mo_conditions_47 F r2 q7.2 x0 q7.1 x0 1
          )
        )
      )
    )
  )
def M_Mo_conditions_2 (F : Nat) : Nat → hH → Nat → Int32 → Option hH
  | 0 => fun _ _ _ => none
  | z + 1 => B_Mo_conditions_2 F (M_Mo_conditions_2 F z)
def M_Mo_conditions (F : Nat) (h : hH) (x0 : Nat) : Option hH :=
  M_Mo_conditions_2 F F h x0 1
def M_Mo_rule_135 (F : Nat) (h : hH) (x0 : Nat) (x1 : Int32) : Option hH :=
  (hGetI h x0 12 24).bind fun v1 =>
  if 0 ≤ v1 then (
    some h
  ) else (
    (hIs h x0 12).bind fun u3 =>
    (M_Mo_needs F h x0 (-19)).bind fun q4 =>
    if q4.1 = 0 then (
      some q4.2
    ) else (
      (hGetA q4.2 x0 12 16).bind fun v6 =>
      (hGetI q4.2 x0 12 21).bind fun v7 =>
      (hStI q4.2 v6 x1 v7).bind fun h8 =>
      (hGetA h8 x0 12 18).bind fun v9 =>
      (hGetI h8 x0 12 23).bind fun v10 =>
      (hStI h8 v9 x1 (v10 - 2)).bind fun h11 =>
      (hGetA h11 x0 12 13).bind fun v12 =>
      (hGetI h11 x0 12 22).bind fun v13 =>
      (hLdI h11 v12 .int v13).bind fun v14 =>
      (hStI h11 v12 v13 (v14 + 1)).bind fun h15 =>
      some h15
    )
  )
def M_Mo_rule_59 (F : Nat) (h : hH) (x0 : Nat) (x1 : Int32) (s0 : Int32) : Option hH :=
  (hGetA h x0 12 14).bind fun v1 =>
  (hGetI h x0 12 21).bind fun v2 =>
  (hStI h v1 x1 v2).bind fun h3 =>
  (hGetA h3 x0 12 15).bind fun v4 =>
  (hStI h3 v4 x1 (-1)).bind fun h5 =>
  (hGetA h5 x0 12 17).bind fun v6 =>
  (hGetI h5 x0 12 23).bind fun v7 =>
  (hStI h5 v6 x1 v7).bind fun h8 =>
  (hGetI h8 x0 12 23).bind fun v9 =>
  (hPut h8 x0 12 23 (.int (v9 + 1))).bind fun h10 =>
  (hIs h10 x0 12).bind fun u11 =>
  (M_Mo_conditions F h10 x0).bind fun h12 =>
  (hGetI h12 x0 12 24).bind fun v13 =>
  if 0 ≤ v13 then (
    M_Mo_rule_135 F h12 x0 x1
  ) else (
    if s0 = 0 then (
      M_Mo_rule_135 F h12 x0 x1
    ) else (
      (hIs h12 x0 12).bind fun u16 =>
      (M_Mo_needs F h12 x0 (-4)).bind fun q17 =>
      if q17.1 = 0 then (
        M_Mo_rule_135 F q17.2 x0 x1
      ) else (
        (hGetA q17.2 x0 12 15).bind fun v19 =>
        (hGetI q17.2 x0 12 21).bind fun v20 =>
        (hStI q17.2 v19 x1 v20).bind fun h21 =>
        (hIs h21 x0 12).bind fun u22 =>
        (M_Mo_conditions F h21 x0).bind fun h23 =>
        M_Mo_rule_135 F h23 x0 x1
      )
    )
  )
def M_Mo_rule_38 (F : Nat) (h : hH) (x0 : Nat) (x1 : Int32) (s0 : Nat) (s1 : Int32) : Option hH :=
  (hIs h s0 12).bind fun u1 =>
  (M_Mo_want F h s0 s1).bind fun q2 =>
  if q2.1 = 0 then (
    some q2.2
  ) else (
    (hIs q2.2 x0 12).bind fun u4 =>
    (M_Mo_now F q2.2 x0).bind fun q5 =>
    if q5.1 = (-3) then (
      M_Mo_rule_59 F q5.2 x0 x1 1
    ) else (
      M_Mo_rule_59 F q5.2 x0 x1 0
    )
  )
def M_Mo_rule (F : Nat) (h : hH) (x0 : Nat) : Option hH :=
  (hGetI h x0 12 22).bind fun v1 =>
  (hGetA h x0 12 13).bind fun v2 =>
  (hGetI h x0 12 22).bind fun v3 =>
  (hLdI h v2 .int v3).bind fun v4 =>
  (hGetA h x0 12 13).bind fun v5 =>
  (hGetI h x0 12 22).bind fun v6 =>
  (hLdI h v5 .int v6).bind fun v7 =>
  if 12 ≤ v7 then (
    M_Mo_rule_38 F h x0 ((12 * v1) + v4) x0 0
  ) else (
    M_Mo_rule_38 F h x0 ((12 * v1) + v4) x0 1
  )
def M_Mo_read_188 (F : Nat) (h : hH) (x0 : Nat) (x1 : Int32) : Option (Int32 × hH) :=
  (hGetI h x0 12 24).bind fun v1 =>
  if v1 < 0 then (
    (hGetA h x0 12 4).bind fun v3 =>
    (hGetI h x0 12 22).bind fun v4 =>
    (hStI h v3 v4 x1).bind fun h5 =>
    (hGetI h5 x0 12 3).bind fun v6 =>
    (hPut h5 x0 12 3 (.int (v6 + 1))).bind fun h7 =>
    (hGetA h7 x0 12 13).bind fun v8 =>
    (hGetI h7 x0 12 22).bind fun v9 =>
    (hLdI h7 v8 .int v9).bind fun v10 =>
    some (v10, h7)
  ) else (
    (hGetI h x0 12 24).bind fun v11 =>
    some (((-1) - v11), h)
  )
def M_Mo_read_175 (F : Nat) (r113 : hH → Nat → Int32 → Option (Int32 × hH)) (h : hH) (x0 : Nat) (x1 : Int32) (s0 : Nat) (s1 : Int32) : Option (Int32 × hH) :=
  (hIs h s0 12).bind fun u1 =>
  (M_Mo_want F h s0 s1).bind fun q2 =>
  if q2.1 = 0 then (
    r113 q2.2 x0 x1
  ) else (
    (hIs q2.2 x0 12).bind fun u4 =>
    (M_Mo_rule F q2.2 x0).bind fun h5 =>
    r113 h5 x0 x1
  )
def M_Mo_read_170 (F : Nat) (r113 : hH → Nat → Int32 → Option (Int32 × hH)) (h : hH) (x0 : Nat) (x1 : Int32) (s0 : Nat) : Option (Int32 × hH) :=
  M_Mo_read_175 F r113 h x0 x1 s0 1
def B_Mo_read_113 (F : Nat) (r113 : hH → Nat → Int32 → Option (Int32 × hH)) (h : hH) (x0 : Nat) (x1 : Int32) : Option (Int32 × hH) :=
  (hGetI h x0 12 24).bind fun v1 =>
  if 0 ≤ v1 then (
    M_Mo_read_188 F h x0 x1
  ) else (
    (hGetI h x0 12 23).bind fun v3 =>
    (hGetA h x0 12 9).bind fun v4 =>
    (hGetI h x0 12 22).bind fun v5 =>
    (hLdI h v4 .int v5).bind fun v6 =>
    if v6 ≤ v3 then (
      M_Mo_read_188 F h x0 x1
    ) else (
      (hIs h x0 12).bind fun u8 =>
      (M_Mo_now F h x0).bind fun q9 =>
      if q9.1 = (-1) then (
        (hIs q9.2 x0 12).bind fun u17 =>
        (M_Mo_tableP F q9.2 x0).bind fun h18 =>
        r113 h18 x0 x1
      ) else (
        (hIs q9.2 x0 12).bind fun u11 =>
        (M_Mo_now F q9.2 x0).bind fun q12 =>
        if q12.1 = (-2) then (
          M_Mo_read_170 F r113 q12.2 x0 x1 x0
        ) else (
          (hIs q12.2 x0 12).bind fun u14 =>
          (M_Mo_now F q12.2 x0).bind fun q15 =>
          if q15.1 = (-3) then (
            M_Mo_read_170 F r113 q15.2 x0 x1 x0
          ) else (
            M_Mo_read_175 F r113 q15.2 x0 x1 x0 0
          )
        )
      )
    )
  )
def M_Mo_read_113 (F : Nat) : Nat → hH → Nat → Int32 → Option (Int32 × hH)
  | 0 => fun _ _ _ => none
  | z + 1 => B_Mo_read_113 F (M_Mo_read_113 F z)
def M_Mo_read_61 (F : Nat) (h : hH) (x0 : Nat) (x1 : Int32) : Option (Int32 × hH) :=
  (hGetI h x0 12 3).bind fun v1 =>
  (hPut h x0 12 22 (.int v1)).bind fun h2 =>
  (hIs h2 x0 12).bind fun u3 =>
  (M_Mo_split F h2 x0).bind fun h4 =>
  (hPut h4 x0 12 2 (.int 0)).bind fun h5 =>
  (hPut h5 x0 12 23 (.int 0)).bind fun h6 =>
  (hPut h6 x0 12 24 (.int (-1))).bind fun h7 =>
  (hPut h7 x0 12 21 (.int 0)).bind fun h8 =>
  (hGetA h8 x0 12 10).bind fun v9 =>
  (hGetI h8 x0 12 22).bind fun v10 =>
  (hStI h8 v9 v10 0).bind fun h11 =>
  (hGetA h11 x0 12 13).bind fun v12 =>
  (hGetI h11 x0 12 22).bind fun v13 =>
  (hStI h11 v12 v13 0).bind fun h14 =>
  M_Mo_read_113 F F h14 x0 x1
def M_Mo_read_53 (F : Nat) (h : hH) (x0 : Nat) (x1 : Int32) (s0 : Int32) (s1 : Nat) (s2 : Int32) : Option (Int32 × hH) :=
  (hLdI h s1 .int s2).bind fun v1 =>
  if v1 < s0 then (
    M_Mo_read_61 F h x0 x1
  ) else (
    some ((-1000), h)
  )
def M_Mo_read (F : Nat) (h : hH) (x0 : Nat) (x1 : Int32) : Option (Int32 × hH) :=
  (hPut h x0 12 0 (.int 0)).bind fun h1 =>
  if x1 < 0 then (
    some ((-1000), h1)
  ) else (
    if 100000 < x1 then (
      some ((-1000), h1)
    ) else (
      (hGetI h1 x0 12 3).bind fun v4 =>
      if v4 = 6 then (
        some ((-1000), h1)
      ) else (
        (hGetI h1 x0 12 3).bind fun v6 =>
        if v6 ≤ 0 then (
          M_Mo_read_61 F h1 x0 x1
        ) else (
          (hGetA h1 x0 12 4).bind fun v8 =>
          (hGetI h1 x0 12 3).bind fun v9 =>
          if v9 ≤ 0 then (
            M_Mo_read_53 F h1 x0 x1 x1 v8 0
          ) else (
            (hGetI h1 x0 12 3).bind fun v11 =>
            M_Mo_read_53 F h1 x0 x1 x1 v8 (v11 - 1)
          )
        )
      )
    )
  )
def M_Mo_editions (F : Nat) (h : hH) (x0 : Nat) : Option (Int32 × hH) :=
  (hPut h x0 12 0 (.int 0)).bind fun h1 =>
  (hGetI h1 x0 12 3).bind fun v2 =>
  some (v2, h1)
def M_Mo_fact (F : Nat) (h : hH) (x0 : Nat) (x1 : Int32) (x2 : Int64) : Option (Int32 × hH) :=
  (hPut h x0 12 0 (.int 0)).bind fun h1 =>
  if x1 < 0 then (
    some (0, h1)
  ) else (
    if x1 ≤ 19 then (
      (hGetA h1 x0 12 27).bind fun v4 =>
      (hStL h1 v4 x1 x2).bind fun h5 =>
      (hGetA h5 x0 12 28).bind fun v6 =>
      (hStZ h5 v6 x1 1).bind fun h7 =>
      some (1, h7)
    ) else (
      some (0, h1)
    )
  )
def M_Mo_clearFacts_30 (F : Nat) (r9 : hH → Nat → Int32 → Int32 → Option (Int32 × hH)) (h : hH) (x0 : Nat) (x2 : Int32) (s0 : Int32) (s1 : Int32) : Option (Int32 × hH) :=
  (hGetA h x0 12 28).bind fun v1 =>
  (hStZ h v1 x2 0).bind fun h2 =>
  r9 h2 x0 (s0 + s1) (x2 + 1)
def B_Mo_clearFacts_9 (F : Nat) (r9 : hH → Nat → Int32 → Int32 → Option (Int32 × hH)) (h : hH) (x0 : Nat) (x1 : Int32) (x2 : Int32) : Option (Int32 × hH) :=
  if 20 ≤ x2 then (
    some (x1, h)
  ) else (
    (hGetA h x0 12 28).bind fun v2 =>
    (hLdI h v2 .boolean x2).bind fun v3 =>
    if v3 = 0 then (
      M_Mo_clearFacts_30 F r9 h x0 x2 x1 0
    ) else (
      M_Mo_clearFacts_30 F r9 h x0 x2 x1 1
    )
  )
def M_Mo_clearFacts_9 (F : Nat) : Nat → hH → Nat → Int32 → Int32 → Option (Int32 × hH)
  | 0 => fun _ _ _ _ => none
  | z + 1 => B_Mo_clearFacts_9 F (M_Mo_clearFacts_9 F z)
def M_Mo_clearFacts (F : Nat) (h : hH) (x0 : Nat) : Option (Int32 × hH) :=
  (hPut h x0 12 0 (.int 0)).bind fun h1 =>
  M_Mo_clearFacts_9 F F h1 x0 0 0
def M_Mo_editionOf_27 (F : Nat) (r4 : hH → Nat → Int32 → Int32 → Int32 → Option (Int32 × hH)) (h : hH) (x0 : Nat) (x1 : Int32) (x3 : Int32) (s0 : Int32) : Option (Int32 × hH) :=
  r4 h x0 x1 s0 (x3 + 1)
def B_Mo_editionOf_4 (F : Nat) (r4 : hH → Nat → Int32 → Int32 → Int32 → Option (Int32 × hH)) (h : hH) (x0 : Nat) (x1 : Int32) (x2 : Int32) (x3 : Int32) : Option (Int32 × hH) :=
  (hGetI h x0 12 3).bind fun v1 =>
  if v1 ≤ x3 then (
    some (x2, h)
  ) else (
    (hGetA h x0 12 4).bind fun v3 =>
    (hLdI h v3 .int x3).bind fun v4 =>
    if x1 < v4 then (
      M_Mo_editionOf_27 F r4 h x0 x1 x3 x2
    ) else (
      M_Mo_editionOf_27 F r4 h x0 x1 x3 x3
    )
  )
def M_Mo_editionOf_4 (F : Nat) : Nat → hH → Nat → Int32 → Int32 → Int32 → Option (Int32 × hH)
  | 0 => fun _ _ _ _ _ => none
  | z + 1 => B_Mo_editionOf_4 F (M_Mo_editionOf_4 F z)
def M_Mo_editionOf (F : Nat) (h : hH) (x0 : Nat) (x1 : Int32) : Option (Int32 × hH) :=
  M_Mo_editionOf_4 F F h x0 x1 (-1) 0
abbrev rm_Mo_conditions : Room := { frames := 2, cells := 0, slots := 0, locals := 48 }
set_option maxHeartbeats 4000000 in
set_option maxRecDepth 100000 in
theorem w_Mo_conditions_116 {p : Program} {l : Launch} {e : Env} {s : State} {m : MethodId} {args : Array Value} {below : List Frame} {meth : Method} {c : Code} {D : va_G} {K : (Nat → Nat) × (Nat → Nat)} {h0 : hH} (Y : HX p s m args meth c prog_14_method_17_code 3 "LicenceTextsModel" D K "conditions" none h0) {F : Nat} {r2 : hH → Nat → Int32 → Option hH} (R2 : ∀ (h : hH) (x0 : Nat) (x1 : Int32) (q : hH), r2 h x0 x1 = some q → J p l e rm_Mo_conditions s m args below meth c 3 D cls0 (hF h0) h [(0, .ref x0), (1, .int x1)] 0 0 (MQ below (hQ D cls0 h0 none q) args s 0 0 (hF h0)) 2 []) (h : hH) (x0 : Nat) (x1 : Int32) (s0 : Nat) (s1 : Int32) (s2 : Int32) (q : hH) (hM : M_Mo_conditions_116 F r2 h x0 x1 s0 s1 s2 = some q) : J p l e rm_Mo_conditions s m args below meth c 3 D cls0 (hF h0) h [(0, .ref x0), (1, .int x1)] 0 0 (MQ below (hQ D cls0 h0 none q) args s 0 0 (hF h0)) 116 [.int s2, .int s1, .ref s0] := by
  obtain ⟨X, hr, hlk, hnm⟩ := id Y
  unfold M_Mo_conditions_116 at hM
  refine J_iadd (pc := 116) X d_Mo_conditions_116 ?_
  obtain ⟨h1, eh1, hM⟩ := hb_some hM
  refine J_put (pc := 117) X hc_Mo in_Mo t_Mo tk_Mo nk_Mo 23 k_530 (by decide) rfl rfl d_Mo_conditions_117 rfl rfl rfl eh1 ?_
  refine J_goto (pc := 120) (tgt := 2) X d_Mo_conditions_120 (by decide) ?_
  exact R2 _ _ _ _ hM
set_option maxHeartbeats 4000000 in
set_option maxRecDepth 100000 in
theorem w_Mo_conditions_101 {p : Program} {l : Launch} {e : Env} {s : State} {m : MethodId} {args : Array Value} {below : List Frame} {meth : Method} {c : Code} {D : va_G} {K : (Nat → Nat) × (Nat → Nat)} {h0 : hH} (Y : HX p s m args meth c prog_14_method_17_code 3 "LicenceTextsModel" D K "conditions" none h0) {F : Nat} {r2 : hH → Nat → Int32 → Option hH} (R2 : ∀ (h : hH) (x0 : Nat) (x1 : Int32) (q : hH), r2 h x0 x1 = some q → J p l e rm_Mo_conditions s m args below meth c 3 D cls0 (hF h0) h [(0, .ref x0), (1, .int x1)] 0 0 (MQ below (hQ D cls0 h0 none q) args s 0 0 (hF h0)) 2 []) (h : hH) (x0 : Nat) (s0 : Int32) (q : hH) (hM : M_Mo_conditions_101 F r2 h x0 s0 = some q) : J p l e rm_Mo_conditions s m args below meth c 3 D cls0 (hF h0) h [(0, .ref x0)] 0 0 (MQ below (hQ D cls0 h0 none q) args s 0 0 (hF h0)) 101 [.int s0] := by
  obtain ⟨X, hr, hlk, hnm⟩ := id Y
  unfold M_Mo_conditions_101 at hM
  refine J_istore_n (pc := 101) (lv' := [(1, .int s0), (0, .ref x0)]) X d_Mo_conditions_101 rfl (by decide) rfl ?_
  refine J_aload_n (pc := 102) X 1 d_Mo_conditions_102 rfl ?_
  refine J_dup (pc := 103) X d_Mo_conditions_103 rfl ?_
  obtain ⟨v1, ev1, hM⟩ := hb_some hM
  refine J_getI (pc := 104) X hc_Mo in_Mo 23 k_530 (by decide) rfl d_Mo_conditions_104 rfl ev1 ?_
  refine J_iload_n (pc := 107) X 0 d_Mo_conditions_107 rfl ?_
  refine J_if_eq (pc := 108) (tgt := 115) X d_Mo_conditions_108 (by decide) (fun c2 => ?_) (fun c2 => ?_)
  · have hM := hif_t hM c2
    refine J_iconst (pc := 115) (v := (0)) X d_Mo_conditions_115 (by decide) ?_
    refine J_sub [1, 0] rfl ?_
    exact w_Mo_conditions_116 Y R2 _ _ _ _ _ _ _ hM
  · have hM := hif_f hM c2
    refine J_iconst (pc := 111) (v := (1)) X d_Mo_conditions_111 (by decide) ?_
    refine J_goto (pc := 112) (tgt := 116) X d_Mo_conditions_112 (by decide) ?_
    refine J_sub [1, 0] rfl ?_
    exact w_Mo_conditions_116 Y R2 _ _ _ _ _ _ _ hM
set_option maxHeartbeats 4000000 in
set_option maxRecDepth 100000 in
theorem w_Mo_conditions_100 {p : Program} {l : Launch} {e : Env} {s : State} {m : MethodId} {args : Array Value} {below : List Frame} {meth : Method} {c : Code} {D : va_G} {K : (Nat → Nat) × (Nat → Nat)} {h0 : hH} (Y : HX p s m args meth c prog_14_method_17_code 3 "LicenceTextsModel" D K "conditions" none h0) {F : Nat} {r2 : hH → Nat → Int32 → Option hH} (R2 : ∀ (h : hH) (x0 : Nat) (x1 : Int32) (q : hH), r2 h x0 x1 = some q → J p l e rm_Mo_conditions s m args below meth c 3 D cls0 (hF h0) h [(0, .ref x0), (1, .int x1)] 0 0 (MQ below (hQ D cls0 h0 none q) args s 0 0 (hF h0)) 2 []) (h : hH) (x0 : Nat) (q : hH) (hM : M_Mo_conditions_100 F r2 h x0 = some q) : J p l e rm_Mo_conditions s m args below meth c 3 D cls0 (hF h0) h [(0, .ref x0)] 0 0 (MQ below (hQ D cls0 h0 none q) args s 0 0 (hF h0)) 100 [] := by
  obtain ⟨X, hr, hlk, hnm⟩ := id Y
  unfold M_Mo_conditions_100 at hM
  refine J_iconst (pc := 100) (v := (0)) X d_Mo_conditions_100 (by decide) ?_
  exact w_Mo_conditions_101 Y R2 _ _ _ _ hM
set_option maxHeartbeats 4000000 in
set_option maxRecDepth 100000 in
theorem w_Mo_conditions_80 {p : Program} {l : Launch} {e : Env} {s : State} {m : MethodId} {args : Array Value} {below : List Frame} {meth : Method} {c : Code} {D : va_G} {K : (Nat → Nat) × (Nat → Nat)} {h0 : hH} (Y : HX p s m args meth c prog_14_method_17_code 3 "LicenceTextsModel" D K "conditions" none h0) {F : Nat} {r2 : hH → Nat → Int32 → Option hH} (R2 : ∀ (h : hH) (x0 : Nat) (x1 : Int32) (q : hH), r2 h x0 x1 = some q → J p l e rm_Mo_conditions s m args below meth c 3 D cls0 (hF h0) h [(0, .ref x0), (1, .int x1)] 0 0 (MQ below (hQ D cls0 h0 none q) args s 0 0 (hF h0)) 2 []) (h : hH) (x0 : Nat) (q : hH) (hM : M_Mo_conditions_80 F r2 h x0 = some q) : J p l e rm_Mo_conditions s m args below meth c 3 D cls0 (hF h0) h [(0, .ref x0)] 0 0 (MQ below (hQ D cls0 h0 none q) args s 0 0 (hF h0)) 80 [] := by
  obtain ⟨X, hr, hlk, hnm⟩ := id Y
  unfold M_Mo_conditions_80 at hM
  refine J_aload_n (pc := 80) X 0 d_Mo_conditions_80 rfl ?_
  obtain ⟨v1, ev1, hM⟩ := hb_some hM
  refine J_getI (pc := 81) X hc_Mo in_Mo 24 k_531 (by decide) rfl d_Mo_conditions_81 rfl ev1 ?_
  refine J_if_ge (pc := 84) (tgt := 100) X d_Mo_conditions_84 (by decide) (fun c2 => ?_) (fun c2 => ?_)
  · have hM := hif_t hM c2
    exact w_Mo_conditions_100 Y R2 _ _ _ hM
  · have hM := hif_f hM c2
    refine J_aload_n (pc := 87) X 0 d_Mo_conditions_87 rfl ?_
    obtain ⟨u3, eu3, hM⟩ := hb_some hM
    obtain ⟨q4, eq4, hM⟩ := hb_some hM
    refine J_callV (pc := 88) (As := []) (rest := []) (o := (some (.int q4.1))) (h2 := q4.2) X rfl hc_Mo eu3 (c_Mo_now l D K F eq4) (cwV_of (nA := 0) X.fix k_536 k_538 k_539 k_515 k_537 ⟨rfl, rfl, rfl⟩ (by decide +kernel) ⟨Nat.le_of_ble_eq_true rfl, Nat.le_of_ble_eq_true rfl⟩) d_Mo_conditions_88 rfl rfl (Nat.le_of_ble_eq_true rfl) (Nat.le_of_ble_eq_true rfl) (Nat.le_of_ble_eq_true rfl) ?_
    refine J_bipush (pc := 91) (v := (-5)) X d_Mo_conditions_91 (by decide) ?_
    refine J_icmp_ne (pc := 93) (tgt := 100) X d_Mo_conditions_93 (by decide) (fun c5 => ?_) (fun c5 => ?_)
    · have hM := hif_f hM c5
      exact w_Mo_conditions_100 Y R2 _ _ _ hM
    · have hM := hif_t hM c5
      refine J_iconst (pc := 96) (v := (1)) X d_Mo_conditions_96 (by decide) ?_
      refine J_goto (pc := 97) (tgt := 101) X d_Mo_conditions_97 (by decide) ?_
      exact w_Mo_conditions_101 Y R2 _ _ _ _ hM
set_option maxHeartbeats 4000000 in
set_option maxRecDepth 100000 in
theorem w_Mo_conditions_47 {p : Program} {l : Launch} {e : Env} {s : State} {m : MethodId} {args : Array Value} {below : List Frame} {meth : Method} {c : Code} {D : va_G} {K : (Nat → Nat) × (Nat → Nat)} {h0 : hH} (Y : HX p s m args meth c prog_14_method_17_code 3 "LicenceTextsModel" D K "conditions" none h0) {F : Nat} {r2 : hH → Nat → Int32 → Option hH} (R2 : ∀ (h : hH) (x0 : Nat) (x1 : Int32) (q : hH), r2 h x0 x1 = some q → J p l e rm_Mo_conditions s m args below meth c 3 D cls0 (hF h0) h [(0, .ref x0), (1, .int x1)] 0 0 (MQ below (hQ D cls0 h0 none q) args s 0 0 (hF h0)) 2 []) (h : hH) (x0 : Nat) (x2 : Int32) (s0 : Nat) (s1 : Int32) (q : hH) (hM : M_Mo_conditions_47 F r2 h x0 x2 s0 s1 = some q) : J p l e rm_Mo_conditions s m args below meth c 3 D cls0 (hF h0) h [(0, .ref x0), (2, .int x2)] 0 0 (MQ below (hQ D cls0 h0 none q) args s 0 0 (hF h0)) 47 [.int s1, .ref s0] := by
  obtain ⟨X, hr, hlk, hnm⟩ := id Y
  unfold M_Mo_conditions_47 at hM
  obtain ⟨u1, eu1, hM⟩ := hb_some hM
  obtain ⟨q2, eq2, hM⟩ := hb_some hM
  refine J_callV (pc := 47) (As := [.int s1]) (rest := []) (o := (some (.int q2.1))) (h2 := q2.2) X rfl hc_Mo eu1 (c_Mo_want l D K F eq2) (cwV_of (nA := 1) X.fix k_532 k_534 k_535 k_515 k_533 ⟨rfl, rfl, rfl⟩ (by decide +kernel) ⟨Nat.le_of_ble_eq_true rfl, Nat.le_of_ble_eq_true rfl⟩) d_Mo_conditions_47 rfl rfl (Nat.le_of_ble_eq_true rfl) (Nat.le_of_ble_eq_true rfl) (Nat.le_of_ble_eq_true rfl) ?_
  refine J_if_eq (pc := 50) (tgt := 80) X d_Mo_conditions_50 (by decide) (fun c3 => ?_) (fun c3 => ?_)
  · have hM := hif_t hM c3
    refine J_sub [0] rfl ?_
    exact w_Mo_conditions_80 Y R2 _ _ _ hM
  · have hM := hif_f hM c3
    refine J_aload_n (pc := 53) X 0 d_Mo_conditions_53 rfl ?_
    refine J_dup (pc := 54) X d_Mo_conditions_54 rfl ?_
    obtain ⟨v4, ev4, hM⟩ := hb_some hM
    refine J_getI (pc := 55) X hc_Mo in_Mo 23 k_530 (by decide) rfl d_Mo_conditions_55 rfl ev4 ?_
    refine J_iconst (pc := 58) (v := (1)) X d_Mo_conditions_58 (by decide) ?_
    refine J_iadd (pc := 59) X d_Mo_conditions_59 ?_
    obtain ⟨h5, eh5, hM⟩ := hb_some hM
    refine J_put (pc := 60) X hc_Mo in_Mo t_Mo tk_Mo nk_Mo 23 k_530 (by decide) rfl rfl d_Mo_conditions_60 rfl rfl rfl eh5 ?_
    refine J_aload_n (pc := 63) X 0 d_Mo_conditions_63 rfl ?_
    obtain ⟨u6, eu6, hM⟩ := hb_some hM
    obtain ⟨h7, eh7, hM⟩ := hb_some hM
    refine J_callV (pc := 64) (As := []) (rest := []) (o := none) (h2 := h7) X rfl hc_Mo eu6 (c_Mo_sum l D K F eh7) (cwV_of (nA := 0) X.fix k_555 k_557 k_558 k_515 k_556 ⟨rfl, rfl, rfl⟩ (by decide +kernel) ⟨Nat.le_of_ble_eq_true rfl, Nat.le_of_ble_eq_true rfl⟩) d_Mo_conditions_64 rfl rfl (Nat.le_of_ble_eq_true rfl) (Nat.le_of_ble_eq_true rfl) (Nat.le_of_ble_eq_true rfl) ?_
    refine J_aload_n (pc := 67) X 0 d_Mo_conditions_67 rfl ?_
    obtain ⟨v8, ev8, hM⟩ := hb_some hM
    refine J_getI (pc := 68) X hc_Mo in_Mo 24 k_531 (by decide) rfl d_Mo_conditions_68 rfl ev8 ?_
    refine J_if_ge (pc := 71) (tgt := 80) X d_Mo_conditions_71 (by decide) (fun c9 => ?_) (fun c9 => ?_)
    · have hM := hif_t hM c9
      refine J_sub [0] rfl ?_
      exact w_Mo_conditions_80 Y R2 _ _ _ hM
    · have hM := hif_f hM c9
      refine J_aload_n (pc := 74) X 0 d_Mo_conditions_74 rfl ?_
      refine J_iload_n (pc := 75) X 1 d_Mo_conditions_75 rfl ?_
      refine J_iconst (pc := 76) (v := (0)) X d_Mo_conditions_76 (by decide) ?_
      obtain ⟨u10, eu10, hM⟩ := hb_some hM
      obtain ⟨h11, eh11, hM⟩ := hb_some hM
      refine J_callV (pc := 77) (As := [.int x2, .int 0]) (rest := []) (o := none) (h2 := h11) X rfl hc_Mo eu10 (c_Mo_put l D K F eh11) (cwV_of (nA := 2) X.fix k_545 k_547 k_548 k_515 k_546 ⟨rfl, rfl, rfl⟩ (by decide +kernel) ⟨Nat.le_of_ble_eq_true rfl, Nat.le_of_ble_eq_true rfl⟩) d_Mo_conditions_77 rfl rfl (Nat.le_of_ble_eq_true rfl) (Nat.le_of_ble_eq_true rfl) (Nat.le_of_ble_eq_true rfl) ?_
      refine J_sub [0] rfl ?_
      exact w_Mo_conditions_80 Y R2 _ _ _ hM
set_option maxHeartbeats 4000000 in
set_option maxRecDepth 100000 in
theorem w_Mo_conditions_46 {p : Program} {l : Launch} {e : Env} {s : State} {m : MethodId} {args : Array Value} {below : List Frame} {meth : Method} {c : Code} {D : va_G} {K : (Nat → Nat) × (Nat → Nat)} {h0 : hH} (Y : HX p s m args meth c prog_14_method_17_code 3 "LicenceTextsModel" D K "conditions" none h0) {F : Nat} {r2 : hH → Nat → Int32 → Option hH} (R2 : ∀ (h : hH) (x0 : Nat) (x1 : Int32) (q : hH), r2 h x0 x1 = some q → J p l e rm_Mo_conditions s m args below meth c 3 D cls0 (hF h0) h [(0, .ref x0), (1, .int x1)] 0 0 (MQ below (hQ D cls0 h0 none q) args s 0 0 (hF h0)) 2 []) (h : hH) (x0 : Nat) (x2 : Int32) (s0 : Nat) (q : hH) (hM : M_Mo_conditions_46 F r2 h x0 x2 s0 = some q) : J p l e rm_Mo_conditions s m args below meth c 3 D cls0 (hF h0) h [(0, .ref x0), (2, .int x2)] 0 0 (MQ below (hQ D cls0 h0 none q) args s 0 0 (hF h0)) 46 [.ref s0] := by
  obtain ⟨X, hr, hlk, hnm⟩ := id Y
  unfold M_Mo_conditions_46 at hM
  refine J_iconst (pc := 46) (v := (0)) X d_Mo_conditions_46 (by decide) ?_
  exact w_Mo_conditions_47 Y R2 _ _ _ _ _ _ hM
set_option maxHeartbeats 4000000 in
set_option maxRecDepth 100000 in
theorem b_Mo_conditions_2 {p : Program} {l : Launch} {e : Env} {s : State} {m : MethodId} {args : Array Value} {below : List Frame} {meth : Method} {c : Code} {D : va_G} {K : (Nat → Nat) × (Nat → Nat)} {h0 : hH} (Y : HX p s m args meth c prog_14_method_17_code 3 "LicenceTextsModel" D K "conditions" none h0) {F : Nat}   {r2 : hH → Nat → Int32 → Option hH} (R2 : ∀ (h : hH) (x0 : Nat) (x1 : Int32) (q : hH), r2 h x0 x1 = some q → J p l e rm_Mo_conditions s m args below meth c 3 D cls0 (hF h0) h [(0, .ref x0), (1, .int x1)] 0 0 (MQ below (hQ D cls0 h0 none q) args s 0 0 (hF h0)) 2 []) : ∀ (h : hH) (x0 : Nat) (x1 : Int32) (q : hH), B_Mo_conditions_2 F r2 h x0 x1 = some q → J p l e rm_Mo_conditions s m args below meth c 3 D cls0 (hF h0) h [(0, .ref x0), (1, .int x1)] 0 0 (MQ below (hQ D cls0 h0 none q) args s 0 0 (hF h0)) 2 [] := by
  intro h x0 x1 q hM
  obtain ⟨X, hr, hlk, hnm⟩ := id Y
  unfold B_Mo_conditions_2 at hM
  refine J_iload_n (pc := 2) X 1 d_Mo_conditions_2 rfl ?_
  refine J_if_eq (pc := 3) (tgt := 123) X d_Mo_conditions_3 (by decide) (fun c1 => ?_) (fun c1 => ?_)
  · have hM := hif_t hM c1
    obtain rfl := Option.some.inj hM
    exact J_vret (pc := 123) X hr hlk (Nat.le_of_ble_eq_true rfl) (Nat.le_of_ble_eq_true rfl) d_Mo_conditions_123
  · have hM := hif_f hM c1
    refine J_aload_n (pc := 6) X 0 d_Mo_conditions_6 rfl ?_
    obtain ⟨v2, ev2, hM⟩ := hb_some hM
    refine J_getI (pc := 7) X hc_Mo in_Mo 24 k_531 (by decide) rfl d_Mo_conditions_7 rfl ev2 ?_
    refine J_if_ge (pc := 10) (tgt := 123) X d_Mo_conditions_10 (by decide) (fun c3 => ?_) (fun c3 => ?_)
    · have hM := hif_t hM c3
      obtain rfl := Option.some.inj hM
      exact J_vret (pc := 123) X hr hlk (Nat.le_of_ble_eq_true rfl) (Nat.le_of_ble_eq_true rfl) d_Mo_conditions_123
    · have hM := hif_f hM c3
      refine J_aload_n (pc := 13) X 0 d_Mo_conditions_13 rfl ?_
      obtain ⟨u4, eu4, hM⟩ := hb_some hM
      obtain ⟨h5, eh5, hM⟩ := hb_some hM
      refine J_callV (pc := 14) (As := []) (rest := []) (o := none) (h2 := h5) X rfl hc_Mo eu4 (c_Mo_sum l D K F eh5) (cwV_of (nA := 0) X.fix k_555 k_557 k_558 k_515 k_556 ⟨rfl, rfl, rfl⟩ (by decide +kernel) ⟨Nat.le_of_ble_eq_true rfl, Nat.le_of_ble_eq_true rfl⟩) d_Mo_conditions_14 rfl rfl (Nat.le_of_ble_eq_true rfl) (Nat.le_of_ble_eq_true rfl) (Nat.le_of_ble_eq_true rfl) ?_
      refine J_aload_n (pc := 17) X 0 d_Mo_conditions_17 rfl ?_
      obtain ⟨u6, eu6, hM⟩ := hb_some hM
      obtain ⟨q7, eq7, hM⟩ := hb_some hM
      refine J_callV (pc := 18) (As := []) (rest := []) (o := (some (.int q7.1))) (h2 := q7.2) X rfl hc_Mo eu6 (c_Mo_now l D K F eq7) (cwV_of (nA := 0) X.fix k_536 k_538 k_539 k_515 k_537 ⟨rfl, rfl, rfl⟩ (by decide +kernel) ⟨Nat.le_of_ble_eq_true rfl, Nat.le_of_ble_eq_true rfl⟩) d_Mo_conditions_18 rfl rfl (Nat.le_of_ble_eq_true rfl) (Nat.le_of_ble_eq_true rfl) (Nat.le_of_ble_eq_true rfl) ?_
      refine J_istore_n (pc := 21) (lv' := [(2, .int q7.1), (0, .ref x0), (1, .int x1)]) X d_Mo_conditions_21 rfl (by decide) rfl ?_
      refine J_aload_n (pc := 22) X 1 d_Mo_conditions_22 rfl ?_
      obtain ⟨v8, ev8, hM⟩ := hb_some hM
      refine J_getI (pc := 23) X hc_Mo in_Mo 24 k_531 (by decide) rfl d_Mo_conditions_23 rfl ev8 ?_
      refine J_if_ge (pc := 26) (tgt := 80) X d_Mo_conditions_26 (by decide) (fun c9 => ?_) (fun c9 => ?_)
      · have hM := hif_t hM c9
        refine J_sub [1] rfl ?_
        exact w_Mo_conditions_80 Y R2 _ _ _ hM
      · have hM := hif_f hM c9
        refine J_aload_n (pc := 29) X 1 d_Mo_conditions_29 rfl ?_
        refine J_iload_n (pc := 30) X 0 d_Mo_conditions_30 rfl ?_
        refine J_bipush (pc := 31) (v := (-15)) X d_Mo_conditions_31 (by decide) ?_
        refine J_icmp_gt (pc := 33) (tgt := 46) X d_Mo_conditions_33 (by decide) (fun c10 => ?_) (fun c10 => ?_)
        · have hM := hif_t hM c10
          refine J_sub [1, 0] rfl ?_
          exact w_Mo_conditions_46 Y R2 _ _ _ _ _ hM
        · have hM := hif_f hM c10
          refine J_iload_n (pc := 36) X 0 d_Mo_conditions_36 rfl ?_
          refine J_bipush (pc := 37) (v := (-18)) X d_Mo_conditions_37 (by decide) ?_
          refine J_icmp_lt (pc := 39) (tgt := 46) X d_Mo_conditions_39 (by decide) (fun c11 => ?_) (fun c11 => ?_)
          · have hM := hif_t hM c11
            refine J_sub [1, 0] rfl ?_
            exact w_Mo_conditions_46 Y R2 _ _ _ _ _ hM
          · have hM := hif_f hM c11
            refine J_iconst (pc := 42) (v := (1)) X d_Mo_conditions_42 (by decide) ?_
            refine J_goto (pc := 43) (tgt := 47) X d_Mo_conditions_43 (by decide) ?_
            refine J_sub [1, 0] rfl ?_
            exact w_Mo_conditions_47 Y R2 _ _ _ _ _ _ hM
theorem w_Mo_conditions_2 {p : Program} {l : Launch} {e : Env} {s : State} {m : MethodId} {args : Array Value} {below : List Frame} {meth : Method} {c : Code} {D : va_G} {K : (Nat → Nat) × (Nat → Nat)} {h0 : hH} (Y : HX p s m args meth c prog_14_method_17_code 3 "LicenceTextsModel" D K "conditions" none h0) {F : Nat} : ∀ z : Nat, ∀ (h : hH) (x0 : Nat) (x1 : Int32) (q : hH), M_Mo_conditions_2 F z h x0 x1 = some q → J p l e rm_Mo_conditions s m args below meth c 3 D cls0 (hF h0) h [(0, .ref x0), (1, .int x1)] 0 0 (MQ below (hQ D cls0 h0 none q) args s 0 0 (hF h0)) 2 [] := by
  intro z
  induction z with
  | zero => intro h x0 x1 q hM; exact absurd (show (none : Option _) = some q from hM) (fun t => by cases t)
  | succ z ih => exact b_Mo_conditions_2 Y ih
set_option maxHeartbeats 4000000 in
set_option maxRecDepth 100000 in
theorem c_Mo_conditions (l : Launch) (D : va_G) (K : (Nat → Nat) × (Nat → Nat)) (F : Nat) {h : hH} {x0 : Nat} {q : hH} (hM : M_Mo_conditions F h x0 = some q) : Met l y_Mo_conditions (.code y_Mo_conditions prog_14_method_17_code 3 none :: T0) rm_Mo_conditions (hPc hG D cls0 K [.ref x0] h) (hQ D cls0 h none q) 0 0 (hF h) := by
  refine J_met (lv := [(0, .ref x0)]) (by decide) (Nat.le_of_ble_eq_true rfl) rfl ?_
  intro p e s m below meth c X hr hlk hnm
  have Y : HX p s m _ meth c prog_14_method_17_code 3 "LicenceTextsModel" D K "conditions" none h := ⟨X, hr, hlk, hnm⟩
  unfold M_Mo_conditions at hM
  refine J_iconst (pc := 0) (v := (1)) X d_Mo_conditions_0 (by decide) ?_
  refine J_istore_n (pc := 1) (lv' := [(1, .int 1), (0, .ref x0)]) X d_Mo_conditions_1 rfl (by decide) rfl ?_
  refine J_sub [1, 0] rfl ?_
  exact w_Mo_conditions_2 Y F _ _ _ _ hM
abbrev rm_Mo_rule : Room := { frames := 3, cells := 0, slots := 0, locals := 70 }
set_option maxHeartbeats 4000000 in
set_option maxRecDepth 100000 in
theorem w_Mo_rule_135 {p : Program} {l : Launch} {e : Env} {s : State} {m : MethodId} {args : Array Value} {below : List Frame} {meth : Method} {c : Code} {D : va_G} {K : (Nat → Nat) × (Nat → Nat)} {h0 : hH} (Y : HX p s m args meth c prog_14_method_18_code 3 "LicenceTextsModel" D K "rule" none h0) {F : Nat} (h : hH) (x0 : Nat) (x1 : Int32) (q : hH) (hM : M_Mo_rule_135 F h x0 x1 = some q) : J p l e rm_Mo_rule s m args below meth c 3 D cls0 (hF h0) h [(0, .ref x0), (1, .int x1)] 0 0 (MQ below (hQ D cls0 h0 none q) args s 0 0 (hF h0)) 135 [] := by
  obtain ⟨X, hr, hlk, hnm⟩ := id Y
  unfold M_Mo_rule_135 at hM
  refine J_aload_n (pc := 135) X 0 d_Mo_rule_135 rfl ?_
  obtain ⟨v1, ev1, hM⟩ := hb_some hM
  refine J_getI (pc := 136) X hc_Mo in_Mo 24 k_531 (by decide) rfl d_Mo_rule_136 rfl ev1 ?_
  refine J_if_ge (pc := 139) (tgt := 186) X d_Mo_rule_139 (by decide) (fun c2 => ?_) (fun c2 => ?_)
  · have hM := hif_t hM c2
    obtain rfl := Option.some.inj hM
    exact J_vret (pc := 186) X hr hlk (Nat.le_of_ble_eq_true rfl) (Nat.le_of_ble_eq_true rfl) d_Mo_rule_186
  · have hM := hif_f hM c2
    refine J_aload_n (pc := 142) X 0 d_Mo_rule_142 rfl ?_
    refine J_bipush (pc := 143) (v := (-19)) X d_Mo_rule_143 (by decide) ?_
    obtain ⟨u3, eu3, hM⟩ := hb_some hM
    obtain ⟨q4, eq4, hM⟩ := hb_some hM
    refine J_callV (pc := 145) (As := [.int (-19)]) (rest := []) (o := (some (.int q4.1))) (h2 := q4.2) X rfl hc_Mo eu3 (c_Mo_needs l D K F eq4) (cwV_of (nA := 1) X.fix k_541 k_543 k_544 k_515 k_542 ⟨rfl, rfl, rfl⟩ (by decide +kernel) ⟨Nat.le_of_ble_eq_true rfl, Nat.le_of_ble_eq_true rfl⟩) d_Mo_rule_145 rfl rfl (Nat.le_of_ble_eq_true rfl) (Nat.le_of_ble_eq_true rfl) (Nat.le_of_ble_eq_true rfl) ?_
    refine J_if_eq (pc := 148) (tgt := 186) X d_Mo_rule_148 (by decide) (fun c5 => ?_) (fun c5 => ?_)
    · have hM := hif_t hM c5
      obtain rfl := Option.some.inj hM
      exact J_vret (pc := 186) X hr hlk (Nat.le_of_ble_eq_true rfl) (Nat.le_of_ble_eq_true rfl) d_Mo_rule_186
    · have hM := hif_f hM c5
      refine J_aload_n (pc := 151) X 0 d_Mo_rule_151 rfl ?_
      obtain ⟨v6, ev6, hM⟩ := hb_some hM
      refine J_getA (pc := 152) X hc_Mo in_Mo 16 k_494 (by decide) rfl d_Mo_rule_152 rfl ev6 ?_
      refine J_iload_n (pc := 155) X 1 d_Mo_rule_155 rfl ?_
      refine J_aload_n (pc := 156) X 0 d_Mo_rule_156 rfl ?_
      obtain ⟨v7, ev7, hM⟩ := hb_some hM
      refine J_getI (pc := 157) X hc_Mo in_Mo 21 k_540 (by decide) rfl d_Mo_rule_157 rfl ev7 ?_
      obtain ⟨h8, eh8, hM⟩ := hb_some hM
      refine J_iast (pc := 160) X d_Mo_rule_160 rfl eh8 ?_
      refine J_aload_n (pc := 161) X 0 d_Mo_rule_161 rfl ?_
      obtain ⟨v9, ev9, hM⟩ := hb_some hM
      refine J_getA (pc := 162) X hc_Mo in_Mo 18 k_496 (by decide) rfl d_Mo_rule_162 rfl ev9 ?_
      refine J_iload_n (pc := 165) X 1 d_Mo_rule_165 rfl ?_
      refine J_aload_n (pc := 166) X 0 d_Mo_rule_166 rfl ?_
      obtain ⟨v10, ev10, hM⟩ := hb_some hM
      refine J_getI (pc := 167) X hc_Mo in_Mo 23 k_530 (by decide) rfl d_Mo_rule_167 rfl ev10 ?_
      refine J_iconst (pc := 170) (v := (2)) X d_Mo_rule_170 (by decide) ?_
      refine J_isub (pc := 171) X d_Mo_rule_171 ?_
      obtain ⟨h11, eh11, hM⟩ := hb_some hM
      refine J_iast (pc := 172) X d_Mo_rule_172 rfl eh11 ?_
      refine J_aload_n (pc := 173) X 0 d_Mo_rule_173 rfl ?_
      obtain ⟨v12, ev12, hM⟩ := hb_some hM
      refine J_getA (pc := 174) X hc_Mo in_Mo 13 k_491 (by decide) rfl d_Mo_rule_174 rfl ev12 ?_
      refine J_aload_n (pc := 177) X 0 d_Mo_rule_177 rfl ?_
      obtain ⟨v13, ev13, hM⟩ := hb_some hM
      refine J_getI (pc := 178) X hc_Mo in_Mo 22 k_522 (by decide) rfl d_Mo_rule_178 rfl ev13 ?_
      refine J_dup2 (pc := 181) X d_Mo_rule_181 rfl rfl ?_
      obtain ⟨v14, ev14, hM⟩ := hb_some hM
      refine J_iald (pc := 182) X d_Mo_rule_182 rfl ev14 ?_
      refine J_iconst (pc := 183) (v := (1)) X d_Mo_rule_183 (by decide) ?_
      refine J_iadd (pc := 184) X d_Mo_rule_184 ?_
      obtain ⟨h15, eh15, hM⟩ := hb_some hM
      refine J_iast (pc := 185) X d_Mo_rule_185 rfl eh15 ?_
      obtain rfl := Option.some.inj hM
      exact J_vret (pc := 186) X hr hlk (Nat.le_of_ble_eq_true rfl) (Nat.le_of_ble_eq_true rfl) d_Mo_rule_186
set_option maxHeartbeats 4000000 in
set_option maxRecDepth 100000 in
theorem w_Mo_rule_59 {p : Program} {l : Launch} {e : Env} {s : State} {m : MethodId} {args : Array Value} {below : List Frame} {meth : Method} {c : Code} {D : va_G} {K : (Nat → Nat) × (Nat → Nat)} {h0 : hH} (Y : HX p s m args meth c prog_14_method_18_code 3 "LicenceTextsModel" D K "rule" none h0) {F : Nat} (h : hH) (x0 : Nat) (x1 : Int32) (s0 : Int32) (q : hH) (hM : M_Mo_rule_59 F h x0 x1 s0 = some q) : J p l e rm_Mo_rule s m args below meth c 3 D cls0 (hF h0) h [(0, .ref x0), (1, .int x1)] 0 0 (MQ below (hQ D cls0 h0 none q) args s 0 0 (hF h0)) 59 [.int s0] := by
  obtain ⟨X, hr, hlk, hnm⟩ := id Y
  unfold M_Mo_rule_59 at hM
  refine J_istore_n (pc := 59) (lv' := [(2, .int s0), (0, .ref x0), (1, .int x1)]) X d_Mo_rule_59 rfl (by decide) rfl ?_
  refine J_aload_n (pc := 60) X 1 d_Mo_rule_60 rfl ?_
  obtain ⟨v1, ev1, hM⟩ := hb_some hM
  refine J_getA (pc := 61) X hc_Mo in_Mo 14 k_492 (by decide) rfl d_Mo_rule_61 rfl ev1 ?_
  refine J_iload_n (pc := 64) X 2 d_Mo_rule_64 rfl ?_
  refine J_aload_n (pc := 65) X 1 d_Mo_rule_65 rfl ?_
  obtain ⟨v2, ev2, hM⟩ := hb_some hM
  refine J_getI (pc := 66) X hc_Mo in_Mo 21 k_540 (by decide) rfl d_Mo_rule_66 rfl ev2 ?_
  obtain ⟨h3, eh3, hM⟩ := hb_some hM
  refine J_iast (pc := 69) X d_Mo_rule_69 rfl eh3 ?_
  refine J_aload_n (pc := 70) X 1 d_Mo_rule_70 rfl ?_
  obtain ⟨v4, ev4, hM⟩ := hb_some hM
  refine J_getA (pc := 71) X hc_Mo in_Mo 15 k_493 (by decide) rfl d_Mo_rule_71 rfl ev4 ?_
  refine J_iload_n (pc := 74) X 2 d_Mo_rule_74 rfl ?_
  refine J_iconst (pc := 75) (v := (-1)) X d_Mo_rule_75 (by decide) ?_
  obtain ⟨h5, eh5, hM⟩ := hb_some hM
  refine J_iast (pc := 76) X d_Mo_rule_76 rfl eh5 ?_
  refine J_aload_n (pc := 77) X 1 d_Mo_rule_77 rfl ?_
  obtain ⟨v6, ev6, hM⟩ := hb_some hM
  refine J_getA (pc := 78) X hc_Mo in_Mo 17 k_495 (by decide) rfl d_Mo_rule_78 rfl ev6 ?_
  refine J_iload_n (pc := 81) X 2 d_Mo_rule_81 rfl ?_
  refine J_aload_n (pc := 82) X 1 d_Mo_rule_82 rfl ?_
  obtain ⟨v7, ev7, hM⟩ := hb_some hM
  refine J_getI (pc := 83) X hc_Mo in_Mo 23 k_530 (by decide) rfl d_Mo_rule_83 rfl ev7 ?_
  obtain ⟨h8, eh8, hM⟩ := hb_some hM
  refine J_iast (pc := 86) X d_Mo_rule_86 rfl eh8 ?_
  refine J_aload_n (pc := 87) X 1 d_Mo_rule_87 rfl ?_
  refine J_dup (pc := 88) X d_Mo_rule_88 rfl ?_
  obtain ⟨v9, ev9, hM⟩ := hb_some hM
  refine J_getI (pc := 89) X hc_Mo in_Mo 23 k_530 (by decide) rfl d_Mo_rule_89 rfl ev9 ?_
  refine J_iconst (pc := 92) (v := (1)) X d_Mo_rule_92 (by decide) ?_
  refine J_iadd (pc := 93) X d_Mo_rule_93 ?_
  obtain ⟨h10, eh10, hM⟩ := hb_some hM
  refine J_put (pc := 94) X hc_Mo in_Mo t_Mo tk_Mo nk_Mo 23 k_530 (by decide) rfl rfl d_Mo_rule_94 rfl rfl rfl eh10 ?_
  refine J_aload_n (pc := 97) X 1 d_Mo_rule_97 rfl ?_
  obtain ⟨u11, eu11, hM⟩ := hb_some hM
  obtain ⟨h12, eh12, hM⟩ := hb_some hM
  refine J_callV (pc := 98) (As := []) (rest := []) (o := none) (h2 := h12) X rfl hc_Mo eu11 (c_Mo_conditions l D K F eh12) (cwV_of (nA := 0) X.fix k_559 k_561 k_562 k_515 k_560 ⟨rfl, rfl, rfl⟩ (by decide +kernel) ⟨Nat.le_of_ble_eq_true rfl, Nat.le_of_ble_eq_true rfl⟩) d_Mo_rule_98 rfl rfl (Nat.le_of_ble_eq_true rfl) (Nat.le_of_ble_eq_true rfl) (Nat.le_of_ble_eq_true rfl) ?_
  refine J_aload_n (pc := 101) X 1 d_Mo_rule_101 rfl ?_
  obtain ⟨v13, ev13, hM⟩ := hb_some hM
  refine J_getI (pc := 102) X hc_Mo in_Mo 24 k_531 (by decide) rfl d_Mo_rule_102 rfl ev13 ?_
  refine J_if_ge (pc := 105) (tgt := 135) X d_Mo_rule_105 (by decide) (fun c14 => ?_) (fun c14 => ?_)
  · have hM := hif_t hM c14
    refine J_sub [1, 2] rfl ?_
    exact w_Mo_rule_135 Y _ _ _ _ hM
  · have hM := hif_f hM c14
    refine J_iload_n (pc := 108) X 0 d_Mo_rule_108 rfl ?_
    refine J_if_eq (pc := 109) (tgt := 135) X d_Mo_rule_109 (by decide) (fun c15 => ?_) (fun c15 => ?_)
    · have hM := hif_t hM c15
      refine J_sub [1, 2] rfl ?_
      exact w_Mo_rule_135 Y _ _ _ _ hM
    · have hM := hif_f hM c15
      refine J_aload_n (pc := 112) X 1 d_Mo_rule_112 rfl ?_
      refine J_bipush (pc := 113) (v := (-4)) X d_Mo_rule_113 (by decide) ?_
      obtain ⟨u16, eu16, hM⟩ := hb_some hM
      obtain ⟨q17, eq17, hM⟩ := hb_some hM
      refine J_callV (pc := 115) (As := [.int (-4)]) (rest := []) (o := (some (.int q17.1))) (h2 := q17.2) X rfl hc_Mo eu16 (c_Mo_needs l D K F eq17) (cwV_of (nA := 1) X.fix k_541 k_543 k_544 k_515 k_542 ⟨rfl, rfl, rfl⟩ (by decide +kernel) ⟨Nat.le_of_ble_eq_true rfl, Nat.le_of_ble_eq_true rfl⟩) d_Mo_rule_115 rfl rfl (Nat.le_of_ble_eq_true rfl) (Nat.le_of_ble_eq_true rfl) (Nat.le_of_ble_eq_true rfl) ?_
      refine J_if_eq (pc := 118) (tgt := 135) X d_Mo_rule_118 (by decide) (fun c18 => ?_) (fun c18 => ?_)
      · have hM := hif_t hM c18
        refine J_sub [1, 2] rfl ?_
        exact w_Mo_rule_135 Y _ _ _ _ hM
      · have hM := hif_f hM c18
        refine J_aload_n (pc := 121) X 1 d_Mo_rule_121 rfl ?_
        obtain ⟨v19, ev19, hM⟩ := hb_some hM
        refine J_getA (pc := 122) X hc_Mo in_Mo 15 k_493 (by decide) rfl d_Mo_rule_122 rfl ev19 ?_
        refine J_iload_n (pc := 125) X 2 d_Mo_rule_125 rfl ?_
        refine J_aload_n (pc := 126) X 1 d_Mo_rule_126 rfl ?_
        obtain ⟨v20, ev20, hM⟩ := hb_some hM
        refine J_getI (pc := 127) X hc_Mo in_Mo 21 k_540 (by decide) rfl d_Mo_rule_127 rfl ev20 ?_
        obtain ⟨h21, eh21, hM⟩ := hb_some hM
        refine J_iast (pc := 130) X d_Mo_rule_130 rfl eh21 ?_
        refine J_aload_n (pc := 131) X 1 d_Mo_rule_131 rfl ?_
        obtain ⟨u22, eu22, hM⟩ := hb_some hM
        obtain ⟨h23, eh23, hM⟩ := hb_some hM
        refine J_callV (pc := 132) (As := []) (rest := []) (o := none) (h2 := h23) X rfl hc_Mo eu22 (c_Mo_conditions l D K F eh23) (cwV_of (nA := 0) X.fix k_559 k_561 k_562 k_515 k_560 ⟨rfl, rfl, rfl⟩ (by decide +kernel) ⟨Nat.le_of_ble_eq_true rfl, Nat.le_of_ble_eq_true rfl⟩) d_Mo_rule_132 rfl rfl (Nat.le_of_ble_eq_true rfl) (Nat.le_of_ble_eq_true rfl) (Nat.le_of_ble_eq_true rfl) ?_
        refine J_sub [1, 2] rfl ?_
        exact w_Mo_rule_135 Y _ _ _ _ hM
set_option maxHeartbeats 4000000 in
set_option maxRecDepth 100000 in
theorem w_Mo_rule_38 {p : Program} {l : Launch} {e : Env} {s : State} {m : MethodId} {args : Array Value} {below : List Frame} {meth : Method} {c : Code} {D : va_G} {K : (Nat → Nat) × (Nat → Nat)} {h0 : hH} (Y : HX p s m args meth c prog_14_method_18_code 3 "LicenceTextsModel" D K "rule" none h0) {F : Nat} (h : hH) (x0 : Nat) (x1 : Int32) (s0 : Nat) (s1 : Int32) (q : hH) (hM : M_Mo_rule_38 F h x0 x1 s0 s1 = some q) : J p l e rm_Mo_rule s m args below meth c 3 D cls0 (hF h0) h [(0, .ref x0), (1, .int x1)] 0 0 (MQ below (hQ D cls0 h0 none q) args s 0 0 (hF h0)) 38 [.int s1, .ref s0] := by
  obtain ⟨X, hr, hlk, hnm⟩ := id Y
  unfold M_Mo_rule_38 at hM
  obtain ⟨u1, eu1, hM⟩ := hb_some hM
  obtain ⟨q2, eq2, hM⟩ := hb_some hM
  refine J_callV (pc := 38) (As := [.int s1]) (rest := []) (o := (some (.int q2.1))) (h2 := q2.2) X rfl hc_Mo eu1 (c_Mo_want l D K F eq2) (cwV_of (nA := 1) X.fix k_532 k_534 k_535 k_515 k_533 ⟨rfl, rfl, rfl⟩ (by decide +kernel) ⟨Nat.le_of_ble_eq_true rfl, Nat.le_of_ble_eq_true rfl⟩) d_Mo_rule_38 rfl rfl (Nat.le_of_ble_eq_true rfl) (Nat.le_of_ble_eq_true rfl) (Nat.le_of_ble_eq_true rfl) ?_
  refine J_if_ne (pc := 41) (tgt := 45) X d_Mo_rule_41 (by decide) (fun c3 => ?_) (fun c3 => ?_)
  · have hM := hif_f hM c3
    refine J_aload_n (pc := 45) X 0 d_Mo_rule_45 rfl ?_
    obtain ⟨u4, eu4, hM⟩ := hb_some hM
    obtain ⟨q5, eq5, hM⟩ := hb_some hM
    refine J_callV (pc := 46) (As := []) (rest := []) (o := (some (.int q5.1))) (h2 := q5.2) X rfl hc_Mo eu4 (c_Mo_now l D K F eq5) (cwV_of (nA := 0) X.fix k_536 k_538 k_539 k_515 k_537 ⟨rfl, rfl, rfl⟩ (by decide +kernel) ⟨Nat.le_of_ble_eq_true rfl, Nat.le_of_ble_eq_true rfl⟩) d_Mo_rule_46 rfl rfl (Nat.le_of_ble_eq_true rfl) (Nat.le_of_ble_eq_true rfl) (Nat.le_of_ble_eq_true rfl) ?_
    refine J_bipush (pc := 49) (v := (-3)) X d_Mo_rule_49 (by decide) ?_
    refine J_icmp_ne (pc := 51) (tgt := 58) X d_Mo_rule_51 (by decide) (fun c6 => ?_) (fun c6 => ?_)
    · have hM := hif_f hM c6
      refine J_iconst (pc := 58) (v := (0)) X d_Mo_rule_58 (by decide) ?_
      exact w_Mo_rule_59 Y _ _ _ _ _ hM
    · have hM := hif_t hM c6
      refine J_iconst (pc := 54) (v := (1)) X d_Mo_rule_54 (by decide) ?_
      refine J_goto (pc := 55) (tgt := 59) X d_Mo_rule_55 (by decide) ?_
      exact w_Mo_rule_59 Y _ _ _ _ _ hM
  · have hM := hif_t hM c3
    obtain rfl := Option.some.inj hM
    exact J_vret (pc := 44) X hr hlk (Nat.le_of_ble_eq_true rfl) (Nat.le_of_ble_eq_true rfl) d_Mo_rule_44
set_option maxHeartbeats 4000000 in
set_option maxRecDepth 100000 in
theorem c_Mo_rule (l : Launch) (D : va_G) (K : (Nat → Nat) × (Nat → Nat)) (F : Nat) {h : hH} {x0 : Nat} {q : hH} (hM : M_Mo_rule F h x0 = some q) : Met l y_Mo_rule (.code y_Mo_rule prog_14_method_18_code 3 none :: T0) rm_Mo_rule (hPc hG D cls0 K [.ref x0] h) (hQ D cls0 h none q) 0 0 (hF h) := by
  refine J_met (lv := [(0, .ref x0)]) (by decide) (Nat.le_of_ble_eq_true rfl) rfl ?_
  intro p e s m below meth c X hr hlk hnm
  have Y : HX p s m _ meth c prog_14_method_18_code 3 "LicenceTextsModel" D K "rule" none h := ⟨X, hr, hlk, hnm⟩
  unfold M_Mo_rule at hM
  refine J_bipush (pc := 0) (v := (12)) X d_Mo_rule_0 (by decide) ?_
  refine J_aload_n (pc := 2) X 0 d_Mo_rule_2 rfl ?_
  obtain ⟨v1, ev1, hM⟩ := hb_some hM
  refine J_getI (pc := 3) X hc_Mo in_Mo 22 k_522 (by decide) rfl d_Mo_rule_3 rfl ev1 ?_
  refine J_imul (pc := 6) X d_Mo_rule_6 ?_
  refine J_aload_n (pc := 7) X 0 d_Mo_rule_7 rfl ?_
  obtain ⟨v2, ev2, hM⟩ := hb_some hM
  refine J_getA (pc := 8) X hc_Mo in_Mo 13 k_491 (by decide) rfl d_Mo_rule_8 rfl ev2 ?_
  refine J_aload_n (pc := 11) X 0 d_Mo_rule_11 rfl ?_
  obtain ⟨v3, ev3, hM⟩ := hb_some hM
  refine J_getI (pc := 12) X hc_Mo in_Mo 22 k_522 (by decide) rfl d_Mo_rule_12 rfl ev3 ?_
  obtain ⟨v4, ev4, hM⟩ := hb_some hM
  refine J_iald (pc := 15) X d_Mo_rule_15 rfl ev4 ?_
  refine J_iadd (pc := 16) X d_Mo_rule_16 ?_
  refine J_istore_n (pc := 17) (lv' := [(1, .int ((12 * v1) + v4)), (0, .ref x0)]) X d_Mo_rule_17 rfl (by decide) rfl ?_
  refine J_aload_n (pc := 18) X 1 d_Mo_rule_18 rfl ?_
  refine J_aload_n (pc := 19) X 1 d_Mo_rule_19 rfl ?_
  obtain ⟨v5, ev5, hM⟩ := hb_some hM
  refine J_getA (pc := 20) X hc_Mo in_Mo 13 k_491 (by decide) rfl d_Mo_rule_20 rfl ev5 ?_
  refine J_aload_n (pc := 23) X 1 d_Mo_rule_23 rfl ?_
  obtain ⟨v6, ev6, hM⟩ := hb_some hM
  refine J_getI (pc := 24) X hc_Mo in_Mo 22 k_522 (by decide) rfl d_Mo_rule_24 rfl ev6 ?_
  obtain ⟨v7, ev7, hM⟩ := hb_some hM
  refine J_iald (pc := 27) X d_Mo_rule_27 rfl ev7 ?_
  refine J_bipush (pc := 28) (v := (12)) X d_Mo_rule_28 (by decide) ?_
  refine J_icmp_ge (pc := 30) (tgt := 37) X d_Mo_rule_30 (by decide) (fun c8 => ?_) (fun c8 => ?_)
  · have hM := hif_t hM c8
    refine J_iconst (pc := 37) (v := (0)) X d_Mo_rule_37 (by decide) ?_
    refine J_sub [1, 0] rfl ?_
    exact w_Mo_rule_38 Y _ _ _ _ _ _ hM
  · have hM := hif_f hM c8
    refine J_iconst (pc := 33) (v := (1)) X d_Mo_rule_33 (by decide) ?_
    refine J_goto (pc := 34) (tgt := 38) X d_Mo_rule_34 (by decide) ?_
    refine J_sub [1, 0] rfl ?_
    exact w_Mo_rule_38 Y _ _ _ _ _ _ hM
abbrev rm_Mo_read : Room := { frames := 4, cells := 0, slots := 0, locals := 97 }
set_option maxHeartbeats 4000000 in
set_option maxRecDepth 100000 in
theorem w_Mo_read_188 {p : Program} {l : Launch} {e : Env} {s : State} {m : MethodId} {args : Array Value} {below : List Frame} {meth : Method} {c : Code} {D : va_G} {K : (Nat → Nat) × (Nat → Nat)} {h0 : hH} (Y : HX p s m args meth c prog_14_method_19_code 2 "LicenceTextsModel" D K "read" (some .int) h0) {F : Nat} (h : hH) (x0 : Nat) (x1 : Int32) (q : (Int32 × hH)) (hM : M_Mo_read_188 F h x0 x1 = some q) : J p l e rm_Mo_read s m args below meth c 2 D cls0 (hF h0) h [(0, .ref x0), (1, .int x1)] 0 0 (MQ below (hQ D cls0 h0 (some (.int q.1)) q.2) args s 0 0 (hF h0)) 188 [] := by
  obtain ⟨X, hr, hlk, hnm⟩ := id Y
  unfold M_Mo_read_188 at hM
  refine J_aload_n (pc := 188) X 0 d_Mo_read_188 rfl ?_
  obtain ⟨v1, ev1, hM⟩ := hb_some hM
  refine J_getI (pc := 189) X hc_Mo in_Mo 24 k_531 (by decide) rfl d_Mo_read_189 rfl ev1 ?_
  refine J_if_lt (pc := 192) (tgt := 202) X d_Mo_read_192 (by decide) (fun c2 => ?_) (fun c2 => ?_)
  · have hM := hif_t hM c2
    refine J_aload_n (pc := 202) X 0 d_Mo_read_202 rfl ?_
    obtain ⟨v3, ev3, hM⟩ := hb_some hM
    refine J_getA (pc := 203) X hc_Mo in_Mo 4 k_482 (by decide) rfl d_Mo_read_203 rfl ev3 ?_
    refine J_aload_n (pc := 206) X 0 d_Mo_read_206 rfl ?_
    obtain ⟨v4, ev4, hM⟩ := hb_some hM
    refine J_getI (pc := 207) X hc_Mo in_Mo 22 k_522 (by decide) rfl d_Mo_read_207 rfl ev4 ?_
    refine J_iload_n (pc := 210) X 1 d_Mo_read_210 rfl ?_
    obtain ⟨h5, eh5, hM⟩ := hb_some hM
    refine J_iast (pc := 211) X d_Mo_read_211 rfl eh5 ?_
    refine J_aload_n (pc := 212) X 0 d_Mo_read_212 rfl ?_
    refine J_dup (pc := 213) X d_Mo_read_213 rfl ?_
    obtain ⟨v6, ev6, hM⟩ := hb_some hM
    refine J_getI (pc := 214) X hc_Mo in_Mo 3 k_563 (by decide) rfl d_Mo_read_214 rfl ev6 ?_
    refine J_iconst (pc := 217) (v := (1)) X d_Mo_read_217 (by decide) ?_
    refine J_iadd (pc := 218) X d_Mo_read_218 ?_
    obtain ⟨h7, eh7, hM⟩ := hb_some hM
    refine J_put (pc := 219) X hc_Mo in_Mo t_Mo tk_Mo nk_Mo 3 k_563 (by decide) rfl rfl d_Mo_read_219 rfl rfl rfl eh7 ?_
    refine J_aload_n (pc := 222) X 0 d_Mo_read_222 rfl ?_
    obtain ⟨v8, ev8, hM⟩ := hb_some hM
    refine J_getA (pc := 223) X hc_Mo in_Mo 13 k_491 (by decide) rfl d_Mo_read_223 rfl ev8 ?_
    refine J_aload_n (pc := 226) X 0 d_Mo_read_226 rfl ?_
    obtain ⟨v9, ev9, hM⟩ := hb_some hM
    refine J_getI (pc := 227) X hc_Mo in_Mo 22 k_522 (by decide) rfl d_Mo_read_227 rfl ev9 ?_
    obtain ⟨v10, ev10, hM⟩ := hb_some hM
    refine J_iald (pc := 230) X d_Mo_read_230 rfl ev10 ?_
    obtain rfl := Option.some.inj hM
    exact J_iret (pc := 231) X hr hlk (Nat.le_of_ble_eq_true rfl) (Nat.le_of_ble_eq_true rfl) d_Mo_read_231
  · have hM := hif_f hM c2
    refine J_iconst (pc := 195) (v := (-1)) X d_Mo_read_195 (by decide) ?_
    refine J_aload_n (pc := 196) X 0 d_Mo_read_196 rfl ?_
    obtain ⟨v11, ev11, hM⟩ := hb_some hM
    refine J_getI (pc := 197) X hc_Mo in_Mo 24 k_531 (by decide) rfl d_Mo_read_197 rfl ev11 ?_
    refine J_isub (pc := 200) X d_Mo_read_200 ?_
    obtain rfl := Option.some.inj hM
    exact J_iret (pc := 201) X hr hlk (Nat.le_of_ble_eq_true rfl) (Nat.le_of_ble_eq_true rfl) d_Mo_read_201
set_option maxHeartbeats 4000000 in
set_option maxRecDepth 100000 in
theorem w_Mo_read_175 {p : Program} {l : Launch} {e : Env} {s : State} {m : MethodId} {args : Array Value} {below : List Frame} {meth : Method} {c : Code} {D : va_G} {K : (Nat → Nat) × (Nat → Nat)} {h0 : hH} (Y : HX p s m args meth c prog_14_method_19_code 2 "LicenceTextsModel" D K "read" (some .int) h0) {F : Nat} {r113 : hH → Nat → Int32 → Option (Int32 × hH)} (R113 : ∀ (h : hH) (x0 : Nat) (x1 : Int32) (q : (Int32 × hH)), r113 h x0 x1 = some q → J p l e rm_Mo_read s m args below meth c 2 D cls0 (hF h0) h [(0, .ref x0), (1, .int x1)] 0 0 (MQ below (hQ D cls0 h0 (some (.int q.1)) q.2) args s 0 0 (hF h0)) 113 []) (h : hH) (x0 : Nat) (x1 : Int32) (s0 : Nat) (s1 : Int32) (q : (Int32 × hH)) (hM : M_Mo_read_175 F r113 h x0 x1 s0 s1 = some q) : J p l e rm_Mo_read s m args below meth c 2 D cls0 (hF h0) h [(0, .ref x0), (1, .int x1)] 0 0 (MQ below (hQ D cls0 h0 (some (.int q.1)) q.2) args s 0 0 (hF h0)) 175 [.int s1, .ref s0] := by
  obtain ⟨X, hr, hlk, hnm⟩ := id Y
  unfold M_Mo_read_175 at hM
  obtain ⟨u1, eu1, hM⟩ := hb_some hM
  obtain ⟨q2, eq2, hM⟩ := hb_some hM
  refine J_callV (pc := 175) (As := [.int s1]) (rest := []) (o := (some (.int q2.1))) (h2 := q2.2) X rfl hc_Mo eu1 (c_Mo_want l D K F eq2) (cwV_of (nA := 1) X.fix k_532 k_534 k_535 k_515 k_533 ⟨rfl, rfl, rfl⟩ (by decide +kernel) ⟨Nat.le_of_ble_eq_true rfl, Nat.le_of_ble_eq_true rfl⟩) d_Mo_read_175 rfl rfl (Nat.le_of_ble_eq_true rfl) (Nat.le_of_ble_eq_true rfl) (Nat.le_of_ble_eq_true rfl) ?_
  refine J_if_eq (pc := 178) (tgt := 113) X d_Mo_read_178 (by decide) (fun c3 => ?_) (fun c3 => ?_)
  · have hM := hif_t hM c3
    exact R113 _ _ _ _ hM
  · have hM := hif_f hM c3
    refine J_aload_n (pc := 181) X 0 d_Mo_read_181 rfl ?_
    obtain ⟨u4, eu4, hM⟩ := hb_some hM
    obtain ⟨h5, eh5, hM⟩ := hb_some hM
    refine J_callV (pc := 182) (As := []) (rest := []) (o := none) (h2 := h5) X rfl hc_Mo eu4 (c_Mo_rule l D K F eh5) (cwV_of (nA := 0) X.fix k_564 k_566 k_567 k_515 k_565 ⟨rfl, rfl, rfl⟩ (by decide +kernel) ⟨Nat.le_of_ble_eq_true rfl, Nat.le_of_ble_eq_true rfl⟩) d_Mo_read_182 rfl rfl (Nat.le_of_ble_eq_true rfl) (Nat.le_of_ble_eq_true rfl) (Nat.le_of_ble_eq_true rfl) ?_
    refine J_goto (pc := 185) (tgt := 113) X d_Mo_read_185 (by decide) ?_
    exact R113 _ _ _ _ hM
set_option maxHeartbeats 4000000 in
set_option maxRecDepth 100000 in
theorem w_Mo_read_170 {p : Program} {l : Launch} {e : Env} {s : State} {m : MethodId} {args : Array Value} {below : List Frame} {meth : Method} {c : Code} {D : va_G} {K : (Nat → Nat) × (Nat → Nat)} {h0 : hH} (Y : HX p s m args meth c prog_14_method_19_code 2 "LicenceTextsModel" D K "read" (some .int) h0) {F : Nat} {r113 : hH → Nat → Int32 → Option (Int32 × hH)} (R113 : ∀ (h : hH) (x0 : Nat) (x1 : Int32) (q : (Int32 × hH)), r113 h x0 x1 = some q → J p l e rm_Mo_read s m args below meth c 2 D cls0 (hF h0) h [(0, .ref x0), (1, .int x1)] 0 0 (MQ below (hQ D cls0 h0 (some (.int q.1)) q.2) args s 0 0 (hF h0)) 113 []) (h : hH) (x0 : Nat) (x1 : Int32) (s0 : Nat) (q : (Int32 × hH)) (hM : M_Mo_read_170 F r113 h x0 x1 s0 = some q) : J p l e rm_Mo_read s m args below meth c 2 D cls0 (hF h0) h [(0, .ref x0), (1, .int x1)] 0 0 (MQ below (hQ D cls0 h0 (some (.int q.1)) q.2) args s 0 0 (hF h0)) 170 [.ref s0] := by
  obtain ⟨X, hr, hlk, hnm⟩ := id Y
  unfold M_Mo_read_170 at hM
  refine J_iconst (pc := 170) (v := (1)) X d_Mo_read_170 (by decide) ?_
  refine J_goto (pc := 171) (tgt := 175) X d_Mo_read_171 (by decide) ?_
  exact w_Mo_read_175 Y R113 _ _ _ _ _ _ hM
set_option maxHeartbeats 4000000 in
set_option maxRecDepth 100000 in
theorem b_Mo_read_113 {p : Program} {l : Launch} {e : Env} {s : State} {m : MethodId} {args : Array Value} {below : List Frame} {meth : Method} {c : Code} {D : va_G} {K : (Nat → Nat) × (Nat → Nat)} {h0 : hH} (Y : HX p s m args meth c prog_14_method_19_code 2 "LicenceTextsModel" D K "read" (some .int) h0) {F : Nat}   {r113 : hH → Nat → Int32 → Option (Int32 × hH)} (R113 : ∀ (h : hH) (x0 : Nat) (x1 : Int32) (q : (Int32 × hH)), r113 h x0 x1 = some q → J p l e rm_Mo_read s m args below meth c 2 D cls0 (hF h0) h [(0, .ref x0), (1, .int x1)] 0 0 (MQ below (hQ D cls0 h0 (some (.int q.1)) q.2) args s 0 0 (hF h0)) 113 []) : ∀ (h : hH) (x0 : Nat) (x1 : Int32) (q : (Int32 × hH)), B_Mo_read_113 F r113 h x0 x1 = some q → J p l e rm_Mo_read s m args below meth c 2 D cls0 (hF h0) h [(0, .ref x0), (1, .int x1)] 0 0 (MQ below (hQ D cls0 h0 (some (.int q.1)) q.2) args s 0 0 (hF h0)) 113 [] := by
  intro h x0 x1 q hM
  obtain ⟨X, hr, hlk, hnm⟩ := id Y
  unfold B_Mo_read_113 at hM
  refine J_aload_n (pc := 113) X 0 d_Mo_read_113 rfl ?_
  obtain ⟨v1, ev1, hM⟩ := hb_some hM
  refine J_getI (pc := 114) X hc_Mo in_Mo 24 k_531 (by decide) rfl d_Mo_read_114 rfl ev1 ?_
  refine J_if_ge (pc := 117) (tgt := 188) X d_Mo_read_117 (by decide) (fun c2 => ?_) (fun c2 => ?_)
  · have hM := hif_t hM c2
    exact w_Mo_read_188 Y _ _ _ _ hM
  · have hM := hif_f hM c2
    refine J_aload_n (pc := 120) X 0 d_Mo_read_120 rfl ?_
    obtain ⟨v3, ev3, hM⟩ := hb_some hM
    refine J_getI (pc := 121) X hc_Mo in_Mo 23 k_530 (by decide) rfl d_Mo_read_121 rfl ev3 ?_
    refine J_aload_n (pc := 124) X 0 d_Mo_read_124 rfl ?_
    obtain ⟨v4, ev4, hM⟩ := hb_some hM
    refine J_getA (pc := 125) X hc_Mo in_Mo 9 k_487 (by decide) rfl d_Mo_read_125 rfl ev4 ?_
    refine J_aload_n (pc := 128) X 0 d_Mo_read_128 rfl ?_
    obtain ⟨v5, ev5, hM⟩ := hb_some hM
    refine J_getI (pc := 129) X hc_Mo in_Mo 22 k_522 (by decide) rfl d_Mo_read_129 rfl ev5 ?_
    obtain ⟨v6, ev6, hM⟩ := hb_some hM
    refine J_iald (pc := 132) X d_Mo_read_132 rfl ev6 ?_
    refine J_icmp_ge (pc := 133) (tgt := 188) X d_Mo_read_133 (by decide) (fun c7 => ?_) (fun c7 => ?_)
    · have hM := hif_t hM c7
      exact w_Mo_read_188 Y _ _ _ _ hM
    · have hM := hif_f hM c7
      refine J_aload_n (pc := 136) X 0 d_Mo_read_136 rfl ?_
      obtain ⟨u8, eu8, hM⟩ := hb_some hM
      obtain ⟨q9, eq9, hM⟩ := hb_some hM
      refine J_callV (pc := 137) (As := []) (rest := []) (o := (some (.int q9.1))) (h2 := q9.2) X rfl hc_Mo eu8 (c_Mo_now l D K F eq9) (cwV_of (nA := 0) X.fix k_536 k_538 k_539 k_515 k_537 ⟨rfl, rfl, rfl⟩ (by decide +kernel) ⟨Nat.le_of_ble_eq_true rfl, Nat.le_of_ble_eq_true rfl⟩) d_Mo_read_137 rfl rfl (Nat.le_of_ble_eq_true rfl) (Nat.le_of_ble_eq_true rfl) (Nat.le_of_ble_eq_true rfl) ?_
      refine J_iconst (pc := 140) (v := (-1)) X d_Mo_read_140 (by decide) ?_
      refine J_icmp_ne (pc := 141) (tgt := 151) X d_Mo_read_141 (by decide) (fun c10 => ?_) (fun c10 => ?_)
      · have hM := hif_f hM c10
        refine J_aload_n (pc := 151) X 0 d_Mo_read_151 rfl ?_
        refine J_aload_n (pc := 152) X 0 d_Mo_read_152 rfl ?_
        obtain ⟨u11, eu11, hM⟩ := hb_some hM
        obtain ⟨q12, eq12, hM⟩ := hb_some hM
        refine J_callV (pc := 153) (As := []) (rest := [.ref x0]) (o := (some (.int q12.1))) (h2 := q12.2) X rfl hc_Mo eu11 (c_Mo_now l D K F eq12) (cwV_of (nA := 0) X.fix k_536 k_538 k_539 k_515 k_537 ⟨rfl, rfl, rfl⟩ (by decide +kernel) ⟨Nat.le_of_ble_eq_true rfl, Nat.le_of_ble_eq_true rfl⟩) d_Mo_read_153 rfl rfl (Nat.le_of_ble_eq_true rfl) (Nat.le_of_ble_eq_true rfl) (Nat.le_of_ble_eq_true rfl) ?_
        refine J_bipush (pc := 156) (v := (-2)) X d_Mo_read_156 (by decide) ?_
        refine J_icmp_eq (pc := 158) (tgt := 170) X d_Mo_read_158 (by decide) (fun c13 => ?_) (fun c13 => ?_)
        · have hM := hif_t hM c13
          exact w_Mo_read_170 Y R113 _ _ _ _ _ hM
        · have hM := hif_f hM c13
          refine J_aload_n (pc := 161) X 0 d_Mo_read_161 rfl ?_
          obtain ⟨u14, eu14, hM⟩ := hb_some hM
          obtain ⟨q15, eq15, hM⟩ := hb_some hM
          refine J_callV (pc := 162) (As := []) (rest := [.ref x0]) (o := (some (.int q15.1))) (h2 := q15.2) X rfl hc_Mo eu14 (c_Mo_now l D K F eq15) (cwV_of (nA := 0) X.fix k_536 k_538 k_539 k_515 k_537 ⟨rfl, rfl, rfl⟩ (by decide +kernel) ⟨Nat.le_of_ble_eq_true rfl, Nat.le_of_ble_eq_true rfl⟩) d_Mo_read_162 rfl rfl (Nat.le_of_ble_eq_true rfl) (Nat.le_of_ble_eq_true rfl) (Nat.le_of_ble_eq_true rfl) ?_
          refine J_bipush (pc := 165) (v := (-3)) X d_Mo_read_165 (by decide) ?_
          refine J_icmp_ne (pc := 167) (tgt := 174) X d_Mo_read_167 (by decide) (fun c16 => ?_) (fun c16 => ?_)
          · have hM := hif_f hM c16
            refine J_iconst (pc := 174) (v := (0)) X d_Mo_read_174 (by decide) ?_
            exact w_Mo_read_175 Y R113 _ _ _ _ _ _ hM
          · have hM := hif_t hM c16
            exact w_Mo_read_170 Y R113 _ _ _ _ _ hM
      · have hM := hif_t hM c10
        refine J_aload_n (pc := 144) X 0 d_Mo_read_144 rfl ?_
        obtain ⟨u17, eu17, hM⟩ := hb_some hM
        obtain ⟨h18, eh18, hM⟩ := hb_some hM
        refine J_callV (pc := 145) (As := []) (rest := []) (o := none) (h2 := h18) X rfl hc_Mo eu17 (c_Mo_tableP l D K F eh18) (cwV_of (nA := 0) X.fix k_568 k_570 k_571 k_515 k_569 ⟨rfl, rfl, rfl⟩ (by decide +kernel) ⟨Nat.le_of_ble_eq_true rfl, Nat.le_of_ble_eq_true rfl⟩) d_Mo_read_145 rfl rfl (Nat.le_of_ble_eq_true rfl) (Nat.le_of_ble_eq_true rfl) (Nat.le_of_ble_eq_true rfl) ?_
        refine J_goto (pc := 148) (tgt := 113) X d_Mo_read_148 (by decide) ?_
        exact R113 _ _ _ _ hM
theorem w_Mo_read_113 {p : Program} {l : Launch} {e : Env} {s : State} {m : MethodId} {args : Array Value} {below : List Frame} {meth : Method} {c : Code} {D : va_G} {K : (Nat → Nat) × (Nat → Nat)} {h0 : hH} (Y : HX p s m args meth c prog_14_method_19_code 2 "LicenceTextsModel" D K "read" (some .int) h0) {F : Nat} : ∀ z : Nat, ∀ (h : hH) (x0 : Nat) (x1 : Int32) (q : (Int32 × hH)), M_Mo_read_113 F z h x0 x1 = some q → J p l e rm_Mo_read s m args below meth c 2 D cls0 (hF h0) h [(0, .ref x0), (1, .int x1)] 0 0 (MQ below (hQ D cls0 h0 (some (.int q.1)) q.2) args s 0 0 (hF h0)) 113 [] := by
  intro z
  induction z with
  | zero => intro h x0 x1 q hM; exact absurd (show (none : Option _) = some q from hM) (fun t => by cases t)
  | succ z ih => exact b_Mo_read_113 Y ih
set_option maxHeartbeats 4000000 in
set_option maxRecDepth 100000 in
theorem w_Mo_read_61 {p : Program} {l : Launch} {e : Env} {s : State} {m : MethodId} {args : Array Value} {below : List Frame} {meth : Method} {c : Code} {D : va_G} {K : (Nat → Nat) × (Nat → Nat)} {h0 : hH} (Y : HX p s m args meth c prog_14_method_19_code 2 "LicenceTextsModel" D K "read" (some .int) h0) {F : Nat} (h : hH) (x0 : Nat) (x1 : Int32) (q : (Int32 × hH)) (hM : M_Mo_read_61 F h x0 x1 = some q) : J p l e rm_Mo_read s m args below meth c 2 D cls0 (hF h0) h [(0, .ref x0), (1, .int x1)] 0 0 (MQ below (hQ D cls0 h0 (some (.int q.1)) q.2) args s 0 0 (hF h0)) 61 [] := by
  obtain ⟨X, hr, hlk, hnm⟩ := id Y
  unfold M_Mo_read_61 at hM
  refine J_aload_n (pc := 61) X 0 d_Mo_read_61 rfl ?_
  refine J_aload_n (pc := 62) X 0 d_Mo_read_62 rfl ?_
  obtain ⟨v1, ev1, hM⟩ := hb_some hM
  refine J_getI (pc := 63) X hc_Mo in_Mo 3 k_563 (by decide) rfl d_Mo_read_63 rfl ev1 ?_
  obtain ⟨h2, eh2, hM⟩ := hb_some hM
  refine J_put (pc := 66) X hc_Mo in_Mo t_Mo tk_Mo nk_Mo 22 k_522 (by decide) rfl rfl d_Mo_read_66 rfl rfl rfl eh2 ?_
  refine J_aload_n (pc := 69) X 0 d_Mo_read_69 rfl ?_
  obtain ⟨u3, eu3, hM⟩ := hb_some hM
  obtain ⟨h4, eh4, hM⟩ := hb_some hM
  refine J_callV (pc := 70) (As := []) (rest := []) (o := none) (h2 := h4) X rfl hc_Mo eu3 (c_Mo_split l D K F eh4) (cwV_of (nA := 0) X.fix k_572 k_574 k_575 k_515 k_573 ⟨rfl, rfl, rfl⟩ (by decide +kernel) ⟨Nat.le_of_ble_eq_true rfl, Nat.le_of_ble_eq_true rfl⟩) d_Mo_read_70 rfl rfl (Nat.le_of_ble_eq_true rfl) (Nat.le_of_ble_eq_true rfl) (Nat.le_of_ble_eq_true rfl) ?_
  refine J_aload_n (pc := 73) X 0 d_Mo_read_73 rfl ?_
  refine J_iconst (pc := 74) (v := (0)) X d_Mo_read_74 (by decide) ?_
  obtain ⟨h5, eh5, hM⟩ := hb_some hM
  refine J_put (pc := 75) X hc_Mo in_Mo t_Mo tk_Mo nk_Mo 2 k_511 (by decide) rfl rfl d_Mo_read_75 rfl rfl rfl eh5 ?_
  refine J_aload_n (pc := 78) X 0 d_Mo_read_78 rfl ?_
  refine J_iconst (pc := 79) (v := (0)) X d_Mo_read_79 (by decide) ?_
  obtain ⟨h6, eh6, hM⟩ := hb_some hM
  refine J_put (pc := 80) X hc_Mo in_Mo t_Mo tk_Mo nk_Mo 23 k_530 (by decide) rfl rfl d_Mo_read_80 rfl rfl rfl eh6 ?_
  refine J_aload_n (pc := 83) X 0 d_Mo_read_83 rfl ?_
  refine J_iconst (pc := 84) (v := (-1)) X d_Mo_read_84 (by decide) ?_
  obtain ⟨h7, eh7, hM⟩ := hb_some hM
  refine J_put (pc := 85) X hc_Mo in_Mo t_Mo tk_Mo nk_Mo 24 k_531 (by decide) rfl rfl d_Mo_read_85 rfl rfl rfl eh7 ?_
  refine J_aload_n (pc := 88) X 0 d_Mo_read_88 rfl ?_
  refine J_iconst (pc := 89) (v := (0)) X d_Mo_read_89 (by decide) ?_
  obtain ⟨h8, eh8, hM⟩ := hb_some hM
  refine J_put (pc := 90) X hc_Mo in_Mo t_Mo tk_Mo nk_Mo 21 k_540 (by decide) rfl rfl d_Mo_read_90 rfl rfl rfl eh8 ?_
  refine J_aload_n (pc := 93) X 0 d_Mo_read_93 rfl ?_
  obtain ⟨v9, ev9, hM⟩ := hb_some hM
  refine J_getA (pc := 94) X hc_Mo in_Mo 10 k_488 (by decide) rfl d_Mo_read_94 rfl ev9 ?_
  refine J_aload_n (pc := 97) X 0 d_Mo_read_97 rfl ?_
  obtain ⟨v10, ev10, hM⟩ := hb_some hM
  refine J_getI (pc := 98) X hc_Mo in_Mo 22 k_522 (by decide) rfl d_Mo_read_98 rfl ev10 ?_
  refine J_iconst (pc := 101) (v := (0)) X d_Mo_read_101 (by decide) ?_
  obtain ⟨h11, eh11, hM⟩ := hb_some hM
  refine J_iast (pc := 102) X d_Mo_read_102 rfl eh11 ?_
  refine J_aload_n (pc := 103) X 0 d_Mo_read_103 rfl ?_
  obtain ⟨v12, ev12, hM⟩ := hb_some hM
  refine J_getA (pc := 104) X hc_Mo in_Mo 13 k_491 (by decide) rfl d_Mo_read_104 rfl ev12 ?_
  refine J_aload_n (pc := 107) X 0 d_Mo_read_107 rfl ?_
  obtain ⟨v13, ev13, hM⟩ := hb_some hM
  refine J_getI (pc := 108) X hc_Mo in_Mo 22 k_522 (by decide) rfl d_Mo_read_108 rfl ev13 ?_
  refine J_iconst (pc := 111) (v := (0)) X d_Mo_read_111 (by decide) ?_
  obtain ⟨h14, eh14, hM⟩ := hb_some hM
  refine J_iast (pc := 112) X d_Mo_read_112 rfl eh14 ?_
  exact w_Mo_read_113 Y F _ _ _ _ hM
set_option maxHeartbeats 4000000 in
set_option maxRecDepth 100000 in
theorem w_Mo_read_53 {p : Program} {l : Launch} {e : Env} {s : State} {m : MethodId} {args : Array Value} {below : List Frame} {meth : Method} {c : Code} {D : va_G} {K : (Nat → Nat) × (Nat → Nat)} {h0 : hH} (Y : HX p s m args meth c prog_14_method_19_code 2 "LicenceTextsModel" D K "read" (some .int) h0) {F : Nat} (h : hH) (x0 : Nat) (x1 : Int32) (s0 : Int32) (s1 : Nat) (s2 : Int32) (q : (Int32 × hH)) (hM : M_Mo_read_53 F h x0 x1 s0 s1 s2 = some q) : J p l e rm_Mo_read s m args below meth c 2 D cls0 (hF h0) h [(0, .ref x0), (1, .int x1)] 0 0 (MQ below (hQ D cls0 h0 (some (.int q.1)) q.2) args s 0 0 (hF h0)) 53 [.int s2, .ref s1, .int s0] := by
  obtain ⟨X, hr, hlk, hnm⟩ := id Y
  unfold M_Mo_read_53 at hM
  obtain ⟨v1, ev1, hM⟩ := hb_some hM
  refine J_iald (pc := 53) X d_Mo_read_53 rfl ev1 ?_
  refine J_icmp_gt (pc := 54) (tgt := 61) X d_Mo_read_54 (by decide) (fun c2 => ?_) (fun c2 => ?_)
  · have hM := hif_t hM c2
    exact w_Mo_read_61 Y _ _ _ _ hM
  · have hM := hif_f hM c2
    refine J_sipush (pc := 57) (v := (-1000)) X d_Mo_read_57 (by decide) ?_
    obtain rfl := Option.some.inj hM
    exact J_iret (pc := 60) X hr hlk (Nat.le_of_ble_eq_true rfl) (Nat.le_of_ble_eq_true rfl) d_Mo_read_60
set_option maxHeartbeats 4000000 in
set_option maxRecDepth 100000 in
theorem c_Mo_read (l : Launch) (D : va_G) (K : (Nat → Nat) × (Nat → Nat)) (F : Nat) {h : hH} {x0 : Nat} {x1 : Int32} {q : (Int32 × hH)} (hM : M_Mo_read F h x0 x1 = some q) : Met l y_Mo_read (.code y_Mo_read prog_14_method_19_code 2 (some .int) :: T0) rm_Mo_read (hPc hG D cls0 K [.ref x0, .int x1] h) (hQ D cls0 h (some (.int q.1)) q.2) 0 0 (hF h) := by
  refine J_met (lv := [(0, .ref x0), (1, .int x1)]) (by decide) (Nat.le_of_ble_eq_true rfl) rfl ?_
  intro p e s m below meth c X hr hlk hnm
  have Y : HX p s m _ meth c prog_14_method_19_code 2 "LicenceTextsModel" D K "read" (some .int) h := ⟨X, hr, hlk, hnm⟩
  unfold M_Mo_read at hM
  refine J_aload_n (pc := 0) X 0 d_Mo_read_0 rfl ?_
  refine J_iconst (pc := 1) (v := (0)) X d_Mo_read_1 (by decide) ?_
  obtain ⟨h1, eh1, hM⟩ := hb_some hM
  refine J_put (pc := 2) X hc_Mo in_Mo t_Mo tk_Mo nk_Mo 0 k_510 (by decide) rfl rfl d_Mo_read_2 rfl rfl rfl eh1 ?_
  refine J_iload_n (pc := 5) X 1 d_Mo_read_5 rfl ?_
  refine J_if_lt (pc := 6) (tgt := 57) X d_Mo_read_6 (by decide) (fun c2 => ?_) (fun c2 => ?_)
  · have hM := hif_t hM c2
    refine J_sipush (pc := 57) (v := (-1000)) X d_Mo_read_57 (by decide) ?_
    obtain rfl := Option.some.inj hM
    exact J_iret (pc := 60) X hr hlk (Nat.le_of_ble_eq_true rfl) (Nat.le_of_ble_eq_true rfl) d_Mo_read_60
  · have hM := hif_f hM c2
    refine J_iload_n (pc := 9) X 1 d_Mo_read_9 rfl ?_
    refine J_ldc (pc := 10) X k_576 d_Mo_read_10 ?_
    refine J_icmp_gt (pc := 12) (tgt := 57) X d_Mo_read_12 (by decide) (fun c3 => ?_) (fun c3 => ?_)
    · have hM := hif_t hM c3
      refine J_sipush (pc := 57) (v := (-1000)) X d_Mo_read_57 (by decide) ?_
      obtain rfl := Option.some.inj hM
      exact J_iret (pc := 60) X hr hlk (Nat.le_of_ble_eq_true rfl) (Nat.le_of_ble_eq_true rfl) d_Mo_read_60
    · have hM := hif_f hM c3
      refine J_aload_n (pc := 15) X 0 d_Mo_read_15 rfl ?_
      obtain ⟨v4, ev4, hM⟩ := hb_some hM
      refine J_getI (pc := 16) X hc_Mo in_Mo 3 k_563 (by decide) rfl d_Mo_read_16 rfl ev4 ?_
      refine J_bipush (pc := 19) (v := (6)) X d_Mo_read_19 (by decide) ?_
      refine J_icmp_eq (pc := 21) (tgt := 57) X d_Mo_read_21 (by decide) (fun c5 => ?_) (fun c5 => ?_)
      · have hM := hif_t hM c5
        refine J_sipush (pc := 57) (v := (-1000)) X d_Mo_read_57 (by decide) ?_
        obtain rfl := Option.some.inj hM
        exact J_iret (pc := 60) X hr hlk (Nat.le_of_ble_eq_true rfl) (Nat.le_of_ble_eq_true rfl) d_Mo_read_60
      · have hM := hif_f hM c5
        refine J_aload_n (pc := 24) X 0 d_Mo_read_24 rfl ?_
        obtain ⟨v6, ev6, hM⟩ := hb_some hM
        refine J_getI (pc := 25) X hc_Mo in_Mo 3 k_563 (by decide) rfl d_Mo_read_25 rfl ev6 ?_
        refine J_if_le (pc := 28) (tgt := 61) X d_Mo_read_28 (by decide) (fun c7 => ?_) (fun c7 => ?_)
        · have hM := hif_t hM c7
          exact w_Mo_read_61 Y _ _ _ _ hM
        · have hM := hif_f hM c7
          refine J_iload_n (pc := 31) X 1 d_Mo_read_31 rfl ?_
          refine J_aload_n (pc := 32) X 0 d_Mo_read_32 rfl ?_
          obtain ⟨v8, ev8, hM⟩ := hb_some hM
          refine J_getA (pc := 33) X hc_Mo in_Mo 4 k_482 (by decide) rfl d_Mo_read_33 rfl ev8 ?_
          refine J_aload_n (pc := 36) X 0 d_Mo_read_36 rfl ?_
          obtain ⟨v9, ev9, hM⟩ := hb_some hM
          refine J_getI (pc := 37) X hc_Mo in_Mo 3 k_563 (by decide) rfl d_Mo_read_37 rfl ev9 ?_
          refine J_if_le (pc := 40) (tgt := 52) X d_Mo_read_40 (by decide) (fun c10 => ?_) (fun c10 => ?_)
          · have hM := hif_t hM c10
            refine J_iconst (pc := 52) (v := (0)) X d_Mo_read_52 (by decide) ?_
            exact w_Mo_read_53 Y _ _ _ _ _ _ _ hM
          · have hM := hif_f hM c10
            refine J_aload_n (pc := 43) X 0 d_Mo_read_43 rfl ?_
            obtain ⟨v11, ev11, hM⟩ := hb_some hM
            refine J_getI (pc := 44) X hc_Mo in_Mo 3 k_563 (by decide) rfl d_Mo_read_44 rfl ev11 ?_
            refine J_iconst (pc := 47) (v := (1)) X d_Mo_read_47 (by decide) ?_
            refine J_isub (pc := 48) X d_Mo_read_48 ?_
            refine J_goto (pc := 49) (tgt := 53) X d_Mo_read_49 (by decide) ?_
            exact w_Mo_read_53 Y _ _ _ _ _ _ _ hM
abbrev rm_Mo_editions : Room := { frames := 0, cells := 0, slots := 0, locals := 0 }
set_option maxHeartbeats 4000000 in
set_option maxRecDepth 100000 in
theorem c_Mo_editions (l : Launch) (D : va_G) (K : (Nat → Nat) × (Nat → Nat)) (F : Nat) {h : hH} {x0 : Nat} {q : (Int32 × hH)} (hM : M_Mo_editions F h x0 = some q) : Met l y_Mo_editions (.code y_Mo_editions prog_14_method_20_code 1 (some .int) :: T0) rm_Mo_editions (hPc hG D cls0 K [.ref x0] h) (hQ D cls0 h (some (.int q.1)) q.2) 0 0 (hF h) := by
  refine J_met (lv := [(0, .ref x0)]) (by decide) (Nat.le_of_ble_eq_true rfl) rfl ?_
  intro p e s m below meth c X hr hlk hnm
  have Y : HX p s m _ meth c prog_14_method_20_code 1 "LicenceTextsModel" D K "editions" (some .int) h := ⟨X, hr, hlk, hnm⟩
  unfold M_Mo_editions at hM
  refine J_aload_n (pc := 0) X 0 d_Mo_editions_0 rfl ?_
  refine J_iconst (pc := 1) (v := (0)) X d_Mo_editions_1 (by decide) ?_
  obtain ⟨h1, eh1, hM⟩ := hb_some hM
  refine J_put (pc := 2) X hc_Mo in_Mo t_Mo tk_Mo nk_Mo 0 k_510 (by decide) rfl rfl d_Mo_editions_2 rfl rfl rfl eh1 ?_
  refine J_aload_n (pc := 5) X 0 d_Mo_editions_5 rfl ?_
  obtain ⟨v2, ev2, hM⟩ := hb_some hM
  refine J_getI (pc := 6) X hc_Mo in_Mo 3 k_563 (by decide) rfl d_Mo_editions_6 rfl ev2 ?_
  obtain rfl := Option.some.inj hM
  exact J_iret (pc := 9) X hr hlk (Nat.le_of_ble_eq_true rfl) (Nat.le_of_ble_eq_true rfl) d_Mo_editions_9
abbrev rm_Mo_fact : Room := { frames := 0, cells := 0, slots := 0, locals := 0 }
set_option maxHeartbeats 4000000 in
set_option maxRecDepth 100000 in
theorem c_Mo_fact (l : Launch) (D : va_G) (K : (Nat → Nat) × (Nat → Nat)) (F : Nat) {h : hH} {x0 : Nat} {x1 : Int32} {x2 : Int64} {q : (Int32 × hH)} (hM : M_Mo_fact F h x0 x1 x2 = some q) : Met l y_Mo_fact (.code y_Mo_fact prog_14_method_21_code 4 (some .boolean) :: T0) rm_Mo_fact (hPc hG D cls0 K [.ref x0, .int x1, .long x2] h) (hQ D cls0 h (some (.int q.1)) q.2) 0 0 (hF h) := by
  refine J_met (lv := [(0, .ref x0), (1, .int x1), (2, .long x2)]) (by decide) (Nat.le_of_ble_eq_true rfl) rfl ?_
  intro p e s m below meth c X hr hlk hnm
  have Y : HX p s m _ meth c prog_14_method_21_code 4 "LicenceTextsModel" D K "fact" (some .boolean) h := ⟨X, hr, hlk, hnm⟩
  unfold M_Mo_fact at hM
  refine J_aload_n (pc := 0) X 0 d_Mo_fact_0 rfl ?_
  refine J_iconst (pc := 1) (v := (0)) X d_Mo_fact_1 (by decide) ?_
  obtain ⟨h1, eh1, hM⟩ := hb_some hM
  refine J_put (pc := 2) X hc_Mo in_Mo t_Mo tk_Mo nk_Mo 0 k_510 (by decide) rfl rfl d_Mo_fact_2 rfl rfl rfl eh1 ?_
  refine J_iload_n (pc := 5) X 1 d_Mo_fact_5 rfl ?_
  refine J_if_lt (pc := 6) (tgt := 15) X d_Mo_fact_6 (by decide) (fun c2 => ?_) (fun c2 => ?_)
  · have hM := hif_t hM c2
    refine J_iconst (pc := 15) (v := (0)) X d_Mo_fact_15 (by decide) ?_
    obtain rfl := Option.some.inj hM
    exact J_zret (pc := 16) X hr hz0 hlk (Nat.le_of_ble_eq_true rfl) (Nat.le_of_ble_eq_true rfl) d_Mo_fact_16
  · have hM := hif_f hM c2
    refine J_iload_n (pc := 9) X 1 d_Mo_fact_9 rfl ?_
    refine J_bipush (pc := 10) (v := (19)) X d_Mo_fact_10 (by decide) ?_
    refine J_icmp_le (pc := 12) (tgt := 17) X d_Mo_fact_12 (by decide) (fun c3 => ?_) (fun c3 => ?_)
    · have hM := hif_t hM c3
      refine J_aload_n (pc := 17) X 0 d_Mo_fact_17 rfl ?_
      obtain ⟨v4, ev4, hM⟩ := hb_some hM
      refine J_getA (pc := 18) X hc_Mo in_Mo 27 k_501 (by decide) rfl d_Mo_fact_18 rfl ev4 ?_
      refine J_iload_n (pc := 21) X 1 d_Mo_fact_21 rfl ?_
      refine J_lload_n (pc := 22) X 2 d_Mo_fact_22 rfl ?_
      obtain ⟨h5, eh5, hM⟩ := hb_some hM
      refine J_last (pc := 23) X d_Mo_fact_23 rfl eh5 ?_
      refine J_aload_n (pc := 24) X 0 d_Mo_fact_24 rfl ?_
      obtain ⟨v6, ev6, hM⟩ := hb_some hM
      refine J_getA (pc := 25) X hc_Mo in_Mo 28 k_502 (by decide) rfl d_Mo_fact_25 rfl ev6 ?_
      refine J_iload_n (pc := 28) X 1 d_Mo_fact_28 rfl ?_
      refine J_iconst (pc := 29) (v := (1)) X d_Mo_fact_29 (by decide) ?_
      obtain ⟨h7, eh7, hM⟩ := hb_some hM
      refine J_zast (pc := 30) X d_Mo_fact_30 rfl eh7 ?_
      refine J_iconst (pc := 31) (v := (1)) X d_Mo_fact_31 (by decide) ?_
      obtain rfl := Option.some.inj hM
      exact J_zret (pc := 32) X hr hz1 hlk (Nat.le_of_ble_eq_true rfl) (Nat.le_of_ble_eq_true rfl) d_Mo_fact_32
    · have hM := hif_f hM c3
      refine J_iconst (pc := 15) (v := (0)) X d_Mo_fact_15 (by decide) ?_
      obtain rfl := Option.some.inj hM
      exact J_zret (pc := 16) X hr hz0 hlk (Nat.le_of_ble_eq_true rfl) (Nat.le_of_ble_eq_true rfl) d_Mo_fact_16
abbrev rm_Mo_clearFacts : Room := { frames := 0, cells := 0, slots := 0, locals := 0 }
set_option maxHeartbeats 4000000 in
set_option maxRecDepth 100000 in
theorem w_Mo_clearFacts_30 {p : Program} {l : Launch} {e : Env} {s : State} {m : MethodId} {args : Array Value} {below : List Frame} {meth : Method} {c : Code} {D : va_G} {K : (Nat → Nat) × (Nat → Nat)} {h0 : hH} (Y : HX p s m args meth c prog_14_method_22_code 3 "LicenceTextsModel" D K "clearFacts" (some .int) h0) {F : Nat} {r9 : hH → Nat → Int32 → Int32 → Option (Int32 × hH)} (R9 : ∀ (h : hH) (x0 : Nat) (x1 : Int32) (x2 : Int32) (q : (Int32 × hH)), r9 h x0 x1 x2 = some q → J p l e rm_Mo_clearFacts s m args below meth c 3 D cls0 (hF h0) h [(0, .ref x0), (1, .int x1), (2, .int x2)] 0 0 (MQ below (hQ D cls0 h0 (some (.int q.1)) q.2) args s 0 0 (hF h0)) 9 []) (h : hH) (x0 : Nat) (x2 : Int32) (s0 : Int32) (s1 : Int32) (q : (Int32 × hH)) (hM : M_Mo_clearFacts_30 F r9 h x0 x2 s0 s1 = some q) : J p l e rm_Mo_clearFacts s m args below meth c 3 D cls0 (hF h0) h [(0, .ref x0), (2, .int x2)] 0 0 (MQ below (hQ D cls0 h0 (some (.int q.1)) q.2) args s 0 0 (hF h0)) 30 [.int s1, .int s0] := by
  obtain ⟨X, hr, hlk, hnm⟩ := id Y
  unfold M_Mo_clearFacts_30 at hM
  refine J_iadd (pc := 30) X d_Mo_clearFacts_30 ?_
  refine J_istore_n (pc := 31) (lv' := [(1, .int (s0 + s1)), (0, .ref x0), (2, .int x2)]) X d_Mo_clearFacts_31 rfl (by decide) rfl ?_
  refine J_aload_n (pc := 32) X 1 d_Mo_clearFacts_32 rfl ?_
  obtain ⟨v1, ev1, hM⟩ := hb_some hM
  refine J_getA (pc := 33) X hc_Mo in_Mo 28 k_502 (by decide) rfl d_Mo_clearFacts_33 rfl ev1 ?_
  refine J_iload_n (pc := 36) X 2 d_Mo_clearFacts_36 rfl ?_
  refine J_iconst (pc := 37) (v := (0)) X d_Mo_clearFacts_37 (by decide) ?_
  obtain ⟨h2, eh2, hM⟩ := hb_some hM
  refine J_zast (pc := 38) X d_Mo_clearFacts_38 rfl eh2 ?_
  refine J_iinc (pc := 39) (v := x2 + 1) (lv' := [(2, .int (x2 + 1)), (1, .int (s0 + s1)), (0, .ref x0)]) X 2 d_Mo_clearFacts_39 rfl rfl (by decide) rfl ?_
  refine J_goto (pc := 42) (tgt := 9) X d_Mo_clearFacts_42 (by decide) ?_
  refine J_sub [2, 1, 0] rfl ?_
  exact R9 _ _ _ _ _ hM
set_option maxHeartbeats 4000000 in
set_option maxRecDepth 100000 in
theorem b_Mo_clearFacts_9 {p : Program} {l : Launch} {e : Env} {s : State} {m : MethodId} {args : Array Value} {below : List Frame} {meth : Method} {c : Code} {D : va_G} {K : (Nat → Nat) × (Nat → Nat)} {h0 : hH} (Y : HX p s m args meth c prog_14_method_22_code 3 "LicenceTextsModel" D K "clearFacts" (some .int) h0) {F : Nat}   {r9 : hH → Nat → Int32 → Int32 → Option (Int32 × hH)} (R9 : ∀ (h : hH) (x0 : Nat) (x1 : Int32) (x2 : Int32) (q : (Int32 × hH)), r9 h x0 x1 x2 = some q → J p l e rm_Mo_clearFacts s m args below meth c 3 D cls0 (hF h0) h [(0, .ref x0), (1, .int x1), (2, .int x2)] 0 0 (MQ below (hQ D cls0 h0 (some (.int q.1)) q.2) args s 0 0 (hF h0)) 9 []) : ∀ (h : hH) (x0 : Nat) (x1 : Int32) (x2 : Int32) (q : (Int32 × hH)), B_Mo_clearFacts_9 F r9 h x0 x1 x2 = some q → J p l e rm_Mo_clearFacts s m args below meth c 3 D cls0 (hF h0) h [(0, .ref x0), (1, .int x1), (2, .int x2)] 0 0 (MQ below (hQ D cls0 h0 (some (.int q.1)) q.2) args s 0 0 (hF h0)) 9 [] := by
  intro h x0 x1 x2 q hM
  obtain ⟨X, hr, hlk, hnm⟩ := id Y
  unfold B_Mo_clearFacts_9 at hM
  refine J_iload_n (pc := 9) X 2 d_Mo_clearFacts_9 rfl ?_
  refine J_bipush (pc := 10) (v := (20)) X d_Mo_clearFacts_10 (by decide) ?_
  refine J_icmp_ge (pc := 12) (tgt := 45) X d_Mo_clearFacts_12 (by decide) (fun c1 => ?_) (fun c1 => ?_)
  · have hM := hif_t hM c1
    refine J_iload_n (pc := 45) X 1 d_Mo_clearFacts_45 rfl ?_
    obtain rfl := Option.some.inj hM
    exact J_iret (pc := 46) X hr hlk (Nat.le_of_ble_eq_true rfl) (Nat.le_of_ble_eq_true rfl) d_Mo_clearFacts_46
  · have hM := hif_f hM c1
    refine J_iload_n (pc := 15) X 1 d_Mo_clearFacts_15 rfl ?_
    refine J_aload_n (pc := 16) X 0 d_Mo_clearFacts_16 rfl ?_
    obtain ⟨v2, ev2, hM⟩ := hb_some hM
    refine J_getA (pc := 17) X hc_Mo in_Mo 28 k_502 (by decide) rfl d_Mo_clearFacts_17 rfl ev2 ?_
    refine J_iload_n (pc := 20) X 2 d_Mo_clearFacts_20 rfl ?_
    obtain ⟨v3, ev3, hM⟩ := hb_some hM
    refine J_zald (pc := 21) X d_Mo_clearFacts_21 rfl ev3 ?_
    refine J_if_eq (pc := 22) (tgt := 29) X d_Mo_clearFacts_22 (by decide) (fun c4 => ?_) (fun c4 => ?_)
    · have hM := hif_t hM c4
      refine J_iconst (pc := 29) (v := (0)) X d_Mo_clearFacts_29 (by decide) ?_
      refine J_sub [0, 2] rfl ?_
      exact w_Mo_clearFacts_30 Y R9 _ _ _ _ _ _ hM
    · have hM := hif_f hM c4
      refine J_iconst (pc := 25) (v := (1)) X d_Mo_clearFacts_25 (by decide) ?_
      refine J_goto (pc := 26) (tgt := 30) X d_Mo_clearFacts_26 (by decide) ?_
      refine J_sub [0, 2] rfl ?_
      exact w_Mo_clearFacts_30 Y R9 _ _ _ _ _ _ hM
theorem w_Mo_clearFacts_9 {p : Program} {l : Launch} {e : Env} {s : State} {m : MethodId} {args : Array Value} {below : List Frame} {meth : Method} {c : Code} {D : va_G} {K : (Nat → Nat) × (Nat → Nat)} {h0 : hH} (Y : HX p s m args meth c prog_14_method_22_code 3 "LicenceTextsModel" D K "clearFacts" (some .int) h0) {F : Nat} : ∀ z : Nat, ∀ (h : hH) (x0 : Nat) (x1 : Int32) (x2 : Int32) (q : (Int32 × hH)), M_Mo_clearFacts_9 F z h x0 x1 x2 = some q → J p l e rm_Mo_clearFacts s m args below meth c 3 D cls0 (hF h0) h [(0, .ref x0), (1, .int x1), (2, .int x2)] 0 0 (MQ below (hQ D cls0 h0 (some (.int q.1)) q.2) args s 0 0 (hF h0)) 9 [] := by
  intro z
  induction z with
  | zero => intro h x0 x1 x2 q hM; exact absurd (show (none : Option _) = some q from hM) (fun t => by cases t)
  | succ z ih => exact b_Mo_clearFacts_9 Y ih
set_option maxHeartbeats 4000000 in
set_option maxRecDepth 100000 in
theorem c_Mo_clearFacts (l : Launch) (D : va_G) (K : (Nat → Nat) × (Nat → Nat)) (F : Nat) {h : hH} {x0 : Nat} {q : (Int32 × hH)} (hM : M_Mo_clearFacts F h x0 = some q) : Met l y_Mo_clearFacts (.code y_Mo_clearFacts prog_14_method_22_code 3 (some .int) :: T0) rm_Mo_clearFacts (hPc hG D cls0 K [.ref x0] h) (hQ D cls0 h (some (.int q.1)) q.2) 0 0 (hF h) := by
  refine J_met (lv := [(0, .ref x0)]) (by decide) (Nat.le_of_ble_eq_true rfl) rfl ?_
  intro p e s m below meth c X hr hlk hnm
  have Y : HX p s m _ meth c prog_14_method_22_code 3 "LicenceTextsModel" D K "clearFacts" (some .int) h := ⟨X, hr, hlk, hnm⟩
  unfold M_Mo_clearFacts at hM
  refine J_aload_n (pc := 0) X 0 d_Mo_clearFacts_0 rfl ?_
  refine J_iconst (pc := 1) (v := (0)) X d_Mo_clearFacts_1 (by decide) ?_
  obtain ⟨h1, eh1, hM⟩ := hb_some hM
  refine J_put (pc := 2) X hc_Mo in_Mo t_Mo tk_Mo nk_Mo 0 k_510 (by decide) rfl rfl d_Mo_clearFacts_2 rfl rfl rfl eh1 ?_
  refine J_iconst (pc := 5) (v := (0)) X d_Mo_clearFacts_5 (by decide) ?_
  refine J_istore_n (pc := 6) (lv' := [(1, .int 0), (0, .ref x0)]) X d_Mo_clearFacts_6 rfl (by decide) rfl ?_
  refine J_iconst (pc := 7) (v := (0)) X d_Mo_clearFacts_7 (by decide) ?_
  refine J_istore_n (pc := 8) (lv' := [(2, .int 0), (1, .int 0), (0, .ref x0)]) X d_Mo_clearFacts_8 rfl (by decide) rfl ?_
  refine J_sub [2, 1, 0] rfl ?_
  exact w_Mo_clearFacts_9 Y F _ _ _ _ _ hM
abbrev rm_Mo_editionOf : Room := { frames := 0, cells := 0, slots := 0, locals := 0 }
set_option maxHeartbeats 4000000 in
set_option maxRecDepth 100000 in
theorem w_Mo_editionOf_27 {p : Program} {l : Launch} {e : Env} {s : State} {m : MethodId} {args : Array Value} {below : List Frame} {meth : Method} {c : Code} {D : va_G} {K : (Nat → Nat) × (Nat → Nat)} {h0 : hH} (Y : HX p s m args meth c prog_14_method_23_code 4 "LicenceTextsModel" D K "editionOf" (some .int) h0) {F : Nat} {r4 : hH → Nat → Int32 → Int32 → Int32 → Option (Int32 × hH)} (R4 : ∀ (h : hH) (x0 : Nat) (x1 : Int32) (x2 : Int32) (x3 : Int32) (q : (Int32 × hH)), r4 h x0 x1 x2 x3 = some q → J p l e rm_Mo_editionOf s m args below meth c 4 D cls0 (hF h0) h [(0, .ref x0), (1, .int x1), (2, .int x2), (3, .int x3)] 0 0 (MQ below (hQ D cls0 h0 (some (.int q.1)) q.2) args s 0 0 (hF h0)) 4 []) (h : hH) (x0 : Nat) (x1 : Int32) (x3 : Int32) (s0 : Int32) (q : (Int32 × hH)) (hM : M_Mo_editionOf_27 F r4 h x0 x1 x3 s0 = some q) : J p l e rm_Mo_editionOf s m args below meth c 4 D cls0 (hF h0) h [(0, .ref x0), (1, .int x1), (3, .int x3)] 0 0 (MQ below (hQ D cls0 h0 (some (.int q.1)) q.2) args s 0 0 (hF h0)) 27 [.int s0] := by
  obtain ⟨X, hr, hlk, hnm⟩ := id Y
  unfold M_Mo_editionOf_27 at hM
  refine J_istore_n (pc := 27) (lv' := [(2, .int s0), (0, .ref x0), (1, .int x1), (3, .int x3)]) X d_Mo_editionOf_27 rfl (by decide) rfl ?_
  refine J_iinc (pc := 28) (v := x3 + 1) (lv' := [(3, .int (x3 + 1)), (2, .int s0), (0, .ref x0), (1, .int x1)]) X 3 d_Mo_editionOf_28 rfl rfl (by decide) rfl ?_
  refine J_goto (pc := 31) (tgt := 4) X d_Mo_editionOf_31 (by decide) ?_
  refine J_sub [2, 3, 1, 0] rfl ?_
  exact R4 _ _ _ _ _ _ hM
set_option maxHeartbeats 4000000 in
set_option maxRecDepth 100000 in
theorem b_Mo_editionOf_4 {p : Program} {l : Launch} {e : Env} {s : State} {m : MethodId} {args : Array Value} {below : List Frame} {meth : Method} {c : Code} {D : va_G} {K : (Nat → Nat) × (Nat → Nat)} {h0 : hH} (Y : HX p s m args meth c prog_14_method_23_code 4 "LicenceTextsModel" D K "editionOf" (some .int) h0) {F : Nat}   {r4 : hH → Nat → Int32 → Int32 → Int32 → Option (Int32 × hH)} (R4 : ∀ (h : hH) (x0 : Nat) (x1 : Int32) (x2 : Int32) (x3 : Int32) (q : (Int32 × hH)), r4 h x0 x1 x2 x3 = some q → J p l e rm_Mo_editionOf s m args below meth c 4 D cls0 (hF h0) h [(0, .ref x0), (1, .int x1), (2, .int x2), (3, .int x3)] 0 0 (MQ below (hQ D cls0 h0 (some (.int q.1)) q.2) args s 0 0 (hF h0)) 4 []) : ∀ (h : hH) (x0 : Nat) (x1 : Int32) (x2 : Int32) (x3 : Int32) (q : (Int32 × hH)), B_Mo_editionOf_4 F r4 h x0 x1 x2 x3 = some q → J p l e rm_Mo_editionOf s m args below meth c 4 D cls0 (hF h0) h [(0, .ref x0), (1, .int x1), (2, .int x2), (3, .int x3)] 0 0 (MQ below (hQ D cls0 h0 (some (.int q.1)) q.2) args s 0 0 (hF h0)) 4 [] := by
  intro h x0 x1 x2 x3 q hM
  obtain ⟨X, hr, hlk, hnm⟩ := id Y
  unfold B_Mo_editionOf_4 at hM
  refine J_iload_n (pc := 4) X 3 d_Mo_editionOf_4 rfl ?_
  refine J_aload_n (pc := 5) X 0 d_Mo_editionOf_5 rfl ?_
  obtain ⟨v1, ev1, hM⟩ := hb_some hM
  refine J_getI (pc := 6) X hc_Mo in_Mo 3 k_563 (by decide) rfl d_Mo_editionOf_6 rfl ev1 ?_
  refine J_icmp_ge (pc := 9) (tgt := 34) X d_Mo_editionOf_9 (by decide) (fun c2 => ?_) (fun c2 => ?_)
  · have hM := hif_t hM c2
    refine J_iload_n (pc := 34) X 2 d_Mo_editionOf_34 rfl ?_
    obtain rfl := Option.some.inj hM
    exact J_iret (pc := 35) X hr hlk (Nat.le_of_ble_eq_true rfl) (Nat.le_of_ble_eq_true rfl) d_Mo_editionOf_35
  · have hM := hif_f hM c2
    refine J_aload_n (pc := 12) X 0 d_Mo_editionOf_12 rfl ?_
    obtain ⟨v3, ev3, hM⟩ := hb_some hM
    refine J_getA (pc := 13) X hc_Mo in_Mo 4 k_482 (by decide) rfl d_Mo_editionOf_13 rfl ev3 ?_
    refine J_iload_n (pc := 16) X 3 d_Mo_editionOf_16 rfl ?_
    obtain ⟨v4, ev4, hM⟩ := hb_some hM
    refine J_iald (pc := 17) X d_Mo_editionOf_17 rfl ev4 ?_
    refine J_iload_n (pc := 18) X 1 d_Mo_editionOf_18 rfl ?_
    refine J_icmp_gt (pc := 19) (tgt := 26) X d_Mo_editionOf_19 (by decide) (fun c5 => ?_) (fun c5 => ?_)
    · have hM := hif_t hM c5
      refine J_iload_n (pc := 26) X 2 d_Mo_editionOf_26 rfl ?_
      refine J_sub [0, 1, 3] rfl ?_
      exact w_Mo_editionOf_27 Y R4 _ _ _ _ _ _ hM
    · have hM := hif_f hM c5
      refine J_iload_n (pc := 22) X 3 d_Mo_editionOf_22 rfl ?_
      refine J_goto (pc := 23) (tgt := 27) X d_Mo_editionOf_23 (by decide) ?_
      refine J_sub [0, 1, 3] rfl ?_
      exact w_Mo_editionOf_27 Y R4 _ _ _ _ _ _ hM
theorem w_Mo_editionOf_4 {p : Program} {l : Launch} {e : Env} {s : State} {m : MethodId} {args : Array Value} {below : List Frame} {meth : Method} {c : Code} {D : va_G} {K : (Nat → Nat) × (Nat → Nat)} {h0 : hH} (Y : HX p s m args meth c prog_14_method_23_code 4 "LicenceTextsModel" D K "editionOf" (some .int) h0) {F : Nat} : ∀ z : Nat, ∀ (h : hH) (x0 : Nat) (x1 : Int32) (x2 : Int32) (x3 : Int32) (q : (Int32 × hH)), M_Mo_editionOf_4 F z h x0 x1 x2 x3 = some q → J p l e rm_Mo_editionOf s m args below meth c 4 D cls0 (hF h0) h [(0, .ref x0), (1, .int x1), (2, .int x2), (3, .int x3)] 0 0 (MQ below (hQ D cls0 h0 (some (.int q.1)) q.2) args s 0 0 (hF h0)) 4 [] := by
  intro z
  induction z with
  | zero => intro h x0 x1 x2 x3 q hM; exact absurd (show (none : Option _) = some q from hM) (fun t => by cases t)
  | succ z ih => exact b_Mo_editionOf_4 Y ih
set_option maxHeartbeats 4000000 in
set_option maxRecDepth 100000 in
theorem c_Mo_editionOf (l : Launch) (D : va_G) (K : (Nat → Nat) × (Nat → Nat)) (F : Nat) {h : hH} {x0 : Nat} {x1 : Int32} {q : (Int32 × hH)} (hM : M_Mo_editionOf F h x0 x1 = some q) : Met l y_Mo_editionOf (.code y_Mo_editionOf prog_14_method_23_code 4 (some .int) :: T0) rm_Mo_editionOf (hPc hG D cls0 K [.ref x0, .int x1] h) (hQ D cls0 h (some (.int q.1)) q.2) 0 0 (hF h) := by
  refine J_met (lv := [(0, .ref x0), (1, .int x1)]) (by decide) (Nat.le_of_ble_eq_true rfl) rfl ?_
  intro p e s m below meth c X hr hlk hnm
  have Y : HX p s m _ meth c prog_14_method_23_code 4 "LicenceTextsModel" D K "editionOf" (some .int) h := ⟨X, hr, hlk, hnm⟩
  unfold M_Mo_editionOf at hM
  refine J_iconst (pc := 0) (v := (-1)) X d_Mo_editionOf_0 (by decide) ?_
  refine J_istore_n (pc := 1) (lv' := [(2, .int (-1)), (0, .ref x0), (1, .int x1)]) X d_Mo_editionOf_1 rfl (by decide) rfl ?_
  refine J_iconst (pc := 2) (v := (0)) X d_Mo_editionOf_2 (by decide) ?_
  refine J_istore_n (pc := 3) (lv' := [(3, .int 0), (2, .int (-1)), (0, .ref x0), (1, .int x1)]) X d_Mo_editionOf_3 rfl (by decide) rfl ?_
  refine J_sub [2, 3, 1, 0] rfl ?_
  exact w_Mo_editionOf_4 Y F _ _ _ _ _ _ hM
