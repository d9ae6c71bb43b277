theorem d_Mo_init_0 : decode prog_14_method_1_code 0 = .ok (.aload_n 0, 1) := by decide +kernel
theorem d_Mo_init_1 : decode prog_14_method_1_code 1 = .ok (.invokespecial 1, 3) := by decide +kernel
theorem d_Mo_init_4 : decode prog_14_method_1_code 4 = .ok (.aload_n 0, 1) := by decide +kernel
theorem d_Mo_init_5 : decode prog_14_method_1_code 5 = .ok (.sipush 800, 3) := by decide +kernel
theorem d_Mo_init_8 : decode prog_14_method_1_code 8 = .ok (.newarray .byte, 2) := by decide +kernel
theorem d_Mo_init_10 : decode prog_14_method_1_code 10 = .ok (.putfield 7, 3) := by decide +kernel
theorem d_Mo_init_13 : decode prog_14_method_1_code 13 = .ok (.aload_n 0, 1) := by decide +kernel
theorem d_Mo_init_14 : decode prog_14_method_1_code 14 = .ok (.bipush 6, 2) := by decide +kernel
theorem d_Mo_init_16 : decode prog_14_method_1_code 16 = .ok (.newarray .int, 2) := by decide +kernel
theorem d_Mo_init_18 : decode prog_14_method_1_code 18 = .ok (.putfield 13, 3) := by decide +kernel
theorem d_Mo_init_21 : decode prog_14_method_1_code 21 = .ok (.aload_n 0, 1) := by decide +kernel
theorem d_Mo_init_22 : decode prog_14_method_1_code 22 = .ok (.sipush 4800, 3) := by decide +kernel
theorem d_Mo_init_25 : decode prog_14_method_1_code 25 = .ok (.newarray .byte, 2) := by decide +kernel
theorem d_Mo_init_27 : decode prog_14_method_1_code 27 = .ok (.putfield 17, 3) := by decide +kernel
theorem d_Mo_init_30 : decode prog_14_method_1_code 30 = .ok (.aload_n 0, 1) := by decide +kernel
theorem d_Mo_init_31 : decode prog_14_method_1_code 31 = .ok (.sipush 2400, 3) := by decide +kernel
theorem d_Mo_init_34 : decode prog_14_method_1_code 34 = .ok (.newarray .int, 2) := by decide +kernel
theorem d_Mo_init_36 : decode prog_14_method_1_code 36 = .ok (.putfield 20, 3) := by decide +kernel
theorem d_Mo_init_39 : decode prog_14_method_1_code 39 = .ok (.aload_n 0, 1) := by decide +kernel
theorem d_Mo_init_40 : decode prog_14_method_1_code 40 = .ok (.sipush 2400, 3) := by decide +kernel
theorem d_Mo_init_43 : decode prog_14_method_1_code 43 = .ok (.newarray .int, 2) := by decide +kernel
theorem d_Mo_init_45 : decode prog_14_method_1_code 45 = .ok (.putfield 23, 3) := by decide +kernel
theorem d_Mo_init_48 : decode prog_14_method_1_code 48 = .ok (.aload_n 0, 1) := by decide +kernel
theorem d_Mo_init_49 : decode prog_14_method_1_code 49 = .ok (.sipush 2400, 3) := by decide +kernel
theorem d_Mo_init_52 : decode prog_14_method_1_code 52 = .ok (.newarray .int, 2) := by decide +kernel
theorem d_Mo_init_54 : decode prog_14_method_1_code 54 = .ok (.putfield 26, 3) := by decide +kernel
theorem d_Mo_init_57 : decode prog_14_method_1_code 57 = .ok (.aload_n 0, 1) := by decide +kernel
theorem d_Mo_init_58 : decode prog_14_method_1_code 58 = .ok (.bipush 6, 2) := by decide +kernel
theorem d_Mo_init_60 : decode prog_14_method_1_code 60 = .ok (.newarray .int, 2) := by decide +kernel
theorem d_Mo_init_62 : decode prog_14_method_1_code 62 = .ok (.putfield 29, 3) := by decide +kernel
theorem d_Mo_init_65 : decode prog_14_method_1_code 65 = .ok (.aload_n 0, 1) := by decide +kernel
theorem d_Mo_init_66 : decode prog_14_method_1_code 66 = .ok (.bipush 6, 2) := by decide +kernel
theorem d_Mo_init_68 : decode prog_14_method_1_code 68 = .ok (.newarray .int, 2) := by decide +kernel
theorem d_Mo_init_70 : decode prog_14_method_1_code 70 = .ok (.putfield 32, 3) := by decide +kernel
theorem d_Mo_init_73 : decode prog_14_method_1_code 73 = .ok (.aload_n 0, 1) := by decide +kernel
theorem d_Mo_init_74 : decode prog_14_method_1_code 74 = .ok (.bipush 48, 2) := by decide +kernel
theorem d_Mo_init_76 : decode prog_14_method_1_code 76 = .ok (.newarray .int, 2) := by decide +kernel
theorem d_Mo_init_78 : decode prog_14_method_1_code 78 = .ok (.putfield 35, 3) := by decide +kernel
theorem d_Mo_init_81 : decode prog_14_method_1_code 81 = .ok (.aload_n 0, 1) := by decide +kernel
theorem d_Mo_init_82 : decode prog_14_method_1_code 82 = .ok (.sipush 480, 3) := by decide +kernel
theorem d_Mo_init_85 : decode prog_14_method_1_code 85 = .ok (.newarray .int, 2) := by decide +kernel
theorem d_Mo_init_87 : decode prog_14_method_1_code 87 = .ok (.putfield 38, 3) := by decide +kernel
theorem d_Mo_init_90 : decode prog_14_method_1_code 90 = .ok (.aload_n 0, 1) := by decide +kernel
theorem d_Mo_init_91 : decode prog_14_method_1_code 91 = .ok (.bipush 6, 2) := by decide +kernel
theorem d_Mo_init_93 : decode prog_14_method_1_code 93 = .ok (.newarray .int, 2) := by decide +kernel
theorem d_Mo_init_95 : decode prog_14_method_1_code 95 = .ok (.putfield 41, 3) := by decide +kernel
theorem d_Mo_init_98 : decode prog_14_method_1_code 98 = .ok (.aload_n 0, 1) := by decide +kernel
theorem d_Mo_init_99 : decode prog_14_method_1_code 99 = .ok (.bipush 72, 2) := by decide +kernel
theorem d_Mo_init_101 : decode prog_14_method_1_code 101 = .ok (.newarray .int, 2) := by decide +kernel
theorem d_Mo_init_103 : decode prog_14_method_1_code 103 = .ok (.putfield 44, 3) := by decide +kernel
theorem d_Mo_init_106 : decode prog_14_method_1_code 106 = .ok (.aload_n 0, 1) := by decide +kernel
theorem d_Mo_init_107 : decode prog_14_method_1_code 107 = .ok (.bipush 72, 2) := by decide +kernel
theorem d_Mo_init_109 : decode prog_14_method_1_code 109 = .ok (.newarray .int, 2) := by decide +kernel
theorem d_Mo_init_111 : decode prog_14_method_1_code 111 = .ok (.putfield 47, 3) := by decide +kernel
theorem d_Mo_init_114 : decode prog_14_method_1_code 114 = .ok (.aload_n 0, 1) := by decide +kernel
theorem d_Mo_init_115 : decode prog_14_method_1_code 115 = .ok (.bipush 72, 2) := by decide +kernel
theorem d_Mo_init_117 : decode prog_14_method_1_code 117 = .ok (.newarray .int, 2) := by decide +kernel
theorem d_Mo_init_119 : decode prog_14_method_1_code 119 = .ok (.putfield 50, 3) := by decide +kernel
theorem d_Mo_init_122 : decode prog_14_method_1_code 122 = .ok (.aload_n 0, 1) := by decide +kernel
theorem d_Mo_init_123 : decode prog_14_method_1_code 123 = .ok (.bipush 72, 2) := by decide +kernel
theorem d_Mo_init_125 : decode prog_14_method_1_code 125 = .ok (.newarray .int, 2) := by decide +kernel
theorem d_Mo_init_127 : decode prog_14_method_1_code 127 = .ok (.putfield 53, 3) := by decide +kernel
theorem d_Mo_init_130 : decode prog_14_method_1_code 130 = .ok (.aload_n 0, 1) := by decide +kernel
theorem d_Mo_init_131 : decode prog_14_method_1_code 131 = .ok (.bipush 72, 2) := by decide +kernel
theorem d_Mo_init_133 : decode prog_14_method_1_code 133 = .ok (.newarray .int, 2) := by decide +kernel
theorem d_Mo_init_135 : decode prog_14_method_1_code 135 = .ok (.putfield 56, 3) := by decide +kernel
theorem d_Mo_init_138 : decode prog_14_method_1_code 138 = .ok (.aload_n 0, 1) := by decide +kernel
theorem d_Mo_init_139 : decode prog_14_method_1_code 139 = .ok (.sipush 2400, 3) := by decide +kernel
theorem d_Mo_init_142 : decode prog_14_method_1_code 142 = .ok (.newarray .int, 2) := by decide +kernel
theorem d_Mo_init_144 : decode prog_14_method_1_code 144 = .ok (.putfield 59, 3) := by decide +kernel
theorem d_Mo_init_147 : decode prog_14_method_1_code 147 = .ok (.aload_n 0, 1) := by decide +kernel
theorem d_Mo_init_148 : decode prog_14_method_1_code 148 = .ok (.sipush 2400, 3) := by decide +kernel
theorem d_Mo_init_151 : decode prog_14_method_1_code 151 = .ok (.newarray .int, 2) := by decide +kernel
theorem d_Mo_init_153 : decode prog_14_method_1_code 153 = .ok (.putfield 62, 3) := by decide +kernel
theorem d_Mo_init_156 : decode prog_14_method_1_code 156 = .ok (.aload_n 0, 1) := by decide +kernel
theorem d_Mo_init_157 : decode prog_14_method_1_code 157 = .ok (.sipush 500, 3) := by decide +kernel
theorem d_Mo_init_160 : decode prog_14_method_1_code 160 = .ok (.newarray .int, 2) := by decide +kernel
theorem d_Mo_init_162 : decode prog_14_method_1_code 162 = .ok (.putfield 65, 3) := by decide +kernel
theorem d_Mo_init_165 : decode prog_14_method_1_code 165 = .ok (.aload_n 0, 1) := by decide +kernel
theorem d_Mo_init_166 : decode prog_14_method_1_code 166 = .ok (.sipush 500, 3) := by decide +kernel
theorem d_Mo_init_169 : decode prog_14_method_1_code 169 = .ok (.newarray .int, 2) := by decide +kernel
theorem d_Mo_init_171 : decode prog_14_method_1_code 171 = .ok (.putfield 68, 3) := by decide +kernel
theorem d_Mo_init_174 : decode prog_14_method_1_code 174 = .ok (.aload_n 0, 1) := by decide +kernel
theorem d_Mo_init_175 : decode prog_14_method_1_code 175 = .ok (.bipush 20, 2) := by decide +kernel
theorem d_Mo_init_177 : decode prog_14_method_1_code 177 = .ok (.newarray .long, 2) := by decide +kernel
theorem d_Mo_init_179 : decode prog_14_method_1_code 179 = .ok (.putfield 71, 3) := by decide +kernel
theorem d_Mo_init_182 : decode prog_14_method_1_code 182 = .ok (.aload_n 0, 1) := by decide +kernel
theorem d_Mo_init_183 : decode prog_14_method_1_code 183 = .ok (.bipush 20, 2) := by decide +kernel
theorem d_Mo_init_185 : decode prog_14_method_1_code 185 = .ok (.newarray .boolean, 2) := by decide +kernel
theorem d_Mo_init_187 : decode prog_14_method_1_code 187 = .ok (.putfield 75, 3) := by decide +kernel
theorem d_Mo_init_190 : decode prog_14_method_1_code 190 = .ok (.aload_n 0, 1) := by decide +kernel
theorem d_Mo_init_191 : decode prog_14_method_1_code 191 = .ok (.iconst (-1), 1) := by decide +kernel
theorem d_Mo_init_192 : decode prog_14_method_1_code 192 = .ok (.putfield 79, 3) := by decide +kernel
theorem d_Mo_init_195 : decode prog_14_method_1_code 195 = .ok (.aload_n 0, 1) := by decide +kernel
theorem d_Mo_init_196 : decode prog_14_method_1_code 196 = .ok (.bipush 12, 2) := by decide +kernel
theorem d_Mo_init_198 : decode prog_14_method_1_code 198 = .ok (.newarray .int, 2) := by decide +kernel
theorem d_Mo_init_200 : decode prog_14_method_1_code 200 = .ok (.putfield 83, 3) := by decide +kernel
theorem d_Mo_init_203 : decode prog_14_method_1_code 203 = .ok (.aload_n 0, 1) := by decide +kernel
theorem d_Mo_init_204 : decode prog_14_method_1_code 204 = .ok (.bipush 12, 2) := by decide +kernel
theorem d_Mo_init_206 : decode prog_14_method_1_code 206 = .ok (.newarray .int, 2) := by decide +kernel
theorem d_Mo_init_208 : decode prog_14_method_1_code 208 = .ok (.putfield 86, 3) := by decide +kernel
theorem d_Mo_init_211 : decode prog_14_method_1_code 211 = .ok (.aload_n 0, 1) := by decide +kernel
theorem d_Mo_init_212 : decode prog_14_method_1_code 212 = .ok (.bipush 12, 2) := by decide +kernel
theorem d_Mo_init_214 : decode prog_14_method_1_code 214 = .ok (.newarray .int, 2) := by decide +kernel
theorem d_Mo_init_216 : decode prog_14_method_1_code 216 = .ok (.putfield 89, 3) := by decide +kernel
theorem d_Mo_init_219 : decode prog_14_method_1_code 219 = .ok (.aload_n 0, 1) := by decide +kernel
theorem d_Mo_init_220 : decode prog_14_method_1_code 220 = .ok (.sipush 500, 3) := by decide +kernel
theorem d_Mo_init_223 : decode prog_14_method_1_code 223 = .ok (.newarray .long, 2) := by decide +kernel
theorem d_Mo_init_225 : decode prog_14_method_1_code 225 = .ok (.putfield 92, 3) := by decide +kernel
theorem d_Mo_init_228 : decode prog_14_method_1_code 228 = .ok (.aload_n 0, 1) := by decide +kernel
theorem d_Mo_init_229 : decode prog_14_method_1_code 229 = .ok (.sipush 1600, 3) := by decide +kernel
theorem d_Mo_init_232 : decode prog_14_method_1_code 232 = .ok (.newarray .byte, 2) := by decide +kernel
theorem d_Mo_init_234 : decode prog_14_method_1_code 234 = .ok (.putfield 95, 3) := by decide +kernel
theorem d_Mo_init_237 : decode prog_14_method_1_code 237 = .ok (.aload_n 0, 1) := by decide +kernel
theorem d_Mo_init_238 : decode prog_14_method_1_code 238 = .ok (.bipush 80, 2) := by decide +kernel
theorem d_Mo_init_240 : decode prog_14_method_1_code 240 = .ok (.newarray .long, 2) := by decide +kernel
theorem d_Mo_init_242 : decode prog_14_method_1_code 242 = .ok (.putfield 98, 3) := by decide +kernel
theorem d_Mo_init_245 : decode prog_14_method_1_code 245 = .ok (.return_, 1) := by decide +kernel
theorem d_Mo_thrown_0 : decode prog_14_method_2_code 0 = .ok (.aload_n 0, 1) := by decide +kernel
theorem d_Mo_thrown_1 : decode prog_14_method_2_code 1 = .ok (.getfield 101, 3) := by decide +kernel
theorem d_Mo_thrown_4 : decode prog_14_method_2_code 4 = .ok (.ireturn, 1) := by decide +kernel
theorem d_Mo_unit_0 : decode prog_14_method_3_code 0 = .ok (.aload_n 0, 1) := by decide +kernel
theorem d_Mo_unit_1 : decode prog_14_method_3_code 1 = .ok (.iconst 0, 1) := by decide +kernel
theorem d_Mo_unit_2 : decode prog_14_method_3_code 2 = .ok (.putfield 101, 3) := by decide +kernel
theorem d_Mo_unit_5 : decode prog_14_method_3_code 5 = .ok (.aload_n 0, 1) := by decide +kernel
theorem d_Mo_unit_6 : decode prog_14_method_3_code 6 = .ok (.getfield 104, 3) := by decide +kernel
theorem d_Mo_unit_9 : decode prog_14_method_3_code 9 = .ok (.sipush 800, 3) := by decide +kernel
theorem d_Mo_unit_12 : decode prog_14_method_3_code 12 = .ok (.if_icmp .ne 5, 3) := by decide +kernel
theorem d_Mo_unit_17 : decode prog_14_method_3_code 17 = .ok (.aload_n 0, 1) := by decide +kernel
theorem d_Mo_unit_18 : decode prog_14_method_3_code 18 = .ok (.getfield 7, 3) := by decide +kernel
theorem d_Mo_unit_21 : decode prog_14_method_3_code 21 = .ok (.aload_n 0, 1) := by decide +kernel
theorem d_Mo_unit_22 : decode prog_14_method_3_code 22 = .ok (.getfield 104, 3) := by decide +kernel
theorem d_Mo_unit_25 : decode prog_14_method_3_code 25 = .ok (.iload_n 1, 1) := by decide +kernel
theorem d_Mo_unit_26 : decode prog_14_method_3_code 26 = .ok (.i2b, 1) := by decide +kernel
theorem d_Mo_unit_27 : decode prog_14_method_3_code 27 = .ok (.bastore, 1) := by decide +kernel
theorem d_Mo_unit_28 : decode prog_14_method_3_code 28 = .ok (.aload_n 0, 1) := by decide +kernel
theorem d_Mo_unit_29 : decode prog_14_method_3_code 29 = .ok (.dup, 1) := by decide +kernel
theorem d_Mo_unit_30 : decode prog_14_method_3_code 30 = .ok (.getfield 104, 3) := by decide +kernel
theorem d_Mo_unit_33 : decode prog_14_method_3_code 33 = .ok (.iconst 1, 1) := by decide +kernel
theorem d_Mo_unit_34 : decode prog_14_method_3_code 34 = .ok (.iadd, 1) := by decide +kernel
theorem d_Mo_unit_35 : decode prog_14_method_3_code 35 = .ok (.putfield 104, 3) := by decide +kernel
theorem d_Mo_unit_38 : decode prog_14_method_3_code 38 = .ok (.iconst 1, 1) := by decide +kernel
theorem d_Mo_unit_39 : decode prog_14_method_3_code 39 = .ok (.ireturn, 1) := by decide +kernel
theorem d_Mo_unit_15 : decode prog_14_method_3_code 15 = .ok (.iconst 0, 1) := by decide +kernel
theorem d_Mo_unit_16 : decode prog_14_method_3_code 16 = .ok (.ireturn, 1) := by decide +kernel
theorem d_Mo_five_0 : decode prog_14_method_4_code 0 = .ok (.iload_n 0, 1) := by decide +kernel
theorem d_Mo_five_1 : decode prog_14_method_4_code 1 = .ok (.i2l, 1) := by decide +kernel
theorem d_Mo_five_2 : decode prog_14_method_4_code 2 = .ok (.ldc2_w 107, 3) := by decide +kernel
theorem d_Mo_five_5 : decode prog_14_method_4_code 5 = .ok (.lmul, 1) := by decide +kernel
theorem d_Mo_five_6 : decode prog_14_method_4_code 6 = .ok (.iload_n 1, 1) := by decide +kernel
theorem d_Mo_five_7 : decode prog_14_method_4_code 7 = .ok (.i2l, 1) := by decide +kernel
theorem d_Mo_five_8 : decode prog_14_method_4_code 8 = .ok (.ladd, 1) := by decide +kernel
theorem d_Mo_five_9 : decode prog_14_method_4_code 9 = .ok (.ldc2_w 107, 3) := by decide +kernel
theorem d_Mo_five_12 : decode prog_14_method_4_code 12 = .ok (.lmul, 1) := by decide +kernel
theorem d_Mo_five_13 : decode prog_14_method_4_code 13 = .ok (.iload_n 2, 1) := by decide +kernel
theorem d_Mo_five_14 : decode prog_14_method_4_code 14 = .ok (.i2l, 1) := by decide +kernel
theorem d_Mo_five_15 : decode prog_14_method_4_code 15 = .ok (.ladd, 1) := by decide +kernel
theorem d_Mo_five_16 : decode prog_14_method_4_code 16 = .ok (.ldc2_w 107, 3) := by decide +kernel
theorem d_Mo_five_19 : decode prog_14_method_4_code 19 = .ok (.lmul, 1) := by decide +kernel
theorem d_Mo_five_20 : decode prog_14_method_4_code 20 = .ok (.iload_n 3, 1) := by decide +kernel
theorem d_Mo_five_21 : decode prog_14_method_4_code 21 = .ok (.i2l, 1) := by decide +kernel
theorem d_Mo_five_22 : decode prog_14_method_4_code 22 = .ok (.ladd, 1) := by decide +kernel
theorem d_Mo_five_23 : decode prog_14_method_4_code 23 = .ok (.ldc2_w 107, 3) := by decide +kernel
theorem d_Mo_five_26 : decode prog_14_method_4_code 26 = .ok (.lmul, 1) := by decide +kernel
theorem d_Mo_five_27 : decode prog_14_method_4_code 27 = .ok (.iload 4, 2) := by decide +kernel
theorem d_Mo_five_29 : decode prog_14_method_4_code 29 = .ok (.i2l, 1) := by decide +kernel
theorem d_Mo_five_30 : decode prog_14_method_4_code 30 = .ok (.ladd, 1) := by decide +kernel
theorem d_Mo_five_31 : decode prog_14_method_4_code 31 = .ok (.lreturn, 1) := by decide +kernel
theorem d_Mo_nameOf_93 : decode prog_14_method_5_code 93 = .ok (.lstore_n 3, 1) := by decide +kernel
theorem d_Mo_nameOf_94 : decode prog_14_method_5_code 94 = .ok (.iinc 5 1, 3) := by decide +kernel
theorem d_Mo_nameOf_97 : decode prog_14_method_5_code 97 = .ok (.goto (-29), 3) := by decide +kernel
theorem d_Mo_nameOf_68 : decode prog_14_method_5_code 68 = .ok (.iload 5, 2) := by decide +kernel
theorem d_Mo_nameOf_70 : decode prog_14_method_5_code 70 = .ok (.iload_n 2, 1) := by decide +kernel
theorem d_Mo_nameOf_71 : decode prog_14_method_5_code 71 = .ok (.if_icmp .ge 29, 3) := by decide +kernel
theorem d_Mo_nameOf_100 : decode prog_14_method_5_code 100 = .ok (.lload_n 3, 1) := by decide +kernel
theorem d_Mo_nameOf_101 : decode prog_14_method_5_code 101 = .ok (.bipush 116, 2) := by decide +kernel
theorem d_Mo_nameOf_103 : decode prog_14_method_5_code 103 = .ok (.bipush 97, 2) := by decide +kernel
theorem d_Mo_nameOf_105 : decode prog_14_method_5_code 105 = .ok (.bipush 98, 2) := by decide +kernel
theorem d_Mo_nameOf_107 : decode prog_14_method_5_code 107 = .ok (.bipush 108, 2) := by decide +kernel
theorem d_Mo_nameOf_109 : decode prog_14_method_5_code 109 = .ok (.bipush 101, 2) := by decide +kernel
theorem d_Mo_nameOf_111 : decode prog_14_method_5_code 111 = .ok (.invokestatic 111, 3) := by decide +kernel
theorem d_Mo_nameOf_114 : decode prog_14_method_5_code 114 = .ok (.lcmp, 1) := by decide +kernel
theorem d_Mo_nameOf_115 : decode prog_14_method_5_code 115 = .ok (.ifCond .ne 5, 3) := by decide +kernel
theorem d_Mo_nameOf_120 : decode prog_14_method_5_code 120 = .ok (.lload_n 3, 1) := by decide +kernel
theorem d_Mo_nameOf_121 : decode prog_14_method_5_code 121 = .ok (.bipush 114, 2) := by decide +kernel
theorem d_Mo_nameOf_123 : decode prog_14_method_5_code 123 = .ok (.bipush 117, 2) := by decide +kernel
theorem d_Mo_nameOf_125 : decode prog_14_method_5_code 125 = .ok (.bipush 108, 2) := by decide +kernel
theorem d_Mo_nameOf_127 : decode prog_14_method_5_code 127 = .ok (.bipush 101, 2) := by decide +kernel
theorem d_Mo_nameOf_129 : decode prog_14_method_5_code 129 = .ok (.iconst 0, 1) := by decide +kernel
theorem d_Mo_nameOf_130 : decode prog_14_method_5_code 130 = .ok (.invokestatic 111, 3) := by decide +kernel
theorem d_Mo_nameOf_133 : decode prog_14_method_5_code 133 = .ok (.lcmp, 1) := by decide +kernel
theorem d_Mo_nameOf_134 : decode prog_14_method_5_code 134 = .ok (.ifCond .ne 6, 3) := by decide +kernel
theorem d_Mo_nameOf_140 : decode prog_14_method_5_code 140 = .ok (.lload_n 3, 1) := by decide +kernel
theorem d_Mo_nameOf_141 : decode prog_14_method_5_code 141 = .ok (.bipush 119, 2) := by decide +kernel
theorem d_Mo_nameOf_143 : decode prog_14_method_5_code 143 = .ok (.bipush 104, 2) := by decide +kernel
theorem d_Mo_nameOf_145 : decode prog_14_method_5_code 145 = .ok (.bipush 101, 2) := by decide +kernel
theorem d_Mo_nameOf_147 : decode prog_14_method_5_code 147 = .ok (.bipush 110, 2) := by decide +kernel
theorem d_Mo_nameOf_149 : decode prog_14_method_5_code 149 = .ok (.iconst 0, 1) := by decide +kernel
theorem d_Mo_nameOf_150 : decode prog_14_method_5_code 150 = .ok (.invokestatic 111, 3) := by decide +kernel
theorem d_Mo_nameOf_153 : decode prog_14_method_5_code 153 = .ok (.lcmp, 1) := by decide +kernel
theorem d_Mo_nameOf_154 : decode prog_14_method_5_code 154 = .ok (.ifCond .ne 6, 3) := by decide +kernel
theorem d_Mo_nameOf_160 : decode prog_14_method_5_code 160 = .ok (.lload_n 3, 1) := by decide +kernel
theorem d_Mo_nameOf_161 : decode prog_14_method_5_code 161 = .ok (.bipush 110, 2) := by decide +kernel
theorem d_Mo_nameOf_163 : decode prog_14_method_5_code 163 = .ok (.bipush 101, 2) := by decide +kernel
theorem d_Mo_nameOf_165 : decode prog_14_method_5_code 165 = .ok (.bipush 101, 2) := by decide +kernel
theorem d_Mo_nameOf_167 : decode prog_14_method_5_code 167 = .ok (.bipush 100, 2) := by decide +kernel
theorem d_Mo_nameOf_169 : decode prog_14_method_5_code 169 = .ok (.iconst 0, 1) := by decide +kernel
theorem d_Mo_nameOf_170 : decode prog_14_method_5_code 170 = .ok (.invokestatic 111, 3) := by decide +kernel
theorem d_Mo_nameOf_173 : decode prog_14_method_5_code 173 = .ok (.lcmp, 1) := by decide +kernel
theorem d_Mo_nameOf_174 : decode prog_14_method_5_code 174 = .ok (.ifCond .ne 6, 3) := by decide +kernel
theorem d_Mo_nameOf_180 : decode prog_14_method_5_code 180 = .ok (.lload_n 3, 1) := by decide +kernel
theorem d_Mo_nameOf_181 : decode prog_14_method_5_code 181 = .ok (.bipush 97, 2) := by decide +kernel
theorem d_Mo_nameOf_183 : decode prog_14_method_5_code 183 = .ok (.bipush 110, 2) := by decide +kernel
theorem d_Mo_nameOf_185 : decode prog_14_method_5_code 185 = .ok (.bipush 100, 2) := by decide +kernel
theorem d_Mo_nameOf_187 : decode prog_14_method_5_code 187 = .ok (.iconst 0, 1) := by decide +kernel
theorem d_Mo_nameOf_188 : decode prog_14_method_5_code 188 = .ok (.iconst 0, 1) := by decide +kernel
theorem d_Mo_nameOf_189 : decode prog_14_method_5_code 189 = .ok (.invokestatic 111, 3) := by decide +kernel
theorem d_Mo_nameOf_192 : decode prog_14_method_5_code 192 = .ok (.lcmp, 1) := by decide +kernel
theorem d_Mo_nameOf_193 : decode prog_14_method_5_code 193 = .ok (.ifCond .ne 6, 3) := by decide +kernel
theorem d_Mo_nameOf_199 : decode prog_14_method_5_code 199 = .ok (.lload_n 3, 1) := by decide +kernel
theorem d_Mo_nameOf_200 : decode prog_14_method_5_code 200 = .ok (.bipush 102, 2) := by decide +kernel
theorem d_Mo_nameOf_202 : decode prog_14_method_5_code 202 = .ok (.bipush 97, 2) := by decide +kernel
theorem d_Mo_nameOf_204 : decode prog_14_method_5_code 204 = .ok (.bipush 99, 2) := by decide +kernel
theorem d_Mo_nameOf_206 : decode prog_14_method_5_code 206 = .ok (.bipush 116, 2) := by decide +kernel
theorem d_Mo_nameOf_208 : decode prog_14_method_5_code 208 = .ok (.iconst 0, 1) := by decide +kernel
theorem d_Mo_nameOf_209 : decode prog_14_method_5_code 209 = .ok (.invokestatic 111, 3) := by decide +kernel
theorem d_Mo_nameOf_212 : decode prog_14_method_5_code 212 = .ok (.lcmp, 1) := by decide +kernel
theorem d_Mo_nameOf_213 : decode prog_14_method_5_code 213 = .ok (.ifCond .ne 6, 3) := by decide +kernel
theorem d_Mo_nameOf_219 : decode prog_14_method_5_code 219 = .ok (.lload_n 3, 1) := by decide +kernel
theorem d_Mo_nameOf_220 : decode prog_14_method_5_code 220 = .ok (.bipush 97, 2) := by decide +kernel
theorem d_Mo_nameOf_222 : decode prog_14_method_5_code 222 = .ok (.bipush 116, 2) := by decide +kernel
theorem d_Mo_nameOf_224 : decode prog_14_method_5_code 224 = .ok (.iconst 0, 1) := by decide +kernel
theorem d_Mo_nameOf_225 : decode prog_14_method_5_code 225 = .ok (.iconst 0, 1) := by decide +kernel
theorem d_Mo_nameOf_226 : decode prog_14_method_5_code 226 = .ok (.iconst 0, 1) := by decide +kernel
theorem d_Mo_nameOf_227 : decode prog_14_method_5_code 227 = .ok (.invokestatic 111, 3) := by decide +kernel
theorem d_Mo_nameOf_230 : decode prog_14_method_5_code 230 = .ok (.lcmp, 1) := by decide +kernel
theorem d_Mo_nameOf_231 : decode prog_14_method_5_code 231 = .ok (.ifCond .ne 8, 3) := by decide +kernel
theorem d_Mo_nameOf_239 : decode prog_14_method_5_code 239 = .ok (.bipush (-20), 2) := by decide +kernel
theorem d_Mo_nameOf_241 : decode prog_14_method_5_code 241 = .ok (.ireturn, 1) := by decide +kernel
theorem d_Mo_nameOf_234 : decode prog_14_method_5_code 234 = .ok (.bipush (-7), 2) := by decide +kernel
theorem d_Mo_nameOf_236 : decode prog_14_method_5_code 236 = .ok (.goto 5, 3) := by decide +kernel
theorem d_Mo_nameOf_216 : decode prog_14_method_5_code 216 = .ok (.bipush (-6), 2) := by decide +kernel
theorem d_Mo_nameOf_218 : decode prog_14_method_5_code 218 = .ok (.ireturn, 1) := by decide +kernel
theorem d_Mo_nameOf_196 : decode prog_14_method_5_code 196 = .ok (.bipush (-5), 2) := by decide +kernel
theorem d_Mo_nameOf_198 : decode prog_14_method_5_code 198 = .ok (.ireturn, 1) := by decide +kernel
theorem d_Mo_nameOf_177 : decode prog_14_method_5_code 177 = .ok (.bipush (-4), 2) := by decide +kernel
theorem d_Mo_nameOf_179 : decode prog_14_method_5_code 179 = .ok (.ireturn, 1) := by decide +kernel
theorem d_Mo_nameOf_157 : decode prog_14_method_5_code 157 = .ok (.bipush (-3), 2) := by decide +kernel
theorem d_Mo_nameOf_159 : decode prog_14_method_5_code 159 = .ok (.ireturn, 1) := by decide +kernel
theorem d_Mo_nameOf_137 : decode prog_14_method_5_code 137 = .ok (.bipush (-2), 2) := by decide +kernel
theorem d_Mo_nameOf_139 : decode prog_14_method_5_code 139 = .ok (.ireturn, 1) := by decide +kernel
theorem d_Mo_nameOf_118 : decode prog_14_method_5_code 118 = .ok (.iconst (-1), 1) := by decide +kernel
theorem d_Mo_nameOf_119 : decode prog_14_method_5_code 119 = .ok (.ireturn, 1) := by decide +kernel
theorem d_Mo_nameOf_74 : decode prog_14_method_5_code 74 = .ok (.aload_n 0, 1) := by decide +kernel
theorem d_Mo_nameOf_75 : decode prog_14_method_5_code 75 = .ok (.getfield 7, 3) := by decide +kernel
theorem d_Mo_nameOf_78 : decode prog_14_method_5_code 78 = .ok (.iload_n 1, 1) := by decide +kernel
theorem d_Mo_nameOf_79 : decode prog_14_method_5_code 79 = .ok (.iload 5, 2) := by decide +kernel
theorem d_Mo_nameOf_81 : decode prog_14_method_5_code 81 = .ok (.iadd, 1) := by decide +kernel
theorem d_Mo_nameOf_82 : decode prog_14_method_5_code 82 = .ok (.baload, 1) := by decide +kernel
theorem d_Mo_nameOf_83 : decode prog_14_method_5_code 83 = .ok (.ifCond .ne 9, 3) := by decide +kernel
theorem d_Mo_nameOf_92 : decode prog_14_method_5_code 92 = .ok (.lload_n 3, 1) := by decide +kernel
theorem d_Mo_nameOf_86 : decode prog_14_method_5_code 86 = .ok (.ldc2_w 109, 3) := by decide +kernel
theorem d_Mo_nameOf_89 : decode prog_14_method_5_code 89 = .ok (.goto 4, 3) := by decide +kernel
theorem d_Mo_nameOf_65 : decode prog_14_method_5_code 65 = .ok (.iconst 0, 1) := by decide +kernel
theorem d_Mo_nameOf_66 : decode prog_14_method_5_code 66 = .ok (.istore 5, 2) := by decide +kernel
theorem d_Mo_nameOf_56 : decode prog_14_method_5_code 56 = .ok (.i2l, 1) := by decide +kernel
theorem d_Mo_nameOf_57 : decode prog_14_method_5_code 57 = .ok (.ladd, 1) := by decide +kernel
theorem d_Mo_nameOf_58 : decode prog_14_method_5_code 58 = .ok (.lstore_n 3, 1) := by decide +kernel
theorem d_Mo_nameOf_59 : decode prog_14_method_5_code 59 = .ok (.iinc 5 1, 3) := by decide +kernel
theorem d_Mo_nameOf_62 : decode prog_14_method_5_code 62 = .ok (.goto (-46), 3) := by decide +kernel
theorem d_Mo_nameOf_16 : decode prog_14_method_5_code 16 = .ok (.iload 5, 2) := by decide +kernel
theorem d_Mo_nameOf_18 : decode prog_14_method_5_code 18 = .ok (.iconst 5, 1) := by decide +kernel
theorem d_Mo_nameOf_19 : decode prog_14_method_5_code 19 = .ok (.if_icmp .ge 46, 3) := by decide +kernel
theorem d_Mo_nameOf_22 : decode prog_14_method_5_code 22 = .ok (.iload_n 2, 1) := by decide +kernel
theorem d_Mo_nameOf_23 : decode prog_14_method_5_code 23 = .ok (.bipush 6, 2) := by decide +kernel
theorem d_Mo_nameOf_25 : decode prog_14_method_5_code 25 = .ok (.if_icmp .ge 40, 3) := by decide +kernel
theorem d_Mo_nameOf_28 : decode prog_14_method_5_code 28 = .ok (.ldc2_w 107, 3) := by decide +kernel
theorem d_Mo_nameOf_31 : decode prog_14_method_5_code 31 = .ok (.lload_n 3, 1) := by decide +kernel
theorem d_Mo_nameOf_32 : decode prog_14_method_5_code 32 = .ok (.lmul, 1) := by decide +kernel
theorem d_Mo_nameOf_33 : decode prog_14_method_5_code 33 = .ok (.iload 5, 2) := by decide +kernel
theorem d_Mo_nameOf_35 : decode prog_14_method_5_code 35 = .ok (.iload_n 2, 1) := by decide +kernel
theorem d_Mo_nameOf_36 : decode prog_14_method_5_code 36 = .ok (.if_icmp .ge 19, 3) := by decide +kernel
theorem d_Mo_nameOf_55 : decode prog_14_method_5_code 55 = .ok (.iconst 0, 1) := by decide +kernel
theorem d_Mo_nameOf_39 : decode prog_14_method_5_code 39 = .ok (.aload_n 0, 1) := by decide +kernel
theorem d_Mo_nameOf_40 : decode prog_14_method_5_code 40 = .ok (.getfield 7, 3) := by decide +kernel
theorem d_Mo_nameOf_43 : decode prog_14_method_5_code 43 = .ok (.iload_n 1, 1) := by decide +kernel
theorem d_Mo_nameOf_44 : decode prog_14_method_5_code 44 = .ok (.iload 5, 2) := by decide +kernel
theorem d_Mo_nameOf_46 : decode prog_14_method_5_code 46 = .ok (.iadd, 1) := by decide +kernel
theorem d_Mo_nameOf_47 : decode prog_14_method_5_code 47 = .ok (.baload, 1) := by decide +kernel
theorem d_Mo_nameOf_48 : decode prog_14_method_5_code 48 = .ok (.sipush 255, 3) := by decide +kernel
theorem d_Mo_nameOf_51 : decode prog_14_method_5_code 51 = .ok (.iand, 1) := by decide +kernel
theorem d_Mo_nameOf_52 : decode prog_14_method_5_code 52 = .ok (.goto 4, 3) := by decide +kernel
theorem d_Mo_nameOf_12 : decode prog_14_method_5_code 12 = .ok (.lstore_n 3, 1) := by decide +kernel
theorem d_Mo_nameOf_13 : decode prog_14_method_5_code 13 = .ok (.iconst 0, 1) := by decide +kernel
theorem d_Mo_nameOf_14 : decode prog_14_method_5_code 14 = .ok (.istore 5, 2) := by decide +kernel
theorem d_Mo_nameOf_0 : decode prog_14_method_5_code 0 = .ok (.iload_n 2, 1) := by decide +kernel
theorem d_Mo_nameOf_1 : decode prog_14_method_5_code 1 = .ok (.iconst 5, 1) := by decide +kernel
theorem d_Mo_nameOf_2 : decode prog_14_method_5_code 2 = .ok (.if_icmp .le 9, 3) := by decide +kernel
theorem d_Mo_nameOf_11 : decode prog_14_method_5_code 11 = .ok (.lconst 0, 1) := by decide +kernel
theorem d_Mo_nameOf_5 : decode prog_14_method_5_code 5 = .ok (.ldc2_w 109, 3) := by decide +kernel
theorem d_Mo_nameOf_8 : decode prog_14_method_5_code 8 = .ok (.goto 4, 3) := by decide +kernel
theorem d_Mo_wordOf_141 : decode prog_14_method_6_code 141 = .ok (.istore 5, 2) := by decide +kernel
theorem d_Mo_wordOf_143 : decode prog_14_method_6_code 143 = .ok (.iload 5, 2) := by decide +kernel
theorem d_Mo_wordOf_145 : decode prog_14_method_6_code 145 = .ok (.lookupswitch 143 #[(37, 125), (40, 107), (41, 110), (42, 119), (43, 113), (45, 116), (47, 122), (59, 140), (60, 128), (61, 134), (303, 137), (316, 131)], 107) := by decide +kernel
theorem d_Mo_wordOf_270 : decode prog_14_method_6_code 270 = .ok (.bipush (-14), 2) := by decide +kernel
theorem d_Mo_wordOf_272 : decode prog_14_method_6_code 272 = .ok (.ireturn, 1) := by decide +kernel
theorem d_Mo_wordOf_252 : decode prog_14_method_6_code 252 = .ok (.bipush (-8), 2) := by decide +kernel
theorem d_Mo_wordOf_254 : decode prog_14_method_6_code 254 = .ok (.ireturn, 1) := by decide +kernel
theorem d_Mo_wordOf_255 : decode prog_14_method_6_code 255 = .ok (.bipush (-9), 2) := by decide +kernel
theorem d_Mo_wordOf_257 : decode prog_14_method_6_code 257 = .ok (.ireturn, 1) := by decide +kernel
theorem d_Mo_wordOf_264 : decode prog_14_method_6_code 264 = .ok (.bipush (-12), 2) := by decide +kernel
theorem d_Mo_wordOf_266 : decode prog_14_method_6_code 266 = .ok (.ireturn, 1) := by decide +kernel
theorem d_Mo_wordOf_258 : decode prog_14_method_6_code 258 = .ok (.bipush (-10), 2) := by decide +kernel
theorem d_Mo_wordOf_260 : decode prog_14_method_6_code 260 = .ok (.ireturn, 1) := by decide +kernel
theorem d_Mo_wordOf_261 : decode prog_14_method_6_code 261 = .ok (.bipush (-11), 2) := by decide +kernel
theorem d_Mo_wordOf_263 : decode prog_14_method_6_code 263 = .ok (.ireturn, 1) := by decide +kernel
theorem d_Mo_wordOf_267 : decode prog_14_method_6_code 267 = .ok (.bipush (-13), 2) := by decide +kernel
theorem d_Mo_wordOf_269 : decode prog_14_method_6_code 269 = .ok (.ireturn, 1) := by decide +kernel
theorem d_Mo_wordOf_285 : decode prog_14_method_6_code 285 = .ok (.bipush (-19), 2) := by decide +kernel
theorem d_Mo_wordOf_287 : decode prog_14_method_6_code 287 = .ok (.ireturn, 1) := by decide +kernel
theorem d_Mo_wordOf_273 : decode prog_14_method_6_code 273 = .ok (.bipush (-15), 2) := by decide +kernel
theorem d_Mo_wordOf_275 : decode prog_14_method_6_code 275 = .ok (.ireturn, 1) := by decide +kernel
theorem d_Mo_wordOf_279 : decode prog_14_method_6_code 279 = .ok (.bipush (-17), 2) := by decide +kernel
theorem d_Mo_wordOf_281 : decode prog_14_method_6_code 281 = .ok (.ireturn, 1) := by decide +kernel
theorem d_Mo_wordOf_282 : decode prog_14_method_6_code 282 = .ok (.bipush (-18), 2) := by decide +kernel
theorem d_Mo_wordOf_284 : decode prog_14_method_6_code 284 = .ok (.ireturn, 1) := by decide +kernel
theorem d_Mo_wordOf_276 : decode prog_14_method_6_code 276 = .ok (.bipush (-16), 2) := by decide +kernel
theorem d_Mo_wordOf_278 : decode prog_14_method_6_code 278 = .ok (.ireturn, 1) := by decide +kernel
theorem d_Mo_wordOf_288 : decode prog_14_method_6_code 288 = .ok (.aload_n 0, 1) := by decide +kernel
theorem d_Mo_wordOf_289 : decode prog_14_method_6_code 289 = .ok (.iload_n 1, 1) := by decide +kernel
theorem d_Mo_wordOf_290 : decode prog_14_method_6_code 290 = .ok (.iload_n 2, 1) := by decide +kernel
theorem d_Mo_wordOf_291 : decode prog_14_method_6_code 291 = .ok (.invokevirtual 115, 3) := by decide +kernel
theorem d_Mo_wordOf_294 : decode prog_14_method_6_code 294 = .ok (.ireturn, 1) := by decide +kernel
theorem d_Mo_wordOf_140 : decode prog_14_method_6_code 140 = .ok (.iconst 0, 1) := by decide +kernel
theorem d_Mo_wordOf_88 : decode prog_14_method_6_code 88 = .ok (.iload_n 3, 1) := by decide +kernel
theorem d_Mo_wordOf_89 : decode prog_14_method_6_code 89 = .ok (.ifCond .eq 6, 3) := by decide +kernel
theorem d_Mo_wordOf_95 : decode prog_14_method_6_code 95 = .ok (.iload_n 2, 1) := by decide +kernel
theorem d_Mo_wordOf_96 : decode prog_14_method_6_code 96 = .ok (.iconst 1, 1) := by decide +kernel
theorem d_Mo_wordOf_97 : decode prog_14_method_6_code 97 = .ok (.if_icmp .ne 12, 3) := by decide +kernel
theorem d_Mo_wordOf_109 : decode prog_14_method_6_code 109 = .ok (.iload_n 2, 1) := by decide +kernel
theorem d_Mo_wordOf_110 : decode prog_14_method_6_code 110 = .ok (.iconst 2, 1) := by decide +kernel
theorem d_Mo_wordOf_111 : decode prog_14_method_6_code 111 = .ok (.if_icmp .ne 29, 3) := by decide +kernel
theorem d_Mo_wordOf_114 : decode prog_14_method_6_code 114 = .ok (.aload_n 0, 1) := by decide +kernel
theorem d_Mo_wordOf_115 : decode prog_14_method_6_code 115 = .ok (.getfield 7, 3) := by decide +kernel
theorem d_Mo_wordOf_118 : decode prog_14_method_6_code 118 = .ok (.iload_n 1, 1) := by decide +kernel
theorem d_Mo_wordOf_119 : decode prog_14_method_6_code 119 = .ok (.iconst 1, 1) := by decide +kernel
theorem d_Mo_wordOf_120 : decode prog_14_method_6_code 120 = .ok (.iadd, 1) := by decide +kernel
theorem d_Mo_wordOf_121 : decode prog_14_method_6_code 121 = .ok (.baload, 1) := by decide +kernel
theorem d_Mo_wordOf_122 : decode prog_14_method_6_code 122 = .ok (.bipush 61, 2) := by decide +kernel
theorem d_Mo_wordOf_124 : decode prog_14_method_6_code 124 = .ok (.if_icmp .ne 16, 3) := by decide +kernel
theorem d_Mo_wordOf_127 : decode prog_14_method_6_code 127 = .ok (.sipush 256, 3) := by decide +kernel
theorem d_Mo_wordOf_130 : decode prog_14_method_6_code 130 = .ok (.aload_n 0, 1) := by decide +kernel
theorem d_Mo_wordOf_131 : decode prog_14_method_6_code 131 = .ok (.getfield 7, 3) := by decide +kernel
theorem d_Mo_wordOf_134 : decode prog_14_method_6_code 134 = .ok (.iload_n 1, 1) := by decide +kernel
theorem d_Mo_wordOf_135 : decode prog_14_method_6_code 135 = .ok (.baload, 1) := by decide +kernel
theorem d_Mo_wordOf_136 : decode prog_14_method_6_code 136 = .ok (.iadd, 1) := by decide +kernel
theorem d_Mo_wordOf_137 : decode prog_14_method_6_code 137 = .ok (.goto 4, 3) := by decide +kernel
theorem d_Mo_wordOf_100 : decode prog_14_method_6_code 100 = .ok (.aload_n 0, 1) := by decide +kernel
theorem d_Mo_wordOf_101 : decode prog_14_method_6_code 101 = .ok (.getfield 7, 3) := by decide +kernel
theorem d_Mo_wordOf_104 : decode prog_14_method_6_code 104 = .ok (.iload_n 1, 1) := by decide +kernel
theorem d_Mo_wordOf_105 : decode prog_14_method_6_code 105 = .ok (.baload, 1) := by decide +kernel
theorem d_Mo_wordOf_106 : decode prog_14_method_6_code 106 = .ok (.goto 35, 3) := by decide +kernel
theorem d_Mo_wordOf_92 : decode prog_14_method_6_code 92 = .ok (.iload 4, 2) := by decide +kernel
theorem d_Mo_wordOf_94 : decode prog_14_method_6_code 94 = .ok (.ireturn, 1) := by decide +kernel
theorem d_Mo_wordOf_61 : decode prog_14_method_6_code 61 = .ok (.istore_n 3, 1) := by decide +kernel
theorem d_Mo_wordOf_62 : decode prog_14_method_6_code 62 = .ok (.bipush 10, 2) := by decide +kernel
theorem d_Mo_wordOf_64 : decode prog_14_method_6_code 64 = .ok (.iload 4, 2) := by decide +kernel
theorem d_Mo_wordOf_66 : decode prog_14_method_6_code 66 = .ok (.imul, 1) := by decide +kernel
theorem d_Mo_wordOf_67 : decode prog_14_method_6_code 67 = .ok (.aload_n 0, 1) := by decide +kernel
theorem d_Mo_wordOf_68 : decode prog_14_method_6_code 68 = .ok (.getfield 7, 3) := by decide +kernel
theorem d_Mo_wordOf_71 : decode prog_14_method_6_code 71 = .ok (.iload_n 1, 1) := by decide +kernel
theorem d_Mo_wordOf_72 : decode prog_14_method_6_code 72 = .ok (.iload 5, 2) := by decide +kernel
theorem d_Mo_wordOf_74 : decode prog_14_method_6_code 74 = .ok (.iadd, 1) := by decide +kernel
theorem d_Mo_wordOf_75 : decode prog_14_method_6_code 75 = .ok (.baload, 1) := by decide +kernel
theorem d_Mo_wordOf_76 : decode prog_14_method_6_code 76 = .ok (.iadd, 1) := by decide +kernel
theorem d_Mo_wordOf_77 : decode prog_14_method_6_code 77 = .ok (.bipush 48, 2) := by decide +kernel
theorem d_Mo_wordOf_79 : decode prog_14_method_6_code 79 = .ok (.isub, 1) := by decide +kernel
theorem d_Mo_wordOf_80 : decode prog_14_method_6_code 80 = .ok (.istore 4, 2) := by decide +kernel
theorem d_Mo_wordOf_82 : decode prog_14_method_6_code 82 = .ok (.iinc 5 1, 3) := by decide +kernel
theorem d_Mo_wordOf_85 : decode prog_14_method_6_code 85 = .ok (.goto (-67), 3) := by decide +kernel
theorem d_Mo_wordOf_60 : decode prog_14_method_6_code 60 = .ok (.iconst 0, 1) := by decide +kernel
theorem d_Mo_wordOf_18 : decode prog_14_method_6_code 18 = .ok (.iload 5, 2) := by decide +kernel
theorem d_Mo_wordOf_20 : decode prog_14_method_6_code 20 = .ok (.iload_n 2, 1) := by decide +kernel
theorem d_Mo_wordOf_21 : decode prog_14_method_6_code 21 = .ok (.if_icmp .ge 67, 3) := by decide +kernel
theorem d_Mo_wordOf_24 : decode prog_14_method_6_code 24 = .ok (.iload_n 3, 1) := by decide +kernel
theorem d_Mo_wordOf_25 : decode prog_14_method_6_code 25 = .ok (.ifCond .eq 63, 3) := by decide +kernel
theorem d_Mo_wordOf_28 : decode prog_14_method_6_code 28 = .ok (.aload_n 0, 1) := by decide +kernel
theorem d_Mo_wordOf_29 : decode prog_14_method_6_code 29 = .ok (.getfield 7, 3) := by decide +kernel
theorem d_Mo_wordOf_32 : decode prog_14_method_6_code 32 = .ok (.iload_n 1, 1) := by decide +kernel
theorem d_Mo_wordOf_33 : decode prog_14_method_6_code 33 = .ok (.iload 5, 2) := by decide +kernel
theorem d_Mo_wordOf_35 : decode prog_14_method_6_code 35 = .ok (.iadd, 1) := by decide +kernel
theorem d_Mo_wordOf_36 : decode prog_14_method_6_code 36 = .ok (.baload, 1) := by decide +kernel
theorem d_Mo_wordOf_37 : decode prog_14_method_6_code 37 = .ok (.bipush 48, 2) := by decide +kernel
theorem d_Mo_wordOf_39 : decode prog_14_method_6_code 39 = .ok (.if_icmp .lt 21, 3) := by decide +kernel
theorem d_Mo_wordOf_42 : decode prog_14_method_6_code 42 = .ok (.aload_n 0, 1) := by decide +kernel
theorem d_Mo_wordOf_43 : decode prog_14_method_6_code 43 = .ok (.getfield 7, 3) := by decide +kernel
theorem d_Mo_wordOf_46 : decode prog_14_method_6_code 46 = .ok (.iload_n 1, 1) := by decide +kernel
theorem d_Mo_wordOf_47 : decode prog_14_method_6_code 47 = .ok (.iload 5, 2) := by decide +kernel
theorem d_Mo_wordOf_49 : decode prog_14_method_6_code 49 = .ok (.iadd, 1) := by decide +kernel
theorem d_Mo_wordOf_50 : decode prog_14_method_6_code 50 = .ok (.baload, 1) := by decide +kernel
theorem d_Mo_wordOf_51 : decode prog_14_method_6_code 51 = .ok (.bipush 57, 2) := by decide +kernel
theorem d_Mo_wordOf_53 : decode prog_14_method_6_code 53 = .ok (.if_icmp .gt 7, 3) := by decide +kernel
theorem d_Mo_wordOf_56 : decode prog_14_method_6_code 56 = .ok (.iconst 1, 1) := by decide +kernel
theorem d_Mo_wordOf_57 : decode prog_14_method_6_code 57 = .ok (.goto 4, 3) := by decide +kernel
theorem d_Mo_wordOf_11 : decode prog_14_method_6_code 11 = .ok (.istore_n 3, 1) := by decide +kernel
theorem d_Mo_wordOf_12 : decode prog_14_method_6_code 12 = .ok (.iconst 0, 1) := by decide +kernel
theorem d_Mo_wordOf_13 : decode prog_14_method_6_code 13 = .ok (.istore 4, 2) := by decide +kernel
theorem d_Mo_wordOf_15 : decode prog_14_method_6_code 15 = .ok (.iconst 0, 1) := by decide +kernel
theorem d_Mo_wordOf_16 : decode prog_14_method_6_code 16 = .ok (.istore 5, 2) := by decide +kernel
theorem d_Mo_wordOf_0 : decode prog_14_method_6_code 0 = .ok (.iload_n 2, 1) := by decide +kernel
theorem d_Mo_wordOf_1 : decode prog_14_method_6_code 1 = .ok (.bipush 10, 2) := by decide +kernel
theorem d_Mo_wordOf_3 : decode prog_14_method_6_code 3 = .ok (.if_icmp .ge 7, 3) := by decide +kernel
theorem d_Mo_wordOf_10 : decode prog_14_method_6_code 10 = .ok (.iconst 0, 1) := by decide +kernel
theorem d_Mo_wordOf_6 : decode prog_14_method_6_code 6 = .ok (.iconst 1, 1) := by decide +kernel
theorem d_Mo_wordOf_7 : decode prog_14_method_6_code 7 = .ok (.goto 4, 3) := by decide +kernel
theorem d_Mo_isBlank_0 : decode prog_14_method_7_code 0 = .ok (.iload_n 0, 1) := by decide +kernel
theorem d_Mo_isBlank_1 : decode prog_14_method_7_code 1 = .ok (.bipush 32, 2) := by decide +kernel
theorem d_Mo_isBlank_3 : decode prog_14_method_7_code 3 = .ok (.if_icmp .eq 9, 3) := by decide +kernel
theorem d_Mo_isBlank_12 : decode prog_14_method_7_code 12 = .ok (.iconst 1, 1) := by decide +kernel
theorem d_Mo_isBlank_13 : decode prog_14_method_7_code 13 = .ok (.goto 4, 3) := by decide +kernel
theorem d_Mo_isBlank_17 : decode prog_14_method_7_code 17 = .ok (.ireturn, 1) := by decide +kernel
theorem d_Mo_isBlank_6 : decode prog_14_method_7_code 6 = .ok (.iload_n 0, 1) := by decide +kernel
theorem d_Mo_isBlank_7 : decode prog_14_method_7_code 7 = .ok (.bipush 10, 2) := by decide +kernel
theorem d_Mo_isBlank_9 : decode prog_14_method_7_code 9 = .ok (.if_icmp .ne 7, 3) := by decide +kernel
theorem d_Mo_isBlank_16 : decode prog_14_method_7_code 16 = .ok (.iconst 0, 1) := by decide +kernel
theorem d_Mo_split_123 : decode prog_14_method_8_code 123 = .ok (.iload_n 3, 1) := by decide +kernel
theorem d_Mo_split_124 : decode prog_14_method_8_code 124 = .ok (.aload_n 0, 1) := by decide +kernel
theorem d_Mo_split_125 : decode prog_14_method_8_code 125 = .ok (.getfield 104, 3) := by decide +kernel
theorem d_Mo_split_128 : decode prog_14_method_8_code 128 = .ok (.if_icmp .ge 30, 3) := by decide +kernel
theorem d_Mo_split_158 : decode prog_14_method_8_code 158 = .ok (.return_, 1) := by decide +kernel
theorem d_Mo_split_131 : decode prog_14_method_8_code 131 = .ok (.aload_n 0, 1) := by decide +kernel
theorem d_Mo_split_132 : decode prog_14_method_8_code 132 = .ok (.getfield 17, 3) := by decide +kernel
theorem d_Mo_split_135 : decode prog_14_method_8_code 135 = .ok (.sipush 800, 3) := by decide +kernel
theorem d_Mo_split_138 : decode prog_14_method_8_code 138 = .ok (.aload_n 0, 1) := by decide +kernel
theorem d_Mo_split_139 : decode prog_14_method_8_code 139 = .ok (.getfield 123, 3) := by decide +kernel
theorem d_Mo_split_142 : decode prog_14_method_8_code 142 = .ok (.imul, 1) := by decide +kernel
theorem d_Mo_split_143 : decode prog_14_method_8_code 143 = .ok (.iload_n 3, 1) := by decide +kernel
theorem d_Mo_split_144 : decode prog_14_method_8_code 144 = .ok (.iadd, 1) := by decide +kernel
theorem d_Mo_split_145 : decode prog_14_method_8_code 145 = .ok (.aload_n 0, 1) := by decide +kernel
theorem d_Mo_split_146 : decode prog_14_method_8_code 146 = .ok (.getfield 7, 3) := by decide +kernel
theorem d_Mo_split_149 : decode prog_14_method_8_code 149 = .ok (.iload_n 3, 1) := by decide +kernel
theorem d_Mo_split_150 : decode prog_14_method_8_code 150 = .ok (.baload, 1) := by decide +kernel
theorem d_Mo_split_151 : decode prog_14_method_8_code 151 = .ok (.bastore, 1) := by decide +kernel
theorem d_Mo_split_152 : decode prog_14_method_8_code 152 = .ok (.iinc 3 1, 3) := by decide +kernel
theorem d_Mo_split_155 : decode prog_14_method_8_code 155 = .ok (.goto (-32), 3) := by decide +kernel
theorem d_Mo_split_105 : decode prog_14_method_8_code 105 = .ok (.iinc 2 1, 3) := by decide +kernel
theorem d_Mo_split_108 : decode prog_14_method_8_code 108 = .ok (.goto (-104), 3) := by decide +kernel
theorem d_Mo_split_40 : decode prog_14_method_8_code 40 = .ok (.iload_n 2, 1) := by decide +kernel
theorem d_Mo_split_41 : decode prog_14_method_8_code 41 = .ok (.iload_n 3, 1) := by decide +kernel
theorem d_Mo_split_42 : decode prog_14_method_8_code 42 = .ok (.if_icmp .le 63, 3) := by decide +kernel
theorem d_Mo_split_45 : decode prog_14_method_8_code 45 = .ok (.aload_n 0, 1) := by decide +kernel
theorem d_Mo_split_46 : decode prog_14_method_8_code 46 = .ok (.getfield 20, 3) := by decide +kernel
theorem d_Mo_split_49 : decode prog_14_method_8_code 49 = .ok (.sipush 400, 3) := by decide +kernel
theorem d_Mo_split_52 : decode prog_14_method_8_code 52 = .ok (.aload_n 0, 1) := by decide +kernel
theorem d_Mo_split_53 : decode prog_14_method_8_code 53 = .ok (.getfield 123, 3) := by decide +kernel
theorem d_Mo_split_56 : decode prog_14_method_8_code 56 = .ok (.imul, 1) := by decide +kernel
theorem d_Mo_split_57 : decode prog_14_method_8_code 57 = .ok (.iload_n 1, 1) := by decide +kernel
theorem d_Mo_split_58 : decode prog_14_method_8_code 58 = .ok (.iadd, 1) := by decide +kernel
theorem d_Mo_split_59 : decode prog_14_method_8_code 59 = .ok (.iload_n 3, 1) := by decide +kernel
theorem d_Mo_split_60 : decode prog_14_method_8_code 60 = .ok (.iastore, 1) := by decide +kernel
theorem d_Mo_split_61 : decode prog_14_method_8_code 61 = .ok (.aload_n 0, 1) := by decide +kernel
theorem d_Mo_split_62 : decode prog_14_method_8_code 62 = .ok (.getfield 23, 3) := by decide +kernel
theorem d_Mo_split_65 : decode prog_14_method_8_code 65 = .ok (.sipush 400, 3) := by decide +kernel
theorem d_Mo_split_68 : decode prog_14_method_8_code 68 = .ok (.aload_n 0, 1) := by decide +kernel
theorem d_Mo_split_69 : decode prog_14_method_8_code 69 = .ok (.getfield 123, 3) := by decide +kernel
theorem d_Mo_split_72 : decode prog_14_method_8_code 72 = .ok (.imul, 1) := by decide +kernel
theorem d_Mo_split_73 : decode prog_14_method_8_code 73 = .ok (.iload_n 1, 1) := by decide +kernel
theorem d_Mo_split_74 : decode prog_14_method_8_code 74 = .ok (.iadd, 1) := by decide +kernel
theorem d_Mo_split_75 : decode prog_14_method_8_code 75 = .ok (.iload_n 2, 1) := by decide +kernel
theorem d_Mo_split_76 : decode prog_14_method_8_code 76 = .ok (.iload_n 3, 1) := by decide +kernel
theorem d_Mo_split_77 : decode prog_14_method_8_code 77 = .ok (.isub, 1) := by decide +kernel
theorem d_Mo_split_78 : decode prog_14_method_8_code 78 = .ok (.iastore, 1) := by decide +kernel
theorem d_Mo_split_79 : decode prog_14_method_8_code 79 = .ok (.aload_n 0, 1) := by decide +kernel
theorem d_Mo_split_80 : decode prog_14_method_8_code 80 = .ok (.getfield 26, 3) := by decide +kernel
theorem d_Mo_split_83 : decode prog_14_method_8_code 83 = .ok (.sipush 400, 3) := by decide +kernel
theorem d_Mo_split_86 : decode prog_14_method_8_code 86 = .ok (.aload_n 0, 1) := by decide +kernel
theorem d_Mo_split_87 : decode prog_14_method_8_code 87 = .ok (.getfield 123, 3) := by decide +kernel
theorem d_Mo_split_90 : decode prog_14_method_8_code 90 = .ok (.imul, 1) := by decide +kernel
theorem d_Mo_split_91 : decode prog_14_method_8_code 91 = .ok (.iload_n 1, 1) := by decide +kernel
theorem d_Mo_split_92 : decode prog_14_method_8_code 92 = .ok (.iadd, 1) := by decide +kernel
theorem d_Mo_split_93 : decode prog_14_method_8_code 93 = .ok (.aload_n 0, 1) := by decide +kernel
theorem d_Mo_split_94 : decode prog_14_method_8_code 94 = .ok (.iload_n 3, 1) := by decide +kernel
theorem d_Mo_split_95 : decode prog_14_method_8_code 95 = .ok (.iload_n 2, 1) := by decide +kernel
theorem d_Mo_split_96 : decode prog_14_method_8_code 96 = .ok (.iload_n 3, 1) := by decide +kernel
theorem d_Mo_split_97 : decode prog_14_method_8_code 97 = .ok (.isub, 1) := by decide +kernel
theorem d_Mo_split_98 : decode prog_14_method_8_code 98 = .ok (.invokevirtual 126, 3) := by decide +kernel
theorem d_Mo_split_101 : decode prog_14_method_8_code 101 = .ok (.iastore, 1) := by decide +kernel
theorem d_Mo_split_102 : decode prog_14_method_8_code 102 = .ok (.iinc 1 1, 3) := by decide +kernel
theorem d_Mo_split_14 : decode prog_14_method_8_code 14 = .ok (.iload_n 2, 1) := by decide +kernel
theorem d_Mo_split_15 : decode prog_14_method_8_code 15 = .ok (.aload_n 0, 1) := by decide +kernel
theorem d_Mo_split_16 : decode prog_14_method_8_code 16 = .ok (.getfield 104, 3) := by decide +kernel
theorem d_Mo_split_19 : decode prog_14_method_8_code 19 = .ok (.if_icmp .ge 21, 3) := by decide +kernel
theorem d_Mo_split_22 : decode prog_14_method_8_code 22 = .ok (.aload_n 0, 1) := by decide +kernel
theorem d_Mo_split_23 : decode prog_14_method_8_code 23 = .ok (.getfield 7, 3) := by decide +kernel
theorem d_Mo_split_26 : decode prog_14_method_8_code 26 = .ok (.iload_n 2, 1) := by decide +kernel
theorem d_Mo_split_27 : decode prog_14_method_8_code 27 = .ok (.baload, 1) := by decide +kernel
theorem d_Mo_split_28 : decode prog_14_method_8_code 28 = .ok (.invokestatic 119, 3) := by decide +kernel
theorem d_Mo_split_31 : decode prog_14_method_8_code 31 = .ok (.ifCond .ne 9, 3) := by decide +kernel
theorem d_Mo_split_34 : decode prog_14_method_8_code 34 = .ok (.iinc 2 1, 3) := by decide +kernel
theorem d_Mo_split_37 : decode prog_14_method_8_code 37 = .ok (.goto (-23), 3) := by decide +kernel
theorem d_Mo_split_4 : decode prog_14_method_8_code 4 = .ok (.iload_n 2, 1) := by decide +kernel
theorem d_Mo_split_5 : decode prog_14_method_8_code 5 = .ok (.aload_n 0, 1) := by decide +kernel
theorem d_Mo_split_6 : decode prog_14_method_8_code 6 = .ok (.getfield 104, 3) := by decide +kernel
theorem d_Mo_split_9 : decode prog_14_method_8_code 9 = .ok (.if_icmp .ge 102, 3) := by decide +kernel
theorem d_Mo_split_111 : decode prog_14_method_8_code 111 = .ok (.aload_n 0, 1) := by decide +kernel
theorem d_Mo_split_112 : decode prog_14_method_8_code 112 = .ok (.getfield 29, 3) := by decide +kernel
theorem d_Mo_split_115 : decode prog_14_method_8_code 115 = .ok (.aload_n 0, 1) := by decide +kernel
theorem d_Mo_split_116 : decode prog_14_method_8_code 116 = .ok (.getfield 123, 3) := by decide +kernel
theorem d_Mo_split_119 : decode prog_14_method_8_code 119 = .ok (.iload_n 1, 1) := by decide +kernel
theorem d_Mo_split_120 : decode prog_14_method_8_code 120 = .ok (.iastore, 1) := by decide +kernel
theorem d_Mo_split_121 : decode prog_14_method_8_code 121 = .ok (.iconst 0, 1) := by decide +kernel
theorem d_Mo_split_122 : decode prog_14_method_8_code 122 = .ok (.istore_n 3, 1) := by decide +kernel
theorem d_Mo_split_12 : decode prog_14_method_8_code 12 = .ok (.iload_n 2, 1) := by decide +kernel
theorem d_Mo_split_13 : decode prog_14_method_8_code 13 = .ok (.istore_n 3, 1) := by decide +kernel
theorem d_Mo_split_0 : decode prog_14_method_8_code 0 = .ok (.iconst 0, 1) := by decide +kernel
theorem d_Mo_split_1 : decode prog_14_method_8_code 1 = .ok (.istore_n 1, 1) := by decide +kernel
theorem d_Mo_split_2 : decode prog_14_method_8_code 2 = .ok (.iconst 0, 1) := by decide +kernel
theorem d_Mo_split_3 : decode prog_14_method_8_code 3 = .ok (.istore_n 2, 1) := by decide +kernel
def M_Mo_init (F : Nat) (h : hH) (x0 : Nat) : Option hH :=
  (some (hAdd h (.inr (.byte, 800, .inl (fun _ => 0))))).bind fun h1 =>
  (hPut h1 x0 12 1 (.ref h.1)).bind fun h2 =>
  (some (hAdd h2 (.inr (.int, 6, .inl (fun _ => 0))))).bind fun h3 =>
  (hPut h3 x0 12 4 (.ref h2.1)).bind fun h4 =>
  (some (hAdd h4 (.inr (.byte, 4800, .inl (fun _ => 0))))).bind fun h5 =>
  (hPut h5 x0 12 5 (.ref h4.1)).bind fun h6 =>
  (some (hAdd h6 (.inr (.int, 2400, .inl (fun _ => 0))))).bind fun h7 =>
  (hPut h7 x0 12 6 (.ref h6.1)).bind fun h8 =>
  (some (hAdd h8 (.inr (.int, 2400, .inl (fun _ => 0))))).bind fun h9 =>
  (hPut h9 x0 12 7 (.ref h8.1)).bind fun h10 =>
  (some (hAdd h10 (.inr (.int, 2400, .inl (fun _ => 0))))).bind fun h11 =>
  (hPut h11 x0 12 8 (.ref h10.1)).bind fun h12 =>
  (some (hAdd h12 (.inr (.int, 6, .inl (fun _ => 0))))).bind fun h13 =>
  (hPut h13 x0 12 9 (.ref h12.1)).bind fun h14 =>
  (some (hAdd h14 (.inr (.int, 6, .inl (fun _ => 0))))).bind fun h15 =>
  (hPut h15 x0 12 10 (.ref h14.1)).bind fun h16 =>
  (some (hAdd h16 (.inr (.int, 48, .inl (fun _ => 0))))).bind fun h17 =>
  (hPut h17 x0 12 11 (.ref h16.1)).bind fun h18 =>
  (some (hAdd h18 (.inr (.int, 480, .inl (fun _ => 0))))).bind fun h19 =>
  (hPut h19 x0 12 12 (.ref h18.1)).bind fun h20 =>
  (some (hAdd h20 (.inr (.int, 6, .inl (fun _ => 0))))).bind fun h21 =>
  (hPut h21 x0 12 13 (.ref h20.1)).bind fun h22 =>
  (some (hAdd h22 (.inr (.int, 72, .inl (fun _ => 0))))).bind fun h23 =>
  (hPut h23 x0 12 14 (.ref h22.1)).bind fun h24 =>
  (some (hAdd h24 (.inr (.int, 72, .inl (fun _ => 0))))).bind fun h25 =>
  (hPut h25 x0 12 15 (.ref h24.1)).bind fun h26 =>
  (some (hAdd h26 (.inr (.int, 72, .inl (fun _ => 0))))).bind fun h27 =>
  (hPut h27 x0 12 16 (.ref h26.1)).bind fun h28 =>
  (some (hAdd h28 (.inr (.int, 72, .inl (fun _ => 0))))).bind fun h29 =>
  (hPut h29 x0 12 17 (.ref h28.1)).bind fun h30 =>
  (some (hAdd h30 (.inr (.int, 72, .inl (fun _ => 0))))).bind fun h31 =>
  (hPut h31 x0 12 18 (.ref h30.1)).bind fun h32 =>
  (some (hAdd h32 (.inr (.int, 2400, .inl (fun _ => 0))))).bind fun h33 =>
  (hPut h33 x0 12 19 (.ref h32.1)).bind fun h34 =>
  (some (hAdd h34 (.inr (.int, 2400, .inl (fun _ => 0))))).bind fun h35 =>
  (hPut h35 x0 12 20 (.ref h34.1)).bind fun h36 =>
  (some (hAdd h36 (.inr (.int, 500, .inl (fun _ => 0))))).bind fun h37 =>
  (hPut h37 x0 12 25 (.ref h36.1)).bind fun h38 =>
  (some (hAdd h38 (.inr (.int, 500, .inl (fun _ => 0))))).bind fun h39 =>
  (hPut h39 x0 12 26 (.ref h38.1)).bind fun h40 =>
  (some (hAdd h40 (.inr (.long, 20, .inr (.inl (fun _ => 0)))))).bind fun h41 =>
  (hPut h41 x0 12 27 (.ref h40.1)).bind fun h42 =>
  (some (hAdd h42 (.inr (.boolean, 20, .inl (fun _ => 0))))).bind fun h43 =>
  (hPut h43 x0 12 28 (.ref h42.1)).bind fun h44 =>
  (hPut h44 x0 12 29 (.int (-1))).bind fun h45 =>
  (some (hAdd h45 (.inr (.int, 12, .inl (fun _ => 0))))).bind fun h46 =>
  (hPut h46 x0 12 30 (.ref h45.1)).bind fun h47 =>
  (some (hAdd h47 (.inr (.int, 12, .inl (fun _ => 0))))).bind fun h48 =>
  (hPut h48 x0 12 31 (.ref h47.1)).bind fun h49 =>
  (some (hAdd h49 (.inr (.int, 12, .inl (fun _ => 0))))).bind fun h50 =>
  (hPut h50 x0 12 32 (.ref h49.1)).bind fun h51 =>
  (some (hAdd h51 (.inr (.long, 500, .inr (.inl (fun _ => 0)))))).bind fun h52 =>
  (hPut h52 x0 12 35 (.ref h51.1)).bind fun h53 =>
  (some (hAdd h53 (.inr (.byte, 1600, .inl (fun _ => 0))))).bind fun h54 =>
  (hPut h54 x0 12 36 (.ref h53.1)).bind fun h55 =>
  (some (hAdd h55 (.inr (.long, 80, .inr (.inl (fun _ => 0)))))).bind fun h56 =>
  (hPut h56 x0 12 38 (.ref h55.1)).bind fun h57 =>
  some h57
def M_Mo_thrown (F : Nat) (h : hH) (x0 : Nat) : Option (Int32 × hH) :=
  (hGetI h x0 12 0).bind fun v1 =>
  some (v1, h)
def M_Mo_unit (F : Nat) (h : hH) (x0 : Nat) (x1 : Int32) : Option (Int32 × hH) :=
  (hPut h x0 12 0 (.int 0)).bind fun h1 =>
  (hGetI h1 x0 12 2).bind fun v2 =>
  if v2 = 800 then (
    some (0, h1)
  ) else (
    (hGetA h1 x0 12 1).bind fun v4 =>
    (hGetI h1 x0 12 2).bind fun v5 =>
    (hStB h1 v4 v5 x1.toInt8.toInt32).bind fun h6 =>
    (hGetI h6 x0 12 2).bind fun v7 =>
    (hPut h6 x0 12 2 (.int (v7 + 1))).bind fun h8 =>
    some (1, h8)
  )
def M_Mo_five (F : Nat) (h : hH) (x0 : Int32) (x1 : Int32) (x2 : Int32) (x3 : Int32) (x4 : Int32) : Option (Int64 × hH) :=
  some (((((((((x0.toInt64 * 256) + x1.toInt64) * 256) + x2.toInt64) * 256) + x3.toInt64) * 256) + x4.toInt64), h)
def M_Mo_nameOf_93 (F : Nat) (r68 : hH → Nat → Int32 → Int32 → Int64 → Int32 → Option (Int32 × hH)) (h : hH) (x0 : Nat) (x1 : Int32) (x2 : Int32) (x5 : Int32) (s0 : Int64) : Option (Int32 × hH) :=
  r68 h x0 x1 x2 s0 (x5 + 1)
def B_Mo_nameOf_68 (F : Nat) (r68 : hH → Nat → Int32 → Int32 → Int64 → Int32 → Option (Int32 × hH)) (h : hH) (x0 : Nat) (x1 : Int32) (x2 : Int32) (x3 : Int64) (x5 : Int32) : Option (Int32 × hH) :=
  if x2 ≤ x5 then (
    (M_Mo_five F h 116 97 98 108 101).bind fun q2 =>
    if (lg_cmp x3 q2.1) = 0 then (
      some ((-1), q2.2)
    ) else (
      (M_Mo_five F q2.2 114 117 108 101 0).bind fun q4 =>
      if (lg_cmp x3 q4.1) = 0 then (
        some ((-2), q4.2)
      ) else (
        (M_Mo_five F q4.2 119 104 101 110 0).bind fun q6 =>
        if (lg_cmp x3 q6.1) = 0 then (
          some ((-3), q6.2)
        ) else (
          (M_Mo_five F q6.2 110 101 101 100 0).bind fun q8 =>
          if (lg_cmp x3 q8.1) = 0 then (
            some ((-4), q8.2)
          ) else (
            (M_Mo_five F q8.2 97 110 100 0 0).bind fun q10 =>
            if (lg_cmp x3 q10.1) = 0 then (
              some ((-5), q10.2)
            ) else (
              (M_Mo_five F q10.2 102 97 99 116 0).bind fun q12 =>
              if (lg_cmp x3 q12.1) = 0 then (
                some ((-6), q12.2)
              ) else (
                (M_Mo_five F q12.2 97 116 0 0 0).bind fun q14 =>
                if (lg_cmp x3 q14.1) = 0 then (
                  some ((-7), q14.2)
                ) else (
                  some ((-20), q14.2)
                )
              )
            )
          )
        )
      )
    )
  ) else (
    (hGetA h x0 12 1).bind fun v16 =>
    (hLdI h v16 .byte (x1 + x5)).bind fun v17 =>
    if v17 = 0 then (
      M_Mo_nameOf_93 F r68 h x0 x1 x2 x5 (-1)
    ) else (
      M_Mo_nameOf_93 F r68 h x0 x1 x2 x5 x3
    )
  )
def M_Mo_nameOf_68 (F : Nat) : Nat → hH → Nat → Int32 → Int32 → Int64 → Int32 → Option (Int32 × hH)
  | 0 => fun _ _ _ _ _ _ => none
  | z + 1 => B_Mo_nameOf_68 F (M_Mo_nameOf_68 F z)
def M_Mo_nameOf_65 (F : Nat) (h : hH) (x0 : Nat) (x1 : Int32) (x2 : Int32) (x3 : Int64) : Option (Int32 × hH) :=
  M_Mo_nameOf_68 F F h x0 x1 x2 x3 0
def M_Mo_nameOf_56 (F : Nat) (r16 : hH → Nat → Int32 → Int32 → Int64 → Int32 → Option (Int32 × hH)) (h : hH) (x0 : Nat) (x1 : Int32) (x2 : Int32) (x5 : Int32) (s0 : Int64) (s1 : Int32) : Option (Int32 × hH) :=
  r16 h x0 x1 x2 (s0 + s1.toInt64) (x5 + 1)
def B_Mo_nameOf_16 (F : Nat) (r16 : hH → Nat → Int32 → Int32 → Int64 → Int32 → Option (Int32 × hH)) (h : hH) (x0 : Nat) (x1 : Int32) (x2 : Int32) (x3 : Int64) (x5 : Int32) : Option (Int32 × hH) :=
  if 5 ≤ x5 then (
    M_Mo_nameOf_65 F h x0 x1 x2 x3
  ) else (
    if 6 ≤ x2 then (
      M_Mo_nameOf_65 F h x0 x1 x2 x3
    ) else (
      if x2 ≤ x5 then (
        M_Mo_nameOf_56 F r16 h x0 x1 x2 x5 (256 * x3) 0
      ) else (
        (hGetA h x0 12 1).bind fun v4 =>
        (hLdI h v4 .byte (x1 + x5)).bind fun v5 =>
        M_Mo_nameOf_56 F r16 h x0 x1 x2 x5 (256 * x3) (v5 &&& 255)
      )
    )
  )
def M_Mo_nameOf_16 (F : Nat) : Nat → hH → Nat → Int32 → Int32 → Int64 → Int32 → Option (Int32 × hH)
  | 0 => fun _ _ _ _ _ _ => none
  | z + 1 => B_Mo_nameOf_16 F (M_Mo_nameOf_16 F z)
def M_Mo_nameOf_12 (F : Nat) (h : hH) (x0 : Nat) (x1 : Int32) (x2 : Int32) (s0 : Int64) : Option (Int32 × hH) :=
  M_Mo_nameOf_16 F F h x0 x1 x2 s0 0
def M_Mo_nameOf (F : Nat) (h : hH) (x0 : Nat) (x1 : Int32) (x2 : Int32) : Option (Int32 × hH) :=
  if x2 ≤ 5 then (
    M_Mo_nameOf_12 F h x0 x1 x2 0
  ) else (
    M_Mo_nameOf_12 F h x0 x1 x2 (-1)
  )
def M_Mo_wordOf_141 (F : Nat) (h : hH) (x0 : Nat) (x1 : Int32) (x2 : Int32) (s0 : Int32) : Option (Int32 × hH) :=
  if s0 = 37 then (
    some ((-14), h)
  ) else
  if s0 = 40 then (
    some ((-8), h)
  ) else
  if s0 = 41 then (
    some ((-9), h)
  ) else
  if s0 = 42 then (
    some ((-12), h)
  ) else
  if s0 = 43 then (
    some ((-10), h)
  ) else
  if s0 = 45 then (
    some ((-11), h)
  ) else
  if s0 = 47 then (
    some ((-13), h)
  ) else
  if s0 = 59 then (
    some ((-19), h)
  ) else
  if s0 = 60 then (
    some ((-15), h)
  ) else
  if s0 = 61 then (
    some ((-17), h)
  ) else
  if s0 = 303 then (
    some ((-18), h)
  ) else
  if s0 = 316 then (
    some ((-16), h)
  ) else
  (hIs h x0 12).bind fun u13 =>
  (M_Mo_nameOf F h x0 x1 x2).bind fun q14 =>
  some (q14.1, q14.2)
def M_Mo_wordOf_140 (F : Nat) (h : hH) (x0 : Nat) (x1 : Int32) (x2 : Int32) : Option (Int32 × hH) :=
  M_Mo_wordOf_141 F h x0 x1 x2 0
def M_Mo_wordOf_88 (F : Nat) (h : hH) (x0 : Nat) (x1 : Int32) (x2 : Int32) (x3 : Int32) (x4 : Int32) : Option (Int32 × hH) :=
  if x3 = 0 then (
    if x2 = 1 then (
      (hGetA h x0 12 1).bind fun v9 =>
      (hLdI h v9 .byte x1).bind fun v10 =>
      M_Mo_wordOf_141 F h x0 x1 x2 v10
    ) else (
      if x2 = 2 then (
        (hGetA h x0 12 1).bind fun v4 =>
        (hLdI h v4 .byte (x1 + 1)).bind fun v5 =>
        if v5 = 61 then (
          (hGetA h x0 12 1).bind fun v7 =>
          (hLdI h v7 .byte x1).bind fun v8 =>
          M_Mo_wordOf_141 F h x0 x1 x2 (256 + v8)
        ) else (
          M_Mo_wordOf_140 F h x0 x1 x2
        )
      ) else (
        M_Mo_wordOf_140 F h x0 x1 x2
      )
    )
  ) else (
    some (x4, h)
  )
def M_Mo_wordOf_61 (F : Nat) (r18 : hH → Nat → Int32 → Int32 → Int32 → Int32 → Int32 → Option (Int32 × hH)) (h : hH) (x0 : Nat) (x1 : Int32) (x2 : Int32) (x4 : Int32) (x5 : Int32) (s0 : Int32) : Option (Int32 × hH) :=
  (hGetA h x0 12 1).bind fun v1 =>
  (hLdI h v1 .byte (x1 + x5)).bind fun v2 =>
  r18 h x0 x1 x2 s0 (((10 * x4) + v2) - 48) (x5 + 1)
def M_Mo_wordOf_60 (F : Nat) (r18 : hH → Nat → Int32 → Int32 → Int32 → Int32 → Int32 → Option (Int32 × hH)) (h : hH) (x0 : Nat) (x1 : Int32) (x2 : Int32) (x4 : Int32) (x5 : Int32) : Option (Int32 × hH) :=
  M_Mo_wordOf_61 F r18 h x0 x1 x2 x4 x5 0
def B_Mo_wordOf_18 (F : Nat) (r18 : hH → Nat → Int32 → Int32 → Int32 → Int32 → Int32 → Option (Int32 × hH)) (h : hH) (x0 : Nat) (x1 : Int32) (x2 : Int32) (x3 : Int32) (x4 : Int32) (x5 : Int32) : Option (Int32 × hH) :=
  if x2 ≤ x5 then (
    M_Mo_wordOf_88 F h x0 x1 x2 x3 x4
  ) else (
    if x3 = 0 then (
      M_Mo_wordOf_88 F h x0 x1 x2 x3 x4
    ) else (
      (hGetA h x0 12 1).bind fun v3 =>
      (hLdI h v3 .byte (x1 + x5)).bind fun v4 =>
      if v4 < 48 then (
        M_Mo_wordOf_60 F r18 h x0 x1 x2 x4 x5
      ) else (
        (hGetA h x0 12 1).bind fun v6 =>
        (hLdI h v6 .byte (x1 + x5)).bind fun v7 =>
        if 57 < v7 then (
          M_Mo_wordOf_60 F r18 h x0 x1 x2 x4 x5
        ) else (
          M_Mo_wordOf_61 F r18 h x0 x1 x2 x4 x5 1
        )
      )
    )
  )
def M_Mo_wordOf_18 (F : Nat) : Nat → hH → Nat → Int32 → Int32 → Int32 → Int32 → Int32 → Option (Int32 × hH)
  | 0 => fun _ _ _ _ _ _ _ => none
  | z + 1 => B_Mo_wordOf_18 F (M_Mo_wordOf_18 F z)
def M_Mo_wordOf_11 (F : Nat) (h : hH) (x0 : Nat) (x1 : Int32) (x2 : Int32) (s0 : Int32) : Option (Int32 × hH) :=
  M_Mo_wordOf_18 F F h x0 x1 x2 s0 0 0
def M_Mo_wordOf (F : Nat) (h : hH) (x0 : Nat) (x1 : Int32) (x2 : Int32) : Option (Int32 × hH) :=
  if 10 ≤ x2 then (
    M_Mo_wordOf_11 F h x0 x1 x2 0
  ) else (
    M_Mo_wordOf_11 F h x0 x1 x2 1
  )
def M_Mo_isBlank (F : Nat) (h : hH) (x0 : Int32) : Option (Int32 × hH) :=
  if x0 = 32 then (
    some (1, h)
  ) else (
    if x0 = 10 then (
      some (1, h)
    ) else (
      some (0, h)
    )
  )
def B_Mo_split_123 (F : Nat) (r123 : hH → Nat → Int32 → Option hH) (h : hH) (x0 : Nat) (x3 : Int32) : Option hH :=
  (hGetI h x0 12 2).bind fun v1 =>
  if v1 ≤ x3 then (
    some h
  ) else (
    (hGetA h x0 12 5).bind fun v3 =>
    (hGetI h x0 12 22).bind fun v4 =>
    (hGetA h x0 12 1).bind fun v5 =>
    (hLdI h v5 .byte x3).bind fun v6 =>
    (hStB h v3 ((800 * v4) + x3) v6).bind fun h7 =>
    r123 h7 x0 (x3 + 1)
  )
def M_Mo_split_123 (F : Nat) : Nat → hH → Nat → Int32 → Option hH
  | 0 => fun _ _ _ => none
  | z + 1 => B_Mo_split_123 F (M_Mo_split_123 F z)
def M_Mo_split_105 (F : Nat) (r4 : hH → Nat → Int32 → Int32 → Option hH) (h : hH) (x0 : Nat) (x1 : Int32) (x2 : Int32) : Option hH :=
  r4 h x0 x1 (x2 + 1)
def M_Mo_split_40 (F : Nat) (r4 : hH → Nat → Int32 → Int32 → Option hH) (h : hH) (x0 : Nat) (x1 : Int32) (x2 : Int32) (x3 : Int32) : Option hH :=
  if x2 ≤ x3 then (
    M_Mo_split_105 F r4 h x0 x1 x2
  ) else (
    (hGetA h x0 12 6).bind fun v2 =>
    (hGetI h x0 12 22).bind fun v3 =>
    (hStI h v2 ((400 * v3) + x1) x3).bind fun h4 =>
    (hGetA h4 x0 12 7).bind fun v5 =>
    (hGetI h4 x0 12 22).bind fun v6 =>
    (hStI h4 v5 ((400 * v6) + x1) (x2 - x3)).bind fun h7 =>
    (hGetA h7 x0 12 8).bind fun v8 =>
    (hGetI h7 x0 12 22).bind fun v9 =>
    (hIs h7 x0 12).bind fun u10 =>
    (M_Mo_wordOf F h7 x0 x3 (x2 - x3)).bind fun q11 =>
    (hStI q11.2 v8 ((400 * v9) + x1) q11.1).bind fun h12 =>
    M_Mo_split_105 F r4 h12 x0 (x1 + 1) x2
  )
def B_Mo_split_14 (F : Nat) (r4 : hH → Nat → Int32 → Int32 → Option hH) (r14 : hH → Nat → Int32 → Int32 → Int32 → Option hH) (h : hH) (x0 : Nat) (x1 : Int32) (x2 : Int32) (x3 : Int32) : Option hH :=
  (hGetI h x0 12 2).bind fun v1 =>
  if v1 ≤ x2 then (
    M_Mo_split_40 F r4 h x0 x1 x2 x3
  ) else (
    (hGetA h x0 12 1).bind fun v3 =>
    (hLdI h v3 .byte x2).bind fun v4 =>
    (M_Mo_isBlank F h v4).bind fun q5 =>
    if q5.1 = 0 then (
      r14 q5.2 x0 x1 (x2 + 1) x3
    ) else (
      M_Mo_split_40 F r4 q5.2 x0 x1 x2 x3
    )
  )
def M_Mo_split_14 (F : Nat) (r4 : hH → Nat → Int32 → Int32 → Option hH) : Nat → hH → Nat → Int32 → Int32 → Int32 → Option hH
  | 0 => fun _ _ _ _ _ => none
  | z + 1 => B_Mo_split_14 F r4 (M_Mo_split_14 F r4 z)
def B_Mo_split_4 (F : Nat) (r4 : hH → Nat → Int32 → Int32 → Option hH) (h : hH) (x0 : Nat) (x1 : Int32) (x2 : Int32) : Option hH :=
  (hGetI h x0 12 2).bind fun v1 =>
  if v1 ≤ x2 then (
    (hGetA h x0 12 9).bind fun v3 =>
    (hGetI h x0 12 22).bind fun v4 =>
    (hStI h v3 v4 x1).bind fun h5 =>
    M_Mo_split_123 F F h5 x0 0
  ) else (
    M_Mo_split_14 F r4 F h x0 x1 x2 x2
  )
def M_Mo_split_4 (F : Nat) : Nat → hH → Nat → Int32 → Int32 → Option hH
  | 0 => fun _ _ _ _ => none
  | z + 1 => B_Mo_split_4 F (M_Mo_split_4 F z)
def M_Mo_split (F : Nat) (h : hH) (x0 : Nat) : Option hH :=
  M_Mo_split_4 F F h x0 0 0
abbrev rm_Mo_init : Room := { frames := 1, cells := 28, slots := 21768, locals := 12 }
set_option maxHeartbeats 4000000 in
set_option maxRecDepth 100000 in
theorem c_Mo_init (l : Launch) (D : va_G) (K : (Nat → Nat) × (Nat → Nat)) (F : Nat) {h : hH} {x0 : Nat} {q : hH} (hM : M_Mo_init F h x0 = some q) : Met l y_Mo_init (.code y_Mo_init prog_14_method_1_code 1 none :: T0) rm_Mo_init (hPc hG D cls0 K [.ref x0] h) (hQ D cls0 h none q) 28 21768 (hF h) := by
  refine J_met (lv := [(0, .ref x0)]) (by decide) (Nat.le_of_ble_eq_true rfl) rfl ?_
  intro p e s m below meth c X hr hlk hnm
  have Y : HX p s m _ meth c prog_14_method_1_code 1 "LicenceTextsModel" D K "<init>" none h := ⟨X, hr, hlk, hnm⟩
  unfold M_Mo_init at hM
  refine J_aload_n (pc := 0) X 0 d_Mo_init_0 rfl ?_
  refine J_objInit (pc := 1) X k_480 k_1 k_2 d_Mo_init_1 (Nat.le_of_ble_eq_true rfl) (Nat.le_of_ble_eq_true rfl) ?_
  refine J_aload_n (pc := 4) X 0 d_Mo_init_4 rfl ?_
  refine J_sipush (pc := 5) (v := (800)) X d_Mo_init_5 (by decide) ?_
  refine J_newa (pc := 8) (ty := .byte) (N := 800) (a0 := (800, .inl (fun _ => 0))) X rfl k_3 d_Mo_init_8 (fun _ => rfl) (fun _ _ hq => hq) (by decide) (by decide) (by decide) (Nat.le_of_ble_eq_true rfl) (Nat.le_of_ble_eq_true rfl) ?_
  obtain ⟨h1, eh1, hM⟩ := hb_some hM
  rw [Option.some.inj eh1]
  obtain ⟨h2, eh2, hM⟩ := hb_some hM
  refine J_putF (pc := 10) X hc_Mo in_Mo t_Mo tk_Mo nk_Mo 1 k_481 (by decide) rfl rfl rfl hnm d_Mo_init_10 rfl rfl rfl eh2 ?_
  refine J_aload_n (pc := 13) X 0 d_Mo_init_13 rfl ?_
  refine J_bipush (pc := 14) (v := (6)) X d_Mo_init_14 (by decide) ?_
  refine J_newa (pc := 16) (ty := .int) (N := 6) (a0 := (6, .inl (fun _ => 0))) X rfl k_17 d_Mo_init_16 (fun _ => rfl) (fun _ _ hq => hq) (by decide) (by decide) (by decide) (Nat.le_of_ble_eq_true rfl) (Nat.le_of_ble_eq_true rfl) ?_
  obtain ⟨h3, eh3, hM⟩ := hb_some hM
  rw [Option.some.inj eh3]
  obtain ⟨h4, eh4, hM⟩ := hb_some hM
  refine J_putF (pc := 18) X hc_Mo in_Mo t_Mo tk_Mo nk_Mo 4 k_482 (by decide) rfl rfl rfl hnm d_Mo_init_18 rfl rfl rfl eh4 ?_
  refine J_aload_n (pc := 21) X 0 d_Mo_init_21 rfl ?_
  refine J_sipush (pc := 22) (v := (4800)) X d_Mo_init_22 (by decide) ?_
  refine J_newa (pc := 25) (ty := .byte) (N := 4800) (a0 := (4800, .inl (fun _ => 0))) X rfl k_3 d_Mo_init_25 (fun _ => rfl) (fun _ _ hq => hq) (by decide) (by decide) (by decide) (Nat.le_of_ble_eq_true rfl) (Nat.le_of_ble_eq_true rfl) ?_
  obtain ⟨h5, eh5, hM⟩ := hb_some hM
  rw [Option.some.inj eh5]
  obtain ⟨h6, eh6, hM⟩ := hb_some hM
  refine J_putF (pc := 27) X hc_Mo in_Mo t_Mo tk_Mo nk_Mo 5 k_483 (by decide) rfl rfl rfl hnm d_Mo_init_27 rfl rfl rfl eh6 ?_
  refine J_aload_n (pc := 30) X 0 d_Mo_init_30 rfl ?_
  refine J_sipush (pc := 31) (v := (2400)) X d_Mo_init_31 (by decide) ?_
  refine J_newa (pc := 34) (ty := .int) (N := 2400) (a0 := (2400, .inl (fun _ => 0))) X rfl k_17 d_Mo_init_34 (fun _ => rfl) (fun _ _ hq => hq) (by decide) (by decide) (by decide) (Nat.le_of_ble_eq_true rfl) (Nat.le_of_ble_eq_true rfl) ?_
  obtain ⟨h7, eh7, hM⟩ := hb_some hM
  rw [Option.some.inj eh7]
  obtain ⟨h8, eh8, hM⟩ := hb_some hM
  refine J_putF (pc := 36) X hc_Mo in_Mo t_Mo tk_Mo nk_Mo 6 k_484 (by decide) rfl rfl rfl hnm d_Mo_init_36 rfl rfl rfl eh8 ?_
  refine J_aload_n (pc := 39) X 0 d_Mo_init_39 rfl ?_
  refine J_sipush (pc := 40) (v := (2400)) X d_Mo_init_40 (by decide) ?_
  refine J_newa (pc := 43) (ty := .int) (N := 2400) (a0 := (2400, .inl (fun _ => 0))) X rfl k_17 d_Mo_init_43 (fun _ => rfl) (fun _ _ hq => hq) (by decide) (by decide) (by decide) (Nat.le_of_ble_eq_true rfl) (Nat.le_of_ble_eq_true rfl) ?_
  obtain ⟨h9, eh9, hM⟩ := hb_some hM
  rw [Option.some.inj eh9]
  obtain ⟨h10, eh10, hM⟩ := hb_some hM
  refine J_putF (pc := 45) X hc_Mo in_Mo t_Mo tk_Mo nk_Mo 7 k_485 (by decide) rfl rfl rfl hnm d_Mo_init_45 rfl rfl rfl eh10 ?_
  refine J_aload_n (pc := 48) X 0 d_Mo_init_48 rfl ?_
  refine J_sipush (pc := 49) (v := (2400)) X d_Mo_init_49 (by decide) ?_
  refine J_newa (pc := 52) (ty := .int) (N := 2400) (a0 := (2400, .inl (fun _ => 0))) X rfl k_17 d_Mo_init_52 (fun _ => rfl) (fun _ _ hq => hq) (by decide) (by decide) (by decide) (Nat.le_of_ble_eq_true rfl) (Nat.le_of_ble_eq_true rfl) ?_
  obtain ⟨h11, eh11, hM⟩ := hb_some hM
  rw [Option.some.inj eh11]
  obtain ⟨h12, eh12, hM⟩ := hb_some hM
  refine J_putF (pc := 54) X hc_Mo in_Mo t_Mo tk_Mo nk_Mo 8 k_486 (by decide) rfl rfl rfl hnm d_Mo_init_54 rfl rfl rfl eh12 ?_
  refine J_aload_n (pc := 57) X 0 d_Mo_init_57 rfl ?_
  refine J_bipush (pc := 58) (v := (6)) X d_Mo_init_58 (by decide) ?_
  refine J_newa (pc := 60) (ty := .int) (N := 6) (a0 := (6, .inl (fun _ => 0))) X rfl k_17 d_Mo_init_60 (fun _ => rfl) (fun _ _ hq => hq) (by decide) (by decide) (by decide) (Nat.le_of_ble_eq_true rfl) (Nat.le_of_ble_eq_true rfl) ?_
  obtain ⟨h13, eh13, hM⟩ := hb_some hM
  rw [Option.some.inj eh13]
  obtain ⟨h14, eh14, hM⟩ := hb_some hM
  refine J_putF (pc := 62) X hc_Mo in_Mo t_Mo tk_Mo nk_Mo 9 k_487 (by decide) rfl rfl rfl hnm d_Mo_init_62 rfl rfl rfl eh14 ?_
  refine J_aload_n (pc := 65) X 0 d_Mo_init_65 rfl ?_
  refine J_bipush (pc := 66) (v := (6)) X d_Mo_init_66 (by decide) ?_
  refine J_newa (pc := 68) (ty := .int) (N := 6) (a0 := (6, .inl (fun _ => 0))) X rfl k_17 d_Mo_init_68 (fun _ => rfl) (fun _ _ hq => hq) (by decide) (by decide) (by decide) (Nat.le_of_ble_eq_true rfl) (Nat.le_of_ble_eq_true rfl) ?_
  obtain ⟨h15, eh15, hM⟩ := hb_some hM
  rw [Option.some.inj eh15]
  obtain ⟨h16, eh16, hM⟩ := hb_some hM
  refine J_putF (pc := 70) X hc_Mo in_Mo t_Mo tk_Mo nk_Mo 10 k_488 (by decide) rfl rfl rfl hnm d_Mo_init_70 rfl rfl rfl eh16 ?_
  refine J_aload_n (pc := 73) X 0 d_Mo_init_73 rfl ?_
  refine J_bipush (pc := 74) (v := (48)) X d_Mo_init_74 (by decide) ?_
  refine J_newa (pc := 76) (ty := .int) (N := 48) (a0 := (48, .inl (fun _ => 0))) X rfl k_17 d_Mo_init_76 (fun _ => rfl) (fun _ _ hq => hq) (by decide) (by decide) (by decide) (Nat.le_of_ble_eq_true rfl) (Nat.le_of_ble_eq_true rfl) ?_
  obtain ⟨h17, eh17, hM⟩ := hb_some hM
  rw [Option.some.inj eh17]
  obtain ⟨h18, eh18, hM⟩ := hb_some hM
  refine J_putF (pc := 78) X hc_Mo in_Mo t_Mo tk_Mo nk_Mo 11 k_489 (by decide) rfl rfl rfl hnm d_Mo_init_78 rfl rfl rfl eh18 ?_
  refine J_aload_n (pc := 81) X 0 d_Mo_init_81 rfl ?_
  refine J_sipush (pc := 82) (v := (480)) X d_Mo_init_82 (by decide) ?_
  refine J_newa (pc := 85) (ty := .int) (N := 480) (a0 := (480, .inl (fun _ => 0))) X rfl k_17 d_Mo_init_85 (fun _ => rfl) (fun _ _ hq => hq) (by decide) (by decide) (by decide) (Nat.le_of_ble_eq_true rfl) (Nat.le_of_ble_eq_true rfl) ?_
  obtain ⟨h19, eh19, hM⟩ := hb_some hM
  rw [Option.some.inj eh19]
  obtain ⟨h20, eh20, hM⟩ := hb_some hM
  refine J_putF (pc := 87) X hc_Mo in_Mo t_Mo tk_Mo nk_Mo 12 k_490 (by decide) rfl rfl rfl hnm d_Mo_init_87 rfl rfl rfl eh20 ?_
  refine J_aload_n (pc := 90) X 0 d_Mo_init_90 rfl ?_
  refine J_bipush (pc := 91) (v := (6)) X d_Mo_init_91 (by decide) ?_
  refine J_newa (pc := 93) (ty := .int) (N := 6) (a0 := (6, .inl (fun _ => 0))) X rfl k_17 d_Mo_init_93 (fun _ => rfl) (fun _ _ hq => hq) (by decide) (by decide) (by decide) (Nat.le_of_ble_eq_true rfl) (Nat.le_of_ble_eq_true rfl) ?_
  obtain ⟨h21, eh21, hM⟩ := hb_some hM
  rw [Option.some.inj eh21]
  obtain ⟨h22, eh22, hM⟩ := hb_some hM
  refine J_putF (pc := 95) X hc_Mo in_Mo t_Mo tk_Mo nk_Mo 13 k_491 (by decide) rfl rfl rfl hnm d_Mo_init_95 rfl rfl rfl eh22 ?_
  refine J_aload_n (pc := 98) X 0 d_Mo_init_98 rfl ?_
  refine J_bipush (pc := 99) (v := (72)) X d_Mo_init_99 (by decide) ?_
  refine J_newa (pc := 101) (ty := .int) (N := 72) (a0 := (72, .inl (fun _ => 0))) X rfl k_17 d_Mo_init_101 (fun _ => rfl) (fun _ _ hq => hq) (by decide) (by decide) (by decide) (Nat.le_of_ble_eq_true rfl) (Nat.le_of_ble_eq_true rfl) ?_
  obtain ⟨h23, eh23, hM⟩ := hb_some hM
  rw [Option.some.inj eh23]
  obtain ⟨h24, eh24, hM⟩ := hb_some hM
  refine J_putF (pc := 103) X hc_Mo in_Mo t_Mo tk_Mo nk_Mo 14 k_492 (by decide) rfl rfl rfl hnm d_Mo_init_103 rfl rfl rfl eh24 ?_
  refine J_aload_n (pc := 106) X 0 d_Mo_init_106 rfl ?_
  refine J_bipush (pc := 107) (v := (72)) X d_Mo_init_107 (by decide) ?_
  refine J_newa (pc := 109) (ty := .int) (N := 72) (a0 := (72, .inl (fun _ => 0))) X rfl k_17 d_Mo_init_109 (fun _ => rfl) (fun _ _ hq => hq) (by decide) (by decide) (by decide) (Nat.le_of_ble_eq_true rfl) (Nat.le_of_ble_eq_true rfl) ?_
  obtain ⟨h25, eh25, hM⟩ := hb_some hM
  rw [Option.some.inj eh25]
  obtain ⟨h26, eh26, hM⟩ := hb_some hM
  refine J_putF (pc := 111) X hc_Mo in_Mo t_Mo tk_Mo nk_Mo 15 k_493 (by decide) rfl rfl rfl hnm d_Mo_init_111 rfl rfl rfl eh26 ?_
  refine J_aload_n (pc := 114) X 0 d_Mo_init_114 rfl ?_
  refine J_bipush (pc := 115) (v := (72)) X d_Mo_init_115 (by decide) ?_
  refine J_newa (pc := 117) (ty := .int) (N := 72) (a0 := (72, .inl (fun _ => 0))) X rfl k_17 d_Mo_init_117 (fun _ => rfl) (fun _ _ hq => hq) (by decide) (by decide) (by decide) (Nat.le_of_ble_eq_true rfl) (Nat.le_of_ble_eq_true rfl) ?_
  obtain ⟨h27, eh27, hM⟩ := hb_some hM
  rw [Option.some.inj eh27]
  obtain ⟨h28, eh28, hM⟩ := hb_some hM
  refine J_putF (pc := 119) X hc_Mo in_Mo t_Mo tk_Mo nk_Mo 16 k_494 (by decide) rfl rfl rfl hnm d_Mo_init_119 rfl rfl rfl eh28 ?_
  refine J_aload_n (pc := 122) X 0 d_Mo_init_122 rfl ?_
  refine J_bipush (pc := 123) (v := (72)) X d_Mo_init_123 (by decide) ?_
  refine J_newa (pc := 125) (ty := .int) (N := 72) (a0 := (72, .inl (fun _ => 0))) X rfl k_17 d_Mo_init_125 (fun _ => rfl) (fun _ _ hq => hq) (by decide) (by decide) (by decide) (Nat.le_of_ble_eq_true rfl) (Nat.le_of_ble_eq_true rfl) ?_
  obtain ⟨h29, eh29, hM⟩ := hb_some hM
  rw [Option.some.inj eh29]
  obtain ⟨h30, eh30, hM⟩ := hb_some hM
  refine J_putF (pc := 127) X hc_Mo in_Mo t_Mo tk_Mo nk_Mo 17 k_495 (by decide) rfl rfl rfl hnm d_Mo_init_127 rfl rfl rfl eh30 ?_
  refine J_aload_n (pc := 130) X 0 d_Mo_init_130 rfl ?_
  refine J_bipush (pc := 131) (v := (72)) X d_Mo_init_131 (by decide) ?_
  refine J_newa (pc := 133) (ty := .int) (N := 72) (a0 := (72, .inl (fun _ => 0))) X rfl k_17 d_Mo_init_133 (fun _ => rfl) (fun _ _ hq => hq) (by decide) (by decide) (by decide) (Nat.le_of_ble_eq_true rfl) (Nat.le_of_ble_eq_true rfl) ?_
  obtain ⟨h31, eh31, hM⟩ := hb_some hM
  rw [Option.some.inj eh31]
  obtain ⟨h32, eh32, hM⟩ := hb_some hM
  refine J_putF (pc := 135) X hc_Mo in_Mo t_Mo tk_Mo nk_Mo 18 k_496 (by decide) rfl rfl rfl hnm d_Mo_init_135 rfl rfl rfl eh32 ?_
  refine J_aload_n (pc := 138) X 0 d_Mo_init_138 rfl ?_
  refine J_sipush (pc := 139) (v := (2400)) X d_Mo_init_139 (by decide) ?_
  refine J_newa (pc := 142) (ty := .int) (N := 2400) (a0 := (2400, .inl (fun _ => 0))) X rfl k_17 d_Mo_init_142 (fun _ => rfl) (fun _ _ hq => hq) (by decide) (by decide) (by decide) (Nat.le_of_ble_eq_true rfl) (Nat.le_of_ble_eq_true rfl) ?_
  obtain ⟨h33, eh33, hM⟩ := hb_some hM
  rw [Option.some.inj eh33]
  obtain ⟨h34, eh34, hM⟩ := hb_some hM
  refine J_putF (pc := 144) X hc_Mo in_Mo t_Mo tk_Mo nk_Mo 19 k_497 (by decide) rfl rfl rfl hnm d_Mo_init_144 rfl rfl rfl eh34 ?_
  refine J_aload_n (pc := 147) X 0 d_Mo_init_147 rfl ?_
  refine J_sipush (pc := 148) (v := (2400)) X d_Mo_init_148 (by decide) ?_
  refine J_newa (pc := 151) (ty := .int) (N := 2400) (a0 := (2400, .inl (fun _ => 0))) X rfl k_17 d_Mo_init_151 (fun _ => rfl) (fun _ _ hq => hq) (by decide) (by decide) (by decide) (Nat.le_of_ble_eq_true rfl) (Nat.le_of_ble_eq_true rfl) ?_
  obtain ⟨h35, eh35, hM⟩ := hb_some hM
  rw [Option.some.inj eh35]
  obtain ⟨h36, eh36, hM⟩ := hb_some hM
  refine J_putF (pc := 153) X hc_Mo in_Mo t_Mo tk_Mo nk_Mo 20 k_498 (by decide) rfl rfl rfl hnm d_Mo_init_153 rfl rfl rfl eh36 ?_
  refine J_aload_n (pc := 156) X 0 d_Mo_init_156 rfl ?_
  refine J_sipush (pc := 157) (v := (500)) X d_Mo_init_157 (by decide) ?_
  refine J_newa (pc := 160) (ty := .int) (N := 500) (a0 := (500, .inl (fun _ => 0))) X rfl k_17 d_Mo_init_160 (fun _ => rfl) (fun _ _ hq => hq) (by decide) (by decide) (by decide) (Nat.le_of_ble_eq_true rfl) (Nat.le_of_ble_eq_true rfl) ?_
  obtain ⟨h37, eh37, hM⟩ := hb_some hM
  rw [Option.some.inj eh37]
  obtain ⟨h38, eh38, hM⟩ := hb_some hM
  refine J_putF (pc := 162) X hc_Mo in_Mo t_Mo tk_Mo nk_Mo 25 k_499 (by decide) rfl rfl rfl hnm d_Mo_init_162 rfl rfl rfl eh38 ?_
  refine J_aload_n (pc := 165) X 0 d_Mo_init_165 rfl ?_
  refine J_sipush (pc := 166) (v := (500)) X d_Mo_init_166 (by decide) ?_
  refine J_newa (pc := 169) (ty := .int) (N := 500) (a0 := (500, .inl (fun _ => 0))) X rfl k_17 d_Mo_init_169 (fun _ => rfl) (fun _ _ hq => hq) (by decide) (by decide) (by decide) (Nat.le_of_ble_eq_true rfl) (Nat.le_of_ble_eq_true rfl) ?_
  obtain ⟨h39, eh39, hM⟩ := hb_some hM
  rw [Option.some.inj eh39]
  obtain ⟨h40, eh40, hM⟩ := hb_some hM
  refine J_putF (pc := 171) X hc_Mo in_Mo t_Mo tk_Mo nk_Mo 26 k_500 (by decide) rfl rfl rfl hnm d_Mo_init_171 rfl rfl rfl eh40 ?_
  refine J_aload_n (pc := 174) X 0 d_Mo_init_174 rfl ?_
  refine J_bipush (pc := 175) (v := (20)) X d_Mo_init_175 (by decide) ?_
  refine J_newa (pc := 177) (ty := .long) (N := 20) (a0 := (20, .inr (.inl (fun _ => 0)))) X rfl k_7 d_Mo_init_177 (fun _ => rfl) (fun _ _ hq => hq) (by decide) (by decide) (by decide) (Nat.le_of_ble_eq_true rfl) (Nat.le_of_ble_eq_true rfl) ?_
  obtain ⟨h41, eh41, hM⟩ := hb_some hM
  rw [Option.some.inj eh41]
  obtain ⟨h42, eh42, hM⟩ := hb_some hM
  refine J_putF (pc := 179) X hc_Mo in_Mo t_Mo tk_Mo nk_Mo 27 k_501 (by decide) rfl rfl rfl hnm d_Mo_init_179 rfl rfl rfl eh42 ?_
  refine J_aload_n (pc := 182) X 0 d_Mo_init_182 rfl ?_
  refine J_bipush (pc := 183) (v := (20)) X d_Mo_init_183 (by decide) ?_
  refine J_newa (pc := 185) (ty := .boolean) (N := 20) (a0 := (20, .inl (fun _ => 0))) X rfl k_9 d_Mo_init_185 (fun _ => rfl) (fun _ _ hq => hq) (by decide) (by decide) (by decide) (Nat.le_of_ble_eq_true rfl) (Nat.le_of_ble_eq_true rfl) ?_
  obtain ⟨h43, eh43, hM⟩ := hb_some hM
  rw [Option.some.inj eh43]
  obtain ⟨h44, eh44, hM⟩ := hb_some hM
  refine J_putF (pc := 187) X hc_Mo in_Mo t_Mo tk_Mo nk_Mo 28 k_502 (by decide) rfl rfl rfl hnm d_Mo_init_187 rfl rfl rfl eh44 ?_
  refine J_aload_n (pc := 190) X 0 d_Mo_init_190 rfl ?_
  refine J_iconst (pc := 191) (v := (-1)) X d_Mo_init_191 (by decide) ?_
  obtain ⟨h45, eh45, hM⟩ := hb_some hM
  refine J_put (pc := 192) X hc_Mo in_Mo t_Mo tk_Mo nk_Mo 29 k_503 (by decide) rfl rfl d_Mo_init_192 rfl rfl rfl eh45 ?_
  refine J_aload_n (pc := 195) X 0 d_Mo_init_195 rfl ?_
  refine J_bipush (pc := 196) (v := (12)) X d_Mo_init_196 (by decide) ?_
  refine J_newa (pc := 198) (ty := .int) (N := 12) (a0 := (12, .inl (fun _ => 0))) X rfl k_17 d_Mo_init_198 (fun _ => rfl) (fun _ _ hq => hq) (by decide) (by decide) (by decide) (Nat.le_of_ble_eq_true rfl) (Nat.le_of_ble_eq_true rfl) ?_
  obtain ⟨h46, eh46, hM⟩ := hb_some hM
  rw [Option.some.inj eh46]
  obtain ⟨h47, eh47, hM⟩ := hb_some hM
  refine J_putF (pc := 200) X hc_Mo in_Mo t_Mo tk_Mo nk_Mo 30 k_504 (by decide) rfl rfl rfl hnm d_Mo_init_200 rfl rfl rfl eh47 ?_
  refine J_aload_n (pc := 203) X 0 d_Mo_init_203 rfl ?_
  refine J_bipush (pc := 204) (v := (12)) X d_Mo_init_204 (by decide) ?_
  refine J_newa (pc := 206) (ty := .int) (N := 12) (a0 := (12, .inl (fun _ => 0))) X rfl k_17 d_Mo_init_206 (fun _ => rfl) (fun _ _ hq => hq) (by decide) (by decide) (by decide) (Nat.le_of_ble_eq_true rfl) (Nat.le_of_ble_eq_true rfl) ?_
  obtain ⟨h48, eh48, hM⟩ := hb_some hM
  rw [Option.some.inj eh48]
  obtain ⟨h49, eh49, hM⟩ := hb_some hM
  refine J_putF (pc := 208) X hc_Mo in_Mo t_Mo tk_Mo nk_Mo 31 k_505 (by decide) rfl rfl rfl hnm d_Mo_init_208 rfl rfl rfl eh49 ?_
  refine J_aload_n (pc := 211) X 0 d_Mo_init_211 rfl ?_
  refine J_bipush (pc := 212) (v := (12)) X d_Mo_init_212 (by decide) ?_
  refine J_newa (pc := 214) (ty := .int) (N := 12) (a0 := (12, .inl (fun _ => 0))) X rfl k_17 d_Mo_init_214 (fun _ => rfl) (fun _ _ hq => hq) (by decide) (by decide) (by decide) (Nat.le_of_ble_eq_true rfl) (Nat.le_of_ble_eq_true rfl) ?_
  obtain ⟨h50, eh50, hM⟩ := hb_some hM
  rw [Option.some.inj eh50]
  obtain ⟨h51, eh51, hM⟩ := hb_some hM
  refine J_putF (pc := 216) X hc_Mo in_Mo t_Mo tk_Mo nk_Mo 32 k_506 (by decide) rfl rfl rfl hnm d_Mo_init_216 rfl rfl rfl eh51 ?_
  refine J_aload_n (pc := 219) X 0 d_Mo_init_219 rfl ?_
  refine J_sipush (pc := 220) (v := (500)) X d_Mo_init_220 (by decide) ?_
  refine J_newa (pc := 223) (ty := .long) (N := 500) (a0 := (500, .inr (.inl (fun _ => 0)))) X rfl k_7 d_Mo_init_223 (fun _ => rfl) (fun _ _ hq => hq) (by decide) (by decide) (by decide) (Nat.le_of_ble_eq_true rfl) (Nat.le_of_ble_eq_true rfl) ?_
  obtain ⟨h52, eh52, hM⟩ := hb_some hM
  rw [Option.some.inj eh52]
  obtain ⟨h53, eh53, hM⟩ := hb_some hM
  refine J_putF (pc := 225) X hc_Mo in_Mo t_Mo tk_Mo nk_Mo 35 k_507 (by decide) rfl rfl rfl hnm d_Mo_init_225 rfl rfl rfl eh53 ?_
  refine J_aload_n (pc := 228) X 0 d_Mo_init_228 rfl ?_
  refine J_sipush (pc := 229) (v := (1600)) X d_Mo_init_229 (by decide) ?_
  refine J_newa (pc := 232) (ty := .byte) (N := 1600) (a0 := (1600, .inl (fun _ => 0))) X rfl k_3 d_Mo_init_232 (fun _ => rfl) (fun _ _ hq => hq) (by decide) (by decide) (by decide) (Nat.le_of_ble_eq_true rfl) (Nat.le_of_ble_eq_true rfl) ?_
  obtain ⟨h54, eh54, hM⟩ := hb_some hM
  rw [Option.some.inj eh54]
  obtain ⟨h55, eh55, hM⟩ := hb_some hM
  refine J_putF (pc := 234) X hc_Mo in_Mo t_Mo tk_Mo nk_Mo 36 k_508 (by decide) rfl rfl rfl hnm d_Mo_init_234 rfl rfl rfl eh55 ?_
  refine J_aload_n (pc := 237) X 0 d_Mo_init_237 rfl ?_
  refine J_bipush (pc := 238) (v := (80)) X d_Mo_init_238 (by decide) ?_
  refine J_newa (pc := 240) (ty := .long) (N := 80) (a0 := (80, .inr (.inl (fun _ => 0)))) X rfl k_7 d_Mo_init_240 (fun _ => rfl) (fun _ _ hq => hq) (by decide) (by decide) (by decide) (Nat.le_of_ble_eq_true rfl) (Nat.le_of_ble_eq_true rfl) ?_
  obtain ⟨h56, eh56, hM⟩ := hb_some hM
  rw [Option.some.inj eh56]
  obtain ⟨h57, eh57, hM⟩ := hb_some hM
  refine J_putF (pc := 242) X hc_Mo in_Mo t_Mo tk_Mo nk_Mo 38 k_509 (by decide) rfl rfl rfl hnm d_Mo_init_242 rfl rfl rfl eh57 ?_
  obtain rfl := Option.some.inj hM
  exact J_vret (pc := 245) X hr hlk (Nat.le_of_ble_eq_true rfl) (Nat.le_of_ble_eq_true rfl) d_Mo_init_245
abbrev rm_Mo_thrown : Room := { frames := 0, cells := 0, slots := 0, locals := 0 }
set_option maxHeartbeats 4000000 in
set_option maxRecDepth 100000 in
theorem c_Mo_thrown (l : Launch) (D : va_G) (K : (Nat → Nat) × (Nat → Nat)) (F : Nat) {h : hH} {x0 : Nat} {q : (Int32 × hH)} (hM : M_Mo_thrown F h x0 = some q) : Met l y_Mo_thrown (.code y_Mo_thrown prog_14_method_2_code 1 (some .int) :: T0) rm_Mo_thrown (hPc hG D cls0 K [.ref x0] h) (hQ D cls0 h (some (.int q.1)) q.2) 0 0 (hF h) := by
  refine J_met (lv := [(0, .ref x0)]) (by decide) (Nat.le_of_ble_eq_true rfl) rfl ?_
  intro p e s m below meth c X hr hlk hnm
  have Y : HX p s m _ meth c prog_14_method_2_code 1 "LicenceTextsModel" D K "thrown" (some .int) h := ⟨X, hr, hlk, hnm⟩
  unfold M_Mo_thrown at hM
  refine J_aload_n (pc := 0) X 0 d_Mo_thrown_0 rfl ?_
  obtain ⟨v1, ev1, hM⟩ := hb_some hM
  refine J_getI (pc := 1) X hc_Mo in_Mo 0 k_510 (by decide) rfl d_Mo_thrown_1 rfl ev1 ?_
  obtain rfl := Option.some.inj hM
  exact J_iret (pc := 4) X hr hlk (Nat.le_of_ble_eq_true rfl) (Nat.le_of_ble_eq_true rfl) d_Mo_thrown_4
abbrev rm_Mo_unit : Room := { frames := 0, cells := 0, slots := 0, locals := 0 }
set_option maxHeartbeats 4000000 in
set_option maxRecDepth 100000 in
theorem c_Mo_unit (l : Launch) (D : va_G) (K : (Nat → Nat) × (Nat → Nat)) (F : Nat) {h : hH} {x0 : Nat} {x1 : Int32} {q : (Int32 × hH)} (hM : M_Mo_unit F h x0 x1 = some q) : Met l y_Mo_unit (.code y_Mo_unit prog_14_method_3_code 2 (some .boolean) :: T0) rm_Mo_unit (hPc hG D cls0 K [.ref x0, .int x1] h) (hQ D cls0 h (some (.int q.1)) q.2) 0 0 (hF h) := by
  refine J_met (lv := [(0, .ref x0), (1, .int x1)]) (by decide) (Nat.le_of_ble_eq_true rfl) rfl ?_
  intro p e s m below meth c X hr hlk hnm
  have Y : HX p s m _ meth c prog_14_method_3_code 2 "LicenceTextsModel" D K "unit" (some .boolean) h := ⟨X, hr, hlk, hnm⟩
  unfold M_Mo_unit at hM
  refine J_aload_n (pc := 0) X 0 d_Mo_unit_0 rfl ?_
  refine J_iconst (pc := 1) (v := (0)) X d_Mo_unit_1 (by decide) ?_
  obtain ⟨h1, eh1, hM⟩ := hb_some hM
  refine J_put (pc := 2) X hc_Mo in_Mo t_Mo tk_Mo nk_Mo 0 k_510 (by decide) rfl rfl d_Mo_unit_2 rfl rfl rfl eh1 ?_
  refine J_aload_n (pc := 5) X 0 d_Mo_unit_5 rfl ?_
  obtain ⟨v2, ev2, hM⟩ := hb_some hM
  refine J_getI (pc := 6) X hc_Mo in_Mo 2 k_511 (by decide) rfl d_Mo_unit_6 rfl ev2 ?_
  refine J_sipush (pc := 9) (v := (800)) X d_Mo_unit_9 (by decide) ?_
  refine J_icmp_ne (pc := 12) (tgt := 17) X d_Mo_unit_12 (by decide) (fun c3 => ?_) (fun c3 => ?_)
  · have hM := hif_f hM c3
    refine J_aload_n (pc := 17) X 0 d_Mo_unit_17 rfl ?_
    obtain ⟨v4, ev4, hM⟩ := hb_some hM
    refine J_getA (pc := 18) X hc_Mo in_Mo 1 k_481 (by decide) rfl d_Mo_unit_18 rfl ev4 ?_
    refine J_aload_n (pc := 21) X 0 d_Mo_unit_21 rfl ?_
    obtain ⟨v5, ev5, hM⟩ := hb_some hM
    refine J_getI (pc := 22) X hc_Mo in_Mo 2 k_511 (by decide) rfl d_Mo_unit_22 rfl ev5 ?_
    refine J_iload_n (pc := 25) X 1 d_Mo_unit_25 rfl ?_
    refine J_i2b (pc := 26) X d_Mo_unit_26 ?_
    obtain ⟨h6, eh6, hM⟩ := hb_some hM
    refine J_bast (pc := 27) X d_Mo_unit_27 rfl eh6 ?_
    refine J_aload_n (pc := 28) X 0 d_Mo_unit_28 rfl ?_
    refine J_dup (pc := 29) X d_Mo_unit_29 rfl ?_
    obtain ⟨v7, ev7, hM⟩ := hb_some hM
    refine J_getI (pc := 30) X hc_Mo in_Mo 2 k_511 (by decide) rfl d_Mo_unit_30 rfl ev7 ?_
    refine J_iconst (pc := 33) (v := (1)) X d_Mo_unit_33 (by decide) ?_
    refine J_iadd (pc := 34) X d_Mo_unit_34 ?_
    obtain ⟨h8, eh8, hM⟩ := hb_some hM
    refine J_put (pc := 35) X hc_Mo in_Mo t_Mo tk_Mo nk_Mo 2 k_511 (by decide) rfl rfl d_Mo_unit_35 rfl rfl rfl eh8 ?_
    refine J_iconst (pc := 38) (v := (1)) X d_Mo_unit_38 (by decide) ?_
    obtain rfl := Option.some.inj hM
    exact J_zret (pc := 39) X hr hz1 hlk (Nat.le_of_ble_eq_true rfl) (Nat.le_of_ble_eq_true rfl) d_Mo_unit_39
  · have hM := hif_t hM c3
    refine J_iconst (pc := 15) (v := (0)) X d_Mo_unit_15 (by decide) ?_
    obtain rfl := Option.some.inj hM
    exact J_zret (pc := 16) X hr hz0 hlk (Nat.le_of_ble_eq_true rfl) (Nat.le_of_ble_eq_true rfl) d_Mo_unit_16
abbrev rm_Mo_five : Room := { frames := 0, cells := 0, slots := 0, locals := 0 }
set_option maxHeartbeats 4000000 in
set_option maxRecDepth 100000 in
theorem c_Mo_five (l : Launch) (D : va_G) (K : (Nat → Nat) × (Nat → Nat)) (F : Nat) {h : hH} {x0 : Int32} {x1 : Int32} {x2 : Int32} {x3 : Int32} {x4 : Int32} {q : (Int64 × hH)} (hM : M_Mo_five F h x0 x1 x2 x3 x4 = some q) : Met l y_Mo_five (.code y_Mo_five prog_14_method_4_code 5 (some .long) :: T0) rm_Mo_five (hPc hG D cls0 K [.int x0, .int x1, .int x2, .int x3, .int x4] h) (hQ D cls0 h (some (.long q.1)) q.2) 0 0 (hF h) := by
  refine J_met (lv := [(0, .int x0), (1, .int x1), (2, .int x2), (3, .int x3), (4, .int x4)]) (by decide) (Nat.le_of_ble_eq_true rfl) rfl ?_
  intro p e s m below meth c X hr hlk hnm
  have Y : HX p s m _ meth c prog_14_method_4_code 5 "LicenceTextsModel" D K "five" (some .long) h := ⟨X, hr, hlk, hnm⟩
  unfold M_Mo_five at hM
  refine J_iload_n (pc := 0) X 0 d_Mo_five_0 rfl ?_
  refine J_i2l (pc := 1) X d_Mo_five_1 ?_
  refine J_ldc2 (pc := 2) X k_512 d_Mo_five_2 ?_
  refine J_lmul (pc := 5) X d_Mo_five_5 ?_
  refine J_iload_n (pc := 6) X 1 d_Mo_five_6 rfl ?_
  refine J_i2l (pc := 7) X d_Mo_five_7 ?_
  refine J_ladd (pc := 8) X d_Mo_five_8 ?_
  refine J_ldc2 (pc := 9) X k_512 d_Mo_five_9 ?_
  refine J_lmul (pc := 12) X d_Mo_five_12 ?_
  refine J_iload_n (pc := 13) X 2 d_Mo_five_13 rfl ?_
  refine J_i2l (pc := 14) X d_Mo_five_14 ?_
  refine J_ladd (pc := 15) X d_Mo_five_15 ?_
  refine J_ldc2 (pc := 16) X k_512 d_Mo_five_16 ?_
  refine J_lmul (pc := 19) X d_Mo_five_19 ?_
  refine J_iload_n (pc := 20) X 3 d_Mo_five_20 rfl ?_
  refine J_i2l (pc := 21) X d_Mo_five_21 ?_
  refine J_ladd (pc := 22) X d_Mo_five_22 ?_
  refine J_ldc2 (pc := 23) X k_512 d_Mo_five_23 ?_
  refine J_lmul (pc := 26) X d_Mo_five_26 ?_
  refine J_iload (pc := 27) X 4 d_Mo_five_27 rfl ?_
  refine J_i2l (pc := 29) X d_Mo_five_29 ?_
  refine J_ladd (pc := 30) X d_Mo_five_30 ?_
  obtain rfl := Option.some.inj hM
  exact J_lret (pc := 31) X hr hlk (Nat.le_of_ble_eq_true rfl) (Nat.le_of_ble_eq_true rfl) d_Mo_five_31
abbrev rm_Mo_nameOf : Room := { frames := 1, cells := 0, slots := 0, locals := 24 }
set_option maxHeartbeats 4000000 in
set_option maxRecDepth 100000 in
theorem w_Mo_nameOf_93 {p : Program} {l : Launch} {e : Env} {s : State} {m : MethodId} {args : Array Value} {below : List Frame} {meth : Method} {c : Code} {D : va_G} {K : (Nat → Nat) × (Nat → Nat)} {h0 : hH} (Y : HX p s m args meth c prog_14_method_5_code 6 "LicenceTextsModel" D K "nameOf" (some .int) h0) {F : Nat} {r68 : hH → Nat → Int32 → Int32 → Int64 → Int32 → Option (Int32 × hH)} (R68 : ∀ (h : hH) (x0 : Nat) (x1 : Int32) (x2 : Int32) (x3 : Int64) (x5 : Int32) (q : (Int32 × hH)), r68 h x0 x1 x2 x3 x5 = some q → J p l e rm_Mo_nameOf s m args below meth c 6 D cls0 (hF h0) h [(0, .ref x0), (1, .int x1), (2, .int x2), (3, .long x3), (5, .int x5)] 0 0 (MQ below (hQ D cls0 h0 (some (.int q.1)) q.2) args s 0 0 (hF h0)) 68 []) (h : hH) (x0 : Nat) (x1 : Int32) (x2 : Int32) (x5 : Int32) (s0 : Int64) (q : (Int32 × hH)) (hM : M_Mo_nameOf_93 F r68 h x0 x1 x2 x5 s0 = some q) : J p l e rm_Mo_nameOf s m args below meth c 6 D cls0 (hF h0) h [(0, .ref x0), (1, .int x1), (2, .int x2), (5, .int x5)] 0 0 (MQ below (hQ D cls0 h0 (some (.int q.1)) q.2) args s 0 0 (hF h0)) 93 [.long s0] := by
  obtain ⟨X, hr, hlk, hnm⟩ := id Y
  unfold M_Mo_nameOf_93 at hM
  refine J_lstore_n (pc := 93) (lv' := [(3, .long s0), (0, .ref x0), (1, .int x1), (2, .int x2), (5, .int x5)]) X d_Mo_nameOf_93 rfl (by decide) rfl ?_
  refine J_iinc (pc := 94) (v := x5 + 1) (lv' := [(5, .int (x5 + 1)), (3, .long s0), (0, .ref x0), (1, .int x1), (2, .int x2)]) X 4 d_Mo_nameOf_94 rfl rfl (by decide) rfl ?_
  refine J_goto (pc := 97) (tgt := 68) X d_Mo_nameOf_97 (by decide) ?_
  refine J_sub [2, 3, 4, 1, 0] rfl ?_
  exact R68 _ _ _ _ _ _ _ hM
set_option maxHeartbeats 4000000 in
set_option maxRecDepth 100000 in
theorem b_Mo_nameOf_68 {p : Program} {l : Launch} {e : Env} {s : State} {m : MethodId} {args : Array Value} {below : List Frame} {meth : Method} {c : Code} {D : va_G} {K : (Nat → Nat) × (Nat → Nat)} {h0 : hH} (Y : HX p s m args meth c prog_14_method_5_code 6 "LicenceTextsModel" D K "nameOf" (some .int) h0) {F : Nat}   {r68 : hH → Nat → Int32 → Int32 → Int64 → Int32 → Option (Int32 × hH)} (R68 : ∀ (h : hH) (x0 : Nat) (x1 : Int32) (x2 : Int32) (x3 : Int64) (x5 : Int32) (q : (Int32 × hH)), r68 h x0 x1 x2 x3 x5 = some q → J p l e rm_Mo_nameOf s m args below meth c 6 D cls0 (hF h0) h [(0, .ref x0), (1, .int x1), (2, .int x2), (3, .long x3), (5, .int x5)] 0 0 (MQ below (hQ D cls0 h0 (some (.int q.1)) q.2) args s 0 0 (hF h0)) 68 []) : ∀ (h : hH) (x0 : Nat) (x1 : Int32) (x2 : Int32) (x3 : Int64) (x5 : Int32) (q : (Int32 × hH)), B_Mo_nameOf_68 F r68 h x0 x1 x2 x3 x5 = some q → J p l e rm_Mo_nameOf s m args below meth c 6 D cls0 (hF h0) h [(0, .ref x0), (1, .int x1), (2, .int x2), (3, .long x3), (5, .int x5)] 0 0 (MQ below (hQ D cls0 h0 (some (.int q.1)) q.2) args s 0 0 (hF h0)) 68 [] := by
  intro h x0 x1 x2 x3 x5 q hM
  obtain ⟨X, hr, hlk, hnm⟩ := id Y
  unfold B_Mo_nameOf_68 at hM
  refine J_iload (pc := 68) X 4 d_Mo_nameOf_68 rfl ?_
  refine J_iload_n (pc := 70) X 2 d_Mo_nameOf_70 rfl ?_
  refine J_icmp_ge (pc := 71) (tgt := 100) X d_Mo_nameOf_71 (by decide) (fun c1 => ?_) (fun c1 => ?_)
  · have hM := hif_t hM c1
    refine J_lload_n (pc := 100) X 3 d_Mo_nameOf_100 rfl ?_
    refine J_bipush (pc := 101) (v := (116)) X d_Mo_nameOf_101 (by decide) ?_
    refine J_bipush (pc := 103) (v := (97)) X d_Mo_nameOf_103 (by decide) ?_
    refine J_bipush (pc := 105) (v := (98)) X d_Mo_nameOf_105 (by decide) ?_
    refine J_bipush (pc := 107) (v := (108)) X d_Mo_nameOf_107 (by decide) ?_
    refine J_bipush (pc := 109) (v := (101)) X d_Mo_nameOf_109 (by decide) ?_
    obtain ⟨q2, eq2, hM⟩ := hb_some hM
    refine J_callS (pc := 111) (As := [.int 116, .int 97, .int 98, .int 108, .int 101]) (rest := [.long x3]) (o := (some (.long q2.1))) (h2 := q2.2) X (c_Mo_five l D K F eq2) (cwS_of (nA := 5) X.fix k_513 k_516 k_515 k_514 ⟨rfl, rfl⟩ (by decide +kernel) ⟨Nat.le_of_ble_eq_true rfl, Nat.le_of_ble_eq_true rfl⟩) d_Mo_nameOf_111 rfl rfl (Nat.le_of_ble_eq_true rfl) (Nat.le_of_ble_eq_true rfl) (Nat.le_of_ble_eq_true rfl) ?_
    refine J_lcmp (pc := 114) X d_Mo_nameOf_114 ?_
    refine J_if_ne (pc := 115) (tgt := 120) X d_Mo_nameOf_115 (by decide) (fun c3 => ?_) (fun c3 => ?_)
    · have hM := hif_f hM c3
      refine J_lload_n (pc := 120) X 3 d_Mo_nameOf_120 rfl ?_
      refine J_bipush (pc := 121) (v := (114)) X d_Mo_nameOf_121 (by decide) ?_
      refine J_bipush (pc := 123) (v := (117)) X d_Mo_nameOf_123 (by decide) ?_
      refine J_bipush (pc := 125) (v := (108)) X d_Mo_nameOf_125 (by decide) ?_
      refine J_bipush (pc := 127) (v := (101)) X d_Mo_nameOf_127 (by decide) ?_
      refine J_iconst (pc := 129) (v := (0)) X d_Mo_nameOf_129 (by decide) ?_
      obtain ⟨q4, eq4, hM⟩ := hb_some hM
      refine J_callS (pc := 130) (As := [.int 114, .int 117, .int 108, .int 101, .int 0]) (rest := [.long x3]) (o := (some (.long q4.1))) (h2 := q4.2) X (c_Mo_five l D K F eq4) (cwS_of (nA := 5) X.fix k_513 k_516 k_515 k_514 ⟨rfl, rfl⟩ (by decide +kernel) ⟨Nat.le_of_ble_eq_true rfl, Nat.le_of_ble_eq_true rfl⟩) d_Mo_nameOf_130 rfl rfl (Nat.le_of_ble_eq_true rfl) (Nat.le_of_ble_eq_true rfl) (Nat.le_of_ble_eq_true rfl) ?_
      refine J_lcmp (pc := 133) X d_Mo_nameOf_133 ?_
      refine J_if_ne (pc := 134) (tgt := 140) X d_Mo_nameOf_134 (by decide) (fun c5 => ?_) (fun c5 => ?_)
      · have hM := hif_f hM c5
        refine J_lload_n (pc := 140) X 3 d_Mo_nameOf_140 rfl ?_
        refine J_bipush (pc := 141) (v := (119)) X d_Mo_nameOf_141 (by decide) ?_
        refine J_bipush (pc := 143) (v := (104)) X d_Mo_nameOf_143 (by decide) ?_
        refine J_bipush (pc := 145) (v := (101)) X d_Mo_nameOf_145 (by decide) ?_
        refine J_bipush (pc := 147) (v := (110)) X d_Mo_nameOf_147 (by decide) ?_
        refine J_iconst (pc := 149) (v := (0)) X d_Mo_nameOf_149 (by decide) ?_
        obtain ⟨q6, eq6, hM⟩ := hb_some hM
        refine J_callS (pc := 150) (As := [.int 119, .int 104, .int 101, .int 110, .int 0]) (rest := [.long x3]) (o := (some (.long q6.1))) (h2 := q6.2) X (c_Mo_five l D K F eq6) (cwS_of (nA := 5) X.fix k_513 k_516 k_515 k_514 ⟨rfl, rfl⟩ (by decide +kernel) ⟨Nat.le_of_ble_eq_true rfl, Nat.le_of_ble_eq_true rfl⟩) d_Mo_nameOf_150 rfl rfl (Nat.le_of_ble_eq_true rfl) (Nat.le_of_ble_eq_true rfl) (Nat.le_of_ble_eq_true rfl) ?_
        refine J_lcmp (pc := 153) X d_Mo_nameOf_153 ?_
        refine J_if_ne (pc := 154) (tgt := 160) X d_Mo_nameOf_154 (by decide) (fun c7 => ?_) (fun c7 => ?_)
        · have hM := hif_f hM c7
          refine J_lload_n (pc := 160) X 3 d_Mo_nameOf_160 rfl ?_
          refine J_bipush (pc := 161) (v := (110)) X d_Mo_nameOf_161 (by decide) ?_
          refine J_bipush (pc := 163) (v := (101)) X d_Mo_nameOf_163 (by decide) ?_
          refine J_bipush (pc := 165) (v := (101)) X d_Mo_nameOf_165 (by decide) ?_
          refine J_bipush (pc := 167) (v := (100)) X d_Mo_nameOf_167 (by decide) ?_
          refine J_iconst (pc := 169) (v := (0)) X d_Mo_nameOf_169 (by decide) ?_
          obtain ⟨q8, eq8, hM⟩ := hb_some hM
          refine J_callS (pc := 170) (As := [.int 110, .int 101, .int 101, .int 100, .int 0]) (rest := [.long x3]) (o := (some (.long q8.1))) (h2 := q8.2) X (c_Mo_five l D K F eq8) (cwS_of (nA := 5) X.fix k_513 k_516 k_515 k_514 ⟨rfl, rfl⟩ (by decide +kernel) ⟨Nat.le_of_ble_eq_true rfl, Nat.le_of_ble_eq_true rfl⟩) d_Mo_nameOf_170 rfl rfl (Nat.le_of_ble_eq_true rfl) (Nat.le_of_ble_eq_true rfl) (Nat.le_of_ble_eq_true rfl) ?_
          refine J_lcmp (pc := 173) X d_Mo_nameOf_173 ?_
          refine J_if_ne (pc := 174) (tgt := 180) X d_Mo_nameOf_174 (by decide) (fun c9 => ?_) (fun c9 => ?_)
          · have hM := hif_f hM c9
            refine J_lload_n (pc := 180) X 3 d_Mo_nameOf_180 rfl ?_
            refine J_bipush (pc := 181) (v := (97)) X d_Mo_nameOf_181 (by decide) ?_
            refine J_bipush (pc := 183) (v := (110)) X d_Mo_nameOf_183 (by decide) ?_
            refine J_bipush (pc := 185) (v := (100)) X d_Mo_nameOf_185 (by decide) ?_
            refine J_iconst (pc := 187) (v := (0)) X d_Mo_nameOf_187 (by decide) ?_
            refine J_iconst (pc := 188) (v := (0)) X d_Mo_nameOf_188 (by decide) ?_
            obtain ⟨q10, eq10, hM⟩ := hb_some hM
            refine J_callS (pc := 189) (As := [.int 97, .int 110, .int 100, .int 0, .int 0]) (rest := [.long x3]) (o := (some (.long q10.1))) (h2 := q10.2) X (c_Mo_five l D K F eq10) (cwS_of (nA := 5) X.fix k_513 k_516 k_515 k_514 ⟨rfl, rfl⟩ (by decide +kernel) ⟨Nat.le_of_ble_eq_true rfl, Nat.le_of_ble_eq_true rfl⟩) d_Mo_nameOf_189 rfl rfl (Nat.le_of_ble_eq_true rfl) (Nat.le_of_ble_eq_true rfl) (Nat.le_of_ble_eq_true rfl) ?_
            refine J_lcmp (pc := 192) X d_Mo_nameOf_192 ?_
            refine J_if_ne (pc := 193) (tgt := 199) X d_Mo_nameOf_193 (by decide) (fun c11 => ?_) (fun c11 => ?_)
            · have hM := hif_f hM c11
              refine J_lload_n (pc := 199) X 3 d_Mo_nameOf_199 rfl ?_
              refine J_bipush (pc := 200) (v := (102)) X d_Mo_nameOf_200 (by decide) ?_
              refine J_bipush (pc := 202) (v := (97)) X d_Mo_nameOf_202 (by decide) ?_
              refine J_bipush (pc := 204) (v := (99)) X d_Mo_nameOf_204 (by decide) ?_
              refine J_bipush (pc := 206) (v := (116)) X d_Mo_nameOf_206 (by decide) ?_
              refine J_iconst (pc := 208) (v := (0)) X d_Mo_nameOf_208 (by decide) ?_
              obtain ⟨q12, eq12, hM⟩ := hb_some hM
              refine J_callS (pc := 209) (As := [.int 102, .int 97, .int 99, .int 116, .int 0]) (rest := [.long x3]) (o := (some (.long q12.1))) (h2 := q12.2) X (c_Mo_five l D K F eq12) (cwS_of (nA := 5) X.fix k_513 k_516 k_515 k_514 ⟨rfl, rfl⟩ (by decide +kernel) ⟨Nat.le_of_ble_eq_true rfl, Nat.le_of_ble_eq_true rfl⟩) d_Mo_nameOf_209 rfl rfl (Nat.le_of_ble_eq_true rfl) (Nat.le_of_ble_eq_true rfl) (Nat.le_of_ble_eq_true rfl) ?_
              refine J_lcmp (pc := 212) X d_Mo_nameOf_212 ?_
              refine J_if_ne (pc := 213) (tgt := 219) X d_Mo_nameOf_213 (by decide) (fun c13 => ?_) (fun c13 => ?_)
              · have hM := hif_f hM c13
                refine J_lload_n (pc := 219) X 3 d_Mo_nameOf_219 rfl ?_
                refine J_bipush (pc := 220) (v := (97)) X d_Mo_nameOf_220 (by decide) ?_
                refine J_bipush (pc := 222) (v := (116)) X d_Mo_nameOf_222 (by decide) ?_
                refine J_iconst (pc := 224) (v := (0)) X d_Mo_nameOf_224 (by decide) ?_
                refine J_iconst (pc := 225) (v := (0)) X d_Mo_nameOf_225 (by decide) ?_
                refine J_iconst (pc := 226) (v := (0)) X d_Mo_nameOf_226 (by decide) ?_
                obtain ⟨q14, eq14, hM⟩ := hb_some hM
                refine J_callS (pc := 227) (As := [.int 97, .int 116, .int 0, .int 0, .int 0]) (rest := [.long x3]) (o := (some (.long q14.1))) (h2 := q14.2) X (c_Mo_five l D K F eq14) (cwS_of (nA := 5) X.fix k_513 k_516 k_515 k_514 ⟨rfl, rfl⟩ (by decide +kernel) ⟨Nat.le_of_ble_eq_true rfl, Nat.le_of_ble_eq_true rfl⟩) d_Mo_nameOf_227 rfl rfl (Nat.le_of_ble_eq_true rfl) (Nat.le_of_ble_eq_true rfl) (Nat.le_of_ble_eq_true rfl) ?_
                refine J_lcmp (pc := 230) X d_Mo_nameOf_230 ?_
                refine J_if_ne (pc := 231) (tgt := 239) X d_Mo_nameOf_231 (by decide) (fun c15 => ?_) (fun c15 => ?_)
                · have hM := hif_f hM c15
                  refine J_bipush (pc := 239) (v := (-20)) X d_Mo_nameOf_239 (by decide) ?_
                  obtain rfl := Option.some.inj hM
                  exact J_iret (pc := 241) X hr hlk (Nat.le_of_ble_eq_true rfl) (Nat.le_of_ble_eq_true rfl) d_Mo_nameOf_241
                · have hM := hif_t hM c15
                  refine J_bipush (pc := 234) (v := (-7)) X d_Mo_nameOf_234 (by decide) ?_
                  refine J_goto (pc := 236) (tgt := 241) X d_Mo_nameOf_236 (by decide) ?_
                  obtain rfl := Option.some.inj hM
                  exact J_iret (pc := 241) X hr hlk (Nat.le_of_ble_eq_true rfl) (Nat.le_of_ble_eq_true rfl) d_Mo_nameOf_241
              · have hM := hif_t hM c13
                refine J_bipush (pc := 216) (v := (-6)) X d_Mo_nameOf_216 (by decide) ?_
                obtain rfl := Option.some.inj hM
                exact J_iret (pc := 218) X hr hlk (Nat.le_of_ble_eq_true rfl) (Nat.le_of_ble_eq_true rfl) d_Mo_nameOf_218
            · have hM := hif_t hM c11
              refine J_bipush (pc := 196) (v := (-5)) X d_Mo_nameOf_196 (by decide) ?_
              obtain rfl := Option.some.inj hM
              exact J_iret (pc := 198) X hr hlk (Nat.le_of_ble_eq_true rfl) (Nat.le_of_ble_eq_true rfl) d_Mo_nameOf_198
          · have hM := hif_t hM c9
            refine J_bipush (pc := 177) (v := (-4)) X d_Mo_nameOf_177 (by decide) ?_
            obtain rfl := Option.some.inj hM
            exact J_iret (pc := 179) X hr hlk (Nat.le_of_ble_eq_true rfl) (Nat.le_of_ble_eq_true rfl) d_Mo_nameOf_179
        · have hM := hif_t hM c7
          refine J_bipush (pc := 157) (v := (-3)) X d_Mo_nameOf_157 (by decide) ?_
          obtain rfl := Option.some.inj hM
          exact J_iret (pc := 159) X hr hlk (Nat.le_of_ble_eq_true rfl) (Nat.le_of_ble_eq_true rfl) d_Mo_nameOf_159
      · have hM := hif_t hM c5
        refine J_bipush (pc := 137) (v := (-2)) X d_Mo_nameOf_137 (by decide) ?_
        obtain rfl := Option.some.inj hM
        exact J_iret (pc := 139) X hr hlk (Nat.le_of_ble_eq_true rfl) (Nat.le_of_ble_eq_true rfl) d_Mo_nameOf_139
    · have hM := hif_t hM c3
      refine J_iconst (pc := 118) (v := (-1)) X d_Mo_nameOf_118 (by decide) ?_
      obtain rfl := Option.some.inj hM
      exact J_iret (pc := 119) X hr hlk (Nat.le_of_ble_eq_true rfl) (Nat.le_of_ble_eq_true rfl) d_Mo_nameOf_119
  · have hM := hif_f hM c1
    refine J_aload_n (pc := 74) X 0 d_Mo_nameOf_74 rfl ?_
    obtain ⟨v16, ev16, hM⟩ := hb_some hM
    refine J_getA (pc := 75) X hc_Mo in_Mo 1 k_481 (by decide) rfl d_Mo_nameOf_75 rfl ev16 ?_
    refine J_iload_n (pc := 78) X 1 d_Mo_nameOf_78 rfl ?_
    refine J_iload (pc := 79) X 4 d_Mo_nameOf_79 rfl ?_
    refine J_iadd (pc := 81) X d_Mo_nameOf_81 ?_
    obtain ⟨v17, ev17, hM⟩ := hb_some hM
    refine J_bald (pc := 82) X d_Mo_nameOf_82 rfl ev17 ?_
    refine J_if_ne (pc := 83) (tgt := 92) X d_Mo_nameOf_83 (by decide) (fun c18 => ?_) (fun c18 => ?_)
    · have hM := hif_f hM c18
      refine J_lload_n (pc := 92) X 3 d_Mo_nameOf_92 rfl ?_
      refine J_sub [0, 1, 2, 4] rfl ?_
      exact w_Mo_nameOf_93 Y R68 _ _ _ _ _ _ _ hM
    · have hM := hif_t hM c18
      refine J_ldc2 (pc := 86) X k_517 d_Mo_nameOf_86 ?_
      refine J_goto (pc := 89) (tgt := 93) X d_Mo_nameOf_89 (by decide) ?_
      refine J_sub [0, 1, 2, 4] rfl ?_
      exact w_Mo_nameOf_93 Y R68 _ _ _ _ _ _ _ hM
theorem w_Mo_nameOf_68 {p : Program} {l : Launch} {e : Env} {s : State} {m : MethodId} {args : Array Value} {below : List Frame} {meth : Method} {c : Code} {D : va_G} {K : (Nat → Nat) × (Nat → Nat)} {h0 : hH} (Y : HX p s m args meth c prog_14_method_5_code 6 "LicenceTextsModel" D K "nameOf" (some .int) h0) {F : Nat} : ∀ z : Nat, ∀ (h : hH) (x0 : Nat) (x1 : Int32) (x2 : Int32) (x3 : Int64) (x5 : Int32) (q : (Int32 × hH)), M_Mo_nameOf_68 F z h x0 x1 x2 x3 x5 = some q → J p l e rm_Mo_nameOf s m args below meth c 6 D cls0 (hF h0) h [(0, .ref x0), (1, .int x1), (2, .int x2), (3, .long x3), (5, .int x5)] 0 0 (MQ below (hQ D cls0 h0 (some (.int q.1)) q.2) args s 0 0 (hF h0)) 68 [] := by
  intro z
  induction z with
  | zero => intro h x0 x1 x2 x3 x5 q hM; exact absurd (show (none : Option _) = some q from hM) (fun t => by cases t)
  | succ z ih => exact b_Mo_nameOf_68 Y ih
set_option maxHeartbeats 4000000 in
set_option maxRecDepth 100000 in
theorem w_Mo_nameOf_65 {p : Program} {l : Launch} {e : Env} {s : State} {m : MethodId} {args : Array Value} {below : List Frame} {meth : Method} {c : Code} {D : va_G} {K : (Nat → Nat) × (Nat → Nat)} {h0 : hH} (Y : HX p s m args meth c prog_14_method_5_code 6 "LicenceTextsModel" D K "nameOf" (some .int) h0) {F : Nat} (h : hH) (x0 : Nat) (x1 : Int32) (x2 : Int32) (x3 : Int64) (q : (Int32 × hH)) (hM : M_Mo_nameOf_65 F h x0 x1 x2 x3 = some q) : J p l e rm_Mo_nameOf s m args below meth c 6 D cls0 (hF h0) h [(0, .ref x0), (1, .int x1), (2, .int x2), (3, .long x3)] 0 0 (MQ below (hQ D cls0 h0 (some (.int q.1)) q.2) args s 0 0 (hF h0)) 65 [] := by
  obtain ⟨X, hr, hlk, hnm⟩ := id Y
  unfold M_Mo_nameOf_65 at hM
  refine J_iconst (pc := 65) (v := (0)) X d_Mo_nameOf_65 (by decide) ?_
  refine J_istore (pc := 66) (lv' := [(5, .int 0), (0, .ref x0), (1, .int x1), (2, .int x2), (3, .long x3)]) X d_Mo_nameOf_66 (by decide) rfl ?_
  refine J_sub [1, 2, 3, 4, 0] rfl ?_
  exact w_Mo_nameOf_68 Y F _ _ _ _ _ _ _ hM
set_option maxHeartbeats 4000000 in
set_option maxRecDepth 100000 in
theorem w_Mo_nameOf_56 {p : Program} {l : Launch} {e : Env} {s : State} {m : MethodId} {args : Array Value} {below : List Frame} {meth : Method} {c : Code} {D : va_G} {K : (Nat → Nat) × (Nat → Nat)} {h0 : hH} (Y : HX p s m args meth c prog_14_method_5_code 6 "LicenceTextsModel" D K "nameOf" (some .int) h0) {F : Nat} {r16 : hH → Nat → Int32 → Int32 → Int64 → Int32 → Option (Int32 × hH)} (R16 : ∀ (h : hH) (x0 : Nat) (x1 : Int32) (x2 : Int32) (x3 : Int64) (x5 : Int32) (q : (Int32 × hH)), r16 h x0 x1 x2 x3 x5 = some q → J p l e rm_Mo_nameOf s m args below meth c 6 D cls0 (hF h0) h [(0, .ref x0), (1, .int x1), (2, .int x2), (3, .long x3), (5, .int x5)] 0 0 (MQ below (hQ D cls0 h0 (some (.int q.1)) q.2) args s 0 0 (hF h0)) 16 []) (h : hH) (x0 : Nat) (x1 : Int32) (x2 : Int32) (x5 : Int32) (s0 : Int64) (s1 : Int32) (q : (Int32 × hH)) (hM : M_Mo_nameOf_56 F r16 h x0 x1 x2 x5 s0 s1 = some q) : J p l e rm_Mo_nameOf s m args below meth c 6 D cls0 (hF h0) h [(0, .ref x0), (1, .int x1), (2, .int x2), (5, .int x5)] 0 0 (MQ below (hQ D cls0 h0 (some (.int q.1)) q.2) args s 0 0 (hF h0)) 56 [.int s1, .long s0] := by
  obtain ⟨X, hr, hlk, hnm⟩ := id Y
  unfold M_Mo_nameOf_56 at hM
  refine J_i2l (pc := 56) X d_Mo_nameOf_56 ?_
  refine J_ladd (pc := 57) X d_Mo_nameOf_57 ?_
  refine J_lstore_n (pc := 58) (lv' := [(3, .long (s0 + s1.toInt64)), (0, .ref x0), (1, .int x1), (2, .int x2), (5, .int x5)]) X d_Mo_nameOf_58 rfl (by decide) rfl ?_
  refine J_iinc (pc := 59) (v := x5 + 1) (lv' := [(5, .int (x5 + 1)), (3, .long (s0 + s1.toInt64)), (0, .ref x0), (1, .int x1), (2, .int x2)]) X 4 d_Mo_nameOf_59 rfl rfl (by decide) rfl ?_
  refine J_goto (pc := 62) (tgt := 16) X d_Mo_nameOf_62 (by decide) ?_
  refine J_sub [2, 3, 4, 1, 0] rfl ?_
  exact R16 _ _ _ _ _ _ _ hM
set_option maxHeartbeats 4000000 in
set_option maxRecDepth 100000 in
theorem b_Mo_nameOf_16 {p : Program} {l : Launch} {e : Env} {s : State} {m : MethodId} {args : Array Value} {below : List Frame} {meth : Method} {c : Code} {D : va_G} {K : (Nat → Nat) × (Nat → Nat)} {h0 : hH} (Y : HX p s m args meth c prog_14_method_5_code 6 "LicenceTextsModel" D K "nameOf" (some .int) h0) {F : Nat}   {r16 : hH → Nat → Int32 → Int32 → Int64 → Int32 → Option (Int32 × hH)} (R16 : ∀ (h : hH) (x0 : Nat) (x1 : Int32) (x2 : Int32) (x3 : Int64) (x5 : Int32) (q : (Int32 × hH)), r16 h x0 x1 x2 x3 x5 = some q → J p l e rm_Mo_nameOf s m args below meth c 6 D cls0 (hF h0) h [(0, .ref x0), (1, .int x1), (2, .int x2), (3, .long x3), (5, .int x5)] 0 0 (MQ below (hQ D cls0 h0 (some (.int q.1)) q.2) args s 0 0 (hF h0)) 16 []) : ∀ (h : hH) (x0 : Nat) (x1 : Int32) (x2 : Int32) (x3 : Int64) (x5 : Int32) (q : (Int32 × hH)), B_Mo_nameOf_16 F r16 h x0 x1 x2 x3 x5 = some q → J p l e rm_Mo_nameOf s m args below meth c 6 D cls0 (hF h0) h [(0, .ref x0), (1, .int x1), (2, .int x2), (3, .long x3), (5, .int x5)] 0 0 (MQ below (hQ D cls0 h0 (some (.int q.1)) q.2) args s 0 0 (hF h0)) 16 [] := by
  intro h x0 x1 x2 x3 x5 q hM
  obtain ⟨X, hr, hlk, hnm⟩ := id Y
  unfold B_Mo_nameOf_16 at hM
  refine J_iload (pc := 16) X 4 d_Mo_nameOf_16 rfl ?_
  refine J_iconst (pc := 18) (v := (5)) X d_Mo_nameOf_18 (by decide) ?_
  refine J_icmp_ge (pc := 19) (tgt := 65) X d_Mo_nameOf_19 (by decide) (fun c1 => ?_) (fun c1 => ?_)
  · have hM := hif_t hM c1
    refine J_sub [0, 1, 2, 3] rfl ?_
    exact w_Mo_nameOf_65 Y _ _ _ _ _ _ hM
  · have hM := hif_f hM c1
    refine J_iload_n (pc := 22) X 2 d_Mo_nameOf_22 rfl ?_
    refine J_bipush (pc := 23) (v := (6)) X d_Mo_nameOf_23 (by decide) ?_
    refine J_icmp_ge (pc := 25) (tgt := 65) X d_Mo_nameOf_25 (by decide) (fun c2 => ?_) (fun c2 => ?_)
    · have hM := hif_t hM c2
      refine J_sub [0, 1, 2, 3] rfl ?_
      exact w_Mo_nameOf_65 Y _ _ _ _ _ _ hM
    · have hM := hif_f hM c2
      refine J_ldc2 (pc := 28) X k_512 d_Mo_nameOf_28 ?_
      refine J_lload_n (pc := 31) X 3 d_Mo_nameOf_31 rfl ?_
      refine J_lmul (pc := 32) X d_Mo_nameOf_32 ?_
      refine J_iload (pc := 33) X 4 d_Mo_nameOf_33 rfl ?_
      refine J_iload_n (pc := 35) X 2 d_Mo_nameOf_35 rfl ?_
      refine J_icmp_ge (pc := 36) (tgt := 55) X d_Mo_nameOf_36 (by decide) (fun c3 => ?_) (fun c3 => ?_)
      · have hM := hif_t hM c3
        refine J_iconst (pc := 55) (v := (0)) X d_Mo_nameOf_55 (by decide) ?_
        refine J_sub [0, 1, 2, 4] rfl ?_
        exact w_Mo_nameOf_56 Y R16 _ _ _ _ _ _ _ _ hM
      · have hM := hif_f hM c3
        refine J_aload_n (pc := 39) X 0 d_Mo_nameOf_39 rfl ?_
        obtain ⟨v4, ev4, hM⟩ := hb_some hM
        refine J_getA (pc := 40) X hc_Mo in_Mo 1 k_481 (by decide) rfl d_Mo_nameOf_40 rfl ev4 ?_
        refine J_iload_n (pc := 43) X 1 d_Mo_nameOf_43 rfl ?_
        refine J_iload (pc := 44) X 4 d_Mo_nameOf_44 rfl ?_
        refine J_iadd (pc := 46) X d_Mo_nameOf_46 ?_
        obtain ⟨v5, ev5, hM⟩ := hb_some hM
        refine J_bald (pc := 47) X d_Mo_nameOf_47 rfl ev5 ?_
        refine J_sipush (pc := 48) (v := (255)) X d_Mo_nameOf_48 (by decide) ?_
        refine J_iand (pc := 51) X d_Mo_nameOf_51 ?_
        refine J_goto (pc := 52) (tgt := 56) X d_Mo_nameOf_52 (by decide) ?_
        refine J_sub [0, 1, 2, 4] rfl ?_
        exact w_Mo_nameOf_56 Y R16 _ _ _ _ _ _ _ _ hM
theorem w_Mo_nameOf_16 {p : Program} {l : Launch} {e : Env} {s : State} {m : MethodId} {args : Array Value} {below : List Frame} {meth : Method} {c : Code} {D : va_G} {K : (Nat → Nat) × (Nat → Nat)} {h0 : hH} (Y : HX p s m args meth c prog_14_method_5_code 6 "LicenceTextsModel" D K "nameOf" (some .int) h0) {F : Nat} : ∀ z : Nat, ∀ (h : hH) (x0 : Nat) (x1 : Int32) (x2 : Int32) (x3 : Int64) (x5 : Int32) (q : (Int32 × hH)), M_Mo_nameOf_16 F z h x0 x1 x2 x3 x5 = some q → J p l e rm_Mo_nameOf s m args below meth c 6 D cls0 (hF h0) h [(0, .ref x0), (1, .int x1), (2, .int x2), (3, .long x3), (5, .int x5)] 0 0 (MQ below (hQ D cls0 h0 (some (.int q.1)) q.2) args s 0 0 (hF h0)) 16 [] := by
  intro z
  induction z with
  | zero => intro h x0 x1 x2 x3 x5 q hM; exact absurd (show (none : Option _) = some q from hM) (fun t => by cases t)
  | succ z ih => exact b_Mo_nameOf_16 Y ih
set_option maxHeartbeats 4000000 in
set_option maxRecDepth 100000 in
theorem w_Mo_nameOf_12 {p : Program} {l : Launch} {e : Env} {s : State} {m : MethodId} {args : Array Value} {below : List Frame} {meth : Method} {c : Code} {D : va_G} {K : (Nat → Nat) × (Nat → Nat)} {h0 : hH} (Y : HX p s m args meth c prog_14_method_5_code 6 "LicenceTextsModel" D K "nameOf" (some .int) h0) {F : Nat} (h : hH) (x0 : Nat) (x1 : Int32) (x2 : Int32) (s0 : Int64) (q : (Int32 × hH)) (hM : M_Mo_nameOf_12 F h x0 x1 x2 s0 = some q) : J p l e rm_Mo_nameOf s m args below meth c 6 D cls0 (hF h0) h [(0, .ref x0), (1, .int x1), (2, .int x2)] 0 0 (MQ below (hQ D cls0 h0 (some (.int q.1)) q.2) args s 0 0 (hF h0)) 12 [.long s0] := by
  obtain ⟨X, hr, hlk, hnm⟩ := id Y
  unfold M_Mo_nameOf_12 at hM
  refine J_lstore_n (pc := 12) (lv' := [(3, .long s0), (0, .ref x0), (1, .int x1), (2, .int x2)]) X d_Mo_nameOf_12 rfl (by decide) rfl ?_
  refine J_iconst (pc := 13) (v := (0)) X d_Mo_nameOf_13 (by decide) ?_
  refine J_istore (pc := 14) (lv' := [(5, .int 0), (3, .long s0), (0, .ref x0), (1, .int x1), (2, .int x2)]) X d_Mo_nameOf_14 (by decide) rfl ?_
  refine J_sub [2, 3, 4, 1, 0] rfl ?_
  exact w_Mo_nameOf_16 Y F _ _ _ _ _ _ _ hM
set_option maxHeartbeats 4000000 in
set_option maxRecDepth 100000 in
theorem c_Mo_nameOf (l : Launch) (D : va_G) (K : (Nat → Nat) × (Nat → Nat)) (F : Nat) {h : hH} {x0 : Nat} {x1 : Int32} {x2 : Int32} {q : (Int32 × hH)} (hM : M_Mo_nameOf F h x0 x1 x2 = some q) : Met l y_Mo_nameOf (.code y_Mo_nameOf prog_14_method_5_code 6 (some .int) :: T0) rm_Mo_nameOf (hPc hG D cls0 K [.ref x0, .int x1, .int x2] h) (hQ D cls0 h (some (.int q.1)) q.2) 0 0 (hF h) := by
  refine J_met (lv := [(0, .ref x0), (1, .int x1), (2, .int x2)]) (by decide) (Nat.le_of_ble_eq_true rfl) rfl ?_
  intro p e s m below meth c X hr hlk hnm
  have Y : HX p s m _ meth c prog_14_method_5_code 6 "LicenceTextsModel" D K "nameOf" (some .int) h := ⟨X, hr, hlk, hnm⟩
  unfold M_Mo_nameOf at hM
  refine J_iload_n (pc := 0) X 2 d_Mo_nameOf_0 rfl ?_
  refine J_iconst (pc := 1) (v := (5)) X d_Mo_nameOf_1 (by decide) ?_
  refine J_icmp_le (pc := 2) (tgt := 11) X d_Mo_nameOf_2 (by decide) (fun c1 => ?_) (fun c1 => ?_)
  · have hM := hif_t hM c1
    refine J_lconst (pc := 11) (v := (0)) X d_Mo_nameOf_11 (by decide) ?_
    exact w_Mo_nameOf_12 Y _ _ _ _ _ _ hM
  · have hM := hif_f hM c1
    refine J_ldc2 (pc := 5) X k_517 d_Mo_nameOf_5 ?_
    refine J_goto (pc := 8) (tgt := 12) X d_Mo_nameOf_8 (by decide) ?_
    exact w_Mo_nameOf_12 Y _ _ _ _ _ _ hM
abbrev rm_Mo_wordOf : Room := { frames := 2, cells := 0, slots := 0, locals := 49 }
set_option maxHeartbeats 4000000 in
set_option maxRecDepth 100000 in
theorem w_Mo_wordOf_141 {p : Program} {l : Launch} {e : Env} {s : State} {m : MethodId} {args : Array Value} {below : List Frame} {meth : Method} {c : Code} {D : va_G} {K : (Nat → Nat) × (Nat → Nat)} {h0 : hH} (Y : HX p s m args meth c prog_14_method_6_code 6 "LicenceTextsModel" D K "wordOf" (some .int) h0) {F : Nat} (h : hH) (x0 : Nat) (x1 : Int32) (x2 : Int32) (s0 : Int32) (q : (Int32 × hH)) (hM : M_Mo_wordOf_141 F h x0 x1 x2 s0 = some q) : J p l e rm_Mo_wordOf s m args below meth c 6 D cls0 (hF h0) h [(0, .ref x0), (1, .int x1), (2, .int x2)] 0 0 (MQ below (hQ D cls0 h0 (some (.int q.1)) q.2) args s 0 0 (hF h0)) 141 [.int s0] := by
  obtain ⟨X, hr, hlk, hnm⟩ := id Y
  unfold M_Mo_wordOf_141 at hM
  refine J_istore (pc := 141) (lv' := [(5, .int s0), (0, .ref x0), (1, .int x1), (2, .int x2)]) X d_Mo_wordOf_141 (by decide) rfl ?_
  refine J_iload (pc := 143) X 0 d_Mo_wordOf_143 rfl ?_
  by_cases c1 : s0 = 37
  · have hM := hif_t hM c1
    refine J_lookup (pc := 145) (off := 125) (tgt := 270) X d_Mo_wordOf_145 (by decide) (by rw [c1]; rfl) (by decide) ?_
    refine J_bipush (pc := 270) (v := (-14)) X d_Mo_wordOf_270 (by decide) ?_
    obtain rfl := Option.some.inj hM
    exact J_iret (pc := 272) X hr hlk (Nat.le_of_ble_eq_true rfl) (Nat.le_of_ble_eq_true rfl) d_Mo_wordOf_272
  · have hM := hif_f hM c1
    by_cases c2 : s0 = 40
    · have hM := hif_t hM c2
      refine J_lookup (pc := 145) (off := 107) (tgt := 252) X d_Mo_wordOf_145 (by decide) (by rw [c2]; rfl) (by decide) ?_
      refine J_bipush (pc := 252) (v := (-8)) X d_Mo_wordOf_252 (by decide) ?_
      obtain rfl := Option.some.inj hM
      exact J_iret (pc := 254) X hr hlk (Nat.le_of_ble_eq_true rfl) (Nat.le_of_ble_eq_true rfl) d_Mo_wordOf_254
    · have hM := hif_f hM c2
      by_cases c3 : s0 = 41
      · have hM := hif_t hM c3
        refine J_lookup (pc := 145) (off := 110) (tgt := 255) X d_Mo_wordOf_145 (by decide) (by rw [c3]; rfl) (by decide) ?_
        refine J_bipush (pc := 255) (v := (-9)) X d_Mo_wordOf_255 (by decide) ?_
        obtain rfl := Option.some.inj hM
        exact J_iret (pc := 257) X hr hlk (Nat.le_of_ble_eq_true rfl) (Nat.le_of_ble_eq_true rfl) d_Mo_wordOf_257
      · have hM := hif_f hM c3
        by_cases c4 : s0 = 42
        · have hM := hif_t hM c4
          refine J_lookup (pc := 145) (off := 119) (tgt := 264) X d_Mo_wordOf_145 (by decide) (by rw [c4]; rfl) (by decide) ?_
          refine J_bipush (pc := 264) (v := (-12)) X d_Mo_wordOf_264 (by decide) ?_
          obtain rfl := Option.some.inj hM
          exact J_iret (pc := 266) X hr hlk (Nat.le_of_ble_eq_true rfl) (Nat.le_of_ble_eq_true rfl) d_Mo_wordOf_266
        · have hM := hif_f hM c4
          by_cases c5 : s0 = 43
          · have hM := hif_t hM c5
            refine J_lookup (pc := 145) (off := 113) (tgt := 258) X d_Mo_wordOf_145 (by decide) (by rw [c5]; rfl) (by decide) ?_
            refine J_bipush (pc := 258) (v := (-10)) X d_Mo_wordOf_258 (by decide) ?_
            obtain rfl := Option.some.inj hM
            exact J_iret (pc := 260) X hr hlk (Nat.le_of_ble_eq_true rfl) (Nat.le_of_ble_eq_true rfl) d_Mo_wordOf_260
          · have hM := hif_f hM c5
            by_cases c6 : s0 = 45
            · have hM := hif_t hM c6
              refine J_lookup (pc := 145) (off := 116) (tgt := 261) X d_Mo_wordOf_145 (by decide) (by rw [c6]; rfl) (by decide) ?_
              refine J_bipush (pc := 261) (v := (-11)) X d_Mo_wordOf_261 (by decide) ?_
              obtain rfl := Option.some.inj hM
              exact J_iret (pc := 263) X hr hlk (Nat.le_of_ble_eq_true rfl) (Nat.le_of_ble_eq_true rfl) d_Mo_wordOf_263
            · have hM := hif_f hM c6
              by_cases c7 : s0 = 47
              · have hM := hif_t hM c7
                refine J_lookup (pc := 145) (off := 122) (tgt := 267) X d_Mo_wordOf_145 (by decide) (by rw [c7]; rfl) (by decide) ?_
                refine J_bipush (pc := 267) (v := (-13)) X d_Mo_wordOf_267 (by decide) ?_
                obtain rfl := Option.some.inj hM
                exact J_iret (pc := 269) X hr hlk (Nat.le_of_ble_eq_true rfl) (Nat.le_of_ble_eq_true rfl) d_Mo_wordOf_269
              · have hM := hif_f hM c7
                by_cases c8 : s0 = 59
                · have hM := hif_t hM c8
                  refine J_lookup (pc := 145) (off := 140) (tgt := 285) X d_Mo_wordOf_145 (by decide) (by rw [c8]; rfl) (by decide) ?_
                  refine J_bipush (pc := 285) (v := (-19)) X d_Mo_wordOf_285 (by decide) ?_
                  obtain rfl := Option.some.inj hM
                  exact J_iret (pc := 287) X hr hlk (Nat.le_of_ble_eq_true rfl) (Nat.le_of_ble_eq_true rfl) d_Mo_wordOf_287
                · have hM := hif_f hM c8
                  by_cases c9 : s0 = 60
                  · have hM := hif_t hM c9
                    refine J_lookup (pc := 145) (off := 128) (tgt := 273) X d_Mo_wordOf_145 (by decide) (by rw [c9]; rfl) (by decide) ?_
                    refine J_bipush (pc := 273) (v := (-15)) X d_Mo_wordOf_273 (by decide) ?_
                    obtain rfl := Option.some.inj hM
                    exact J_iret (pc := 275) X hr hlk (Nat.le_of_ble_eq_true rfl) (Nat.le_of_ble_eq_true rfl) d_Mo_wordOf_275
                  · have hM := hif_f hM c9
                    by_cases c10 : s0 = 61
                    · have hM := hif_t hM c10
                      refine J_lookup (pc := 145) (off := 134) (tgt := 279) X d_Mo_wordOf_145 (by decide) (by rw [c10]; rfl) (by decide) ?_
                      refine J_bipush (pc := 279) (v := (-17)) X d_Mo_wordOf_279 (by decide) ?_
                      obtain rfl := Option.some.inj hM
                      exact J_iret (pc := 281) X hr hlk (Nat.le_of_ble_eq_true rfl) (Nat.le_of_ble_eq_true rfl) d_Mo_wordOf_281
                    · have hM := hif_f hM c10
                      by_cases c11 : s0 = 303
                      · have hM := hif_t hM c11
                        refine J_lookup (pc := 145) (off := 137) (tgt := 282) X d_Mo_wordOf_145 (by decide) (by rw [c11]; rfl) (by decide) ?_
                        refine J_bipush (pc := 282) (v := (-18)) X d_Mo_wordOf_282 (by decide) ?_
                        obtain rfl := Option.some.inj hM
                        exact J_iret (pc := 284) X hr hlk (Nat.le_of_ble_eq_true rfl) (Nat.le_of_ble_eq_true rfl) d_Mo_wordOf_284
                      · have hM := hif_f hM c11
                        by_cases c12 : s0 = 316
                        · have hM := hif_t hM c12
                          refine J_lookup (pc := 145) (off := 131) (tgt := 276) X d_Mo_wordOf_145 (by decide) (by rw [c12]; rfl) (by decide) ?_
                          refine J_bipush (pc := 276) (v := (-16)) X d_Mo_wordOf_276 (by decide) ?_
                          obtain rfl := Option.some.inj hM
                          exact J_iret (pc := 278) X hr hlk (Nat.le_of_ble_eq_true rfl) (Nat.le_of_ble_eq_true rfl) d_Mo_wordOf_278
                        · have hM := hif_f hM c12
                          refine J_lookup (pc := 145) (off := 143) (tgt := 288) X d_Mo_wordOf_145 (by decide) (by rw [lv_osw c1 (a := 37) (by decide), lv_osw c2 (a := 40) (by decide), lv_osw c3 (a := 41) (by decide), lv_osw c4 (a := 42) (by decide), lv_osw c5 (a := 43) (by decide), lv_osw c6 (a := 45) (by decide), lv_osw c7 (a := 47) (by decide), lv_osw c8 (a := 59) (by decide), lv_osw c9 (a := 60) (by decide), lv_osw c10 (a := 61) (by decide), lv_osw c11 (a := 303) (by decide), lv_osw c12 (a := 316) (by decide)]; rfl) (by decide) ?_
                          refine J_aload_n (pc := 288) X 1 d_Mo_wordOf_288 rfl ?_
                          refine J_iload_n (pc := 289) X 2 d_Mo_wordOf_289 rfl ?_
                          refine J_iload_n (pc := 290) X 3 d_Mo_wordOf_290 rfl ?_
                          obtain ⟨u13, eu13, hM⟩ := hb_some hM
                          obtain ⟨q14, eq14, hM⟩ := hb_some hM
                          refine J_callV (pc := 291) (As := [.int x1, .int x2]) (rest := []) (o := (some (.int q14.1))) (h2 := q14.2) X rfl hc_Mo eu13 (c_Mo_nameOf l D K F eq14) (cwV_of (nA := 2) X.fix k_518 k_520 k_521 k_515 k_519 ⟨rfl, rfl, rfl⟩ (by decide +kernel) ⟨Nat.le_of_ble_eq_true rfl, Nat.le_of_ble_eq_true rfl⟩) d_Mo_wordOf_291 rfl rfl (Nat.le_of_ble_eq_true rfl) (Nat.le_of_ble_eq_true rfl) (Nat.le_of_ble_eq_true rfl) ?_
                          obtain rfl := Option.some.inj hM
                          exact J_iret (pc := 294) X hr hlk (Nat.le_of_ble_eq_true rfl) (Nat.le_of_ble_eq_true rfl) d_Mo_wordOf_294
set_option maxHeartbeats 4000000 in
set_option maxRecDepth 100000 in
theorem w_Mo_wordOf_140 {p : Program} {l : Launch} {e : Env} {s : State} {m : MethodId} {args : Array Value} {below : List Frame} {meth : Method} {c : Code} {D : va_G} {K : (Nat → Nat) × (Nat → Nat)} {h0 : hH} (Y : HX p s m args meth c prog_14_method_6_code 6 "LicenceTextsModel" D K "wordOf" (some .int) h0) {F : Nat} (h : hH) (x0 : Nat) (x1 : Int32) (x2 : Int32) (q : (Int32 × hH)) (hM : M_Mo_wordOf_140 F h x0 x1 x2 = some q) : J p l e rm_Mo_wordOf s m args below meth c 6 D cls0 (hF h0) h [(0, .ref x0), (1, .int x1), (2, .int x2)] 0 0 (MQ below (hQ D cls0 h0 (some (.int q.1)) q.2) args s 0 0 (hF h0)) 140 [] := by
  obtain ⟨X, hr, hlk, hnm⟩ := id Y
  unfold M_Mo_wordOf_140 at hM
  refine J_iconst (pc := 140) (v := (0)) X d_Mo_wordOf_140 (by decide) ?_
  exact w_Mo_wordOf_141 Y _ _ _ _ _ _ hM
set_option maxHeartbeats 4000000 in
set_option maxRecDepth 100000 in
theorem w_Mo_wordOf_88 {p : Program} {l : Launch} {e : Env} {s : State} {m : MethodId} {args : Array Value} {below : List Frame} {meth : Method} {c : Code} {D : va_G} {K : (Nat → Nat) × (Nat → Nat)} {h0 : hH} (Y : HX p s m args meth c prog_14_method_6_code 6 "LicenceTextsModel" D K "wordOf" (some .int) h0) {F : Nat} (h : hH) (x0 : Nat) (x1 : Int32) (x2 : Int32) (x3 : Int32) (x4 : Int32) (q : (Int32 × hH)) (hM : M_Mo_wordOf_88 F h x0 x1 x2 x3 x4 = some q) : J p l e rm_Mo_wordOf s m args below meth c 6 D cls0 (hF h0) h [(0, .ref x0), (1, .int x1), (2, .int x2), (3, .int x3), (4, .int x4)] 0 0 (MQ below (hQ D cls0 h0 (some (.int q.1)) q.2) args s 0 0 (hF h0)) 88 [] := by
  obtain ⟨X, hr, hlk, hnm⟩ := id Y
  unfold M_Mo_wordOf_88 at hM
  refine J_iload_n (pc := 88) X 3 d_Mo_wordOf_88 rfl ?_
  refine J_if_eq (pc := 89) (tgt := 95) X d_Mo_wordOf_89 (by decide) (fun c1 => ?_) (fun c1 => ?_)
  · have hM := hif_t hM c1
    refine J_iload_n (pc := 95) X 2 d_Mo_wordOf_95 rfl ?_
    refine J_iconst (pc := 96) (v := (1)) X d_Mo_wordOf_96 (by decide) ?_
    refine J_icmp_ne (pc := 97) (tgt := 109) X d_Mo_wordOf_97 (by decide) (fun c2 => ?_) (fun c2 => ?_)
    · have hM := hif_f hM c2
      refine J_iload_n (pc := 109) X 2 d_Mo_wordOf_109 rfl ?_
      refine J_iconst (pc := 110) (v := (2)) X d_Mo_wordOf_110 (by decide) ?_
      refine J_icmp_ne (pc := 111) (tgt := 140) X d_Mo_wordOf_111 (by decide) (fun c3 => ?_) (fun c3 => ?_)
      · have hM := hif_f hM c3
        refine J_sub [0, 1, 2] rfl ?_
        exact w_Mo_wordOf_140 Y _ _ _ _ _ hM
      · have hM := hif_t hM c3
        refine J_aload_n (pc := 114) X 0 d_Mo_wordOf_114 rfl ?_
        obtain ⟨v4, ev4, hM⟩ := hb_some hM
        refine J_getA (pc := 115) X hc_Mo in_Mo 1 k_481 (by decide) rfl d_Mo_wordOf_115 rfl ev4 ?_
        refine J_iload_n (pc := 118) X 1 d_Mo_wordOf_118 rfl ?_
        refine J_iconst (pc := 119) (v := (1)) X d_Mo_wordOf_119 (by decide) ?_
        refine J_iadd (pc := 120) X d_Mo_wordOf_120 ?_
        obtain ⟨v5, ev5, hM⟩ := hb_some hM
        refine J_bald (pc := 121) X d_Mo_wordOf_121 rfl ev5 ?_
        refine J_bipush (pc := 122) (v := (61)) X d_Mo_wordOf_122 (by decide) ?_
        refine J_icmp_ne (pc := 124) (tgt := 140) X d_Mo_wordOf_124 (by decide) (fun c6 => ?_) (fun c6 => ?_)
        · have hM := hif_f hM c6
          refine J_sub [0, 1, 2] rfl ?_
          exact w_Mo_wordOf_140 Y _ _ _ _ _ hM
        · have hM := hif_t hM c6
          refine J_sipush (pc := 127) (v := (256)) X d_Mo_wordOf_127 (by decide) ?_
          refine J_aload_n (pc := 130) X 0 d_Mo_wordOf_130 rfl ?_
          obtain ⟨v7, ev7, hM⟩ := hb_some hM
          refine J_getA (pc := 131) X hc_Mo in_Mo 1 k_481 (by decide) rfl d_Mo_wordOf_131 rfl ev7 ?_
          refine J_iload_n (pc := 134) X 1 d_Mo_wordOf_134 rfl ?_
          obtain ⟨v8, ev8, hM⟩ := hb_some hM
          refine J_bald (pc := 135) X d_Mo_wordOf_135 rfl ev8 ?_
          refine J_iadd (pc := 136) X d_Mo_wordOf_136 ?_
          refine J_goto (pc := 137) (tgt := 141) X d_Mo_wordOf_137 (by decide) ?_
          refine J_sub [0, 1, 2] rfl ?_
          exact w_Mo_wordOf_141 Y _ _ _ _ _ _ hM
    · have hM := hif_t hM c2
      refine J_aload_n (pc := 100) X 0 d_Mo_wordOf_100 rfl ?_
      obtain ⟨v9, ev9, hM⟩ := hb_some hM
      refine J_getA (pc := 101) X hc_Mo in_Mo 1 k_481 (by decide) rfl d_Mo_wordOf_101 rfl ev9 ?_
      refine J_iload_n (pc := 104) X 1 d_Mo_wordOf_104 rfl ?_
      obtain ⟨v10, ev10, hM⟩ := hb_some hM
      refine J_bald (pc := 105) X d_Mo_wordOf_105 rfl ev10 ?_
      refine J_goto (pc := 106) (tgt := 141) X d_Mo_wordOf_106 (by decide) ?_
      refine J_sub [0, 1, 2] rfl ?_
      exact w_Mo_wordOf_141 Y _ _ _ _ _ _ hM
  · have hM := hif_f hM c1
    refine J_iload (pc := 92) X 4 d_Mo_wordOf_92 rfl ?_
    obtain rfl := Option.some.inj hM
    exact J_iret (pc := 94) X hr hlk (Nat.le_of_ble_eq_true rfl) (Nat.le_of_ble_eq_true rfl) d_Mo_wordOf_94
set_option maxHeartbeats 4000000 in
set_option maxRecDepth 100000 in
theorem w_Mo_wordOf_61 {p : Program} {l : Launch} {e : Env} {s : State} {m : MethodId} {args : Array Value} {below : List Frame} {meth : Method} {c : Code} {D : va_G} {K : (Nat → Nat) × (Nat → Nat)} {h0 : hH} (Y : HX p s m args meth c prog_14_method_6_code 6 "LicenceTextsModel" D K "wordOf" (some .int) h0) {F : Nat} {r18 : hH → Nat → Int32 → Int32 → Int32 → Int32 → Int32 → Option (Int32 × hH)} (R18 : ∀ (h : hH) (x0 : Nat) (x1 : Int32) (x2 : Int32) (x3 : Int32) (x4 : Int32) (x5 : Int32) (q : (Int32 × hH)), r18 h x0 x1 x2 x3 x4 x5 = some q → J p l e rm_Mo_wordOf s m args below meth c 6 D cls0 (hF h0) h [(0, .ref x0), (1, .int x1), (2, .int x2), (3, .int x3), (4, .int x4), (5, .int x5)] 0 0 (MQ below (hQ D cls0 h0 (some (.int q.1)) q.2) args s 0 0 (hF h0)) 18 []) (h : hH) (x0 : Nat) (x1 : Int32) (x2 : Int32) (x4 : Int32) (x5 : Int32) (s0 : Int32) (q : (Int32 × hH)) (hM : M_Mo_wordOf_61 F r18 h x0 x1 x2 x4 x5 s0 = some q) : J p l e rm_Mo_wordOf s m args below meth c 6 D cls0 (hF h0) h [(0, .ref x0), (1, .int x1), (2, .int x2), (4, .int x4), (5, .int x5)] 0 0 (MQ below (hQ D cls0 h0 (some (.int q.1)) q.2) args s 0 0 (hF h0)) 61 [.int s0] := by
  obtain ⟨X, hr, hlk, hnm⟩ := id Y
  unfold M_Mo_wordOf_61 at hM
  refine J_istore_n (pc := 61) (lv' := [(3, .int s0), (0, .ref x0), (1, .int x1), (2, .int x2), (4, .int x4), (5, .int x5)]) X d_Mo_wordOf_61 rfl (by decide) rfl ?_
  refine J_bipush (pc := 62) (v := (10)) X d_Mo_wordOf_62 (by decide) ?_
  refine J_iload (pc := 64) X 4 d_Mo_wordOf_64 rfl ?_
  refine J_imul (pc := 66) X d_Mo_wordOf_66 ?_
  refine J_aload_n (pc := 67) X 1 d_Mo_wordOf_67 rfl ?_
  obtain ⟨v1, ev1, hM⟩ := hb_some hM
  refine J_getA (pc := 68) X hc_Mo in_Mo 1 k_481 (by decide) rfl d_Mo_wordOf_68 rfl ev1 ?_
  refine J_iload_n (pc := 71) X 2 d_Mo_wordOf_71 rfl ?_
  refine J_iload (pc := 72) X 5 d_Mo_wordOf_72 rfl ?_
  refine J_iadd (pc := 74) X d_Mo_wordOf_74 ?_
  obtain ⟨v2, ev2, hM⟩ := hb_some hM
  refine J_bald (pc := 75) X d_Mo_wordOf_75 rfl ev2 ?_
  refine J_iadd (pc := 76) X d_Mo_wordOf_76 ?_
  refine J_bipush (pc := 77) (v := (48)) X d_Mo_wordOf_77 (by decide) ?_
  refine J_isub (pc := 79) X d_Mo_wordOf_79 ?_
  refine J_istore (pc := 80) (lv' := [(4, .int (((10 * x4) + v2) - 48)), (3, .int s0), (0, .ref x0), (1, .int x1), (2, .int x2), (5, .int x5)]) X d_Mo_wordOf_80 (by decide) rfl ?_
  refine J_iinc (pc := 82) (v := x5 + 1) (lv' := [(5, .int (x5 + 1)), (4, .int (((10 * x4) + v2) - 48)), (3, .int s0), (0, .ref x0), (1, .int x1), (2, .int x2)]) X 5 d_Mo_wordOf_82 rfl rfl (by decide) rfl ?_
  refine J_goto (pc := 85) (tgt := 18) X d_Mo_wordOf_85 (by decide) ?_
  refine J_sub [3, 4, 5, 2, 1, 0] rfl ?_
  exact R18 _ _ _ _ _ _ _ _ hM
set_option maxHeartbeats 4000000 in
set_option maxRecDepth 100000 in
theorem w_Mo_wordOf_60 {p : Program} {l : Launch} {e : Env} {s : State} {m : MethodId} {args : Array Value} {below : List Frame} {meth : Method} {c : Code} {D : va_G} {K : (Nat → Nat) × (Nat → Nat)} {h0 : hH} (Y : HX p s m args meth c prog_14_method_6_code 6 "LicenceTextsModel" D K "wordOf" (some .int) h0) {F : Nat} {r18 : hH → Nat → Int32 → Int32 → Int32 → Int32 → Int32 → Option (Int32 × hH)} (R18 : ∀ (h : hH) (x0 : Nat) (x1 : Int32) (x2 : Int32) (x3 : Int32) (x4 : Int32) (x5 : Int32) (q : (Int32 × hH)), r18 h x0 x1 x2 x3 x4 x5 = some q → J p l e rm_Mo_wordOf s m args below meth c 6 D cls0 (hF h0) h [(0, .ref x0), (1, .int x1), (2, .int x2), (3, .int x3), (4, .int x4), (5, .int x5)] 0 0 (MQ below (hQ D cls0 h0 (some (.int q.1)) q.2) args s 0 0 (hF h0)) 18 []) (h : hH) (x0 : Nat) (x1 : Int32) (x2 : Int32) (x4 : Int32) (x5 : Int32) (q : (Int32 × hH)) (hM : M_Mo_wordOf_60 F r18 h x0 x1 x2 x4 x5 = some q) : J p l e rm_Mo_wordOf s m args below meth c 6 D cls0 (hF h0) h [(0, .ref x0), (1, .int x1), (2, .int x2), (4, .int x4), (5, .int x5)] 0 0 (MQ below (hQ D cls0 h0 (some (.int q.1)) q.2) args s 0 0 (hF h0)) 60 [] := by
  obtain ⟨X, hr, hlk, hnm⟩ := id Y
  unfold M_Mo_wordOf_60 at hM
  refine J_iconst (pc := 60) (v := (0)) X d_Mo_wordOf_60 (by decide) ?_
  exact w_Mo_wordOf_61 Y R18 _ _ _ _ _ _ _ _ hM
set_option maxHeartbeats 4000000 in
set_option maxRecDepth 100000 in
theorem b_Mo_wordOf_18 {p : Program} {l : Launch} {e : Env} {s : State} {m : MethodId} {args : Array Value} {below : List Frame} {meth : Method} {c : Code} {D : va_G} {K : (Nat → Nat) × (Nat → Nat)} {h0 : hH} (Y : HX p s m args meth c prog_14_method_6_code 6 "LicenceTextsModel" D K "wordOf" (some .int) h0) {F : Nat}   {r18 : hH → Nat → Int32 → Int32 → Int32 → Int32 → Int32 → Option (Int32 × hH)} (R18 : ∀ (h : hH) (x0 : Nat) (x1 : Int32) (x2 : Int32) (x3 : Int32) (x4 : Int32) (x5 : Int32) (q : (Int32 × hH)), r18 h x0 x1 x2 x3 x4 x5 = some q → J p l e rm_Mo_wordOf s m args below meth c 6 D cls0 (hF h0) h [(0, .ref x0), (1, .int x1), (2, .int x2), (3, .int x3), (4, .int x4), (5, .int x5)] 0 0 (MQ below (hQ D cls0 h0 (some (.int q.1)) q.2) args s 0 0 (hF h0)) 18 []) : ∀ (h : hH) (x0 : Nat) (x1 : Int32) (x2 : Int32) (x3 : Int32) (x4 : Int32) (x5 : Int32) (q : (Int32 × hH)), B_Mo_wordOf_18 F r18 h x0 x1 x2 x3 x4 x5 = some q → J p l e rm_Mo_wordOf s m args below meth c 6 D cls0 (hF h0) h [(0, .ref x0), (1, .int x1), (2, .int x2), (3, .int x3), (4, .int x4), (5, .int x5)] 0 0 (MQ below (hQ D cls0 h0 (some (.int q.1)) q.2) args s 0 0 (hF h0)) 18 [] := by
  intro h x0 x1 x2 x3 x4 x5 q hM
  obtain ⟨X, hr, hlk, hnm⟩ := id Y
  unfold B_Mo_wordOf_18 at hM
  refine J_iload (pc := 18) X 5 d_Mo_wordOf_18 rfl ?_
  refine J_iload_n (pc := 20) X 2 d_Mo_wordOf_20 rfl ?_
  refine J_icmp_ge (pc := 21) (tgt := 88) X d_Mo_wordOf_21 (by decide) (fun c1 => ?_) (fun c1 => ?_)
  · have hM := hif_t hM c1
    refine J_sub [0, 1, 2, 3, 4] rfl ?_
    exact w_Mo_wordOf_88 Y _ _ _ _ _ _ _ hM
  · have hM := hif_f hM c1
    refine J_iload_n (pc := 24) X 3 d_Mo_wordOf_24 rfl ?_
    refine J_if_eq (pc := 25) (tgt := 88) X d_Mo_wordOf_25 (by decide) (fun c2 => ?_) (fun c2 => ?_)
    · have hM := hif_t hM c2
      refine J_sub [0, 1, 2, 3, 4] rfl ?_
      exact w_Mo_wordOf_88 Y _ _ _ _ _ _ _ hM
    · have hM := hif_f hM c2
      refine J_aload_n (pc := 28) X 0 d_Mo_wordOf_28 rfl ?_
      obtain ⟨v3, ev3, hM⟩ := hb_some hM
      refine J_getA (pc := 29) X hc_Mo in_Mo 1 k_481 (by decide) rfl d_Mo_wordOf_29 rfl ev3 ?_
      refine J_iload_n (pc := 32) X 1 d_Mo_wordOf_32 rfl ?_
      refine J_iload (pc := 33) X 5 d_Mo_wordOf_33 rfl ?_
      refine J_iadd (pc := 35) X d_Mo_wordOf_35 ?_
      obtain ⟨v4, ev4, hM⟩ := hb_some hM
      refine J_bald (pc := 36) X d_Mo_wordOf_36 rfl ev4 ?_
      refine J_bipush (pc := 37) (v := (48)) X d_Mo_wordOf_37 (by decide) ?_
      refine J_icmp_lt (pc := 39) (tgt := 60) X d_Mo_wordOf_39 (by decide) (fun c5 => ?_) (fun c5 => ?_)
      · have hM := hif_t hM c5
        refine J_sub [0, 1, 2, 4, 5] rfl ?_
        exact w_Mo_wordOf_60 Y R18 _ _ _ _ _ _ _ hM
      · have hM := hif_f hM c5
        refine J_aload_n (pc := 42) X 0 d_Mo_wordOf_42 rfl ?_
        obtain ⟨v6, ev6, hM⟩ := hb_some hM
        refine J_getA (pc := 43) X hc_Mo in_Mo 1 k_481 (by decide) rfl d_Mo_wordOf_43 rfl ev6 ?_
        refine J_iload_n (pc := 46) X 1 d_Mo_wordOf_46 rfl ?_
        refine J_iload (pc := 47) X 5 d_Mo_wordOf_47 rfl ?_
        refine J_iadd (pc := 49) X d_Mo_wordOf_49 ?_
        obtain ⟨v7, ev7, hM⟩ := hb_some hM
        refine J_bald (pc := 50) X d_Mo_wordOf_50 rfl ev7 ?_
        refine J_bipush (pc := 51) (v := (57)) X d_Mo_wordOf_51 (by decide) ?_
        refine J_icmp_gt (pc := 53) (tgt := 60) X d_Mo_wordOf_53 (by decide) (fun c8 => ?_) (fun c8 => ?_)
        · have hM := hif_t hM c8
          refine J_sub [0, 1, 2, 4, 5] rfl ?_
          exact w_Mo_wordOf_60 Y R18 _ _ _ _ _ _ _ hM
        · have hM := hif_f hM c8
          refine J_iconst (pc := 56) (v := (1)) X d_Mo_wordOf_56 (by decide) ?_
          refine J_goto (pc := 57) (tgt := 61) X d_Mo_wordOf_57 (by decide) ?_
          refine J_sub [0, 1, 2, 4, 5] rfl ?_
          exact w_Mo_wordOf_61 Y R18 _ _ _ _ _ _ _ _ hM
theorem w_Mo_wordOf_18 {p : Program} {l : Launch} {e : Env} {s : State} {m : MethodId} {args : Array Value} {below : List Frame} {meth : Method} {c : Code} {D : va_G} {K : (Nat → Nat) × (Nat → Nat)} {h0 : hH} (Y : HX p s m args meth c prog_14_method_6_code 6 "LicenceTextsModel" D K "wordOf" (some .int) h0) {F : Nat} : ∀ z : Nat, ∀ (h : hH) (x0 : Nat) (x1 : Int32) (x2 : Int32) (x3 : Int32) (x4 : Int32) (x5 : Int32) (q : (Int32 × hH)), M_Mo_wordOf_18 F z h x0 x1 x2 x3 x4 x5 = some q → J p l e rm_Mo_wordOf s m args below meth c 6 D cls0 (hF h0) h [(0, .ref x0), (1, .int x1), (2, .int x2), (3, .int x3), (4, .int x4), (5, .int x5)] 0 0 (MQ below (hQ D cls0 h0 (some (.int q.1)) q.2) args s 0 0 (hF h0)) 18 [] := by
  intro z
  induction z with
  | zero => intro h x0 x1 x2 x3 x4 x5 q hM; exact absurd (show (none : Option _) = some q from hM) (fun t => by cases t)
  | succ z ih => exact b_Mo_wordOf_18 Y ih
set_option maxHeartbeats 4000000 in
set_option maxRecDepth 100000 in
theorem w_Mo_wordOf_11 {p : Program} {l : Launch} {e : Env} {s : State} {m : MethodId} {args : Array Value} {below : List Frame} {meth : Method} {c : Code} {D : va_G} {K : (Nat → Nat) × (Nat → Nat)} {h0 : hH} (Y : HX p s m args meth c prog_14_method_6_code 6 "LicenceTextsModel" D K "wordOf" (some .int) h0) {F : Nat} (h : hH) (x0 : Nat) (x1 : Int32) (x2 : Int32) (s0 : Int32) (q : (Int32 × hH)) (hM : M_Mo_wordOf_11 F h x0 x1 x2 s0 = some q) : J p l e rm_Mo_wordOf s m args below meth c 6 D cls0 (hF h0) h [(0, .ref x0), (1, .int x1), (2, .int x2)] 0 0 (MQ below (hQ D cls0 h0 (some (.int q.1)) q.2) args s 0 0 (hF h0)) 11 [.int s0] := by
  obtain ⟨X, hr, hlk, hnm⟩ := id Y
  unfold M_Mo_wordOf_11 at hM
  refine J_istore_n (pc := 11) (lv' := [(3, .int s0), (0, .ref x0), (1, .int x1), (2, .int x2)]) X d_Mo_wordOf_11 rfl (by decide) rfl ?_
  refine J_iconst (pc := 12) (v := (0)) X d_Mo_wordOf_12 (by decide) ?_
  refine J_istore (pc := 13) (lv' := [(4, .int 0), (3, .int s0), (0, .ref x0), (1, .int x1), (2, .int x2)]) X d_Mo_wordOf_13 (by decide) rfl ?_
  refine J_iconst (pc := 15) (v := (0)) X d_Mo_wordOf_15 (by decide) ?_
  refine J_istore (pc := 16) (lv' := [(5, .int 0), (4, .int 0), (3, .int s0), (0, .ref x0), (1, .int x1), (2, .int x2)]) X d_Mo_wordOf_16 (by decide) rfl ?_
  refine J_sub [3, 4, 5, 2, 1, 0] rfl ?_
  exact w_Mo_wordOf_18 Y F _ _ _ _ _ _ _ _ hM
set_option maxHeartbeats 4000000 in
set_option maxRecDepth 100000 in
theorem c_Mo_wordOf (l : Launch) (D : va_G) (K : (Nat → Nat) × (Nat → Nat)) (F : Nat) {h : hH} {x0 : Nat} {x1 : Int32} {x2 : Int32} {q : (Int32 × hH)} (hM : M_Mo_wordOf F h x0 x1 x2 = some q) : Met l y_Mo_wordOf (.code y_Mo_wordOf prog_14_method_6_code 6 (some .int) :: T0) rm_Mo_wordOf (hPc hG D cls0 K [.ref x0, .int x1, .int x2] h) (hQ D cls0 h (some (.int q.1)) q.2) 0 0 (hF h) := by
  refine J_met (lv := [(0, .ref x0), (1, .int x1), (2, .int x2)]) (by decide) (Nat.le_of_ble_eq_true rfl) rfl ?_
  intro p e s m below meth c X hr hlk hnm
  have Y : HX p s m _ meth c prog_14_method_6_code 6 "LicenceTextsModel" D K "wordOf" (some .int) h := ⟨X, hr, hlk, hnm⟩
  unfold M_Mo_wordOf at hM
  refine J_iload_n (pc := 0) X 2 d_Mo_wordOf_0 rfl ?_
  refine J_bipush (pc := 1) (v := (10)) X d_Mo_wordOf_1 (by decide) ?_
  refine J_icmp_ge (pc := 3) (tgt := 10) X d_Mo_wordOf_3 (by decide) (fun c1 => ?_) (fun c1 => ?_)
  · have hM := hif_t hM c1
    refine J_iconst (pc := 10) (v := (0)) X d_Mo_wordOf_10 (by decide) ?_
    exact w_Mo_wordOf_11 Y _ _ _ _ _ _ hM
  · have hM := hif_f hM c1
    refine J_iconst (pc := 6) (v := (1)) X d_Mo_wordOf_6 (by decide) ?_
    refine J_goto (pc := 7) (tgt := 11) X d_Mo_wordOf_7 (by decide) ?_
    exact w_Mo_wordOf_11 Y _ _ _ _ _ _ hM
abbrev rm_Mo_isBlank : Room := { frames := 0, cells := 0, slots := 0, locals := 0 }
set_option maxHeartbeats 4000000 in
set_option maxRecDepth 100000 in
theorem c_Mo_isBlank (l : Launch) (D : va_G) (K : (Nat → Nat) × (Nat → Nat)) (F : Nat) {h : hH} {x0 : Int32} {q : (Int32 × hH)} (hM : M_Mo_isBlank F h x0 = some q) : Met l y_Mo_isBlank (.code y_Mo_isBlank prog_14_method_7_code 1 (some .boolean) :: T0) rm_Mo_isBlank (hPc hG D cls0 K [.int x0] h) (hQ D cls0 h (some (.int q.1)) q.2) 0 0 (hF h) := by
  refine J_met (lv := [(0, .int x0)]) (by decide) (Nat.le_of_ble_eq_true rfl) rfl ?_
  intro p e s m below meth c X hr hlk hnm
  have Y : HX p s m _ meth c prog_14_method_7_code 1 "LicenceTextsModel" D K "isBlank" (some .boolean) h := ⟨X, hr, hlk, hnm⟩
  unfold M_Mo_isBlank at hM
  refine J_iload_n (pc := 0) X 0 d_Mo_isBlank_0 rfl ?_
  refine J_bipush (pc := 1) (v := (32)) X d_Mo_isBlank_1 (by decide) ?_
  refine J_icmp_eq (pc := 3) (tgt := 12) X d_Mo_isBlank_3 (by decide) (fun c1 => ?_) (fun c1 => ?_)
  · have hM := hif_t hM c1
    refine J_iconst (pc := 12) (v := (1)) X d_Mo_isBlank_12 (by decide) ?_
    refine J_goto (pc := 13) (tgt := 17) X d_Mo_isBlank_13 (by decide) ?_
    obtain rfl := Option.some.inj hM
    exact J_zret (pc := 17) X hr hz1 hlk (Nat.le_of_ble_eq_true rfl) (Nat.le_of_ble_eq_true rfl) d_Mo_isBlank_17
  · have hM := hif_f hM c1
    refine J_iload_n (pc := 6) X 0 d_Mo_isBlank_6 rfl ?_
    refine J_bipush (pc := 7) (v := (10)) X d_Mo_isBlank_7 (by decide) ?_
    refine J_icmp_ne (pc := 9) (tgt := 16) X d_Mo_isBlank_9 (by decide) (fun c2 => ?_) (fun c2 => ?_)
    · have hM := hif_f hM c2
      refine J_iconst (pc := 16) (v := (0)) X d_Mo_isBlank_16 (by decide) ?_
      obtain rfl := Option.some.inj hM
      exact J_zret (pc := 17) X hr hz0 hlk (Nat.le_of_ble_eq_true rfl) (Nat.le_of_ble_eq_true rfl) d_Mo_isBlank_17
    · have hM := hif_t hM c2
      refine J_iconst (pc := 12) (v := (1)) X d_Mo_isBlank_12 (by decide) ?_
      refine J_goto (pc := 13) (tgt := 17) X d_Mo_isBlank_13 (by decide) ?_
      obtain rfl := Option.some.inj hM
      exact J_zret (pc := 17) X hr hz1 hlk (Nat.le_of_ble_eq_true rfl) (Nat.le_of_ble_eq_true rfl) d_Mo_isBlank_17
abbrev rm_Mo_split : Room := { frames := 3, cells := 0, slots := 0, locals := 74 }
set_option maxHeartbeats 4000000 in
set_option maxRecDepth 100000 in
theorem b_Mo_split_123 {p : Program} {l : Launch} {e : Env} {s : State} {m : MethodId} {args : Array Value} {below : List Frame} {meth : Method} {c : Code} {D : va_G} {K : (Nat → Nat) × (Nat → Nat)} {h0 : hH} (Y : HX p s m args meth c prog_14_method_8_code 4 "LicenceTextsModel" D K "split" none h0) {F : Nat}   {r123 : hH → Nat → Int32 → Option hH} (R123 : ∀ (h : hH) (x0 : Nat) (x3 : Int32) (q : hH), r123 h x0 x3 = some q → J p l e rm_Mo_split s m args below meth c 4 D cls0 (hF h0) h [(0, .ref x0), (3, .int x3)] 0 0 (MQ below (hQ D cls0 h0 none q) args s 0 0 (hF h0)) 123 []) : ∀ (h : hH) (x0 : Nat) (x3 : Int32) (q : hH), B_Mo_split_123 F r123 h x0 x3 = some q → J p l e rm_Mo_split s m args below meth c 4 D cls0 (hF h0) h [(0, .ref x0), (3, .int x3)] 0 0 (MQ below (hQ D cls0 h0 none q) args s 0 0 (hF h0)) 123 [] := by
  intro h x0 x3 q hM
  obtain ⟨X, hr, hlk, hnm⟩ := id Y
  unfold B_Mo_split_123 at hM
  refine J_iload_n (pc := 123) X 1 d_Mo_split_123 rfl ?_
  refine J_aload_n (pc := 124) X 0 d_Mo_split_124 rfl ?_
  obtain ⟨v1, ev1, hM⟩ := hb_some hM
  refine J_getI (pc := 125) X hc_Mo in_Mo 2 k_511 (by decide) rfl d_Mo_split_125 rfl ev1 ?_
  refine J_icmp_ge (pc := 128) (tgt := 158) X d_Mo_split_128 (by decide) (fun c2 => ?_) (fun c2 => ?_)
  · have hM := hif_t hM c2
    obtain rfl := Option.some.inj hM
    exact J_vret (pc := 158) X hr hlk (Nat.le_of_ble_eq_true rfl) (Nat.le_of_ble_eq_true rfl) d_Mo_split_158
  · have hM := hif_f hM c2
    refine J_aload_n (pc := 131) X 0 d_Mo_split_131 rfl ?_
    obtain ⟨v3, ev3, hM⟩ := hb_some hM
    refine J_getA (pc := 132) X hc_Mo in_Mo 5 k_483 (by decide) rfl d_Mo_split_132 rfl ev3 ?_
    refine J_sipush (pc := 135) (v := (800)) X d_Mo_split_135 (by decide) ?_
    refine J_aload_n (pc := 138) X 0 d_Mo_split_138 rfl ?_
    obtain ⟨v4, ev4, hM⟩ := hb_some hM
    refine J_getI (pc := 139) X hc_Mo in_Mo 22 k_522 (by decide) rfl d_Mo_split_139 rfl ev4 ?_
    refine J_imul (pc := 142) X d_Mo_split_142 ?_
    refine J_iload_n (pc := 143) X 1 d_Mo_split_143 rfl ?_
    refine J_iadd (pc := 144) X d_Mo_split_144 ?_
    refine J_aload_n (pc := 145) X 0 d_Mo_split_145 rfl ?_
    obtain ⟨v5, ev5, hM⟩ := hb_some hM
    refine J_getA (pc := 146) X hc_Mo in_Mo 1 k_481 (by decide) rfl d_Mo_split_146 rfl ev5 ?_
    refine J_iload_n (pc := 149) X 1 d_Mo_split_149 rfl ?_
    obtain ⟨v6, ev6, hM⟩ := hb_some hM
    refine J_bald (pc := 150) X d_Mo_split_150 rfl ev6 ?_
    obtain ⟨h7, eh7, hM⟩ := hb_some hM
    refine J_bast (pc := 151) X d_Mo_split_151 rfl eh7 ?_
    refine J_iinc (pc := 152) (v := x3 + 1) (lv' := [(3, .int (x3 + 1)), (0, .ref x0)]) X 1 d_Mo_split_152 rfl rfl (by decide) rfl ?_
    refine J_goto (pc := 155) (tgt := 123) X d_Mo_split_155 (by decide) ?_
    refine J_sub [1, 0] rfl ?_
    exact R123 _ _ _ _ hM
theorem w_Mo_split_123 {p : Program} {l : Launch} {e : Env} {s : State} {m : MethodId} {args : Array Value} {below : List Frame} {meth : Method} {c : Code} {D : va_G} {K : (Nat → Nat) × (Nat → Nat)} {h0 : hH} (Y : HX p s m args meth c prog_14_method_8_code 4 "LicenceTextsModel" D K "split" none h0) {F : Nat} : ∀ z : Nat, ∀ (h : hH) (x0 : Nat) (x3 : Int32) (q : hH), M_Mo_split_123 F z h x0 x3 = some q → J p l e rm_Mo_split s m args below meth c 4 D cls0 (hF h0) h [(0, .ref x0), (3, .int x3)] 0 0 (MQ below (hQ D cls0 h0 none q) args s 0 0 (hF h0)) 123 [] := by
  intro z
  induction z with
  | zero => intro h x0 x3 q hM; exact absurd (show (none : Option _) = some q from hM) (fun t => by cases t)
  | succ z ih => exact b_Mo_split_123 Y ih
set_option maxHeartbeats 4000000 in
set_option maxRecDepth 100000 in
theorem w_Mo_split_105 {p : Program} {l : Launch} {e : Env} {s : State} {m : MethodId} {args : Array Value} {below : List Frame} {meth : Method} {c : Code} {D : va_G} {K : (Nat → Nat) × (Nat → Nat)} {h0 : hH} (Y : HX p s m args meth c prog_14_method_8_code 4 "LicenceTextsModel" D K "split" none h0) {F : Nat} {r4 : hH → Nat → Int32 → Int32 → Option hH} (R4 : ∀ (h : hH) (x0 : Nat) (x1 : Int32) (x2 : Int32) (q : hH), r4 h x0 x1 x2 = some q → J p l e rm_Mo_split s m args below meth c 4 D cls0 (hF h0) h [(0, .ref x0), (1, .int x1), (2, .int x2)] 0 0 (MQ below (hQ D cls0 h0 none q) args s 0 0 (hF h0)) 4 []) (h : hH) (x0 : Nat) (x1 : Int32) (x2 : Int32) (q : hH) (hM : M_Mo_split_105 F r4 h x0 x1 x2 = some q) : J p l e rm_Mo_split s m args below meth c 4 D cls0 (hF h0) h [(0, .ref x0), (1, .int x1), (2, .int x2)] 0 0 (MQ below (hQ D cls0 h0 none q) args s 0 0 (hF h0)) 105 [] := by
  obtain ⟨X, hr, hlk, hnm⟩ := id Y
  unfold M_Mo_split_105 at hM
  refine J_iinc (pc := 105) (v := x2 + 1) (lv' := [(2, .int (x2 + 1)), (0, .ref x0), (1, .int x1)]) X 2 d_Mo_split_105 rfl rfl (by decide) rfl ?_
  refine J_goto (pc := 108) (tgt := 4) X d_Mo_split_108 (by decide) ?_
  refine J_sub [1, 2, 0] rfl ?_
  exact R4 _ _ _ _ _ hM
set_option maxHeartbeats 4000000 in
set_option maxRecDepth 100000 in
theorem w_Mo_split_40 {p : Program} {l : Launch} {e : Env} {s : State} {m : MethodId} {args : Array Value} {below : List Frame} {meth : Method} {c : Code} {D : va_G} {K : (Nat → Nat) × (Nat → Nat)} {h0 : hH} (Y : HX p s m args meth c prog_14_method_8_code 4 "LicenceTextsModel" D K "split" none h0) {F : Nat} {r4 : hH → Nat → Int32 → Int32 → Option hH} (R4 : ∀ (h : hH) (x0 : Nat) (x1 : Int32) (x2 : Int32) (q : hH), r4 h x0 x1 x2 = some q → J p l e rm_Mo_split s m args below meth c 4 D cls0 (hF h0) h [(0, .ref x0), (1, .int x1), (2, .int x2)] 0 0 (MQ below (hQ D cls0 h0 none q) args s 0 0 (hF h0)) 4 []) (h : hH) (x0 : Nat) (x1 : Int32) (x2 : Int32) (x3 : Int32) (q : hH) (hM : M_Mo_split_40 F r4 h x0 x1 x2 x3 = some q) : J p l e rm_Mo_split s m args below meth c 4 D cls0 (hF h0) h [(0, .ref x0), (1, .int x1), (2, .int x2), (3, .int x3)] 0 0 (MQ below (hQ D cls0 h0 none q) args s 0 0 (hF h0)) 40 [] := by
  obtain ⟨X, hr, hlk, hnm⟩ := id Y
  unfold M_Mo_split_40 at hM
  refine J_iload_n (pc := 40) X 2 d_Mo_split_40 rfl ?_
  refine J_iload_n (pc := 41) X 3 d_Mo_split_41 rfl ?_
  refine J_icmp_le (pc := 42) (tgt := 105) X d_Mo_split_42 (by decide) (fun c1 => ?_) (fun c1 => ?_)
  · have hM := hif_t hM c1
    refine J_sub [0, 1, 2] rfl ?_
    exact w_Mo_split_105 Y R4 _ _ _ _ _ hM
  · have hM := hif_f hM c1
    refine J_aload_n (pc := 45) X 0 d_Mo_split_45 rfl ?_
    obtain ⟨v2, ev2, hM⟩ := hb_some hM
    refine J_getA (pc := 46) X hc_Mo in_Mo 6 k_484 (by decide) rfl d_Mo_split_46 rfl ev2 ?_
    refine J_sipush (pc := 49) (v := (400)) X d_Mo_split_49 (by decide) ?_
    refine J_aload_n (pc := 52) X 0 d_Mo_split_52 rfl ?_
    obtain ⟨v3, ev3, hM⟩ := hb_some hM
    refine J_getI (pc := 53) X hc_Mo in_Mo 22 k_522 (by decide) rfl d_Mo_split_53 rfl ev3 ?_
    refine J_imul (pc := 56) X d_Mo_split_56 ?_
    refine J_iload_n (pc := 57) X 1 d_Mo_split_57 rfl ?_
    refine J_iadd (pc := 58) X d_Mo_split_58 ?_
    refine J_iload_n (pc := 59) X 3 d_Mo_split_59 rfl ?_
    obtain ⟨h4, eh4, hM⟩ := hb_some hM
    refine J_iast (pc := 60) X d_Mo_split_60 rfl eh4 ?_
    refine J_aload_n (pc := 61) X 0 d_Mo_split_61 rfl ?_
    obtain ⟨v5, ev5, hM⟩ := hb_some hM
    refine J_getA (pc := 62) X hc_Mo in_Mo 7 k_485 (by decide) rfl d_Mo_split_62 rfl ev5 ?_
    refine J_sipush (pc := 65) (v := (400)) X d_Mo_split_65 (by decide) ?_
    refine J_aload_n (pc := 68) X 0 d_Mo_split_68 rfl ?_
    obtain ⟨v6, ev6, hM⟩ := hb_some hM
    refine J_getI (pc := 69) X hc_Mo in_Mo 22 k_522 (by decide) rfl d_Mo_split_69 rfl ev6 ?_
    refine J_imul (pc := 72) X d_Mo_split_72 ?_
    refine J_iload_n (pc := 73) X 1 d_Mo_split_73 rfl ?_
    refine J_iadd (pc := 74) X d_Mo_split_74 ?_
    refine J_iload_n (pc := 75) X 2 d_Mo_split_75 rfl ?_
    refine J_iload_n (pc := 76) X 3 d_Mo_split_76 rfl ?_
    refine J_isub (pc := 77) X d_Mo_split_77 ?_
    obtain ⟨h7, eh7, hM⟩ := hb_some hM
    refine J_iast (pc := 78) X d_Mo_split_78 rfl eh7 ?_
    refine J_aload_n (pc := 79) X 0 d_Mo_split_79 rfl ?_
    obtain ⟨v8, ev8, hM⟩ := hb_some hM
    refine J_getA (pc := 80) X hc_Mo in_Mo 8 k_486 (by decide) rfl d_Mo_split_80 rfl ev8 ?_
    refine J_sipush (pc := 83) (v := (400)) X d_Mo_split_83 (by decide) ?_
    refine J_aload_n (pc := 86) X 0 d_Mo_split_86 rfl ?_
    obtain ⟨v9, ev9, hM⟩ := hb_some hM
    refine J_getI (pc := 87) X hc_Mo in_Mo 22 k_522 (by decide) rfl d_Mo_split_87 rfl ev9 ?_
    refine J_imul (pc := 90) X d_Mo_split_90 ?_
    refine J_iload_n (pc := 91) X 1 d_Mo_split_91 rfl ?_
    refine J_iadd (pc := 92) X d_Mo_split_92 ?_
    refine J_aload_n (pc := 93) X 0 d_Mo_split_93 rfl ?_
    refine J_iload_n (pc := 94) X 3 d_Mo_split_94 rfl ?_
    refine J_iload_n (pc := 95) X 2 d_Mo_split_95 rfl ?_
    refine J_iload_n (pc := 96) X 3 d_Mo_split_96 rfl ?_
    refine J_isub (pc := 97) X d_Mo_split_97 ?_
    obtain ⟨u10, eu10, hM⟩ := hb_some hM
    obtain ⟨q11, eq11, hM⟩ := hb_some hM
    refine J_callV (pc := 98) (As := [.int x3, .int (x2 - x3)]) (rest := [.int ((400 * v9) + x1), .ref v8]) (o := (some (.int q11.1))) (h2 := q11.2) X rfl hc_Mo eu10 (c_Mo_wordOf l D K F eq11) (cwV_of (nA := 2) X.fix k_523 k_525 k_526 k_515 k_524 ⟨rfl, rfl, rfl⟩ (by decide +kernel) ⟨Nat.le_of_ble_eq_true rfl, Nat.le_of_ble_eq_true rfl⟩) d_Mo_split_98 rfl rfl (Nat.le_of_ble_eq_true rfl) (Nat.le_of_ble_eq_true rfl) (Nat.le_of_ble_eq_true rfl) ?_
    obtain ⟨h12, eh12, hM⟩ := hb_some hM
    refine J_iast (pc := 101) X d_Mo_split_101 rfl eh12 ?_
    refine J_iinc (pc := 102) (v := x1 + 1) (lv' := [(1, .int (x1 + 1)), (0, .ref x0), (2, .int x2), (3, .int x3)]) X 1 d_Mo_split_102 rfl rfl (by decide) rfl ?_
    refine J_sub [1, 0, 2] rfl ?_
    exact w_Mo_split_105 Y R4 _ _ _ _ _ hM
set_option maxHeartbeats 4000000 in
set_option maxRecDepth 100000 in
theorem b_Mo_split_14 {p : Program} {l : Launch} {e : Env} {s : State} {m : MethodId} {args : Array Value} {below : List Frame} {meth : Method} {c : Code} {D : va_G} {K : (Nat → Nat) × (Nat → Nat)} {h0 : hH} (Y : HX p s m args meth c prog_14_method_8_code 4 "LicenceTextsModel" D K "split" none h0) {F : Nat}  {r4 : hH → Nat → Int32 → Int32 → Option hH}  (R4 : ∀ (h : hH) (x0 : Nat) (x1 : Int32) (x2 : Int32) (q : hH), r4 h x0 x1 x2 = some q → J p l e rm_Mo_split s m args below meth c 4 D cls0 (hF h0) h [(0, .ref x0), (1, .int x1), (2, .int x2)] 0 0 (MQ below (hQ D cls0 h0 none q) args s 0 0 (hF h0)) 4 []) {r14 : hH → Nat → Int32 → Int32 → Int32 → Option hH} (R14 : ∀ (h : hH) (x0 : Nat) (x1 : Int32) (x2 : Int32) (x3 : Int32) (q : hH), r14 h x0 x1 x2 x3 = some q → J p l e rm_Mo_split s m args below meth c 4 D cls0 (hF h0) h [(0, .ref x0), (1, .int x1), (2, .int x2), (3, .int x3)] 0 0 (MQ below (hQ D cls0 h0 none q) args s 0 0 (hF h0)) 14 []) : ∀ (h : hH) (x0 : Nat) (x1 : Int32) (x2 : Int32) (x3 : Int32) (q : hH), B_Mo_split_14 F r4 r14 h x0 x1 x2 x3 = some q → J p l e rm_Mo_split s m args below meth c 4 D cls0 (hF h0) h [(0, .ref x0), (1, .int x1), (2, .int x2), (3, .int x3)] 0 0 (MQ below (hQ D cls0 h0 none q) args s 0 0 (hF h0)) 14 [] := by
  intro h x0 x1 x2 x3 q hM
  obtain ⟨X, hr, hlk, hnm⟩ := id Y
  unfold B_Mo_split_14 at hM
  refine J_iload_n (pc := 14) X 2 d_Mo_split_14 rfl ?_
  refine J_aload_n (pc := 15) X 0 d_Mo_split_15 rfl ?_
  obtain ⟨v1, ev1, hM⟩ := hb_some hM
  refine J_getI (pc := 16) X hc_Mo in_Mo 2 k_511 (by decide) rfl d_Mo_split_16 rfl ev1 ?_
  refine J_icmp_ge (pc := 19) (tgt := 40) X d_Mo_split_19 (by decide) (fun c2 => ?_) (fun c2 => ?_)
  · have hM := hif_t hM c2
    exact w_Mo_split_40 Y R4 _ _ _ _ _ _ hM
  · have hM := hif_f hM c2
    refine J_aload_n (pc := 22) X 0 d_Mo_split_22 rfl ?_
    obtain ⟨v3, ev3, hM⟩ := hb_some hM
    refine J_getA (pc := 23) X hc_Mo in_Mo 1 k_481 (by decide) rfl d_Mo_split_23 rfl ev3 ?_
    refine J_iload_n (pc := 26) X 2 d_Mo_split_26 rfl ?_
    obtain ⟨v4, ev4, hM⟩ := hb_some hM
    refine J_bald (pc := 27) X d_Mo_split_27 rfl ev4 ?_
    obtain ⟨q5, eq5, hM⟩ := hb_some hM
    refine J_callS (pc := 28) (As := [.int v4]) (rest := []) (o := (some (.int q5.1))) (h2 := q5.2) X (c_Mo_isBlank l D K F eq5) (cwS_of (nA := 1) X.fix k_527 k_529 k_515 k_528 ⟨rfl, rfl⟩ (by decide +kernel) ⟨Nat.le_of_ble_eq_true rfl, Nat.le_of_ble_eq_true rfl⟩) d_Mo_split_28 rfl rfl (Nat.le_of_ble_eq_true rfl) (Nat.le_of_ble_eq_true rfl) (Nat.le_of_ble_eq_true rfl) ?_
    refine J_if_ne (pc := 31) (tgt := 40) X d_Mo_split_31 (by decide) (fun c6 => ?_) (fun c6 => ?_)
    · have hM := hif_f hM c6
      exact w_Mo_split_40 Y R4 _ _ _ _ _ _ hM
    · have hM := hif_t hM c6
      refine J_iinc (pc := 34) (v := x2 + 1) (lv' := [(2, .int (x2 + 1)), (0, .ref x0), (1, .int x1), (3, .int x3)]) X 2 d_Mo_split_34 rfl rfl (by decide) rfl ?_
      refine J_goto (pc := 37) (tgt := 14) X d_Mo_split_37 (by decide) ?_
      refine J_sub [1, 2, 0, 3] rfl ?_
      exact R14 _ _ _ _ _ _ hM
theorem w_Mo_split_14 {p : Program} {l : Launch} {e : Env} {s : State} {m : MethodId} {args : Array Value} {below : List Frame} {meth : Method} {c : Code} {D : va_G} {K : (Nat → Nat) × (Nat → Nat)} {h0 : hH} (Y : HX p s m args meth c prog_14_method_8_code 4 "LicenceTextsModel" D K "split" none h0) {F : Nat} {r4 : hH → Nat → Int32 → Int32 → Option hH} (R4 : ∀ (h : hH) (x0 : Nat) (x1 : Int32) (x2 : Int32) (q : hH), r4 h x0 x1 x2 = some q → J p l e rm_Mo_split s m args below meth c 4 D cls0 (hF h0) h [(0, .ref x0), (1, .int x1), (2, .int x2)] 0 0 (MQ below (hQ D cls0 h0 none q) args s 0 0 (hF h0)) 4 []) : ∀ z : Nat, ∀ (h : hH) (x0 : Nat) (x1 : Int32) (x2 : Int32) (x3 : Int32) (q : hH), M_Mo_split_14 F r4 z h x0 x1 x2 x3 = some q → J p l e rm_Mo_split s m args below meth c 4 D cls0 (hF h0) h [(0, .ref x0), (1, .int x1), (2, .int x2), (3, .int x3)] 0 0 (MQ below (hQ D cls0 h0 none q) args s 0 0 (hF h0)) 14 [] := by
  intro z
  induction z with
  | zero => intro h x0 x1 x2 x3 q hM; exact absurd (show (none : Option _) = some q from hM) (fun t => by cases t)
  | succ z ih => exact b_Mo_split_14 Y R4 ih
set_option maxHeartbeats 4000000 in
set_option maxRecDepth 100000 in
theorem b_Mo_split_4 {p : Program} {l : Launch} {e : Env} {s : State} {m : MethodId} {args : Array Value} {below : List Frame} {meth : Method} {c : Code} {D : va_G} {K : (Nat → Nat) × (Nat → Nat)} {h0 : hH} (Y : HX p s m args meth c prog_14_method_8_code 4 "LicenceTextsModel" D K "split" none h0) {F : Nat}   {r4 : hH → Nat → Int32 → Int32 → Option hH} (R4 : ∀ (h : hH) (x0 : Nat) (x1 : Int32) (x2 : Int32) (q : hH), r4 h x0 x1 x2 = some q → J p l e rm_Mo_split s m args below meth c 4 D cls0 (hF h0) h [(0, .ref x0), (1, .int x1), (2, .int x2)] 0 0 (MQ below (hQ D cls0 h0 none q) args s 0 0 (hF h0)) 4 []) : ∀ (h : hH) (x0 : Nat) (x1 : Int32) (x2 : Int32) (q : hH), B_Mo_split_4 F r4 h x0 x1 x2 = some q → J p l e rm_Mo_split s m args below meth c 4 D cls0 (hF h0) h [(0, .ref x0), (1, .int x1), (2, .int x2)] 0 0 (MQ below (hQ D cls0 h0 none q) args s 0 0 (hF h0)) 4 [] := by
  intro h x0 x1 x2 q hM
  obtain ⟨X, hr, hlk, hnm⟩ := id Y
  unfold B_Mo_split_4 at hM
  refine J_iload_n (pc := 4) X 2 d_Mo_split_4 rfl ?_
  refine J_aload_n (pc := 5) X 0 d_Mo_split_5 rfl ?_
  obtain ⟨v1, ev1, hM⟩ := hb_some hM
  refine J_getI (pc := 6) X hc_Mo in_Mo 2 k_511 (by decide) rfl d_Mo_split_6 rfl ev1 ?_
  refine J_icmp_ge (pc := 9) (tgt := 111) X d_Mo_split_9 (by decide) (fun c2 => ?_) (fun c2 => ?_)
  · have hM := hif_t hM c2
    refine J_aload_n (pc := 111) X 0 d_Mo_split_111 rfl ?_
    obtain ⟨v3, ev3, hM⟩ := hb_some hM
    refine J_getA (pc := 112) X hc_Mo in_Mo 9 k_487 (by decide) rfl d_Mo_split_112 rfl ev3 ?_
    refine J_aload_n (pc := 115) X 0 d_Mo_split_115 rfl ?_
    obtain ⟨v4, ev4, hM⟩ := hb_some hM
    refine J_getI (pc := 116) X hc_Mo in_Mo 22 k_522 (by decide) rfl d_Mo_split_116 rfl ev4 ?_
    refine J_iload_n (pc := 119) X 1 d_Mo_split_119 rfl ?_
    obtain ⟨h5, eh5, hM⟩ := hb_some hM
    refine J_iast (pc := 120) X d_Mo_split_120 rfl eh5 ?_
    refine J_iconst (pc := 121) (v := (0)) X d_Mo_split_121 (by decide) ?_
    refine J_istore_n (pc := 122) (lv' := [(3, .int 0), (0, .ref x0), (1, .int x1), (2, .int x2)]) X d_Mo_split_122 rfl (by decide) rfl ?_
    refine J_sub [1, 0] rfl ?_
    exact w_Mo_split_123 Y F _ _ _ _ hM
  · have hM := hif_f hM c2
    refine J_iload_n (pc := 12) X 2 d_Mo_split_12 rfl ?_
    refine J_istore_n (pc := 13) (lv' := [(3, .int x2), (0, .ref x0), (1, .int x1), (2, .int x2)]) X d_Mo_split_13 rfl (by decide) rfl ?_
    refine J_sub [1, 2, 3, 0] rfl ?_
    exact w_Mo_split_14 Y R4 F _ _ _ _ _ _ hM
theorem w_Mo_split_4 {p : Program} {l : Launch} {e : Env} {s : State} {m : MethodId} {args : Array Value} {below : List Frame} {meth : Method} {c : Code} {D : va_G} {K : (Nat → Nat) × (Nat → Nat)} {h0 : hH} (Y : HX p s m args meth c prog_14_method_8_code 4 "LicenceTextsModel" D K "split" none h0) {F : Nat} : ∀ z : Nat, ∀ (h : hH) (x0 : Nat) (x1 : Int32) (x2 : Int32) (q : hH), M_Mo_split_4 F z h x0 x1 x2 = some q → J p l e rm_Mo_split s m args below meth c 4 D cls0 (hF h0) h [(0, .ref x0), (1, .int x1), (2, .int x2)] 0 0 (MQ below (hQ D cls0 h0 none q) args s 0 0 (hF h0)) 4 [] := by
  intro z
  induction z with
  | zero => intro h x0 x1 x2 q hM; exact absurd (show (none : Option _) = some q from hM) (fun t => by cases t)
  | succ z ih => exact b_Mo_split_4 Y ih
set_option maxHeartbeats 4000000 in
set_option maxRecDepth 100000 in
theorem c_Mo_split (l : Launch) (D : va_G) (K : (Nat → Nat) × (Nat → Nat)) (F : Nat) {h : hH} {x0 : Nat} {q : hH} (hM : M_Mo_split F h x0 = some q) : Met l y_Mo_split (.code y_Mo_split prog_14_method_8_code 4 none :: T0) rm_Mo_split (hPc hG D cls0 K [.ref x0] h) (hQ D cls0 h none q) 0 0 (hF h) := by
  refine J_met (lv := [(0, .ref x0)]) (by decide) (Nat.le_of_ble_eq_true rfl) rfl ?_
  intro p e s m below meth c X hr hlk hnm
  have Y : HX p s m _ meth c prog_14_method_8_code 4 "LicenceTextsModel" D K "split" none h := ⟨X, hr, hlk, hnm⟩
  unfold M_Mo_split at hM
  refine J_iconst (pc := 0) (v := (0)) X d_Mo_split_0 (by decide) ?_
  refine J_istore_n (pc := 1) (lv' := [(1, .int 0), (0, .ref x0)]) X d_Mo_split_1 rfl (by decide) rfl ?_
  refine J_iconst (pc := 2) (v := (0)) X d_Mo_split_2 (by decide) ?_
  refine J_istore_n (pc := 3) (lv' := [(2, .int 0), (1, .int 0), (0, .ref x0)]) X d_Mo_split_3 rfl (by decide) rfl ?_
  refine J_sub [2, 1, 0] rfl ?_
  exact w_Mo_split_4 Y F _ _ _ _ _ hM
