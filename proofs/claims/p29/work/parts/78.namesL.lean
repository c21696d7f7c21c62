/-! ===== printed: the law's instructions ===== -/
theorem dL_cell_0 : decode cL_cell 0 = .ok (.iload_n 1, 1) := by decide +kernel
theorem dL_cell_1 : decode cL_cell 1 = .ok (.aload_n 0, 1) := by decide +kernel
theorem dL_cell_2 : decode cL_cell 2 = .ok (.arraylength, 1) := by decide +kernel
theorem dL_cell_3 : decode cL_cell 3 = .ok (.if_icmp .ge 9, 3) := by decide +kernel
theorem dL_cell_6 : decode cL_cell 6 = .ok (.aload_n 0, 1) := by decide +kernel
theorem dL_cell_7 : decode cL_cell 7 = .ok (.iload_n 1, 1) := by decide +kernel
theorem dL_cell_8 : decode cL_cell 8 = .ok (.iaload, 1) := by decide +kernel
theorem dL_cell_9 : decode cL_cell 9 = .ok (.goto 15, 3) := by decide +kernel
theorem dL_cell_12 : decode cL_cell 12 = .ok (.sipush 7919, 3) := by decide +kernel
theorem dL_cell_15 : decode cL_cell 15 = .ok (.iload_n 1, 1) := by decide +kernel
theorem dL_cell_16 : decode cL_cell 16 = .ok (.iconst 3, 1) := by decide +kernel
theorem dL_cell_17 : decode cL_cell 17 = .ok (.iadd, 1) := by decide +kernel
theorem dL_cell_18 : decode cL_cell 18 = .ok (.imul, 1) := by decide +kernel
theorem dL_cell_19 : decode cL_cell 19 = .ok (.iload_n 1, 1) := by decide +kernel
theorem dL_cell_20 : decode cL_cell 20 = .ok (.bipush 11, 2) := by decide +kernel
theorem dL_cell_22 : decode cL_cell 22 = .ok (.iadd, 1) := by decide +kernel
theorem dL_cell_23 : decode cL_cell 23 = .ok (.imul, 1) := by decide +kernel
theorem dL_cell_24 : decode cL_cell 24 = .ok (.ireturn, 1) := by decide +kernel
theorem dL_low_0 : decode cL_low 0 = .ok (.iload_n 0, 1) := by decide +kernel
theorem dL_low_1 : decode cL_low 1 = .ok (.ldc 7, 2) := by decide +kernel
theorem dL_low_3 : decode cL_low 3 = .ok (.iand, 1) := by decide +kernel
theorem dL_low_4 : decode cL_low 4 = .ok (.iload_n 1, 1) := by decide +kernel
theorem dL_low_5 : decode cL_low 5 = .ok (.irem, 1) := by decide +kernel
theorem dL_low_6 : decode cL_low 6 = .ok (.ireturn, 1) := by decide +kernel
theorem dL_tale_0 : decode cL_tale 0 = .ok (.ldc2_w 8, 3) := by decide +kernel
theorem dL_tale_3 : decode cL_tale 3 = .ok (.lstore_n 1, 1) := by decide +kernel
theorem dL_tale_4 : decode cL_tale 4 = .ok (.iconst 0, 1) := by decide +kernel
theorem dL_tale_5 : decode cL_tale 5 = .ok (.istore_n 3, 1) := by decide +kernel
theorem dL_tale_6 : decode cL_tale 6 = .ok (.iload_n 3, 1) := by decide +kernel
theorem dL_tale_7 : decode cL_tale 7 = .ok (.bipush 12, 2) := by decide +kernel
theorem dL_tale_9 : decode cL_tale 9 = .ok (.if_icmp .ge 22, 3) := by decide +kernel
theorem dL_tale_12 : decode cL_tale 12 = .ok (.lload_n 1, 1) := by decide +kernel
theorem dL_tale_13 : decode cL_tale 13 = .ok (.ldc2_w 10, 3) := by decide +kernel
theorem dL_tale_16 : decode cL_tale 16 = .ok (.lmul, 1) := by decide +kernel
theorem dL_tale_17 : decode cL_tale 17 = .ok (.aload_n 0, 1) := by decide +kernel
theorem dL_tale_18 : decode cL_tale 18 = .ok (.iload_n 3, 1) := by decide +kernel
theorem dL_tale_19 : decode cL_tale 19 = .ok (.invokevirtual 12, 3) := by decide +kernel
theorem dL_tale_22 : decode cL_tale 22 = .ok (.i2l, 1) := by decide +kernel
theorem dL_tale_23 : decode cL_tale 23 = .ok (.ladd, 1) := by decide +kernel
theorem dL_tale_24 : decode cL_tale 24 = .ok (.lstore_n 1, 1) := by decide +kernel
theorem dL_tale_25 : decode cL_tale 25 = .ok (.iinc 3 1, 3) := by decide +kernel
theorem dL_tale_28 : decode cL_tale 28 = .ok (.goto (-22), 3) := by decide +kernel
theorem dL_tale_31 : decode cL_tale 31 = .ok (.iconst 0, 1) := by decide +kernel
theorem dL_tale_32 : decode cL_tale 32 = .ok (.istore_n 3, 1) := by decide +kernel
theorem dL_tale_33 : decode cL_tale 33 = .ok (.iload_n 3, 1) := by decide +kernel
theorem dL_tale_34 : decode cL_tale 34 = .ok (.bipush 8, 2) := by decide +kernel
theorem dL_tale_36 : decode cL_tale 36 = .ok (.if_icmp .ge 64, 3) := by decide +kernel
theorem dL_tale_39 : decode cL_tale 39 = .ok (.iconst 0, 1) := by decide +kernel
theorem dL_tale_40 : decode cL_tale 40 = .ok (.istore 4, 2) := by decide +kernel
theorem dL_tale_42 : decode cL_tale 42 = .ok (.iload 4, 2) := by decide +kernel
theorem dL_tale_44 : decode cL_tale 44 = .ok (.bipush 7, 2) := by decide +kernel
theorem dL_tale_46 : decode cL_tale 46 = .ok (.if_icmp .ge 48, 3) := by decide +kernel
theorem dL_tale_49 : decode cL_tale 49 = .ok (.lload_n 1, 1) := by decide +kernel
theorem dL_tale_50 : decode cL_tale 50 = .ok (.ldc2_w 18, 3) := by decide +kernel
theorem dL_tale_53 : decode cL_tale 53 = .ok (.lmul, 1) := by decide +kernel
theorem dL_tale_54 : decode cL_tale 54 = .ok (.aload_n 0, 1) := by decide +kernel
theorem dL_tale_55 : decode cL_tale 55 = .ok (.iload_n 3, 1) := by decide +kernel
theorem dL_tale_56 : decode cL_tale 56 = .ok (.iload 4, 2) := by decide +kernel
theorem dL_tale_58 : decode cL_tale 58 = .ok (.invokevirtual 20, 3) := by decide +kernel
theorem dL_tale_61 : decode cL_tale 61 = .ok (.i2l, 1) := by decide +kernel
theorem dL_tale_62 : decode cL_tale 62 = .ok (.ladd, 1) := by decide +kernel
theorem dL_tale_63 : decode cL_tale 63 = .ok (.iload 4, 2) := by decide +kernel
theorem dL_tale_65 : decode cL_tale 65 = .ok (.bipush 6, 2) := by decide +kernel
theorem dL_tale_67 : decode cL_tale 67 = .ok (.if_icmp .ge 18, 3) := by decide +kernel
theorem dL_tale_70 : decode cL_tale 70 = .ok (.ldc2_w 24, 3) := by decide +kernel
theorem dL_tale_73 : decode cL_tale 73 = .ok (.aload_n 0, 1) := by decide +kernel
theorem dL_tale_74 : decode cL_tale 74 = .ok (.iload_n 3, 1) := by decide +kernel
theorem dL_tale_75 : decode cL_tale 75 = .ok (.iload 4, 2) := by decide +kernel
theorem dL_tale_77 : decode cL_tale 77 = .ok (.invokevirtual 26, 3) := by decide +kernel
theorem dL_tale_80 : decode cL_tale 80 = .ok (.i2l, 1) := by decide +kernel
theorem dL_tale_81 : decode cL_tale 81 = .ok (.lmul, 1) := by decide +kernel
theorem dL_tale_82 : decode cL_tale 82 = .ok (.goto 4, 3) := by decide +kernel
theorem dL_tale_85 : decode cL_tale 85 = .ok (.lconst 0, 1) := by decide +kernel
theorem dL_tale_86 : decode cL_tale 86 = .ok (.ladd, 1) := by decide +kernel
theorem dL_tale_87 : decode cL_tale 87 = .ok (.lstore_n 1, 1) := by decide +kernel
theorem dL_tale_88 : decode cL_tale 88 = .ok (.iinc 4 1, 3) := by decide +kernel
theorem dL_tale_91 : decode cL_tale 91 = .ok (.goto (-49), 3) := by decide +kernel
theorem dL_tale_94 : decode cL_tale 94 = .ok (.iinc 3 1, 3) := by decide +kernel
theorem dL_tale_97 : decode cL_tale 97 = .ok (.goto (-64), 3) := by decide +kernel
theorem dL_tale_100 : decode cL_tale 100 = .ok (.iconst 0, 1) := by decide +kernel
theorem dL_tale_101 : decode cL_tale 101 = .ok (.istore_n 3, 1) := by decide +kernel
theorem dL_tale_102 : decode cL_tale 102 = .ok (.iload_n 3, 1) := by decide +kernel
theorem dL_tale_103 : decode cL_tale 103 = .ok (.iconst 2, 1) := by decide +kernel
theorem dL_tale_104 : decode cL_tale 104 = .ok (.if_icmp .ge 68, 3) := by decide +kernel
theorem dL_tale_107 : decode cL_tale 107 = .ok (.iconst 0, 1) := by decide +kernel
theorem dL_tale_108 : decode cL_tale 108 = .ok (.istore 4, 2) := by decide +kernel
theorem dL_tale_110 : decode cL_tale 110 = .ok (.iload 4, 2) := by decide +kernel
theorem dL_tale_112 : decode cL_tale 112 = .ok (.iconst 5, 1) := by decide +kernel
theorem dL_tale_113 : decode cL_tale 113 = .ok (.if_icmp .ge 53, 3) := by decide +kernel
theorem dL_tale_116 : decode cL_tale 116 = .ok (.lload_n 1, 1) := by decide +kernel
theorem dL_tale_117 : decode cL_tale 117 = .ok (.ldc2_w 29, 3) := by decide +kernel
theorem dL_tale_120 : decode cL_tale 120 = .ok (.lmul, 1) := by decide +kernel
theorem dL_tale_121 : decode cL_tale 121 = .ok (.aload_n 0, 1) := by decide +kernel
theorem dL_tale_122 : decode cL_tale 122 = .ok (.iload_n 3, 1) := by decide +kernel
theorem dL_tale_123 : decode cL_tale 123 = .ok (.iload 4, 2) := by decide +kernel
theorem dL_tale_125 : decode cL_tale 125 = .ok (.iconst 0, 1) := by decide +kernel
theorem dL_tale_126 : decode cL_tale 126 = .ok (.invokevirtual 31, 3) := by decide +kernel
theorem dL_tale_129 : decode cL_tale 129 = .ok (.i2l, 1) := by decide +kernel
theorem dL_tale_130 : decode cL_tale 130 = .ok (.ladd, 1) := by decide +kernel
theorem dL_tale_131 : decode cL_tale 131 = .ok (.ldc2_w 8, 3) := by decide +kernel
theorem dL_tale_134 : decode cL_tale 134 = .ok (.aload_n 0, 1) := by decide +kernel
theorem dL_tale_135 : decode cL_tale 135 = .ok (.iload_n 3, 1) := by decide +kernel
theorem dL_tale_136 : decode cL_tale 136 = .ok (.iload 4, 2) := by decide +kernel
theorem dL_tale_138 : decode cL_tale 138 = .ok (.iconst 1, 1) := by decide +kernel
theorem dL_tale_139 : decode cL_tale 139 = .ok (.invokevirtual 31, 3) := by decide +kernel
theorem dL_tale_142 : decode cL_tale 142 = .ok (.i2l, 1) := by decide +kernel
theorem dL_tale_143 : decode cL_tale 143 = .ok (.lmul, 1) := by decide +kernel
theorem dL_tale_144 : decode cL_tale 144 = .ok (.ladd, 1) := by decide +kernel
theorem dL_tale_145 : decode cL_tale 145 = .ok (.ldc2_w 35, 3) := by decide +kernel
theorem dL_tale_148 : decode cL_tale 148 = .ok (.aload_n 0, 1) := by decide +kernel
theorem dL_tale_149 : decode cL_tale 149 = .ok (.iload_n 3, 1) := by decide +kernel
theorem dL_tale_150 : decode cL_tale 150 = .ok (.iload 4, 2) := by decide +kernel
theorem dL_tale_152 : decode cL_tale 152 = .ok (.iconst 2, 1) := by decide +kernel
theorem dL_tale_153 : decode cL_tale 153 = .ok (.invokevirtual 31, 3) := by decide +kernel
theorem dL_tale_156 : decode cL_tale 156 = .ok (.i2l, 1) := by decide +kernel
theorem dL_tale_157 : decode cL_tale 157 = .ok (.lmul, 1) := by decide +kernel
theorem dL_tale_158 : decode cL_tale 158 = .ok (.ladd, 1) := by decide +kernel
theorem dL_tale_159 : decode cL_tale 159 = .ok (.lstore_n 1, 1) := by decide +kernel
theorem dL_tale_160 : decode cL_tale 160 = .ok (.iinc 4 1, 3) := by decide +kernel
theorem dL_tale_163 : decode cL_tale 163 = .ok (.goto (-53), 3) := by decide +kernel
theorem dL_tale_166 : decode cL_tale 166 = .ok (.iinc 3 1, 3) := by decide +kernel
theorem dL_tale_169 : decode cL_tale 169 = .ok (.goto (-67), 3) := by decide +kernel
theorem dL_tale_172 : decode cL_tale 172 = .ok (.iconst 1, 1) := by decide +kernel
theorem dL_tale_173 : decode cL_tale 173 = .ok (.istore_n 3, 1) := by decide +kernel
theorem dL_tale_174 : decode cL_tale 174 = .ok (.iload_n 3, 1) := by decide +kernel
theorem dL_tale_175 : decode cL_tale 175 = .ok (.bipush 8, 2) := by decide +kernel
theorem dL_tale_177 : decode cL_tale 177 = .ok (.if_icmp .ge 40, 3) := by decide +kernel
theorem dL_tale_180 : decode cL_tale 180 = .ok (.iconst 0, 1) := by decide +kernel
theorem dL_tale_181 : decode cL_tale 181 = .ok (.istore 4, 2) := by decide +kernel
theorem dL_tale_183 : decode cL_tale 183 = .ok (.iload 4, 2) := by decide +kernel
theorem dL_tale_185 : decode cL_tale 185 = .ok (.bipush 6, 2) := by decide +kernel
theorem dL_tale_187 : decode cL_tale 187 = .ok (.if_icmp .ge 24, 3) := by decide +kernel
theorem dL_tale_190 : decode cL_tale 190 = .ok (.lload_n 1, 1) := by decide +kernel
theorem dL_tale_191 : decode cL_tale 191 = .ok (.ldc2_w 37, 3) := by decide +kernel
theorem dL_tale_194 : decode cL_tale 194 = .ok (.lmul, 1) := by decide +kernel
theorem dL_tale_195 : decode cL_tale 195 = .ok (.aload_n 0, 1) := by decide +kernel
theorem dL_tale_196 : decode cL_tale 196 = .ok (.iload_n 3, 1) := by decide +kernel
theorem dL_tale_197 : decode cL_tale 197 = .ok (.iload 4, 2) := by decide +kernel
theorem dL_tale_199 : decode cL_tale 199 = .ok (.invokevirtual 39, 3) := by decide +kernel
theorem dL_tale_202 : decode cL_tale 202 = .ok (.i2l, 1) := by decide +kernel
theorem dL_tale_203 : decode cL_tale 203 = .ok (.ladd, 1) := by decide +kernel
theorem dL_tale_204 : decode cL_tale 204 = .ok (.lstore_n 1, 1) := by decide +kernel
theorem dL_tale_205 : decode cL_tale 205 = .ok (.iinc 4 1, 3) := by decide +kernel
theorem dL_tale_208 : decode cL_tale 208 = .ok (.goto (-25), 3) := by decide +kernel
theorem dL_tale_211 : decode cL_tale 211 = .ok (.iinc 3 1, 3) := by decide +kernel
theorem dL_tale_214 : decode cL_tale 214 = .ok (.goto (-40), 3) := by decide +kernel
theorem dL_tale_217 : decode cL_tale 217 = .ok (.lload_n 1, 1) := by decide +kernel
theorem dL_tale_218 : decode cL_tale 218 = .ok (.ldc2_w 42, 3) := by decide +kernel
theorem dL_tale_221 : decode cL_tale 221 = .ok (.aload_n 0, 1) := by decide +kernel
theorem dL_tale_222 : decode cL_tale 222 = .ok (.iconst 0, 1) := by decide +kernel
theorem dL_tale_223 : decode cL_tale 223 = .ok (.invokevirtual 44, 3) := by decide +kernel
theorem dL_tale_226 : decode cL_tale 226 = .ok (.i2l, 1) := by decide +kernel
theorem dL_tale_227 : decode cL_tale 227 = .ok (.lmul, 1) := by decide +kernel
theorem dL_tale_228 : decode cL_tale 228 = .ok (.ladd, 1) := by decide +kernel
theorem dL_tale_229 : decode cL_tale 229 = .ok (.ldc2_w 47, 3) := by decide +kernel
theorem dL_tale_232 : decode cL_tale 232 = .ok (.aload_n 0, 1) := by decide +kernel
theorem dL_tale_233 : decode cL_tale 233 = .ok (.iconst 1, 1) := by decide +kernel
theorem dL_tale_234 : decode cL_tale 234 = .ok (.invokevirtual 44, 3) := by decide +kernel
theorem dL_tale_237 : decode cL_tale 237 = .ok (.i2l, 1) := by decide +kernel
theorem dL_tale_238 : decode cL_tale 238 = .ok (.lmul, 1) := by decide +kernel
theorem dL_tale_239 : decode cL_tale 239 = .ok (.ladd, 1) := by decide +kernel
theorem dL_tale_240 : decode cL_tale 240 = .ok (.ldc2_w 49, 3) := by decide +kernel
theorem dL_tale_243 : decode cL_tale 243 = .ok (.aload_n 0, 1) := by decide +kernel
theorem dL_tale_244 : decode cL_tale 244 = .ok (.iconst 2, 1) := by decide +kernel
theorem dL_tale_245 : decode cL_tale 245 = .ok (.invokevirtual 44, 3) := by decide +kernel
theorem dL_tale_248 : decode cL_tale 248 = .ok (.i2l, 1) := by decide +kernel
theorem dL_tale_249 : decode cL_tale 249 = .ok (.lmul, 1) := by decide +kernel
theorem dL_tale_250 : decode cL_tale 250 = .ok (.ladd, 1) := by decide +kernel
theorem dL_tale_251 : decode cL_tale 251 = .ok (.ldc2_w 51, 3) := by decide +kernel
theorem dL_tale_254 : decode cL_tale 254 = .ok (.aload_n 0, 1) := by decide +kernel
theorem dL_tale_255 : decode cL_tale 255 = .ok (.iconst 3, 1) := by decide +kernel
theorem dL_tale_256 : decode cL_tale 256 = .ok (.invokevirtual 44, 3) := by decide +kernel
theorem dL_tale_259 : decode cL_tale 259 = .ok (.i2l, 1) := by decide +kernel
theorem dL_tale_260 : decode cL_tale 260 = .ok (.lmul, 1) := by decide +kernel
theorem dL_tale_261 : decode cL_tale 261 = .ok (.ladd, 1) := by decide +kernel
theorem dL_tale_262 : decode cL_tale 262 = .ok (.lreturn, 1) := by decide +kernel
theorem dL_does_0 : decode cL_does 0 = .ok (.aload_n 0, 1) := by decide +kernel
theorem dL_does_1 : decode cL_does 1 = .ok (.iconst 5, 1) := by decide +kernel
theorem dL_does_2 : decode cL_does 2 = .ok (.invokevirtual 12, 3) := by decide +kernel
theorem dL_does_5 : decode cL_does 5 = .ok (.istore_n 2, 1) := by decide +kernel
theorem dL_does_6 : decode cL_does 6 = .ok (.iconst 1, 1) := by decide +kernel
theorem dL_does_7 : decode cL_does 7 = .ok (.iload_n 1, 1) := by decide +kernel
theorem dL_does_8 : decode cL_does 8 = .ok (.iconst 4, 1) := by decide +kernel
theorem dL_does_9 : decode cL_does 9 = .ok (.ishr, 1) := by decide +kernel
theorem dL_does_10 : decode cL_does 10 = .ok (.bipush 7, 2) := by decide +kernel
theorem dL_does_12 : decode cL_does 12 = .ok (.invokestatic 53, 3) := by decide +kernel
theorem dL_does_15 : decode cL_does 15 = .ok (.iadd, 1) := by decide +kernel
theorem dL_does_16 : decode cL_does 16 = .ok (.istore_n 3, 1) := by decide +kernel
theorem dL_does_17 : decode cL_does 17 = .ok (.iload_n 1, 1) := by decide +kernel
theorem dL_does_18 : decode cL_does 18 = .ok (.bipush 15, 2) := by decide +kernel
theorem dL_does_20 : decode cL_does 20 = .ok (.iand, 1) := by decide +kernel
theorem dL_does_21 : decode cL_does 21 = .ok (.tableswitch 274 0 13 #[71, 71, 100, 129, 168, 189, 189, 189, 229, 241, 241, 241, 255, 268], 71) := by decide +kernel
theorem dL_does_92 : decode cL_does 92 = .ok (.aload_n 0, 1) := by decide +kernel
theorem dL_does_93 : decode cL_does 93 = .ok (.iload_n 1, 1) := by decide +kernel
theorem dL_does_94 : decode cL_does 94 = .ok (.iconst 4, 1) := by decide +kernel
theorem dL_does_95 : decode cL_does 95 = .ok (.ishr, 1) := by decide +kernel
theorem dL_does_96 : decode cL_does 96 = .ok (.iconst 4, 1) := by decide +kernel
theorem dL_does_97 : decode cL_does 97 = .ok (.invokestatic 53, 3) := by decide +kernel
theorem dL_does_100 : decode cL_does 100 = .ok (.iload_n 1, 1) := by decide +kernel
theorem dL_does_101 : decode cL_does 101 = .ok (.bipush 6, 2) := by decide +kernel
theorem dL_does_103 : decode cL_does 103 = .ok (.ishr, 1) := by decide +kernel
theorem dL_does_104 : decode cL_does 104 = .ok (.bipush 6, 2) := by decide +kernel
theorem dL_does_106 : decode cL_does 106 = .ok (.invokestatic 53, 3) := by decide +kernel
theorem dL_does_109 : decode cL_does 109 = .ok (.iload_n 1, 1) := by decide +kernel
theorem dL_does_110 : decode cL_does 110 = .ok (.bipush 9, 2) := by decide +kernel
theorem dL_does_112 : decode cL_does 112 = .ok (.ishr, 1) := by decide +kernel
theorem dL_does_113 : decode cL_does 113 = .ok (.iconst 3, 1) := by decide +kernel
theorem dL_does_114 : decode cL_does 114 = .ok (.invokestatic 53, 3) := by decide +kernel
theorem dL_does_117 : decode cL_does 117 = .ok (.invokevirtual 58, 3) := by decide +kernel
theorem dL_does_120 : decode cL_does 120 = .ok (.ireturn, 1) := by decide +kernel
theorem dL_does_121 : decode cL_does 121 = .ok (.aload_n 0, 1) := by decide +kernel
theorem dL_does_122 : decode cL_does 122 = .ok (.iload_n 1, 1) := by decide +kernel
theorem dL_does_123 : decode cL_does 123 = .ok (.iconst 4, 1) := by decide +kernel
theorem dL_does_124 : decode cL_does 124 = .ok (.ishr, 1) := by decide +kernel
theorem dL_does_125 : decode cL_does 125 = .ok (.bipush 6, 2) := by decide +kernel
theorem dL_does_127 : decode cL_does 127 = .ok (.invokestatic 53, 3) := by decide +kernel
theorem dL_does_130 : decode cL_does 130 = .ok (.iload_n 1, 1) := by decide +kernel
theorem dL_does_131 : decode cL_does 131 = .ok (.bipush 7, 2) := by decide +kernel
theorem dL_does_133 : decode cL_does 133 = .ok (.ishr, 1) := by decide +kernel
theorem dL_does_134 : decode cL_does 134 = .ok (.iconst 5, 1) := by decide +kernel
theorem dL_does_135 : decode cL_does 135 = .ok (.invokestatic 53, 3) := by decide +kernel
theorem dL_does_138 : decode cL_does 138 = .ok (.ifCond .ne 7, 3) := by decide +kernel
theorem dL_does_141 : decode cL_does 141 = .ok (.iconst 0, 1) := by decide +kernel
theorem dL_does_142 : decode cL_does 142 = .ok (.goto 4, 3) := by decide +kernel
theorem dL_does_145 : decode cL_does 145 = .ok (.iconst 1, 1) := by decide +kernel
theorem dL_does_146 : decode cL_does 146 = .ok (.invokevirtual 61, 3) := by decide +kernel
theorem dL_does_149 : decode cL_does 149 = .ok (.ireturn, 1) := by decide +kernel
theorem dL_does_150 : decode cL_does 150 = .ok (.aload_n 0, 1) := by decide +kernel
theorem dL_does_151 : decode cL_does 151 = .ok (.iload_n 1, 1) := by decide +kernel
theorem dL_does_152 : decode cL_does 152 = .ok (.iconst 4, 1) := by decide +kernel
theorem dL_does_153 : decode cL_does 153 = .ok (.ishr, 1) := by decide +kernel
theorem dL_does_154 : decode cL_does 154 = .ok (.iconst 1, 1) := by decide +kernel
theorem dL_does_155 : decode cL_does 155 = .ok (.iand, 1) := by decide +kernel
theorem dL_does_156 : decode cL_does 156 = .ok (.iload_n 1, 1) := by decide +kernel
theorem dL_does_157 : decode cL_does 157 = .ok (.iconst 5, 1) := by decide +kernel
theorem dL_does_158 : decode cL_does 158 = .ok (.ishr, 1) := by decide +kernel
theorem dL_does_159 : decode cL_does 159 = .ok (.iconst 5, 1) := by decide +kernel
theorem dL_does_160 : decode cL_does 160 = .ok (.invokestatic 53, 3) := by decide +kernel
theorem dL_does_163 : decode cL_does 163 = .ok (.bipush 60, 2) := by decide +kernel
theorem dL_does_165 : decode cL_does 165 = .ok (.imul, 1) := by decide +kernel
theorem dL_does_166 : decode cL_does 166 = .ok (.iload_n 1, 1) := by decide +kernel
theorem dL_does_167 : decode cL_does 167 = .ok (.bipush 8, 2) := by decide +kernel
theorem dL_does_169 : decode cL_does 169 = .ok (.ishr, 1) := by decide +kernel
theorem dL_does_170 : decode cL_does 170 = .ok (.bipush 60, 2) := by decide +kernel
theorem dL_does_172 : decode cL_does 172 = .ok (.invokestatic 53, 3) := by decide +kernel
theorem dL_does_175 : decode cL_does 175 = .ok (.iload_n 1, 1) := by decide +kernel
theorem dL_does_176 : decode cL_does 176 = .ok (.bipush 14, 2) := by decide +kernel
theorem dL_does_178 : decode cL_does 178 = .ok (.ishr, 1) := by decide +kernel
theorem dL_does_179 : decode cL_does 179 = .ok (.sipush 500, 3) := by decide +kernel
theorem dL_does_182 : decode cL_does 182 = .ok (.invokestatic 53, 3) := by decide +kernel
theorem dL_does_185 : decode cL_does 185 = .ok (.invokevirtual 64, 3) := by decide +kernel
theorem dL_does_188 : decode cL_does 188 = .ok (.ireturn, 1) := by decide +kernel
theorem dL_does_189 : decode cL_does 189 = .ok (.aload_n 0, 1) := by decide +kernel
theorem dL_does_190 : decode cL_does 190 = .ok (.iload_n 1, 1) := by decide +kernel
theorem dL_does_191 : decode cL_does 191 = .ok (.iconst 4, 1) := by decide +kernel
theorem dL_does_192 : decode cL_does 192 = .ok (.ishr, 1) := by decide +kernel
theorem dL_does_193 : decode cL_does 193 = .ok (.iconst 5, 1) := by decide +kernel
theorem dL_does_194 : decode cL_does 194 = .ok (.invokestatic 53, 3) := by decide +kernel
theorem dL_does_197 : decode cL_does 197 = .ok (.iload_n 1, 1) := by decide +kernel
theorem dL_does_198 : decode cL_does 198 = .ok (.bipush 7, 2) := by decide +kernel
theorem dL_does_200 : decode cL_does 200 = .ok (.ishr, 1) := by decide +kernel
theorem dL_does_201 : decode cL_does 201 = .ok (.bipush 100, 2) := by decide +kernel
theorem dL_does_203 : decode cL_does 203 = .ok (.invokestatic 53, 3) := by decide +kernel
theorem dL_does_206 : decode cL_does 206 = .ok (.invokevirtual 68, 3) := by decide +kernel
theorem dL_does_209 : decode cL_does 209 = .ok (.ireturn, 1) := by decide +kernel
theorem dL_does_210 : decode cL_does 210 = .ok (.aload_n 0, 1) := by decide +kernel
theorem dL_does_211 : decode cL_does 211 = .ok (.iload_n 3, 1) := by decide +kernel
theorem dL_does_212 : decode cL_does 212 = .ok (.iload_n 1, 1) := by decide +kernel
theorem dL_does_213 : decode cL_does 213 = .ok (.bipush 7, 2) := by decide +kernel
theorem dL_does_215 : decode cL_does 215 = .ok (.ishr, 1) := by decide +kernel
theorem dL_does_216 : decode cL_does 216 = .ok (.iconst 3, 1) := by decide +kernel
theorem dL_does_217 : decode cL_does 217 = .ok (.invokestatic 53, 3) := by decide +kernel
theorem dL_does_220 : decode cL_does 220 = .ok (.iload_n 2, 1) := by decide +kernel
theorem dL_does_221 : decode cL_does 221 = .ok (.iload_n 1, 1) := by decide +kernel
theorem dL_does_222 : decode cL_does 222 = .ok (.bipush 9, 2) := by decide +kernel
theorem dL_does_224 : decode cL_does 224 = .ok (.ishr, 1) := by decide +kernel
theorem dL_does_225 : decode cL_does 225 = .ok (.sipush 200, 3) := by decide +kernel
theorem dL_does_228 : decode cL_does 228 = .ok (.invokestatic 53, 3) := by decide +kernel
theorem dL_does_231 : decode cL_does 231 = .ok (.iadd, 1) := by decide +kernel
theorem dL_does_232 : decode cL_does 232 = .ok (.iload_n 2, 1) := by decide +kernel
theorem dL_does_233 : decode cL_does 233 = .ok (.iconst 1, 1) := by decide +kernel
theorem dL_does_234 : decode cL_does 234 = .ok (.iadd, 1) := by decide +kernel
theorem dL_does_235 : decode cL_does 235 = .ok (.iload_n 1, 1) := by decide +kernel
theorem dL_does_236 : decode cL_does 236 = .ok (.bipush 17, 2) := by decide +kernel
theorem dL_does_238 : decode cL_does 238 = .ok (.ishr, 1) := by decide +kernel
theorem dL_does_239 : decode cL_does 239 = .ok (.sipush 300, 3) := by decide +kernel
theorem dL_does_242 : decode cL_does 242 = .ok (.invokestatic 53, 3) := by decide +kernel
theorem dL_does_245 : decode cL_does 245 = .ok (.iadd, 1) := by decide +kernel
theorem dL_does_246 : decode cL_does 246 = .ok (.invokevirtual 71, 3) := by decide +kernel
theorem dL_does_249 : decode cL_does 249 = .ok (.ireturn, 1) := by decide +kernel
theorem dL_does_250 : decode cL_does 250 = .ok (.aload_n 0, 1) := by decide +kernel
theorem dL_does_251 : decode cL_does 251 = .ok (.iload_n 1, 1) := by decide +kernel
theorem dL_does_252 : decode cL_does 252 = .ok (.iconst 4, 1) := by decide +kernel
theorem dL_does_253 : decode cL_does 253 = .ok (.ishr, 1) := by decide +kernel
theorem dL_does_254 : decode cL_does 254 = .ok (.iconst 5, 1) := by decide +kernel
theorem dL_does_255 : decode cL_does 255 = .ok (.invokestatic 53, 3) := by decide +kernel
theorem dL_does_258 : decode cL_does 258 = .ok (.invokevirtual 74, 3) := by decide +kernel
theorem dL_does_261 : decode cL_does 261 = .ok (.ireturn, 1) := by decide +kernel
theorem dL_does_262 : decode cL_does 262 = .ok (.aload_n 0, 1) := by decide +kernel
theorem dL_does_263 : decode cL_does 263 = .ok (.iload_n 3, 1) := by decide +kernel
theorem dL_does_264 : decode cL_does 264 = .ok (.iload_n 1, 1) := by decide +kernel
theorem dL_does_265 : decode cL_does 265 = .ok (.bipush 7, 2) := by decide +kernel
theorem dL_does_267 : decode cL_does 267 = .ok (.ishr, 1) := by decide +kernel
theorem dL_does_268 : decode cL_does 268 = .ok (.iconst 3, 1) := by decide +kernel
theorem dL_does_269 : decode cL_does 269 = .ok (.invokestatic 53, 3) := by decide +kernel
theorem dL_does_272 : decode cL_does 272 = .ok (.invokevirtual 77, 3) := by decide +kernel
theorem dL_does_275 : decode cL_does 275 = .ok (.ireturn, 1) := by decide +kernel
theorem dL_does_276 : decode cL_does 276 = .ok (.aload_n 0, 1) := by decide +kernel
theorem dL_does_277 : decode cL_does 277 = .ok (.iload_n 1, 1) := by decide +kernel
theorem dL_does_278 : decode cL_does 278 = .ok (.iconst 4, 1) := by decide +kernel
theorem dL_does_279 : decode cL_does 279 = .ok (.ishr, 1) := by decide +kernel
theorem dL_does_280 : decode cL_does 280 = .ok (.bipush 8, 2) := by decide +kernel
theorem dL_does_282 : decode cL_does 282 = .ok (.invokestatic 53, 3) := by decide +kernel
theorem dL_does_285 : decode cL_does 285 = .ok (.invokevirtual 80, 3) := by decide +kernel
theorem dL_does_288 : decode cL_does 288 = .ok (.ireturn, 1) := by decide +kernel
theorem dL_does_289 : decode cL_does 289 = .ok (.aload_n 0, 1) := by decide +kernel
theorem dL_does_290 : decode cL_does 290 = .ok (.iload_n 3, 1) := by decide +kernel
theorem dL_does_291 : decode cL_does 291 = .ok (.invokevirtual 83, 3) := by decide +kernel
theorem dL_does_294 : decode cL_does 294 = .ok (.ireturn, 1) := by decide +kernel
theorem dL_does_295 : decode cL_does 295 = .ok (.aload_n 0, 1) := by decide +kernel
theorem dL_does_296 : decode cL_does 296 = .ok (.iconst 1, 1) := by decide +kernel
theorem dL_does_297 : decode cL_does 297 = .ok (.iload_n 1, 1) := by decide +kernel
theorem dL_does_298 : decode cL_does 298 = .ok (.iconst 4, 1) := by decide +kernel
theorem dL_does_299 : decode cL_does 299 = .ok (.ishr, 1) := by decide +kernel
theorem dL_does_300 : decode cL_does 300 = .ok (.sipush 150, 3) := by decide +kernel
theorem dL_does_303 : decode cL_does 303 = .ok (.invokestatic 53, 3) := by decide +kernel
theorem dL_does_306 : decode cL_does 306 = .ok (.iadd, 1) := by decide +kernel
theorem dL_does_307 : decode cL_does 307 = .ok (.invokevirtual 86, 3) := by decide +kernel
theorem dL_does_310 : decode cL_does 310 = .ok (.ireturn, 1) := by decide +kernel
theorem dL_law_0 : decode cL_law 0 = .ok (.new 13, 3) := by decide +kernel
theorem dL_law_3 : decode cL_law 3 = .ok (.dup, 1) := by decide +kernel
theorem dL_law_4 : decode cL_law 4 = .ok (.invokespecial 89, 3) := by decide +kernel
theorem dL_law_7 : decode cL_law 7 = .ok (.astore_n 1, 1) := by decide +kernel
theorem dL_law_8 : decode cL_law 8 = .ok (.iconst 0, 1) := by decide +kernel
theorem dL_law_9 : decode cL_law 9 = .ok (.istore_n 2, 1) := by decide +kernel
theorem dL_law_10 : decode cL_law 10 = .ok (.iconst 0, 1) := by decide +kernel
theorem dL_law_11 : decode cL_law 11 = .ok (.istore_n 3, 1) := by decide +kernel
theorem dL_law_12 : decode cL_law 12 = .ok (.iload_n 3, 1) := by decide +kernel
theorem dL_law_13 : decode cL_law 13 = .ok (.bipush 40, 2) := by decide +kernel
theorem dL_law_15 : decode cL_law 15 = .ok (.if_icmp .ge 523, 3) := by decide +kernel
theorem dL_law_18 : decode cL_law 18 = .ok (.aload_n 0, 1) := by decide +kernel
theorem dL_law_19 : decode cL_law 19 = .ok (.iload_n 3, 1) := by decide +kernel
theorem dL_law_20 : decode cL_law 20 = .ok (.invokestatic 90, 3) := by decide +kernel
theorem dL_law_23 : decode cL_law 23 = .ok (.istore 4, 2) := by decide +kernel
theorem dL_law_25 : decode cL_law 25 = .ok (.aload_n 1, 1) := by decide +kernel
theorem dL_law_26 : decode cL_law 26 = .ok (.invokestatic 94, 3) := by decide +kernel
theorem dL_law_29 : decode cL_law 29 = .ok (.lstore 5, 2) := by decide +kernel
theorem dL_law_31 : decode cL_law 31 = .ok (.aload_n 1, 1) := by decide +kernel
theorem dL_law_32 : decode cL_law 32 = .ok (.iload 4, 2) := by decide +kernel
theorem dL_law_34 : decode cL_law 34 = .ok (.invokestatic 98, 3) := by decide +kernel
theorem dL_law_37 : decode cL_law 37 = .ok (.istore 7, 2) := by decide +kernel
theorem dL_law_39 : decode cL_law 39 = .ok (.iload 7, 2) := by decide +kernel
theorem dL_law_41 : decode cL_law 41 = .ok (.ifCond .ge 15, 3) := by decide +kernel
theorem dL_law_44 : decode cL_law 44 = .ok (.aload_n 1, 1) := by decide +kernel
theorem dL_law_45 : decode cL_law 45 = .ok (.invokestatic 94, 3) := by decide +kernel
theorem dL_law_48 : decode cL_law 48 = .ok (.lload 5, 2) := by decide +kernel
theorem dL_law_50 : decode cL_law 50 = .ok (.lcmp, 1) := by decide +kernel
theorem dL_law_51 : decode cL_law 51 = .ok (.ifCond .eq 5, 3) := by decide +kernel
theorem dL_law_54 : decode cL_law 54 = .ok (.iconst 0, 1) := by decide +kernel
theorem dL_law_55 : decode cL_law 55 = .ok (.ireturn, 1) := by decide +kernel
theorem dL_law_56 : decode cL_law 56 = .ok (.iload 7, 2) := by decide +kernel
theorem dL_law_58 : decode cL_law 58 = .ok (.ifCond .ge 7, 3) := by decide +kernel
theorem dL_law_61 : decode cL_law 61 = .ok (.iload_n 2, 1) := by decide +kernel
theorem dL_law_62 : decode cL_law 62 = .ok (.goto 17, 3) := by decide +kernel
theorem dL_law_65 : decode cL_law 65 = .ok (.iload_n 2, 1) := by decide +kernel
theorem dL_law_66 : decode cL_law 66 = .ok (.bipush 6, 2) := by decide +kernel
theorem dL_law_68 : decode cL_law 68 = .ok (.if_icmp .ge 9, 3) := by decide +kernel
theorem dL_law_71 : decode cL_law 71 = .ok (.iload_n 2, 1) := by decide +kernel
theorem dL_law_72 : decode cL_law 72 = .ok (.iconst 1, 1) := by decide +kernel
theorem dL_law_73 : decode cL_law 73 = .ok (.iadd, 1) := by decide +kernel
theorem dL_law_74 : decode cL_law 74 = .ok (.goto 5, 3) := by decide +kernel
theorem dL_law_77 : decode cL_law 77 = .ok (.bipush 6, 2) := by decide +kernel
theorem dL_law_79 : decode cL_law 79 = .ok (.istore_n 2, 1) := by decide +kernel
theorem dL_law_80 : decode cL_law 80 = .ok (.iload 7, 2) := by decide +kernel
theorem dL_law_82 : decode cL_law 82 = .ok (.ifCond .lt 38, 3) := by decide +kernel
theorem dL_law_85 : decode cL_law 85 = .ok (.iload 4, 2) := by decide +kernel
theorem dL_law_87 : decode cL_law 87 = .ok (.bipush 27, 2) := by decide +kernel
theorem dL_law_89 : decode cL_law 89 = .ok (.ishr, 1) := by decide +kernel
theorem dL_law_90 : decode cL_law 90 = .ok (.iconst 3, 1) := by decide +kernel
theorem dL_law_91 : decode cL_law 91 = .ok (.iand, 1) := by decide +kernel
theorem dL_law_92 : decode cL_law 92 = .ok (.ifCond .ne 28, 3) := by decide +kernel
theorem dL_law_95 : decode cL_law 95 = .ok (.aload_n 1, 1) := by decide +kernel
theorem dL_law_96 : decode cL_law 96 = .ok (.invokevirtual 102, 3) := by decide +kernel
theorem dL_law_99 : decode cL_law 99 = .ok (.iload_n 2, 1) := by decide +kernel
theorem dL_law_100 : decode cL_law 100 = .ok (.iconst 1, 1) := by decide +kernel
theorem dL_law_101 : decode cL_law 101 = .ok (.isub, 1) := by decide +kernel
theorem dL_law_102 : decode cL_law 102 = .ok (.if_icmp .ne 13, 3) := by decide +kernel
theorem dL_law_105 : decode cL_law 105 = .ok (.aload_n 1, 1) := by decide +kernel
theorem dL_law_106 : decode cL_law 106 = .ok (.invokestatic 94, 3) := by decide +kernel
theorem dL_law_109 : decode cL_law 109 = .ok (.lload 5, 2) := by decide +kernel
theorem dL_law_111 : decode cL_law 111 = .ok (.lcmp, 1) := by decide +kernel
theorem dL_law_112 : decode cL_law 112 = .ok (.ifCond .eq 5, 3) := by decide +kernel
theorem dL_law_115 : decode cL_law 115 = .ok (.iconst 0, 1) := by decide +kernel
theorem dL_law_116 : decode cL_law 116 = .ok (.ireturn, 1) := by decide +kernel
theorem dL_law_117 : decode cL_law 117 = .ok (.iinc 2 (-1), 3) := by decide +kernel
theorem dL_law_120 : decode cL_law 120 = .ok (.aload_n 1, 1) := by decide +kernel
theorem dL_law_121 : decode cL_law 121 = .ok (.bipush 12, 2) := by decide +kernel
theorem dL_law_123 : decode cL_law 123 = .ok (.invokevirtual 12, 3) := by decide +kernel
theorem dL_law_126 : decode cL_law 126 = .ok (.iload_n 2, 1) := by decide +kernel
theorem dL_law_127 : decode cL_law 127 = .ok (.if_icmp .ne 22, 3) := by decide +kernel
theorem dL_law_130 : decode cL_law 130 = .ok (.aload_n 1, 1) := by decide +kernel
theorem dL_law_131 : decode cL_law 131 = .ok (.iconst 3, 1) := by decide +kernel
theorem dL_law_132 : decode cL_law 132 = .ok (.invokevirtual 12, 3) := by decide +kernel
theorem dL_law_135 : decode cL_law 135 = .ok (.aload_n 1, 1) := by decide +kernel
theorem dL_law_136 : decode cL_law 136 = .ok (.iconst 4, 1) := by decide +kernel
theorem dL_law_137 : decode cL_law 137 = .ok (.invokevirtual 12, 3) := by decide +kernel
theorem dL_law_140 : decode cL_law 140 = .ok (.iadd, 1) := by decide +kernel
theorem dL_law_141 : decode cL_law 141 = .ok (.aload_n 1, 1) := by decide +kernel
theorem dL_law_142 : decode cL_law 142 = .ok (.iconst 2, 1) := by decide +kernel
theorem dL_law_143 : decode cL_law 143 = .ok (.invokevirtual 12, 3) := by decide +kernel
theorem dL_law_146 : decode cL_law 146 = .ok (.if_icmp .eq 5, 3) := by decide +kernel
theorem dL_law_149 : decode cL_law 149 = .ok (.iconst 0, 1) := by decide +kernel
theorem dL_law_150 : decode cL_law 150 = .ok (.ireturn, 1) := by decide +kernel
theorem dL_law_151 : decode cL_law 151 = .ok (.iconst 0, 1) := by decide +kernel
theorem dL_law_152 : decode cL_law 152 = .ok (.istore 8, 2) := by decide +kernel
theorem dL_law_154 : decode cL_law 154 = .ok (.iconst 0, 1) := by decide +kernel
theorem dL_law_155 : decode cL_law 155 = .ok (.istore 9, 2) := by decide +kernel
theorem dL_law_157 : decode cL_law 157 = .ok (.iconst 0, 1) := by decide +kernel
theorem dL_law_158 : decode cL_law 158 = .ok (.istore 10, 2) := by decide +kernel
theorem dL_law_160 : decode cL_law 160 = .ok (.iload 10, 2) := by decide +kernel
theorem dL_law_162 : decode cL_law 162 = .ok (.aload_n 1, 1) := by decide +kernel
theorem dL_law_163 : decode cL_law 163 = .ok (.iconst 0, 1) := by decide +kernel
theorem dL_law_164 : decode cL_law 164 = .ok (.invokevirtual 12, 3) := by decide +kernel
theorem dL_law_167 : decode cL_law 167 = .ok (.if_icmp .ge 159, 3) := by decide +kernel
theorem dL_law_170 : decode cL_law 170 = .ok (.aload_n 1, 1) := by decide +kernel
theorem dL_law_171 : decode cL_law 171 = .ok (.iload 10, 2) := by decide +kernel
theorem dL_law_173 : decode cL_law 173 = .ok (.iconst 5, 1) := by decide +kernel
theorem dL_law_174 : decode cL_law 174 = .ok (.invokevirtual 20, 3) := by decide +kernel
theorem dL_law_177 : decode cL_law 177 = .ok (.istore 11, 2) := by decide +kernel
theorem dL_law_179 : decode cL_law 179 = .ok (.iload 8, 2) := by decide +kernel
theorem dL_law_181 : decode cL_law 181 = .ok (.iload 11, 2) := by decide +kernel
theorem dL_law_183 : decode cL_law 183 = .ok (.ifCond .le 7, 3) := by decide +kernel
theorem dL_law_186 : decode cL_law 186 = .ok (.iconst 1, 1) := by decide +kernel
theorem dL_law_187 : decode cL_law 187 = .ok (.goto 4, 3) := by decide +kernel
theorem dL_law_190 : decode cL_law 190 = .ok (.iconst 0, 1) := by decide +kernel
theorem dL_law_191 : decode cL_law 191 = .ok (.iadd, 1) := by decide +kernel
theorem dL_law_192 : decode cL_law 192 = .ok (.istore 8, 2) := by decide +kernel
theorem dL_law_194 : decode cL_law 194 = .ok (.iload 11, 2) := by decide +kernel
theorem dL_law_196 : decode cL_law 196 = .ok (.ifCond .le 32, 3) := by decide +kernel
theorem dL_law_199 : decode cL_law 199 = .ok (.aload_n 1, 1) := by decide +kernel
theorem dL_law_200 : decode cL_law 200 = .ok (.iload 11, 2) := by decide +kernel
theorem dL_law_202 : decode cL_law 202 = .ok (.iconst 2, 1) := by decide +kernel
theorem dL_law_203 : decode cL_law 203 = .ok (.invokevirtual 39, 3) := by decide +kernel
theorem dL_law_206 : decode cL_law 206 = .ok (.iload 10, 2) := by decide +kernel
theorem dL_law_208 : decode cL_law 208 = .ok (.if_icmp .ne 18, 3) := by decide +kernel
theorem dL_law_211 : decode cL_law 211 = .ok (.aload_n 1, 1) := by decide +kernel
theorem dL_law_212 : decode cL_law 212 = .ok (.iload 11, 2) := by decide +kernel
theorem dL_law_214 : decode cL_law 214 = .ok (.iconst 1, 1) := by decide +kernel
theorem dL_law_215 : decode cL_law 215 = .ok (.invokevirtual 39, 3) := by decide +kernel
theorem dL_law_218 : decode cL_law 218 = .ok (.aload_n 1, 1) := by decide +kernel
theorem dL_law_219 : decode cL_law 219 = .ok (.iconst 5, 1) := by decide +kernel
theorem dL_law_220 : decode cL_law 220 = .ok (.invokevirtual 12, 3) := by decide +kernel
theorem dL_law_223 : decode cL_law 223 = .ok (.if_icmp .le 5, 3) := by decide +kernel
theorem dL_law_226 : decode cL_law 226 = .ok (.iconst 0, 1) := by decide +kernel
theorem dL_law_227 : decode cL_law 227 = .ok (.ireturn, 1) := by decide +kernel
theorem dL_law_228 : decode cL_law 228 = .ok (.iload 9, 2) := by decide +kernel
theorem dL_law_230 : decode cL_law 230 = .ok (.aload_n 1, 1) := by decide +kernel
theorem dL_law_231 : decode cL_law 231 = .ok (.iload 10, 2) := by decide +kernel
theorem dL_law_233 : decode cL_law 233 = .ok (.iconst 4, 1) := by decide +kernel
theorem dL_law_234 : decode cL_law 234 = .ok (.invokevirtual 20, 3) := by decide +kernel
theorem dL_law_237 : decode cL_law 237 = .ok (.iconst 1, 1) := by decide +kernel
theorem dL_law_238 : decode cL_law 238 = .ok (.if_icmp .ne 27, 3) := by decide +kernel
theorem dL_law_241 : decode cL_law 241 = .ok (.iload 11, 2) := by decide +kernel
theorem dL_law_243 : decode cL_law 243 = .ok (.bipush (-9), 2) := by decide +kernel
theorem dL_law_245 : decode cL_law 245 = .ok (.if_icmp .ne 20, 3) := by decide +kernel
theorem dL_law_248 : decode cL_law 248 = .ok (.aload_n 1, 1) := by decide +kernel
theorem dL_law_249 : decode cL_law 249 = .ok (.iload 10, 2) := by decide +kernel
theorem dL_law_251 : decode cL_law 251 = .ok (.bipush 6, 2) := by decide +kernel
theorem dL_law_253 : decode cL_law 253 = .ok (.invokevirtual 20, 3) := by decide +kernel
theorem dL_law_256 : decode cL_law 256 = .ok (.bipush (-9), 2) := by decide +kernel
theorem dL_law_258 : decode cL_law 258 = .ok (.if_icmp .ne 7, 3) := by decide +kernel
theorem dL_law_261 : decode cL_law 261 = .ok (.iconst 1, 1) := by decide +kernel
theorem dL_law_262 : decode cL_law 262 = .ok (.goto 4, 3) := by decide +kernel
theorem dL_law_265 : decode cL_law 265 = .ok (.iconst 0, 1) := by decide +kernel
theorem dL_law_266 : decode cL_law 266 = .ok (.iadd, 1) := by decide +kernel
theorem dL_law_267 : decode cL_law 267 = .ok (.istore 9, 2) := by decide +kernel
theorem dL_law_269 : decode cL_law 269 = .ok (.aload_n 1, 1) := by decide +kernel
theorem dL_law_270 : decode cL_law 270 = .ok (.iload 10, 2) := by decide +kernel
theorem dL_law_272 : decode cL_law 272 = .ok (.invokevirtual 106, 3) := by decide +kernel
theorem dL_law_275 : decode cL_law 275 = .ok (.istore 12, 2) := by decide +kernel
theorem dL_law_277 : decode cL_law 277 = .ok (.iload 12, 2) := by decide +kernel
theorem dL_law_279 : decode cL_law 279 = .ok (.ifCond .ne 7, 3) := by decide +kernel
theorem dL_law_282 : decode cL_law 282 = .ok (.iconst 1, 1) := by decide +kernel
theorem dL_law_283 : decode cL_law 283 = .ok (.goto 4, 3) := by decide +kernel
theorem dL_law_286 : decode cL_law 286 = .ok (.iconst 0, 1) := by decide +kernel
theorem dL_law_287 : decode cL_law 287 = .ok (.aload_n 1, 1) := by decide +kernel
theorem dL_law_288 : decode cL_law 288 = .ok (.iload 10, 2) := by decide +kernel
theorem dL_law_290 : decode cL_law 290 = .ok (.bipush 6, 2) := by decide +kernel
theorem dL_law_292 : decode cL_law 292 = .ok (.invokevirtual 20, 3) := by decide +kernel
theorem dL_law_295 : decode cL_law 295 = .ok (.ifCond .lt 7, 3) := by decide +kernel
theorem dL_law_298 : decode cL_law 298 = .ok (.iconst 1, 1) := by decide +kernel
theorem dL_law_299 : decode cL_law 299 = .ok (.goto 4, 3) := by decide +kernel
theorem dL_law_302 : decode cL_law 302 = .ok (.iconst 0, 1) := by decide +kernel
theorem dL_law_303 : decode cL_law 303 = .ok (.if_icmp .ne 15, 3) := by decide +kernel
theorem dL_law_306 : decode cL_law 306 = .ok (.iload 12, 2) := by decide +kernel
theorem dL_law_308 : decode cL_law 308 = .ok (.ifCond .ge 12, 3) := by decide +kernel
theorem dL_law_311 : decode cL_law 311 = .ok (.iload 12, 2) := by decide +kernel
theorem dL_law_313 : decode cL_law 313 = .ok (.bipush (-9), 2) := by decide +kernel
theorem dL_law_315 : decode cL_law 315 = .ok (.if_icmp .eq 5, 3) := by decide +kernel
theorem dL_law_318 : decode cL_law 318 = .ok (.iconst 0, 1) := by decide +kernel
theorem dL_law_319 : decode cL_law 319 = .ok (.ireturn, 1) := by decide +kernel
theorem dL_law_320 : decode cL_law 320 = .ok (.iinc 10 1, 3) := by decide +kernel
theorem dL_law_323 : decode cL_law 323 = .ok (.goto (-163), 3) := by decide +kernel
theorem dL_law_326 : decode cL_law 326 = .ok (.iconst 0, 1) := by decide +kernel
theorem dL_law_327 : decode cL_law 327 = .ok (.istore 10, 2) := by decide +kernel
theorem dL_law_329 : decode cL_law 329 = .ok (.iconst 0, 1) := by decide +kernel
theorem dL_law_330 : decode cL_law 330 = .ok (.istore 11, 2) := by decide +kernel
theorem dL_law_332 : decode cL_law 332 = .ok (.iload 11, 2) := by decide +kernel
theorem dL_law_334 : decode cL_law 334 = .ok (.iconst 5, 1) := by decide +kernel
theorem dL_law_335 : decode cL_law 335 = .ok (.if_icmp .ge 21, 3) := by decide +kernel
theorem dL_law_338 : decode cL_law 338 = .ok (.iload 10, 2) := by decide +kernel
theorem dL_law_340 : decode cL_law 340 = .ok (.aload_n 1, 1) := by decide +kernel
theorem dL_law_341 : decode cL_law 341 = .ok (.iload 11, 2) := by decide +kernel
theorem dL_law_343 : decode cL_law 343 = .ok (.iconst (-1), 1) := by decide +kernel
theorem dL_law_344 : decode cL_law 344 = .ok (.invokevirtual 109, 3) := by decide +kernel
theorem dL_law_347 : decode cL_law 347 = .ok (.iadd, 1) := by decide +kernel
theorem dL_law_348 : decode cL_law 348 = .ok (.istore 10, 2) := by decide +kernel
theorem dL_law_350 : decode cL_law 350 = .ok (.iinc 11 1, 3) := by decide +kernel
theorem dL_law_353 : decode cL_law 353 = .ok (.goto (-21), 3) := by decide +kernel
theorem dL_law_356 : decode cL_law 356 = .ok (.iload 8, 2) := by decide +kernel
theorem dL_law_358 : decode cL_law 358 = .ok (.aload_n 1, 1) := by decide +kernel
theorem dL_law_359 : decode cL_law 359 = .ok (.iconst 3, 1) := by decide +kernel
theorem dL_law_360 : decode cL_law 360 = .ok (.invokevirtual 12, 3) := by decide +kernel
theorem dL_law_363 : decode cL_law 363 = .ok (.if_icmp .ne 10, 3) := by decide +kernel
theorem dL_law_366 : decode cL_law 366 = .ok (.iload 10, 2) := by decide +kernel
theorem dL_law_368 : decode cL_law 368 = .ok (.iload 9, 2) := by decide +kernel
theorem dL_law_370 : decode cL_law 370 = .ok (.if_icmp .eq 5, 3) := by decide +kernel
theorem dL_law_373 : decode cL_law 373 = .ok (.iconst 0, 1) := by decide +kernel
theorem dL_law_374 : decode cL_law 374 = .ok (.ireturn, 1) := by decide +kernel
theorem dL_law_375 : decode cL_law 375 = .ok (.iconst 0, 1) := by decide +kernel
theorem dL_law_376 : decode cL_law 376 = .ok (.istore 11, 2) := by decide +kernel
theorem dL_law_378 : decode cL_law 378 = .ok (.iload 11, 2) := by decide +kernel
theorem dL_law_380 : decode cL_law 380 = .ok (.aload_n 1, 1) := by decide +kernel
theorem dL_law_381 : decode cL_law 381 = .ok (.iconst 1, 1) := by decide +kernel
theorem dL_law_382 : decode cL_law 382 = .ok (.invokevirtual 12, 3) := by decide +kernel
theorem dL_law_385 : decode cL_law 385 = .ok (.if_icmp .ge 84, 3) := by decide +kernel
theorem dL_law_388 : decode cL_law 388 = .ok (.aload_n 1, 1) := by decide +kernel
theorem dL_law_389 : decode cL_law 389 = .ok (.iload 11, 2) := by decide +kernel
theorem dL_law_391 : decode cL_law 391 = .ok (.iconst 5, 1) := by decide +kernel
theorem dL_law_392 : decode cL_law 392 = .ok (.invokevirtual 26, 3) := by decide +kernel
theorem dL_law_395 : decode cL_law 395 = .ok (.istore 12, 2) := by decide +kernel
theorem dL_law_397 : decode cL_law 397 = .ok (.aload_n 1, 1) := by decide +kernel
theorem dL_law_398 : decode cL_law 398 = .ok (.iload 11, 2) := by decide +kernel
theorem dL_law_400 : decode cL_law 400 = .ok (.iconst 0, 1) := by decide +kernel
theorem dL_law_401 : decode cL_law 401 = .ok (.invokevirtual 26, 3) := by decide +kernel
theorem dL_law_404 : decode cL_law 404 = .ok (.istore 13, 2) := by decide +kernel
theorem dL_law_406 : decode cL_law 406 = .ok (.iload 12, 2) := by decide +kernel
theorem dL_law_408 : decode cL_law 408 = .ok (.iconst 1, 1) := by decide +kernel
theorem dL_law_409 : decode cL_law 409 = .ok (.if_icmp .ne 32, 3) := by decide +kernel
theorem dL_law_412 : decode cL_law 412 = .ok (.aload_n 1, 1) := by decide +kernel
theorem dL_law_413 : decode cL_law 413 = .ok (.iload 13, 2) := by decide +kernel
theorem dL_law_415 : decode cL_law 415 = .ok (.iconst 3, 1) := by decide +kernel
theorem dL_law_416 : decode cL_law 416 = .ok (.invokevirtual 39, 3) := by decide +kernel
theorem dL_law_419 : decode cL_law 419 = .ok (.iload 11, 2) := by decide +kernel
theorem dL_law_421 : decode cL_law 421 = .ok (.if_icmp .ne 40, 3) := by decide +kernel
theorem dL_law_424 : decode cL_law 424 = .ok (.aload_n 1, 1) := by decide +kernel
theorem dL_law_425 : decode cL_law 425 = .ok (.iload 13, 2) := by decide +kernel
theorem dL_law_427 : decode cL_law 427 = .ok (.iconst 2, 1) := by decide +kernel
theorem dL_law_428 : decode cL_law 428 = .ok (.invokevirtual 39, 3) := by decide +kernel
theorem dL_law_431 : decode cL_law 431 = .ok (.aload_n 1, 1) := by decide +kernel
theorem dL_law_432 : decode cL_law 432 = .ok (.iload 11, 2) := by decide +kernel
theorem dL_law_434 : decode cL_law 434 = .ok (.iconst 1, 1) := by decide +kernel
theorem dL_law_435 : decode cL_law 435 = .ok (.invokevirtual 26, 3) := by decide +kernel
theorem dL_law_438 : decode cL_law 438 = .ok (.if_icmp .ne 23, 3) := by decide +kernel
theorem dL_law_441 : decode cL_law 441 = .ok (.iload 12, 2) := by decide +kernel
theorem dL_law_443 : decode cL_law 443 = .ok (.ifCond .ne 20, 3) := by decide +kernel
theorem dL_law_446 : decode cL_law 446 = .ok (.aload_n 1, 1) := by decide +kernel
theorem dL_law_447 : decode cL_law 447 = .ok (.iload 11, 2) := by decide +kernel
theorem dL_law_449 : decode cL_law 449 = .ok (.iconst 3, 1) := by decide +kernel
theorem dL_law_450 : decode cL_law 450 = .ok (.invokevirtual 26, 3) := by decide +kernel
theorem dL_law_453 : decode cL_law 453 = .ok (.aload_n 1, 1) := by decide +kernel
theorem dL_law_454 : decode cL_law 454 = .ok (.iconst 5, 1) := by decide +kernel
theorem dL_law_455 : decode cL_law 455 = .ok (.invokevirtual 12, 3) := by decide +kernel
theorem dL_law_458 : decode cL_law 458 = .ok (.if_icmp .gt 5, 3) := by decide +kernel
theorem dL_law_461 : decode cL_law 461 = .ok (.iconst 0, 1) := by decide +kernel
theorem dL_law_462 : decode cL_law 462 = .ok (.ireturn, 1) := by decide +kernel
theorem dL_law_463 : decode cL_law 463 = .ok (.iinc 11 1, 3) := by decide +kernel
theorem dL_law_466 : decode cL_law 466 = .ok (.goto (-88), 3) := by decide +kernel
theorem dL_law_469 : decode cL_law 469 = .ok (.aload_n 1, 1) := by decide +kernel
theorem dL_law_470 : decode cL_law 470 = .ok (.iconst 0, 1) := by decide +kernel
theorem dL_law_471 : decode cL_law 471 = .ok (.invokevirtual 112, 3) := by decide +kernel
theorem dL_law_474 : decode cL_law 474 = .ok (.istore 11, 2) := by decide +kernel
theorem dL_law_476 : decode cL_law 476 = .ok (.iload 11, 2) := by decide +kernel
theorem dL_law_478 : decode cL_law 478 = .ok (.ifCond .lt 7, 3) := by decide +kernel
theorem dL_law_481 : decode cL_law 481 = .ok (.iconst 1, 1) := by decide +kernel
theorem dL_law_482 : decode cL_law 482 = .ok (.goto 4, 3) := by decide +kernel
theorem dL_law_485 : decode cL_law 485 = .ok (.iconst 0, 1) := by decide +kernel
theorem dL_law_486 : decode cL_law 486 = .ok (.iload 9, 2) := by decide +kernel
theorem dL_law_488 : decode cL_law 488 = .ok (.ifCond .le 7, 3) := by decide +kernel
theorem dL_law_491 : decode cL_law 491 = .ok (.iconst 1, 1) := by decide +kernel
theorem dL_law_492 : decode cL_law 492 = .ok (.goto 4, 3) := by decide +kernel
theorem dL_law_495 : decode cL_law 495 = .ok (.iconst 0, 1) := by decide +kernel
theorem dL_law_496 : decode cL_law 496 = .ok (.if_icmp .ne 34, 3) := by decide +kernel
theorem dL_law_499 : decode cL_law 499 = .ok (.aload_n 1, 1) := by decide +kernel
theorem dL_law_500 : decode cL_law 500 = .ok (.iconst (-1), 1) := by decide +kernel
theorem dL_law_501 : decode cL_law 501 = .ok (.invokevirtual 44, 3) := by decide +kernel
theorem dL_law_504 : decode cL_law 504 = .ok (.aload_n 1, 1) := by decide +kernel
theorem dL_law_505 : decode cL_law 505 = .ok (.iconst 0, 1) := by decide +kernel
theorem dL_law_506 : decode cL_law 506 = .ok (.invokevirtual 44, 3) := by decide +kernel
theorem dL_law_509 : decode cL_law 509 = .ok (.aload_n 1, 1) := by decide +kernel
theorem dL_law_510 : decode cL_law 510 = .ok (.iconst 1, 1) := by decide +kernel
theorem dL_law_511 : decode cL_law 511 = .ok (.invokevirtual 44, 3) := by decide +kernel
theorem dL_law_514 : decode cL_law 514 = .ok (.iadd, 1) := by decide +kernel
theorem dL_law_515 : decode cL_law 515 = .ok (.aload_n 1, 1) := by decide +kernel
theorem dL_law_516 : decode cL_law 516 = .ok (.iconst 2, 1) := by decide +kernel
theorem dL_law_517 : decode cL_law 517 = .ok (.invokevirtual 44, 3) := by decide +kernel
theorem dL_law_520 : decode cL_law 520 = .ok (.iadd, 1) := by decide +kernel
theorem dL_law_521 : decode cL_law 521 = .ok (.aload_n 1, 1) := by decide +kernel
theorem dL_law_522 : decode cL_law 522 = .ok (.iconst 3, 1) := by decide +kernel
theorem dL_law_523 : decode cL_law 523 = .ok (.invokevirtual 44, 3) := by decide +kernel
theorem dL_law_526 : decode cL_law 526 = .ok (.iadd, 1) := by decide +kernel
theorem dL_law_527 : decode cL_law 527 = .ok (.if_icmp .eq 5, 3) := by decide +kernel
theorem dL_law_530 : decode cL_law 530 = .ok (.iconst 0, 1) := by decide +kernel
theorem dL_law_531 : decode cL_law 531 = .ok (.ireturn, 1) := by decide +kernel
theorem dL_law_532 : decode cL_law 532 = .ok (.iinc 3 1, 3) := by decide +kernel
theorem dL_law_535 : decode cL_law 535 = .ok (.goto (-523), 3) := by decide +kernel
theorem dL_law_538 : decode cL_law 538 = .ok (.aload_n 1, 1) := by decide +kernel
theorem dL_law_539 : decode cL_law 539 = .ok (.invokevirtual 102, 3) := by decide +kernel
theorem dL_law_542 : decode cL_law 542 = .ok (.iload_n 2, 1) := by decide +kernel
theorem dL_law_543 : decode cL_law 543 = .ok (.ifCond .ne 8, 3) := by decide +kernel
theorem dL_law_546 : decode cL_law 546 = .ok (.bipush (-2), 2) := by decide +kernel
theorem dL_law_548 : decode cL_law 548 = .ok (.goto 6, 3) := by decide +kernel
theorem dL_law_551 : decode cL_law 551 = .ok (.iload_n 2, 1) := by decide +kernel
theorem dL_law_552 : decode cL_law 552 = .ok (.iconst 1, 1) := by decide +kernel
theorem dL_law_553 : decode cL_law 553 = .ok (.isub, 1) := by decide +kernel
theorem dL_law_554 : decode cL_law 554 = .ok (.if_icmp .ne 7, 3) := by decide +kernel
theorem dL_law_557 : decode cL_law 557 = .ok (.iconst 1, 1) := by decide +kernel
theorem dL_law_558 : decode cL_law 558 = .ok (.goto 4, 3) := by decide +kernel
theorem dL_law_561 : decode cL_law 561 = .ok (.iconst 0, 1) := by decide +kernel
theorem dL_law_562 : decode cL_law 562 = .ok (.ireturn, 1) := by decide +kernel
