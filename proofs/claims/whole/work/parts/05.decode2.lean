theorem dX8_init_5 : decode cX8_init 5 = .ok (.iconst 4, 1) := by decide +kernel
theorem dX8_init_6 : decode cX8_init 6 = .ok (.newarray .int, 2) := by decide +kernel
theorem dX8_init_8 : decode cX8_init 8 = .ok (.putfield 7, 3) := by decide +kernel
theorem dX8_init_11 : decode cX8_init 11 = .ok (.aload_n 0, 1) := by decide +kernel
theorem dX8_init_12 : decode cX8_init 12 = .ok (.sipush 160, 3) := by decide +kernel
theorem dX8_init_15 : decode cX8_init 15 = .ok (.newarray .int, 2) := by decide +kernel
theorem dX8_init_17 : decode cX8_init 17 = .ok (.putfield 13, 3) := by decide +kernel
theorem dX8_init_20 : decode cX8_init 20 = .ok (.aload_n 0, 1) := by decide +kernel
theorem dX8_init_21 : decode cX8_init 21 = .ok (.sipush 160, 3) := by decide +kernel
theorem dX8_init_24 : decode cX8_init 24 = .ok (.newarray .int, 2) := by decide +kernel
theorem dX8_init_26 : decode cX8_init 26 = .ok (.putfield 16, 3) := by decide +kernel
theorem dX8_init_29 : decode cX8_init 29 = .ok (.aload_n 0, 1) := by decide +kernel
theorem dX8_init_30 : decode cX8_init 30 = .ok (.iconst 4, 1) := by decide +kernel
theorem dX8_init_31 : decode cX8_init 31 = .ok (.newarray .int, 2) := by decide +kernel
theorem dX8_init_33 : decode cX8_init 33 = .ok (.putfield 19, 3) := by decide +kernel
theorem dX8_init_36 : decode cX8_init 36 = .ok (.aload_n 0, 1) := by decide +kernel
theorem dX8_init_37 : decode cX8_init 37 = .ok (.bipush 20, 2) := by decide +kernel
theorem dX8_init_39 : decode cX8_init 39 = .ok (.newarray .int, 2) := by decide +kernel
theorem dX8_init_41 : decode cX8_init 41 = .ok (.putfield 22, 3) := by decide +kernel
theorem dX8_init_44 : decode cX8_init 44 = .ok (.aload_n 0, 1) := by decide +kernel
theorem dX8_init_45 : decode cX8_init 45 = .ok (.bipush 20, 2) := by decide +kernel
theorem dX8_init_47 : decode cX8_init 47 = .ok (.newarray .int, 2) := by decide +kernel
theorem dX8_init_49 : decode cX8_init 49 = .ok (.putfield 25, 3) := by decide +kernel
theorem dX8_init_52 : decode cX8_init 52 = .ok (.aload_n 0, 1) := by decide +kernel
theorem dX8_init_53 : decode cX8_init 53 = .ok (.bipush 20, 2) := by decide +kernel
theorem dX8_init_55 : decode cX8_init 55 = .ok (.newarray .int, 2) := by decide +kernel
theorem dX8_init_57 : decode cX8_init 57 = .ok (.putfield 28, 3) := by decide +kernel
theorem dX8_init_60 : decode cX8_init 60 = .ok (.aload_n 0, 1) := by decide +kernel
theorem dX8_init_61 : decode cX8_init 61 = .ok (.bipush 20, 2) := by decide +kernel
theorem dX8_init_63 : decode cX8_init 63 = .ok (.newarray .int, 2) := by decide +kernel
theorem dX8_init_65 : decode cX8_init 65 = .ok (.putfield 31, 3) := by decide +kernel
theorem dX8_init_68 : decode cX8_init 68 = .ok (.aload_n 0, 1) := by decide +kernel
theorem dX8_init_69 : decode cX8_init 69 = .ok (.bipush 20, 2) := by decide +kernel
theorem dX8_init_71 : decode cX8_init 71 = .ok (.newarray .int, 2) := by decide +kernel
theorem dX8_init_73 : decode cX8_init 73 = .ok (.putfield 34, 3) := by decide +kernel
theorem dX8_init_76 : decode cX8_init 76 = .ok (.aload_n 0, 1) := by decide +kernel
theorem dX8_init_77 : decode cX8_init 77 = .ok (.bipush 20, 2) := by decide +kernel
theorem dX8_init_79 : decode cX8_init 79 = .ok (.newarray .int, 2) := by decide +kernel
theorem dX8_init_81 : decode cX8_init 81 = .ok (.putfield 37, 3) := by decide +kernel
theorem dX8_init_84 : decode cX8_init 84 = .ok (.aload_n 0, 1) := by decide +kernel
theorem dX8_init_85 : decode cX8_init 85 = .ok (.bipush 20, 2) := by decide +kernel
theorem dX8_init_87 : decode cX8_init 87 = .ok (.newarray .int, 2) := by decide +kernel
theorem dX8_init_89 : decode cX8_init 89 = .ok (.putfield 40, 3) := by decide +kernel
theorem dX8_init_92 : decode cX8_init 92 = .ok (.aload_n 0, 1) := by decide +kernel
theorem dX8_init_93 : decode cX8_init 93 = .ok (.iconst 4, 1) := by decide +kernel
theorem dX8_init_94 : decode cX8_init 94 = .ok (.newarray .int, 2) := by decide +kernel
theorem dX8_init_96 : decode cX8_init 96 = .ok (.putfield 43, 3) := by decide +kernel
theorem dX8_init_99 : decode cX8_init 99 = .ok (.aload_n 0, 1) := by decide +kernel
theorem dX8_init_100 : decode cX8_init 100 = .ok (.bipush 120, 2) := by decide +kernel
theorem dX8_init_102 : decode cX8_init 102 = .ok (.newarray .int, 2) := by decide +kernel
theorem dX8_init_104 : decode cX8_init 104 = .ok (.putfield 46, 3) := by decide +kernel
theorem dX8_init_107 : decode cX8_init 107 = .ok (.aload_n 0, 1) := by decide +kernel
theorem dX8_init_108 : decode cX8_init 108 = .ok (.bipush 120, 2) := by decide +kernel
theorem dX8_init_110 : decode cX8_init 110 = .ok (.newarray .int, 2) := by decide +kernel
theorem dX8_init_112 : decode cX8_init 112 = .ok (.putfield 49, 3) := by decide +kernel
theorem dX8_init_115 : decode cX8_init 115 = .ok (.aload_n 0, 1) := by decide +kernel
theorem dX8_init_116 : decode cX8_init 116 = .ok (.bipush 120, 2) := by decide +kernel
theorem dX8_init_118 : decode cX8_init 118 = .ok (.newarray .int, 2) := by decide +kernel
theorem dX8_init_120 : decode cX8_init 120 = .ok (.putfield 52, 3) := by decide +kernel
theorem dX8_init_123 : decode cX8_init 123 = .ok (.aload_n 0, 1) := by decide +kernel
theorem dX8_init_124 : decode cX8_init 124 = .ok (.iconst 4, 1) := by decide +kernel
theorem dX8_init_125 : decode cX8_init 125 = .ok (.newarray .int, 2) := by decide +kernel
theorem dX8_init_127 : decode cX8_init 127 = .ok (.putfield 55, 3) := by decide +kernel
theorem dX8_init_130 : decode cX8_init 130 = .ok (.aload_n 0, 1) := by decide +kernel
theorem dX8_init_131 : decode cX8_init 131 = .ok (.iconst 4, 1) := by decide +kernel
theorem dX8_init_132 : decode cX8_init 132 = .ok (.newarray .int, 2) := by decide +kernel
theorem dX8_init_134 : decode cX8_init 134 = .ok (.putfield 58, 3) := by decide +kernel
theorem dX8_init_137 : decode cX8_init 137 = .ok (.aload_n 0, 1) := by decide +kernel
theorem dX8_init_138 : decode cX8_init 138 = .ok (.bipush 24, 2) := by decide +kernel
theorem dX8_init_140 : decode cX8_init 140 = .ok (.newarray .int, 2) := by decide +kernel
theorem dX8_init_142 : decode cX8_init 142 = .ok (.putfield 61, 3) := by decide +kernel
theorem dX8_init_145 : decode cX8_init 145 = .ok (.aload_n 0, 1) := by decide +kernel
theorem dX8_init_146 : decode cX8_init 146 = .ok (.bipush 24, 2) := by decide +kernel
theorem dX8_init_148 : decode cX8_init 148 = .ok (.newarray .int, 2) := by decide +kernel
theorem dX8_init_150 : decode cX8_init 150 = .ok (.putfield 64, 3) := by decide +kernel
theorem dX8_init_153 : decode cX8_init 153 = .ok (.aload_n 0, 1) := by decide +kernel
theorem dX8_init_154 : decode cX8_init 154 = .ok (.bipush 24, 2) := by decide +kernel
theorem dX8_init_156 : decode cX8_init 156 = .ok (.newarray .int, 2) := by decide +kernel
theorem dX8_init_158 : decode cX8_init 158 = .ok (.putfield 67, 3) := by decide +kernel
theorem dX8_init_161 : decode cX8_init 161 = .ok (.aload_n 0, 1) := by decide +kernel
theorem dX8_init_162 : decode cX8_init 162 = .ok (.bipush 48, 2) := by decide +kernel
theorem dX8_init_164 : decode cX8_init 164 = .ok (.newarray .int, 2) := by decide +kernel
theorem dX8_init_166 : decode cX8_init 166 = .ok (.putfield 70, 3) := by decide +kernel
theorem dX8_init_169 : decode cX8_init 169 = .ok (.aload_n 0, 1) := by decide +kernel
theorem dX8_init_170 : decode cX8_init 170 = .ok (.bipush 48, 2) := by decide +kernel
theorem dX8_init_172 : decode cX8_init 172 = .ok (.newarray .int, 2) := by decide +kernel
theorem dX8_init_174 : decode cX8_init 174 = .ok (.putfield 73, 3) := by decide +kernel
theorem dX8_init_177 : decode cX8_init 177 = .ok (.aload_n 0, 1) := by decide +kernel
theorem dX8_init_178 : decode cX8_init 178 = .ok (.bipush 48, 2) := by decide +kernel
theorem dX8_init_180 : decode cX8_init 180 = .ok (.newarray .int, 2) := by decide +kernel
theorem dX8_init_182 : decode cX8_init 182 = .ok (.putfield 76, 3) := by decide +kernel
theorem dX8_init_185 : decode cX8_init 185 = .ok (.aload_n 0, 1) := by decide +kernel
theorem dX8_init_186 : decode cX8_init 186 = .ok (.bipush 20, 2) := by decide +kernel
theorem dX8_init_188 : decode cX8_init 188 = .ok (.newarray .int, 2) := by decide +kernel
theorem dX8_init_190 : decode cX8_init 190 = .ok (.putfield 79, 3) := by decide +kernel
theorem dX8_init_193 : decode cX8_init 193 = .ok (.aload_n 0, 1) := by decide +kernel
theorem dX8_init_194 : decode cX8_init 194 = .ok (.bipush 20, 2) := by decide +kernel
theorem dX8_init_196 : decode cX8_init 196 = .ok (.newarray .int, 2) := by decide +kernel
theorem dX8_init_198 : decode cX8_init 198 = .ok (.putfield 82, 3) := by decide +kernel
theorem dX8_init_201 : decode cX8_init 201 = .ok (.aload_n 0, 1) := by decide +kernel
theorem dX8_init_202 : decode cX8_init 202 = .ok (.bipush 20, 2) := by decide +kernel
theorem dX8_init_204 : decode cX8_init 204 = .ok (.newarray .int, 2) := by decide +kernel
theorem dX8_init_206 : decode cX8_init 206 = .ok (.putfield 85, 3) := by decide +kernel
theorem dX8_init_209 : decode cX8_init 209 = .ok (.aload_n 0, 1) := by decide +kernel
theorem dX8_init_210 : decode cX8_init 210 = .ok (.sipush 400, 3) := by decide +kernel
theorem dX8_init_213 : decode cX8_init 213 = .ok (.newarray .int, 2) := by decide +kernel
theorem dX8_init_215 : decode cX8_init 215 = .ok (.putfield 88, 3) := by decide +kernel
theorem dX8_init_218 : decode cX8_init 218 = .ok (.aload_n 0, 1) := by decide +kernel
theorem dX8_init_219 : decode cX8_init 219 = .ok (.sipush 1000, 3) := by decide +kernel
theorem dX8_init_222 : decode cX8_init 222 = .ok (.newarray .int, 2) := by decide +kernel
theorem dX8_init_224 : decode cX8_init 224 = .ok (.putfield 91, 3) := by decide +kernel
theorem dX8_init_227 : decode cX8_init 227 = .ok (.aload_n 0, 1) := by decide +kernel
theorem dX8_init_228 : decode cX8_init 228 = .ok (.sipush 20000, 3) := by decide +kernel
theorem dX8_init_231 : decode cX8_init 231 = .ok (.newarray .int, 2) := by decide +kernel
theorem dX8_init_233 : decode cX8_init 233 = .ok (.putfield 94, 3) := by decide +kernel
theorem dX8_init_236 : decode cX8_init 236 = .ok (.aload_n 0, 1) := by decide +kernel
theorem dX8_init_237 : decode cX8_init 237 = .ok (.bipush 6, 2) := by decide +kernel
theorem dX8_init_239 : decode cX8_init 239 = .ok (.newarray .int, 2) := by decide +kernel
theorem dX8_init_241 : decode cX8_init 241 = .ok (.putfield 97, 3) := by decide +kernel
theorem dX8_init_244 : decode cX8_init 244 = .ok (.aload_n 0, 1) := by decide +kernel
theorem dX8_init_245 : decode cX8_init 245 = .ok (.bipush 6, 2) := by decide +kernel
theorem dX8_init_247 : decode cX8_init 247 = .ok (.newarray .int, 2) := by decide +kernel
theorem dX8_init_249 : decode cX8_init 249 = .ok (.putfield 100, 3) := by decide +kernel
theorem dX8_init_252 : decode cX8_init 252 = .ok (.aload_n 0, 1) := by decide +kernel
theorem dX8_init_253 : decode cX8_init 253 = .ok (.sipush 200, 3) := by decide +kernel
theorem dX8_init_256 : decode cX8_init 256 = .ok (.newarray .int, 2) := by decide +kernel
theorem dX8_init_258 : decode cX8_init 258 = .ok (.putfield 103, 3) := by decide +kernel
theorem dX8_init_261 : decode cX8_init 261 = .ok (.iconst 0, 1) := by decide +kernel
theorem dX8_init_262 : decode cX8_init 262 = .ok (.istore_n 1, 1) := by decide +kernel
theorem dX8_init_263 : decode cX8_init 263 = .ok (.iload_n 1, 1) := by decide +kernel
theorem dX8_init_264 : decode cX8_init 264 = .ok (.iconst 4, 1) := by decide +kernel
theorem dX8_init_265 : decode cX8_init 265 = .ok (.if_icmp .ge 16, 3) := by decide +kernel
theorem dX8_init_268 : decode cX8_init 268 = .ok (.aload_n 0, 1) := by decide +kernel
theorem dX8_init_269 : decode cX8_init 269 = .ok (.getfield 55, 3) := by decide +kernel
theorem dX8_init_272 : decode cX8_init 272 = .ok (.iload_n 1, 1) := by decide +kernel
theorem dX8_init_273 : decode cX8_init 273 = .ok (.iconst (-1), 1) := by decide +kernel
theorem dX8_init_274 : decode cX8_init 274 = .ok (.iastore, 1) := by decide +kernel
theorem dX8_init_275 : decode cX8_init 275 = .ok (.iinc 1 1, 3) := by decide +kernel
theorem dX8_init_278 : decode cX8_init 278 = .ok (.goto (-15), 3) := by decide +kernel
theorem dX8_init_281 : decode cX8_init 281 = .ok (.iconst 0, 1) := by decide +kernel
theorem dX8_init_282 : decode cX8_init 282 = .ok (.istore_n 1, 1) := by decide +kernel
theorem dX8_init_283 : decode cX8_init 283 = .ok (.iload_n 1, 1) := by decide +kernel
theorem dX8_init_284 : decode cX8_init 284 = .ok (.bipush 6, 2) := by decide +kernel
theorem dX8_init_286 : decode cX8_init 286 = .ok (.if_icmp .ge 17, 3) := by decide +kernel
theorem dX8_init_289 : decode cX8_init 289 = .ok (.aload_n 0, 1) := by decide +kernel
theorem dX8_init_290 : decode cX8_init 290 = .ok (.getfield 97, 3) := by decide +kernel
theorem dX8_init_293 : decode cX8_init 293 = .ok (.iload_n 1, 1) := by decide +kernel
theorem dX8_init_294 : decode cX8_init 294 = .ok (.bipush 10, 2) := by decide +kernel
theorem dX8_init_296 : decode cX8_init 296 = .ok (.iastore, 1) := by decide +kernel
theorem dX8_init_297 : decode cX8_init 297 = .ok (.iinc 1 1, 3) := by decide +kernel
theorem dX8_init_300 : decode cX8_init 300 = .ok (.goto (-17), 3) := by decide +kernel
theorem dX8_init_303 : decode cX8_init 303 = .ok (.return_, 1) := by decide +kernel
theorem dX8_thrown_0 : decode cX8_thrown 0 = .ok (.aload_n 0, 1) := by decide +kernel
theorem dX8_thrown_1 : decode cX8_thrown 1 = .ok (.getfield 106, 3) := by decide +kernel
theorem dX8_thrown_4 : decode cX8_thrown 4 = .ok (.ireturn, 1) := by decide +kernel
theorem dX8_can_0 : decode cX8_can 0 = .ok (.aload_n 0, 1) := by decide +kernel
theorem dX8_can_1 : decode cX8_can 1 = .ok (.iload_n 1, 1) := by decide +kernel
theorem dX8_can_2 : decode cX8_can 2 = .ok (.putfield 106, 3) := by decide +kernel
theorem dX8_can_5 : decode cX8_can 5 = .ok (.iload_n 1, 1) := by decide +kernel
theorem dX8_can_6 : decode cX8_can 6 = .ok (.ifCond .ne 7, 3) := by decide +kernel
theorem dX8_can_9 : decode cX8_can 9 = .ok (.iconst 1, 1) := by decide +kernel
theorem dX8_can_10 : decode cX8_can 10 = .ok (.goto 4, 3) := by decide +kernel
theorem dX8_can_13 : decode cX8_can 13 = .ok (.iconst 0, 1) := by decide +kernel
theorem dX8_can_14 : decode cX8_can 14 = .ok (.ireturn, 1) := by decide +kernel
theorem dX8_isIn_0 : decode cX8_isIn 0 = .ok (.iload_n 0, 1) := by decide +kernel
theorem dX8_isIn_1 : decode cX8_isIn 1 = .ok (.iload_n 1, 1) := by decide +kernel
theorem dX8_isIn_2 : decode cX8_isIn 2 = .ok (.if_icmp .lt 12, 3) := by decide +kernel
theorem dX8_isIn_5 : decode cX8_isIn 5 = .ok (.iload_n 0, 1) := by decide +kernel
theorem dX8_isIn_6 : decode cX8_isIn 6 = .ok (.iload_n 2, 1) := by decide +kernel
theorem dX8_isIn_7 : decode cX8_isIn 7 = .ok (.if_icmp .gt 7, 3) := by decide +kernel
theorem dX8_isIn_10 : decode cX8_isIn 10 = .ok (.iconst 1, 1) := by decide +kernel
theorem dX8_isIn_11 : decode cX8_isIn 11 = .ok (.goto 4, 3) := by decide +kernel
theorem dX8_isIn_14 : decode cX8_isIn 14 = .ok (.iconst 0, 1) := by decide +kernel
theorem dX8_isIn_15 : decode cX8_isIn 15 = .ok (.ireturn, 1) := by decide +kernel
theorem dX8_isGrammar_0 : decode cX8_isGrammar 0 = .ok (.iload_n 0, 1) := by decide +kernel
theorem dX8_isGrammar_1 : decode cX8_isGrammar 1 = .ok (.iconst 0, 1) := by decide +kernel
theorem dX8_isGrammar_2 : decode cX8_isGrammar 2 = .ok (.iconst 3, 1) := by decide +kernel
theorem dX8_isGrammar_3 : decode cX8_isGrammar 3 = .ok (.invokestatic 110, 3) := by decide +kernel
theorem dX8_isGrammar_6 : decode cX8_isGrammar 6 = .ok (.ireturn, 1) := by decide +kernel
theorem dX8_isWord_0 : decode cX8_isWord 0 = .ok (.iload_n 0, 1) := by decide +kernel
theorem dX8_isWord_1 : decode cX8_isWord 1 = .ok (.iconst 0, 1) := by decide +kernel
theorem dX8_isWord_2 : decode cX8_isWord 2 = .ok (.sipush 199, 3) := by decide +kernel
theorem dX8_isWord_5 : decode cX8_isWord 5 = .ok (.invokestatic 110, 3) := by decide +kernel
theorem dX8_isWord_8 : decode cX8_isWord 8 = .ok (.ireturn, 1) := by decide +kernel
theorem dX8_isWordOrNone_0 : decode cX8_isWordOrNone 0 = .ok (.iload_n 0, 1) := by decide +kernel
theorem dX8_isWordOrNone_1 : decode cX8_isWordOrNone 1 = .ok (.iconst (-1), 1) := by decide +kernel
theorem dX8_isWordOrNone_2 : decode cX8_isWordOrNone 2 = .ok (.sipush 199, 3) := by decide +kernel
theorem dX8_isWordOrNone_5 : decode cX8_isWordOrNone 5 = .ok (.invokestatic 110, 3) := by decide +kernel
theorem dX8_isWordOrNone_8 : decode cX8_isWordOrNone 8 = .ok (.ireturn, 1) := by decide +kernel
theorem dX8_isNumber_0 : decode cX8_isNumber 0 = .ok (.iload_n 0, 1) := by decide +kernel
theorem dX8_isNumber_1 : decode cX8_isNumber 1 = .ok (.iconst 0, 1) := by decide +kernel
theorem dX8_isNumber_2 : decode cX8_isNumber 2 = .ok (.sipush 9999, 3) := by decide +kernel
theorem dX8_isNumber_5 : decode cX8_isNumber 5 = .ok (.invokestatic 110, 3) := by decide +kernel
theorem dX8_isNumber_8 : decode cX8_isNumber 8 = .ok (.ireturn, 1) := by decide +kernel
theorem dX8_isBase_0 : decode cX8_isBase 0 = .ok (.iload_n 1, 1) := by decide +kernel
theorem dX8_isBase_1 : decode cX8_isBase 1 = .ok (.invokestatic 114, 3) := by decide +kernel
theorem dX8_isBase_4 : decode cX8_isBase 4 = .ok (.ifCond .eq 23, 3) := by decide +kernel
theorem dX8_isBase_7 : decode cX8_isBase 7 = .ok (.iload_n 2, 1) := by decide +kernel
theorem dX8_isBase_8 : decode cX8_isBase 8 = .ok (.iconst 0, 1) := by decide +kernel
theorem dX8_isBase_9 : decode cX8_isBase 9 = .ok (.aload_n 0, 1) := by decide +kernel
theorem dX8_isBase_10 : decode cX8_isBase 10 = .ok (.getfield 19, 3) := by decide +kernel
theorem dX8_isBase_13 : decode cX8_isBase 13 = .ok (.iload_n 1, 1) := by decide +kernel
theorem dX8_isBase_14 : decode cX8_isBase 14 = .ok (.iaload, 1) := by decide +kernel
theorem dX8_isBase_15 : decode cX8_isBase 15 = .ok (.iconst 1, 1) := by decide +kernel
theorem dX8_isBase_16 : decode cX8_isBase 16 = .ok (.isub, 1) := by decide +kernel
theorem dX8_isBase_17 : decode cX8_isBase 17 = .ok (.invokestatic 110, 3) := by decide +kernel
theorem dX8_isBase_20 : decode cX8_isBase 20 = .ok (.ifCond .eq 7, 3) := by decide +kernel
theorem dX8_isBase_23 : decode cX8_isBase 23 = .ok (.iconst 1, 1) := by decide +kernel
theorem dX8_isBase_24 : decode cX8_isBase 24 = .ok (.goto 4, 3) := by decide +kernel
theorem dX8_isBase_27 : decode cX8_isBase 27 = .ok (.iconst 0, 1) := by decide +kernel
theorem dX8_isBase_28 : decode cX8_isBase 28 = .ok (.ireturn, 1) := by decide +kernel
theorem dX8_isClass_0 : decode cX8_isClass 0 = .ok (.iload_n 0, 1) := by decide +kernel
theorem dX8_isClass_1 : decode cX8_isClass 1 = .ok (.iconst 0, 1) := by decide +kernel
theorem dX8_isClass_2 : decode cX8_isClass 2 = .ok (.iconst 2, 1) := by decide +kernel
theorem dX8_isClass_3 : decode cX8_isClass 3 = .ok (.invokestatic 110, 3) := by decide +kernel
theorem dX8_isClass_6 : decode cX8_isClass 6 = .ok (.ireturn, 1) := by decide +kernel
theorem dX8_atomAt_0 : decode cX8_atomAt 0 = .ok (.iconst (-1), 1) := by decide +kernel
theorem dX8_atomAt_1 : decode cX8_atomAt 1 = .ok (.istore_n 3, 1) := by decide +kernel
theorem dX8_atomAt_2 : decode cX8_atomAt 2 = .ok (.bipush 40, 2) := by decide +kernel
theorem dX8_atomAt_4 : decode cX8_atomAt 4 = .ok (.iload_n 1, 1) := by decide +kernel
theorem dX8_atomAt_5 : decode cX8_atomAt 5 = .ok (.imul, 1) := by decide +kernel
theorem dX8_atomAt_6 : decode cX8_atomAt 6 = .ok (.istore 4, 2) := by decide +kernel
theorem dX8_atomAt_8 : decode cX8_atomAt 8 = .ok (.iload 4, 2) := by decide +kernel
theorem dX8_atomAt_10 : decode cX8_atomAt 10 = .ok (.bipush 40, 2) := by decide +kernel
theorem dX8_atomAt_12 : decode cX8_atomAt 12 = .ok (.iload_n 1, 1) := by decide +kernel
theorem dX8_atomAt_13 : decode cX8_atomAt 13 = .ok (.imul, 1) := by decide +kernel
theorem dX8_atomAt_14 : decode cX8_atomAt 14 = .ok (.aload_n 0, 1) := by decide +kernel
theorem dX8_atomAt_15 : decode cX8_atomAt 15 = .ok (.getfield 7, 3) := by decide +kernel
theorem dX8_atomAt_18 : decode cX8_atomAt 18 = .ok (.iload_n 1, 1) := by decide +kernel
theorem dX8_atomAt_19 : decode cX8_atomAt 19 = .ok (.iaload, 1) := by decide +kernel
theorem dX8_atomAt_20 : decode cX8_atomAt 20 = .ok (.iadd, 1) := by decide +kernel
theorem dX8_atomAt_21 : decode cX8_atomAt 21 = .ok (.if_icmp .ge 27, 3) := by decide +kernel
theorem dX8_atomAt_24 : decode cX8_atomAt 24 = .ok (.aload_n 0, 1) := by decide +kernel
theorem dX8_atomAt_25 : decode cX8_atomAt 25 = .ok (.getfield 13, 3) := by decide +kernel
theorem dX8_atomAt_28 : decode cX8_atomAt 28 = .ok (.iload 4, 2) := by decide +kernel
theorem dX8_atomAt_30 : decode cX8_atomAt 30 = .ok (.iaload, 1) := by decide +kernel
theorem dX8_atomAt_31 : decode cX8_atomAt 31 = .ok (.iload_n 2, 1) := by decide +kernel
theorem dX8_atomAt_32 : decode cX8_atomAt 32 = .ok (.if_icmp .ne 8, 3) := by decide +kernel
theorem dX8_atomAt_35 : decode cX8_atomAt 35 = .ok (.iload 4, 2) := by decide +kernel
theorem dX8_atomAt_37 : decode cX8_atomAt 37 = .ok (.goto 4, 3) := by decide +kernel
theorem dX8_atomAt_40 : decode cX8_atomAt 40 = .ok (.iload_n 3, 1) := by decide +kernel
theorem dX8_atomAt_41 : decode cX8_atomAt 41 = .ok (.istore_n 3, 1) := by decide +kernel
theorem dX8_atomAt_42 : decode cX8_atomAt 42 = .ok (.iinc 4 1, 3) := by decide +kernel
theorem dX8_atomAt_45 : decode cX8_atomAt 45 = .ok (.goto (-37), 3) := by decide +kernel
theorem dX8_atomAt_48 : decode cX8_atomAt 48 = .ok (.iload_n 3, 1) := by decide +kernel
theorem dX8_atomAt_49 : decode cX8_atomAt 49 = .ok (.ireturn, 1) := by decide +kernel
theorem dX8_atom_0 : decode cX8_atom 0 = .ok (.iload_n 1, 1) := by decide +kernel
theorem dX8_atom_1 : decode cX8_atom 1 = .ok (.invokestatic 114, 3) := by decide +kernel
theorem dX8_atom_4 : decode cX8_atom 4 = .ok (.ifCond .eq 14, 3) := by decide +kernel
theorem dX8_atom_7 : decode cX8_atom 7 = .ok (.iload_n 3, 1) := by decide +kernel
theorem dX8_atom_8 : decode cX8_atom 8 = .ok (.invokestatic 118, 3) := by decide +kernel
theorem dX8_atom_11 : decode cX8_atom 11 = .ok (.ifCond .eq 7, 3) := by decide +kernel
theorem dX8_atom_14 : decode cX8_atom 14 = .ok (.iconst 1, 1) := by decide +kernel
theorem dX8_atom_15 : decode cX8_atom 15 = .ok (.goto 4, 3) := by decide +kernel
theorem dX8_atom_18 : decode cX8_atom 18 = .ok (.iconst 0, 1) := by decide +kernel
theorem dX8_atom_19 : decode cX8_atom 19 = .ok (.istore 4, 2) := by decide +kernel
theorem dX8_atom_21 : decode cX8_atom 21 = .ok (.iload_n 2, 1) := by decide +kernel
theorem dX8_atom_22 : decode cX8_atom 22 = .ok (.invokestatic 121, 3) := by decide +kernel
theorem dX8_atom_25 : decode cX8_atom 25 = .ok (.istore 5, 2) := by decide +kernel
theorem dX8_atom_27 : decode cX8_atom 27 = .ok (.iload 4, 2) := by decide +kernel
theorem dX8_atom_29 : decode cX8_atom 29 = .ok (.ifCond .eq 17, 3) := by decide +kernel
theorem dX8_atom_32 : decode cX8_atom 32 = .ok (.iload 5, 2) := by decide +kernel
theorem dX8_atom_34 : decode cX8_atom 34 = .ok (.ifCond .eq 12, 3) := by decide +kernel
theorem dX8_atom_37 : decode cX8_atom 37 = .ok (.aload_n 0, 1) := by decide +kernel
theorem dX8_atom_38 : decode cX8_atom 38 = .ok (.iload_n 1, 1) := by decide +kernel
theorem dX8_atom_39 : decode cX8_atom 39 = .ok (.iload_n 2, 1) := by decide +kernel
theorem dX8_atom_40 : decode cX8_atom 40 = .ok (.invokevirtual 124, 3) := by decide +kernel
theorem dX8_atom_43 : decode cX8_atom 43 = .ok (.goto 4, 3) := by decide +kernel
theorem dX8_atom_46 : decode cX8_atom 46 = .ok (.iconst (-1), 1) := by decide +kernel
theorem dX8_atom_47 : decode cX8_atom 47 = .ok (.istore 6, 2) := by decide +kernel
theorem dX8_atom_49 : decode cX8_atom 49 = .ok (.iload 4, 2) := by decide +kernel
theorem dX8_atom_51 : decode cX8_atom 51 = .ok (.ifCond .eq 29, 3) := by decide +kernel
theorem dX8_atom_54 : decode cX8_atom 54 = .ok (.iload 5, 2) := by decide +kernel
theorem dX8_atom_56 : decode cX8_atom 56 = .ok (.ifCond .eq 24, 3) := by decide +kernel
theorem dX8_atom_59 : decode cX8_atom 59 = .ok (.iload 6, 2) := by decide +kernel
theorem dX8_atom_61 : decode cX8_atom 61 = .ok (.iconst (-1), 1) := by decide +kernel
theorem dX8_atom_62 : decode cX8_atom 62 = .ok (.if_icmp .ne 18, 3) := by decide +kernel
theorem dX8_atom_65 : decode cX8_atom 65 = .ok (.aload_n 0, 1) := by decide +kernel
theorem dX8_atom_66 : decode cX8_atom 66 = .ok (.getfield 7, 3) := by decide +kernel
theorem dX8_atom_69 : decode cX8_atom 69 = .ok (.iload_n 1, 1) := by decide +kernel
theorem dX8_atom_70 : decode cX8_atom 70 = .ok (.iaload, 1) := by decide +kernel
theorem dX8_atom_71 : decode cX8_atom 71 = .ok (.bipush 40, 2) := by decide +kernel
theorem dX8_atom_73 : decode cX8_atom 73 = .ok (.if_icmp .ne 7, 3) := by decide +kernel
theorem dX8_atom_76 : decode cX8_atom 76 = .ok (.iconst 1, 1) := by decide +kernel
theorem dX8_atom_77 : decode cX8_atom 77 = .ok (.goto 4, 3) := by decide +kernel
theorem dX8_atom_80 : decode cX8_atom 80 = .ok (.iconst 0, 1) := by decide +kernel
theorem dX8_atom_81 : decode cX8_atom 81 = .ok (.istore 7, 2) := by decide +kernel
theorem dX8_atom_83 : decode cX8_atom 83 = .ok (.aload_n 0, 1) := by decide +kernel
theorem dX8_atom_84 : decode cX8_atom 84 = .ok (.iload 4, 2) := by decide +kernel
theorem dX8_atom_86 : decode cX8_atom 86 = .ok (.ifCond .ne 7, 3) := by decide +kernel
theorem dX8_atom_89 : decode cX8_atom 89 = .ok (.iconst 1, 1) := by decide +kernel
theorem dX8_atom_90 : decode cX8_atom 90 = .ok (.goto 22, 3) := by decide +kernel
theorem dX8_atom_93 : decode cX8_atom 93 = .ok (.iload 5, 2) := by decide +kernel
theorem dX8_atom_95 : decode cX8_atom 95 = .ok (.ifCond .ne 7, 3) := by decide +kernel
theorem dX8_atom_98 : decode cX8_atom 98 = .ok (.iconst 2, 1) := by decide +kernel
theorem dX8_atom_99 : decode cX8_atom 99 = .ok (.goto 13, 3) := by decide +kernel
theorem dX8_atom_102 : decode cX8_atom 102 = .ok (.iload 7, 2) := by decide +kernel
theorem dX8_atom_104 : decode cX8_atom 104 = .ok (.ifCond .eq 7, 3) := by decide +kernel
theorem dX8_atom_107 : decode cX8_atom 107 = .ok (.iconst 3, 1) := by decide +kernel
theorem dX8_atom_108 : decode cX8_atom 108 = .ok (.goto 4, 3) := by decide +kernel
theorem dX8_atom_111 : decode cX8_atom 111 = .ok (.iconst 0, 1) := by decide +kernel
theorem dX8_atom_112 : decode cX8_atom 112 = .ok (.invokevirtual 128, 3) := by decide +kernel
theorem dX8_atom_115 : decode cX8_atom 115 = .ok (.ifCond .ne 5, 3) := by decide +kernel
theorem dX8_atom_118 : decode cX8_atom 118 = .ok (.iconst 0, 1) := by decide +kernel
theorem dX8_atom_119 : decode cX8_atom 119 = .ok (.ireturn, 1) := by decide +kernel
theorem dX8_atom_120 : decode cX8_atom 120 = .ok (.iload 6, 2) := by decide +kernel
theorem dX8_atom_122 : decode cX8_atom 122 = .ok (.iconst (-1), 1) := by decide +kernel
theorem dX8_atom_123 : decode cX8_atom 123 = .ok (.if_icmp .ne 49, 3) := by decide +kernel
theorem dX8_atom_126 : decode cX8_atom 126 = .ok (.aload_n 0, 1) := by decide +kernel
theorem dX8_atom_127 : decode cX8_atom 127 = .ok (.getfield 13, 3) := by decide +kernel
theorem dX8_atom_130 : decode cX8_atom 130 = .ok (.bipush 40, 2) := by decide +kernel
theorem dX8_atom_132 : decode cX8_atom 132 = .ok (.iload_n 1, 1) := by decide +kernel
theorem dX8_atom_133 : decode cX8_atom 133 = .ok (.imul, 1) := by decide +kernel
theorem dX8_atom_134 : decode cX8_atom 134 = .ok (.aload_n 0, 1) := by decide +kernel
theorem dX8_atom_135 : decode cX8_atom 135 = .ok (.getfield 7, 3) := by decide +kernel
theorem dX8_atom_138 : decode cX8_atom 138 = .ok (.iload_n 1, 1) := by decide +kernel
theorem dX8_atom_139 : decode cX8_atom 139 = .ok (.iaload, 1) := by decide +kernel
theorem dX8_atom_140 : decode cX8_atom 140 = .ok (.iadd, 1) := by decide +kernel
theorem dX8_atom_141 : decode cX8_atom 141 = .ok (.iload_n 2, 1) := by decide +kernel
theorem dX8_atom_142 : decode cX8_atom 142 = .ok (.iastore, 1) := by decide +kernel
theorem dX8_atom_143 : decode cX8_atom 143 = .ok (.aload_n 0, 1) := by decide +kernel
theorem dX8_atom_144 : decode cX8_atom 144 = .ok (.getfield 16, 3) := by decide +kernel
theorem dX8_atom_147 : decode cX8_atom 147 = .ok (.bipush 40, 2) := by decide +kernel
theorem dX8_atom_149 : decode cX8_atom 149 = .ok (.iload_n 1, 1) := by decide +kernel
theorem dX8_atom_150 : decode cX8_atom 150 = .ok (.imul, 1) := by decide +kernel
theorem dX8_atom_151 : decode cX8_atom 151 = .ok (.aload_n 0, 1) := by decide +kernel
theorem dX8_atom_152 : decode cX8_atom 152 = .ok (.getfield 7, 3) := by decide +kernel
theorem dX8_atom_155 : decode cX8_atom 155 = .ok (.iload_n 1, 1) := by decide +kernel
theorem dX8_atom_156 : decode cX8_atom 156 = .ok (.iaload, 1) := by decide +kernel
theorem dX8_atom_157 : decode cX8_atom 157 = .ok (.iadd, 1) := by decide +kernel
theorem dX8_atom_158 : decode cX8_atom 158 = .ok (.iload_n 3, 1) := by decide +kernel
theorem dX8_atom_159 : decode cX8_atom 159 = .ok (.iastore, 1) := by decide +kernel
theorem dX8_atom_160 : decode cX8_atom 160 = .ok (.aload_n 0, 1) := by decide +kernel
theorem dX8_atom_161 : decode cX8_atom 161 = .ok (.getfield 7, 3) := by decide +kernel
theorem dX8_atom_164 : decode cX8_atom 164 = .ok (.iload_n 1, 1) := by decide +kernel
theorem dX8_atom_165 : decode cX8_atom 165 = .ok (.dup2, 1) := by decide +kernel
theorem dX8_atom_166 : decode cX8_atom 166 = .ok (.iaload, 1) := by decide +kernel
theorem dX8_atom_167 : decode cX8_atom 167 = .ok (.iconst 1, 1) := by decide +kernel
theorem dX8_atom_168 : decode cX8_atom 168 = .ok (.iadd, 1) := by decide +kernel
theorem dX8_atom_169 : decode cX8_atom 169 = .ok (.iastore, 1) := by decide +kernel
theorem dX8_atom_170 : decode cX8_atom 170 = .ok (.iconst (-1), 1) := by decide +kernel
theorem dX8_atom_171 : decode cX8_atom 171 = .ok (.ireturn, 1) := by decide +kernel
theorem dX8_atom_172 : decode cX8_atom 172 = .ok (.aload_n 0, 1) := by decide +kernel
theorem dX8_atom_173 : decode cX8_atom 173 = .ok (.getfield 16, 3) := by decide +kernel
theorem dX8_atom_176 : decode cX8_atom 176 = .ok (.iload 6, 2) := by decide +kernel
theorem dX8_atom_178 : decode cX8_atom 178 = .ok (.iaload, 1) := by decide +kernel
theorem dX8_atom_179 : decode cX8_atom 179 = .ok (.istore 8, 2) := by decide +kernel
theorem dX8_atom_181 : decode cX8_atom 181 = .ok (.aload_n 0, 1) := by decide +kernel
theorem dX8_atom_182 : decode cX8_atom 182 = .ok (.getfield 16, 3) := by decide +kernel
theorem dX8_atom_185 : decode cX8_atom 185 = .ok (.iload 6, 2) := by decide +kernel
theorem dX8_atom_187 : decode cX8_atom 187 = .ok (.iload_n 3, 1) := by decide +kernel
theorem dX8_atom_188 : decode cX8_atom 188 = .ok (.iastore, 1) := by decide +kernel
theorem dX8_atom_189 : decode cX8_atom 189 = .ok (.iload 8, 2) := by decide +kernel
theorem dX8_atom_191 : decode cX8_atom 191 = .ok (.ireturn, 1) := by decide +kernel
theorem dX8_dropAtom_0 : decode cX8_dropAtom 0 = .ok (.aload_n 0, 1) := by decide +kernel
theorem dX8_dropAtom_1 : decode cX8_dropAtom 1 = .ok (.iload_n 1, 1) := by decide +kernel
theorem dX8_dropAtom_2 : decode cX8_dropAtom 2 = .ok (.invokestatic 114, 3) := by decide +kernel
theorem dX8_dropAtom_5 : decode cX8_dropAtom 5 = .ok (.ifCond .eq 7, 3) := by decide +kernel
theorem dX8_dropAtom_8 : decode cX8_dropAtom 8 = .ok (.iconst 0, 1) := by decide +kernel
theorem dX8_dropAtom_9 : decode cX8_dropAtom 9 = .ok (.goto 4, 3) := by decide +kernel
theorem dX8_dropAtom_12 : decode cX8_dropAtom 12 = .ok (.iconst 1, 1) := by decide +kernel
theorem dX8_dropAtom_13 : decode cX8_dropAtom 13 = .ok (.invokevirtual 128, 3) := by decide +kernel
theorem dX8_dropAtom_16 : decode cX8_dropAtom 16 = .ok (.ifCond .ne 5, 3) := by decide +kernel
theorem dX8_dropAtom_19 : decode cX8_dropAtom 19 = .ok (.iconst 0, 1) := by decide +kernel
theorem dX8_dropAtom_20 : decode cX8_dropAtom 20 = .ok (.ireturn, 1) := by decide +kernel
theorem dX8_dropAtom_21 : decode cX8_dropAtom 21 = .ok (.aload_n 0, 1) := by decide +kernel
theorem dX8_dropAtom_22 : decode cX8_dropAtom 22 = .ok (.iload_n 1, 1) := by decide +kernel
theorem dX8_dropAtom_23 : decode cX8_dropAtom 23 = .ok (.iload_n 2, 1) := by decide +kernel
theorem dX8_dropAtom_24 : decode cX8_dropAtom 24 = .ok (.invokevirtual 124, 3) := by decide +kernel
theorem dX8_dropAtom_27 : decode cX8_dropAtom 27 = .ok (.istore_n 3, 1) := by decide +kernel
theorem dX8_dropAtom_28 : decode cX8_dropAtom 28 = .ok (.iload_n 3, 1) := by decide +kernel
theorem dX8_dropAtom_29 : decode cX8_dropAtom 29 = .ok (.iconst (-1), 1) := by decide +kernel
theorem dX8_dropAtom_30 : decode cX8_dropAtom 30 = .ok (.if_icmp .ne 5, 3) := by decide +kernel
theorem dX8_dropAtom_33 : decode cX8_dropAtom 33 = .ok (.iconst (-1), 1) := by decide +kernel
theorem dX8_dropAtom_34 : decode cX8_dropAtom 34 = .ok (.ireturn, 1) := by decide +kernel
theorem dX8_dropAtom_35 : decode cX8_dropAtom 35 = .ok (.aload_n 0, 1) := by decide +kernel
theorem dX8_dropAtom_36 : decode cX8_dropAtom 36 = .ok (.getfield 16, 3) := by decide +kernel
theorem dX8_dropAtom_39 : decode cX8_dropAtom 39 = .ok (.iload_n 3, 1) := by decide +kernel
theorem dX8_dropAtom_40 : decode cX8_dropAtom 40 = .ok (.iaload, 1) := by decide +kernel
theorem dX8_dropAtom_41 : decode cX8_dropAtom 41 = .ok (.istore 4, 2) := by decide +kernel
theorem dX8_dropAtom_43 : decode cX8_dropAtom 43 = .ok (.aload_n 0, 1) := by decide +kernel
theorem dX8_dropAtom_44 : decode cX8_dropAtom 44 = .ok (.getfield 7, 3) := by decide +kernel
theorem dX8_dropAtom_47 : decode cX8_dropAtom 47 = .ok (.iload_n 1, 1) := by decide +kernel
theorem dX8_dropAtom_48 : decode cX8_dropAtom 48 = .ok (.dup2, 1) := by decide +kernel
theorem dX8_dropAtom_49 : decode cX8_dropAtom 49 = .ok (.iaload, 1) := by decide +kernel
theorem dX8_dropAtom_50 : decode cX8_dropAtom 50 = .ok (.iconst 1, 1) := by decide +kernel
theorem dX8_dropAtom_51 : decode cX8_dropAtom 51 = .ok (.isub, 1) := by decide +kernel
theorem dX8_dropAtom_52 : decode cX8_dropAtom 52 = .ok (.iastore, 1) := by decide +kernel
theorem dX8_dropAtom_53 : decode cX8_dropAtom 53 = .ok (.aload_n 0, 1) := by decide +kernel
theorem dX8_dropAtom_54 : decode cX8_dropAtom 54 = .ok (.getfield 13, 3) := by decide +kernel
theorem dX8_dropAtom_57 : decode cX8_dropAtom 57 = .ok (.iload_n 3, 1) := by decide +kernel
theorem dX8_dropAtom_58 : decode cX8_dropAtom 58 = .ok (.aload_n 0, 1) := by decide +kernel
theorem dX8_dropAtom_59 : decode cX8_dropAtom 59 = .ok (.getfield 13, 3) := by decide +kernel
theorem dX8_dropAtom_62 : decode cX8_dropAtom 62 = .ok (.bipush 40, 2) := by decide +kernel
theorem dX8_dropAtom_64 : decode cX8_dropAtom 64 = .ok (.iload_n 1, 1) := by decide +kernel
theorem dX8_dropAtom_65 : decode cX8_dropAtom 65 = .ok (.imul, 1) := by decide +kernel
theorem dX8_dropAtom_66 : decode cX8_dropAtom 66 = .ok (.aload_n 0, 1) := by decide +kernel
theorem dX8_dropAtom_67 : decode cX8_dropAtom 67 = .ok (.getfield 7, 3) := by decide +kernel
theorem dX8_dropAtom_70 : decode cX8_dropAtom 70 = .ok (.iload_n 1, 1) := by decide +kernel
theorem dX8_dropAtom_71 : decode cX8_dropAtom 71 = .ok (.iaload, 1) := by decide +kernel
theorem dX8_dropAtom_72 : decode cX8_dropAtom 72 = .ok (.iadd, 1) := by decide +kernel
theorem dX8_dropAtom_73 : decode cX8_dropAtom 73 = .ok (.iaload, 1) := by decide +kernel
theorem dX8_dropAtom_74 : decode cX8_dropAtom 74 = .ok (.iastore, 1) := by decide +kernel
theorem dX8_dropAtom_75 : decode cX8_dropAtom 75 = .ok (.aload_n 0, 1) := by decide +kernel
theorem dX8_dropAtom_76 : decode cX8_dropAtom 76 = .ok (.getfield 16, 3) := by decide +kernel
theorem dX8_dropAtom_79 : decode cX8_dropAtom 79 = .ok (.iload_n 3, 1) := by decide +kernel
theorem dX8_dropAtom_80 : decode cX8_dropAtom 80 = .ok (.aload_n 0, 1) := by decide +kernel
theorem dX8_dropAtom_81 : decode cX8_dropAtom 81 = .ok (.getfield 16, 3) := by decide +kernel
theorem dX8_dropAtom_84 : decode cX8_dropAtom 84 = .ok (.bipush 40, 2) := by decide +kernel
theorem dX8_dropAtom_86 : decode cX8_dropAtom 86 = .ok (.iload_n 1, 1) := by decide +kernel
theorem dX8_dropAtom_87 : decode cX8_dropAtom 87 = .ok (.imul, 1) := by decide +kernel
theorem dX8_dropAtom_88 : decode cX8_dropAtom 88 = .ok (.aload_n 0, 1) := by decide +kernel
theorem dX8_dropAtom_89 : decode cX8_dropAtom 89 = .ok (.getfield 7, 3) := by decide +kernel
theorem dX8_dropAtom_92 : decode cX8_dropAtom 92 = .ok (.iload_n 1, 1) := by decide +kernel
theorem dX8_dropAtom_93 : decode cX8_dropAtom 93 = .ok (.iaload, 1) := by decide +kernel
theorem dX8_dropAtom_94 : decode cX8_dropAtom 94 = .ok (.iadd, 1) := by decide +kernel
theorem dX8_dropAtom_95 : decode cX8_dropAtom 95 = .ok (.iaload, 1) := by decide +kernel
theorem dX8_dropAtom_96 : decode cX8_dropAtom 96 = .ok (.iastore, 1) := by decide +kernel
theorem dX8_dropAtom_97 : decode cX8_dropAtom 97 = .ok (.iload 4, 2) := by decide +kernel
theorem dX8_dropAtom_99 : decode cX8_dropAtom 99 = .ok (.ireturn, 1) := by decide +kernel
theorem dX8_base_0 : decode cX8_base 0 = .ok (.iload_n 1, 1) := by decide +kernel
theorem dX8_base_1 : decode cX8_base 1 = .ok (.invokestatic 114, 3) := by decide +kernel
theorem dX8_base_4 : decode cX8_base 4 = .ok (.ifCond .eq 14, 3) := by decide +kernel
theorem dX8_base_7 : decode cX8_base 7 = .ok (.iload_n 3, 1) := by decide +kernel
theorem dX8_base_8 : decode cX8_base 8 = .ok (.invokestatic 118, 3) := by decide +kernel
theorem dX8_base_11 : decode cX8_base 11 = .ok (.ifCond .eq 7, 3) := by decide +kernel
theorem dX8_base_14 : decode cX8_base 14 = .ok (.iconst 1, 1) := by decide +kernel
theorem dX8_base_15 : decode cX8_base 15 = .ok (.goto 4, 3) := by decide +kernel
theorem dX8_base_18 : decode cX8_base 18 = .ok (.iconst 0, 1) := by decide +kernel
theorem dX8_base_19 : decode cX8_base 19 = .ok (.istore 6, 2) := by decide +kernel
theorem dX8_base_21 : decode cX8_base 21 = .ok (.iload_n 2, 1) := by decide +kernel
theorem dX8_base_22 : decode cX8_base 22 = .ok (.iconst 2, 1) := by decide +kernel
theorem dX8_base_23 : decode cX8_base 23 = .ok (.sipush 5000, 3) := by decide +kernel
theorem dX8_base_26 : decode cX8_base 26 = .ok (.invokestatic 110, 3) := by decide +kernel
theorem dX8_base_29 : decode cX8_base 29 = .ok (.ifCond .eq 29, 3) := by decide +kernel
theorem dX8_base_32 : decode cX8_base 32 = .ok (.iload 4, 2) := by decide +kernel
theorem dX8_base_34 : decode cX8_base 34 = .ok (.iconst 1, 1) := by decide +kernel
theorem dX8_base_35 : decode cX8_base 35 = .ok (.bipush 99, 2) := by decide +kernel
theorem dX8_base_37 : decode cX8_base 37 = .ok (.invokestatic 110, 3) := by decide +kernel
theorem dX8_base_40 : decode cX8_base 40 = .ok (.ifCond .eq 18, 3) := by decide +kernel
theorem dX8_base_43 : decode cX8_base 43 = .ok (.iload 5, 2) := by decide +kernel
theorem dX8_base_45 : decode cX8_base 45 = .ok (.iconst 0, 1) := by decide +kernel
theorem dX8_base_46 : decode cX8_base 46 = .ok (.bipush 15, 2) := by decide +kernel
theorem dX8_base_48 : decode cX8_base 48 = .ok (.invokestatic 110, 3) := by decide +kernel
theorem dX8_base_51 : decode cX8_base 51 = .ok (.ifCond .eq 7, 3) := by decide +kernel
theorem dX8_base_54 : decode cX8_base 54 = .ok (.iconst 1, 1) := by decide +kernel
theorem dX8_base_55 : decode cX8_base 55 = .ok (.goto 4, 3) := by decide +kernel
theorem dX8_base_58 : decode cX8_base 58 = .ok (.iconst 0, 1) := by decide +kernel
theorem dX8_base_59 : decode cX8_base 59 = .ok (.istore 7, 2) := by decide +kernel
theorem dX8_base_61 : decode cX8_base 61 = .ok (.iconst 0, 1) := by decide +kernel
theorem dX8_base_62 : decode cX8_base 62 = .ok (.istore 8, 2) := by decide +kernel
theorem dX8_base_64 : decode cX8_base 64 = .ok (.iconst 0, 1) := by decide +kernel
theorem dX8_base_65 : decode cX8_base 65 = .ok (.istore 9, 2) := by decide +kernel
theorem dX8_base_67 : decode cX8_base 67 = .ok (.iload 9, 2) := by decide +kernel
theorem dX8_base_69 : decode cX8_base 69 = .ok (.iconst 5, 1) := by decide +kernel
theorem dX8_base_70 : decode cX8_base 70 = .ok (.if_icmp .ge 52, 3) := by decide +kernel
theorem dX8_base_73 : decode cX8_base 73 = .ok (.iload 6, 2) := by decide +kernel
theorem dX8_base_75 : decode cX8_base 75 = .ok (.ifCond .eq 47, 3) := by decide +kernel
theorem dX8_base_78 : decode cX8_base 78 = .ok (.iload 8, 2) := by decide +kernel
theorem dX8_base_80 : decode cX8_base 80 = .ok (.ifCond .ne 29, 3) := by decide +kernel
theorem dX8_base_83 : decode cX8_base 83 = .ok (.iload 9, 2) := by decide +kernel
theorem dX8_base_85 : decode cX8_base 85 = .ok (.aload_n 0, 1) := by decide +kernel
theorem dX8_base_86 : decode cX8_base 86 = .ok (.getfield 19, 3) := by decide +kernel
theorem dX8_base_89 : decode cX8_base 89 = .ok (.iload_n 1, 1) := by decide +kernel
theorem dX8_base_90 : decode cX8_base 90 = .ok (.iaload, 1) := by decide +kernel
theorem dX8_base_91 : decode cX8_base 91 = .ok (.if_icmp .ge 22, 3) := by decide +kernel
theorem dX8_base_94 : decode cX8_base 94 = .ok (.aload_n 0, 1) := by decide +kernel
theorem dX8_base_95 : decode cX8_base 95 = .ok (.getfield 22, 3) := by decide +kernel
theorem dX8_base_98 : decode cX8_base 98 = .ok (.iconst 5, 1) := by decide +kernel
theorem dX8_base_99 : decode cX8_base 99 = .ok (.iload_n 1, 1) := by decide +kernel
theorem dX8_base_100 : decode cX8_base 100 = .ok (.imul, 1) := by decide +kernel
theorem dX8_base_101 : decode cX8_base 101 = .ok (.iload 9, 2) := by decide +kernel
theorem dX8_base_103 : decode cX8_base 103 = .ok (.iadd, 1) := by decide +kernel
theorem dX8_base_104 : decode cX8_base 104 = .ok (.iaload, 1) := by decide +kernel
theorem dX8_base_105 : decode cX8_base 105 = .ok (.iload_n 2, 1) := by decide +kernel
theorem dX8_base_106 : decode cX8_base 106 = .ok (.if_icmp .ne 7, 3) := by decide +kernel
theorem dX8_base_109 : decode cX8_base 109 = .ok (.iconst 1, 1) := by decide +kernel
theorem dX8_base_110 : decode cX8_base 110 = .ok (.goto 4, 3) := by decide +kernel
theorem dX8_base_113 : decode cX8_base 113 = .ok (.iconst 0, 1) := by decide +kernel
theorem dX8_base_114 : decode cX8_base 114 = .ok (.istore 8, 2) := by decide +kernel
theorem dX8_base_116 : decode cX8_base 116 = .ok (.iinc 9 1, 3) := by decide +kernel
theorem dX8_base_119 : decode cX8_base 119 = .ok (.goto (-52), 3) := by decide +kernel
theorem dX8_base_122 : decode cX8_base 122 = .ok (.aload_n 0, 1) := by decide +kernel
theorem dX8_base_123 : decode cX8_base 123 = .ok (.iload 6, 2) := by decide +kernel
theorem dX8_base_125 : decode cX8_base 125 = .ok (.ifCond .ne 7, 3) := by decide +kernel
theorem dX8_base_128 : decode cX8_base 128 = .ok (.iconst 1, 1) := by decide +kernel
theorem dX8_base_129 : decode cX8_base 129 = .ok (.goto 32, 3) := by decide +kernel
theorem dX8_base_132 : decode cX8_base 132 = .ok (.iload 7, 2) := by decide +kernel
theorem dX8_base_134 : decode cX8_base 134 = .ok (.ifCond .ne 7, 3) := by decide +kernel
theorem dX8_base_137 : decode cX8_base 137 = .ok (.iconst 2, 1) := by decide +kernel
theorem dX8_base_138 : decode cX8_base 138 = .ok (.goto 23, 3) := by decide +kernel
theorem dX8_base_141 : decode cX8_base 141 = .ok (.iload 8, 2) := by decide +kernel
theorem dX8_base_143 : decode cX8_base 143 = .ok (.ifCond .ne 13, 3) := by decide +kernel
theorem dX8_base_146 : decode cX8_base 146 = .ok (.aload_n 0, 1) := by decide +kernel
theorem dX8_base_147 : decode cX8_base 147 = .ok (.getfield 19, 3) := by decide +kernel
theorem dX8_base_150 : decode cX8_base 150 = .ok (.iload_n 1, 1) := by decide +kernel
theorem dX8_base_151 : decode cX8_base 151 = .ok (.iaload, 1) := by decide +kernel
theorem dX8_base_152 : decode cX8_base 152 = .ok (.iconst 5, 1) := by decide +kernel
theorem dX8_base_153 : decode cX8_base 153 = .ok (.if_icmp .ne 7, 3) := by decide +kernel
theorem dX8_base_156 : decode cX8_base 156 = .ok (.iconst 3, 1) := by decide +kernel
theorem dX8_base_157 : decode cX8_base 157 = .ok (.goto 4, 3) := by decide +kernel
theorem dX8_base_160 : decode cX8_base 160 = .ok (.iconst 0, 1) := by decide +kernel
theorem dX8_base_161 : decode cX8_base 161 = .ok (.invokevirtual 128, 3) := by decide +kernel
theorem dX8_base_164 : decode cX8_base 164 = .ok (.ifCond .ne 5, 3) := by decide +kernel
theorem dX8_base_167 : decode cX8_base 167 = .ok (.iconst 0, 1) := by decide +kernel
theorem dX8_base_168 : decode cX8_base 168 = .ok (.ireturn, 1) := by decide +kernel
theorem dX8_base_169 : decode cX8_base 169 = .ok (.iconst 5, 1) := by decide +kernel
theorem dX8_base_170 : decode cX8_base 170 = .ok (.iload_n 1, 1) := by decide +kernel
theorem dX8_base_171 : decode cX8_base 171 = .ok (.imul, 1) := by decide +kernel
theorem dX8_base_172 : decode cX8_base 172 = .ok (.aload_n 0, 1) := by decide +kernel
theorem dX8_base_173 : decode cX8_base 173 = .ok (.getfield 19, 3) := by decide +kernel
theorem dX8_base_176 : decode cX8_base 176 = .ok (.iload_n 1, 1) := by decide +kernel
theorem dX8_base_177 : decode cX8_base 177 = .ok (.iaload, 1) := by decide +kernel
theorem dX8_base_178 : decode cX8_base 178 = .ok (.iadd, 1) := by decide +kernel
theorem dX8_base_179 : decode cX8_base 179 = .ok (.istore 9, 2) := by decide +kernel
theorem dX8_base_181 : decode cX8_base 181 = .ok (.aload_n 0, 1) := by decide +kernel
theorem dX8_base_182 : decode cX8_base 182 = .ok (.getfield 22, 3) := by decide +kernel
theorem dX8_base_185 : decode cX8_base 185 = .ok (.iload 9, 2) := by decide +kernel
theorem dX8_base_187 : decode cX8_base 187 = .ok (.iload_n 2, 1) := by decide +kernel
theorem dX8_base_188 : decode cX8_base 188 = .ok (.iastore, 1) := by decide +kernel
theorem dX8_base_189 : decode cX8_base 189 = .ok (.aload_n 0, 1) := by decide +kernel
theorem dX8_base_190 : decode cX8_base 190 = .ok (.getfield 25, 3) := by decide +kernel
theorem dX8_base_193 : decode cX8_base 193 = .ok (.iload 9, 2) := by decide +kernel
theorem dX8_base_195 : decode cX8_base 195 = .ok (.iload_n 3, 1) := by decide +kernel
theorem dX8_base_196 : decode cX8_base 196 = .ok (.iastore, 1) := by decide +kernel
theorem dX8_base_197 : decode cX8_base 197 = .ok (.aload_n 0, 1) := by decide +kernel
theorem dX8_base_198 : decode cX8_base 198 = .ok (.getfield 28, 3) := by decide +kernel
theorem dX8_base_201 : decode cX8_base 201 = .ok (.iload 9, 2) := by decide +kernel
theorem dX8_base_203 : decode cX8_base 203 = .ok (.iload 4, 2) := by decide +kernel
theorem dX8_base_205 : decode cX8_base 205 = .ok (.iastore, 1) := by decide +kernel
theorem dX8_base_206 : decode cX8_base 206 = .ok (.aload_n 0, 1) := by decide +kernel
theorem dX8_base_207 : decode cX8_base 207 = .ok (.getfield 31, 3) := by decide +kernel
theorem dX8_base_210 : decode cX8_base 210 = .ok (.iload 9, 2) := by decide +kernel
theorem dX8_base_212 : decode cX8_base 212 = .ok (.iload 5, 2) := by decide +kernel
theorem dX8_base_214 : decode cX8_base 214 = .ok (.iastore, 1) := by decide +kernel
theorem dX8_base_215 : decode cX8_base 215 = .ok (.aload_n 0, 1) := by decide +kernel
theorem dX8_base_216 : decode cX8_base 216 = .ok (.getfield 34, 3) := by decide +kernel
theorem dX8_base_219 : decode cX8_base 219 = .ok (.iload 9, 2) := by decide +kernel
theorem dX8_base_221 : decode cX8_base 221 = .ok (.iconst (-1), 1) := by decide +kernel
theorem dX8_base_222 : decode cX8_base 222 = .ok (.iastore, 1) := by decide +kernel
theorem dX8_base_223 : decode cX8_base 223 = .ok (.aload_n 0, 1) := by decide +kernel
theorem dX8_base_224 : decode cX8_base 224 = .ok (.getfield 37, 3) := by decide +kernel
theorem dX8_base_227 : decode cX8_base 227 = .ok (.iload 9, 2) := by decide +kernel
theorem dX8_base_229 : decode cX8_base 229 = .ok (.iconst 0, 1) := by decide +kernel
theorem dX8_base_230 : decode cX8_base 230 = .ok (.iastore, 1) := by decide +kernel
theorem dX8_base_231 : decode cX8_base 231 = .ok (.aload_n 0, 1) := by decide +kernel
theorem dX8_base_232 : decode cX8_base 232 = .ok (.getfield 40, 3) := by decide +kernel
theorem dX8_base_235 : decode cX8_base 235 = .ok (.iload 9, 2) := by decide +kernel
theorem dX8_base_237 : decode cX8_base 237 = .ok (.iconst 0, 1) := by decide +kernel
theorem dX8_base_238 : decode cX8_base 238 = .ok (.iastore, 1) := by decide +kernel
theorem dX8_base_239 : decode cX8_base 239 = .ok (.aload_n 0, 1) := by decide +kernel
theorem dX8_base_240 : decode cX8_base 240 = .ok (.getfield 19, 3) := by decide +kernel
theorem dX8_base_243 : decode cX8_base 243 = .ok (.iload_n 1, 1) := by decide +kernel
theorem dX8_base_244 : decode cX8_base 244 = .ok (.dup2, 1) := by decide +kernel
theorem dX8_base_245 : decode cX8_base 245 = .ok (.iaload, 1) := by decide +kernel
theorem dX8_base_246 : decode cX8_base 246 = .ok (.iconst 1, 1) := by decide +kernel
theorem dX8_base_247 : decode cX8_base 247 = .ok (.iadd, 1) := by decide +kernel
theorem dX8_base_248 : decode cX8_base 248 = .ok (.iastore, 1) := by decide +kernel
theorem dX8_base_249 : decode cX8_base 249 = .ok (.aload_n 0, 1) := by decide +kernel
theorem dX8_base_250 : decode cX8_base 250 = .ok (.getfield 19, 3) := by decide +kernel
theorem dX8_base_253 : decode cX8_base 253 = .ok (.iload_n 1, 1) := by decide +kernel
theorem dX8_base_254 : decode cX8_base 254 = .ok (.iaload, 1) := by decide +kernel
theorem dX8_base_255 : decode cX8_base 255 = .ok (.iconst 1, 1) := by decide +kernel
theorem dX8_base_256 : decode cX8_base 256 = .ok (.isub, 1) := by decide +kernel
theorem dX8_base_257 : decode cX8_base 257 = .ok (.ireturn, 1) := by decide +kernel
theorem dX8_joint_0 : decode cX8_joint 0 = .ok (.aload_n 0, 1) := by decide +kernel
theorem dX8_joint_1 : decode cX8_joint 1 = .ok (.aload_n 0, 1) := by decide +kernel
theorem dX8_joint_2 : decode cX8_joint 2 = .ok (.iload_n 1, 1) := by decide +kernel
theorem dX8_joint_3 : decode cX8_joint 3 = .ok (.iload_n 2, 1) := by decide +kernel
theorem dX8_joint_4 : decode cX8_joint 4 = .ok (.invokevirtual 131, 3) := by decide +kernel
theorem dX8_joint_7 : decode cX8_joint 7 = .ok (.ifCond .eq 14, 3) := by decide +kernel
theorem dX8_joint_10 : decode cX8_joint 10 = .ok (.iload_n 3, 1) := by decide +kernel
theorem dX8_joint_11 : decode cX8_joint 11 = .ok (.invokestatic 135, 3) := by decide +kernel
theorem dX8_joint_14 : decode cX8_joint 14 = .ok (.ifCond .eq 7, 3) := by decide +kernel
theorem dX8_joint_17 : decode cX8_joint 17 = .ok (.iconst 0, 1) := by decide +kernel
theorem dX8_joint_18 : decode cX8_joint 18 = .ok (.goto 4, 3) := by decide +kernel
theorem dX8_joint_21 : decode cX8_joint 21 = .ok (.iconst 1, 1) := by decide +kernel
theorem dX8_joint_22 : decode cX8_joint 22 = .ok (.invokevirtual 128, 3) := by decide +kernel
theorem dX8_joint_25 : decode cX8_joint 25 = .ok (.ifCond .ne 5, 3) := by decide +kernel
theorem dX8_joint_28 : decode cX8_joint 28 = .ok (.iconst 0, 1) := by decide +kernel
theorem dX8_joint_29 : decode cX8_joint 29 = .ok (.ireturn, 1) := by decide +kernel
theorem dX8_joint_30 : decode cX8_joint 30 = .ok (.aload_n 0, 1) := by decide +kernel
theorem dX8_joint_31 : decode cX8_joint 31 = .ok (.getfield 34, 3) := by decide +kernel
theorem dX8_joint_34 : decode cX8_joint 34 = .ok (.iconst 5, 1) := by decide +kernel
theorem dX8_joint_35 : decode cX8_joint 35 = .ok (.iload_n 1, 1) := by decide +kernel
theorem dX8_joint_36 : decode cX8_joint 36 = .ok (.imul, 1) := by decide +kernel
theorem dX8_joint_37 : decode cX8_joint 37 = .ok (.iload_n 2, 1) := by decide +kernel
theorem dX8_joint_38 : decode cX8_joint 38 = .ok (.iadd, 1) := by decide +kernel
theorem dX8_joint_39 : decode cX8_joint 39 = .ok (.iaload, 1) := by decide +kernel
theorem dX8_joint_40 : decode cX8_joint 40 = .ok (.istore 4, 2) := by decide +kernel
theorem dX8_joint_42 : decode cX8_joint 42 = .ok (.aload_n 0, 1) := by decide +kernel
theorem dX8_joint_43 : decode cX8_joint 43 = .ok (.getfield 34, 3) := by decide +kernel
theorem dX8_joint_46 : decode cX8_joint 46 = .ok (.iconst 5, 1) := by decide +kernel
theorem dX8_joint_47 : decode cX8_joint 47 = .ok (.iload_n 1, 1) := by decide +kernel
theorem dX8_joint_48 : decode cX8_joint 48 = .ok (.imul, 1) := by decide +kernel
theorem dX8_joint_49 : decode cX8_joint 49 = .ok (.iload_n 2, 1) := by decide +kernel
theorem dX8_joint_50 : decode cX8_joint 50 = .ok (.iadd, 1) := by decide +kernel
theorem dX8_joint_51 : decode cX8_joint 51 = .ok (.iload_n 3, 1) := by decide +kernel
theorem dX8_joint_52 : decode cX8_joint 52 = .ok (.iastore, 1) := by decide +kernel
theorem dX8_joint_53 : decode cX8_joint 53 = .ok (.iload 4, 2) := by decide +kernel
theorem dX8_joint_55 : decode cX8_joint 55 = .ok (.ireturn, 1) := by decide +kernel
theorem dX8_less_0 : decode cX8_less 0 = .ok (.aload_n 0, 1) := by decide +kernel
theorem dX8_less_1 : decode cX8_less 1 = .ok (.iload_n 1, 1) := by decide +kernel
theorem dX8_less_2 : decode cX8_less 2 = .ok (.iload_n 2, 1) := by decide +kernel
theorem dX8_less_3 : decode cX8_less 3 = .ok (.invokevirtual 131, 3) := by decide +kernel
theorem dX8_less_6 : decode cX8_less 6 = .ok (.ifCond .eq 15, 3) := by decide +kernel
theorem dX8_less_9 : decode cX8_less 9 = .ok (.iload 4, 2) := by decide +kernel
theorem dX8_less_11 : decode cX8_less 11 = .ok (.invokestatic 118, 3) := by decide +kernel
theorem dX8_less_14 : decode cX8_less 14 = .ok (.ifCond .eq 7, 3) := by decide +kernel
theorem dX8_less_17 : decode cX8_less 17 = .ok (.iconst 1, 1) := by decide +kernel
theorem dX8_less_18 : decode cX8_less 18 = .ok (.goto 4, 3) := by decide +kernel
theorem dX8_less_21 : decode cX8_less 21 = .ok (.iconst 0, 1) := by decide +kernel
theorem dX8_less_22 : decode cX8_less 22 = .ok (.istore 5, 2) := by decide +kernel
theorem dX8_less_24 : decode cX8_less 24 = .ok (.aload_n 0, 1) := by decide +kernel
theorem dX8_less_25 : decode cX8_less 25 = .ok (.iload 5, 2) := by decide +kernel
theorem dX8_less_27 : decode cX8_less 27 = .ok (.ifCond .ne 7, 3) := by decide +kernel
theorem dX8_less_30 : decode cX8_less 30 = .ok (.iconst 1, 1) := by decide +kernel
theorem dX8_less_31 : decode cX8_less 31 = .ok (.goto 18, 3) := by decide +kernel
theorem dX8_less_34 : decode cX8_less 34 = .ok (.iload_n 3, 1) := by decide +kernel
theorem dX8_less_35 : decode cX8_less 35 = .ok (.iconst 0, 1) := by decide +kernel
theorem dX8_less_36 : decode cX8_less 36 = .ok (.bipush 9, 2) := by decide +kernel
theorem dX8_less_38 : decode cX8_less 38 = .ok (.invokestatic 110, 3) := by decide +kernel
theorem dX8_less_41 : decode cX8_less 41 = .ok (.ifCond .eq 7, 3) := by decide +kernel
theorem dX8_less_44 : decode cX8_less 44 = .ok (.iconst 0, 1) := by decide +kernel
theorem dX8_less_45 : decode cX8_less 45 = .ok (.goto 4, 3) := by decide +kernel
theorem dX8_less_48 : decode cX8_less 48 = .ok (.iconst 2, 1) := by decide +kernel
theorem dX8_less_49 : decode cX8_less 49 = .ok (.invokevirtual 128, 3) := by decide +kernel
theorem dX8_less_52 : decode cX8_less 52 = .ok (.ifCond .ne 5, 3) := by decide +kernel
theorem dX8_less_55 : decode cX8_less 55 = .ok (.iconst 0, 1) := by decide +kernel
theorem dX8_less_56 : decode cX8_less 56 = .ok (.ireturn, 1) := by decide +kernel
theorem dX8_less_57 : decode cX8_less 57 = .ok (.iconst 5, 1) := by decide +kernel
theorem dX8_less_58 : decode cX8_less 58 = .ok (.iload_n 1, 1) := by decide +kernel
theorem dX8_less_59 : decode cX8_less 59 = .ok (.imul, 1) := by decide +kernel
theorem dX8_less_60 : decode cX8_less 60 = .ok (.iload_n 2, 1) := by decide +kernel
theorem dX8_less_61 : decode cX8_less 61 = .ok (.iadd, 1) := by decide +kernel
theorem dX8_less_62 : decode cX8_less 62 = .ok (.istore 6, 2) := by decide +kernel
theorem dX8_less_64 : decode cX8_less 64 = .ok (.aload_n 0, 1) := by decide +kernel
theorem dX8_less_65 : decode cX8_less 65 = .ok (.getfield 37, 3) := by decide +kernel
theorem dX8_less_68 : decode cX8_less 68 = .ok (.iload 6, 2) := by decide +kernel
theorem dX8_less_70 : decode cX8_less 70 = .ok (.iaload, 1) := by decide +kernel
theorem dX8_less_71 : decode cX8_less 71 = .ok (.istore 7, 2) := by decide +kernel
theorem dX8_less_73 : decode cX8_less 73 = .ok (.aload_n 0, 1) := by decide +kernel
theorem dX8_less_74 : decode cX8_less 74 = .ok (.getfield 37, 3) := by decide +kernel
theorem dX8_less_77 : decode cX8_less 77 = .ok (.iload 6, 2) := by decide +kernel
theorem dX8_less_79 : decode cX8_less 79 = .ok (.iload_n 3, 1) := by decide +kernel
theorem dX8_less_80 : decode cX8_less 80 = .ok (.iastore, 1) := by decide +kernel
theorem dX8_less_81 : decode cX8_less 81 = .ok (.aload_n 0, 1) := by decide +kernel
theorem dX8_less_82 : decode cX8_less 82 = .ok (.getfield 40, 3) := by decide +kernel
theorem dX8_less_85 : decode cX8_less 85 = .ok (.iload 6, 2) := by decide +kernel
theorem dX8_less_87 : decode cX8_less 87 = .ok (.iload 4, 2) := by decide +kernel
theorem dX8_less_89 : decode cX8_less 89 = .ok (.iastore, 1) := by decide +kernel
theorem dX8_less_90 : decode cX8_less 90 = .ok (.iload 7, 2) := by decide +kernel
theorem dX8_less_92 : decode cX8_less 92 = .ok (.ireturn, 1) := by decide +kernel
theorem dX8_formAt_0 : decode cX8_formAt 0 = .ok (.iconst (-1), 1) := by decide +kernel
theorem dX8_formAt_1 : decode cX8_formAt 1 = .ok (.istore 4, 2) := by decide +kernel
theorem dX8_formAt_3 : decode cX8_formAt 3 = .ok (.bipush 30, 2) := by decide +kernel
theorem dX8_formAt_5 : decode cX8_formAt 5 = .ok (.iload_n 1, 1) := by decide +kernel
theorem dX8_formAt_6 : decode cX8_formAt 6 = .ok (.imul, 1) := by decide +kernel
theorem dX8_formAt_7 : decode cX8_formAt 7 = .ok (.istore 5, 2) := by decide +kernel
theorem dX8_formAt_9 : decode cX8_formAt 9 = .ok (.iload 5, 2) := by decide +kernel
theorem dX8_formAt_11 : decode cX8_formAt 11 = .ok (.bipush 30, 2) := by decide +kernel
theorem dX8_formAt_13 : decode cX8_formAt 13 = .ok (.iload_n 1, 1) := by decide +kernel
theorem dX8_formAt_14 : decode cX8_formAt 14 = .ok (.imul, 1) := by decide +kernel
theorem dX8_formAt_15 : decode cX8_formAt 15 = .ok (.aload_n 0, 1) := by decide +kernel
theorem dX8_formAt_16 : decode cX8_formAt 16 = .ok (.getfield 43, 3) := by decide +kernel
theorem dX8_formAt_19 : decode cX8_formAt 19 = .ok (.iload_n 1, 1) := by decide +kernel
theorem dX8_formAt_20 : decode cX8_formAt 20 = .ok (.iaload, 1) := by decide +kernel
theorem dX8_formAt_21 : decode cX8_formAt 21 = .ok (.iadd, 1) := by decide +kernel
theorem dX8_formAt_22 : decode cX8_formAt 22 = .ok (.if_icmp .ge 40, 3) := by decide +kernel
theorem dX8_formAt_25 : decode cX8_formAt 25 = .ok (.aload_n 0, 1) := by decide +kernel
theorem dX8_formAt_26 : decode cX8_formAt 26 = .ok (.getfield 46, 3) := by decide +kernel
theorem dX8_formAt_29 : decode cX8_formAt 29 = .ok (.iload 5, 2) := by decide +kernel
theorem dX8_formAt_31 : decode cX8_formAt 31 = .ok (.iaload, 1) := by decide +kernel
theorem dX8_formAt_32 : decode cX8_formAt 32 = .ok (.iload_n 2, 1) := by decide +kernel
theorem dX8_formAt_33 : decode cX8_formAt 33 = .ok (.if_icmp .ne 19, 3) := by decide +kernel
theorem dX8_formAt_36 : decode cX8_formAt 36 = .ok (.aload_n 0, 1) := by decide +kernel
theorem dX8_formAt_37 : decode cX8_formAt 37 = .ok (.getfield 49, 3) := by decide +kernel
theorem dX8_formAt_40 : decode cX8_formAt 40 = .ok (.iload 5, 2) := by decide +kernel
theorem dX8_formAt_42 : decode cX8_formAt 42 = .ok (.iaload, 1) := by decide +kernel
theorem dX8_formAt_43 : decode cX8_formAt 43 = .ok (.iload_n 3, 1) := by decide +kernel
theorem dX8_formAt_44 : decode cX8_formAt 44 = .ok (.if_icmp .ne 8, 3) := by decide +kernel
theorem dX8_formAt_47 : decode cX8_formAt 47 = .ok (.iload 5, 2) := by decide +kernel
theorem dX8_formAt_49 : decode cX8_formAt 49 = .ok (.goto 5, 3) := by decide +kernel
theorem dX8_formAt_52 : decode cX8_formAt 52 = .ok (.iload 4, 2) := by decide +kernel
theorem dX8_formAt_54 : decode cX8_formAt 54 = .ok (.istore 4, 2) := by decide +kernel
theorem dX8_formAt_56 : decode cX8_formAt 56 = .ok (.iinc 5 1, 3) := by decide +kernel
theorem dX8_formAt_59 : decode cX8_formAt 59 = .ok (.goto (-50), 3) := by decide +kernel
theorem dX8_formAt_62 : decode cX8_formAt 62 = .ok (.iload 4, 2) := by decide +kernel
theorem dX8_formAt_64 : decode cX8_formAt 64 = .ok (.ireturn, 1) := by decide +kernel
theorem dX8_form_0 : decode cX8_form 0 = .ok (.iload_n 1, 1) := by decide +kernel
theorem dX8_form_1 : decode cX8_form 1 = .ok (.invokestatic 114, 3) := by decide +kernel
theorem dX8_form_4 : decode cX8_form 4 = .ok (.ifCond .eq 22, 3) := by decide +kernel
theorem dX8_form_7 : decode cX8_form 7 = .ok (.iload_n 2, 1) := by decide +kernel
theorem dX8_form_8 : decode cX8_form 8 = .ok (.invokestatic 118, 3) := by decide +kernel
theorem dX8_form_11 : decode cX8_form 11 = .ok (.ifCond .eq 15, 3) := by decide +kernel
theorem dX8_form_14 : decode cX8_form 14 = .ok (.iload 4, 2) := by decide +kernel
theorem dX8_form_16 : decode cX8_form 16 = .ok (.invokestatic 118, 3) := by decide +kernel
theorem dX8_form_19 : decode cX8_form 19 = .ok (.ifCond .eq 7, 3) := by decide +kernel
theorem dX8_form_22 : decode cX8_form 22 = .ok (.iconst 1, 1) := by decide +kernel
theorem dX8_form_23 : decode cX8_form 23 = .ok (.goto 4, 3) := by decide +kernel
theorem dX8_form_26 : decode cX8_form 26 = .ok (.iconst 0, 1) := by decide +kernel
theorem dX8_form_27 : decode cX8_form 27 = .ok (.istore 5, 2) := by decide +kernel
theorem dX8_form_29 : decode cX8_form 29 = .ok (.iload_n 3, 1) := by decide +kernel
theorem dX8_form_30 : decode cX8_form 30 = .ok (.iconst 0, 1) := by decide +kernel
theorem dX8_form_31 : decode cX8_form 31 = .ok (.iconst 3, 1) := by decide +kernel
theorem dX8_form_32 : decode cX8_form 32 = .ok (.invokestatic 110, 3) := by decide +kernel
theorem dX8_form_35 : decode cX8_form 35 = .ok (.istore 6, 2) := by decide +kernel
theorem dX8_form_37 : decode cX8_form 37 = .ok (.iload 5, 2) := by decide +kernel
theorem dX8_form_39 : decode cX8_form 39 = .ok (.ifCond .eq 13, 3) := by decide +kernel
theorem dX8_form_42 : decode cX8_form 42 = .ok (.aload_n 0, 1) := by decide +kernel
theorem dX8_form_43 : decode cX8_form 43 = .ok (.iload_n 1, 1) := by decide +kernel
theorem dX8_form_44 : decode cX8_form 44 = .ok (.iload_n 2, 1) := by decide +kernel
theorem dX8_form_45 : decode cX8_form 45 = .ok (.iload_n 3, 1) := by decide +kernel
theorem dX8_form_46 : decode cX8_form 46 = .ok (.invokevirtual 138, 3) := by decide +kernel
theorem dX8_form_49 : decode cX8_form 49 = .ok (.goto 4, 3) := by decide +kernel
theorem dX8_form_52 : decode cX8_form 52 = .ok (.iconst (-1), 1) := by decide +kernel
theorem dX8_form_53 : decode cX8_form 53 = .ok (.istore 7, 2) := by decide +kernel
theorem dX8_form_55 : decode cX8_form 55 = .ok (.iload 5, 2) := by decide +kernel
theorem dX8_form_57 : decode cX8_form 57 = .ok (.ifCond .eq 24, 3) := by decide +kernel
theorem dX8_form_60 : decode cX8_form 60 = .ok (.iload 7, 2) := by decide +kernel
theorem dX8_form_62 : decode cX8_form 62 = .ok (.iconst (-1), 1) := by decide +kernel
theorem dX8_form_63 : decode cX8_form 63 = .ok (.if_icmp .ne 18, 3) := by decide +kernel
theorem dX8_form_66 : decode cX8_form 66 = .ok (.aload_n 0, 1) := by decide +kernel
theorem dX8_form_67 : decode cX8_form 67 = .ok (.getfield 43, 3) := by decide +kernel
theorem dX8_form_70 : decode cX8_form 70 = .ok (.iload_n 1, 1) := by decide +kernel
theorem dX8_form_71 : decode cX8_form 71 = .ok (.iaload, 1) := by decide +kernel
theorem dX8_form_72 : decode cX8_form 72 = .ok (.bipush 30, 2) := by decide +kernel
theorem dX8_form_74 : decode cX8_form 74 = .ok (.if_icmp .ne 7, 3) := by decide +kernel
theorem dX8_form_77 : decode cX8_form 77 = .ok (.iconst 1, 1) := by decide +kernel
theorem dX8_form_78 : decode cX8_form 78 = .ok (.goto 4, 3) := by decide +kernel
theorem dX8_form_81 : decode cX8_form 81 = .ok (.iconst 0, 1) := by decide +kernel
theorem dX8_form_82 : decode cX8_form 82 = .ok (.istore 8, 2) := by decide +kernel
theorem dX8_form_84 : decode cX8_form 84 = .ok (.aload_n 0, 1) := by decide +kernel
theorem dX8_form_85 : decode cX8_form 85 = .ok (.iload 5, 2) := by decide +kernel
theorem dX8_form_87 : decode cX8_form 87 = .ok (.ifCond .ne 7, 3) := by decide +kernel
theorem dX8_form_90 : decode cX8_form 90 = .ok (.iconst 1, 1) := by decide +kernel
theorem dX8_form_91 : decode cX8_form 91 = .ok (.goto 22, 3) := by decide +kernel
theorem dX8_form_94 : decode cX8_form 94 = .ok (.iload 6, 2) := by decide +kernel
theorem dX8_form_96 : decode cX8_form 96 = .ok (.ifCond .ne 7, 3) := by decide +kernel
theorem dX8_form_99 : decode cX8_form 99 = .ok (.iconst 2, 1) := by decide +kernel
theorem dX8_form_100 : decode cX8_form 100 = .ok (.goto 13, 3) := by decide +kernel
theorem dX8_form_103 : decode cX8_form 103 = .ok (.iload 8, 2) := by decide +kernel
theorem dX8_form_105 : decode cX8_form 105 = .ok (.ifCond .eq 7, 3) := by decide +kernel
theorem dX8_form_108 : decode cX8_form 108 = .ok (.iconst 3, 1) := by decide +kernel
theorem dX8_form_109 : decode cX8_form 109 = .ok (.goto 4, 3) := by decide +kernel
theorem dX8_form_112 : decode cX8_form 112 = .ok (.iconst 0, 1) := by decide +kernel
theorem dX8_form_113 : decode cX8_form 113 = .ok (.invokevirtual 128, 3) := by decide +kernel
theorem dX8_form_116 : decode cX8_form 116 = .ok (.ifCond .ne 5, 3) := by decide +kernel
theorem dX8_form_119 : decode cX8_form 119 = .ok (.iconst 0, 1) := by decide +kernel
theorem dX8_form_120 : decode cX8_form 120 = .ok (.ireturn, 1) := by decide +kernel
theorem dX8_form_121 : decode cX8_form 121 = .ok (.iload 7, 2) := by decide +kernel
theorem dX8_form_123 : decode cX8_form 123 = .ok (.iconst (-1), 1) := by decide +kernel
theorem dX8_form_124 : decode cX8_form 124 = .ok (.if_icmp .ne 7, 3) := by decide +kernel
theorem dX8_form_127 : decode cX8_form 127 = .ok (.iconst (-1), 1) := by decide +kernel
theorem dX8_form_128 : decode cX8_form 128 = .ok (.goto 10, 3) := by decide +kernel
theorem dX8_form_131 : decode cX8_form 131 = .ok (.aload_n 0, 1) := by decide +kernel
theorem dX8_form_132 : decode cX8_form 132 = .ok (.getfield 52, 3) := by decide +kernel
theorem dX8_form_135 : decode cX8_form 135 = .ok (.iload 7, 2) := by decide +kernel
theorem dX8_form_137 : decode cX8_form 137 = .ok (.iaload, 1) := by decide +kernel
theorem dX8_form_138 : decode cX8_form 138 = .ok (.istore 9, 2) := by decide +kernel
theorem dX8_form_140 : decode cX8_form 140 = .ok (.iload 7, 2) := by decide +kernel
theorem dX8_form_142 : decode cX8_form 142 = .ok (.iconst (-1), 1) := by decide +kernel
theorem dX8_form_143 : decode cX8_form 143 = .ok (.if_icmp .ne 26, 3) := by decide +kernel
theorem dX8_form_146 : decode cX8_form 146 = .ok (.bipush 30, 2) := by decide +kernel
theorem dX8_form_148 : decode cX8_form 148 = .ok (.iload_n 1, 1) := by decide +kernel
theorem dX8_form_149 : decode cX8_form 149 = .ok (.imul, 1) := by decide +kernel
theorem dX8_form_150 : decode cX8_form 150 = .ok (.aload_n 0, 1) := by decide +kernel
theorem dX8_form_151 : decode cX8_form 151 = .ok (.getfield 43, 3) := by decide +kernel
theorem dX8_form_154 : decode cX8_form 154 = .ok (.iload_n 1, 1) := by decide +kernel
theorem dX8_form_155 : decode cX8_form 155 = .ok (.iaload, 1) := by decide +kernel
theorem dX8_form_156 : decode cX8_form 156 = .ok (.iadd, 1) := by decide +kernel
theorem dX8_form_157 : decode cX8_form 157 = .ok (.istore 7, 2) := by decide +kernel
theorem dX8_form_159 : decode cX8_form 159 = .ok (.aload_n 0, 1) := by decide +kernel
theorem dX8_form_160 : decode cX8_form 160 = .ok (.getfield 43, 3) := by decide +kernel
theorem dX8_form_163 : decode cX8_form 163 = .ok (.iload_n 1, 1) := by decide +kernel
theorem dX8_form_164 : decode cX8_form 164 = .ok (.dup2, 1) := by decide +kernel
theorem dX8_form_165 : decode cX8_form 165 = .ok (.iaload, 1) := by decide +kernel
theorem dX8_form_166 : decode cX8_form 166 = .ok (.iconst 1, 1) := by decide +kernel
theorem dX8_form_167 : decode cX8_form 167 = .ok (.iadd, 1) := by decide +kernel
theorem dX8_form_168 : decode cX8_form 168 = .ok (.iastore, 1) := by decide +kernel
theorem dX8_form_169 : decode cX8_form 169 = .ok (.aload_n 0, 1) := by decide +kernel
theorem dX8_form_170 : decode cX8_form 170 = .ok (.getfield 46, 3) := by decide +kernel
theorem dX8_form_173 : decode cX8_form 173 = .ok (.iload 7, 2) := by decide +kernel
theorem dX8_form_175 : decode cX8_form 175 = .ok (.iload_n 2, 1) := by decide +kernel
theorem dX8_form_176 : decode cX8_form 176 = .ok (.iastore, 1) := by decide +kernel
theorem dX8_form_177 : decode cX8_form 177 = .ok (.aload_n 0, 1) := by decide +kernel
theorem dX8_form_178 : decode cX8_form 178 = .ok (.getfield 49, 3) := by decide +kernel
theorem dX8_form_181 : decode cX8_form 181 = .ok (.iload 7, 2) := by decide +kernel
theorem dX8_form_183 : decode cX8_form 183 = .ok (.iload_n 3, 1) := by decide +kernel
theorem dX8_form_184 : decode cX8_form 184 = .ok (.iastore, 1) := by decide +kernel
theorem dX8_form_185 : decode cX8_form 185 = .ok (.aload_n 0, 1) := by decide +kernel
theorem dX8_form_186 : decode cX8_form 186 = .ok (.getfield 52, 3) := by decide +kernel
theorem dX8_form_189 : decode cX8_form 189 = .ok (.iload 7, 2) := by decide +kernel
theorem dX8_form_191 : decode cX8_form 191 = .ok (.iload 4, 2) := by decide +kernel
theorem dX8_form_193 : decode cX8_form 193 = .ok (.iastore, 1) := by decide +kernel
theorem dX8_form_194 : decode cX8_form 194 = .ok (.iload 9, 2) := by decide +kernel
theorem dX8_form_196 : decode cX8_form 196 = .ok (.ireturn, 1) := by decide +kernel
theorem dX8_ordinal_0 : decode cX8_ordinal 0 = .ok (.aload_n 0, 1) := by decide +kernel
theorem dX8_ordinal_1 : decode cX8_ordinal 1 = .ok (.iload_n 1, 1) := by decide +kernel
theorem dX8_ordinal_2 : decode cX8_ordinal 2 = .ok (.invokestatic 114, 3) := by decide +kernel
theorem dX8_ordinal_5 : decode cX8_ordinal 5 = .ok (.ifCond .eq 14, 3) := by decide +kernel
theorem dX8_ordinal_8 : decode cX8_ordinal 8 = .ok (.iload_n 2, 1) := by decide +kernel
theorem dX8_ordinal_9 : decode cX8_ordinal 9 = .ok (.invokestatic 135, 3) := by decide +kernel
theorem dX8_ordinal_12 : decode cX8_ordinal 12 = .ok (.ifCond .eq 7, 3) := by decide +kernel
theorem dX8_ordinal_15 : decode cX8_ordinal 15 = .ok (.iconst 0, 1) := by decide +kernel
theorem dX8_ordinal_16 : decode cX8_ordinal 16 = .ok (.goto 4, 3) := by decide +kernel
theorem dX8_ordinal_19 : decode cX8_ordinal 19 = .ok (.iconst 1, 1) := by decide +kernel
theorem dX8_ordinal_20 : decode cX8_ordinal 20 = .ok (.invokevirtual 128, 3) := by decide +kernel
theorem dX8_ordinal_23 : decode cX8_ordinal 23 = .ok (.ifCond .ne 5, 3) := by decide +kernel
theorem dX8_ordinal_26 : decode cX8_ordinal 26 = .ok (.iconst 0, 1) := by decide +kernel
theorem dX8_ordinal_27 : decode cX8_ordinal 27 = .ok (.ireturn, 1) := by decide +kernel
theorem dX8_ordinal_28 : decode cX8_ordinal 28 = .ok (.aload_n 0, 1) := by decide +kernel
theorem dX8_ordinal_29 : decode cX8_ordinal 29 = .ok (.getfield 55, 3) := by decide +kernel
theorem dX8_ordinal_32 : decode cX8_ordinal 32 = .ok (.iload_n 1, 1) := by decide +kernel
theorem dX8_ordinal_33 : decode cX8_ordinal 33 = .ok (.iaload, 1) := by decide +kernel
theorem dX8_ordinal_34 : decode cX8_ordinal 34 = .ok (.istore_n 3, 1) := by decide +kernel
theorem dX8_ordinal_35 : decode cX8_ordinal 35 = .ok (.aload_n 0, 1) := by decide +kernel
theorem dX8_ordinal_36 : decode cX8_ordinal 36 = .ok (.getfield 55, 3) := by decide +kernel
theorem dX8_ordinal_39 : decode cX8_ordinal 39 = .ok (.iload_n 1, 1) := by decide +kernel
theorem dX8_ordinal_40 : decode cX8_ordinal 40 = .ok (.iload_n 2, 1) := by decide +kernel
theorem dX8_ordinal_41 : decode cX8_ordinal 41 = .ok (.iastore, 1) := by decide +kernel
theorem dX8_ordinal_42 : decode cX8_ordinal 42 = .ok (.iload_n 3, 1) := by decide +kernel
theorem dX8_ordinal_43 : decode cX8_ordinal 43 = .ok (.ireturn, 1) := by decide +kernel
theorem dX8_seam_0 : decode cX8_seam 0 = .ok (.iload_n 1, 1) := by decide +kernel
theorem dX8_seam_1 : decode cX8_seam 1 = .ok (.invokestatic 114, 3) := by decide +kernel
theorem dX8_seam_4 : decode cX8_seam 4 = .ok (.ifCond .eq 29, 3) := by decide +kernel
theorem dX8_seam_7 : decode cX8_seam 7 = .ok (.iload_n 2, 1) := by decide +kernel
theorem dX8_seam_8 : decode cX8_seam 8 = .ok (.invokestatic 118, 3) := by decide +kernel
theorem dX8_seam_11 : decode cX8_seam 11 = .ok (.ifCond .eq 22, 3) := by decide +kernel
theorem dX8_seam_14 : decode cX8_seam 14 = .ok (.iload_n 3, 1) := by decide +kernel
theorem dX8_seam_15 : decode cX8_seam 15 = .ok (.invokestatic 118, 3) := by decide +kernel
theorem dX8_seam_18 : decode cX8_seam 18 = .ok (.ifCond .eq 15, 3) := by decide +kernel
theorem dX8_seam_21 : decode cX8_seam 21 = .ok (.iload 4, 2) := by decide +kernel
theorem dX8_seam_23 : decode cX8_seam 23 = .ok (.invokestatic 118, 3) := by decide +kernel
theorem dX8_seam_26 : decode cX8_seam 26 = .ok (.ifCond .eq 7, 3) := by decide +kernel
theorem dX8_seam_29 : decode cX8_seam 29 = .ok (.iconst 1, 1) := by decide +kernel
theorem dX8_seam_30 : decode cX8_seam 30 = .ok (.goto 4, 3) := by decide +kernel
theorem dX8_seam_33 : decode cX8_seam 33 = .ok (.iconst 0, 1) := by decide +kernel
theorem dX8_seam_34 : decode cX8_seam 34 = .ok (.istore 5, 2) := by decide +kernel
theorem dX8_seam_36 : decode cX8_seam 36 = .ok (.aload_n 0, 1) := by decide +kernel
theorem dX8_seam_37 : decode cX8_seam 37 = .ok (.iload 5, 2) := by decide +kernel
theorem dX8_seam_39 : decode cX8_seam 39 = .ok (.ifCond .ne 7, 3) := by decide +kernel
theorem dX8_seam_42 : decode cX8_seam 42 = .ok (.iconst 1, 1) := by decide +kernel
theorem dX8_seam_43 : decode cX8_seam 43 = .ok (.goto 19, 3) := by decide +kernel
theorem dX8_seam_46 : decode cX8_seam 46 = .ok (.aload_n 0, 1) := by decide +kernel
theorem dX8_seam_47 : decode cX8_seam 47 = .ok (.getfield 58, 3) := by decide +kernel
theorem dX8_seam_50 : decode cX8_seam 50 = .ok (.iload_n 1, 1) := by decide +kernel
theorem dX8_seam_51 : decode cX8_seam 51 = .ok (.iaload, 1) := by decide +kernel
theorem dX8_seam_52 : decode cX8_seam 52 = .ok (.bipush 6, 2) := by decide +kernel
theorem dX8_seam_54 : decode cX8_seam 54 = .ok (.if_icmp .ne 7, 3) := by decide +kernel
theorem dX8_seam_57 : decode cX8_seam 57 = .ok (.iconst 2, 1) := by decide +kernel
theorem dX8_seam_58 : decode cX8_seam 58 = .ok (.goto 4, 3) := by decide +kernel
theorem dX8_seam_61 : decode cX8_seam 61 = .ok (.iconst 0, 1) := by decide +kernel
theorem dX8_seam_62 : decode cX8_seam 62 = .ok (.invokevirtual 128, 3) := by decide +kernel
theorem dX8_seam_65 : decode cX8_seam 65 = .ok (.ifCond .ne 5, 3) := by decide +kernel
theorem dX8_seam_68 : decode cX8_seam 68 = .ok (.iconst 0, 1) := by decide +kernel
theorem dX8_seam_69 : decode cX8_seam 69 = .ok (.ireturn, 1) := by decide +kernel
theorem dX8_seam_70 : decode cX8_seam 70 = .ok (.bipush 6, 2) := by decide +kernel
theorem dX8_seam_72 : decode cX8_seam 72 = .ok (.iload_n 1, 1) := by decide +kernel
theorem dX8_seam_73 : decode cX8_seam 73 = .ok (.imul, 1) := by decide +kernel
theorem dX8_seam_74 : decode cX8_seam 74 = .ok (.aload_n 0, 1) := by decide +kernel
theorem dX8_seam_75 : decode cX8_seam 75 = .ok (.getfield 58, 3) := by decide +kernel
theorem dX8_seam_78 : decode cX8_seam 78 = .ok (.iload_n 1, 1) := by decide +kernel
theorem dX8_seam_79 : decode cX8_seam 79 = .ok (.iaload, 1) := by decide +kernel
theorem dX8_seam_80 : decode cX8_seam 80 = .ok (.iadd, 1) := by decide +kernel
theorem dX8_seam_81 : decode cX8_seam 81 = .ok (.istore 6, 2) := by decide +kernel
theorem dX8_seam_83 : decode cX8_seam 83 = .ok (.aload_n 0, 1) := by decide +kernel
theorem dX8_seam_84 : decode cX8_seam 84 = .ok (.getfield 61, 3) := by decide +kernel
theorem dX8_seam_87 : decode cX8_seam 87 = .ok (.iload 6, 2) := by decide +kernel
theorem dX8_seam_89 : decode cX8_seam 89 = .ok (.iload_n 2, 1) := by decide +kernel
theorem dX8_seam_90 : decode cX8_seam 90 = .ok (.iastore, 1) := by decide +kernel
theorem dX8_seam_91 : decode cX8_seam 91 = .ok (.aload_n 0, 1) := by decide +kernel
theorem dX8_seam_92 : decode cX8_seam 92 = .ok (.getfield 64, 3) := by decide +kernel
theorem dX8_seam_95 : decode cX8_seam 95 = .ok (.iload 6, 2) := by decide +kernel
theorem dX8_seam_97 : decode cX8_seam 97 = .ok (.iload_n 3, 1) := by decide +kernel
theorem dX8_seam_98 : decode cX8_seam 98 = .ok (.iastore, 1) := by decide +kernel
theorem dX8_seam_99 : decode cX8_seam 99 = .ok (.aload_n 0, 1) := by decide +kernel
theorem dX8_seam_100 : decode cX8_seam 100 = .ok (.getfield 67, 3) := by decide +kernel
theorem dX8_seam_103 : decode cX8_seam 103 = .ok (.iload 6, 2) := by decide +kernel
theorem dX8_seam_105 : decode cX8_seam 105 = .ok (.iload 4, 2) := by decide +kernel
theorem dX8_seam_107 : decode cX8_seam 107 = .ok (.iastore, 1) := by decide +kernel
theorem dX8_seam_108 : decode cX8_seam 108 = .ok (.aload_n 0, 1) := by decide +kernel
theorem dX8_seam_109 : decode cX8_seam 109 = .ok (.getfield 58, 3) := by decide +kernel
theorem dX8_seam_112 : decode cX8_seam 112 = .ok (.iload_n 1, 1) := by decide +kernel
theorem dX8_seam_113 : decode cX8_seam 113 = .ok (.dup2, 1) := by decide +kernel
theorem dX8_seam_114 : decode cX8_seam 114 = .ok (.iaload, 1) := by decide +kernel
theorem dX8_seam_115 : decode cX8_seam 115 = .ok (.iconst 1, 1) := by decide +kernel
theorem dX8_seam_116 : decode cX8_seam 116 = .ok (.iadd, 1) := by decide +kernel
theorem dX8_seam_117 : decode cX8_seam 117 = .ok (.iastore, 1) := by decide +kernel
theorem dX8_seam_118 : decode cX8_seam 118 = .ok (.aload_n 0, 1) := by decide +kernel
theorem dX8_seam_119 : decode cX8_seam 119 = .ok (.getfield 58, 3) := by decide +kernel
theorem dX8_seam_122 : decode cX8_seam 122 = .ok (.iload_n 1, 1) := by decide +kernel
theorem dX8_seam_123 : decode cX8_seam 123 = .ok (.iaload, 1) := by decide +kernel
theorem dX8_seam_124 : decode cX8_seam 124 = .ok (.ireturn, 1) := by decide +kernel
theorem dX8_empty_0 : decode cX8_empty 0 = .ok (.aload_n 0, 1) := by decide +kernel
theorem dX8_empty_1 : decode cX8_empty 1 = .ok (.iload_n 1, 1) := by decide +kernel
theorem dX8_empty_2 : decode cX8_empty 2 = .ok (.invokestatic 114, 3) := by decide +kernel
theorem dX8_empty_5 : decode cX8_empty 5 = .ok (.ifCond .eq 7, 3) := by decide +kernel
theorem dX8_empty_8 : decode cX8_empty 8 = .ok (.iconst 0, 1) := by decide +kernel
theorem dX8_empty_9 : decode cX8_empty 9 = .ok (.goto 4, 3) := by decide +kernel
theorem dX8_empty_12 : decode cX8_empty 12 = .ok (.iconst 1, 1) := by decide +kernel
theorem dX8_empty_13 : decode cX8_empty 13 = .ok (.invokevirtual 128, 3) := by decide +kernel
theorem dX8_empty_16 : decode cX8_empty 16 = .ok (.ifCond .ne 5, 3) := by decide +kernel
theorem dX8_empty_19 : decode cX8_empty 19 = .ok (.iconst 0, 1) := by decide +kernel
theorem dX8_empty_20 : decode cX8_empty 20 = .ok (.ireturn, 1) := by decide +kernel
theorem dX8_empty_21 : decode cX8_empty 21 = .ok (.aload_n 0, 1) := by decide +kernel
theorem dX8_empty_22 : decode cX8_empty 22 = .ok (.getfield 7, 3) := by decide +kernel
theorem dX8_empty_25 : decode cX8_empty 25 = .ok (.iload_n 1, 1) := by decide +kernel
theorem dX8_empty_26 : decode cX8_empty 26 = .ok (.iaload, 1) := by decide +kernel
theorem dX8_empty_27 : decode cX8_empty 27 = .ok (.aload_n 0, 1) := by decide +kernel
theorem dX8_empty_28 : decode cX8_empty 28 = .ok (.getfield 19, 3) := by decide +kernel
theorem dX8_empty_31 : decode cX8_empty 31 = .ok (.iload_n 1, 1) := by decide +kernel
theorem dX8_empty_32 : decode cX8_empty 32 = .ok (.iaload, 1) := by decide +kernel
theorem dX8_empty_33 : decode cX8_empty 33 = .ok (.iadd, 1) := by decide +kernel
theorem dX8_empty_34 : decode cX8_empty 34 = .ok (.istore_n 2, 1) := by decide +kernel
theorem dX8_empty_35 : decode cX8_empty 35 = .ok (.aload_n 0, 1) := by decide +kernel
theorem dX8_empty_36 : decode cX8_empty 36 = .ok (.getfield 7, 3) := by decide +kernel
theorem dX8_empty_39 : decode cX8_empty 39 = .ok (.iload_n 1, 1) := by decide +kernel
theorem dX8_empty_40 : decode cX8_empty 40 = .ok (.iconst 0, 1) := by decide +kernel
theorem dX8_empty_41 : decode cX8_empty 41 = .ok (.iastore, 1) := by decide +kernel
theorem dX8_empty_42 : decode cX8_empty 42 = .ok (.aload_n 0, 1) := by decide +kernel
theorem dX8_empty_43 : decode cX8_empty 43 = .ok (.getfield 19, 3) := by decide +kernel
theorem dX8_empty_46 : decode cX8_empty 46 = .ok (.iload_n 1, 1) := by decide +kernel
theorem dX8_empty_47 : decode cX8_empty 47 = .ok (.iconst 0, 1) := by decide +kernel
theorem dX8_empty_48 : decode cX8_empty 48 = .ok (.iastore, 1) := by decide +kernel
theorem dX8_empty_49 : decode cX8_empty 49 = .ok (.aload_n 0, 1) := by decide +kernel
theorem dX8_empty_50 : decode cX8_empty 50 = .ok (.getfield 43, 3) := by decide +kernel
theorem dX8_empty_53 : decode cX8_empty 53 = .ok (.iload_n 1, 1) := by decide +kernel
theorem dX8_empty_54 : decode cX8_empty 54 = .ok (.iconst 0, 1) := by decide +kernel
theorem dX8_empty_55 : decode cX8_empty 55 = .ok (.iastore, 1) := by decide +kernel
theorem dX8_empty_56 : decode cX8_empty 56 = .ok (.aload_n 0, 1) := by decide +kernel
theorem dX8_empty_57 : decode cX8_empty 57 = .ok (.getfield 58, 3) := by decide +kernel
theorem dX8_empty_60 : decode cX8_empty 60 = .ok (.iload_n 1, 1) := by decide +kernel
theorem dX8_empty_61 : decode cX8_empty 61 = .ok (.iconst 0, 1) := by decide +kernel
theorem dX8_empty_62 : decode cX8_empty 62 = .ok (.iastore, 1) := by decide +kernel
theorem dX8_empty_63 : decode cX8_empty 63 = .ok (.aload_n 0, 1) := by decide +kernel
theorem dX8_empty_64 : decode cX8_empty 64 = .ok (.getfield 55, 3) := by decide +kernel
theorem dX8_empty_67 : decode cX8_empty 67 = .ok (.iload_n 1, 1) := by decide +kernel
theorem dX8_empty_68 : decode cX8_empty 68 = .ok (.iconst (-1), 1) := by decide +kernel
theorem dX8_empty_69 : decode cX8_empty 69 = .ok (.iastore, 1) := by decide +kernel
theorem dX8_empty_70 : decode cX8_empty 70 = .ok (.iload_n 2, 1) := by decide +kernel
theorem dX8_empty_71 : decode cX8_empty 71 = .ok (.ireturn, 1) := by decide +kernel
theorem dX8_waits_0 : decode cX8_waits 0 = .ok (.aload_n 0, 1) := by decide +kernel
theorem dX8_waits_1 : decode cX8_waits 1 = .ok (.getfield 76, 3) := by decide +kernel
theorem dX8_waits_4 : decode cX8_waits 4 = .ok (.aload_n 0, 1) := by decide +kernel
theorem dX8_waits_5 : decode cX8_waits 5 = .ok (.getfield 142, 3) := by decide +kernel
theorem dX8_waits_8 : decode cX8_waits 8 = .ok (.iload_n 1, 1) := by decide +kernel
theorem dX8_waits_9 : decode cX8_waits 9 = .ok (.iastore, 1) := by decide +kernel
theorem dX8_waits_10 : decode cX8_waits 10 = .ok (.aload_n 0, 1) := by decide +kernel
theorem dX8_waits_11 : decode cX8_waits 11 = .ok (.dup, 1) := by decide +kernel
theorem dX8_waits_12 : decode cX8_waits 12 = .ok (.getfield 142, 3) := by decide +kernel
theorem dX8_waits_15 : decode cX8_waits 15 = .ok (.iconst 1, 1) := by decide +kernel
theorem dX8_waits_16 : decode cX8_waits 16 = .ok (.iadd, 1) := by decide +kernel
theorem dX8_waits_17 : decode cX8_waits 17 = .ok (.putfield 142, 3) := by decide +kernel
theorem dX8_waits_20 : decode cX8_waits 20 = .ok (.return_, 1) := by decide +kernel
theorem dX8_waitsProduct_0 : decode cX8_waitsProduct 0 = .ok (.aload_n 0, 1) := by decide +kernel
theorem dX8_waitsProduct_1 : decode cX8_waitsProduct 1 = .ok (.sipush 20000, 3) := by decide +kernel
theorem dX8_waitsProduct_4 : decode cX8_waitsProduct 4 = .ok (.bipush 100, 2) := by decide +kernel
theorem dX8_waitsProduct_6 : decode cX8_waitsProduct 6 = .ok (.iload_n 1, 1) := by decide +kernel
theorem dX8_waitsProduct_7 : decode cX8_waitsProduct 7 = .ok (.imul, 1) := by decide +kernel
theorem dX8_waitsProduct_8 : decode cX8_waitsProduct 8 = .ok (.iadd, 1) := by decide +kernel
theorem dX8_waitsProduct_9 : decode cX8_waitsProduct 9 = .ok (.iload_n 2, 1) := by decide +kernel
theorem dX8_waitsProduct_10 : decode cX8_waitsProduct 10 = .ok (.iadd, 1) := by decide +kernel
theorem dX8_waitsProduct_11 : decode cX8_waitsProduct 11 = .ok (.invokevirtual 145, 3) := by decide +kernel
theorem dX8_waitsProduct_14 : decode cX8_waitsProduct 14 = .ok (.iload_n 2, 1) := by decide +kernel
theorem dX8_waitsProduct_15 : decode cX8_waitsProduct 15 = .ok (.aload_n 0, 1) := by decide +kernel
theorem dX8_waitsProduct_16 : decode cX8_waitsProduct 16 = .ok (.getfield 28, 3) := by decide +kernel
theorem dX8_waitsProduct_19 : decode cX8_waitsProduct 19 = .ok (.iload_n 1, 1) := by decide +kernel
theorem dX8_waitsProduct_20 : decode cX8_waitsProduct 20 = .ok (.iaload, 1) := by decide +kernel
theorem dX8_waitsProduct_21 : decode cX8_waitsProduct 21 = .ok (.if_icmp .gt 7, 3) := by decide +kernel
theorem dX8_waitsProduct_24 : decode cX8_waitsProduct 24 = .ok (.iconst 1, 1) := by decide +kernel
theorem dX8_waitsProduct_25 : decode cX8_waitsProduct 25 = .ok (.goto 4, 3) := by decide +kernel
theorem dX8_waitsProduct_28 : decode cX8_waitsProduct 28 = .ok (.iconst 0, 1) := by decide +kernel
theorem dX8_waitsProduct_29 : decode cX8_waitsProduct 29 = .ok (.ireturn, 1) := by decide +kernel
theorem dX8_counts_0 : decode cX8_counts 0 = .ok (.iconst (-1), 1) := by decide +kernel
theorem dX8_counts_1 : decode cX8_counts 1 = .ok (.istore_n 3, 1) := by decide +kernel
theorem dX8_counts_2 : decode cX8_counts 2 = .ok (.iconst 5, 1) := by decide +kernel
theorem dX8_counts_3 : decode cX8_counts 3 = .ok (.iload_n 1, 1) := by decide +kernel
theorem dX8_counts_4 : decode cX8_counts 4 = .ok (.imul, 1) := by decide +kernel
theorem dX8_counts_5 : decode cX8_counts 5 = .ok (.istore 4, 2) := by decide +kernel
theorem dX8_counts_7 : decode cX8_counts 7 = .ok (.iload 4, 2) := by decide +kernel
theorem dX8_counts_9 : decode cX8_counts 9 = .ok (.iconst 5, 1) := by decide +kernel
theorem dX8_counts_10 : decode cX8_counts 10 = .ok (.iload_n 1, 1) := by decide +kernel
theorem dX8_counts_11 : decode cX8_counts 11 = .ok (.imul, 1) := by decide +kernel
theorem dX8_counts_12 : decode cX8_counts 12 = .ok (.aload_n 0, 1) := by decide +kernel
theorem dX8_counts_13 : decode cX8_counts 13 = .ok (.getfield 19, 3) := by decide +kernel
theorem dX8_counts_16 : decode cX8_counts 16 = .ok (.iload_n 1, 1) := by decide +kernel
theorem dX8_counts_17 : decode cX8_counts 17 = .ok (.iaload, 1) := by decide +kernel
theorem dX8_counts_18 : decode cX8_counts 18 = .ok (.iadd, 1) := by decide +kernel
theorem dX8_counts_19 : decode cX8_counts 19 = .ok (.if_icmp .ge 48, 3) := by decide +kernel
theorem dX8_counts_22 : decode cX8_counts 22 = .ok (.aload_n 0, 1) := by decide +kernel
theorem dX8_counts_23 : decode cX8_counts 23 = .ok (.getfield 22, 3) := by decide +kernel
theorem dX8_counts_26 : decode cX8_counts 26 = .ok (.iload 4, 2) := by decide +kernel
theorem dX8_counts_28 : decode cX8_counts 28 = .ok (.iaload, 1) := by decide +kernel
theorem dX8_counts_29 : decode cX8_counts 29 = .ok (.iload_n 2, 1) := by decide +kernel
theorem dX8_counts_30 : decode cX8_counts 30 = .ok (.if_icmp .gt 29, 3) := by decide +kernel
theorem dX8_counts_33 : decode cX8_counts 33 = .ok (.iload_n 3, 1) := by decide +kernel
theorem dX8_counts_34 : decode cX8_counts 34 = .ok (.iconst (-1), 1) := by decide +kernel
theorem dX8_counts_35 : decode cX8_counts 35 = .ok (.if_icmp .eq 19, 3) := by decide +kernel
theorem dX8_counts_38 : decode cX8_counts 38 = .ok (.aload_n 0, 1) := by decide +kernel
theorem dX8_counts_39 : decode cX8_counts 39 = .ok (.getfield 22, 3) := by decide +kernel
theorem dX8_counts_42 : decode cX8_counts 42 = .ok (.iload 4, 2) := by decide +kernel
theorem dX8_counts_44 : decode cX8_counts 44 = .ok (.iaload, 1) := by decide +kernel
theorem dX8_counts_45 : decode cX8_counts 45 = .ok (.aload_n 0, 1) := by decide +kernel
theorem dX8_counts_46 : decode cX8_counts 46 = .ok (.getfield 22, 3) := by decide +kernel
theorem dX8_counts_49 : decode cX8_counts 49 = .ok (.iload_n 3, 1) := by decide +kernel
theorem dX8_counts_50 : decode cX8_counts 50 = .ok (.iaload, 1) := by decide +kernel
theorem dX8_counts_51 : decode cX8_counts 51 = .ok (.if_icmp .le 8, 3) := by decide +kernel
theorem dX8_counts_54 : decode cX8_counts 54 = .ok (.iload 4, 2) := by decide +kernel
theorem dX8_counts_56 : decode cX8_counts 56 = .ok (.goto 4, 3) := by decide +kernel
theorem dX8_counts_59 : decode cX8_counts 59 = .ok (.iload_n 3, 1) := by decide +kernel
theorem dX8_counts_60 : decode cX8_counts 60 = .ok (.istore_n 3, 1) := by decide +kernel
theorem dX8_counts_61 : decode cX8_counts 61 = .ok (.iinc 4 1, 3) := by decide +kernel
theorem dX8_counts_64 : decode cX8_counts 64 = .ok (.goto (-57), 3) := by decide +kernel
theorem dX8_counts_67 : decode cX8_counts 67 = .ok (.iload_n 3, 1) := by decide +kernel
theorem dX8_counts_68 : decode cX8_counts 68 = .ok (.ireturn, 1) := by decide +kernel
theorem dX8_waitsJoint_0 : decode cX8_waitsJoint 0 = .ok (.aload_n 0, 1) := by decide +kernel
theorem dX8_waitsJoint_1 : decode cX8_waitsJoint 1 = .ok (.getfield 34, 3) := by decide +kernel
theorem dX8_waitsJoint_4 : decode cX8_waitsJoint 4 = .ok (.iload_n 1, 1) := by decide +kernel
theorem dX8_waitsJoint_5 : decode cX8_waitsJoint 5 = .ok (.iaload, 1) := by decide +kernel
theorem dX8_waitsJoint_6 : decode cX8_waitsJoint 6 = .ok (.iconst (-1), 1) := by decide +kernel
theorem dX8_waitsJoint_7 : decode cX8_waitsJoint 7 = .ok (.if_icmp .eq 13, 3) := by decide +kernel
theorem dX8_waitsJoint_10 : decode cX8_waitsJoint 10 = .ok (.aload_n 0, 1) := by decide +kernel
theorem dX8_waitsJoint_11 : decode cX8_waitsJoint 11 = .ok (.aload_n 0, 1) := by decide +kernel
theorem dX8_waitsJoint_12 : decode cX8_waitsJoint 12 = .ok (.getfield 34, 3) := by decide +kernel
theorem dX8_waitsJoint_15 : decode cX8_waitsJoint 15 = .ok (.iload_n 1, 1) := by decide +kernel
theorem dX8_waitsJoint_16 : decode cX8_waitsJoint 16 = .ok (.iaload, 1) := by decide +kernel
theorem dX8_waitsJoint_17 : decode cX8_waitsJoint 17 = .ok (.invokevirtual 145, 3) := by decide +kernel
theorem dX8_waitsJoint_20 : decode cX8_waitsJoint 20 = .ok (.return_, 1) := by decide +kernel
theorem dX8_parts_0 : decode cX8_parts 0 = .ok (.aload_n 0, 1) := by decide +kernel
theorem dX8_parts_1 : decode cX8_parts 1 = .ok (.iload_n 1, 1) := by decide +kernel
theorem dX8_parts_2 : decode cX8_parts 2 = .ok (.iload_n 2, 1) := by decide +kernel
theorem dX8_parts_3 : decode cX8_parts 3 = .ok (.invokevirtual 124, 3) := by decide +kernel
theorem dX8_parts_6 : decode cX8_parts 6 = .ok (.istore_n 3, 1) := by decide +kernel
theorem dX8_parts_7 : decode cX8_parts 7 = .ok (.iload_n 3, 1) := by decide +kernel
theorem dX8_parts_8 : decode cX8_parts 8 = .ok (.iconst (-1), 1) := by decide +kernel
theorem dX8_parts_9 : decode cX8_parts 9 = .ok (.if_icmp .eq 15, 3) := by decide +kernel
theorem dX8_parts_12 : decode cX8_parts 12 = .ok (.aload_n 0, 1) := by decide +kernel
theorem dX8_parts_13 : decode cX8_parts 13 = .ok (.aload_n 0, 1) := by decide +kernel
theorem dX8_parts_14 : decode cX8_parts 14 = .ok (.getfield 16, 3) := by decide +kernel
theorem dX8_parts_17 : decode cX8_parts 17 = .ok (.iload_n 3, 1) := by decide +kernel
theorem dX8_parts_18 : decode cX8_parts 18 = .ok (.iaload, 1) := by decide +kernel
theorem dX8_parts_19 : decode cX8_parts 19 = .ok (.invokevirtual 145, 3) := by decide +kernel
theorem dX8_parts_22 : decode cX8_parts 22 = .ok (.iconst 1, 1) := by decide +kernel
theorem dX8_parts_23 : decode cX8_parts 23 = .ok (.ireturn, 1) := by decide +kernel
theorem dX8_parts_24 : decode cX8_parts 24 = .ok (.aload_n 0, 1) := by decide +kernel
theorem dX8_parts_25 : decode cX8_parts 25 = .ok (.iload_n 1, 1) := by decide +kernel
theorem dX8_parts_26 : decode cX8_parts 26 = .ok (.iload_n 2, 1) := by decide +kernel
theorem dX8_parts_27 : decode cX8_parts 27 = .ok (.invokevirtual 149, 3) := by decide +kernel
theorem dX8_parts_30 : decode cX8_parts 30 = .ok (.istore 4, 2) := by decide +kernel
theorem dX8_parts_32 : decode cX8_parts 32 = .ok (.iload 4, 2) := by decide +kernel
theorem dX8_parts_34 : decode cX8_parts 34 = .ok (.iconst (-1), 1) := by decide +kernel
theorem dX8_parts_35 : decode cX8_parts 35 = .ok (.if_icmp .ne 5, 3) := by decide +kernel
theorem dX8_parts_38 : decode cX8_parts 38 = .ok (.iconst 0, 1) := by decide +kernel
theorem dX8_parts_39 : decode cX8_parts 39 = .ok (.ireturn, 1) := by decide +kernel
theorem dX8_parts_40 : decode cX8_parts 40 = .ok (.iload_n 2, 1) := by decide +kernel
theorem dX8_parts_41 : decode cX8_parts 41 = .ok (.aload_n 0, 1) := by decide +kernel
theorem dX8_parts_42 : decode cX8_parts 42 = .ok (.getfield 22, 3) := by decide +kernel
theorem dX8_parts_45 : decode cX8_parts 45 = .ok (.iload 4, 2) := by decide +kernel
theorem dX8_parts_47 : decode cX8_parts 47 = .ok (.iaload, 1) := by decide +kernel
theorem dX8_parts_48 : decode cX8_parts 48 = .ok (.idiv, 1) := by decide +kernel
theorem dX8_parts_49 : decode cX8_parts 49 = .ok (.istore 5, 2) := by decide +kernel
theorem dX8_parts_51 : decode cX8_parts 51 = .ok (.iload_n 2, 1) := by decide +kernel
theorem dX8_parts_52 : decode cX8_parts 52 = .ok (.aload_n 0, 1) := by decide +kernel
theorem dX8_parts_53 : decode cX8_parts 53 = .ok (.getfield 22, 3) := by decide +kernel
theorem dX8_parts_56 : decode cX8_parts 56 = .ok (.iload 4, 2) := by decide +kernel
theorem dX8_parts_58 : decode cX8_parts 58 = .ok (.iaload, 1) := by decide +kernel
theorem dX8_parts_59 : decode cX8_parts 59 = .ok (.irem, 1) := by decide +kernel
theorem dX8_parts_60 : decode cX8_parts 60 = .ok (.istore 6, 2) := by decide +kernel
theorem dX8_parts_62 : decode cX8_parts 62 = .ok (.iload 6, 2) := by decide +kernel
theorem dX8_parts_64 : decode cX8_parts 64 = .ok (.ifCond .ne 32, 3) := by decide +kernel
theorem dX8_parts_67 : decode cX8_parts 67 = .ok (.iload 5, 2) := by decide +kernel
theorem dX8_parts_69 : decode cX8_parts 69 = .ok (.aload_n 0, 1) := by decide +kernel
theorem dX8_parts_70 : decode cX8_parts 70 = .ok (.getfield 28, 3) := by decide +kernel
theorem dX8_parts_73 : decode cX8_parts 73 = .ok (.iload 4, 2) := by decide +kernel
theorem dX8_parts_75 : decode cX8_parts 75 = .ok (.iaload, 1) := by decide +kernel
theorem dX8_parts_76 : decode cX8_parts 76 = .ok (.if_icmp .gt 18, 3) := by decide +kernel
theorem dX8_parts_79 : decode cX8_parts 79 = .ok (.aload_n 0, 1) := by decide +kernel
theorem dX8_parts_80 : decode cX8_parts 80 = .ok (.iload 4, 2) := by decide +kernel
theorem dX8_parts_82 : decode cX8_parts 82 = .ok (.iload 5, 2) := by decide +kernel
theorem dX8_parts_84 : decode cX8_parts 84 = .ok (.invokevirtual 152, 3) := by decide +kernel
theorem dX8_parts_87 : decode cX8_parts 87 = .ok (.ifCond .eq 7, 3) := by decide +kernel
theorem dX8_parts_90 : decode cX8_parts 90 = .ok (.iconst 1, 1) := by decide +kernel
theorem dX8_parts_91 : decode cX8_parts 91 = .ok (.goto 4, 3) := by decide +kernel
theorem dX8_parts_94 : decode cX8_parts 94 = .ok (.iconst 0, 1) := by decide +kernel
theorem dX8_parts_95 : decode cX8_parts 95 = .ok (.ireturn, 1) := by decide +kernel
theorem dX8_parts_96 : decode cX8_parts 96 = .ok (.aload_n 0, 1) := by decide +kernel
theorem dX8_parts_97 : decode cX8_parts 97 = .ok (.getfield 22, 3) := by decide +kernel
theorem dX8_parts_100 : decode cX8_parts 100 = .ok (.iload 4, 2) := by decide +kernel
theorem dX8_parts_102 : decode cX8_parts 102 = .ok (.iaload, 1) := by decide +kernel
theorem dX8_parts_103 : decode cX8_parts 103 = .ok (.iload 6, 2) := by decide +kernel
theorem dX8_parts_105 : decode cX8_parts 105 = .ok (.isub, 1) := by decide +kernel
theorem dX8_parts_106 : decode cX8_parts 106 = .ok (.aload_n 0, 1) := by decide +kernel
theorem dX8_parts_107 : decode cX8_parts 107 = .ok (.getfield 37, 3) := by decide +kernel
theorem dX8_parts_110 : decode cX8_parts 110 = .ok (.iload 4, 2) := by decide +kernel
theorem dX8_parts_112 : decode cX8_parts 112 = .ok (.iaload, 1) := by decide +kernel
theorem dX8_parts_113 : decode cX8_parts 113 = .ok (.if_icmp .gt 69, 3) := by decide +kernel
theorem dX8_parts_116 : decode cX8_parts 116 = .ok (.iload 5, 2) := by decide +kernel
theorem dX8_parts_118 : decode cX8_parts 118 = .ok (.iconst 1, 1) := by decide +kernel
theorem dX8_parts_119 : decode cX8_parts 119 = .ok (.iadd, 1) := by decide +kernel
theorem dX8_parts_120 : decode cX8_parts 120 = .ok (.aload_n 0, 1) := by decide +kernel
theorem dX8_parts_121 : decode cX8_parts 121 = .ok (.getfield 28, 3) := by decide +kernel
theorem dX8_parts_124 : decode cX8_parts 124 = .ok (.iload 4, 2) := by decide +kernel
theorem dX8_parts_126 : decode cX8_parts 126 = .ok (.iaload, 1) := by decide +kernel
theorem dX8_parts_127 : decode cX8_parts 127 = .ok (.if_icmp .gt 20, 3) := by decide +kernel
theorem dX8_parts_130 : decode cX8_parts 130 = .ok (.aload_n 0, 1) := by decide +kernel
theorem dX8_parts_131 : decode cX8_parts 131 = .ok (.iload 4, 2) := by decide +kernel
theorem dX8_parts_133 : decode cX8_parts 133 = .ok (.iload 5, 2) := by decide +kernel
theorem dX8_parts_135 : decode cX8_parts 135 = .ok (.iconst 1, 1) := by decide +kernel
theorem dX8_parts_136 : decode cX8_parts 136 = .ok (.iadd, 1) := by decide +kernel
theorem dX8_parts_137 : decode cX8_parts 137 = .ok (.invokevirtual 152, 3) := by decide +kernel
theorem dX8_parts_140 : decode cX8_parts 140 = .ok (.ifCond .eq 7, 3) := by decide +kernel
theorem dX8_parts_143 : decode cX8_parts 143 = .ok (.iconst 1, 1) := by decide +kernel
theorem dX8_parts_144 : decode cX8_parts 144 = .ok (.goto 4, 3) := by decide +kernel
theorem dX8_parts_147 : decode cX8_parts 147 = .ok (.iconst 0, 1) := by decide +kernel
theorem dX8_parts_148 : decode cX8_parts 148 = .ok (.istore 7, 2) := by decide +kernel
theorem dX8_parts_150 : decode cX8_parts 150 = .ok (.aload_n 0, 1) := by decide +kernel
theorem dX8_parts_151 : decode cX8_parts 151 = .ok (.aload_n 0, 1) := by decide +kernel
theorem dX8_parts_152 : decode cX8_parts 152 = .ok (.getfield 40, 3) := by decide +kernel
theorem dX8_parts_155 : decode cX8_parts 155 = .ok (.iload 4, 2) := by decide +kernel
theorem dX8_parts_157 : decode cX8_parts 157 = .ok (.iaload, 1) := by decide +kernel
theorem dX8_parts_158 : decode cX8_parts 158 = .ok (.invokevirtual 145, 3) := by decide +kernel
theorem dX8_parts_161 : decode cX8_parts 161 = .ok (.aload_n 0, 1) := by decide +kernel
theorem dX8_parts_162 : decode cX8_parts 162 = .ok (.sipush 1000, 3) := by decide +kernel
theorem dX8_parts_165 : decode cX8_parts 165 = .ok (.aload_n 0, 1) := by decide +kernel
theorem dX8_parts_166 : decode cX8_parts 166 = .ok (.getfield 22, 3) := by decide +kernel
theorem dX8_parts_169 : decode cX8_parts 169 = .ok (.iload 4, 2) := by decide +kernel
theorem dX8_parts_171 : decode cX8_parts 171 = .ok (.iaload, 1) := by decide +kernel
theorem dX8_parts_172 : decode cX8_parts 172 = .ok (.iadd, 1) := by decide +kernel
theorem dX8_parts_173 : decode cX8_parts 173 = .ok (.iload 6, 2) := by decide +kernel
theorem dX8_parts_175 : decode cX8_parts 175 = .ok (.isub, 1) := by decide +kernel
theorem dX8_parts_176 : decode cX8_parts 176 = .ok (.invokevirtual 145, 3) := by decide +kernel
theorem dX8_parts_179 : decode cX8_parts 179 = .ok (.iload 7, 2) := by decide +kernel
theorem dX8_parts_181 : decode cX8_parts 181 = .ok (.ireturn, 1) := by decide +kernel
theorem dX8_parts_182 : decode cX8_parts 182 = .ok (.aload_n 0, 1) := by decide +kernel
theorem dX8_parts_183 : decode cX8_parts 183 = .ok (.getfield 31, 3) := by decide +kernel
theorem dX8_parts_186 : decode cX8_parts 186 = .ok (.iload 4, 2) := by decide +kernel
theorem dX8_parts_188 : decode cX8_parts 188 = .ok (.iaload, 1) := by decide +kernel
theorem dX8_parts_189 : decode cX8_parts 189 = .ok (.bipush 8, 2) := by decide +kernel
theorem dX8_parts_191 : decode cX8_parts 191 = .ok (.iand, 1) := by decide +kernel
theorem dX8_parts_192 : decode cX8_parts 192 = .ok (.ifCond .le 10, 3) := by decide +kernel
theorem dX8_parts_195 : decode cX8_parts 195 = .ok (.iload 5, 2) := by decide +kernel
theorem dX8_parts_197 : decode cX8_parts 197 = .ok (.iconst 1, 1) := by decide +kernel
theorem dX8_parts_198 : decode cX8_parts 198 = .ok (.iadd, 1) := by decide +kernel
theorem dX8_parts_199 : decode cX8_parts 199 = .ok (.goto 5, 3) := by decide +kernel
theorem dX8_parts_202 : decode cX8_parts 202 = .ok (.iload 5, 2) := by decide +kernel
theorem dX8_parts_204 : decode cX8_parts 204 = .ok (.istore 7, 2) := by decide +kernel
theorem dX8_parts_206 : decode cX8_parts 206 = .ok (.iload 7, 2) := by decide +kernel
theorem dX8_parts_208 : decode cX8_parts 208 = .ok (.aload_n 0, 1) := by decide +kernel
theorem dX8_parts_209 : decode cX8_parts 209 = .ok (.getfield 28, 3) := by decide +kernel
theorem dX8_parts_212 : decode cX8_parts 212 = .ok (.iload 4, 2) := by decide +kernel
theorem dX8_parts_214 : decode cX8_parts 214 = .ok (.iaload, 1) := by decide +kernel
theorem dX8_parts_215 : decode cX8_parts 215 = .ok (.if_icmp .le 5, 3) := by decide +kernel
theorem dX8_parts_218 : decode cX8_parts 218 = .ok (.iconst 0, 1) := by decide +kernel
theorem dX8_parts_219 : decode cX8_parts 219 = .ok (.ireturn, 1) := by decide +kernel
theorem dX8_parts_220 : decode cX8_parts 220 = .ok (.aload_n 0, 1) := by decide +kernel
theorem dX8_parts_221 : decode cX8_parts 221 = .ok (.getfield 31, 3) := by decide +kernel
theorem dX8_parts_224 : decode cX8_parts 224 = .ok (.iload 4, 2) := by decide +kernel
theorem dX8_parts_226 : decode cX8_parts 226 = .ok (.iaload, 1) := by decide +kernel
theorem dX8_parts_227 : decode cX8_parts 227 = .ok (.bipush 12, 2) := by decide +kernel
theorem dX8_parts_229 : decode cX8_parts 229 = .ok (.iand, 1) := by decide +kernel
theorem dX8_parts_230 : decode cX8_parts 230 = .ok (.ifCond .le 7, 3) := by decide +kernel
theorem dX8_parts_233 : decode cX8_parts 233 = .ok (.iconst 1, 1) := by decide +kernel
theorem dX8_parts_234 : decode cX8_parts 234 = .ok (.goto 4, 3) := by decide +kernel
theorem dX8_parts_237 : decode cX8_parts 237 = .ok (.iconst 0, 1) := by decide +kernel
theorem dX8_parts_238 : decode cX8_parts 238 = .ok (.istore 8, 2) := by decide +kernel
theorem dX8_parts_240 : decode cX8_parts 240 = .ok (.iload 8, 2) := by decide +kernel
theorem dX8_parts_242 : decode cX8_parts 242 = .ok (.ifCond .eq 32, 3) := by decide +kernel
theorem dX8_parts_245 : decode cX8_parts 245 = .ok (.aload_n 0, 1) := by decide +kernel
theorem dX8_parts_246 : decode cX8_parts 246 = .ok (.iload 4, 2) := by decide +kernel
theorem dX8_parts_248 : decode cX8_parts 248 = .ok (.iload 7, 2) := by decide +kernel
theorem dX8_parts_250 : decode cX8_parts 250 = .ok (.invokevirtual 152, 3) := by decide +kernel
theorem dX8_parts_253 : decode cX8_parts 253 = .ok (.istore 9, 2) := by decide +kernel
theorem dX8_parts_255 : decode cX8_parts 255 = .ok (.aload_n 0, 1) := by decide +kernel
theorem dX8_parts_256 : decode cX8_parts 256 = .ok (.iload 4, 2) := by decide +kernel
theorem dX8_parts_258 : decode cX8_parts 258 = .ok (.invokevirtual 155, 3) := by decide +kernel
theorem dX8_parts_261 : decode cX8_parts 261 = .ok (.aload_n 0, 1) := by decide +kernel
theorem dX8_parts_262 : decode cX8_parts 262 = .ok (.sipush 1000, 3) := by decide +kernel
theorem dX8_parts_265 : decode cX8_parts 265 = .ok (.iload 6, 2) := by decide +kernel
theorem dX8_parts_267 : decode cX8_parts 267 = .ok (.iadd, 1) := by decide +kernel
theorem dX8_parts_268 : decode cX8_parts 268 = .ok (.invokevirtual 145, 3) := by decide +kernel
theorem dX8_parts_271 : decode cX8_parts 271 = .ok (.goto 29, 3) := by decide +kernel
theorem dX8_parts_274 : decode cX8_parts 274 = .ok (.aload_n 0, 1) := by decide +kernel
theorem dX8_parts_275 : decode cX8_parts 275 = .ok (.sipush 1000, 3) := by decide +kernel
theorem dX8_parts_278 : decode cX8_parts 278 = .ok (.iload 6, 2) := by decide +kernel
theorem dX8_parts_280 : decode cX8_parts 280 = .ok (.iadd, 1) := by decide +kernel
theorem dX8_parts_281 : decode cX8_parts 281 = .ok (.invokevirtual 145, 3) := by decide +kernel
theorem dX8_parts_284 : decode cX8_parts 284 = .ok (.aload_n 0, 1) := by decide +kernel
theorem dX8_parts_285 : decode cX8_parts 285 = .ok (.iload 4, 2) := by decide +kernel
theorem dX8_parts_287 : decode cX8_parts 287 = .ok (.invokevirtual 155, 3) := by decide +kernel
theorem dX8_parts_290 : decode cX8_parts 290 = .ok (.aload_n 0, 1) := by decide +kernel
theorem dX8_parts_291 : decode cX8_parts 291 = .ok (.iload 4, 2) := by decide +kernel
theorem dX8_parts_293 : decode cX8_parts 293 = .ok (.iload 7, 2) := by decide +kernel
theorem dX8_parts_295 : decode cX8_parts 295 = .ok (.invokevirtual 152, 3) := by decide +kernel
theorem dX8_parts_298 : decode cX8_parts 298 = .ok (.istore 9, 2) := by decide +kernel
theorem dX8_parts_300 : decode cX8_parts 300 = .ok (.iconst 1, 1) := by decide +kernel
theorem dX8_parts_301 : decode cX8_parts 301 = .ok (.ireturn, 1) := by decide +kernel
theorem dX8_product_0 : decode cX8_product 0 = .ok (.iload_n 2, 1) := by decide +kernel
theorem dX8_product_1 : decode cX8_product 1 = .ok (.iconst 1, 1) := by decide +kernel
theorem dX8_product_2 : decode cX8_product 2 = .ok (.if_icmp .ne 27, 3) := by decide +kernel
theorem dX8_product_5 : decode cX8_product 5 = .ok (.aload_n 0, 1) := by decide +kernel
theorem dX8_product_6 : decode cX8_product 6 = .ok (.getfield 31, 3) := by decide +kernel
theorem dX8_product_9 : decode cX8_product 9 = .ok (.iload_n 1, 1) := by decide +kernel
theorem dX8_product_10 : decode cX8_product 10 = .ok (.iaload, 1) := by decide +kernel
theorem dX8_product_11 : decode cX8_product 11 = .ok (.iconst 1, 1) := by decide +kernel
theorem dX8_product_12 : decode cX8_product 12 = .ok (.iand, 1) := by decide +kernel
theorem dX8_product_13 : decode cX8_product 13 = .ok (.ifCond .ne 16, 3) := by decide +kernel
theorem dX8_product_16 : decode cX8_product 16 = .ok (.aload_n 0, 1) := by decide +kernel
theorem dX8_product_17 : decode cX8_product 17 = .ok (.aload_n 0, 1) := by decide +kernel
theorem dX8_product_18 : decode cX8_product 18 = .ok (.getfield 25, 3) := by decide +kernel
theorem dX8_product_21 : decode cX8_product 21 = .ok (.iload_n 1, 1) := by decide +kernel
theorem dX8_product_22 : decode cX8_product 22 = .ok (.iaload, 1) := by decide +kernel
theorem dX8_product_23 : decode cX8_product 23 = .ok (.invokevirtual 145, 3) := by decide +kernel
theorem dX8_product_26 : decode cX8_product 26 = .ok (.goto 55, 3) := by decide +kernel
theorem dX8_product_29 : decode cX8_product 29 = .ok (.aload_n 0, 1) := by decide +kernel
theorem dX8_product_30 : decode cX8_product 30 = .ok (.getfield 31, 3) := by decide +kernel
theorem dX8_product_33 : decode cX8_product 33 = .ok (.iload_n 1, 1) := by decide +kernel
theorem dX8_product_34 : decode cX8_product 34 = .ok (.iaload, 1) := by decide +kernel
theorem dX8_product_35 : decode cX8_product 35 = .ok (.iconst 2, 1) := by decide +kernel
theorem dX8_product_36 : decode cX8_product 36 = .ok (.iand, 1) := by decide +kernel
theorem dX8_product_37 : decode cX8_product 37 = .ok (.ifCond .le 25, 3) := by decide +kernel
theorem dX8_product_40 : decode cX8_product 40 = .ok (.aload_n 0, 1) := by decide +kernel
theorem dX8_product_41 : decode cX8_product 41 = .ok (.sipush 1000, 3) := by decide +kernel
theorem dX8_product_44 : decode cX8_product 44 = .ok (.iload_n 2, 1) := by decide +kernel
theorem dX8_product_45 : decode cX8_product 45 = .ok (.iadd, 1) := by decide +kernel
theorem dX8_product_46 : decode cX8_product 46 = .ok (.invokevirtual 145, 3) := by decide +kernel
theorem dX8_product_49 : decode cX8_product 49 = .ok (.aload_n 0, 1) := by decide +kernel
theorem dX8_product_50 : decode cX8_product 50 = .ok (.aload_n 0, 1) := by decide +kernel
theorem dX8_product_51 : decode cX8_product 51 = .ok (.getfield 25, 3) := by decide +kernel
theorem dX8_product_54 : decode cX8_product 54 = .ok (.iload_n 1, 1) := by decide +kernel
theorem dX8_product_55 : decode cX8_product 55 = .ok (.iaload, 1) := by decide +kernel
theorem dX8_product_56 : decode cX8_product 56 = .ok (.invokevirtual 145, 3) := by decide +kernel
theorem dX8_product_59 : decode cX8_product 59 = .ok (.goto 22, 3) := by decide +kernel
theorem dX8_product_62 : decode cX8_product 62 = .ok (.aload_n 0, 1) := by decide +kernel
theorem dX8_product_63 : decode cX8_product 63 = .ok (.aload_n 0, 1) := by decide +kernel
theorem dX8_product_64 : decode cX8_product 64 = .ok (.getfield 25, 3) := by decide +kernel
theorem dX8_product_67 : decode cX8_product 67 = .ok (.iload_n 1, 1) := by decide +kernel
theorem dX8_product_68 : decode cX8_product 68 = .ok (.iaload, 1) := by decide +kernel
theorem dX8_product_69 : decode cX8_product 69 = .ok (.invokevirtual 145, 3) := by decide +kernel
theorem dX8_product_72 : decode cX8_product 72 = .ok (.aload_n 0, 1) := by decide +kernel
theorem dX8_product_73 : decode cX8_product 73 = .ok (.sipush 1000, 3) := by decide +kernel
theorem dX8_product_76 : decode cX8_product 76 = .ok (.iload_n 2, 1) := by decide +kernel
theorem dX8_product_77 : decode cX8_product 77 = .ok (.iadd, 1) := by decide +kernel
theorem dX8_product_78 : decode cX8_product 78 = .ok (.invokevirtual 145, 3) := by decide +kernel
theorem dX8_product_81 : decode cX8_product 81 = .ok (.return_, 1) := by decide +kernel
theorem dX8_names_0 : decode cX8_names 0 = .ok (.aload_n 0, 1) := by decide +kernel
theorem dX8_names_1 : decode cX8_names 1 = .ok (.getfield 158, 3) := by decide +kernel
theorem dX8_names_4 : decode cX8_names 4 = .ok (.istore_n 3, 1) := by decide +kernel
theorem dX8_names_5 : decode cX8_names 5 = .ok (.aload_n 0, 1) := by decide +kernel
theorem dX8_names_6 : decode cX8_names 6 = .ok (.iconst 0, 1) := by decide +kernel
theorem dX8_names_7 : decode cX8_names 7 = .ok (.putfield 142, 3) := by decide +kernel
theorem dX8_names_10 : decode cX8_names 10 = .ok (.aload_n 0, 1) := by decide +kernel
theorem dX8_names_11 : decode cX8_names 11 = .ok (.sipush 1000, 3) := by decide +kernel
theorem dX8_names_14 : decode cX8_names 14 = .ok (.iload_n 2, 1) := by decide +kernel
theorem dX8_names_15 : decode cX8_names 15 = .ok (.iadd, 1) := by decide +kernel
theorem dX8_names_16 : decode cX8_names 16 = .ok (.invokevirtual 145, 3) := by decide +kernel
theorem dX8_names_19 : decode cX8_names 19 = .ok (.aload_n 0, 1) := by decide +kernel
theorem dX8_names_20 : decode cX8_names 20 = .ok (.getfield 142, 3) := by decide +kernel
theorem dX8_names_23 : decode cX8_names 23 = .ok (.ifCond .le 123, 3) := by decide +kernel
theorem dX8_names_26 : decode cX8_names 26 = .ok (.aload_n 0, 1) := by decide +kernel
theorem dX8_names_27 : decode cX8_names 27 = .ok (.dup, 1) := by decide +kernel
theorem dX8_names_28 : decode cX8_names 28 = .ok (.getfield 142, 3) := by decide +kernel
theorem dX8_names_31 : decode cX8_names 31 = .ok (.iconst 1, 1) := by decide +kernel
theorem dX8_names_32 : decode cX8_names 32 = .ok (.isub, 1) := by decide +kernel
theorem dX8_names_33 : decode cX8_names 33 = .ok (.putfield 142, 3) := by decide +kernel
theorem dX8_names_36 : decode cX8_names 36 = .ok (.aload_n 0, 1) := by decide +kernel
theorem dX8_names_37 : decode cX8_names 37 = .ok (.getfield 76, 3) := by decide +kernel
theorem dX8_names_40 : decode cX8_names 40 = .ok (.aload_n 0, 1) := by decide +kernel
theorem dX8_names_41 : decode cX8_names 41 = .ok (.getfield 142, 3) := by decide +kernel
theorem dX8_names_44 : decode cX8_names 44 = .ok (.iaload, 1) := by decide +kernel
theorem dX8_names_45 : decode cX8_names 45 = .ok (.istore 4, 2) := by decide +kernel
theorem dX8_names_47 : decode cX8_names 47 = .ok (.iload 4, 2) := by decide +kernel
theorem dX8_names_49 : decode cX8_names 49 = .ok (.sipush 1000, 3) := by decide +kernel
theorem dX8_names_52 : decode cX8_names 52 = .ok (.if_icmp .ge 27, 3) := by decide +kernel
theorem dX8_names_55 : decode cX8_names 55 = .ok (.aload_n 0, 1) := by decide +kernel
theorem dX8_names_56 : decode cX8_names 56 = .ok (.getfield 70, 3) := by decide +kernel
theorem dX8_names_59 : decode cX8_names 59 = .ok (.aload_n 0, 1) := by decide +kernel
theorem dX8_names_60 : decode cX8_names 60 = .ok (.getfield 158, 3) := by decide +kernel
theorem dX8_names_63 : decode cX8_names 63 = .ok (.iload 4, 2) := by decide +kernel
theorem dX8_names_65 : decode cX8_names 65 = .ok (.iastore, 1) := by decide +kernel
theorem dX8_names_66 : decode cX8_names 66 = .ok (.aload_n 0, 1) := by decide +kernel
theorem dX8_names_67 : decode cX8_names 67 = .ok (.dup, 1) := by decide +kernel
theorem dX8_names_68 : decode cX8_names 68 = .ok (.getfield 158, 3) := by decide +kernel
theorem dX8_names_71 : decode cX8_names 71 = .ok (.iconst 1, 1) := by decide +kernel
theorem dX8_names_72 : decode cX8_names 72 = .ok (.iadd, 1) := by decide +kernel
theorem dX8_names_73 : decode cX8_names 73 = .ok (.putfield 158, 3) := by decide +kernel
theorem dX8_names_76 : decode cX8_names 76 = .ok (.goto 49, 3) := by decide +kernel
theorem dX8_names_79 : decode cX8_names 79 = .ok (.iload 4, 2) := by decide +kernel
theorem dX8_names_81 : decode cX8_names 81 = .ok (.sipush 20000, 3) := by decide +kernel
theorem dX8_names_84 : decode cX8_names 84 = .ok (.if_icmp .ge 19, 3) := by decide +kernel
theorem dX8_names_87 : decode cX8_names 87 = .ok (.aload_n 0, 1) := by decide +kernel
theorem dX8_names_88 : decode cX8_names 88 = .ok (.iload_n 1, 1) := by decide +kernel
theorem dX8_names_89 : decode cX8_names 89 = .ok (.iload 4, 2) := by decide +kernel
theorem dX8_names_91 : decode cX8_names 91 = .ok (.sipush 1000, 3) := by decide +kernel
theorem dX8_names_94 : decode cX8_names 94 = .ok (.isub, 1) := by decide +kernel
theorem dX8_names_95 : decode cX8_names 95 = .ok (.invokevirtual 161, 3) := by decide +kernel
theorem dX8_names_98 : decode cX8_names 98 = .ok (.ifCond .ne 27, 3) := by decide +kernel
theorem dX8_names_101 : decode cX8_names 101 = .ok (.iconst 0, 1) := by decide +kernel
theorem dX8_names_102 : decode cX8_names 102 = .ok (.ireturn, 1) := by decide +kernel
theorem dX8_names_103 : decode cX8_names 103 = .ok (.aload_n 0, 1) := by decide +kernel
theorem dX8_names_104 : decode cX8_names 104 = .ok (.iload 4, 2) := by decide +kernel
theorem dX8_names_106 : decode cX8_names 106 = .ok (.sipush 20000, 3) := by decide +kernel
theorem dX8_names_109 : decode cX8_names 109 = .ok (.isub, 1) := by decide +kernel
theorem dX8_names_110 : decode cX8_names 110 = .ok (.bipush 100, 2) := by decide +kernel
theorem dX8_names_112 : decode cX8_names 112 = .ok (.idiv, 1) := by decide +kernel
theorem dX8_names_113 : decode cX8_names 113 = .ok (.iload 4, 2) := by decide +kernel
theorem dX8_names_115 : decode cX8_names 115 = .ok (.sipush 20000, 3) := by decide +kernel
theorem dX8_names_118 : decode cX8_names 118 = .ok (.isub, 1) := by decide +kernel
theorem dX8_names_119 : decode cX8_names 119 = .ok (.bipush 100, 2) := by decide +kernel
theorem dX8_names_121 : decode cX8_names 121 = .ok (.irem, 1) := by decide +kernel
theorem dX8_names_122 : decode cX8_names 122 = .ok (.invokevirtual 164, 3) := by decide +kernel
theorem dX8_names_125 : decode cX8_names 125 = .ok (.aload_n 0, 1) := by decide +kernel
theorem dX8_names_126 : decode cX8_names 126 = .ok (.getfield 158, 3) := by decide +kernel
theorem dX8_names_129 : decode cX8_names 129 = .ok (.iload_n 3, 1) := by decide +kernel
theorem dX8_names_130 : decode cX8_names 130 = .ok (.isub, 1) := by decide +kernel
theorem dX8_names_131 : decode cX8_names 131 = .ok (.aload_n 0, 1) := by decide +kernel
theorem dX8_names_132 : decode cX8_names 132 = .ok (.getfield 142, 3) := by decide +kernel
theorem dX8_names_135 : decode cX8_names 135 = .ok (.iadd, 1) := by decide +kernel
theorem dX8_names_136 : decode cX8_names 136 = .ok (.bipush 20, 2) := by decide +kernel
theorem dX8_names_138 : decode cX8_names 138 = .ok (.if_icmp .le 5, 3) := by decide +kernel
theorem dX8_names_141 : decode cX8_names 141 = .ok (.iconst 0, 1) := by decide +kernel
theorem dX8_names_142 : decode cX8_names 142 = .ok (.ireturn, 1) := by decide +kernel
theorem dX8_names_143 : decode cX8_names 143 = .ok (.goto (-124), 3) := by decide +kernel
theorem dX8_names_146 : decode cX8_names 146 = .ok (.iconst 1, 1) := by decide +kernel
theorem dX8_names_147 : decode cX8_names 147 = .ok (.ireturn, 1) := by decide +kernel
theorem dX8_takesForm_0 : decode cX8_takesForm 0 = .ok (.aload_n 0, 1) := by decide +kernel
theorem dX8_takesForm_1 : decode cX8_takesForm 1 = .ok (.iload_n 1, 1) := by decide +kernel
theorem dX8_takesForm_2 : decode cX8_takesForm 2 = .ok (.aload_n 0, 1) := by decide +kernel
theorem dX8_takesForm_3 : decode cX8_takesForm 3 = .ok (.getfield 70, 3) := by decide +kernel
theorem dX8_takesForm_6 : decode cX8_takesForm 6 = .ok (.aload_n 0, 1) := by decide +kernel
theorem dX8_takesForm_7 : decode cX8_takesForm 7 = .ok (.getfield 158, 3) := by decide +kernel
theorem dX8_takesForm_10 : decode cX8_takesForm 10 = .ok (.iconst 1, 1) := by decide +kernel
theorem dX8_takesForm_11 : decode cX8_takesForm 11 = .ok (.isub, 1) := by decide +kernel
theorem dX8_takesForm_12 : decode cX8_takesForm 12 = .ok (.iaload, 1) := by decide +kernel
theorem dX8_takesForm_13 : decode cX8_takesForm 13 = .ok (.iload_n 2, 1) := by decide +kernel
theorem dX8_takesForm_14 : decode cX8_takesForm 14 = .ok (.invokevirtual 138, 3) := by decide +kernel
theorem dX8_takesForm_17 : decode cX8_takesForm 17 = .ok (.istore_n 3, 1) := by decide +kernel
theorem dX8_takesForm_18 : decode cX8_takesForm 18 = .ok (.aload_n 0, 1) := by decide +kernel
theorem dX8_takesForm_19 : decode cX8_takesForm 19 = .ok (.getfield 70, 3) := by decide +kernel
theorem dX8_takesForm_22 : decode cX8_takesForm 22 = .ok (.aload_n 0, 1) := by decide +kernel
theorem dX8_takesForm_23 : decode cX8_takesForm 23 = .ok (.getfield 158, 3) := by decide +kernel
theorem dX8_takesForm_26 : decode cX8_takesForm 26 = .ok (.iconst 1, 1) := by decide +kernel
theorem dX8_takesForm_27 : decode cX8_takesForm 27 = .ok (.isub, 1) := by decide +kernel
theorem dX8_takesForm_28 : decode cX8_takesForm 28 = .ok (.iload_n 3, 1) := by decide +kernel
theorem dX8_takesForm_29 : decode cX8_takesForm 29 = .ok (.iconst (-1), 1) := by decide +kernel
theorem dX8_takesForm_30 : decode cX8_takesForm 30 = .ok (.if_icmp .ne 17, 3) := by decide +kernel
theorem dX8_takesForm_33 : decode cX8_takesForm 33 = .ok (.aload_n 0, 1) := by decide +kernel
theorem dX8_takesForm_34 : decode cX8_takesForm 34 = .ok (.getfield 70, 3) := by decide +kernel
theorem dX8_takesForm_37 : decode cX8_takesForm 37 = .ok (.aload_n 0, 1) := by decide +kernel
theorem dX8_takesForm_38 : decode cX8_takesForm 38 = .ok (.getfield 158, 3) := by decide +kernel
theorem dX8_takesForm_41 : decode cX8_takesForm 41 = .ok (.iconst 1, 1) := by decide +kernel
theorem dX8_takesForm_42 : decode cX8_takesForm 42 = .ok (.isub, 1) := by decide +kernel
theorem dX8_takesForm_43 : decode cX8_takesForm 43 = .ok (.iaload, 1) := by decide +kernel
theorem dX8_takesForm_44 : decode cX8_takesForm 44 = .ok (.goto 9, 3) := by decide +kernel
theorem dX8_takesForm_47 : decode cX8_takesForm 47 = .ok (.aload_n 0, 1) := by decide +kernel
theorem dX8_takesForm_48 : decode cX8_takesForm 48 = .ok (.getfield 52, 3) := by decide +kernel
theorem dX8_takesForm_51 : decode cX8_takesForm 51 = .ok (.iload_n 3, 1) := by decide +kernel
theorem dX8_takesForm_52 : decode cX8_takesForm 52 = .ok (.iaload, 1) := by decide +kernel
theorem dX8_takesForm_53 : decode cX8_takesForm 53 = .ok (.iastore, 1) := by decide +kernel
theorem dX8_takesForm_54 : decode cX8_takesForm 54 = .ok (.return_, 1) := by decide +kernel
theorem dX8_takesOrdinal_0 : decode cX8_takesOrdinal 0 = .ok (.aload_n 0, 1) := by decide +kernel
theorem dX8_takesOrdinal_1 : decode cX8_takesOrdinal 1 = .ok (.iload_n 1, 1) := by decide +kernel
theorem dX8_takesOrdinal_2 : decode cX8_takesOrdinal 2 = .ok (.aload_n 0, 1) := by decide +kernel
theorem dX8_takesOrdinal_3 : decode cX8_takesOrdinal 3 = .ok (.getfield 70, 3) := by decide +kernel
theorem dX8_takesOrdinal_6 : decode cX8_takesOrdinal 6 = .ok (.aload_n 0, 1) := by decide +kernel
theorem dX8_takesOrdinal_7 : decode cX8_takesOrdinal 7 = .ok (.getfield 158, 3) := by decide +kernel
theorem dX8_takesOrdinal_10 : decode cX8_takesOrdinal 10 = .ok (.iconst 1, 1) := by decide +kernel
theorem dX8_takesOrdinal_11 : decode cX8_takesOrdinal 11 = .ok (.isub, 1) := by decide +kernel
theorem dX8_takesOrdinal_12 : decode cX8_takesOrdinal 12 = .ok (.iaload, 1) := by decide +kernel
theorem dX8_takesOrdinal_13 : decode cX8_takesOrdinal 13 = .ok (.iconst 3, 1) := by decide +kernel
theorem dX8_takesOrdinal_14 : decode cX8_takesOrdinal 14 = .ok (.invokevirtual 138, 3) := by decide +kernel
theorem dX8_takesOrdinal_17 : decode cX8_takesOrdinal 17 = .ok (.istore_n 2, 1) := by decide +kernel
theorem dX8_takesOrdinal_18 : decode cX8_takesOrdinal 18 = .ok (.iload_n 2, 1) := by decide +kernel
theorem dX8_takesOrdinal_19 : decode cX8_takesOrdinal 19 = .ok (.iconst (-1), 1) := by decide +kernel
theorem dX8_takesOrdinal_20 : decode cX8_takesOrdinal 20 = .ok (.if_icmp .eq 23, 3) := by decide +kernel
theorem dX8_takesOrdinal_23 : decode cX8_takesOrdinal 23 = .ok (.aload_n 0, 1) := by decide +kernel
theorem dX8_takesOrdinal_24 : decode cX8_takesOrdinal 24 = .ok (.getfield 70, 3) := by decide +kernel
theorem dX8_takesOrdinal_27 : decode cX8_takesOrdinal 27 = .ok (.aload_n 0, 1) := by decide +kernel
theorem dX8_takesOrdinal_28 : decode cX8_takesOrdinal 28 = .ok (.getfield 158, 3) := by decide +kernel
theorem dX8_takesOrdinal_31 : decode cX8_takesOrdinal 31 = .ok (.iconst 1, 1) := by decide +kernel
theorem dX8_takesOrdinal_32 : decode cX8_takesOrdinal 32 = .ok (.isub, 1) := by decide +kernel
theorem dX8_takesOrdinal_33 : decode cX8_takesOrdinal 33 = .ok (.aload_n 0, 1) := by decide +kernel
theorem dX8_takesOrdinal_34 : decode cX8_takesOrdinal 34 = .ok (.getfield 52, 3) := by decide +kernel
theorem dX8_takesOrdinal_37 : decode cX8_takesOrdinal 37 = .ok (.iload_n 2, 1) := by decide +kernel
theorem dX8_takesOrdinal_38 : decode cX8_takesOrdinal 38 = .ok (.iaload, 1) := by decide +kernel
theorem dX8_takesOrdinal_39 : decode cX8_takesOrdinal 39 = .ok (.iastore, 1) := by decide +kernel
theorem dX8_takesOrdinal_40 : decode cX8_takesOrdinal 40 = .ok (.goto 38, 3) := by decide +kernel
theorem dX8_takesOrdinal_43 : decode cX8_takesOrdinal 43 = .ok (.aload_n 0, 1) := by decide +kernel
theorem dX8_takesOrdinal_44 : decode cX8_takesOrdinal 44 = .ok (.getfield 55, 3) := by decide +kernel
theorem dX8_takesOrdinal_47 : decode cX8_takesOrdinal 47 = .ok (.iload_n 1, 1) := by decide +kernel
theorem dX8_takesOrdinal_48 : decode cX8_takesOrdinal 48 = .ok (.iaload, 1) := by decide +kernel
theorem dX8_takesOrdinal_49 : decode cX8_takesOrdinal 49 = .ok (.iconst (-1), 1) := by decide +kernel
theorem dX8_takesOrdinal_50 : decode cX8_takesOrdinal 50 = .ok (.if_icmp .eq 28, 3) := by decide +kernel
theorem dX8_takesOrdinal_53 : decode cX8_takesOrdinal 53 = .ok (.aload_n 0, 1) := by decide +kernel
theorem dX8_takesOrdinal_54 : decode cX8_takesOrdinal 54 = .ok (.getfield 70, 3) := by decide +kernel
theorem dX8_takesOrdinal_57 : decode cX8_takesOrdinal 57 = .ok (.aload_n 0, 1) := by decide +kernel
theorem dX8_takesOrdinal_58 : decode cX8_takesOrdinal 58 = .ok (.getfield 158, 3) := by decide +kernel
theorem dX8_takesOrdinal_61 : decode cX8_takesOrdinal 61 = .ok (.aload_n 0, 1) := by decide +kernel
theorem dX8_takesOrdinal_62 : decode cX8_takesOrdinal 62 = .ok (.getfield 55, 3) := by decide +kernel
theorem dX8_takesOrdinal_65 : decode cX8_takesOrdinal 65 = .ok (.iload_n 1, 1) := by decide +kernel
theorem dX8_takesOrdinal_66 : decode cX8_takesOrdinal 66 = .ok (.iaload, 1) := by decide +kernel
theorem dX8_takesOrdinal_67 : decode cX8_takesOrdinal 67 = .ok (.iastore, 1) := by decide +kernel
theorem dX8_takesOrdinal_68 : decode cX8_takesOrdinal 68 = .ok (.aload_n 0, 1) := by decide +kernel
theorem dX8_takesOrdinal_69 : decode cX8_takesOrdinal 69 = .ok (.dup, 1) := by decide +kernel
theorem dX8_takesOrdinal_70 : decode cX8_takesOrdinal 70 = .ok (.getfield 158, 3) := by decide +kernel
theorem dX8_takesOrdinal_73 : decode cX8_takesOrdinal 73 = .ok (.iconst 1, 1) := by decide +kernel
theorem dX8_takesOrdinal_74 : decode cX8_takesOrdinal 74 = .ok (.iadd, 1) := by decide +kernel
theorem dX8_takesOrdinal_75 : decode cX8_takesOrdinal 75 = .ok (.putfield 158, 3) := by decide +kernel
theorem dX8_takesOrdinal_78 : decode cX8_takesOrdinal 78 = .ok (.return_, 1) := by decide +kernel
theorem dX8_melts_0 : decode cX8_melts 0 = .ok (.bipush 6, 2) := by decide +kernel
theorem dX8_melts_2 : decode cX8_melts 2 = .ok (.iload_n 1, 1) := by decide +kernel
theorem dX8_melts_3 : decode cX8_melts 3 = .ok (.imul, 1) := by decide +kernel
theorem dX8_melts_4 : decode cX8_melts 4 = .ok (.istore_n 2, 1) := by decide +kernel
theorem dX8_melts_5 : decode cX8_melts 5 = .ok (.iload_n 2, 1) := by decide +kernel
theorem dX8_melts_6 : decode cX8_melts 6 = .ok (.bipush 6, 2) := by decide +kernel
theorem dX8_melts_8 : decode cX8_melts 8 = .ok (.iload_n 1, 1) := by decide +kernel
theorem dX8_melts_9 : decode cX8_melts 9 = .ok (.imul, 1) := by decide +kernel
theorem dX8_melts_10 : decode cX8_melts 10 = .ok (.aload_n 0, 1) := by decide +kernel
theorem dX8_melts_11 : decode cX8_melts 11 = .ok (.getfield 58, 3) := by decide +kernel
theorem dX8_melts_14 : decode cX8_melts 14 = .ok (.iload_n 1, 1) := by decide +kernel
theorem dX8_melts_15 : decode cX8_melts 15 = .ok (.iaload, 1) := by decide +kernel
theorem dX8_melts_16 : decode cX8_melts 16 = .ok (.iadd, 1) := by decide +kernel
theorem dX8_melts_17 : decode cX8_melts 17 = .ok (.if_icmp .ge 117, 3) := by decide +kernel
theorem dX8_melts_20 : decode cX8_melts 20 = .ok (.iconst 0, 1) := by decide +kernel
theorem dX8_melts_21 : decode cX8_melts 21 = .ok (.istore_n 3, 1) := by decide +kernel
theorem dX8_melts_22 : decode cX8_melts 22 = .ok (.iload_n 3, 1) := by decide +kernel
theorem dX8_melts_23 : decode cX8_melts 23 = .ok (.iconst 1, 1) := by decide +kernel
theorem dX8_melts_24 : decode cX8_melts 24 = .ok (.iadd, 1) := by decide +kernel
theorem dX8_melts_25 : decode cX8_melts 25 = .ok (.aload_n 0, 1) := by decide +kernel
theorem dX8_melts_26 : decode cX8_melts 26 = .ok (.getfield 158, 3) := by decide +kernel
theorem dX8_melts_29 : decode cX8_melts 29 = .ok (.if_icmp .ge 99, 3) := by decide +kernel
theorem dX8_melts_32 : decode cX8_melts 32 = .ok (.aload_n 0, 1) := by decide +kernel
theorem dX8_melts_33 : decode cX8_melts 33 = .ok (.getfield 70, 3) := by decide +kernel
theorem dX8_melts_36 : decode cX8_melts 36 = .ok (.iload_n 3, 1) := by decide +kernel
theorem dX8_melts_37 : decode cX8_melts 37 = .ok (.iaload, 1) := by decide +kernel
theorem dX8_melts_38 : decode cX8_melts 38 = .ok (.aload_n 0, 1) := by decide +kernel
theorem dX8_melts_39 : decode cX8_melts 39 = .ok (.getfield 61, 3) := by decide +kernel
theorem dX8_melts_42 : decode cX8_melts 42 = .ok (.iload_n 2, 1) := by decide +kernel
theorem dX8_melts_43 : decode cX8_melts 43 = .ok (.iaload, 1) := by decide +kernel
theorem dX8_melts_44 : decode cX8_melts 44 = .ok (.if_icmp .ne 78, 3) := by decide +kernel
theorem dX8_melts_47 : decode cX8_melts 47 = .ok (.aload_n 0, 1) := by decide +kernel
theorem dX8_melts_48 : decode cX8_melts 48 = .ok (.getfield 70, 3) := by decide +kernel
theorem dX8_melts_51 : decode cX8_melts 51 = .ok (.iload_n 3, 1) := by decide +kernel
theorem dX8_melts_52 : decode cX8_melts 52 = .ok (.iconst 1, 1) := by decide +kernel
theorem dX8_melts_53 : decode cX8_melts 53 = .ok (.iadd, 1) := by decide +kernel
theorem dX8_melts_54 : decode cX8_melts 54 = .ok (.iaload, 1) := by decide +kernel
theorem dX8_melts_55 : decode cX8_melts 55 = .ok (.aload_n 0, 1) := by decide +kernel
theorem dX8_melts_56 : decode cX8_melts 56 = .ok (.getfield 64, 3) := by decide +kernel
theorem dX8_melts_59 : decode cX8_melts 59 = .ok (.iload_n 2, 1) := by decide +kernel
theorem dX8_melts_60 : decode cX8_melts 60 = .ok (.iaload, 1) := by decide +kernel
theorem dX8_melts_61 : decode cX8_melts 61 = .ok (.if_icmp .ne 61, 3) := by decide +kernel
theorem dX8_melts_64 : decode cX8_melts 64 = .ok (.aload_n 0, 1) := by decide +kernel
theorem dX8_melts_65 : decode cX8_melts 65 = .ok (.getfield 70, 3) := by decide +kernel
theorem dX8_melts_68 : decode cX8_melts 68 = .ok (.iload_n 3, 1) := by decide +kernel
theorem dX8_melts_69 : decode cX8_melts 69 = .ok (.aload_n 0, 1) := by decide +kernel
theorem dX8_melts_70 : decode cX8_melts 70 = .ok (.getfield 67, 3) := by decide +kernel
theorem dX8_melts_73 : decode cX8_melts 73 = .ok (.iload_n 2, 1) := by decide +kernel
theorem dX8_melts_74 : decode cX8_melts 74 = .ok (.iaload, 1) := by decide +kernel
theorem dX8_melts_75 : decode cX8_melts 75 = .ok (.iastore, 1) := by decide +kernel
theorem dX8_melts_76 : decode cX8_melts 76 = .ok (.aload_n 0, 1) := by decide +kernel
theorem dX8_melts_77 : decode cX8_melts 77 = .ok (.dup, 1) := by decide +kernel
theorem dX8_melts_78 : decode cX8_melts 78 = .ok (.getfield 158, 3) := by decide +kernel
theorem dX8_melts_81 : decode cX8_melts 81 = .ok (.iconst 1, 1) := by decide +kernel
theorem dX8_melts_82 : decode cX8_melts 82 = .ok (.isub, 1) := by decide +kernel
theorem dX8_melts_83 : decode cX8_melts 83 = .ok (.putfield 158, 3) := by decide +kernel
theorem dX8_melts_86 : decode cX8_melts 86 = .ok (.iload_n 3, 1) := by decide +kernel
theorem dX8_melts_87 : decode cX8_melts 87 = .ok (.iconst 1, 1) := by decide +kernel
theorem dX8_melts_88 : decode cX8_melts 88 = .ok (.iadd, 1) := by decide +kernel
theorem dX8_melts_89 : decode cX8_melts 89 = .ok (.istore 4, 2) := by decide +kernel
theorem dX8_melts_91 : decode cX8_melts 91 = .ok (.iload 4, 2) := by decide +kernel
theorem dX8_melts_93 : decode cX8_melts 93 = .ok (.aload_n 0, 1) := by decide +kernel
theorem dX8_melts_94 : decode cX8_melts 94 = .ok (.getfield 158, 3) := by decide +kernel
theorem dX8_melts_97 : decode cX8_melts 97 = .ok (.if_icmp .ge 25, 3) := by decide +kernel
theorem dX8_melts_100 : decode cX8_melts 100 = .ok (.aload_n 0, 1) := by decide +kernel
theorem dX8_melts_101 : decode cX8_melts 101 = .ok (.getfield 70, 3) := by decide +kernel
theorem dX8_melts_104 : decode cX8_melts 104 = .ok (.iload 4, 2) := by decide +kernel
theorem dX8_melts_106 : decode cX8_melts 106 = .ok (.aload_n 0, 1) := by decide +kernel
theorem dX8_melts_107 : decode cX8_melts 107 = .ok (.getfield 70, 3) := by decide +kernel
theorem dX8_melts_110 : decode cX8_melts 110 = .ok (.iload 4, 2) := by decide +kernel
theorem dX8_melts_112 : decode cX8_melts 112 = .ok (.iconst 1, 1) := by decide +kernel
theorem dX8_melts_113 : decode cX8_melts 113 = .ok (.iadd, 1) := by decide +kernel
theorem dX8_melts_114 : decode cX8_melts 114 = .ok (.iaload, 1) := by decide +kernel
theorem dX8_melts_115 : decode cX8_melts 115 = .ok (.iastore, 1) := by decide +kernel
theorem dX8_melts_116 : decode cX8_melts 116 = .ok (.iinc 4 1, 3) := by decide +kernel
theorem dX8_melts_119 : decode cX8_melts 119 = .ok (.goto (-28), 3) := by decide +kernel
theorem dX8_melts_122 : decode cX8_melts 122 = .ok (.iinc 3 1, 3) := by decide +kernel
theorem dX8_melts_125 : decode cX8_melts 125 = .ok (.goto (-103), 3) := by decide +kernel
theorem dX8_melts_128 : decode cX8_melts 128 = .ok (.iinc 2 1, 3) := by decide +kernel
theorem dX8_melts_131 : decode cX8_melts 131 = .ok (.goto (-126), 3) := by decide +kernel
theorem dX8_melts_134 : decode cX8_melts 134 = .ok (.return_, 1) := by decide +kernel
theorem dX8_ends_0 : decode cX8_ends 0 = .ok (.iload_n 2, 1) := by decide +kernel
theorem dX8_ends_1 : decode cX8_ends 1 = .ok (.ifCond .eq 12, 3) := by decide +kernel
theorem dX8_ends_4 : decode cX8_ends 4 = .ok (.aload_n 0, 1) := by decide +kernel
theorem dX8_ends_5 : decode cX8_ends 5 = .ok (.getfield 158, 3) := by decide +kernel
theorem dX8_ends_8 : decode cX8_ends 8 = .ok (.bipush 20, 2) := by decide +kernel
theorem dX8_ends_10 : decode cX8_ends 10 = .ok (.if_icmp .le 10, 3) := by decide +kernel
theorem dX8_ends_13 : decode cX8_ends 13 = .ok (.aload_n 0, 1) := by decide +kernel
theorem dX8_ends_14 : decode cX8_ends 14 = .ok (.iconst 0, 1) := by decide +kernel
theorem dX8_ends_15 : decode cX8_ends 15 = .ok (.putfield 158, 3) := by decide +kernel
theorem dX8_ends_18 : decode cX8_ends 18 = .ok (.iconst 0, 1) := by decide +kernel
theorem dX8_ends_19 : decode cX8_ends 19 = .ok (.ireturn, 1) := by decide +kernel
theorem dX8_ends_20 : decode cX8_ends 20 = .ok (.aload_n 0, 1) := by decide +kernel
theorem dX8_ends_21 : decode cX8_ends 21 = .ok (.iload_n 1, 1) := by decide +kernel
theorem dX8_ends_22 : decode cX8_ends 22 = .ok (.invokevirtual 168, 3) := by decide +kernel
theorem dX8_ends_25 : decode cX8_ends 25 = .ok (.aload_n 0, 1) := by decide +kernel
theorem dX8_ends_26 : decode cX8_ends 26 = .ok (.getfield 158, 3) := by decide +kernel
theorem dX8_ends_29 : decode cX8_ends 29 = .ok (.ireturn, 1) := by decide +kernel
theorem dX8_finds_0 : decode cX8_finds 0 = .ok (.aload_n 0, 1) := by decide +kernel
theorem dX8_finds_1 : decode cX8_finds 1 = .ok (.iconst 0, 1) := by decide +kernel
theorem dX8_finds_2 : decode cX8_finds 2 = .ok (.putfield 158, 3) := by decide +kernel
theorem dX8_finds_5 : decode cX8_finds 5 = .ok (.aload_n 0, 1) := by decide +kernel
theorem dX8_finds_6 : decode cX8_finds 6 = .ok (.iload_n 1, 1) := by decide +kernel
theorem dX8_finds_7 : decode cX8_finds 7 = .ok (.iload_n 2, 1) := by decide +kernel
theorem dX8_finds_8 : decode cX8_finds 8 = .ok (.invokevirtual 171, 3) := by decide +kernel
theorem dX8_finds_11 : decode cX8_finds 11 = .ok (.istore 4, 2) := by decide +kernel
theorem dX8_finds_13 : decode cX8_finds 13 = .ok (.iload 4, 2) := by decide +kernel
theorem dX8_finds_15 : decode cX8_finds 15 = .ok (.ifCond .eq 9, 3) := by decide +kernel
theorem dX8_finds_18 : decode cX8_finds 18 = .ok (.aload_n 0, 1) := by decide +kernel
theorem dX8_finds_19 : decode cX8_finds 19 = .ok (.iload_n 1, 1) := by decide +kernel
theorem dX8_finds_20 : decode cX8_finds 20 = .ok (.iload_n 3, 1) := by decide +kernel
theorem dX8_finds_21 : decode cX8_finds 21 = .ok (.invokevirtual 174, 3) := by decide +kernel
theorem dX8_finds_24 : decode cX8_finds 24 = .ok (.aload_n 0, 1) := by decide +kernel
theorem dX8_finds_25 : decode cX8_finds 25 = .ok (.iload_n 1, 1) := by decide +kernel
theorem dX8_finds_26 : decode cX8_finds 26 = .ok (.iload 4, 2) := by decide +kernel
theorem dX8_finds_28 : decode cX8_finds 28 = .ok (.invokevirtual 177, 3) := by decide +kernel
theorem dX8_finds_31 : decode cX8_finds 31 = .ok (.ireturn, 1) := by decide +kernel
theorem dX8_keepsSaying_0 : decode cX8_keepsSaying 0 = .ok (.aload_n 0, 1) := by decide +kernel
theorem dX8_keepsSaying_1 : decode cX8_keepsSaying 1 = .ok (.aload_n 0, 1) := by decide +kernel
theorem dX8_keepsSaying_2 : decode cX8_keepsSaying 2 = .ok (.getfield 158, 3) := by decide +kernel
theorem dX8_keepsSaying_5 : decode cX8_keepsSaying 5 = .ok (.putfield 181, 3) := by decide +kernel
theorem dX8_keepsSaying_8 : decode cX8_keepsSaying 8 = .ok (.iconst 0, 1) := by decide +kernel
theorem dX8_keepsSaying_9 : decode cX8_keepsSaying 9 = .ok (.istore_n 1, 1) := by decide +kernel
theorem dX8_keepsSaying_10 : decode cX8_keepsSaying 10 = .ok (.iload_n 1, 1) := by decide +kernel
theorem dX8_keepsSaying_11 : decode cX8_keepsSaying 11 = .ok (.aload_n 0, 1) := by decide +kernel
theorem dX8_keepsSaying_12 : decode cX8_keepsSaying 12 = .ok (.getfield 158, 3) := by decide +kernel
theorem dX8_keepsSaying_15 : decode cX8_keepsSaying 15 = .ok (.if_icmp .ge 21, 3) := by decide +kernel
theorem dX8_keepsSaying_18 : decode cX8_keepsSaying 18 = .ok (.aload_n 0, 1) := by decide +kernel
theorem dX8_keepsSaying_19 : decode cX8_keepsSaying 19 = .ok (.getfield 73, 3) := by decide +kernel
theorem dX8_keepsSaying_22 : decode cX8_keepsSaying 22 = .ok (.iload_n 1, 1) := by decide +kernel
theorem dX8_keepsSaying_23 : decode cX8_keepsSaying 23 = .ok (.aload_n 0, 1) := by decide +kernel
theorem dX8_keepsSaying_24 : decode cX8_keepsSaying 24 = .ok (.getfield 70, 3) := by decide +kernel
theorem dX8_keepsSaying_27 : decode cX8_keepsSaying 27 = .ok (.iload_n 1, 1) := by decide +kernel
theorem dX8_keepsSaying_28 : decode cX8_keepsSaying 28 = .ok (.iaload, 1) := by decide +kernel
theorem dX8_keepsSaying_29 : decode cX8_keepsSaying 29 = .ok (.iastore, 1) := by decide +kernel
theorem dX8_keepsSaying_30 : decode cX8_keepsSaying 30 = .ok (.iinc 1 1, 3) := by decide +kernel
theorem dX8_keepsSaying_33 : decode cX8_keepsSaying 33 = .ok (.goto (-23), 3) := by decide +kernel
theorem dX8_keepsSaying_36 : decode cX8_keepsSaying 36 = .ok (.aload_n 0, 1) := by decide +kernel
theorem dX8_keepsSaying_37 : decode cX8_keepsSaying 37 = .ok (.getfield 158, 3) := by decide +kernel
theorem dX8_keepsSaying_40 : decode cX8_keepsSaying 40 = .ok (.ireturn, 1) := by decide +kernel
theorem dX8_say_0 : decode cX8_say 0 = .ok (.iload_n 1, 1) := by decide +kernel
theorem dX8_say_1 : decode cX8_say 1 = .ok (.invokestatic 114, 3) := by decide +kernel
theorem dX8_say_4 : decode cX8_say 4 = .ok (.ifCond .eq 14, 3) := by decide +kernel
theorem dX8_say_7 : decode cX8_say 7 = .ok (.iload_n 3, 1) := by decide +kernel
theorem dX8_say_8 : decode cX8_say 8 = .ok (.invokestatic 184, 3) := by decide +kernel
theorem dX8_say_11 : decode cX8_say 11 = .ok (.ifCond .eq 7, 3) := by decide +kernel
theorem dX8_say_14 : decode cX8_say 14 = .ok (.iconst 1, 1) := by decide +kernel
theorem dX8_say_15 : decode cX8_say 15 = .ok (.goto 4, 3) := by decide +kernel
theorem dX8_say_18 : decode cX8_say 18 = .ok (.iconst 0, 1) := by decide +kernel
theorem dX8_say_19 : decode cX8_say 19 = .ok (.istore 4, 2) := by decide +kernel
theorem dX8_say_21 : decode cX8_say 21 = .ok (.aload_n 0, 1) := by decide +kernel
theorem dX8_say_22 : decode cX8_say 22 = .ok (.iload 4, 2) := by decide +kernel
theorem dX8_say_24 : decode cX8_say 24 = .ok (.ifCond .ne 7, 3) := by decide +kernel
theorem dX8_say_27 : decode cX8_say 27 = .ok (.iconst 1, 1) := by decide +kernel
theorem dX8_say_28 : decode cX8_say 28 = .ok (.goto 15, 3) := by decide +kernel
theorem dX8_say_31 : decode cX8_say 31 = .ok (.iload_n 2, 1) := by decide +kernel
theorem dX8_say_32 : decode cX8_say 32 = .ok (.invokestatic 121, 3) := by decide +kernel
theorem dX8_say_35 : decode cX8_say 35 = .ok (.ifCond .eq 7, 3) := by decide +kernel
theorem dX8_say_38 : decode cX8_say 38 = .ok (.iconst 0, 1) := by decide +kernel
theorem dX8_say_39 : decode cX8_say 39 = .ok (.goto 4, 3) := by decide +kernel
theorem dX8_say_42 : decode cX8_say 42 = .ok (.iconst 2, 1) := by decide +kernel
theorem dX8_say_43 : decode cX8_say 43 = .ok (.invokevirtual 128, 3) := by decide +kernel
theorem dX8_say_46 : decode cX8_say 46 = .ok (.ifCond .ne 5, 3) := by decide +kernel
theorem dX8_say_49 : decode cX8_say 49 = .ok (.iconst 0, 1) := by decide +kernel
theorem dX8_say_50 : decode cX8_say 50 = .ok (.ireturn, 1) := by decide +kernel
theorem dX8_say_51 : decode cX8_say 51 = .ok (.aload_n 0, 1) := by decide +kernel
theorem dX8_say_52 : decode cX8_say 52 = .ok (.iload_n 1, 1) := by decide +kernel
theorem dX8_say_53 : decode cX8_say 53 = .ok (.iload_n 2, 1) := by decide +kernel
theorem dX8_say_54 : decode cX8_say 54 = .ok (.iload_n 3, 1) := by decide +kernel
theorem dX8_say_55 : decode cX8_say 55 = .ok (.invokevirtual 187, 3) := by decide +kernel
theorem dX8_say_58 : decode cX8_say 58 = .ok (.istore 5, 2) := by decide +kernel
theorem dX8_say_60 : decode cX8_say 60 = .ok (.aload_n 0, 1) := by decide +kernel
theorem dX8_say_61 : decode cX8_say 61 = .ok (.invokevirtual 190, 3) := by decide +kernel
theorem dX8_say_64 : decode cX8_say 64 = .ok (.ireturn, 1) := by decide +kernel
theorem dX8_sayOrdinal_0 : decode cX8_sayOrdinal 0 = .ok (.aload_n 0, 1) := by decide +kernel
theorem dX8_sayOrdinal_1 : decode cX8_sayOrdinal 1 = .ok (.iload_n 1, 1) := by decide +kernel
theorem dX8_sayOrdinal_2 : decode cX8_sayOrdinal 2 = .ok (.invokestatic 114, 3) := by decide +kernel
theorem dX8_sayOrdinal_5 : decode cX8_sayOrdinal 5 = .ok (.ifCond .ne 7, 3) := by decide +kernel
theorem dX8_sayOrdinal_8 : decode cX8_sayOrdinal 8 = .ok (.iconst 1, 1) := by decide +kernel
theorem dX8_sayOrdinal_9 : decode cX8_sayOrdinal 9 = .ok (.goto 15, 3) := by decide +kernel
theorem dX8_sayOrdinal_12 : decode cX8_sayOrdinal 12 = .ok (.iload_n 2, 1) := by decide +kernel
theorem dX8_sayOrdinal_13 : decode cX8_sayOrdinal 13 = .ok (.invokestatic 121, 3) := by decide +kernel
theorem dX8_sayOrdinal_16 : decode cX8_sayOrdinal 16 = .ok (.ifCond .eq 7, 3) := by decide +kernel
theorem dX8_sayOrdinal_19 : decode cX8_sayOrdinal 19 = .ok (.iconst 0, 1) := by decide +kernel
theorem dX8_sayOrdinal_20 : decode cX8_sayOrdinal 20 = .ok (.goto 4, 3) := by decide +kernel
theorem dX8_sayOrdinal_23 : decode cX8_sayOrdinal 23 = .ok (.iconst 2, 1) := by decide +kernel
theorem dX8_sayOrdinal_24 : decode cX8_sayOrdinal 24 = .ok (.invokevirtual 128, 3) := by decide +kernel
theorem dX8_sayOrdinal_27 : decode cX8_sayOrdinal 27 = .ok (.ifCond .ne 5, 3) := by decide +kernel
theorem dX8_sayOrdinal_30 : decode cX8_sayOrdinal 30 = .ok (.iconst 0, 1) := by decide +kernel
theorem dX8_sayOrdinal_31 : decode cX8_sayOrdinal 31 = .ok (.ireturn, 1) := by decide +kernel
theorem dX8_sayOrdinal_32 : decode cX8_sayOrdinal 32 = .ok (.aload_n 0, 1) := by decide +kernel
theorem dX8_sayOrdinal_33 : decode cX8_sayOrdinal 33 = .ok (.iconst 0, 1) := by decide +kernel
theorem dX8_sayOrdinal_34 : decode cX8_sayOrdinal 34 = .ok (.putfield 158, 3) := by decide +kernel
theorem dX8_sayOrdinal_37 : decode cX8_sayOrdinal 37 = .ok (.aload_n 0, 1) := by decide +kernel
theorem dX8_sayOrdinal_38 : decode cX8_sayOrdinal 38 = .ok (.iload_n 1, 1) := by decide +kernel
theorem dX8_sayOrdinal_39 : decode cX8_sayOrdinal 39 = .ok (.iload_n 2, 1) := by decide +kernel
theorem dX8_sayOrdinal_40 : decode cX8_sayOrdinal 40 = .ok (.invokevirtual 171, 3) := by decide +kernel
theorem dX8_sayOrdinal_43 : decode cX8_sayOrdinal 43 = .ok (.istore_n 3, 1) := by decide +kernel
theorem dX8_sayOrdinal_44 : decode cX8_sayOrdinal 44 = .ok (.iload_n 3, 1) := by decide +kernel
theorem dX8_sayOrdinal_45 : decode cX8_sayOrdinal 45 = .ok (.ifCond .eq 8, 3) := by decide +kernel
theorem dX8_sayOrdinal_48 : decode cX8_sayOrdinal 48 = .ok (.aload_n 0, 1) := by decide +kernel
theorem dX8_sayOrdinal_49 : decode cX8_sayOrdinal 49 = .ok (.iload_n 1, 1) := by decide +kernel
theorem dX8_sayOrdinal_50 : decode cX8_sayOrdinal 50 = .ok (.invokevirtual 194, 3) := by decide +kernel
theorem dX8_sayOrdinal_53 : decode cX8_sayOrdinal 53 = .ok (.aload_n 0, 1) := by decide +kernel
theorem dX8_sayOrdinal_54 : decode cX8_sayOrdinal 54 = .ok (.iload_n 1, 1) := by decide +kernel
theorem dX8_sayOrdinal_55 : decode cX8_sayOrdinal 55 = .ok (.iload_n 3, 1) := by decide +kernel
theorem dX8_sayOrdinal_56 : decode cX8_sayOrdinal 56 = .ok (.invokevirtual 177, 3) := by decide +kernel
theorem dX8_sayOrdinal_59 : decode cX8_sayOrdinal 59 = .ok (.istore 4, 2) := by decide +kernel
theorem dX8_sayOrdinal_61 : decode cX8_sayOrdinal 61 = .ok (.aload_n 0, 1) := by decide +kernel
theorem dX8_sayOrdinal_62 : decode cX8_sayOrdinal 62 = .ok (.invokevirtual 190, 3) := by decide +kernel
theorem dX8_sayOrdinal_65 : decode cX8_sayOrdinal 65 = .ok (.ireturn, 1) := by decide +kernel
theorem dX8_sayFraction_0 : decode cX8_sayFraction 0 = .ok (.iload_n 1, 1) := by decide +kernel
theorem dX8_sayFraction_1 : decode cX8_sayFraction 1 = .ok (.invokestatic 114, 3) := by decide +kernel
theorem dX8_sayFraction_4 : decode cX8_sayFraction 4 = .ok (.ifCond .eq 15, 3) := by decide +kernel
theorem dX8_sayFraction_7 : decode cX8_sayFraction 7 = .ok (.iload 4, 2) := by decide +kernel
theorem dX8_sayFraction_9 : decode cX8_sayFraction 9 = .ok (.invokestatic 184, 3) := by decide +kernel
theorem dX8_sayFraction_12 : decode cX8_sayFraction 12 = .ok (.ifCond .eq 7, 3) := by decide +kernel
theorem dX8_sayFraction_15 : decode cX8_sayFraction 15 = .ok (.iconst 1, 1) := by decide +kernel
theorem dX8_sayFraction_16 : decode cX8_sayFraction 16 = .ok (.goto 4, 3) := by decide +kernel
theorem dX8_sayFraction_19 : decode cX8_sayFraction 19 = .ok (.iconst 0, 1) := by decide +kernel
theorem dX8_sayFraction_20 : decode cX8_sayFraction 20 = .ok (.istore 5, 2) := by decide +kernel
theorem dX8_sayFraction_22 : decode cX8_sayFraction 22 = .ok (.iload_n 2, 1) := by decide +kernel
theorem dX8_sayFraction_23 : decode cX8_sayFraction 23 = .ok (.invokestatic 121, 3) := by decide +kernel
theorem dX8_sayFraction_26 : decode cX8_sayFraction 26 = .ok (.ifCond .eq 18, 3) := by decide +kernel
theorem dX8_sayFraction_29 : decode cX8_sayFraction 29 = .ok (.iload_n 3, 1) := by decide +kernel
theorem dX8_sayFraction_30 : decode cX8_sayFraction 30 = .ok (.invokestatic 121, 3) := by decide +kernel
theorem dX8_sayFraction_33 : decode cX8_sayFraction 33 = .ok (.ifCond .eq 11, 3) := by decide +kernel
theorem dX8_sayFraction_36 : decode cX8_sayFraction 36 = .ok (.iload_n 3, 1) := by decide +kernel
theorem dX8_sayFraction_37 : decode cX8_sayFraction 37 = .ok (.ifCond .le 7, 3) := by decide +kernel
theorem dX8_sayFraction_40 : decode cX8_sayFraction 40 = .ok (.iconst 1, 1) := by decide +kernel
theorem dX8_sayFraction_41 : decode cX8_sayFraction 41 = .ok (.goto 4, 3) := by decide +kernel
theorem dX8_sayFraction_44 : decode cX8_sayFraction 44 = .ok (.iconst 0, 1) := by decide +kernel
theorem dX8_sayFraction_45 : decode cX8_sayFraction 45 = .ok (.istore 6, 2) := by decide +kernel
theorem dX8_sayFraction_47 : decode cX8_sayFraction 47 = .ok (.aload_n 0, 1) := by decide +kernel
theorem dX8_sayFraction_48 : decode cX8_sayFraction 48 = .ok (.iload 5, 2) := by decide +kernel
theorem dX8_sayFraction_50 : decode cX8_sayFraction 50 = .ok (.ifCond .ne 7, 3) := by decide +kernel
theorem dX8_sayFraction_53 : decode cX8_sayFraction 53 = .ok (.iconst 1, 1) := by decide +kernel
theorem dX8_sayFraction_54 : decode cX8_sayFraction 54 = .ok (.goto 13, 3) := by decide +kernel
theorem dX8_sayFraction_57 : decode cX8_sayFraction 57 = .ok (.iload 6, 2) := by decide +kernel
theorem dX8_sayFraction_59 : decode cX8_sayFraction 59 = .ok (.ifCond .eq 7, 3) := by decide +kernel
theorem dX8_sayFraction_62 : decode cX8_sayFraction 62 = .ok (.iconst 0, 1) := by decide +kernel
theorem dX8_sayFraction_63 : decode cX8_sayFraction 63 = .ok (.goto 4, 3) := by decide +kernel
theorem dX8_sayFraction_66 : decode cX8_sayFraction 66 = .ok (.iconst 2, 1) := by decide +kernel
theorem dX8_sayFraction_67 : decode cX8_sayFraction 67 = .ok (.invokevirtual 128, 3) := by decide +kernel
theorem dX8_sayFraction_70 : decode cX8_sayFraction 70 = .ok (.ifCond .ne 5, 3) := by decide +kernel
theorem dX8_sayFraction_73 : decode cX8_sayFraction 73 = .ok (.iconst 0, 1) := by decide +kernel
theorem dX8_sayFraction_74 : decode cX8_sayFraction 74 = .ok (.ireturn, 1) := by decide +kernel
theorem dX8_sayFraction_75 : decode cX8_sayFraction 75 = .ok (.aload_n 0, 1) := by decide +kernel
theorem dX8_sayFraction_76 : decode cX8_sayFraction 76 = .ok (.iconst 0, 1) := by decide +kernel
theorem dX8_sayFraction_77 : decode cX8_sayFraction 77 = .ok (.putfield 158, 3) := by decide +kernel
theorem dX8_sayFraction_80 : decode cX8_sayFraction 80 = .ok (.aload_n 0, 1) := by decide +kernel
theorem dX8_sayFraction_81 : decode cX8_sayFraction 81 = .ok (.iload_n 1, 1) := by decide +kernel
theorem dX8_sayFraction_82 : decode cX8_sayFraction 82 = .ok (.iload_n 2, 1) := by decide +kernel
theorem dX8_sayFraction_83 : decode cX8_sayFraction 83 = .ok (.invokevirtual 171, 3) := by decide +kernel
theorem dX8_sayFraction_86 : decode cX8_sayFraction 86 = .ok (.istore 7, 2) := by decide +kernel
theorem dX8_sayFraction_88 : decode cX8_sayFraction 88 = .ok (.iload 7, 2) := by decide +kernel
theorem dX8_sayFraction_90 : decode cX8_sayFraction 90 = .ok (.ifCond .eq 18, 3) := by decide +kernel
theorem dX8_sayFraction_93 : decode cX8_sayFraction 93 = .ok (.aload_n 0, 1) := by decide +kernel
theorem dX8_sayFraction_94 : decode cX8_sayFraction 94 = .ok (.iload_n 1, 1) := by decide +kernel
theorem dX8_sayFraction_95 : decode cX8_sayFraction 95 = .ok (.iload 4, 2) := by decide +kernel
theorem dX8_sayFraction_97 : decode cX8_sayFraction 97 = .ok (.invokevirtual 174, 3) := by decide +kernel
theorem dX8_sayFraction_100 : decode cX8_sayFraction 100 = .ok (.aload_n 0, 1) := by decide +kernel
theorem dX8_sayFraction_101 : decode cX8_sayFraction 101 = .ok (.iload_n 1, 1) := by decide +kernel
theorem dX8_sayFraction_102 : decode cX8_sayFraction 102 = .ok (.iload_n 3, 1) := by decide +kernel
theorem dX8_sayFraction_103 : decode cX8_sayFraction 103 = .ok (.invokevirtual 171, 3) := by decide +kernel
theorem dX8_sayFraction_106 : decode cX8_sayFraction 106 = .ok (.istore 7, 2) := by decide +kernel
theorem dX8_sayFraction_108 : decode cX8_sayFraction 108 = .ok (.iload 7, 2) := by decide +kernel
theorem dX8_sayFraction_110 : decode cX8_sayFraction 110 = .ok (.ifCond .eq 8, 3) := by decide +kernel
theorem dX8_sayFraction_113 : decode cX8_sayFraction 113 = .ok (.aload_n 0, 1) := by decide +kernel
theorem dX8_sayFraction_114 : decode cX8_sayFraction 114 = .ok (.iload_n 1, 1) := by decide +kernel
theorem dX8_sayFraction_115 : decode cX8_sayFraction 115 = .ok (.invokevirtual 194, 3) := by decide +kernel
theorem dX8_sayFraction_118 : decode cX8_sayFraction 118 = .ok (.aload_n 0, 1) := by decide +kernel
theorem dX8_sayFraction_119 : decode cX8_sayFraction 119 = .ok (.iload_n 1, 1) := by decide +kernel
theorem dX8_sayFraction_120 : decode cX8_sayFraction 120 = .ok (.iload 7, 2) := by decide +kernel
theorem dX8_sayFraction_122 : decode cX8_sayFraction 122 = .ok (.invokevirtual 177, 3) := by decide +kernel
theorem dX8_sayFraction_125 : decode cX8_sayFraction 125 = .ok (.istore 8, 2) := by decide +kernel
theorem dX8_sayFraction_127 : decode cX8_sayFraction 127 = .ok (.aload_n 0, 1) := by decide +kernel
theorem dX8_sayFraction_128 : decode cX8_sayFraction 128 = .ok (.invokevirtual 190, 3) := by decide +kernel
theorem dX8_sayFraction_131 : decode cX8_sayFraction 131 = .ok (.ireturn, 1) := by decide +kernel
theorem dX8_said_0 : decode cX8_said 0 = .ok (.aload_n 0, 1) := by decide +kernel
theorem dX8_said_1 : decode cX8_said 1 = .ok (.iload_n 1, 1) := by decide +kernel
theorem dX8_said_2 : decode cX8_said 2 = .ok (.iconst 0, 1) := by decide +kernel
theorem dX8_said_3 : decode cX8_said 3 = .ok (.aload_n 0, 1) := by decide +kernel
theorem dX8_said_4 : decode cX8_said 4 = .ok (.getfield 181, 3) := by decide +kernel
theorem dX8_said_7 : decode cX8_said 7 = .ok (.iconst 1, 1) := by decide +kernel
theorem dX8_said_8 : decode cX8_said 8 = .ok (.isub, 1) := by decide +kernel
theorem dX8_said_9 : decode cX8_said 9 = .ok (.invokestatic 110, 3) := by decide +kernel
theorem dX8_said_12 : decode cX8_said 12 = .ok (.ifCond .eq 7, 3) := by decide +kernel
theorem dX8_said_15 : decode cX8_said 15 = .ok (.iconst 0, 1) := by decide +kernel
theorem dX8_said_16 : decode cX8_said 16 = .ok (.goto 4, 3) := by decide +kernel
theorem dX8_said_19 : decode cX8_said 19 = .ok (.iconst 1, 1) := by decide +kernel
theorem dX8_said_20 : decode cX8_said 20 = .ok (.invokevirtual 128, 3) := by decide +kernel
theorem dX8_said_23 : decode cX8_said 23 = .ok (.ifCond .eq 12, 3) := by decide +kernel
theorem dX8_said_26 : decode cX8_said 26 = .ok (.aload_n 0, 1) := by decide +kernel
theorem dX8_said_27 : decode cX8_said 27 = .ok (.getfield 73, 3) := by decide +kernel
theorem dX8_said_30 : decode cX8_said 30 = .ok (.iload_n 1, 1) := by decide +kernel
theorem dX8_said_31 : decode cX8_said 31 = .ok (.iaload, 1) := by decide +kernel
theorem dX8_said_32 : decode cX8_said 32 = .ok (.goto 4, 3) := by decide +kernel
theorem dX8_said_35 : decode cX8_said 35 = .ok (.iconst 0, 1) := by decide +kernel
theorem dX8_said_36 : decode cX8_said 36 = .ok (.ireturn, 1) := by decide +kernel
theorem dX8_hear_0 : decode cX8_hear 0 = .ok (.aload_n 0, 1) := by decide +kernel
theorem dX8_hear_1 : decode cX8_hear 1 = .ok (.iload_n 1, 1) := by decide +kernel
theorem dX8_hear_2 : decode cX8_hear 2 = .ok (.invokestatic 135, 3) := by decide +kernel
theorem dX8_hear_5 : decode cX8_hear 5 = .ok (.ifCond .ne 7, 3) := by decide +kernel
theorem dX8_hear_8 : decode cX8_hear 8 = .ok (.iconst 1, 1) := by decide +kernel
theorem dX8_hear_9 : decode cX8_hear 9 = .ok (.goto 17, 3) := by decide +kernel
theorem dX8_hear_12 : decode cX8_hear 12 = .ok (.aload_n 0, 1) := by decide +kernel
theorem dX8_hear_13 : decode cX8_hear 13 = .ok (.getfield 197, 3) := by decide +kernel
theorem dX8_hear_16 : decode cX8_hear 16 = .ok (.bipush 20, 2) := by decide +kernel
theorem dX8_hear_18 : decode cX8_hear 18 = .ok (.if_icmp .ne 7, 3) := by decide +kernel
theorem dX8_hear_21 : decode cX8_hear 21 = .ok (.iconst 2, 1) := by decide +kernel
theorem dX8_hear_22 : decode cX8_hear 22 = .ok (.goto 4, 3) := by decide +kernel
theorem dX8_hear_25 : decode cX8_hear 25 = .ok (.iconst 0, 1) := by decide +kernel
theorem dX8_hear_26 : decode cX8_hear 26 = .ok (.invokevirtual 128, 3) := by decide +kernel
theorem dX8_hear_29 : decode cX8_hear 29 = .ok (.ifCond .ne 5, 3) := by decide +kernel
theorem dX8_hear_32 : decode cX8_hear 32 = .ok (.iconst 0, 1) := by decide +kernel
theorem dX8_hear_33 : decode cX8_hear 33 = .ok (.ireturn, 1) := by decide +kernel
theorem dX8_hear_34 : decode cX8_hear 34 = .ok (.aload_n 0, 1) := by decide +kernel
theorem dX8_hear_35 : decode cX8_hear 35 = .ok (.getfield 79, 3) := by decide +kernel
theorem dX8_hear_38 : decode cX8_hear 38 = .ok (.aload_n 0, 1) := by decide +kernel
theorem dX8_hear_39 : decode cX8_hear 39 = .ok (.getfield 197, 3) := by decide +kernel
theorem dX8_hear_42 : decode cX8_hear 42 = .ok (.iload_n 1, 1) := by decide +kernel
theorem dX8_hear_43 : decode cX8_hear 43 = .ok (.iastore, 1) := by decide +kernel
theorem dX8_hear_44 : decode cX8_hear 44 = .ok (.aload_n 0, 1) := by decide +kernel
theorem dX8_hear_45 : decode cX8_hear 45 = .ok (.dup, 1) := by decide +kernel
theorem dX8_hear_46 : decode cX8_hear 46 = .ok (.getfield 197, 3) := by decide +kernel
theorem dX8_hear_49 : decode cX8_hear 49 = .ok (.iconst 1, 1) := by decide +kernel
theorem dX8_hear_50 : decode cX8_hear 50 = .ok (.iadd, 1) := by decide +kernel
theorem dX8_hear_51 : decode cX8_hear 51 = .ok (.putfield 197, 3) := by decide +kernel
theorem dX8_hear_54 : decode cX8_hear 54 = .ok (.aload_n 0, 1) := by decide +kernel
theorem dX8_hear_55 : decode cX8_hear 55 = .ok (.getfield 197, 3) := by decide +kernel
theorem dX8_hear_58 : decode cX8_hear 58 = .ok (.ireturn, 1) := by decide +kernel
theorem dX8_hearSaid_0 : decode cX8_hearSaid 0 = .ok (.aload_n 0, 1) := by decide +kernel
theorem dX8_hearSaid_1 : decode cX8_hearSaid 1 = .ok (.iconst 0, 1) := by decide +kernel
theorem dX8_hearSaid_2 : decode cX8_hearSaid 2 = .ok (.putfield 106, 3) := by decide +kernel
theorem dX8_hearSaid_5 : decode cX8_hearSaid 5 = .ok (.aload_n 0, 1) := by decide +kernel
theorem dX8_hearSaid_6 : decode cX8_hearSaid 6 = .ok (.aload_n 0, 1) := by decide +kernel
theorem dX8_hearSaid_7 : decode cX8_hearSaid 7 = .ok (.getfield 181, 3) := by decide +kernel
theorem dX8_hearSaid_10 : decode cX8_hearSaid 10 = .ok (.putfield 197, 3) := by decide +kernel
theorem dX8_hearSaid_13 : decode cX8_hearSaid 13 = .ok (.iconst 0, 1) := by decide +kernel
theorem dX8_hearSaid_14 : decode cX8_hearSaid 14 = .ok (.istore_n 1, 1) := by decide +kernel
theorem dX8_hearSaid_15 : decode cX8_hearSaid 15 = .ok (.iload_n 1, 1) := by decide +kernel
theorem dX8_hearSaid_16 : decode cX8_hearSaid 16 = .ok (.aload_n 0, 1) := by decide +kernel
theorem dX8_hearSaid_17 : decode cX8_hearSaid 17 = .ok (.getfield 197, 3) := by decide +kernel
theorem dX8_hearSaid_20 : decode cX8_hearSaid 20 = .ok (.if_icmp .ge 21, 3) := by decide +kernel
theorem dX8_hearSaid_23 : decode cX8_hearSaid 23 = .ok (.aload_n 0, 1) := by decide +kernel
theorem dX8_hearSaid_24 : decode cX8_hearSaid 24 = .ok (.getfield 79, 3) := by decide +kernel
theorem dX8_hearSaid_27 : decode cX8_hearSaid 27 = .ok (.iload_n 1, 1) := by decide +kernel
theorem dX8_hearSaid_28 : decode cX8_hearSaid 28 = .ok (.aload_n 0, 1) := by decide +kernel
theorem dX8_hearSaid_29 : decode cX8_hearSaid 29 = .ok (.getfield 73, 3) := by decide +kernel
theorem dX8_hearSaid_32 : decode cX8_hearSaid 32 = .ok (.iload_n 1, 1) := by decide +kernel
theorem dX8_hearSaid_33 : decode cX8_hearSaid 33 = .ok (.iaload, 1) := by decide +kernel
theorem dX8_hearSaid_34 : decode cX8_hearSaid 34 = .ok (.iastore, 1) := by decide +kernel
theorem dX8_hearSaid_35 : decode cX8_hearSaid 35 = .ok (.iinc 1 1, 3) := by decide +kernel
theorem dX8_hearSaid_38 : decode cX8_hearSaid 38 = .ok (.goto (-23), 3) := by decide +kernel
theorem dX8_hearSaid_41 : decode cX8_hearSaid 41 = .ok (.aload_n 0, 1) := by decide +kernel
theorem dX8_hearSaid_42 : decode cX8_hearSaid 42 = .ok (.getfield 197, 3) := by decide +kernel
theorem dX8_hearSaid_45 : decode cX8_hearSaid 45 = .ok (.ireturn, 1) := by decide +kernel
theorem dX8_forget_0 : decode cX8_forget 0 = .ok (.aload_n 0, 1) := by decide +kernel
theorem dX8_forget_1 : decode cX8_forget 1 = .ok (.iconst 0, 1) := by decide +kernel
theorem dX8_forget_2 : decode cX8_forget 2 = .ok (.putfield 106, 3) := by decide +kernel
theorem dX8_forget_5 : decode cX8_forget 5 = .ok (.aload_n 0, 1) := by decide +kernel
theorem dX8_forget_6 : decode cX8_forget 6 = .ok (.getfield 197, 3) := by decide +kernel
theorem dX8_forget_9 : decode cX8_forget 9 = .ok (.istore_n 1, 1) := by decide +kernel
theorem dX8_forget_10 : decode cX8_forget 10 = .ok (.aload_n 0, 1) := by decide +kernel
theorem dX8_forget_11 : decode cX8_forget 11 = .ok (.iconst 0, 1) := by decide +kernel
theorem dX8_forget_12 : decode cX8_forget 12 = .ok (.putfield 197, 3) := by decide +kernel
theorem dX8_forget_15 : decode cX8_forget 15 = .ok (.iload_n 1, 1) := by decide +kernel
theorem dX8_forget_16 : decode cX8_forget 16 = .ok (.ireturn, 1) := by decide +kernel
theorem dX8_isHeard_0 : decode cX8_isHeard 0 = .ok (.aload_n 0, 1) := by decide +kernel
theorem dX8_isHeard_1 : decode cX8_isHeard 1 = .ok (.getfield 158, 3) := by decide +kernel
theorem dX8_isHeard_4 : decode cX8_isHeard 4 = .ok (.aload_n 0, 1) := by decide +kernel
theorem dX8_isHeard_5 : decode cX8_isHeard 5 = .ok (.getfield 197, 3) := by decide +kernel
theorem dX8_isHeard_8 : decode cX8_isHeard 8 = .ok (.if_icmp .ne 14, 3) := by decide +kernel
theorem dX8_isHeard_11 : decode cX8_isHeard 11 = .ok (.aload_n 0, 1) := by decide +kernel
theorem dX8_isHeard_12 : decode cX8_isHeard 12 = .ok (.getfield 197, 3) := by decide +kernel
theorem dX8_isHeard_15 : decode cX8_isHeard 15 = .ok (.ifCond .le 7, 3) := by decide +kernel
theorem dX8_isHeard_18 : decode cX8_isHeard 18 = .ok (.iconst 1, 1) := by decide +kernel
theorem dX8_isHeard_19 : decode cX8_isHeard 19 = .ok (.goto 4, 3) := by decide +kernel
theorem dX8_isHeard_22 : decode cX8_isHeard 22 = .ok (.iconst 0, 1) := by decide +kernel
theorem dX8_isHeard_23 : decode cX8_isHeard 23 = .ok (.istore_n 1, 1) := by decide +kernel
theorem dX8_isHeard_24 : decode cX8_isHeard 24 = .ok (.iconst 0, 1) := by decide +kernel
theorem dX8_isHeard_25 : decode cX8_isHeard 25 = .ok (.istore_n 2, 1) := by decide +kernel
theorem dX8_isHeard_26 : decode cX8_isHeard 26 = .ok (.iload_n 2, 1) := by decide +kernel
theorem dX8_isHeard_27 : decode cX8_isHeard 27 = .ok (.aload_n 0, 1) := by decide +kernel
theorem dX8_isHeard_28 : decode cX8_isHeard 28 = .ok (.getfield 197, 3) := by decide +kernel
theorem dX8_isHeard_31 : decode cX8_isHeard 31 = .ok (.if_icmp .ge 44, 3) := by decide +kernel
theorem dX8_isHeard_34 : decode cX8_isHeard 34 = .ok (.iload_n 1, 1) := by decide +kernel
theorem dX8_isHeard_35 : decode cX8_isHeard 35 = .ok (.ifCond .eq 40, 3) := by decide +kernel
theorem dX8_isHeard_38 : decode cX8_isHeard 38 = .ok (.aload_n 0, 1) := by decide +kernel
theorem dX8_isHeard_39 : decode cX8_isHeard 39 = .ok (.getfield 79, 3) := by decide +kernel
theorem dX8_isHeard_42 : decode cX8_isHeard 42 = .ok (.iload_n 2, 1) := by decide +kernel
theorem dX8_isHeard_43 : decode cX8_isHeard 43 = .ok (.iaload, 1) := by decide +kernel
theorem dX8_isHeard_44 : decode cX8_isHeard 44 = .ok (.iconst (-1), 1) := by decide +kernel
theorem dX8_isHeard_45 : decode cX8_isHeard 45 = .ok (.if_icmp .eq 18, 3) := by decide +kernel
theorem dX8_isHeard_48 : decode cX8_isHeard 48 = .ok (.aload_n 0, 1) := by decide +kernel
theorem dX8_isHeard_49 : decode cX8_isHeard 49 = .ok (.getfield 79, 3) := by decide +kernel
theorem dX8_isHeard_52 : decode cX8_isHeard 52 = .ok (.iload_n 2, 1) := by decide +kernel
theorem dX8_isHeard_53 : decode cX8_isHeard 53 = .ok (.iaload, 1) := by decide +kernel
theorem dX8_isHeard_54 : decode cX8_isHeard 54 = .ok (.aload_n 0, 1) := by decide +kernel
theorem dX8_isHeard_55 : decode cX8_isHeard 55 = .ok (.getfield 70, 3) := by decide +kernel
theorem dX8_isHeard_58 : decode cX8_isHeard 58 = .ok (.iload_n 2, 1) := by decide +kernel
theorem dX8_isHeard_59 : decode cX8_isHeard 59 = .ok (.iaload, 1) := by decide +kernel
theorem dX8_isHeard_60 : decode cX8_isHeard 60 = .ok (.if_icmp .ne 7, 3) := by decide +kernel
theorem dX8_isHeard_63 : decode cX8_isHeard 63 = .ok (.iconst 1, 1) := by decide +kernel
theorem dX8_isHeard_64 : decode cX8_isHeard 64 = .ok (.goto 4, 3) := by decide +kernel
theorem dX8_isHeard_67 : decode cX8_isHeard 67 = .ok (.iconst 0, 1) := by decide +kernel
theorem dX8_isHeard_68 : decode cX8_isHeard 68 = .ok (.istore_n 1, 1) := by decide +kernel
theorem dX8_isHeard_69 : decode cX8_isHeard 69 = .ok (.iinc 2 1, 3) := by decide +kernel
theorem dX8_isHeard_72 : decode cX8_isHeard 72 = .ok (.goto (-46), 3) := by decide +kernel
theorem dX8_isHeard_75 : decode cX8_isHeard 75 = .ok (.iload_n 1, 1) := by decide +kernel
theorem dX8_isHeard_76 : decode cX8_isHeard 76 = .ok (.ireturn, 1) := by decide +kernel
theorem dX8_canBound_0 : decode cX8_canBound 0 = .ok (.aload_n 0, 1) := by decide +kernel
theorem dX8_canBound_1 : decode cX8_canBound 1 = .ok (.iload_n 1, 1) := by decide +kernel
theorem dX8_canBound_2 : decode cX8_canBound 2 = .ok (.invokestatic 114, 3) := by decide +kernel
theorem dX8_canBound_5 : decode cX8_canBound 5 = .ok (.ifCond .eq 10, 3) := by decide +kernel
theorem dX8_canBound_8 : decode cX8_canBound 8 = .ok (.iload_n 2, 1) := by decide +kernel
theorem dX8_canBound_9 : decode cX8_canBound 9 = .ok (.invokestatic 184, 3) := by decide +kernel
theorem dX8_canBound_12 : decode cX8_canBound 12 = .ok (.ifCond .ne 7, 3) := by decide +kernel
theorem dX8_canBound_15 : decode cX8_canBound 15 = .ok (.iconst 1, 1) := by decide +kernel
theorem dX8_canBound_16 : decode cX8_canBound 16 = .ok (.goto 23, 3) := by decide +kernel
theorem dX8_canBound_19 : decode cX8_canBound 19 = .ok (.iload_n 3, 1) := by decide +kernel
theorem dX8_canBound_20 : decode cX8_canBound 20 = .ok (.iconst 0, 1) := by decide +kernel
theorem dX8_canBound_21 : decode cX8_canBound 21 = .ok (.iload 4, 2) := by decide +kernel
theorem dX8_canBound_23 : decode cX8_canBound 23 = .ok (.invokestatic 110, 3) := by decide +kernel
theorem dX8_canBound_26 : decode cX8_canBound 26 = .ok (.ifCond .eq 12, 3) := by decide +kernel
theorem dX8_canBound_29 : decode cX8_canBound 29 = .ok (.iload 5, 2) := by decide +kernel
theorem dX8_canBound_31 : decode cX8_canBound 31 = .ok (.ifCond .eq 7, 3) := by decide +kernel
theorem dX8_canBound_34 : decode cX8_canBound 34 = .ok (.iconst 0, 1) := by decide +kernel
theorem dX8_canBound_35 : decode cX8_canBound 35 = .ok (.goto 4, 3) := by decide +kernel
theorem dX8_canBound_38 : decode cX8_canBound 38 = .ok (.iconst 2, 1) := by decide +kernel
theorem dX8_canBound_39 : decode cX8_canBound 39 = .ok (.invokevirtual 128, 3) := by decide +kernel
theorem dX8_canBound_42 : decode cX8_canBound 42 = .ok (.ireturn, 1) := by decide +kernel
theorem dX8_fitsIt_0 : decode cX8_fitsIt 0 = .ok (.aload_n 0, 1) := by decide +kernel
theorem dX8_fitsIt_1 : decode cX8_fitsIt 1 = .ok (.iload_n 1, 1) := by decide +kernel
theorem dX8_fitsIt_2 : decode cX8_fitsIt 2 = .ok (.iload_n 3, 1) := by decide +kernel
theorem dX8_fitsIt_3 : decode cX8_fitsIt 3 = .ok (.iload_n 2, 1) := by decide +kernel
theorem dX8_fitsIt_4 : decode cX8_fitsIt 4 = .ok (.invokevirtual 187, 3) := by decide +kernel
theorem dX8_fitsIt_7 : decode cX8_fitsIt 7 = .ok (.istore 4, 2) := by decide +kernel
theorem dX8_fitsIt_9 : decode cX8_fitsIt 9 = .ok (.aload_n 0, 1) := by decide +kernel
theorem dX8_fitsIt_10 : decode cX8_fitsIt 10 = .ok (.invokevirtual 200, 3) := by decide +kernel
theorem dX8_fitsIt_13 : decode cX8_fitsIt 13 = .ok (.ireturn, 1) := by decide +kernel
theorem dX8_fits_0 : decode cX8_fits 0 = .ok (.aload_n 0, 1) := by decide +kernel
theorem dX8_fits_1 : decode cX8_fits 1 = .ok (.iload_n 1, 1) := by decide +kernel
theorem dX8_fits_2 : decode cX8_fits 2 = .ok (.iload_n 2, 1) := by decide +kernel
theorem dX8_fits_3 : decode cX8_fits 3 = .ok (.iload_n 3, 1) := by decide +kernel
theorem dX8_fits_4 : decode cX8_fits 4 = .ok (.sipush 999, 3) := by decide +kernel
theorem dX8_fits_7 : decode cX8_fits 7 = .ok (.iconst 1, 1) := by decide +kernel
theorem dX8_fits_8 : decode cX8_fits 8 = .ok (.invokevirtual 204, 3) := by decide +kernel
theorem dX8_fits_11 : decode cX8_fits 11 = .ok (.ifCond .ne 5, 3) := by decide +kernel
theorem dX8_fits_14 : decode cX8_fits 14 = .ok (.iconst 0, 1) := by decide +kernel
theorem dX8_fits_15 : decode cX8_fits 15 = .ok (.ireturn, 1) := by decide +kernel
theorem dX8_fits_16 : decode cX8_fits 16 = .ok (.iconst 0, 1) := by decide +kernel
theorem dX8_fits_17 : decode cX8_fits 17 = .ok (.istore 4, 2) := by decide +kernel
theorem dX8_fits_19 : decode cX8_fits 19 = .ok (.iconst 0, 1) := by decide +kernel
theorem dX8_fits_20 : decode cX8_fits 20 = .ok (.istore 5, 2) := by decide +kernel
theorem dX8_fits_22 : decode cX8_fits 22 = .ok (.iload 5, 2) := by decide +kernel
theorem dX8_fits_24 : decode cX8_fits 24 = .ok (.iload_n 3, 1) := by decide +kernel
theorem dX8_fits_25 : decode cX8_fits 25 = .ok (.if_icmp .gt 30, 3) := by decide +kernel
theorem dX8_fits_28 : decode cX8_fits 28 = .ok (.iload 4, 2) := by decide +kernel
theorem dX8_fits_30 : decode cX8_fits 30 = .ok (.aload_n 0, 1) := by decide +kernel
theorem dX8_fits_31 : decode cX8_fits 31 = .ok (.iload_n 1, 1) := by decide +kernel
theorem dX8_fits_32 : decode cX8_fits 32 = .ok (.iload_n 2, 1) := by decide +kernel
theorem dX8_fits_33 : decode cX8_fits 33 = .ok (.iload 5, 2) := by decide +kernel
theorem dX8_fits_35 : decode cX8_fits 35 = .ok (.invokevirtual 208, 3) := by decide +kernel
theorem dX8_fits_38 : decode cX8_fits 38 = .ok (.ifCond .eq 7, 3) := by decide +kernel
theorem dX8_fits_41 : decode cX8_fits 41 = .ok (.iconst 1, 1) := by decide +kernel
theorem dX8_fits_42 : decode cX8_fits 42 = .ok (.goto 4, 3) := by decide +kernel
theorem dX8_fits_45 : decode cX8_fits 45 = .ok (.iconst 0, 1) := by decide +kernel
theorem dX8_fits_46 : decode cX8_fits 46 = .ok (.iadd, 1) := by decide +kernel
theorem dX8_fits_47 : decode cX8_fits 47 = .ok (.istore 4, 2) := by decide +kernel
theorem dX8_fits_49 : decode cX8_fits 49 = .ok (.iinc 5 1, 3) := by decide +kernel
theorem dX8_fits_52 : decode cX8_fits 52 = .ok (.goto (-30), 3) := by decide +kernel
theorem dX8_fits_55 : decode cX8_fits 55 = .ok (.iload 4, 2) := by decide +kernel
theorem dX8_fits_57 : decode cX8_fits 57 = .ok (.ireturn, 1) := by decide +kernel
theorem dX8_fit_0 : decode cX8_fit 0 = .ok (.aload_n 0, 1) := by decide +kernel
theorem dX8_fit_1 : decode cX8_fit 1 = .ok (.iload_n 1, 1) := by decide +kernel
theorem dX8_fit_2 : decode cX8_fit 2 = .ok (.iload_n 2, 1) := by decide +kernel
theorem dX8_fit_3 : decode cX8_fit 3 = .ok (.iload_n 3, 1) := by decide +kernel
theorem dX8_fit_4 : decode cX8_fit 4 = .ok (.sipush 999, 3) := by decide +kernel
theorem dX8_fit_7 : decode cX8_fit 7 = .ok (.iload 4, 2) := by decide +kernel
theorem dX8_fit_9 : decode cX8_fit 9 = .ok (.ifCond .lt 7, 3) := by decide +kernel
theorem dX8_fit_12 : decode cX8_fit 12 = .ok (.iconst 1, 1) := by decide +kernel
theorem dX8_fit_13 : decode cX8_fit 13 = .ok (.goto 4, 3) := by decide +kernel
theorem dX8_fit_16 : decode cX8_fit 16 = .ok (.iconst 0, 1) := by decide +kernel
theorem dX8_fit_17 : decode cX8_fit 17 = .ok (.invokevirtual 204, 3) := by decide +kernel
theorem dX8_fit_20 : decode cX8_fit 20 = .ok (.ifCond .ne 5, 3) := by decide +kernel
theorem dX8_fit_23 : decode cX8_fit 23 = .ok (.iconst 0, 1) := by decide +kernel
theorem dX8_fit_24 : decode cX8_fit 24 = .ok (.ireturn, 1) := by decide +kernel
theorem dX8_fit_25 : decode cX8_fit 25 = .ok (.iconst 0, 1) := by decide +kernel
theorem dX8_fit_26 : decode cX8_fit 26 = .ok (.istore 5, 2) := by decide +kernel
theorem dX8_fit_28 : decode cX8_fit 28 = .ok (.iconst 0, 1) := by decide +kernel
theorem dX8_fit_29 : decode cX8_fit 29 = .ok (.istore 6, 2) := by decide +kernel
theorem dX8_fit_31 : decode cX8_fit 31 = .ok (.iload 6, 2) := by decide +kernel
theorem dX8_fit_33 : decode cX8_fit 33 = .ok (.iload_n 3, 1) := by decide +kernel
theorem dX8_fit_34 : decode cX8_fit 34 = .ok (.if_icmp .gt 33, 3) := by decide +kernel
theorem dX8_fit_37 : decode cX8_fit 37 = .ok (.aload_n 0, 1) := by decide +kernel
theorem dX8_fit_38 : decode cX8_fit 38 = .ok (.iload_n 1, 1) := by decide +kernel
theorem dX8_fit_39 : decode cX8_fit 39 = .ok (.iload_n 2, 1) := by decide +kernel
theorem dX8_fit_40 : decode cX8_fit 40 = .ok (.iload 6, 2) := by decide +kernel
theorem dX8_fit_42 : decode cX8_fit 42 = .ok (.invokevirtual 208, 3) := by decide +kernel
theorem dX8_fit_45 : decode cX8_fit 45 = .ok (.ifCond .eq 16, 3) := by decide +kernel
theorem dX8_fit_48 : decode cX8_fit 48 = .ok (.iload 5, 2) := by decide +kernel
theorem dX8_fit_50 : decode cX8_fit 50 = .ok (.iload 4, 2) := by decide +kernel
theorem dX8_fit_52 : decode cX8_fit 52 = .ok (.if_icmp .ne 6, 3) := by decide +kernel
theorem dX8_fit_55 : decode cX8_fit 55 = .ok (.iload 6, 2) := by decide +kernel
theorem dX8_fit_57 : decode cX8_fit 57 = .ok (.ireturn, 1) := by decide +kernel
theorem dX8_fit_58 : decode cX8_fit 58 = .ok (.iinc 5 1, 3) := by decide +kernel
theorem dX8_fit_61 : decode cX8_fit 61 = .ok (.iinc 6 1, 3) := by decide +kernel
theorem dX8_fit_64 : decode cX8_fit 64 = .ok (.goto (-33), 3) := by decide +kernel
theorem dX8_fit_67 : decode cX8_fit 67 = .ok (.iconst (-1), 1) := by decide +kernel
theorem dX8_fit_68 : decode cX8_fit 68 = .ok (.ireturn, 1) := by decide +kernel
theorem dX8_keepsRow_0 : decode cX8_keepsRow 0 = .ok (.aload_n 0, 1) := by decide +kernel
theorem dX8_keepsRow_1 : decode cX8_keepsRow 1 = .ok (.getfield 91, 3) := by decide +kernel
theorem dX8_keepsRow_4 : decode cX8_keepsRow 4 = .ok (.iload_n 1, 1) := by decide +kernel
theorem dX8_keepsRow_5 : decode cX8_keepsRow 5 = .ok (.aload_n 0, 1) := by decide +kernel
theorem dX8_keepsRow_6 : decode cX8_keepsRow 6 = .ok (.getfield 158, 3) := by decide +kernel
theorem dX8_keepsRow_9 : decode cX8_keepsRow 9 = .ok (.iastore, 1) := by decide +kernel
theorem dX8_keepsRow_10 : decode cX8_keepsRow 10 = .ok (.iconst 0, 1) := by decide +kernel
theorem dX8_keepsRow_11 : decode cX8_keepsRow 11 = .ok (.istore_n 2, 1) := by decide +kernel
theorem dX8_keepsRow_12 : decode cX8_keepsRow 12 = .ok (.iload_n 2, 1) := by decide +kernel
theorem dX8_keepsRow_13 : decode cX8_keepsRow 13 = .ok (.aload_n 0, 1) := by decide +kernel
theorem dX8_keepsRow_14 : decode cX8_keepsRow 14 = .ok (.getfield 158, 3) := by decide +kernel
theorem dX8_keepsRow_17 : decode cX8_keepsRow 17 = .ok (.if_icmp .ge 26, 3) := by decide +kernel
theorem dX8_keepsRow_20 : decode cX8_keepsRow 20 = .ok (.aload_n 0, 1) := by decide +kernel
theorem dX8_keepsRow_21 : decode cX8_keepsRow 21 = .ok (.getfield 94, 3) := by decide +kernel
theorem dX8_keepsRow_24 : decode cX8_keepsRow 24 = .ok (.bipush 20, 2) := by decide +kernel
theorem dX8_keepsRow_26 : decode cX8_keepsRow 26 = .ok (.iload_n 1, 1) := by decide +kernel
theorem dX8_keepsRow_27 : decode cX8_keepsRow 27 = .ok (.imul, 1) := by decide +kernel
theorem dX8_keepsRow_28 : decode cX8_keepsRow 28 = .ok (.iload_n 2, 1) := by decide +kernel
theorem dX8_keepsRow_29 : decode cX8_keepsRow 29 = .ok (.iadd, 1) := by decide +kernel
theorem dX8_keepsRow_30 : decode cX8_keepsRow 30 = .ok (.aload_n 0, 1) := by decide +kernel
theorem dX8_keepsRow_31 : decode cX8_keepsRow 31 = .ok (.getfield 70, 3) := by decide +kernel
theorem dX8_keepsRow_34 : decode cX8_keepsRow 34 = .ok (.iload_n 2, 1) := by decide +kernel
theorem dX8_keepsRow_35 : decode cX8_keepsRow 35 = .ok (.iaload, 1) := by decide +kernel
theorem dX8_keepsRow_36 : decode cX8_keepsRow 36 = .ok (.iastore, 1) := by decide +kernel
theorem dX8_keepsRow_37 : decode cX8_keepsRow 37 = .ok (.iinc 2 1, 3) := by decide +kernel
theorem dX8_keepsRow_40 : decode cX8_keepsRow 40 = .ok (.goto (-28), 3) := by decide +kernel
theorem dX8_keepsRow_43 : decode cX8_keepsRow 43 = .ok (.return_, 1) := by decide +kernel
theorem dX8_greatestAt_0 : decode cX8_greatestAt 0 = .ok (.iconst 0, 1) := by decide +kernel
theorem dX8_greatestAt_1 : decode cX8_greatestAt 1 = .ok (.istore_n 3, 1) := by decide +kernel
theorem dX8_greatestAt_2 : decode cX8_greatestAt 2 = .ok (.iload_n 3, 1) := by decide +kernel
theorem dX8_greatestAt_3 : decode cX8_greatestAt 3 = .ok (.sipush 200, 3) := by decide +kernel
theorem dX8_greatestAt_6 : decode cX8_greatestAt 6 = .ok (.if_icmp .ge 16, 3) := by decide +kernel
theorem dX8_greatestAt_9 : decode cX8_greatestAt 9 = .ok (.aload_n 0, 1) := by decide +kernel
theorem dX8_greatestAt_10 : decode cX8_greatestAt 10 = .ok (.getfield 103, 3) := by decide +kernel
theorem dX8_greatestAt_13 : decode cX8_greatestAt 13 = .ok (.iload_n 3, 1) := by decide +kernel
theorem dX8_greatestAt_14 : decode cX8_greatestAt 14 = .ok (.iconst 0, 1) := by decide +kernel
theorem dX8_greatestAt_15 : decode cX8_greatestAt 15 = .ok (.iastore, 1) := by decide +kernel
theorem dX8_greatestAt_16 : decode cX8_greatestAt 16 = .ok (.iinc 3 1, 3) := by decide +kernel
theorem dX8_greatestAt_19 : decode cX8_greatestAt 19 = .ok (.goto (-17), 3) := by decide +kernel
theorem dX8_greatestAt_22 : decode cX8_greatestAt 22 = .ok (.iconst 0, 1) := by decide +kernel
theorem dX8_greatestAt_23 : decode cX8_greatestAt 23 = .ok (.istore_n 3, 1) := by decide +kernel
theorem dX8_greatestAt_24 : decode cX8_greatestAt 24 = .ok (.iconst 0, 1) := by decide +kernel
theorem dX8_greatestAt_25 : decode cX8_greatestAt 25 = .ok (.istore 4, 2) := by decide +kernel
theorem dX8_greatestAt_27 : decode cX8_greatestAt 27 = .ok (.iload 4, 2) := by decide +kernel
theorem dX8_greatestAt_29 : decode cX8_greatestAt 29 = .ok (.iload_n 1, 1) := by decide +kernel
theorem dX8_greatestAt_30 : decode cX8_greatestAt 30 = .ok (.if_icmp .ge 57, 3) := by decide +kernel
theorem dX8_greatestAt_33 : decode cX8_greatestAt 33 = .ok (.aload_n 0, 1) := by decide +kernel
theorem dX8_greatestAt_34 : decode cX8_greatestAt 34 = .ok (.getfield 94, 3) := by decide +kernel
theorem dX8_greatestAt_37 : decode cX8_greatestAt 37 = .ok (.bipush 20, 2) := by decide +kernel
theorem dX8_greatestAt_39 : decode cX8_greatestAt 39 = .ok (.iload 4, 2) := by decide +kernel
theorem dX8_greatestAt_41 : decode cX8_greatestAt 41 = .ok (.imul, 1) := by decide +kernel
theorem dX8_greatestAt_42 : decode cX8_greatestAt 42 = .ok (.iload_n 2, 1) := by decide +kernel
theorem dX8_greatestAt_43 : decode cX8_greatestAt 43 = .ok (.iadd, 1) := by decide +kernel
theorem dX8_greatestAt_44 : decode cX8_greatestAt 44 = .ok (.iaload, 1) := by decide +kernel
theorem dX8_greatestAt_45 : decode cX8_greatestAt 45 = .ok (.istore 5, 2) := by decide +kernel
theorem dX8_greatestAt_47 : decode cX8_greatestAt 47 = .ok (.aload_n 0, 1) := by decide +kernel
theorem dX8_greatestAt_48 : decode cX8_greatestAt 48 = .ok (.getfield 103, 3) := by decide +kernel
theorem dX8_greatestAt_51 : decode cX8_greatestAt 51 = .ok (.iload 5, 2) := by decide +kernel
theorem dX8_greatestAt_53 : decode cX8_greatestAt 53 = .ok (.dup2, 1) := by decide +kernel
theorem dX8_greatestAt_54 : decode cX8_greatestAt 54 = .ok (.iaload, 1) := by decide +kernel
theorem dX8_greatestAt_55 : decode cX8_greatestAt 55 = .ok (.iconst 1, 1) := by decide +kernel
theorem dX8_greatestAt_56 : decode cX8_greatestAt 56 = .ok (.iadd, 1) := by decide +kernel
theorem dX8_greatestAt_57 : decode cX8_greatestAt 57 = .ok (.iastore, 1) := by decide +kernel
theorem dX8_greatestAt_58 : decode cX8_greatestAt 58 = .ok (.aload_n 0, 1) := by decide +kernel
theorem dX8_greatestAt_59 : decode cX8_greatestAt 59 = .ok (.getfield 103, 3) := by decide +kernel
theorem dX8_greatestAt_62 : decode cX8_greatestAt 62 = .ok (.iload 5, 2) := by decide +kernel
theorem dX8_greatestAt_64 : decode cX8_greatestAt 64 = .ok (.iaload, 1) := by decide +kernel
theorem dX8_greatestAt_65 : decode cX8_greatestAt 65 = .ok (.iload_n 3, 1) := by decide +kernel
theorem dX8_greatestAt_66 : decode cX8_greatestAt 66 = .ok (.if_icmp .le 13, 3) := by decide +kernel
theorem dX8_greatestAt_69 : decode cX8_greatestAt 69 = .ok (.aload_n 0, 1) := by decide +kernel
theorem dX8_greatestAt_70 : decode cX8_greatestAt 70 = .ok (.getfield 103, 3) := by decide +kernel
theorem dX8_greatestAt_73 : decode cX8_greatestAt 73 = .ok (.iload 5, 2) := by decide +kernel
theorem dX8_greatestAt_75 : decode cX8_greatestAt 75 = .ok (.iaload, 1) := by decide +kernel
theorem dX8_greatestAt_76 : decode cX8_greatestAt 76 = .ok (.goto 4, 3) := by decide +kernel
theorem dX8_greatestAt_79 : decode cX8_greatestAt 79 = .ok (.iload_n 3, 1) := by decide +kernel
theorem dX8_greatestAt_80 : decode cX8_greatestAt 80 = .ok (.istore_n 3, 1) := by decide +kernel
theorem dX8_greatestAt_81 : decode cX8_greatestAt 81 = .ok (.iinc 4 1, 3) := by decide +kernel
theorem dX8_greatestAt_84 : decode cX8_greatestAt 84 = .ok (.goto (-57), 3) := by decide +kernel
theorem dX8_greatestAt_87 : decode cX8_greatestAt 87 = .ok (.iload_n 3, 1) := by decide +kernel
theorem dX8_greatestAt_88 : decode cX8_greatestAt 88 = .ok (.ireturn, 1) := by decide +kernel
theorem dX8_askWord_0 : decode cX8_askWord 0 = .ok (.aload_n 0, 1) := by decide +kernel
theorem dX8_askWord_1 : decode cX8_askWord 1 = .ok (.iload_n 1, 1) := by decide +kernel
theorem dX8_askWord_2 : decode cX8_askWord 2 = .ok (.iload_n 2, 1) := by decide +kernel
theorem dX8_askWord_3 : decode cX8_askWord 3 = .ok (.iload_n 3, 1) := by decide +kernel
theorem dX8_askWord_4 : decode cX8_askWord 4 = .ok (.sipush 999, 3) := by decide +kernel
theorem dX8_askWord_7 : decode cX8_askWord 7 = .ok (.iconst 1, 1) := by decide +kernel
theorem dX8_askWord_8 : decode cX8_askWord 8 = .ok (.invokevirtual 204, 3) := by decide +kernel
theorem dX8_askWord_11 : decode cX8_askWord 11 = .ok (.ifCond .ne 5, 3) := by decide +kernel
theorem dX8_askWord_14 : decode cX8_askWord 14 = .ok (.iconst 0, 1) := by decide +kernel
theorem dX8_askWord_15 : decode cX8_askWord 15 = .ok (.ireturn, 1) := by decide +kernel
theorem dX8_askWord_16 : decode cX8_askWord 16 = .ok (.iconst 0, 1) := by decide +kernel
theorem dX8_askWord_17 : decode cX8_askWord 17 = .ok (.istore 4, 2) := by decide +kernel
theorem dX8_askWord_19 : decode cX8_askWord 19 = .ok (.iconst 0, 1) := by decide +kernel
theorem dX8_askWord_20 : decode cX8_askWord 20 = .ok (.istore 5, 2) := by decide +kernel
theorem dX8_askWord_22 : decode cX8_askWord 22 = .ok (.iload 5, 2) := by decide +kernel
theorem dX8_askWord_24 : decode cX8_askWord 24 = .ok (.iload_n 3, 1) := by decide +kernel
theorem dX8_askWord_25 : decode cX8_askWord 25 = .ok (.if_icmp .gt 29, 3) := by decide +kernel
theorem dX8_askWord_28 : decode cX8_askWord 28 = .ok (.aload_n 0, 1) := by decide +kernel
theorem dX8_askWord_29 : decode cX8_askWord 29 = .ok (.iload_n 1, 1) := by decide +kernel
theorem dX8_askWord_30 : decode cX8_askWord 30 = .ok (.iload_n 2, 1) := by decide +kernel
theorem dX8_askWord_31 : decode cX8_askWord 31 = .ok (.iload 5, 2) := by decide +kernel
theorem dX8_askWord_33 : decode cX8_askWord 33 = .ok (.invokevirtual 208, 3) := by decide +kernel
theorem dX8_askWord_36 : decode cX8_askWord 36 = .ok (.ifCond .eq 12, 3) := by decide +kernel
theorem dX8_askWord_39 : decode cX8_askWord 39 = .ok (.aload_n 0, 1) := by decide +kernel
theorem dX8_askWord_40 : decode cX8_askWord 40 = .ok (.iload 4, 2) := by decide +kernel
theorem dX8_askWord_42 : decode cX8_askWord 42 = .ok (.invokevirtual 211, 3) := by decide +kernel
theorem dX8_askWord_45 : decode cX8_askWord 45 = .ok (.iinc 4 1, 3) := by decide +kernel
theorem dX8_askWord_48 : decode cX8_askWord 48 = .ok (.iinc 5 1, 3) := by decide +kernel
theorem dX8_askWord_51 : decode cX8_askWord 51 = .ok (.goto (-29), 3) := by decide +kernel
theorem dX8_askWord_54 : decode cX8_askWord 54 = .ok (.iconst (-1), 1) := by decide +kernel
theorem dX8_askWord_55 : decode cX8_askWord 55 = .ok (.istore 5, 2) := by decide +kernel
theorem dX8_askWord_57 : decode cX8_askWord 57 = .ok (.iconst 0, 1) := by decide +kernel
theorem dX8_askWord_58 : decode cX8_askWord 58 = .ok (.istore 6, 2) := by decide +kernel
theorem dX8_askWord_60 : decode cX8_askWord 60 = .ok (.iconst 0, 1) := by decide +kernel
theorem dX8_askWord_61 : decode cX8_askWord 61 = .ok (.istore 7, 2) := by decide +kernel
theorem dX8_askWord_63 : decode cX8_askWord 63 = .ok (.iload 7, 2) := by decide +kernel
theorem dX8_askWord_65 : decode cX8_askWord 65 = .ok (.aload_n 0, 1) := by decide +kernel
theorem dX8_askWord_66 : decode cX8_askWord 66 = .ok (.getfield 197, 3) := by decide +kernel
theorem dX8_askWord_69 : decode cX8_askWord 69 = .ok (.if_icmp .ge 66, 3) := by decide +kernel
theorem dX8_askWord_72 : decode cX8_askWord 72 = .ok (.iload 4, 2) := by decide +kernel
theorem dX8_askWord_74 : decode cX8_askWord 74 = .ok (.iconst 1, 1) := by decide +kernel
theorem dX8_askWord_75 : decode cX8_askWord 75 = .ok (.if_icmp .le 60, 3) := by decide +kernel
theorem dX8_askWord_78 : decode cX8_askWord 78 = .ok (.aload_n 0, 1) := by decide +kernel
theorem dX8_askWord_79 : decode cX8_askWord 79 = .ok (.getfield 79, 3) := by decide +kernel
theorem dX8_askWord_82 : decode cX8_askWord 82 = .ok (.iload 7, 2) := by decide +kernel
theorem dX8_askWord_84 : decode cX8_askWord 84 = .ok (.iaload, 1) := by decide +kernel
theorem dX8_askWord_85 : decode cX8_askWord 85 = .ok (.iconst (-1), 1) := by decide +kernel
theorem dX8_askWord_86 : decode cX8_askWord 86 = .ok (.if_icmp .ne 14, 3) := by decide +kernel
theorem dX8_askWord_89 : decode cX8_askWord 89 = .ok (.aload_n 0, 1) := by decide +kernel
theorem dX8_askWord_90 : decode cX8_askWord 90 = .ok (.iload 4, 2) := by decide +kernel
theorem dX8_askWord_92 : decode cX8_askWord 92 = .ok (.iload 7, 2) := by decide +kernel
theorem dX8_askWord_94 : decode cX8_askWord 94 = .ok (.invokevirtual 214, 3) := by decide +kernel
theorem dX8_askWord_97 : decode cX8_askWord 97 = .ok (.goto 4, 3) := by decide +kernel
theorem dX8_askWord_100 : decode cX8_askWord 100 = .ok (.iconst 0, 1) := by decide +kernel
theorem dX8_askWord_101 : decode cX8_askWord 101 = .ok (.istore 8, 2) := by decide +kernel
theorem dX8_askWord_103 : decode cX8_askWord 103 = .ok (.iload 8, 2) := by decide +kernel
theorem dX8_askWord_105 : decode cX8_askWord 105 = .ok (.ifCond .le 24, 3) := by decide +kernel
theorem dX8_askWord_108 : decode cX8_askWord 108 = .ok (.iload 5, 2) := by decide +kernel
theorem dX8_askWord_110 : decode cX8_askWord 110 = .ok (.iconst (-1), 1) := by decide +kernel
theorem dX8_askWord_111 : decode cX8_askWord 111 = .ok (.if_icmp .eq 10, 3) := by decide +kernel
theorem dX8_askWord_114 : decode cX8_askWord 114 = .ok (.iload 8, 2) := by decide +kernel
theorem dX8_askWord_116 : decode cX8_askWord 116 = .ok (.iload 6, 2) := by decide +kernel
theorem dX8_askWord_118 : decode cX8_askWord 118 = .ok (.if_icmp .ge 11, 3) := by decide +kernel
theorem dX8_askWord_121 : decode cX8_askWord 121 = .ok (.iload 7, 2) := by decide +kernel
theorem dX8_askWord_123 : decode cX8_askWord 123 = .ok (.istore 5, 2) := by decide +kernel
theorem dX8_askWord_125 : decode cX8_askWord 125 = .ok (.iload 8, 2) := by decide +kernel
theorem dX8_askWord_127 : decode cX8_askWord 127 = .ok (.istore 6, 2) := by decide +kernel
theorem dX8_askWord_129 : decode cX8_askWord 129 = .ok (.iinc 7 1, 3) := by decide +kernel
theorem dX8_askWord_132 : decode cX8_askWord 132 = .ok (.goto (-69), 3) := by decide +kernel
theorem dX8_askWord_135 : decode cX8_askWord 135 = .ok (.iload 5, 2) := by decide +kernel
theorem dX8_askWord_137 : decode cX8_askWord 137 = .ok (.ireturn, 1) := by decide +kernel
theorem dX8_gap_0 : decode cX8_gap 0 = .ok (.aload_n 0, 1) := by decide +kernel
theorem dX8_gap_1 : decode cX8_gap 1 = .ok (.iload_n 1, 1) := by decide +kernel
theorem dX8_gap_2 : decode cX8_gap 2 = .ok (.iconst 0, 1) := by decide +kernel
theorem dX8_gap_3 : decode cX8_gap 3 = .ok (.iload_n 2, 1) := by decide +kernel
theorem dX8_gap_4 : decode cX8_gap 4 = .ok (.sipush 999, 3) := by decide +kernel
theorem dX8_gap_7 : decode cX8_gap 7 = .ok (.iconst 1, 1) := by decide +kernel
theorem dX8_gap_8 : decode cX8_gap 8 = .ok (.invokevirtual 204, 3) := by decide +kernel
theorem dX8_gap_11 : decode cX8_gap 11 = .ok (.ifCond .ne 5, 3) := by decide +kernel
theorem dX8_gap_14 : decode cX8_gap 14 = .ok (.iconst 0, 1) := by decide +kernel
theorem dX8_gap_15 : decode cX8_gap 15 = .ok (.ireturn, 1) := by decide +kernel
theorem dX8_gap_16 : decode cX8_gap 16 = .ok (.iconst 0, 1) := by decide +kernel
theorem dX8_gap_17 : decode cX8_gap 17 = .ok (.istore_n 3, 1) := by decide +kernel
theorem dX8_gap_18 : decode cX8_gap 18 = .ok (.iload_n 3, 1) := by decide +kernel
theorem dX8_gap_19 : decode cX8_gap 19 = .ok (.iload_n 2, 1) := by decide +kernel
theorem dX8_gap_20 : decode cX8_gap 20 = .ok (.if_icmp .gt 21, 3) := by decide +kernel
theorem dX8_gap_23 : decode cX8_gap 23 = .ok (.aload_n 0, 1) := by decide +kernel
theorem dX8_gap_24 : decode cX8_gap 24 = .ok (.iload_n 1, 1) := by decide +kernel
theorem dX8_gap_25 : decode cX8_gap 25 = .ok (.iload_n 3, 1) := by decide +kernel
theorem dX8_gap_26 : decode cX8_gap 26 = .ok (.iconst 0, 1) := by decide +kernel
theorem dX8_gap_27 : decode cX8_gap 27 = .ok (.invokevirtual 187, 3) := by decide +kernel
theorem dX8_gap_30 : decode cX8_gap 30 = .ok (.ifCond .ne 5, 3) := by decide +kernel
theorem dX8_gap_33 : decode cX8_gap 33 = .ok (.iload_n 3, 1) := by decide +kernel
theorem dX8_gap_34 : decode cX8_gap 34 = .ok (.ireturn, 1) := by decide +kernel
theorem dX8_gap_35 : decode cX8_gap 35 = .ok (.iinc 3 1, 3) := by decide +kernel
theorem dX8_gap_38 : decode cX8_gap 38 = .ok (.goto (-20), 3) := by decide +kernel
theorem dX8_gap_41 : decode cX8_gap 41 = .ok (.iconst (-1), 1) := by decide +kernel
theorem dX8_gap_42 : decode cX8_gap 42 = .ok (.ireturn, 1) := by decide +kernel
theorem dX8_areAlike_0 : decode cX8_areAlike 0 = .ok (.aload_n 0, 1) := by decide +kernel
theorem dX8_areAlike_1 : decode cX8_areAlike 1 = .ok (.getfield 91, 3) := by decide +kernel
theorem dX8_areAlike_4 : decode cX8_areAlike 4 = .ok (.iload_n 1, 1) := by decide +kernel
theorem dX8_areAlike_5 : decode cX8_areAlike 5 = .ok (.iaload, 1) := by decide +kernel
theorem dX8_areAlike_6 : decode cX8_areAlike 6 = .ok (.aload_n 0, 1) := by decide +kernel
theorem dX8_areAlike_7 : decode cX8_areAlike 7 = .ok (.getfield 91, 3) := by decide +kernel
theorem dX8_areAlike_10 : decode cX8_areAlike 10 = .ok (.iload_n 2, 1) := by decide +kernel
theorem dX8_areAlike_11 : decode cX8_areAlike 11 = .ok (.iaload, 1) := by decide +kernel
theorem dX8_areAlike_12 : decode cX8_areAlike 12 = .ok (.if_icmp .ne 7, 3) := by decide +kernel
theorem dX8_areAlike_15 : decode cX8_areAlike 15 = .ok (.iconst 1, 1) := by decide +kernel
theorem dX8_areAlike_16 : decode cX8_areAlike 16 = .ok (.goto 4, 3) := by decide +kernel
theorem dX8_areAlike_19 : decode cX8_areAlike 19 = .ok (.iconst 0, 1) := by decide +kernel
theorem dX8_areAlike_20 : decode cX8_areAlike 20 = .ok (.istore_n 3, 1) := by decide +kernel
theorem dX8_areAlike_21 : decode cX8_areAlike 21 = .ok (.iconst 0, 1) := by decide +kernel
theorem dX8_areAlike_22 : decode cX8_areAlike 22 = .ok (.istore 4, 2) := by decide +kernel
theorem dX8_areAlike_24 : decode cX8_areAlike 24 = .ok (.iload 4, 2) := by decide +kernel
theorem dX8_areAlike_26 : decode cX8_areAlike 26 = .ok (.aload_n 0, 1) := by decide +kernel
theorem dX8_areAlike_27 : decode cX8_areAlike 27 = .ok (.getfield 91, 3) := by decide +kernel
theorem dX8_areAlike_30 : decode cX8_areAlike 30 = .ok (.iload_n 1, 1) := by decide +kernel
theorem dX8_areAlike_31 : decode cX8_areAlike 31 = .ok (.iaload, 1) := by decide +kernel
theorem dX8_areAlike_32 : decode cX8_areAlike 32 = .ok (.if_icmp .ge 46, 3) := by decide +kernel
theorem dX8_areAlike_35 : decode cX8_areAlike 35 = .ok (.iload_n 3, 1) := by decide +kernel
theorem dX8_areAlike_36 : decode cX8_areAlike 36 = .ok (.ifCond .eq 42, 3) := by decide +kernel
theorem dX8_areAlike_39 : decode cX8_areAlike 39 = .ok (.aload_n 0, 1) := by decide +kernel
theorem dX8_areAlike_40 : decode cX8_areAlike 40 = .ok (.getfield 94, 3) := by decide +kernel
theorem dX8_areAlike_43 : decode cX8_areAlike 43 = .ok (.bipush 20, 2) := by decide +kernel
theorem dX8_areAlike_45 : decode cX8_areAlike 45 = .ok (.iload_n 1, 1) := by decide +kernel
theorem dX8_areAlike_46 : decode cX8_areAlike 46 = .ok (.imul, 1) := by decide +kernel
theorem dX8_areAlike_47 : decode cX8_areAlike 47 = .ok (.iload 4, 2) := by decide +kernel
theorem dX8_areAlike_49 : decode cX8_areAlike 49 = .ok (.iadd, 1) := by decide +kernel
theorem dX8_areAlike_50 : decode cX8_areAlike 50 = .ok (.iaload, 1) := by decide +kernel
theorem dX8_areAlike_51 : decode cX8_areAlike 51 = .ok (.aload_n 0, 1) := by decide +kernel
theorem dX8_areAlike_52 : decode cX8_areAlike 52 = .ok (.getfield 94, 3) := by decide +kernel
theorem dX8_areAlike_55 : decode cX8_areAlike 55 = .ok (.bipush 20, 2) := by decide +kernel
theorem dX8_areAlike_57 : decode cX8_areAlike 57 = .ok (.iload_n 2, 1) := by decide +kernel
theorem dX8_areAlike_58 : decode cX8_areAlike 58 = .ok (.imul, 1) := by decide +kernel
theorem dX8_areAlike_59 : decode cX8_areAlike 59 = .ok (.iload 4, 2) := by decide +kernel
theorem dX8_areAlike_61 : decode cX8_areAlike 61 = .ok (.iadd, 1) := by decide +kernel
theorem dX8_areAlike_62 : decode cX8_areAlike 62 = .ok (.iaload, 1) := by decide +kernel
theorem dX8_areAlike_63 : decode cX8_areAlike 63 = .ok (.if_icmp .ne 7, 3) := by decide +kernel
theorem dX8_areAlike_66 : decode cX8_areAlike 66 = .ok (.iconst 1, 1) := by decide +kernel
theorem dX8_areAlike_67 : decode cX8_areAlike 67 = .ok (.goto 4, 3) := by decide +kernel
theorem dX8_areAlike_70 : decode cX8_areAlike 70 = .ok (.iconst 0, 1) := by decide +kernel
theorem dX8_areAlike_71 : decode cX8_areAlike 71 = .ok (.istore_n 3, 1) := by decide +kernel
theorem dX8_areAlike_72 : decode cX8_areAlike 72 = .ok (.iinc 4 1, 3) := by decide +kernel
theorem dX8_areAlike_75 : decode cX8_areAlike 75 = .ok (.goto (-51), 3) := by decide +kernel
theorem dX8_areAlike_78 : decode cX8_areAlike 78 = .ok (.iload_n 3, 1) := by decide +kernel
theorem dX8_areAlike_79 : decode cX8_areAlike 79 = .ok (.ireturn, 1) := by decide +kernel
theorem dX8_clash_0 : decode cX8_clash 0 = .ok (.aload_n 0, 1) := by decide +kernel
theorem dX8_clash_1 : decode cX8_clash 1 = .ok (.iload_n 1, 1) := by decide +kernel
theorem dX8_clash_2 : decode cX8_clash 2 = .ok (.iload_n 2, 1) := by decide +kernel
theorem dX8_clash_3 : decode cX8_clash 3 = .ok (.iload_n 3, 1) := by decide +kernel
theorem dX8_clash_4 : decode cX8_clash 4 = .ok (.sipush 999, 3) := by decide +kernel
theorem dX8_clash_7 : decode cX8_clash 7 = .ok (.iconst 1, 1) := by decide +kernel
theorem dX8_clash_8 : decode cX8_clash 8 = .ok (.invokevirtual 204, 3) := by decide +kernel
theorem dX8_clash_11 : decode cX8_clash 11 = .ok (.ifCond .ne 5, 3) := by decide +kernel
theorem dX8_clash_14 : decode cX8_clash 14 = .ok (.iconst 0, 1) := by decide +kernel
theorem dX8_clash_15 : decode cX8_clash 15 = .ok (.ireturn, 1) := by decide +kernel
theorem dX8_clash_16 : decode cX8_clash 16 = .ok (.iconst 0, 1) := by decide +kernel
theorem dX8_clash_17 : decode cX8_clash 17 = .ok (.istore 4, 2) := by decide +kernel
theorem dX8_clash_19 : decode cX8_clash 19 = .ok (.iload 4, 2) := by decide +kernel
theorem dX8_clash_21 : decode cX8_clash 21 = .ok (.iload_n 3, 1) := by decide +kernel
theorem dX8_clash_22 : decode cX8_clash 22 = .ok (.if_icmp .gt 60, 3) := by decide +kernel
theorem dX8_clash_25 : decode cX8_clash 25 = .ok (.aload_n 0, 1) := by decide +kernel
theorem dX8_clash_26 : decode cX8_clash 26 = .ok (.iload_n 1, 1) := by decide +kernel
theorem dX8_clash_27 : decode cX8_clash 27 = .ok (.iload 4, 2) := by decide +kernel
theorem dX8_clash_29 : decode cX8_clash 29 = .ok (.iload_n 2, 1) := by decide +kernel
theorem dX8_clash_30 : decode cX8_clash 30 = .ok (.invokevirtual 187, 3) := by decide +kernel
theorem dX8_clash_33 : decode cX8_clash 33 = .ok (.istore 5, 2) := by decide +kernel
theorem dX8_clash_35 : decode cX8_clash 35 = .ok (.aload_n 0, 1) := by decide +kernel
theorem dX8_clash_36 : decode cX8_clash 36 = .ok (.iload 4, 2) := by decide +kernel
theorem dX8_clash_38 : decode cX8_clash 38 = .ok (.invokevirtual 211, 3) := by decide +kernel
theorem dX8_clash_41 : decode cX8_clash 41 = .ok (.iconst 0, 1) := by decide +kernel
theorem dX8_clash_42 : decode cX8_clash 42 = .ok (.istore 6, 2) := by decide +kernel
theorem dX8_clash_44 : decode cX8_clash 44 = .ok (.iload 6, 2) := by decide +kernel
theorem dX8_clash_46 : decode cX8_clash 46 = .ok (.iload 4, 2) := by decide +kernel
theorem dX8_clash_48 : decode cX8_clash 48 = .ok (.if_icmp .ge 28, 3) := by decide +kernel
theorem dX8_clash_51 : decode cX8_clash 51 = .ok (.iload 5, 2) := by decide +kernel
theorem dX8_clash_53 : decode cX8_clash 53 = .ok (.ifCond .le 23, 3) := by decide +kernel
theorem dX8_clash_56 : decode cX8_clash 56 = .ok (.aload_n 0, 1) := by decide +kernel
theorem dX8_clash_57 : decode cX8_clash 57 = .ok (.iload 6, 2) := by decide +kernel
theorem dX8_clash_59 : decode cX8_clash 59 = .ok (.iload 4, 2) := by decide +kernel
theorem dX8_clash_61 : decode cX8_clash 61 = .ok (.invokevirtual 217, 3) := by decide +kernel
theorem dX8_clash_64 : decode cX8_clash 64 = .ok (.ifCond .eq 6, 3) := by decide +kernel
theorem dX8_clash_67 : decode cX8_clash 67 = .ok (.iload 4, 2) := by decide +kernel
theorem dX8_clash_69 : decode cX8_clash 69 = .ok (.ireturn, 1) := by decide +kernel
theorem dX8_clash_70 : decode cX8_clash 70 = .ok (.iinc 6 1, 3) := by decide +kernel
theorem dX8_clash_73 : decode cX8_clash 73 = .ok (.goto (-29), 3) := by decide +kernel
theorem dX8_clash_76 : decode cX8_clash 76 = .ok (.iinc 4 1, 3) := by decide +kernel
theorem dX8_clash_79 : decode cX8_clash 79 = .ok (.goto (-60), 3) := by decide +kernel
theorem dX8_clash_82 : decode cX8_clash 82 = .ok (.iconst (-1), 1) := by decide +kernel
theorem dX8_clash_83 : decode cX8_clash 83 = .ok (.ireturn, 1) := by decide +kernel
theorem dX8_example_0 : decode cX8_example 0 = .ok (.aload_n 0, 1) := by decide +kernel
theorem dX8_example_1 : decode cX8_example 1 = .ok (.getfield 197, 3) := by decide +kernel
theorem dX8_example_4 : decode cX8_example 4 = .ok (.ifCond .le 7, 3) := by decide +kernel
theorem dX8_example_7 : decode cX8_example 7 = .ok (.iconst 1, 1) := by decide +kernel
theorem dX8_example_8 : decode cX8_example 8 = .ok (.goto 4, 3) := by decide +kernel
theorem dX8_example_11 : decode cX8_example 11 = .ok (.iconst 0, 1) := by decide +kernel
theorem dX8_example_12 : decode cX8_example 12 = .ok (.istore_n 2, 1) := by decide +kernel
theorem dX8_example_13 : decode cX8_example 13 = .ok (.iconst 0, 1) := by decide +kernel
theorem dX8_example_14 : decode cX8_example 14 = .ok (.istore_n 3, 1) := by decide +kernel
theorem dX8_example_15 : decode cX8_example 15 = .ok (.iload_n 3, 1) := by decide +kernel
theorem dX8_example_16 : decode cX8_example 16 = .ok (.aload_n 0, 1) := by decide +kernel
theorem dX8_example_17 : decode cX8_example 17 = .ok (.getfield 197, 3) := by decide +kernel
theorem dX8_example_20 : decode cX8_example 20 = .ok (.if_icmp .ge 29, 3) := by decide +kernel
theorem dX8_example_23 : decode cX8_example 23 = .ok (.iload_n 2, 1) := by decide +kernel
theorem dX8_example_24 : decode cX8_example 24 = .ok (.ifCond .eq 17, 3) := by decide +kernel
theorem dX8_example_27 : decode cX8_example 27 = .ok (.aload_n 0, 1) := by decide +kernel
theorem dX8_example_28 : decode cX8_example 28 = .ok (.getfield 79, 3) := by decide +kernel
theorem dX8_example_31 : decode cX8_example 31 = .ok (.iload_n 3, 1) := by decide +kernel
theorem dX8_example_32 : decode cX8_example 32 = .ok (.iaload, 1) := by decide +kernel
theorem dX8_example_33 : decode cX8_example 33 = .ok (.iconst (-1), 1) := by decide +kernel
theorem dX8_example_34 : decode cX8_example 34 = .ok (.if_icmp .eq 7, 3) := by decide +kernel
theorem dX8_example_37 : decode cX8_example 37 = .ok (.iconst 1, 1) := by decide +kernel
theorem dX8_example_38 : decode cX8_example 38 = .ok (.goto 4, 3) := by decide +kernel
theorem dX8_example_41 : decode cX8_example 41 = .ok (.iconst 0, 1) := by decide +kernel
theorem dX8_example_42 : decode cX8_example 42 = .ok (.istore_n 2, 1) := by decide +kernel
theorem dX8_example_43 : decode cX8_example 43 = .ok (.iinc 3 1, 3) := by decide +kernel
theorem dX8_example_46 : decode cX8_example 46 = .ok (.goto (-31), 3) := by decide +kernel
theorem dX8_example_49 : decode cX8_example 49 = .ok (.aload_n 0, 1) := by decide +kernel
theorem dX8_example_50 : decode cX8_example 50 = .ok (.iload_n 1, 1) := by decide +kernel
theorem dX8_example_51 : decode cX8_example 51 = .ok (.invokestatic 121, 3) := by decide +kernel
theorem dX8_example_54 : decode cX8_example 54 = .ok (.ifCond .ne 7, 3) := by decide +kernel
theorem dX8_example_57 : decode cX8_example 57 = .ok (.iconst 1, 1) := by decide +kernel
theorem dX8_example_58 : decode cX8_example 58 = .ok (.goto 21, 3) := by decide +kernel
theorem dX8_example_61 : decode cX8_example 61 = .ok (.aload_n 0, 1) := by decide +kernel
theorem dX8_example_62 : decode cX8_example 62 = .ok (.getfield 220, 3) := by decide +kernel
theorem dX8_example_65 : decode cX8_example 65 = .ok (.bipush 20, 2) := by decide +kernel
theorem dX8_example_67 : decode cX8_example 67 = .ok (.if_icmp .eq 7, 3) := by decide +kernel
theorem dX8_example_70 : decode cX8_example 70 = .ok (.iload_n 2, 1) := by decide +kernel
theorem dX8_example_71 : decode cX8_example 71 = .ok (.ifCond .ne 7, 3) := by decide +kernel
theorem dX8_example_74 : decode cX8_example 74 = .ok (.iconst 2, 1) := by decide +kernel
theorem dX8_example_75 : decode cX8_example 75 = .ok (.goto 4, 3) := by decide +kernel
theorem dX8_example_78 : decode cX8_example 78 = .ok (.iconst 0, 1) := by decide +kernel
theorem dX8_example_79 : decode cX8_example 79 = .ok (.invokevirtual 128, 3) := by decide +kernel
theorem dX8_example_82 : decode cX8_example 82 = .ok (.ifCond .ne 5, 3) := by decide +kernel
theorem dX8_example_85 : decode cX8_example 85 = .ok (.iconst 0, 1) := by decide +kernel
theorem dX8_example_86 : decode cX8_example 86 = .ok (.ireturn, 1) := by decide +kernel
theorem dX8_example_87 : decode cX8_example 87 = .ok (.aload_n 0, 1) := by decide +kernel
theorem dX8_example_88 : decode cX8_example 88 = .ok (.getfield 82, 3) := by decide +kernel
theorem dX8_example_91 : decode cX8_example 91 = .ok (.aload_n 0, 1) := by decide +kernel
theorem dX8_example_92 : decode cX8_example 92 = .ok (.getfield 220, 3) := by decide +kernel
theorem dX8_example_95 : decode cX8_example 95 = .ok (.iload_n 1, 1) := by decide +kernel
theorem dX8_example_96 : decode cX8_example 96 = .ok (.iastore, 1) := by decide +kernel
theorem dX8_example_97 : decode cX8_example 97 = .ok (.aload_n 0, 1) := by decide +kernel
theorem dX8_example_98 : decode cX8_example 98 = .ok (.getfield 85, 3) := by decide +kernel
theorem dX8_example_101 : decode cX8_example 101 = .ok (.aload_n 0, 1) := by decide +kernel
theorem dX8_example_102 : decode cX8_example 102 = .ok (.getfield 220, 3) := by decide +kernel
theorem dX8_example_105 : decode cX8_example 105 = .ok (.aload_n 0, 1) := by decide +kernel
theorem dX8_example_106 : decode cX8_example 106 = .ok (.getfield 197, 3) := by decide +kernel
theorem dX8_example_109 : decode cX8_example 109 = .ok (.iastore, 1) := by decide +kernel
theorem dX8_example_110 : decode cX8_example 110 = .ok (.iconst 0, 1) := by decide +kernel
theorem dX8_example_111 : decode cX8_example 111 = .ok (.istore_n 3, 1) := by decide +kernel
theorem dX8_example_112 : decode cX8_example 112 = .ok (.iload_n 3, 1) := by decide +kernel
theorem dX8_example_113 : decode cX8_example 113 = .ok (.aload_n 0, 1) := by decide +kernel
theorem dX8_example_114 : decode cX8_example 114 = .ok (.getfield 197, 3) := by decide +kernel
theorem dX8_example_117 : decode cX8_example 117 = .ok (.if_icmp .ge 29, 3) := by decide +kernel
theorem dX8_example_120 : decode cX8_example 120 = .ok (.aload_n 0, 1) := by decide +kernel
theorem dX8_example_121 : decode cX8_example 121 = .ok (.getfield 88, 3) := by decide +kernel
theorem dX8_example_124 : decode cX8_example 124 = .ok (.bipush 20, 2) := by decide +kernel
theorem dX8_example_126 : decode cX8_example 126 = .ok (.aload_n 0, 1) := by decide +kernel
theorem dX8_example_127 : decode cX8_example 127 = .ok (.getfield 220, 3) := by decide +kernel
theorem dX8_example_130 : decode cX8_example 130 = .ok (.imul, 1) := by decide +kernel
theorem dX8_example_131 : decode cX8_example 131 = .ok (.iload_n 3, 1) := by decide +kernel
theorem dX8_example_132 : decode cX8_example 132 = .ok (.iadd, 1) := by decide +kernel
theorem dX8_example_133 : decode cX8_example 133 = .ok (.aload_n 0, 1) := by decide +kernel
theorem dX8_example_134 : decode cX8_example 134 = .ok (.getfield 79, 3) := by decide +kernel
theorem dX8_example_137 : decode cX8_example 137 = .ok (.iload_n 3, 1) := by decide +kernel
theorem dX8_example_138 : decode cX8_example 138 = .ok (.iaload, 1) := by decide +kernel
theorem dX8_example_139 : decode cX8_example 139 = .ok (.iastore, 1) := by decide +kernel
theorem dX8_example_140 : decode cX8_example 140 = .ok (.iinc 3 1, 3) := by decide +kernel
theorem dX8_example_143 : decode cX8_example 143 = .ok (.goto (-31), 3) := by decide +kernel
theorem dX8_example_146 : decode cX8_example 146 = .ok (.aload_n 0, 1) := by decide +kernel
theorem dX8_example_147 : decode cX8_example 147 = .ok (.dup, 1) := by decide +kernel
theorem dX8_example_148 : decode cX8_example 148 = .ok (.getfield 220, 3) := by decide +kernel
theorem dX8_example_151 : decode cX8_example 151 = .ok (.iconst 1, 1) := by decide +kernel
theorem dX8_example_152 : decode cX8_example 152 = .ok (.iadd, 1) := by decide +kernel
theorem dX8_example_153 : decode cX8_example 153 = .ok (.putfield 220, 3) := by decide +kernel
theorem dX8_example_156 : decode cX8_example 156 = .ok (.aload_n 0, 1) := by decide +kernel
theorem dX8_example_157 : decode cX8_example 157 = .ok (.getfield 220, 3) := by decide +kernel
theorem dX8_example_160 : decode cX8_example 160 = .ok (.ireturn, 1) := by decide +kernel
theorem dX8_dropExamples_0 : decode cX8_dropExamples 0 = .ok (.aload_n 0, 1) := by decide +kernel
theorem dX8_dropExamples_1 : decode cX8_dropExamples 1 = .ok (.iconst 0, 1) := by decide +kernel
theorem dX8_dropExamples_2 : decode cX8_dropExamples 2 = .ok (.putfield 106, 3) := by decide +kernel
theorem dX8_dropExamples_5 : decode cX8_dropExamples 5 = .ok (.aload_n 0, 1) := by decide +kernel
theorem dX8_dropExamples_6 : decode cX8_dropExamples 6 = .ok (.getfield 220, 3) := by decide +kernel
theorem dX8_dropExamples_9 : decode cX8_dropExamples 9 = .ok (.istore_n 1, 1) := by decide +kernel
theorem dX8_dropExamples_10 : decode cX8_dropExamples 10 = .ok (.aload_n 0, 1) := by decide +kernel
theorem dX8_dropExamples_11 : decode cX8_dropExamples 11 = .ok (.iconst 0, 1) := by decide +kernel
theorem dX8_dropExamples_12 : decode cX8_dropExamples 12 = .ok (.putfield 220, 3) := by decide +kernel
theorem dX8_dropExamples_15 : decode cX8_dropExamples 15 = .ok (.iload_n 1, 1) := by decide +kernel
theorem dX8_dropExamples_16 : decode cX8_dropExamples 16 = .ok (.ireturn, 1) := by decide +kernel
theorem dX8_isExample_0 : decode cX8_isExample 0 = .ok (.aload_n 0, 1) := by decide +kernel
theorem dX8_isExample_1 : decode cX8_isExample 1 = .ok (.getfield 158, 3) := by decide +kernel
theorem dX8_isExample_4 : decode cX8_isExample 4 = .ok (.aload_n 0, 1) := by decide +kernel
theorem dX8_isExample_5 : decode cX8_isExample 5 = .ok (.getfield 85, 3) := by decide +kernel
theorem dX8_isExample_8 : decode cX8_isExample 8 = .ok (.iload_n 1, 1) := by decide +kernel
theorem dX8_isExample_9 : decode cX8_isExample 9 = .ok (.iaload, 1) := by decide +kernel
theorem dX8_isExample_10 : decode cX8_isExample 10 = .ok (.if_icmp .ne 7, 3) := by decide +kernel
theorem dX8_isExample_13 : decode cX8_isExample 13 = .ok (.iconst 1, 1) := by decide +kernel
theorem dX8_isExample_14 : decode cX8_isExample 14 = .ok (.goto 4, 3) := by decide +kernel
theorem dX8_isExample_17 : decode cX8_isExample 17 = .ok (.iconst 0, 1) := by decide +kernel
theorem dX8_isExample_18 : decode cX8_isExample 18 = .ok (.istore_n 2, 1) := by decide +kernel
theorem dX8_isExample_19 : decode cX8_isExample 19 = .ok (.iconst 0, 1) := by decide +kernel
theorem dX8_isExample_20 : decode cX8_isExample 20 = .ok (.istore_n 3, 1) := by decide +kernel
theorem dX8_isExample_21 : decode cX8_isExample 21 = .ok (.iload_n 3, 1) := by decide +kernel
theorem dX8_isExample_22 : decode cX8_isExample 22 = .ok (.aload_n 0, 1) := by decide +kernel
theorem dX8_isExample_23 : decode cX8_isExample 23 = .ok (.getfield 158, 3) := by decide +kernel
theorem dX8_isExample_26 : decode cX8_isExample 26 = .ok (.if_icmp .ge 39, 3) := by decide +kernel
theorem dX8_isExample_29 : decode cX8_isExample 29 = .ok (.iload_n 2, 1) := by decide +kernel
theorem dX8_isExample_30 : decode cX8_isExample 30 = .ok (.ifCond .eq 35, 3) := by decide +kernel
theorem dX8_isExample_33 : decode cX8_isExample 33 = .ok (.aload_n 0, 1) := by decide +kernel
theorem dX8_isExample_34 : decode cX8_isExample 34 = .ok (.getfield 70, 3) := by decide +kernel
theorem dX8_isExample_37 : decode cX8_isExample 37 = .ok (.iload_n 3, 1) := by decide +kernel
theorem dX8_isExample_38 : decode cX8_isExample 38 = .ok (.iaload, 1) := by decide +kernel
theorem dX8_isExample_39 : decode cX8_isExample 39 = .ok (.aload_n 0, 1) := by decide +kernel
theorem dX8_isExample_40 : decode cX8_isExample 40 = .ok (.getfield 88, 3) := by decide +kernel
theorem dX8_isExample_43 : decode cX8_isExample 43 = .ok (.bipush 20, 2) := by decide +kernel
theorem dX8_isExample_45 : decode cX8_isExample 45 = .ok (.iload_n 1, 1) := by decide +kernel
theorem dX8_isExample_46 : decode cX8_isExample 46 = .ok (.imul, 1) := by decide +kernel
theorem dX8_isExample_47 : decode cX8_isExample 47 = .ok (.iload_n 3, 1) := by decide +kernel
theorem dX8_isExample_48 : decode cX8_isExample 48 = .ok (.iadd, 1) := by decide +kernel
theorem dX8_isExample_49 : decode cX8_isExample 49 = .ok (.iaload, 1) := by decide +kernel
theorem dX8_isExample_50 : decode cX8_isExample 50 = .ok (.if_icmp .ne 7, 3) := by decide +kernel
theorem dX8_isExample_53 : decode cX8_isExample 53 = .ok (.iconst 1, 1) := by decide +kernel
theorem dX8_isExample_54 : decode cX8_isExample 54 = .ok (.goto 4, 3) := by decide +kernel
theorem dX8_isExample_57 : decode cX8_isExample 57 = .ok (.iconst 0, 1) := by decide +kernel
theorem dX8_isExample_58 : decode cX8_isExample 58 = .ok (.istore_n 2, 1) := by decide +kernel
theorem dX8_isExample_59 : decode cX8_isExample 59 = .ok (.iinc 3 1, 3) := by decide +kernel
theorem dX8_isExample_62 : decode cX8_isExample 62 = .ok (.goto (-41), 3) := by decide +kernel
theorem dX8_isExample_65 : decode cX8_isExample 65 = .ok (.iload_n 2, 1) := by decide +kernel
theorem dX8_isExample_66 : decode cX8_isExample 66 = .ok (.ireturn, 1) := by decide +kernel
theorem dX8_fitsAll_0 : decode cX8_fitsAll 0 = .ok (.iconst 1, 1) := by decide +kernel
theorem dX8_fitsAll_1 : decode cX8_fitsAll 1 = .ok (.istore_n 2, 1) := by decide +kernel
theorem dX8_fitsAll_2 : decode cX8_fitsAll 2 = .ok (.iconst 0, 1) := by decide +kernel
theorem dX8_fitsAll_3 : decode cX8_fitsAll 3 = .ok (.istore_n 3, 1) := by decide +kernel
theorem dX8_fitsAll_4 : decode cX8_fitsAll 4 = .ok (.iload_n 3, 1) := by decide +kernel
theorem dX8_fitsAll_5 : decode cX8_fitsAll 5 = .ok (.aload_n 0, 1) := by decide +kernel
theorem dX8_fitsAll_6 : decode cX8_fitsAll 6 = .ok (.getfield 220, 3) := by decide +kernel
theorem dX8_fitsAll_9 : decode cX8_fitsAll 9 = .ok (.if_icmp .ge 33, 3) := by decide +kernel
theorem dX8_fitsAll_12 : decode cX8_fitsAll 12 = .ok (.iload_n 2, 1) := by decide +kernel
theorem dX8_fitsAll_13 : decode cX8_fitsAll 13 = .ok (.ifCond .eq 29, 3) := by decide +kernel
theorem dX8_fitsAll_16 : decode cX8_fitsAll 16 = .ok (.aload_n 0, 1) := by decide +kernel
theorem dX8_fitsAll_17 : decode cX8_fitsAll 17 = .ok (.iload_n 1, 1) := by decide +kernel
theorem dX8_fitsAll_18 : decode cX8_fitsAll 18 = .ok (.aload_n 0, 1) := by decide +kernel
theorem dX8_fitsAll_19 : decode cX8_fitsAll 19 = .ok (.getfield 82, 3) := by decide +kernel
theorem dX8_fitsAll_22 : decode cX8_fitsAll 22 = .ok (.iload_n 3, 1) := by decide +kernel
theorem dX8_fitsAll_23 : decode cX8_fitsAll 23 = .ok (.iaload, 1) := by decide +kernel
theorem dX8_fitsAll_24 : decode cX8_fitsAll 24 = .ok (.iconst 0, 1) := by decide +kernel
theorem dX8_fitsAll_25 : decode cX8_fitsAll 25 = .ok (.invokevirtual 187, 3) := by decide +kernel
theorem dX8_fitsAll_28 : decode cX8_fitsAll 28 = .ok (.istore 4, 2) := by decide +kernel
theorem dX8_fitsAll_30 : decode cX8_fitsAll 30 = .ok (.aload_n 0, 1) := by decide +kernel
theorem dX8_fitsAll_31 : decode cX8_fitsAll 31 = .ok (.iload_n 3, 1) := by decide +kernel
theorem dX8_fitsAll_32 : decode cX8_fitsAll 32 = .ok (.invokevirtual 223, 3) := by decide +kernel
theorem dX8_fitsAll_35 : decode cX8_fitsAll 35 = .ok (.istore_n 2, 1) := by decide +kernel
theorem dX8_fitsAll_36 : decode cX8_fitsAll 36 = .ok (.iinc 3 1, 3) := by decide +kernel
theorem dX8_fitsAll_39 : decode cX8_fitsAll 39 = .ok (.goto (-35), 3) := by decide +kernel
theorem dX8_fitsAll_42 : decode cX8_fitsAll 42 = .ok (.iload_n 2, 1) := by decide +kernel
theorem dX8_fitsAll_43 : decode cX8_fitsAll 43 = .ok (.ireturn, 1) := by decide +kernel
theorem dX8_sets_0 : decode cX8_sets 0 = .ok (.aload_n 0, 1) := by decide +kernel
theorem dX8_sets_1 : decode cX8_sets 1 = .ok (.getfield 31, 3) := by decide +kernel
theorem dX8_sets_4 : decode cX8_sets 4 = .ok (.iload_n 1, 1) := by decide +kernel
theorem dX8_sets_5 : decode cX8_sets 5 = .ok (.iload_n 2, 1) := by decide +kernel
theorem dX8_sets_6 : decode cX8_sets 6 = .ok (.iconst 2, 1) := by decide +kernel
theorem dX8_sets_7 : decode cX8_sets 7 = .ok (.idiv, 1) := by decide +kernel
theorem dX8_sets_8 : decode cX8_sets 8 = .ok (.iastore, 1) := by decide +kernel
theorem dX8_sets_9 : decode cX8_sets 9 = .ok (.aload_n 0, 1) := by decide +kernel
theorem dX8_sets_10 : decode cX8_sets 10 = .ok (.getfield 34, 3) := by decide +kernel
theorem dX8_sets_13 : decode cX8_sets 13 = .ok (.iload_n 1, 1) := by decide +kernel
theorem dX8_sets_14 : decode cX8_sets 14 = .ok (.iload_n 2, 1) := by decide +kernel
theorem dX8_sets_15 : decode cX8_sets 15 = .ok (.iconst 2, 1) := by decide +kernel
theorem dX8_sets_16 : decode cX8_sets 16 = .ok (.irem, 1) := by decide +kernel
theorem dX8_sets_17 : decode cX8_sets 17 = .ok (.iconst 1, 1) := by decide +kernel
theorem dX8_sets_18 : decode cX8_sets 18 = .ok (.if_icmp .ne 7, 3) := by decide +kernel
theorem dX8_sets_21 : decode cX8_sets 21 = .ok (.iload_n 3, 1) := by decide +kernel
theorem dX8_sets_22 : decode cX8_sets 22 = .ok (.goto 4, 3) := by decide +kernel
theorem dX8_sets_25 : decode cX8_sets 25 = .ok (.iconst (-1), 1) := by decide +kernel
theorem dX8_sets_26 : decode cX8_sets 26 = .ok (.iastore, 1) := by decide +kernel
theorem dX8_sets_27 : decode cX8_sets 27 = .ok (.return_, 1) := by decide +kernel
theorem dX8_fitting_0 : decode cX8_fitting 0 = .ok (.aload_n 0, 1) := by decide +kernel
theorem dX8_fitting_1 : decode cX8_fitting 1 = .ok (.getfield 31, 3) := by decide +kernel
theorem dX8_fitting_4 : decode cX8_fitting 4 = .ok (.iload_n 2, 1) := by decide +kernel
theorem dX8_fitting_5 : decode cX8_fitting 5 = .ok (.iaload, 1) := by decide +kernel
theorem dX8_fitting_6 : decode cX8_fitting 6 = .ok (.istore 4, 2) := by decide +kernel
theorem dX8_fitting_8 : decode cX8_fitting 8 = .ok (.aload_n 0, 1) := by decide +kernel
theorem dX8_fitting_9 : decode cX8_fitting 9 = .ok (.getfield 34, 3) := by decide +kernel
theorem dX8_fitting_12 : decode cX8_fitting 12 = .ok (.iload_n 2, 1) := by decide +kernel
theorem dX8_fitting_13 : decode cX8_fitting 13 = .ok (.iaload, 1) := by decide +kernel
theorem dX8_fitting_14 : decode cX8_fitting 14 = .ok (.istore 5, 2) := by decide +kernel
theorem dX8_fitting_16 : decode cX8_fitting 16 = .ok (.lconst 0, 1) := by decide +kernel
theorem dX8_fitting_17 : decode cX8_fitting 17 = .ok (.lstore 6, 2) := by decide +kernel
theorem dX8_fitting_19 : decode cX8_fitting 19 = .ok (.iconst 0, 1) := by decide +kernel
theorem dX8_fitting_20 : decode cX8_fitting 20 = .ok (.istore 8, 2) := by decide +kernel
theorem dX8_fitting_22 : decode cX8_fitting 22 = .ok (.iload 8, 2) := by decide +kernel
theorem dX8_fitting_24 : decode cX8_fitting 24 = .ok (.bipush 32, 2) := by decide +kernel
theorem dX8_fitting_26 : decode cX8_fitting 26 = .ok (.if_icmp .ge 38, 3) := by decide +kernel
theorem dX8_fitting_29 : decode cX8_fitting 29 = .ok (.aload_n 0, 1) := by decide +kernel
theorem dX8_fitting_30 : decode cX8_fitting 30 = .ok (.iload_n 2, 1) := by decide +kernel
theorem dX8_fitting_31 : decode cX8_fitting 31 = .ok (.iload 8, 2) := by decide +kernel
theorem dX8_fitting_33 : decode cX8_fitting 33 = .ok (.iload_n 3, 1) := by decide +kernel
theorem dX8_fitting_34 : decode cX8_fitting 34 = .ok (.invokevirtual 226, 3) := by decide +kernel
theorem dX8_fitting_37 : decode cX8_fitting 37 = .ok (.lload 6, 2) := by decide +kernel
theorem dX8_fitting_39 : decode cX8_fitting 39 = .ok (.aload_n 0, 1) := by decide +kernel
theorem dX8_fitting_40 : decode cX8_fitting 40 = .ok (.iload_n 1, 1) := by decide +kernel
theorem dX8_fitting_41 : decode cX8_fitting 41 = .ok (.invokevirtual 230, 3) := by decide +kernel
theorem dX8_fitting_44 : decode cX8_fitting 44 = .ok (.ifCond .eq 10, 3) := by decide +kernel
theorem dX8_fitting_47 : decode cX8_fitting 47 = .ok (.lconst 1, 1) := by decide +kernel
theorem dX8_fitting_48 : decode cX8_fitting 48 = .ok (.iload 8, 2) := by decide +kernel
theorem dX8_fitting_50 : decode cX8_fitting 50 = .ok (.lshl, 1) := by decide +kernel
theorem dX8_fitting_51 : decode cX8_fitting 51 = .ok (.goto 4, 3) := by decide +kernel
theorem dX8_fitting_54 : decode cX8_fitting 54 = .ok (.lconst 0, 1) := by decide +kernel
theorem dX8_fitting_55 : decode cX8_fitting 55 = .ok (.lor, 1) := by decide +kernel
theorem dX8_fitting_56 : decode cX8_fitting 56 = .ok (.lstore 6, 2) := by decide +kernel
theorem dX8_fitting_58 : decode cX8_fitting 58 = .ok (.iinc 8 1, 3) := by decide +kernel
theorem dX8_fitting_61 : decode cX8_fitting 61 = .ok (.goto (-39), 3) := by decide +kernel
theorem dX8_fitting_64 : decode cX8_fitting 64 = .ok (.aload_n 0, 1) := by decide +kernel
theorem dX8_fitting_65 : decode cX8_fitting 65 = .ok (.getfield 31, 3) := by decide +kernel
theorem dX8_fitting_68 : decode cX8_fitting 68 = .ok (.iload_n 2, 1) := by decide +kernel
theorem dX8_fitting_69 : decode cX8_fitting 69 = .ok (.iload 4, 2) := by decide +kernel
theorem dX8_fitting_71 : decode cX8_fitting 71 = .ok (.iastore, 1) := by decide +kernel
theorem dX8_fitting_72 : decode cX8_fitting 72 = .ok (.aload_n 0, 1) := by decide +kernel
theorem dX8_fitting_73 : decode cX8_fitting 73 = .ok (.getfield 34, 3) := by decide +kernel
theorem dX8_fitting_76 : decode cX8_fitting 76 = .ok (.iload_n 2, 1) := by decide +kernel
theorem dX8_fitting_77 : decode cX8_fitting 77 = .ok (.iload 5, 2) := by decide +kernel
theorem dX8_fitting_79 : decode cX8_fitting 79 = .ok (.iastore, 1) := by decide +kernel
theorem dX8_fitting_80 : decode cX8_fitting 80 = .ok (.lload 6, 2) := by decide +kernel
theorem dX8_fitting_82 : decode cX8_fitting 82 = .ok (.lreturn, 1) := by decide +kernel
theorem dX8_many_0 : decode cX8_many 0 = .ok (.iconst 0, 1) := by decide +kernel
theorem dX8_many_1 : decode cX8_many 1 = .ok (.istore_n 2, 1) := by decide +kernel
theorem dX8_many_2 : decode cX8_many 2 = .ok (.iconst 0, 1) := by decide +kernel
theorem dX8_many_3 : decode cX8_many 3 = .ok (.istore_n 3, 1) := by decide +kernel
theorem dX8_many_4 : decode cX8_many 4 = .ok (.iload_n 3, 1) := by decide +kernel
theorem dX8_many_5 : decode cX8_many 5 = .ok (.bipush 32, 2) := by decide +kernel
theorem dX8_many_7 : decode cX8_many 7 = .ok (.if_icmp .ge 18, 3) := by decide +kernel
theorem dX8_many_10 : decode cX8_many 10 = .ok (.iload_n 2, 1) := by decide +kernel
theorem dX8_many_11 : decode cX8_many 11 = .ok (.lload_n 0, 1) := by decide +kernel
theorem dX8_many_12 : decode cX8_many 12 = .ok (.iload_n 3, 1) := by decide +kernel
theorem dX8_many_13 : decode cX8_many 13 = .ok (.lshr, 1) := by decide +kernel
theorem dX8_many_14 : decode cX8_many 14 = .ok (.lconst 1, 1) := by decide +kernel
theorem dX8_many_15 : decode cX8_many 15 = .ok (.land, 1) := by decide +kernel
theorem dX8_many_16 : decode cX8_many 16 = .ok (.l2i, 1) := by decide +kernel
theorem dX8_many_17 : decode cX8_many 17 = .ok (.iadd, 1) := by decide +kernel
theorem dX8_many_18 : decode cX8_many 18 = .ok (.istore_n 2, 1) := by decide +kernel
theorem dX8_many_19 : decode cX8_many 19 = .ok (.iinc 3 1, 3) := by decide +kernel
theorem dX8_many_22 : decode cX8_many 22 = .ok (.goto (-18), 3) := by decide +kernel
theorem dX8_many_25 : decode cX8_many 25 = .ok (.iload_n 2, 1) := by decide +kernel
theorem dX8_many_26 : decode cX8_many 26 = .ok (.ireturn, 1) := by decide +kernel
theorem dX8_settings_0 : decode cX8_settings 0 = .ok (.aload_n 0, 1) := by decide +kernel
theorem dX8_settings_1 : decode cX8_settings 1 = .ok (.aload_n 0, 1) := by decide +kernel
theorem dX8_settings_2 : decode cX8_settings 2 = .ok (.iload_n 1, 1) := by decide +kernel
theorem dX8_settings_3 : decode cX8_settings 3 = .ok (.iload_n 2, 1) := by decide +kernel
theorem dX8_settings_4 : decode cX8_settings 4 = .ok (.invokevirtual 131, 3) := by decide +kernel
theorem dX8_settings_7 : decode cX8_settings 7 = .ok (.ifCond .eq 14, 3) := by decide +kernel
theorem dX8_settings_10 : decode cX8_settings 10 = .ok (.iload_n 3, 1) := by decide +kernel
theorem dX8_settings_11 : decode cX8_settings 11 = .ok (.invokestatic 118, 3) := by decide +kernel
theorem dX8_settings_14 : decode cX8_settings 14 = .ok (.ifCond .eq 7, 3) := by decide +kernel
theorem dX8_settings_17 : decode cX8_settings 17 = .ok (.iconst 0, 1) := by decide +kernel
theorem dX8_settings_18 : decode cX8_settings 18 = .ok (.goto 4, 3) := by decide +kernel
theorem dX8_settings_21 : decode cX8_settings 21 = .ok (.iconst 1, 1) := by decide +kernel
theorem dX8_settings_22 : decode cX8_settings 22 = .ok (.invokevirtual 128, 3) := by decide +kernel
theorem dX8_settings_25 : decode cX8_settings 25 = .ok (.ifCond .ne 5, 3) := by decide +kernel
theorem dX8_settings_28 : decode cX8_settings 28 = .ok (.iconst 0, 1) := by decide +kernel
theorem dX8_settings_29 : decode cX8_settings 29 = .ok (.ireturn, 1) := by decide +kernel
theorem dX8_settings_30 : decode cX8_settings 30 = .ok (.aload_n 0, 1) := by decide +kernel
theorem dX8_settings_31 : decode cX8_settings 31 = .ok (.iload_n 1, 1) := by decide +kernel
theorem dX8_settings_32 : decode cX8_settings 32 = .ok (.iconst 5, 1) := by decide +kernel
theorem dX8_settings_33 : decode cX8_settings 33 = .ok (.iload_n 1, 1) := by decide +kernel
theorem dX8_settings_34 : decode cX8_settings 34 = .ok (.imul, 1) := by decide +kernel
theorem dX8_settings_35 : decode cX8_settings 35 = .ok (.iload_n 2, 1) := by decide +kernel
theorem dX8_settings_36 : decode cX8_settings 36 = .ok (.iadd, 1) := by decide +kernel
theorem dX8_settings_37 : decode cX8_settings 37 = .ok (.iload_n 3, 1) := by decide +kernel
theorem dX8_settings_38 : decode cX8_settings 38 = .ok (.invokevirtual 233, 3) := by decide +kernel
theorem dX8_settings_41 : decode cX8_settings 41 = .ok (.invokestatic 237, 3) := by decide +kernel
theorem dX8_settings_44 : decode cX8_settings 44 = .ok (.ireturn, 1) := by decide +kernel
theorem dX8_learn_0 : decode cX8_learn 0 = .ok (.aload_n 0, 1) := by decide +kernel
theorem dX8_learn_1 : decode cX8_learn 1 = .ok (.iload_n 1, 1) := by decide +kernel
theorem dX8_learn_2 : decode cX8_learn 2 = .ok (.iload_n 2, 1) := by decide +kernel
theorem dX8_learn_3 : decode cX8_learn 3 = .ok (.invokevirtual 131, 3) := by decide +kernel
theorem dX8_learn_6 : decode cX8_learn 6 = .ok (.ifCond .eq 14, 3) := by decide +kernel
theorem dX8_learn_9 : decode cX8_learn 9 = .ok (.iload_n 3, 1) := by decide +kernel
theorem dX8_learn_10 : decode cX8_learn 10 = .ok (.invokestatic 118, 3) := by decide +kernel
theorem dX8_learn_13 : decode cX8_learn 13 = .ok (.ifCond .eq 7, 3) := by decide +kernel
theorem dX8_learn_16 : decode cX8_learn 16 = .ok (.iconst 1, 1) := by decide +kernel
theorem dX8_learn_17 : decode cX8_learn 17 = .ok (.goto 4, 3) := by decide +kernel
theorem dX8_learn_20 : decode cX8_learn 20 = .ok (.iconst 0, 1) := by decide +kernel
theorem dX8_learn_21 : decode cX8_learn 21 = .ok (.istore 4, 2) := by decide +kernel
theorem dX8_learn_23 : decode cX8_learn 23 = .ok (.iconst 5, 1) := by decide +kernel
theorem dX8_learn_24 : decode cX8_learn 24 = .ok (.iload_n 1, 1) := by decide +kernel
theorem dX8_learn_25 : decode cX8_learn 25 = .ok (.imul, 1) := by decide +kernel
theorem dX8_learn_26 : decode cX8_learn 26 = .ok (.iload_n 2, 1) := by decide +kernel
theorem dX8_learn_27 : decode cX8_learn 27 = .ok (.iadd, 1) := by decide +kernel
theorem dX8_learn_28 : decode cX8_learn 28 = .ok (.istore 5, 2) := by decide +kernel
theorem dX8_learn_30 : decode cX8_learn 30 = .ok (.iload 4, 2) := by decide +kernel
theorem dX8_learn_32 : decode cX8_learn 32 = .ok (.ifCond .eq 14, 3) := by decide +kernel
theorem dX8_learn_35 : decode cX8_learn 35 = .ok (.aload_n 0, 1) := by decide +kernel
theorem dX8_learn_36 : decode cX8_learn 36 = .ok (.iload_n 1, 1) := by decide +kernel
theorem dX8_learn_37 : decode cX8_learn 37 = .ok (.iload 5, 2) := by decide +kernel
theorem dX8_learn_39 : decode cX8_learn 39 = .ok (.iload_n 3, 1) := by decide +kernel
theorem dX8_learn_40 : decode cX8_learn 40 = .ok (.invokevirtual 233, 3) := by decide +kernel
theorem dX8_learn_43 : decode cX8_learn 43 = .ok (.goto 4, 3) := by decide +kernel
theorem dX8_learn_46 : decode cX8_learn 46 = .ok (.lconst 0, 1) := by decide +kernel
theorem dX8_learn_47 : decode cX8_learn 47 = .ok (.lstore 6, 2) := by decide +kernel
theorem dX8_learn_49 : decode cX8_learn 49 = .ok (.aload_n 0, 1) := by decide +kernel
theorem dX8_learn_50 : decode cX8_learn 50 = .ok (.iload 4, 2) := by decide +kernel
theorem dX8_learn_52 : decode cX8_learn 52 = .ok (.ifCond .ne 7, 3) := by decide +kernel
theorem dX8_learn_55 : decode cX8_learn 55 = .ok (.iconst 1, 1) := by decide +kernel
theorem dX8_learn_56 : decode cX8_learn 56 = .ok (.goto 15, 3) := by decide +kernel
theorem dX8_learn_59 : decode cX8_learn 59 = .ok (.lload 6, 2) := by decide +kernel
theorem dX8_learn_61 : decode cX8_learn 61 = .ok (.lconst 0, 1) := by decide +kernel
theorem dX8_learn_62 : decode cX8_learn 62 = .ok (.lcmp, 1) := by decide +kernel
theorem dX8_learn_63 : decode cX8_learn 63 = .ok (.ifCond .ne 7, 3) := by decide +kernel
theorem dX8_learn_66 : decode cX8_learn 66 = .ok (.iconst 2, 1) := by decide +kernel
theorem dX8_learn_67 : decode cX8_learn 67 = .ok (.goto 4, 3) := by decide +kernel
theorem dX8_learn_70 : decode cX8_learn 70 = .ok (.iconst 0, 1) := by decide +kernel
theorem dX8_learn_71 : decode cX8_learn 71 = .ok (.invokevirtual 128, 3) := by decide +kernel
theorem dX8_learn_74 : decode cX8_learn 74 = .ok (.ifCond .ne 5, 3) := by decide +kernel
theorem dX8_learn_77 : decode cX8_learn 77 = .ok (.iconst 0, 1) := by decide +kernel
theorem dX8_learn_78 : decode cX8_learn 78 = .ok (.ireturn, 1) := by decide +kernel
theorem dX8_learn_79 : decode cX8_learn 79 = .ok (.iconst 0, 1) := by decide +kernel
theorem dX8_learn_80 : decode cX8_learn 80 = .ok (.istore 8, 2) := by decide +kernel
theorem dX8_learn_82 : decode cX8_learn 82 = .ok (.lload 6, 2) := by decide +kernel
theorem dX8_learn_84 : decode cX8_learn 84 = .ok (.iload 8, 2) := by decide +kernel
theorem dX8_learn_86 : decode cX8_learn 86 = .ok (.lshr, 1) := by decide +kernel
theorem dX8_learn_87 : decode cX8_learn 87 = .ok (.lconst 1, 1) := by decide +kernel
theorem dX8_learn_88 : decode cX8_learn 88 = .ok (.land, 1) := by decide +kernel
theorem dX8_learn_89 : decode cX8_learn 89 = .ok (.lconst 0, 1) := by decide +kernel
theorem dX8_learn_90 : decode cX8_learn 90 = .ok (.lcmp, 1) := by decide +kernel
theorem dX8_learn_91 : decode cX8_learn 91 = .ok (.ifCond .ne 9, 3) := by decide +kernel
theorem dX8_learn_94 : decode cX8_learn 94 = .ok (.iinc 8 1, 3) := by decide +kernel
theorem dX8_learn_97 : decode cX8_learn 97 = .ok (.goto (-15), 3) := by decide +kernel
theorem dX8_learn_100 : decode cX8_learn 100 = .ok (.aload_n 0, 1) := by decide +kernel
theorem dX8_learn_101 : decode cX8_learn 101 = .ok (.iload 5, 2) := by decide +kernel
theorem dX8_learn_103 : decode cX8_learn 103 = .ok (.iload 8, 2) := by decide +kernel
theorem dX8_learn_105 : decode cX8_learn 105 = .ok (.iload_n 3, 1) := by decide +kernel
theorem dX8_learn_106 : decode cX8_learn 106 = .ok (.invokevirtual 226, 3) := by decide +kernel
theorem dX8_learn_109 : decode cX8_learn 109 = .ok (.iload 8, 2) := by decide +kernel
theorem dX8_learn_111 : decode cX8_learn 111 = .ok (.ireturn, 1) := by decide +kernel
theorem dX8_greatestBy_0 : decode cX8_greatestBy 0 = .ok (.iconst 0, 1) := by decide +kernel
theorem dX8_greatestBy_1 : decode cX8_greatestBy 1 = .ok (.istore 7, 2) := by decide +kernel
theorem dX8_greatestBy_3 : decode cX8_greatestBy 3 = .ok (.iconst 0, 1) := by decide +kernel
theorem dX8_greatestBy_4 : decode cX8_greatestBy 4 = .ok (.istore 8, 2) := by decide +kernel
theorem dX8_greatestBy_6 : decode cX8_greatestBy 6 = .ok (.iload 8, 2) := by decide +kernel
theorem dX8_greatestBy_8 : decode cX8_greatestBy 8 = .ok (.bipush 32, 2) := by decide +kernel
theorem dX8_greatestBy_10 : decode cX8_greatestBy 10 = .ok (.if_icmp .ge 48, 3) := by decide +kernel
theorem dX8_greatestBy_13 : decode cX8_greatestBy 13 = .ok (.lload 4, 2) := by decide +kernel
theorem dX8_greatestBy_15 : decode cX8_greatestBy 15 = .ok (.iload 8, 2) := by decide +kernel
theorem dX8_greatestBy_17 : decode cX8_greatestBy 17 = .ok (.lshr, 1) := by decide +kernel
theorem dX8_greatestBy_18 : decode cX8_greatestBy 18 = .ok (.lconst 1, 1) := by decide +kernel
theorem dX8_greatestBy_19 : decode cX8_greatestBy 19 = .ok (.land, 1) := by decide +kernel
theorem dX8_greatestBy_20 : decode cX8_greatestBy 20 = .ok (.lconst 1, 1) := by decide +kernel
theorem dX8_greatestBy_21 : decode cX8_greatestBy 21 = .ok (.lcmp, 1) := by decide +kernel
theorem dX8_greatestBy_22 : decode cX8_greatestBy 22 = .ok (.ifCond .ne 30, 3) := by decide +kernel
theorem dX8_greatestBy_25 : decode cX8_greatestBy 25 = .ok (.aload_n 0, 1) := by decide +kernel
theorem dX8_greatestBy_26 : decode cX8_greatestBy 26 = .ok (.iload_n 2, 1) := by decide +kernel
theorem dX8_greatestBy_27 : decode cX8_greatestBy 27 = .ok (.iload 8, 2) := by decide +kernel
theorem dX8_greatestBy_29 : decode cX8_greatestBy 29 = .ok (.iload_n 3, 1) := by decide +kernel
theorem dX8_greatestBy_30 : decode cX8_greatestBy 30 = .ok (.invokevirtual 226, 3) := by decide +kernel
theorem dX8_greatestBy_33 : decode cX8_greatestBy 33 = .ok (.aload_n 0, 1) := by decide +kernel
theorem dX8_greatestBy_34 : decode cX8_greatestBy 34 = .ok (.iload_n 1, 1) := by decide +kernel
theorem dX8_greatestBy_35 : decode cX8_greatestBy 35 = .ok (.iload 6, 2) := by decide +kernel
theorem dX8_greatestBy_37 : decode cX8_greatestBy 37 = .ok (.iconst 0, 1) := by decide +kernel
theorem dX8_greatestBy_38 : decode cX8_greatestBy 38 = .ok (.invokevirtual 187, 3) := by decide +kernel
theorem dX8_greatestBy_41 : decode cX8_greatestBy 41 = .ok (.istore 9, 2) := by decide +kernel
theorem dX8_greatestBy_43 : decode cX8_greatestBy 43 = .ok (.aload_n 0, 1) := by decide +kernel
theorem dX8_greatestBy_44 : decode cX8_greatestBy 44 = .ok (.iload 7, 2) := by decide +kernel
theorem dX8_greatestBy_46 : decode cX8_greatestBy 46 = .ok (.invokevirtual 211, 3) := by decide +kernel
theorem dX8_greatestBy_49 : decode cX8_greatestBy 49 = .ok (.iinc 7 1, 3) := by decide +kernel
theorem dX8_greatestBy_52 : decode cX8_greatestBy 52 = .ok (.iinc 8 1, 3) := by decide +kernel
theorem dX8_greatestBy_55 : decode cX8_greatestBy 55 = .ok (.goto (-49), 3) := by decide +kernel
theorem dX8_greatestBy_58 : decode cX8_greatestBy 58 = .ok (.iconst 0, 1) := by decide +kernel
theorem dX8_greatestBy_59 : decode cX8_greatestBy 59 = .ok (.istore 8, 2) := by decide +kernel
theorem dX8_greatestBy_61 : decode cX8_greatestBy 61 = .ok (.iconst 0, 1) := by decide +kernel
theorem dX8_greatestBy_62 : decode cX8_greatestBy 62 = .ok (.istore 9, 2) := by decide +kernel
theorem dX8_greatestBy_64 : decode cX8_greatestBy 64 = .ok (.iload 9, 2) := by decide +kernel
theorem dX8_greatestBy_66 : decode cX8_greatestBy 66 = .ok (.iload 7, 2) := by decide +kernel
theorem dX8_greatestBy_68 : decode cX8_greatestBy 68 = .ok (.if_icmp .ge 65, 3) := by decide +kernel
theorem dX8_greatestBy_71 : decode cX8_greatestBy 71 = .ok (.iconst 0, 1) := by decide +kernel
theorem dX8_greatestBy_72 : decode cX8_greatestBy 72 = .ok (.istore 10, 2) := by decide +kernel
theorem dX8_greatestBy_74 : decode cX8_greatestBy 74 = .ok (.iconst 0, 1) := by decide +kernel
theorem dX8_greatestBy_75 : decode cX8_greatestBy 75 = .ok (.istore 11, 2) := by decide +kernel
theorem dX8_greatestBy_77 : decode cX8_greatestBy 77 = .ok (.iload 11, 2) := by decide +kernel
theorem dX8_greatestBy_79 : decode cX8_greatestBy 79 = .ok (.iload 7, 2) := by decide +kernel
theorem dX8_greatestBy_81 : decode cX8_greatestBy 81 = .ok (.if_icmp .ge 30, 3) := by decide +kernel
theorem dX8_greatestBy_84 : decode cX8_greatestBy 84 = .ok (.iload 10, 2) := by decide +kernel
theorem dX8_greatestBy_86 : decode cX8_greatestBy 86 = .ok (.aload_n 0, 1) := by decide +kernel
theorem dX8_greatestBy_87 : decode cX8_greatestBy 87 = .ok (.iload 11, 2) := by decide +kernel
theorem dX8_greatestBy_89 : decode cX8_greatestBy 89 = .ok (.iload 9, 2) := by decide +kernel
theorem dX8_greatestBy_91 : decode cX8_greatestBy 91 = .ok (.invokevirtual 217, 3) := by decide +kernel
theorem dX8_greatestBy_94 : decode cX8_greatestBy 94 = .ok (.ifCond .eq 7, 3) := by decide +kernel
theorem dX8_greatestBy_97 : decode cX8_greatestBy 97 = .ok (.iconst 1, 1) := by decide +kernel
theorem dX8_greatestBy_98 : decode cX8_greatestBy 98 = .ok (.goto 4, 3) := by decide +kernel
theorem dX8_greatestBy_101 : decode cX8_greatestBy 101 = .ok (.iconst 0, 1) := by decide +kernel
theorem dX8_greatestBy_102 : decode cX8_greatestBy 102 = .ok (.iadd, 1) := by decide +kernel
theorem dX8_greatestBy_103 : decode cX8_greatestBy 103 = .ok (.istore 10, 2) := by decide +kernel
theorem dX8_greatestBy_105 : decode cX8_greatestBy 105 = .ok (.iinc 11 1, 3) := by decide +kernel
theorem dX8_greatestBy_108 : decode cX8_greatestBy 108 = .ok (.goto (-31), 3) := by decide +kernel
theorem dX8_greatestBy_111 : decode cX8_greatestBy 111 = .ok (.iload 10, 2) := by decide +kernel
theorem dX8_greatestBy_113 : decode cX8_greatestBy 113 = .ok (.iload 8, 2) := by decide +kernel
theorem dX8_greatestBy_115 : decode cX8_greatestBy 115 = .ok (.if_icmp .le 8, 3) := by decide +kernel
theorem dX8_greatestBy_118 : decode cX8_greatestBy 118 = .ok (.iload 10, 2) := by decide +kernel
theorem dX8_greatestBy_120 : decode cX8_greatestBy 120 = .ok (.goto 5, 3) := by decide +kernel
