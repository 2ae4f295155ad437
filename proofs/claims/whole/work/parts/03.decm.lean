theorem dX12_init_0 : decode cX12_init 0 = .ok (.aload_n 0, 1) := by decide +kernel
theorem dX12_init_1 : decode cX12_init 1 = .ok (.invokespecial 1, 3) := by decide +kernel
theorem dX12_init_4 : decode cX12_init 4 = .ok (.aload_n 0, 1) := by decide +kernel
theorem dX12_init_5 : decode cX12_init 5 = .ok (.bipush 8, 2) := by decide +kernel
theorem dX12_init_7 : decode cX12_init 7 = .ok (.newarray .int, 2) := by decide +kernel
theorem dX12_init_9 : decode cX12_init 9 = .ok (.dup, 1) := by decide +kernel
theorem dX12_init_10 : decode cX12_init 10 = .ok (.iconst 0, 1) := by decide +kernel
theorem dX12_init_11 : decode cX12_init 11 = .ok (.iconst 0, 1) := by decide +kernel
theorem dX12_init_12 : decode cX12_init 12 = .ok (.iastore, 1) := by decide +kernel
theorem dX12_init_13 : decode cX12_init 13 = .ok (.dup, 1) := by decide +kernel
theorem dX12_init_14 : decode cX12_init 14 = .ok (.iconst 1, 1) := by decide +kernel
theorem dX12_init_15 : decode cX12_init 15 = .ok (.iconst 0, 1) := by decide +kernel
theorem dX12_init_16 : decode cX12_init 16 = .ok (.iastore, 1) := by decide +kernel
theorem dX12_init_17 : decode cX12_init 17 = .ok (.dup, 1) := by decide +kernel
theorem dX12_init_18 : decode cX12_init 18 = .ok (.iconst 2, 1) := by decide +kernel
theorem dX12_init_19 : decode cX12_init 19 = .ok (.bipush 20, 2) := by decide +kernel
theorem dX12_init_21 : decode cX12_init 21 = .ok (.iastore, 1) := by decide +kernel
theorem dX12_init_22 : decode cX12_init 22 = .ok (.dup, 1) := by decide +kernel
theorem dX12_init_23 : decode cX12_init 23 = .ok (.iconst 3, 1) := by decide +kernel
theorem dX12_init_24 : decode cX12_init 24 = .ok (.iconst 0, 1) := by decide +kernel
theorem dX12_init_25 : decode cX12_init 25 = .ok (.iastore, 1) := by decide +kernel
theorem dX12_init_26 : decode cX12_init 26 = .ok (.dup, 1) := by decide +kernel
theorem dX12_init_27 : decode cX12_init 27 = .ok (.iconst 4, 1) := by decide +kernel
theorem dX12_init_28 : decode cX12_init 28 = .ok (.iconst 0, 1) := by decide +kernel
theorem dX12_init_29 : decode cX12_init 29 = .ok (.iastore, 1) := by decide +kernel
theorem dX12_init_30 : decode cX12_init 30 = .ok (.dup, 1) := by decide +kernel
theorem dX12_init_31 : decode cX12_init 31 = .ok (.iconst 5, 1) := by decide +kernel
theorem dX12_init_32 : decode cX12_init 32 = .ok (.iconst 0, 1) := by decide +kernel
theorem dX12_init_33 : decode cX12_init 33 = .ok (.iastore, 1) := by decide +kernel
theorem dX12_init_34 : decode cX12_init 34 = .ok (.dup, 1) := by decide +kernel
theorem dX12_init_35 : decode cX12_init 35 = .ok (.bipush 6, 2) := by decide +kernel
theorem dX12_init_37 : decode cX12_init 37 = .ok (.bipush 20, 2) := by decide +kernel
theorem dX12_init_39 : decode cX12_init 39 = .ok (.iastore, 1) := by decide +kernel
theorem dX12_init_40 : decode cX12_init 40 = .ok (.dup, 1) := by decide +kernel
theorem dX12_init_41 : decode cX12_init 41 = .ok (.bipush 7, 2) := by decide +kernel
theorem dX12_init_43 : decode cX12_init 43 = .ok (.iconst 0, 1) := by decide +kernel
theorem dX12_init_44 : decode cX12_init 44 = .ok (.iastore, 1) := by decide +kernel
theorem dX12_init_45 : decode cX12_init 45 = .ok (.putfield 7, 3) := by decide +kernel
theorem dX12_init_48 : decode cX12_init 48 = .ok (.aload_n 0, 1) := by decide +kernel
theorem dX12_init_49 : decode cX12_init 49 = .ok (.iconst 2, 1) := by decide +kernel
theorem dX12_init_50 : decode cX12_init 50 = .ok (.newarray .int, 2) := by decide +kernel
theorem dX12_init_52 : decode cX12_init 52 = .ok (.putfield 13, 3) := by decide +kernel
theorem dX12_init_55 : decode cX12_init 55 = .ok (.aload_n 0, 1) := by decide +kernel
theorem dX12_init_56 : decode cX12_init 56 = .ok (.iconst 2, 1) := by decide +kernel
theorem dX12_init_57 : decode cX12_init 57 = .ok (.newarray .int, 2) := by decide +kernel
theorem dX12_init_59 : decode cX12_init 59 = .ok (.putfield 16, 3) := by decide +kernel
theorem dX12_init_62 : decode cX12_init 62 = .ok (.aload_n 0, 1) := by decide +kernel
theorem dX12_init_63 : decode cX12_init 63 = .ok (.iconst 2, 1) := by decide +kernel
theorem dX12_init_64 : decode cX12_init 64 = .ok (.newarray .int, 2) := by decide +kernel
theorem dX12_init_66 : decode cX12_init 66 = .ok (.dup, 1) := by decide +kernel
theorem dX12_init_67 : decode cX12_init 67 = .ok (.iconst 0, 1) := by decide +kernel
theorem dX12_init_68 : decode cX12_init 68 = .ok (.iconst (-1), 1) := by decide +kernel
theorem dX12_init_69 : decode cX12_init 69 = .ok (.iastore, 1) := by decide +kernel
theorem dX12_init_70 : decode cX12_init 70 = .ok (.dup, 1) := by decide +kernel
theorem dX12_init_71 : decode cX12_init 71 = .ok (.iconst 1, 1) := by decide +kernel
theorem dX12_init_72 : decode cX12_init 72 = .ok (.iconst (-1), 1) := by decide +kernel
theorem dX12_init_73 : decode cX12_init 73 = .ok (.iastore, 1) := by decide +kernel
theorem dX12_init_74 : decode cX12_init 74 = .ok (.putfield 19, 3) := by decide +kernel
theorem dX12_init_77 : decode cX12_init 77 = .ok (.aload_n 0, 1) := by decide +kernel
theorem dX12_init_78 : decode cX12_init 78 = .ok (.bipush 24, 2) := by decide +kernel
theorem dX12_init_80 : decode cX12_init 80 = .ok (.newarray .int, 2) := by decide +kernel
theorem dX12_init_82 : decode cX12_init 82 = .ok (.putfield 22, 3) := by decide +kernel
theorem dX12_init_85 : decode cX12_init 85 = .ok (.aload_n 0, 1) := by decide +kernel
theorem dX12_init_86 : decode cX12_init 86 = .ok (.iconst 3, 1) := by decide +kernel
theorem dX12_init_87 : decode cX12_init 87 = .ok (.newarray .int, 2) := by decide +kernel
theorem dX12_init_89 : decode cX12_init 89 = .ok (.putfield 25, 3) := by decide +kernel
theorem dX12_init_92 : decode cX12_init 92 = .ok (.aload_n 0, 1) := by decide +kernel
theorem dX12_init_93 : decode cX12_init 93 = .ok (.iconst 3, 1) := by decide +kernel
theorem dX12_init_94 : decode cX12_init 94 = .ok (.newarray .int, 2) := by decide +kernel
theorem dX12_init_96 : decode cX12_init 96 = .ok (.dup, 1) := by decide +kernel
theorem dX12_init_97 : decode cX12_init 97 = .ok (.iconst 0, 1) := by decide +kernel
theorem dX12_init_98 : decode cX12_init 98 = .ok (.bipush 10, 2) := by decide +kernel
theorem dX12_init_100 : decode cX12_init 100 = .ok (.iastore, 1) := by decide +kernel
theorem dX12_init_101 : decode cX12_init 101 = .ok (.dup, 1) := by decide +kernel
theorem dX12_init_102 : decode cX12_init 102 = .ok (.iconst 1, 1) := by decide +kernel
theorem dX12_init_103 : decode cX12_init 103 = .ok (.bipush 10, 2) := by decide +kernel
theorem dX12_init_105 : decode cX12_init 105 = .ok (.iastore, 1) := by decide +kernel
theorem dX12_init_106 : decode cX12_init 106 = .ok (.dup, 1) := by decide +kernel
theorem dX12_init_107 : decode cX12_init 107 = .ok (.iconst 2, 1) := by decide +kernel
theorem dX12_init_108 : decode cX12_init 108 = .ok (.bipush 10, 2) := by decide +kernel
theorem dX12_init_110 : decode cX12_init 110 = .ok (.iastore, 1) := by decide +kernel
theorem dX12_init_111 : decode cX12_init 111 = .ok (.putfield 28, 3) := by decide +kernel
theorem dX12_init_114 : decode cX12_init 114 = .ok (.aload_n 0, 1) := by decide +kernel
theorem dX12_init_115 : decode cX12_init 115 = .ok (.iconst 3, 1) := by decide +kernel
theorem dX12_init_116 : decode cX12_init 116 = .ok (.newarray .int, 2) := by decide +kernel
theorem dX12_init_118 : decode cX12_init 118 = .ok (.dup, 1) := by decide +kernel
theorem dX12_init_119 : decode cX12_init 119 = .ok (.iconst 0, 1) := by decide +kernel
theorem dX12_init_120 : decode cX12_init 120 = .ok (.bipush 20, 2) := by decide +kernel
theorem dX12_init_122 : decode cX12_init 122 = .ok (.iastore, 1) := by decide +kernel
theorem dX12_init_123 : decode cX12_init 123 = .ok (.dup, 1) := by decide +kernel
theorem dX12_init_124 : decode cX12_init 124 = .ok (.iconst 1, 1) := by decide +kernel
theorem dX12_init_125 : decode cX12_init 125 = .ok (.bipush 20, 2) := by decide +kernel
theorem dX12_init_127 : decode cX12_init 127 = .ok (.iastore, 1) := by decide +kernel
theorem dX12_init_128 : decode cX12_init 128 = .ok (.dup, 1) := by decide +kernel
theorem dX12_init_129 : decode cX12_init 129 = .ok (.iconst 2, 1) := by decide +kernel
theorem dX12_init_130 : decode cX12_init 130 = .ok (.bipush 20, 2) := by decide +kernel
theorem dX12_init_132 : decode cX12_init 132 = .ok (.iastore, 1) := by decide +kernel
theorem dX12_init_133 : decode cX12_init 133 = .ok (.putfield 31, 3) := by decide +kernel
theorem dX12_init_136 : decode cX12_init 136 = .ok (.aload_n 0, 1) := by decide +kernel
theorem dX12_init_137 : decode cX12_init 137 = .ok (.iconst 3, 1) := by decide +kernel
theorem dX12_init_138 : decode cX12_init 138 = .ok (.newarray .int, 2) := by decide +kernel
theorem dX12_init_140 : decode cX12_init 140 = .ok (.putfield 34, 3) := by decide +kernel
theorem dX12_init_143 : decode cX12_init 143 = .ok (.aload_n 0, 1) := by decide +kernel
theorem dX12_init_144 : decode cX12_init 144 = .ok (.bipush 6, 2) := by decide +kernel
theorem dX12_init_146 : decode cX12_init 146 = .ok (.newarray .int, 2) := by decide +kernel
theorem dX12_init_148 : decode cX12_init 148 = .ok (.putfield 37, 3) := by decide +kernel
theorem dX12_init_151 : decode cX12_init 151 = .ok (.aload_n 0, 1) := by decide +kernel
theorem dX12_init_152 : decode cX12_init 152 = .ok (.bipush 6, 2) := by decide +kernel
theorem dX12_init_154 : decode cX12_init 154 = .ok (.newarray .int, 2) := by decide +kernel
theorem dX12_init_156 : decode cX12_init 156 = .ok (.putfield 40, 3) := by decide +kernel
theorem dX12_init_159 : decode cX12_init 159 = .ok (.aload_n 0, 1) := by decide +kernel
theorem dX12_init_160 : decode cX12_init 160 = .ok (.iconst 3, 1) := by decide +kernel
theorem dX12_init_161 : decode cX12_init 161 = .ok (.newarray .int, 2) := by decide +kernel
theorem dX12_init_163 : decode cX12_init 163 = .ok (.putfield 43, 3) := by decide +kernel
theorem dX12_init_166 : decode cX12_init 166 = .ok (.aload_n 0, 1) := by decide +kernel
theorem dX12_init_167 : decode cX12_init 167 = .ok (.iconst 3, 1) := by decide +kernel
theorem dX12_init_168 : decode cX12_init 168 = .ok (.newarray .int, 2) := by decide +kernel
theorem dX12_init_170 : decode cX12_init 170 = .ok (.putfield 46, 3) := by decide +kernel
theorem dX12_init_173 : decode cX12_init 173 = .ok (.aload_n 0, 1) := by decide +kernel
theorem dX12_init_174 : decode cX12_init 174 = .ok (.bipush 8, 2) := by decide +kernel
theorem dX12_init_176 : decode cX12_init 176 = .ok (.newarray .int, 2) := by decide +kernel
theorem dX12_init_178 : decode cX12_init 178 = .ok (.putfield 49, 3) := by decide +kernel
theorem dX12_init_181 : decode cX12_init 181 = .ok (.aload_n 0, 1) := by decide +kernel
theorem dX12_init_182 : decode cX12_init 182 = .ok (.sipush 160, 3) := by decide +kernel
theorem dX12_init_185 : decode cX12_init 185 = .ok (.newarray .int, 2) := by decide +kernel
theorem dX12_init_187 : decode cX12_init 187 = .ok (.putfield 52, 3) := by decide +kernel
theorem dX12_init_190 : decode cX12_init 190 = .ok (.aload_n 0, 1) := by decide +kernel
theorem dX12_init_191 : decode cX12_init 191 = .ok (.bipush 6, 2) := by decide +kernel
theorem dX12_init_193 : decode cX12_init 193 = .ok (.newarray .int, 2) := by decide +kernel
theorem dX12_init_195 : decode cX12_init 195 = .ok (.dup, 1) := by decide +kernel
theorem dX12_init_196 : decode cX12_init 196 = .ok (.iconst 0, 1) := by decide +kernel
theorem dX12_init_197 : decode cX12_init 197 = .ok (.iconst 0, 1) := by decide +kernel
theorem dX12_init_198 : decode cX12_init 198 = .ok (.iastore, 1) := by decide +kernel
theorem dX12_init_199 : decode cX12_init 199 = .ok (.dup, 1) := by decide +kernel
theorem dX12_init_200 : decode cX12_init 200 = .ok (.iconst 1, 1) := by decide +kernel
theorem dX12_init_201 : decode cX12_init 201 = .ok (.bipush 100, 2) := by decide +kernel
theorem dX12_init_203 : decode cX12_init 203 = .ok (.iastore, 1) := by decide +kernel
theorem dX12_init_204 : decode cX12_init 204 = .ok (.dup, 1) := by decide +kernel
theorem dX12_init_205 : decode cX12_init 205 = .ok (.iconst 2, 1) := by decide +kernel
theorem dX12_init_206 : decode cX12_init 206 = .ok (.iconst 0, 1) := by decide +kernel
theorem dX12_init_207 : decode cX12_init 207 = .ok (.iastore, 1) := by decide +kernel
theorem dX12_init_208 : decode cX12_init 208 = .ok (.dup, 1) := by decide +kernel
theorem dX12_init_209 : decode cX12_init 209 = .ok (.iconst 3, 1) := by decide +kernel
theorem dX12_init_210 : decode cX12_init 210 = .ok (.bipush 35, 2) := by decide +kernel
theorem dX12_init_212 : decode cX12_init 212 = .ok (.iastore, 1) := by decide +kernel
theorem dX12_init_213 : decode cX12_init 213 = .ok (.dup, 1) := by decide +kernel
theorem dX12_init_214 : decode cX12_init 214 = .ok (.iconst 4, 1) := by decide +kernel
theorem dX12_init_215 : decode cX12_init 215 = .ok (.iconst 1, 1) := by decide +kernel
theorem dX12_init_216 : decode cX12_init 216 = .ok (.iastore, 1) := by decide +kernel
theorem dX12_init_217 : decode cX12_init 217 = .ok (.dup, 1) := by decide +kernel
theorem dX12_init_218 : decode cX12_init 218 = .ok (.iconst 5, 1) := by decide +kernel
theorem dX12_init_219 : decode cX12_init 219 = .ok (.iconst 0, 1) := by decide +kernel
theorem dX12_init_220 : decode cX12_init 220 = .ok (.iastore, 1) := by decide +kernel
theorem dX12_init_221 : decode cX12_init 221 = .ok (.putfield 55, 3) := by decide +kernel
theorem dX12_init_224 : decode cX12_init 224 = .ok (.aload_n 0, 1) := by decide +kernel
theorem dX12_init_225 : decode cX12_init 225 = .ok (.bipush 6, 2) := by decide +kernel
theorem dX12_init_227 : decode cX12_init 227 = .ok (.newarray .int, 2) := by decide +kernel
theorem dX12_init_229 : decode cX12_init 229 = .ok (.putfield 58, 3) := by decide +kernel
theorem dX12_init_232 : decode cX12_init 232 = .ok (.aload_n 0, 1) := by decide +kernel
theorem dX12_init_233 : decode cX12_init 233 = .ok (.bipush 48, 2) := by decide +kernel
theorem dX12_init_235 : decode cX12_init 235 = .ok (.newarray .int, 2) := by decide +kernel
theorem dX12_init_237 : decode cX12_init 237 = .ok (.putfield 61, 3) := by decide +kernel
theorem dX12_init_240 : decode cX12_init 240 = .ok (.aload_n 0, 1) := by decide +kernel
theorem dX12_init_241 : decode cX12_init 241 = .ok (.bipush 24, 2) := by decide +kernel
theorem dX12_init_243 : decode cX12_init 243 = .ok (.newarray .int, 2) := by decide +kernel
theorem dX12_init_245 : decode cX12_init 245 = .ok (.putfield 64, 3) := by decide +kernel
theorem dX12_init_248 : decode cX12_init 248 = .ok (.aload_n 0, 1) := by decide +kernel
theorem dX12_init_249 : decode cX12_init 249 = .ok (.bipush 24, 2) := by decide +kernel
theorem dX12_init_251 : decode cX12_init 251 = .ok (.newarray .int, 2) := by decide +kernel
theorem dX12_init_253 : decode cX12_init 253 = .ok (.putfield 67, 3) := by decide +kernel
theorem dX12_init_256 : decode cX12_init 256 = .ok (.aload_n 0, 1) := by decide +kernel
theorem dX12_init_257 : decode cX12_init 257 = .ok (.bipush 10, 2) := by decide +kernel
theorem dX12_init_259 : decode cX12_init 259 = .ok (.newarray .int, 2) := by decide +kernel
theorem dX12_init_261 : decode cX12_init 261 = .ok (.putfield 70, 3) := by decide +kernel
theorem dX12_init_264 : decode cX12_init 264 = .ok (.aload_n 0, 1) := by decide +kernel
theorem dX12_init_265 : decode cX12_init 265 = .ok (.bipush 10, 2) := by decide +kernel
theorem dX12_init_267 : decode cX12_init 267 = .ok (.newarray .int, 2) := by decide +kernel
theorem dX12_init_269 : decode cX12_init 269 = .ok (.putfield 73, 3) := by decide +kernel
theorem dX12_init_272 : decode cX12_init 272 = .ok (.aload_n 0, 1) := by decide +kernel
theorem dX12_init_273 : decode cX12_init 273 = .ok (.sipush 601, 3) := by decide +kernel
theorem dX12_init_276 : decode cX12_init 276 = .ok (.newarray .int, 2) := by decide +kernel
theorem dX12_init_278 : decode cX12_init 278 = .ok (.putfield 76, 3) := by decide +kernel
theorem dX12_init_281 : decode cX12_init 281 = .ok (.aload_n 0, 1) := by decide +kernel
theorem dX12_init_282 : decode cX12_init 282 = .ok (.bipush 61, 2) := by decide +kernel
theorem dX12_init_284 : decode cX12_init 284 = .ok (.newarray .int, 2) := by decide +kernel
theorem dX12_init_286 : decode cX12_init 286 = .ok (.putfield 79, 3) := by decide +kernel
theorem dX12_init_289 : decode cX12_init 289 = .ok (.aload_n 0, 1) := by decide +kernel
theorem dX12_init_290 : decode cX12_init 290 = .ok (.bipush 61, 2) := by decide +kernel
theorem dX12_init_292 : decode cX12_init 292 = .ok (.newarray .int, 2) := by decide +kernel
theorem dX12_init_294 : decode cX12_init 294 = .ok (.putfield 82, 3) := by decide +kernel
theorem dX12_init_297 : decode cX12_init 297 = .ok (.return_, 1) := by decide +kernel
theorem dX12_in_0 : decode cX12_in 0 = .ok (.lload_n 0, 1) := by decide +kernel
theorem dX12_in_1 : decode cX12_in 1 = .ok (.lload_n 2, 1) := by decide +kernel
theorem dX12_in_2 : decode cX12_in 2 = .ok (.lcmp, 1) := by decide +kernel
theorem dX12_in_3 : decode cX12_in 3 = .ok (.ifCond .lt 14, 3) := by decide +kernel
theorem dX12_in_6 : decode cX12_in 6 = .ok (.lload_n 0, 1) := by decide +kernel
theorem dX12_in_7 : decode cX12_in 7 = .ok (.lload 4, 2) := by decide +kernel
theorem dX12_in_9 : decode cX12_in 9 = .ok (.lcmp, 1) := by decide +kernel
theorem dX12_in_10 : decode cX12_in 10 = .ok (.ifCond .gt 7, 3) := by decide +kernel
theorem dX12_in_13 : decode cX12_in 13 = .ok (.iconst 1, 1) := by decide +kernel
theorem dX12_in_14 : decode cX12_in 14 = .ok (.goto 4, 3) := by decide +kernel
theorem dX12_in_17 : decode cX12_in 17 = .ok (.iconst 0, 1) := by decide +kernel
theorem dX12_in_18 : decode cX12_in 18 = .ok (.ireturn, 1) := by decide +kernel
theorem dX12_isPointer_0 : decode cX12_isPointer 0 = .ok (.iload_n 0, 1) := by decide +kernel
theorem dX12_isPointer_1 : decode cX12_isPointer 1 = .ok (.i2l, 1) := by decide +kernel
theorem dX12_isPointer_2 : decode cX12_isPointer 2 = .ok (.lconst 0, 1) := by decide +kernel
theorem dX12_isPointer_3 : decode cX12_isPointer 3 = .ok (.ldc2_w 85, 3) := by decide +kernel
theorem dX12_isPointer_6 : decode cX12_isPointer 6 = .ok (.invokestatic 87, 3) := by decide +kernel
theorem dX12_isPointer_9 : decode cX12_isPointer 9 = .ok (.ireturn, 1) := by decide +kernel
theorem dX12_round_0 : decode cX12_round 0 = .ok (.iload_n 0, 1) := by decide +kernel
theorem dX12_round_1 : decode cX12_round 1 = .ok (.ldc 91, 2) := by decide +kernel
theorem dX12_round_3 : decode cX12_round 3 = .ok (.irem, 1) := by decide +kernel
theorem dX12_round_4 : decode cX12_round 4 = .ok (.istore_n 1, 1) := by decide +kernel
theorem dX12_round_5 : decode cX12_round 5 = .ok (.iload_n 1, 1) := by decide +kernel
theorem dX12_round_6 : decode cX12_round 6 = .ok (.ifCond .ge 10, 3) := by decide +kernel
theorem dX12_round_9 : decode cX12_round 9 = .ok (.iload_n 1, 1) := by decide +kernel
theorem dX12_round_10 : decode cX12_round 10 = .ok (.ldc 91, 2) := by decide +kernel
theorem dX12_round_12 : decode cX12_round 12 = .ok (.iadd, 1) := by decide +kernel
theorem dX12_round_13 : decode cX12_round 13 = .ok (.goto 4, 3) := by decide +kernel
theorem dX12_round_16 : decode cX12_round 16 = .ok (.iload_n 1, 1) := by decide +kernel
theorem dX12_round_17 : decode cX12_round 17 = .ok (.ireturn, 1) := by decide +kernel
theorem dX12_wrapped_0 : decode cX12_wrapped 0 = .ok (.iload_n 0, 1) := by decide +kernel
theorem dX12_wrapped_1 : decode cX12_wrapped 1 = .ok (.invokestatic 92, 3) := by decide +kernel
theorem dX12_wrapped_4 : decode cX12_wrapped 4 = .ok (.istore_n 1, 1) := by decide +kernel
theorem dX12_wrapped_5 : decode cX12_wrapped 5 = .ok (.iload_n 1, 1) := by decide +kernel
theorem dX12_wrapped_6 : decode cX12_wrapped 6 = .ok (.sipush 18000, 3) := by decide +kernel
theorem dX12_wrapped_9 : decode cX12_wrapped 9 = .ok (.if_icmp .lt 10, 3) := by decide +kernel
theorem dX12_wrapped_12 : decode cX12_wrapped 12 = .ok (.iload_n 1, 1) := by decide +kernel
theorem dX12_wrapped_13 : decode cX12_wrapped 13 = .ok (.ldc 91, 2) := by decide +kernel
theorem dX12_wrapped_15 : decode cX12_wrapped 15 = .ok (.isub, 1) := by decide +kernel
theorem dX12_wrapped_16 : decode cX12_wrapped 16 = .ok (.goto 4, 3) := by decide +kernel
theorem dX12_wrapped_19 : decode cX12_wrapped 19 = .ok (.iload_n 1, 1) := by decide +kernel
theorem dX12_wrapped_20 : decode cX12_wrapped 20 = .ok (.ireturn, 1) := by decide +kernel
theorem dX12_size_0 : decode cX12_size 0 = .ok (.iload_n 0, 1) := by decide +kernel
theorem dX12_size_1 : decode cX12_size 1 = .ok (.ifCond .ge 8, 3) := by decide +kernel
theorem dX12_size_4 : decode cX12_size 4 = .ok (.iload_n 0, 1) := by decide +kernel
theorem dX12_size_5 : decode cX12_size 5 = .ok (.ineg, 1) := by decide +kernel
theorem dX12_size_6 : decode cX12_size 6 = .ok (.goto 4, 3) := by decide +kernel
theorem dX12_size_9 : decode cX12_size 9 = .ok (.iload_n 0, 1) := by decide +kernel
theorem dX12_size_10 : decode cX12_size 10 = .ok (.ireturn, 1) := by decide +kernel
theorem dX12_held_0 : decode cX12_held 0 = .ok (.iload_n 0, 1) := by decide +kernel
theorem dX12_held_1 : decode cX12_held 1 = .ok (.iload_n 1, 1) := by decide +kernel
theorem dX12_held_2 : decode cX12_held 2 = .ok (.ineg, 1) := by decide +kernel
theorem dX12_held_3 : decode cX12_held 3 = .ok (.if_icmp .ge 8, 3) := by decide +kernel
theorem dX12_held_6 : decode cX12_held 6 = .ok (.iload_n 1, 1) := by decide +kernel
theorem dX12_held_7 : decode cX12_held 7 = .ok (.ineg, 1) := by decide +kernel
theorem dX12_held_8 : decode cX12_held 8 = .ok (.goto 13, 3) := by decide +kernel
theorem dX12_held_11 : decode cX12_held 11 = .ok (.iload_n 0, 1) := by decide +kernel
theorem dX12_held_12 : decode cX12_held 12 = .ok (.iload_n 1, 1) := by decide +kernel
theorem dX12_held_13 : decode cX12_held 13 = .ok (.if_icmp .le 7, 3) := by decide +kernel
theorem dX12_held_16 : decode cX12_held 16 = .ok (.iload_n 1, 1) := by decide +kernel
theorem dX12_held_17 : decode cX12_held 17 = .ok (.goto 4, 3) := by decide +kernel
theorem dX12_held_20 : decode cX12_held 20 = .ok (.iload_n 0, 1) := by decide +kernel
theorem dX12_held_21 : decode cX12_held 21 = .ok (.ireturn, 1) := by decide +kernel
theorem dX12_holdOf_0 : decode cX12_holdOf 0 = .ok (.bipush 90, 2) := by decide +kernel
theorem dX12_holdOf_2 : decode cX12_holdOf 2 = .ok (.iload_n 0, 1) := by decide +kernel
theorem dX12_holdOf_3 : decode cX12_holdOf 3 = .ok (.invokestatic 96, 3) := by decide +kernel
theorem dX12_holdOf_6 : decode cX12_holdOf 6 = .ok (.isub, 1) := by decide +kernel
theorem dX12_holdOf_7 : decode cX12_holdOf 7 = .ok (.ireturn, 1) := by decide +kernel
theorem dX12_set_0 : decode cX12_set 0 = .ok (.iload_n 1, 1) := by decide +kernel
theorem dX12_set_1 : decode cX12_set 1 = .ok (.i2l, 1) := by decide +kernel
theorem dX12_set_2 : decode cX12_set 2 = .ok (.lconst 0, 1) := by decide +kernel
theorem dX12_set_3 : decode cX12_set 3 = .ok (.ldc2_w 99, 3) := by decide +kernel
theorem dX12_set_6 : decode cX12_set 6 = .ok (.invokestatic 87, 3) := by decide +kernel
theorem dX12_set_9 : decode cX12_set 9 = .ok (.ifCond .eq 68, 3) := by decide +kernel
theorem dX12_set_12 : decode cX12_set 12 = .ok (.iload_n 2, 1) := by decide +kernel
theorem dX12_set_13 : decode cX12_set 13 = .ok (.i2l, 1) := by decide +kernel
theorem dX12_set_14 : decode cX12_set 14 = .ok (.iload_n 1, 1) := by decide +kernel
theorem dX12_set_15 : decode cX12_set 15 = .ok (.ifCond .ne 9, 3) := by decide +kernel
theorem dX12_set_18 : decode cX12_set 18 = .ok (.ldc2_w 101, 3) := by decide +kernel
theorem dX12_set_21 : decode cX12_set 21 = .ok (.goto 15, 3) := by decide +kernel
theorem dX12_set_24 : decode cX12_set 24 = .ok (.iload_n 1, 1) := by decide +kernel
theorem dX12_set_25 : decode cX12_set 25 = .ok (.iconst 3, 1) := by decide +kernel
theorem dX12_set_26 : decode cX12_set 26 = .ok (.if_icmp .ne 9, 3) := by decide +kernel
theorem dX12_set_29 : decode cX12_set 29 = .ok (.ldc2_w 103, 3) := by decide +kernel
theorem dX12_set_32 : decode cX12_set 32 = .ok (.goto 4, 3) := by decide +kernel
theorem dX12_set_35 : decode cX12_set 35 = .ok (.lconst 0, 1) := by decide +kernel
theorem dX12_set_36 : decode cX12_set 36 = .ok (.iload_n 1, 1) := by decide +kernel
theorem dX12_set_37 : decode cX12_set 37 = .ok (.ifCond .ne 9, 3) := by decide +kernel
theorem dX12_set_40 : decode cX12_set 40 = .ok (.ldc2_w 105, 3) := by decide +kernel
theorem dX12_set_43 : decode cX12_set 43 = .ok (.goto 28, 3) := by decide +kernel
theorem dX12_set_46 : decode cX12_set 46 = .ok (.iload_n 1, 1) := by decide +kernel
theorem dX12_set_47 : decode cX12_set 47 = .ok (.iconst 1, 1) := by decide +kernel
theorem dX12_set_48 : decode cX12_set 48 = .ok (.if_icmp .ne 9, 3) := by decide +kernel
theorem dX12_set_51 : decode cX12_set 51 = .ok (.ldc2_w 107, 3) := by decide +kernel
theorem dX12_set_54 : decode cX12_set 54 = .ok (.goto 17, 3) := by decide +kernel
theorem dX12_set_57 : decode cX12_set 57 = .ok (.iload_n 1, 1) := by decide +kernel
theorem dX12_set_58 : decode cX12_set 58 = .ok (.iconst 2, 1) := by decide +kernel
theorem dX12_set_59 : decode cX12_set 59 = .ok (.if_icmp .ne 9, 3) := by decide +kernel
theorem dX12_set_62 : decode cX12_set 62 = .ok (.ldc2_w 109, 3) := by decide +kernel
theorem dX12_set_65 : decode cX12_set 65 = .ok (.goto 6, 3) := by decide +kernel
theorem dX12_set_68 : decode cX12_set 68 = .ok (.ldc2_w 111, 3) := by decide +kernel
theorem dX12_set_71 : decode cX12_set 71 = .ok (.invokestatic 87, 3) := by decide +kernel
theorem dX12_set_74 : decode cX12_set 74 = .ok (.ifCond .ne 6, 3) := by decide +kernel
theorem dX12_set_77 : decode cX12_set 77 = .ok (.bipush (-3), 2) := by decide +kernel
theorem dX12_set_79 : decode cX12_set 79 = .ok (.ireturn, 1) := by decide +kernel
theorem dX12_set_80 : decode cX12_set 80 = .ok (.aload_n 0, 1) := by decide +kernel
theorem dX12_set_81 : decode cX12_set 81 = .ok (.getfield 7, 3) := by decide +kernel
theorem dX12_set_84 : decode cX12_set 84 = .ok (.iload_n 1, 1) := by decide +kernel
theorem dX12_set_85 : decode cX12_set 85 = .ok (.iaload, 1) := by decide +kernel
theorem dX12_set_86 : decode cX12_set 86 = .ok (.istore_n 3, 1) := by decide +kernel
theorem dX12_set_87 : decode cX12_set 87 = .ok (.aload_n 0, 1) := by decide +kernel
theorem dX12_set_88 : decode cX12_set 88 = .ok (.getfield 7, 3) := by decide +kernel
theorem dX12_set_91 : decode cX12_set 91 = .ok (.iload_n 1, 1) := by decide +kernel
theorem dX12_set_92 : decode cX12_set 92 = .ok (.iload_n 2, 1) := by decide +kernel
theorem dX12_set_93 : decode cX12_set 93 = .ok (.iastore, 1) := by decide +kernel
theorem dX12_set_94 : decode cX12_set 94 = .ok (.iload_n 3, 1) := by decide +kernel
theorem dX12_set_95 : decode cX12_set 95 = .ok (.bipush 100, 2) := by decide +kernel
theorem dX12_set_97 : decode cX12_set 97 = .ok (.iadd, 1) := by decide +kernel
theorem dX12_set_98 : decode cX12_set 98 = .ok (.ireturn, 1) := by decide +kernel
theorem dX12_isHeading_0 : decode cX12_isHeading 0 = .ok (.iload_n 0, 1) := by decide +kernel
theorem dX12_isHeading_1 : decode cX12_isHeading 1 = .ok (.i2l, 1) := by decide +kernel
theorem dX12_isHeading_2 : decode cX12_isHeading 2 = .ok (.lconst 0, 1) := by decide +kernel
theorem dX12_isHeading_3 : decode cX12_isHeading 3 = .ok (.ldc2_w 113, 3) := by decide +kernel
theorem dX12_isHeading_6 : decode cX12_isHeading 6 = .ok (.invokestatic 87, 3) := by decide +kernel
theorem dX12_isHeading_9 : decode cX12_isHeading 9 = .ok (.ireturn, 1) := by decide +kernel
theorem dX12_head_0 : decode cX12_head 0 = .ok (.iload_n 1, 1) := by decide +kernel
theorem dX12_head_1 : decode cX12_head 1 = .ok (.invokestatic 115, 3) := by decide +kernel
theorem dX12_head_4 : decode cX12_head 4 = .ok (.ifCond .ne 6, 3) := by decide +kernel
theorem dX12_head_7 : decode cX12_head 7 = .ok (.bipush (-3), 2) := by decide +kernel
theorem dX12_head_9 : decode cX12_head 9 = .ok (.ireturn, 1) := by decide +kernel
theorem dX12_head_10 : decode cX12_head 10 = .ok (.aload_n 0, 1) := by decide +kernel
theorem dX12_head_11 : decode cX12_head 11 = .ok (.getfield 13, 3) := by decide +kernel
theorem dX12_head_14 : decode cX12_head 14 = .ok (.iconst 0, 1) := by decide +kernel
theorem dX12_head_15 : decode cX12_head 15 = .ok (.iaload, 1) := by decide +kernel
theorem dX12_head_16 : decode cX12_head 16 = .ok (.istore_n 2, 1) := by decide +kernel
theorem dX12_head_17 : decode cX12_head 17 = .ok (.aload_n 0, 1) := by decide +kernel
theorem dX12_head_18 : decode cX12_head 18 = .ok (.getfield 13, 3) := by decide +kernel
theorem dX12_head_21 : decode cX12_head 21 = .ok (.iconst 0, 1) := by decide +kernel
theorem dX12_head_22 : decode cX12_head 22 = .ok (.iload_n 1, 1) := by decide +kernel
theorem dX12_head_23 : decode cX12_head 23 = .ok (.iastore, 1) := by decide +kernel
theorem dX12_head_24 : decode cX12_head 24 = .ok (.iload_n 2, 1) := by decide +kernel
theorem dX12_head_25 : decode cX12_head 25 = .ok (.ireturn, 1) := by decide +kernel
theorem dX12_sea_0 : decode cX12_sea 0 = .ok (.iload_n 1, 1) := by decide +kernel
theorem dX12_sea_1 : decode cX12_sea 1 = .ok (.i2l, 1) := by decide +kernel
theorem dX12_sea_2 : decode cX12_sea 2 = .ok (.ldc2_w 119, 3) := by decide +kernel
theorem dX12_sea_5 : decode cX12_sea 5 = .ok (.ldc2_w 121, 3) := by decide +kernel
theorem dX12_sea_8 : decode cX12_sea 8 = .ok (.invokestatic 87, 3) := by decide +kernel
theorem dX12_sea_11 : decode cX12_sea 11 = .ok (.ifCond .ne 6, 3) := by decide +kernel
theorem dX12_sea_14 : decode cX12_sea 14 = .ok (.bipush (-3), 2) := by decide +kernel
theorem dX12_sea_16 : decode cX12_sea 16 = .ok (.ireturn, 1) := by decide +kernel
theorem dX12_sea_17 : decode cX12_sea 17 = .ok (.aload_n 0, 1) := by decide +kernel
theorem dX12_sea_18 : decode cX12_sea 18 = .ok (.getfield 123, 3) := by decide +kernel
theorem dX12_sea_21 : decode cX12_sea 21 = .ok (.bipush 24, 2) := by decide +kernel
theorem dX12_sea_23 : decode cX12_sea 23 = .ok (.if_icmp .ne 6, 3) := by decide +kernel
theorem dX12_sea_26 : decode cX12_sea 26 = .ok (.bipush (-5), 2) := by decide +kernel
theorem dX12_sea_28 : decode cX12_sea 28 = .ok (.ireturn, 1) := by decide +kernel
theorem dX12_sea_29 : decode cX12_sea 29 = .ok (.aload_n 0, 1) := by decide +kernel
theorem dX12_sea_30 : decode cX12_sea 30 = .ok (.getfield 22, 3) := by decide +kernel
theorem dX12_sea_33 : decode cX12_sea 33 = .ok (.aload_n 0, 1) := by decide +kernel
theorem dX12_sea_34 : decode cX12_sea 34 = .ok (.getfield 123, 3) := by decide +kernel
theorem dX12_sea_37 : decode cX12_sea 37 = .ok (.iload_n 1, 1) := by decide +kernel
theorem dX12_sea_38 : decode cX12_sea 38 = .ok (.iastore, 1) := by decide +kernel
theorem dX12_sea_39 : decode cX12_sea 39 = .ok (.aload_n 0, 1) := by decide +kernel
theorem dX12_sea_40 : decode cX12_sea 40 = .ok (.dup, 1) := by decide +kernel
theorem dX12_sea_41 : decode cX12_sea 41 = .ok (.getfield 123, 3) := by decide +kernel
theorem dX12_sea_44 : decode cX12_sea 44 = .ok (.iconst 1, 1) := by decide +kernel
theorem dX12_sea_45 : decode cX12_sea 45 = .ok (.iadd, 1) := by decide +kernel
theorem dX12_sea_46 : decode cX12_sea 46 = .ok (.putfield 123, 3) := by decide +kernel
theorem dX12_sea_49 : decode cX12_sea 49 = .ok (.aload_n 0, 1) := by decide +kernel
theorem dX12_sea_50 : decode cX12_sea 50 = .ok (.getfield 123, 3) := by decide +kernel
theorem dX12_sea_53 : decode cX12_sea 53 = .ok (.ireturn, 1) := by decide +kernel
theorem dX12_calm_0 : decode cX12_calm 0 = .ok (.aload_n 0, 1) := by decide +kernel
theorem dX12_calm_1 : decode cX12_calm 1 = .ok (.getfield 123, 3) := by decide +kernel
theorem dX12_calm_4 : decode cX12_calm 4 = .ok (.istore_n 1, 1) := by decide +kernel
theorem dX12_calm_5 : decode cX12_calm 5 = .ok (.aload_n 0, 1) := by decide +kernel
theorem dX12_calm_6 : decode cX12_calm 6 = .ok (.iconst 0, 1) := by decide +kernel
theorem dX12_calm_7 : decode cX12_calm 7 = .ok (.putfield 123, 3) := by decide +kernel
theorem dX12_calm_10 : decode cX12_calm 10 = .ok (.iload_n 1, 1) := by decide +kernel
theorem dX12_calm_11 : decode cX12_calm 11 = .ok (.ireturn, 1) := by decide +kernel
theorem dX12_kind_0 : decode cX12_kind 0 = .ok (.iload_n 1, 1) := by decide +kernel
theorem dX12_kind_1 : decode cX12_kind 1 = .ok (.invokestatic 127, 3) := by decide +kernel
theorem dX12_kind_4 : decode cX12_kind 4 = .ok (.ifCond .ne 6, 3) := by decide +kernel
theorem dX12_kind_7 : decode cX12_kind 7 = .ok (.bipush (-2), 2) := by decide +kernel
theorem dX12_kind_9 : decode cX12_kind 9 = .ok (.ireturn, 1) := by decide +kernel
theorem dX12_kind_10 : decode cX12_kind 10 = .ok (.iload_n 2, 1) := by decide +kernel
theorem dX12_kind_11 : decode cX12_kind 11 = .ok (.i2l, 1) := by decide +kernel
theorem dX12_kind_12 : decode cX12_kind 12 = .ok (.lconst 0, 1) := by decide +kernel
theorem dX12_kind_13 : decode cX12_kind 13 = .ok (.ldc2_w 130, 3) := by decide +kernel
theorem dX12_kind_16 : decode cX12_kind 16 = .ok (.invokestatic 87, 3) := by decide +kernel
theorem dX12_kind_19 : decode cX12_kind 19 = .ok (.ifCond .ne 6, 3) := by decide +kernel
theorem dX12_kind_22 : decode cX12_kind 22 = .ok (.bipush (-3), 2) := by decide +kernel
theorem dX12_kind_24 : decode cX12_kind 24 = .ok (.ireturn, 1) := by decide +kernel
theorem dX12_kind_25 : decode cX12_kind 25 = .ok (.aload_n 0, 1) := by decide +kernel
theorem dX12_kind_26 : decode cX12_kind 26 = .ok (.getfield 25, 3) := by decide +kernel
theorem dX12_kind_29 : decode cX12_kind 29 = .ok (.iload_n 1, 1) := by decide +kernel
theorem dX12_kind_30 : decode cX12_kind 30 = .ok (.iaload, 1) := by decide +kernel
theorem dX12_kind_31 : decode cX12_kind 31 = .ok (.istore_n 3, 1) := by decide +kernel
theorem dX12_kind_32 : decode cX12_kind 32 = .ok (.aload_n 0, 1) := by decide +kernel
theorem dX12_kind_33 : decode cX12_kind 33 = .ok (.getfield 25, 3) := by decide +kernel
theorem dX12_kind_36 : decode cX12_kind 36 = .ok (.iload_n 1, 1) := by decide +kernel
theorem dX12_kind_37 : decode cX12_kind 37 = .ok (.iload_n 2, 1) := by decide +kernel
theorem dX12_kind_38 : decode cX12_kind 38 = .ok (.iastore, 1) := by decide +kernel
theorem dX12_kind_39 : decode cX12_kind 39 = .ok (.aload_n 0, 1) := by decide +kernel
theorem dX12_kind_40 : decode cX12_kind 40 = .ok (.getfield 37, 3) := by decide +kernel
theorem dX12_kind_43 : decode cX12_kind 43 = .ok (.iload_n 1, 1) := by decide +kernel
theorem dX12_kind_44 : decode cX12_kind 44 = .ok (.iconst 0, 1) := by decide +kernel
theorem dX12_kind_45 : decode cX12_kind 45 = .ok (.iastore, 1) := by decide +kernel
theorem dX12_kind_46 : decode cX12_kind 46 = .ok (.aload_n 0, 1) := by decide +kernel
theorem dX12_kind_47 : decode cX12_kind 47 = .ok (.getfield 40, 3) := by decide +kernel
theorem dX12_kind_50 : decode cX12_kind 50 = .ok (.iload_n 1, 1) := by decide +kernel
theorem dX12_kind_51 : decode cX12_kind 51 = .ok (.iconst 0, 1) := by decide +kernel
theorem dX12_kind_52 : decode cX12_kind 52 = .ok (.iastore, 1) := by decide +kernel
theorem dX12_kind_53 : decode cX12_kind 53 = .ok (.iload_n 3, 1) := by decide +kernel
theorem dX12_kind_54 : decode cX12_kind 54 = .ok (.ireturn, 1) := by decide +kernel
theorem dX12_tune_0 : decode cX12_tune 0 = .ok (.iload_n 1, 1) := by decide +kernel
theorem dX12_tune_1 : decode cX12_tune 1 = .ok (.invokestatic 127, 3) := by decide +kernel
theorem dX12_tune_4 : decode cX12_tune 4 = .ok (.ifCond .ne 6, 3) := by decide +kernel
theorem dX12_tune_7 : decode cX12_tune 7 = .ok (.bipush (-2), 2) := by decide +kernel
theorem dX12_tune_9 : decode cX12_tune 9 = .ok (.ireturn, 1) := by decide +kernel
theorem dX12_tune_10 : decode cX12_tune 10 = .ok (.iload_n 2, 1) := by decide +kernel
theorem dX12_tune_11 : decode cX12_tune 11 = .ok (.i2l, 1) := by decide +kernel
theorem dX12_tune_12 : decode cX12_tune 12 = .ok (.lconst 0, 1) := by decide +kernel
theorem dX12_tune_13 : decode cX12_tune 13 = .ok (.ldc2_w 85, 3) := by decide +kernel
theorem dX12_tune_16 : decode cX12_tune 16 = .ok (.invokestatic 87, 3) := by decide +kernel
theorem dX12_tune_19 : decode cX12_tune 19 = .ok (.ifCond .eq 15, 3) := by decide +kernel
theorem dX12_tune_22 : decode cX12_tune 22 = .ok (.iload_n 3, 1) := by decide +kernel
theorem dX12_tune_23 : decode cX12_tune 23 = .ok (.i2l, 1) := by decide +kernel
theorem dX12_tune_24 : decode cX12_tune 24 = .ok (.lconst 0, 1) := by decide +kernel
theorem dX12_tune_25 : decode cX12_tune 25 = .ok (.ldc2_w 109, 3) := by decide +kernel
theorem dX12_tune_28 : decode cX12_tune 28 = .ok (.invokestatic 87, 3) := by decide +kernel
theorem dX12_tune_31 : decode cX12_tune 31 = .ok (.ifCond .ne 6, 3) := by decide +kernel
theorem dX12_tune_34 : decode cX12_tune 34 = .ok (.bipush (-3), 2) := by decide +kernel
theorem dX12_tune_36 : decode cX12_tune 36 = .ok (.ireturn, 1) := by decide +kernel
theorem dX12_tune_37 : decode cX12_tune 37 = .ok (.iload_n 2, 1) := by decide +kernel
theorem dX12_tune_38 : decode cX12_tune 38 = .ok (.ifCond .ne 12, 3) := by decide +kernel
theorem dX12_tune_41 : decode cX12_tune 41 = .ok (.aload_n 0, 1) := by decide +kernel
theorem dX12_tune_42 : decode cX12_tune 42 = .ok (.getfield 28, 3) := by decide +kernel
theorem dX12_tune_45 : decode cX12_tune 45 = .ok (.iload_n 1, 1) := by decide +kernel
theorem dX12_tune_46 : decode cX12_tune 46 = .ok (.iaload, 1) := by decide +kernel
theorem dX12_tune_47 : decode cX12_tune 47 = .ok (.goto 23, 3) := by decide +kernel
theorem dX12_tune_50 : decode cX12_tune 50 = .ok (.iload_n 2, 1) := by decide +kernel
theorem dX12_tune_51 : decode cX12_tune 51 = .ok (.iconst 1, 1) := by decide +kernel
theorem dX12_tune_52 : decode cX12_tune 52 = .ok (.if_icmp .ne 12, 3) := by decide +kernel
theorem dX12_tune_55 : decode cX12_tune 55 = .ok (.aload_n 0, 1) := by decide +kernel
theorem dX12_tune_56 : decode cX12_tune 56 = .ok (.getfield 31, 3) := by decide +kernel
theorem dX12_tune_59 : decode cX12_tune 59 = .ok (.iload_n 1, 1) := by decide +kernel
theorem dX12_tune_60 : decode cX12_tune 60 = .ok (.iaload, 1) := by decide +kernel
theorem dX12_tune_61 : decode cX12_tune 61 = .ok (.goto 9, 3) := by decide +kernel
theorem dX12_tune_64 : decode cX12_tune 64 = .ok (.aload_n 0, 1) := by decide +kernel
theorem dX12_tune_65 : decode cX12_tune 65 = .ok (.getfield 34, 3) := by decide +kernel
theorem dX12_tune_68 : decode cX12_tune 68 = .ok (.iload_n 1, 1) := by decide +kernel
theorem dX12_tune_69 : decode cX12_tune 69 = .ok (.iaload, 1) := by decide +kernel
theorem dX12_tune_70 : decode cX12_tune 70 = .ok (.istore 4, 2) := by decide +kernel
theorem dX12_tune_72 : decode cX12_tune 72 = .ok (.aload_n 0, 1) := by decide +kernel
theorem dX12_tune_73 : decode cX12_tune 73 = .ok (.getfield 28, 3) := by decide +kernel
theorem dX12_tune_76 : decode cX12_tune 76 = .ok (.iload_n 1, 1) := by decide +kernel
theorem dX12_tune_77 : decode cX12_tune 77 = .ok (.iload_n 2, 1) := by decide +kernel
theorem dX12_tune_78 : decode cX12_tune 78 = .ok (.ifCond .ne 7, 3) := by decide +kernel
theorem dX12_tune_81 : decode cX12_tune 81 = .ok (.iload_n 3, 1) := by decide +kernel
theorem dX12_tune_82 : decode cX12_tune 82 = .ok (.goto 9, 3) := by decide +kernel
theorem dX12_tune_85 : decode cX12_tune 85 = .ok (.aload_n 0, 1) := by decide +kernel
theorem dX12_tune_86 : decode cX12_tune 86 = .ok (.getfield 28, 3) := by decide +kernel
theorem dX12_tune_89 : decode cX12_tune 89 = .ok (.iload_n 1, 1) := by decide +kernel
theorem dX12_tune_90 : decode cX12_tune 90 = .ok (.iaload, 1) := by decide +kernel
theorem dX12_tune_91 : decode cX12_tune 91 = .ok (.iastore, 1) := by decide +kernel
theorem dX12_tune_92 : decode cX12_tune 92 = .ok (.aload_n 0, 1) := by decide +kernel
theorem dX12_tune_93 : decode cX12_tune 93 = .ok (.getfield 31, 3) := by decide +kernel
theorem dX12_tune_96 : decode cX12_tune 96 = .ok (.iload_n 1, 1) := by decide +kernel
theorem dX12_tune_97 : decode cX12_tune 97 = .ok (.iload_n 2, 1) := by decide +kernel
theorem dX12_tune_98 : decode cX12_tune 98 = .ok (.iconst 1, 1) := by decide +kernel
theorem dX12_tune_99 : decode cX12_tune 99 = .ok (.if_icmp .ne 7, 3) := by decide +kernel
theorem dX12_tune_102 : decode cX12_tune 102 = .ok (.iload_n 3, 1) := by decide +kernel
theorem dX12_tune_103 : decode cX12_tune 103 = .ok (.goto 9, 3) := by decide +kernel
theorem dX12_tune_106 : decode cX12_tune 106 = .ok (.aload_n 0, 1) := by decide +kernel
theorem dX12_tune_107 : decode cX12_tune 107 = .ok (.getfield 31, 3) := by decide +kernel
theorem dX12_tune_110 : decode cX12_tune 110 = .ok (.iload_n 1, 1) := by decide +kernel
theorem dX12_tune_111 : decode cX12_tune 111 = .ok (.iaload, 1) := by decide +kernel
theorem dX12_tune_112 : decode cX12_tune 112 = .ok (.iastore, 1) := by decide +kernel
theorem dX12_tune_113 : decode cX12_tune 113 = .ok (.aload_n 0, 1) := by decide +kernel
theorem dX12_tune_114 : decode cX12_tune 114 = .ok (.getfield 34, 3) := by decide +kernel
theorem dX12_tune_117 : decode cX12_tune 117 = .ok (.iload_n 1, 1) := by decide +kernel
theorem dX12_tune_118 : decode cX12_tune 118 = .ok (.iload_n 2, 1) := by decide +kernel
theorem dX12_tune_119 : decode cX12_tune 119 = .ok (.iconst 2, 1) := by decide +kernel
theorem dX12_tune_120 : decode cX12_tune 120 = .ok (.if_icmp .ne 7, 3) := by decide +kernel
theorem dX12_tune_123 : decode cX12_tune 123 = .ok (.iload_n 3, 1) := by decide +kernel
theorem dX12_tune_124 : decode cX12_tune 124 = .ok (.goto 9, 3) := by decide +kernel
theorem dX12_tune_127 : decode cX12_tune 127 = .ok (.aload_n 0, 1) := by decide +kernel
theorem dX12_tune_128 : decode cX12_tune 128 = .ok (.getfield 34, 3) := by decide +kernel
theorem dX12_tune_131 : decode cX12_tune 131 = .ok (.iload_n 1, 1) := by decide +kernel
theorem dX12_tune_132 : decode cX12_tune 132 = .ok (.iaload, 1) := by decide +kernel
theorem dX12_tune_133 : decode cX12_tune 133 = .ok (.iastore, 1) := by decide +kernel
theorem dX12_tune_134 : decode cX12_tune 134 = .ok (.iload 4, 2) := by decide +kernel
theorem dX12_tune_136 : decode cX12_tune 136 = .ok (.ireturn, 1) := by decide +kernel
theorem dX12_isOff_0 : decode cX12_isOff 0 = .ok (.iload_n 0, 1) := by decide +kernel
theorem dX12_isOff_1 : decode cX12_isOff 1 = .ok (.i2l, 1) := by decide +kernel
theorem dX12_isOff_2 : decode cX12_isOff 2 = .ok (.ldc2_w 132, 3) := by decide +kernel
theorem dX12_isOff_5 : decode cX12_isOff 5 = .ok (.ldc2_w 134, 3) := by decide +kernel
theorem dX12_isOff_8 : decode cX12_isOff 8 = .ok (.invokestatic 87, 3) := by decide +kernel
theorem dX12_isOff_11 : decode cX12_isOff 11 = .ok (.ireturn, 1) := by decide +kernel
theorem dX12_off_0 : decode cX12_off 0 = .ok (.iload_n 1, 1) := by decide +kernel
theorem dX12_off_1 : decode cX12_off 1 = .ok (.invokestatic 127, 3) := by decide +kernel
theorem dX12_off_4 : decode cX12_off 4 = .ok (.ifCond .ne 6, 3) := by decide +kernel
theorem dX12_off_7 : decode cX12_off 7 = .ok (.bipush (-2), 2) := by decide +kernel
theorem dX12_off_9 : decode cX12_off 9 = .ok (.ireturn, 1) := by decide +kernel
theorem dX12_off_10 : decode cX12_off 10 = .ok (.iload_n 2, 1) := by decide +kernel
theorem dX12_off_11 : decode cX12_off 11 = .ok (.invokestatic 136, 3) := by decide +kernel
theorem dX12_off_14 : decode cX12_off 14 = .ok (.ifCond .ne 6, 3) := by decide +kernel
theorem dX12_off_17 : decode cX12_off 17 = .ok (.bipush (-3), 2) := by decide +kernel
theorem dX12_off_19 : decode cX12_off 19 = .ok (.ireturn, 1) := by decide +kernel
theorem dX12_off_20 : decode cX12_off 20 = .ok (.aload_n 0, 1) := by decide +kernel
theorem dX12_off_21 : decode cX12_off 21 = .ok (.getfield 37, 3) := by decide +kernel
theorem dX12_off_24 : decode cX12_off 24 = .ok (.iload_n 1, 1) := by decide +kernel
theorem dX12_off_25 : decode cX12_off 25 = .ok (.iload_n 2, 1) := by decide +kernel
theorem dX12_off_26 : decode cX12_off 26 = .ok (.iastore, 1) := by decide +kernel
theorem dX12_off_27 : decode cX12_off 27 = .ok (.aload_n 0, 1) := by decide +kernel
theorem dX12_off_28 : decode cX12_off 28 = .ok (.getfield 40, 3) := by decide +kernel
theorem dX12_off_31 : decode cX12_off 31 = .ok (.iload_n 1, 1) := by decide +kernel
theorem dX12_off_32 : decode cX12_off 32 = .ok (.iconst 0, 1) := by decide +kernel
theorem dX12_off_33 : decode cX12_off 33 = .ok (.iastore, 1) := by decide +kernel
theorem dX12_off_34 : decode cX12_off 34 = .ok (.iconst 1, 1) := by decide +kernel
theorem dX12_off_35 : decode cX12_off 35 = .ok (.ireturn, 1) := by decide +kernel
theorem dX12_isSpeed_0 : decode cX12_isSpeed 0 = .ok (.iload_n 0, 1) := by decide +kernel
theorem dX12_isSpeed_1 : decode cX12_isSpeed 1 = .ok (.i2l, 1) := by decide +kernel
theorem dX12_isSpeed_2 : decode cX12_isSpeed 2 = .ok (.lconst 0, 1) := by decide +kernel
theorem dX12_isSpeed_3 : decode cX12_isSpeed 3 = .ok (.ldc2_w 107, 3) := by decide +kernel
theorem dX12_isSpeed_6 : decode cX12_isSpeed 6 = .ok (.invokestatic 87, 3) := by decide +kernel
theorem dX12_isSpeed_9 : decode cX12_isSpeed 9 = .ok (.ireturn, 1) := by decide +kernel
theorem dX12_isPlace_0 : decode cX12_isPlace 0 = .ok (.iload_n 0, 1) := by decide +kernel
theorem dX12_isPlace_1 : decode cX12_isPlace 1 = .ok (.i2l, 1) := by decide +kernel
theorem dX12_isPlace_2 : decode cX12_isPlace 2 = .ok (.ldc2_w 101, 3) := by decide +kernel
theorem dX12_isPlace_5 : decode cX12_isPlace 5 = .ok (.ldc2_w 105, 3) := by decide +kernel
theorem dX12_isPlace_8 : decode cX12_isPlace 8 = .ok (.invokestatic 87, 3) := by decide +kernel
theorem dX12_isPlace_11 : decode cX12_isPlace 11 = .ok (.ireturn, 1) := by decide +kernel
theorem dX12_told_0 : decode cX12_told 0 = .ok (.iload_n 1, 1) := by decide +kernel
theorem dX12_told_1 : decode cX12_told 1 = .ok (.invokestatic 127, 3) := by decide +kernel
theorem dX12_told_4 : decode cX12_told 4 = .ok (.ifCond .ne 6, 3) := by decide +kernel
theorem dX12_told_7 : decode cX12_told 7 = .ok (.bipush (-2), 2) := by decide +kernel
theorem dX12_told_9 : decode cX12_told 9 = .ok (.ireturn, 1) := by decide +kernel
theorem dX12_told_10 : decode cX12_told 10 = .ok (.iload_n 2, 1) := by decide +kernel
theorem dX12_told_11 : decode cX12_told 11 = .ok (.invokestatic 139, 3) := by decide +kernel
theorem dX12_told_14 : decode cX12_told 14 = .ok (.ifCond .eq 10, 3) := by decide +kernel
theorem dX12_told_17 : decode cX12_told 17 = .ok (.iload_n 3, 1) := by decide +kernel
theorem dX12_told_18 : decode cX12_told 18 = .ok (.invokestatic 142, 3) := by decide +kernel
theorem dX12_told_21 : decode cX12_told 21 = .ok (.ifCond .ne 6, 3) := by decide +kernel
theorem dX12_told_24 : decode cX12_told 24 = .ok (.bipush (-3), 2) := by decide +kernel
theorem dX12_told_26 : decode cX12_told 26 = .ok (.ireturn, 1) := by decide +kernel
theorem dX12_told_27 : decode cX12_told 27 = .ok (.aload_n 0, 1) := by decide +kernel
theorem dX12_told_28 : decode cX12_told 28 = .ok (.getfield 43, 3) := by decide +kernel
theorem dX12_told_31 : decode cX12_told 31 = .ok (.iload_n 1, 1) := by decide +kernel
theorem dX12_told_32 : decode cX12_told 32 = .ok (.iload_n 2, 1) := by decide +kernel
theorem dX12_told_33 : decode cX12_told 33 = .ok (.iastore, 1) := by decide +kernel
theorem dX12_told_34 : decode cX12_told 34 = .ok (.aload_n 0, 1) := by decide +kernel
theorem dX12_told_35 : decode cX12_told 35 = .ok (.getfield 46, 3) := by decide +kernel
theorem dX12_told_38 : decode cX12_told 38 = .ok (.iload_n 1, 1) := by decide +kernel
theorem dX12_told_39 : decode cX12_told 39 = .ok (.iload_n 3, 1) := by decide +kernel
theorem dX12_told_40 : decode cX12_told 40 = .ok (.iastore, 1) := by decide +kernel
theorem dX12_told_41 : decode cX12_told 41 = .ok (.iconst 1, 1) := by decide +kernel
theorem dX12_told_42 : decode cX12_told 42 = .ok (.ireturn, 1) := by decide +kernel
theorem dX12_iron_0 : decode cX12_iron 0 = .ok (.iload_n 1, 1) := by decide +kernel
theorem dX12_iron_1 : decode cX12_iron 1 = .ok (.i2l, 1) := by decide +kernel
theorem dX12_iron_2 : decode cX12_iron 2 = .ok (.lconst 0, 1) := by decide +kernel
theorem dX12_iron_3 : decode cX12_iron 3 = .ok (.ldc2_w 145, 3) := by decide +kernel
theorem dX12_iron_6 : decode cX12_iron 6 = .ok (.invokestatic 87, 3) := by decide +kernel
theorem dX12_iron_9 : decode cX12_iron 9 = .ok (.ifCond .eq 17, 3) := by decide +kernel
theorem dX12_iron_12 : decode cX12_iron 12 = .ok (.iload_n 2, 1) := by decide +kernel
theorem dX12_iron_13 : decode cX12_iron 13 = .ok (.i2l, 1) := by decide +kernel
theorem dX12_iron_14 : decode cX12_iron 14 = .ok (.ldc2_w 147, 3) := by decide +kernel
theorem dX12_iron_17 : decode cX12_iron 17 = .ok (.ldc2_w 149, 3) := by decide +kernel
theorem dX12_iron_20 : decode cX12_iron 20 = .ok (.invokestatic 87, 3) := by decide +kernel
theorem dX12_iron_23 : decode cX12_iron 23 = .ok (.ifCond .ne 6, 3) := by decide +kernel
theorem dX12_iron_26 : decode cX12_iron 26 = .ok (.bipush (-3), 2) := by decide +kernel
theorem dX12_iron_28 : decode cX12_iron 28 = .ok (.ireturn, 1) := by decide +kernel
theorem dX12_iron_29 : decode cX12_iron 29 = .ok (.aload_n 0, 1) := by decide +kernel
theorem dX12_iron_30 : decode cX12_iron 30 = .ok (.getfield 49, 3) := by decide +kernel
theorem dX12_iron_33 : decode cX12_iron 33 = .ok (.iload_n 1, 1) := by decide +kernel
theorem dX12_iron_34 : decode cX12_iron 34 = .ok (.iload_n 2, 1) := by decide +kernel
theorem dX12_iron_35 : decode cX12_iron 35 = .ok (.iastore, 1) := by decide +kernel
theorem dX12_iron_36 : decode cX12_iron 36 = .ok (.iconst 1, 1) := by decide +kernel
theorem dX12_iron_37 : decode cX12_iron 37 = .ok (.ireturn, 1) := by decide +kernel
theorem dX12_leanOf_0 : decode cX12_leanOf 0 = .ok (.iload_n 2, 1) := by decide +kernel
theorem dX12_leanOf_1 : decode cX12_leanOf 1 = .ok (.sipush 18000, 3) := by decide +kernel
theorem dX12_leanOf_4 : decode cX12_leanOf 4 = .ok (.if_icmp .le 10, 3) := by decide +kernel
theorem dX12_leanOf_7 : decode cX12_leanOf 7 = .ok (.ldc 91, 2) := by decide +kernel
theorem dX12_leanOf_9 : decode cX12_leanOf 9 = .ok (.iload_n 2, 1) := by decide +kernel
theorem dX12_leanOf_10 : decode cX12_leanOf 10 = .ok (.isub, 1) := by decide +kernel
theorem dX12_leanOf_11 : decode cX12_leanOf 11 = .ok (.goto 4, 3) := by decide +kernel
theorem dX12_leanOf_14 : decode cX12_leanOf 14 = .ok (.iload_n 2, 1) := by decide +kernel
theorem dX12_leanOf_15 : decode cX12_leanOf 15 = .ok (.istore_n 3, 1) := by decide +kernel
theorem dX12_leanOf_16 : decode cX12_leanOf 16 = .ok (.iload_n 0, 1) := by decide +kernel
theorem dX12_leanOf_17 : decode cX12_leanOf 17 = .ok (.bipush 90, 2) := by decide +kernel
theorem dX12_leanOf_19 : decode cX12_leanOf 19 = .ok (.iload_n 3, 1) := by decide +kernel
theorem dX12_leanOf_20 : decode cX12_leanOf 20 = .ok (.bipush 100, 2) := by decide +kernel
theorem dX12_leanOf_22 : decode cX12_leanOf 22 = .ok (.idiv, 1) := by decide +kernel
theorem dX12_leanOf_23 : decode cX12_leanOf 23 = .ok (.isub, 1) := by decide +kernel
theorem dX12_leanOf_24 : decode cX12_leanOf 24 = .ok (.imul, 1) := by decide +kernel
theorem dX12_leanOf_25 : decode cX12_leanOf 25 = .ok (.bipush 20, 2) := by decide +kernel
theorem dX12_leanOf_27 : decode cX12_leanOf 27 = .ok (.imul, 1) := by decide +kernel
theorem dX12_leanOf_28 : decode cX12_leanOf 28 = .ok (.iload_n 1, 1) := by decide +kernel
theorem dX12_leanOf_29 : decode cX12_leanOf 29 = .ok (.invokestatic 151, 3) := by decide +kernel
theorem dX12_leanOf_32 : decode cX12_leanOf 32 = .ok (.idiv, 1) := by decide +kernel
theorem dX12_leanOf_33 : decode cX12_leanOf 33 = .ok (.ireturn, 1) := by decide +kernel
theorem dX12_ironAt_0 : decode cX12_ironAt 0 = .ok (.iload_n 1, 1) := by decide +kernel
theorem dX12_ironAt_1 : decode cX12_ironAt 1 = .ok (.sipush 4500, 3) := by decide +kernel
theorem dX12_ironAt_4 : decode cX12_ironAt 4 = .ok (.idiv, 1) := by decide +kernel
theorem dX12_ironAt_5 : decode cX12_ironAt 5 = .ok (.istore_n 2, 1) := by decide +kernel
theorem dX12_ironAt_6 : decode cX12_ironAt 6 = .ok (.aload_n 0, 1) := by decide +kernel
theorem dX12_ironAt_7 : decode cX12_ironAt 7 = .ok (.getfield 49, 3) := by decide +kernel
theorem dX12_ironAt_10 : decode cX12_ironAt 10 = .ok (.iload_n 2, 1) := by decide +kernel
theorem dX12_ironAt_11 : decode cX12_ironAt 11 = .ok (.iaload, 1) := by decide +kernel
theorem dX12_ironAt_12 : decode cX12_ironAt 12 = .ok (.aload_n 0, 1) := by decide +kernel
theorem dX12_ironAt_13 : decode cX12_ironAt 13 = .ok (.getfield 49, 3) := by decide +kernel
theorem dX12_ironAt_16 : decode cX12_ironAt 16 = .ok (.iload_n 2, 1) := by decide +kernel
theorem dX12_ironAt_17 : decode cX12_ironAt 17 = .ok (.iconst 1, 1) := by decide +kernel
theorem dX12_ironAt_18 : decode cX12_ironAt 18 = .ok (.iadd, 1) := by decide +kernel
theorem dX12_ironAt_19 : decode cX12_ironAt 19 = .ok (.bipush 8, 2) := by decide +kernel
theorem dX12_ironAt_21 : decode cX12_ironAt 21 = .ok (.irem, 1) := by decide +kernel
theorem dX12_ironAt_22 : decode cX12_ironAt 22 = .ok (.iaload, 1) := by decide +kernel
theorem dX12_ironAt_23 : decode cX12_ironAt 23 = .ok (.aload_n 0, 1) := by decide +kernel
theorem dX12_ironAt_24 : decode cX12_ironAt 24 = .ok (.getfield 49, 3) := by decide +kernel
theorem dX12_ironAt_27 : decode cX12_ironAt 27 = .ok (.iload_n 2, 1) := by decide +kernel
theorem dX12_ironAt_28 : decode cX12_ironAt 28 = .ok (.iaload, 1) := by decide +kernel
theorem dX12_ironAt_29 : decode cX12_ironAt 29 = .ok (.isub, 1) := by decide +kernel
theorem dX12_ironAt_30 : decode cX12_ironAt 30 = .ok (.iload_n 1, 1) := by decide +kernel
theorem dX12_ironAt_31 : decode cX12_ironAt 31 = .ok (.sipush 4500, 3) := by decide +kernel
theorem dX12_ironAt_34 : decode cX12_ironAt 34 = .ok (.irem, 1) := by decide +kernel
theorem dX12_ironAt_35 : decode cX12_ironAt 35 = .ok (.imul, 1) := by decide +kernel
theorem dX12_ironAt_36 : decode cX12_ironAt 36 = .ok (.sipush 4500, 3) := by decide +kernel
theorem dX12_ironAt_39 : decode cX12_ironAt 39 = .ok (.idiv, 1) := by decide +kernel
theorem dX12_ironAt_40 : decode cX12_ironAt 40 = .ok (.iadd, 1) := by decide +kernel
theorem dX12_ironAt_41 : decode cX12_ironAt 41 = .ok (.ireturn, 1) := by decide +kernel
theorem dX12_showsOf_0 : decode cX12_showsOf 0 = .ok (.aload_n 0, 1) := by decide +kernel
theorem dX12_showsOf_1 : decode cX12_showsOf 1 = .ok (.getfield 13, 3) := by decide +kernel
theorem dX12_showsOf_4 : decode cX12_showsOf 4 = .ok (.iload_n 1, 1) := by decide +kernel
theorem dX12_showsOf_5 : decode cX12_showsOf 5 = .ok (.iaload, 1) := by decide +kernel
theorem dX12_showsOf_6 : decode cX12_showsOf 6 = .ok (.aload_n 0, 1) := by decide +kernel
theorem dX12_showsOf_7 : decode cX12_showsOf 7 = .ok (.getfield 37, 3) := by decide +kernel
theorem dX12_showsOf_10 : decode cX12_showsOf 10 = .ok (.iconst 3, 1) := by decide +kernel
theorem dX12_showsOf_11 : decode cX12_showsOf 11 = .ok (.iload_n 1, 1) := by decide +kernel
theorem dX12_showsOf_12 : decode cX12_showsOf 12 = .ok (.imul, 1) := by decide +kernel
theorem dX12_showsOf_13 : decode cX12_showsOf 13 = .ok (.iload_n 2, 1) := by decide +kernel
theorem dX12_showsOf_14 : decode cX12_showsOf 14 = .ok (.iadd, 1) := by decide +kernel
theorem dX12_showsOf_15 : decode cX12_showsOf 15 = .ok (.iaload, 1) := by decide +kernel
theorem dX12_showsOf_16 : decode cX12_showsOf 16 = .ok (.isub, 1) := by decide +kernel
theorem dX12_showsOf_17 : decode cX12_showsOf 17 = .ok (.invokestatic 92, 3) := by decide +kernel
theorem dX12_showsOf_20 : decode cX12_showsOf 20 = .ok (.istore_n 3, 1) := by decide +kernel
theorem dX12_showsOf_21 : decode cX12_showsOf 21 = .ok (.aload_n 0, 1) := by decide +kernel
theorem dX12_showsOf_22 : decode cX12_showsOf 22 = .ok (.getfield 25, 3) := by decide +kernel
theorem dX12_showsOf_25 : decode cX12_showsOf 25 = .ok (.iload_n 2, 1) := by decide +kernel
theorem dX12_showsOf_26 : decode cX12_showsOf 26 = .ok (.iaload, 1) := by decide +kernel
theorem dX12_showsOf_27 : decode cX12_showsOf 27 = .ok (.istore 4, 2) := by decide +kernel
theorem dX12_showsOf_29 : decode cX12_showsOf 29 = .ok (.iload 4, 2) := by decide +kernel
theorem dX12_showsOf_31 : decode cX12_showsOf 31 = .ok (.ifCond .ne 5, 3) := by decide +kernel
theorem dX12_showsOf_34 : decode cX12_showsOf 34 = .ok (.iconst 0, 1) := by decide +kernel
theorem dX12_showsOf_35 : decode cX12_showsOf 35 = .ok (.ireturn, 1) := by decide +kernel
theorem dX12_showsOf_36 : decode cX12_showsOf 36 = .ok (.iload 4, 2) := by decide +kernel
theorem dX12_showsOf_38 : decode cX12_showsOf 38 = .ok (.iconst 5, 1) := by decide +kernel
theorem dX12_showsOf_39 : decode cX12_showsOf 39 = .ok (.if_icmp .ne 24, 3) := by decide +kernel
theorem dX12_showsOf_42 : decode cX12_showsOf 42 = .ok (.aload_n 0, 1) := by decide +kernel
theorem dX12_showsOf_43 : decode cX12_showsOf 43 = .ok (.getfield 13, 3) := by decide +kernel
theorem dX12_showsOf_46 : decode cX12_showsOf 46 = .ok (.iload_n 1, 1) := by decide +kernel
theorem dX12_showsOf_47 : decode cX12_showsOf 47 = .ok (.iaload, 1) := by decide +kernel
theorem dX12_showsOf_48 : decode cX12_showsOf 48 = .ok (.aload_n 0, 1) := by decide +kernel
theorem dX12_showsOf_49 : decode cX12_showsOf 49 = .ok (.aload_n 0, 1) := by decide +kernel
theorem dX12_showsOf_50 : decode cX12_showsOf 50 = .ok (.getfield 13, 3) := by decide +kernel
theorem dX12_showsOf_53 : decode cX12_showsOf 53 = .ok (.iload_n 1, 1) := by decide +kernel
theorem dX12_showsOf_54 : decode cX12_showsOf 54 = .ok (.iaload, 1) := by decide +kernel
theorem dX12_showsOf_55 : decode cX12_showsOf 55 = .ok (.invokevirtual 154, 3) := by decide +kernel
theorem dX12_showsOf_58 : decode cX12_showsOf 58 = .ok (.isub, 1) := by decide +kernel
theorem dX12_showsOf_59 : decode cX12_showsOf 59 = .ok (.invokestatic 92, 3) := by decide +kernel
theorem dX12_showsOf_62 : decode cX12_showsOf 62 = .ok (.ireturn, 1) := by decide +kernel
theorem dX12_showsOf_63 : decode cX12_showsOf 63 = .ok (.iload 4, 2) := by decide +kernel
theorem dX12_showsOf_65 : decode cX12_showsOf 65 = .ok (.iconst 4, 1) := by decide +kernel
theorem dX12_showsOf_66 : decode cX12_showsOf 66 = .ok (.if_icmp .ne 27, 3) := by decide +kernel
theorem dX12_showsOf_69 : decode cX12_showsOf 69 = .ok (.iload_n 3, 1) := by decide +kernel
theorem dX12_showsOf_70 : decode cX12_showsOf 70 = .ok (.aload_n 0, 1) := by decide +kernel
theorem dX12_showsOf_71 : decode cX12_showsOf 71 = .ok (.getfield 43, 3) := by decide +kernel
theorem dX12_showsOf_74 : decode cX12_showsOf 74 = .ok (.iload_n 2, 1) := by decide +kernel
theorem dX12_showsOf_75 : decode cX12_showsOf 75 = .ok (.iaload, 1) := by decide +kernel
theorem dX12_showsOf_76 : decode cX12_showsOf 76 = .ok (.aload_n 0, 1) := by decide +kernel
theorem dX12_showsOf_77 : decode cX12_showsOf 77 = .ok (.getfield 46, 3) := by decide +kernel
theorem dX12_showsOf_80 : decode cX12_showsOf 80 = .ok (.iload_n 2, 1) := by decide +kernel
theorem dX12_showsOf_81 : decode cX12_showsOf 81 = .ok (.iaload, 1) := by decide +kernel
theorem dX12_showsOf_82 : decode cX12_showsOf 82 = .ok (.iload_n 3, 1) := by decide +kernel
theorem dX12_showsOf_83 : decode cX12_showsOf 83 = .ok (.invokestatic 157, 3) := by decide +kernel
theorem dX12_showsOf_86 : decode cX12_showsOf 86 = .ok (.iadd, 1) := by decide +kernel
theorem dX12_showsOf_87 : decode cX12_showsOf 87 = .ok (.invokestatic 92, 3) := by decide +kernel
theorem dX12_showsOf_90 : decode cX12_showsOf 90 = .ok (.goto 4, 3) := by decide +kernel
theorem dX12_showsOf_93 : decode cX12_showsOf 93 = .ok (.iload_n 3, 1) := by decide +kernel
theorem dX12_showsOf_94 : decode cX12_showsOf 94 = .ok (.ireturn, 1) := by decide +kernel
theorem dX12_shows_0 : decode cX12_shows 0 = .ok (.iload_n 1, 1) := by decide +kernel
theorem dX12_shows_1 : decode cX12_shows 1 = .ok (.invokestatic 127, 3) := by decide +kernel
theorem dX12_shows_4 : decode cX12_shows 4 = .ok (.ifCond .eq 12, 3) := by decide +kernel
theorem dX12_shows_7 : decode cX12_shows 7 = .ok (.aload_n 0, 1) := by decide +kernel
theorem dX12_shows_8 : decode cX12_shows 8 = .ok (.iconst 0, 1) := by decide +kernel
theorem dX12_shows_9 : decode cX12_shows 9 = .ok (.iload_n 1, 1) := by decide +kernel
theorem dX12_shows_10 : decode cX12_shows 10 = .ok (.invokevirtual 161, 3) := by decide +kernel
theorem dX12_shows_13 : decode cX12_shows 13 = .ok (.goto 5, 3) := by decide +kernel
theorem dX12_shows_16 : decode cX12_shows 16 = .ok (.bipush (-2), 2) := by decide +kernel
theorem dX12_shows_18 : decode cX12_shows 18 = .ok (.ireturn, 1) := by decide +kernel
theorem dX12_now_0 : decode cX12_now 0 = .ok (.iload_n 1, 1) := by decide +kernel
theorem dX12_now_1 : decode cX12_now 1 = .ok (.invokestatic 127, 3) := by decide +kernel
theorem dX12_now_4 : decode cX12_now 4 = .ok (.ifCond .ne 6, 3) := by decide +kernel
theorem dX12_now_7 : decode cX12_now 7 = .ok (.bipush (-2), 2) := by decide +kernel
theorem dX12_now_9 : decode cX12_now 9 = .ok (.ireturn, 1) := by decide +kernel
theorem dX12_now_10 : decode cX12_now 10 = .ok (.iload_n 2, 1) := by decide +kernel
theorem dX12_now_11 : decode cX12_now 11 = .ok (.i2l, 1) := by decide +kernel
theorem dX12_now_12 : decode cX12_now 12 = .ok (.lconst 0, 1) := by decide +kernel
theorem dX12_now_13 : decode cX12_now 13 = .ok (.lconst 1, 1) := by decide +kernel
theorem dX12_now_14 : decode cX12_now 14 = .ok (.invokestatic 87, 3) := by decide +kernel
theorem dX12_now_17 : decode cX12_now 17 = .ok (.ifCond .ne 8, 3) := by decide +kernel
theorem dX12_now_20 : decode cX12_now 20 = .ok (.bipush (-3), 2) := by decide +kernel
theorem dX12_now_22 : decode cX12_now 22 = .ok (.goto 25, 3) := by decide +kernel
theorem dX12_now_25 : decode cX12_now 25 = .ok (.ldc 165, 2) := by decide +kernel
theorem dX12_now_27 : decode cX12_now 27 = .ok (.iload_n 2, 1) := by decide +kernel
theorem dX12_now_28 : decode cX12_now 28 = .ok (.ifCond .ne 12, 3) := by decide +kernel
theorem dX12_now_31 : decode cX12_now 31 = .ok (.aload_n 0, 1) := by decide +kernel
theorem dX12_now_32 : decode cX12_now 32 = .ok (.getfield 37, 3) := by decide +kernel
theorem dX12_now_35 : decode cX12_now 35 = .ok (.iload_n 1, 1) := by decide +kernel
theorem dX12_now_36 : decode cX12_now 36 = .ok (.iaload, 1) := by decide +kernel
theorem dX12_now_37 : decode cX12_now 37 = .ok (.goto 9, 3) := by decide +kernel
theorem dX12_now_40 : decode cX12_now 40 = .ok (.aload_n 0, 1) := by decide +kernel
theorem dX12_now_41 : decode cX12_now 41 = .ok (.getfield 40, 3) := by decide +kernel
theorem dX12_now_44 : decode cX12_now 44 = .ok (.iload_n 1, 1) := by decide +kernel
theorem dX12_now_45 : decode cX12_now 45 = .ok (.iaload, 1) := by decide +kernel
theorem dX12_now_46 : decode cX12_now 46 = .ok (.iadd, 1) := by decide +kernel
theorem dX12_now_47 : decode cX12_now 47 = .ok (.ireturn, 1) := by decide +kernel
theorem dX12_lean_0 : decode cX12_lean 0 = .ok (.iload_n 1, 1) := by decide +kernel
theorem dX12_lean_1 : decode cX12_lean 1 = .ok (.invokestatic 139, 3) := by decide +kernel
theorem dX12_lean_4 : decode cX12_lean 4 = .ok (.ifCond .eq 29, 3) := by decide +kernel
theorem dX12_lean_7 : decode cX12_lean 7 = .ok (.iload_n 2, 1) := by decide +kernel
theorem dX12_lean_8 : decode cX12_lean 8 = .ok (.invokestatic 142, 3) := by decide +kernel
theorem dX12_lean_11 : decode cX12_lean 11 = .ok (.ifCond .eq 22, 3) := by decide +kernel
theorem dX12_lean_14 : decode cX12_lean 14 = .ok (.iload_n 3, 1) := by decide +kernel
theorem dX12_lean_15 : decode cX12_lean 15 = .ok (.invokestatic 115, 3) := by decide +kernel
theorem dX12_lean_18 : decode cX12_lean 18 = .ok (.ifCond .eq 15, 3) := by decide +kernel
theorem dX12_lean_21 : decode cX12_lean 21 = .ok (.ldc 166, 2) := by decide +kernel
theorem dX12_lean_23 : decode cX12_lean 23 = .ok (.iload_n 1, 1) := by decide +kernel
theorem dX12_lean_24 : decode cX12_lean 24 = .ok (.iload_n 2, 1) := by decide +kernel
theorem dX12_lean_25 : decode cX12_lean 25 = .ok (.iload_n 3, 1) := by decide +kernel
theorem dX12_lean_26 : decode cX12_lean 26 = .ok (.invokestatic 157, 3) := by decide +kernel
theorem dX12_lean_29 : decode cX12_lean 29 = .ok (.iadd, 1) := by decide +kernel
theorem dX12_lean_30 : decode cX12_lean 30 = .ok (.goto 5, 3) := by decide +kernel
theorem dX12_lean_33 : decode cX12_lean 33 = .ok (.bipush (-3), 2) := by decide +kernel
theorem dX12_lean_35 : decode cX12_lean 35 = .ok (.ireturn, 1) := by decide +kernel
theorem dX12_deviation_0 : decode cX12_deviation 0 = .ok (.iload_n 1, 1) := by decide +kernel
theorem dX12_deviation_1 : decode cX12_deviation 1 = .ok (.invokestatic 115, 3) := by decide +kernel
theorem dX12_deviation_4 : decode cX12_deviation 4 = .ok (.ifCond .eq 14, 3) := by decide +kernel
theorem dX12_deviation_7 : decode cX12_deviation 7 = .ok (.ldc 165, 2) := by decide +kernel
theorem dX12_deviation_9 : decode cX12_deviation 9 = .ok (.aload_n 0, 1) := by decide +kernel
theorem dX12_deviation_10 : decode cX12_deviation 10 = .ok (.iload_n 1, 1) := by decide +kernel
theorem dX12_deviation_11 : decode cX12_deviation 11 = .ok (.invokevirtual 154, 3) := by decide +kernel
theorem dX12_deviation_14 : decode cX12_deviation 14 = .ok (.iadd, 1) := by decide +kernel
theorem dX12_deviation_15 : decode cX12_deviation 15 = .ok (.goto 5, 3) := by decide +kernel
theorem dX12_deviation_18 : decode cX12_deviation 18 = .ok (.bipush (-3), 2) := by decide +kernel
theorem dX12_deviation_20 : decode cX12_deviation 20 = .ok (.ireturn, 1) := by decide +kernel
theorem dX12_pulled_0 : decode cX12_pulled 0 = .ok (.iload_n 0, 1) := by decide +kernel
theorem dX12_pulled_1 : decode cX12_pulled 1 = .ok (.iload_n 1, 1) := by decide +kernel
theorem dX12_pulled_2 : decode cX12_pulled 2 = .ok (.iload_n 2, 1) := by decide +kernel
theorem dX12_pulled_3 : decode cX12_pulled 3 = .ok (.invokestatic 151, 3) := by decide +kernel
theorem dX12_pulled_6 : decode cX12_pulled 6 = .ok (.imul, 1) := by decide +kernel
theorem dX12_pulled_7 : decode cX12_pulled 7 = .ok (.iload_n 3, 1) := by decide +kernel
theorem dX12_pulled_8 : decode cX12_pulled 8 = .ok (.imul, 1) := by decide +kernel
theorem dX12_pulled_9 : decode cX12_pulled 9 = .ok (.sipush 9000, 3) := by decide +kernel
theorem dX12_pulled_12 : decode cX12_pulled 12 = .ok (.idiv, 1) := by decide +kernel
theorem dX12_pulled_13 : decode cX12_pulled 13 = .ok (.isub, 1) := by decide +kernel
theorem dX12_pulled_14 : decode cX12_pulled 14 = .ok (.ireturn, 1) := by decide +kernel
theorem dX12_damped_0 : decode cX12_damped 0 = .ok (.iload_n 0, 1) := by decide +kernel
theorem dX12_damped_1 : decode cX12_damped 1 = .ok (.iload_n 0, 1) := by decide +kernel
theorem dX12_damped_2 : decode cX12_damped 2 = .ok (.iload_n 1, 1) := by decide +kernel
theorem dX12_damped_3 : decode cX12_damped 3 = .ok (.imul, 1) := by decide +kernel
theorem dX12_damped_4 : decode cX12_damped 4 = .ok (.bipush 100, 2) := by decide +kernel
theorem dX12_damped_6 : decode cX12_damped 6 = .ok (.idiv, 1) := by decide +kernel
theorem dX12_damped_7 : decode cX12_damped 7 = .ok (.isub, 1) := by decide +kernel
theorem dX12_damped_8 : decode cX12_damped 8 = .ok (.ireturn, 1) := by decide +kernel
theorem dX12_kicked_0 : decode cX12_kicked 0 = .ok (.iload_n 0, 1) := by decide +kernel
theorem dX12_kicked_1 : decode cX12_kicked 1 = .ok (.iload_n 1, 1) := by decide +kernel
theorem dX12_kicked_2 : decode cX12_kicked 2 = .ok (.iload_n 2, 1) := by decide +kernel
theorem dX12_kicked_3 : decode cX12_kicked 3 = .ok (.imul, 1) := by decide +kernel
theorem dX12_kicked_4 : decode cX12_kicked 4 = .ok (.bipush 100, 2) := by decide +kernel
theorem dX12_kicked_6 : decode cX12_kicked 6 = .ok (.idiv, 1) := by decide +kernel
theorem dX12_kicked_7 : decode cX12_kicked 7 = .ok (.iadd, 1) := by decide +kernel
theorem dX12_kicked_8 : decode cX12_kicked 8 = .ok (.ireturn, 1) := by decide +kernel
theorem dX12_tick_0 : decode cX12_tick 0 = .ok (.aload_n 0, 1) := by decide +kernel
theorem dX12_tick_1 : decode cX12_tick 1 = .ok (.getfield 7, 3) := by decide +kernel
theorem dX12_tick_4 : decode cX12_tick 4 = .ok (.iconst 4, 1) := by decide +kernel
theorem dX12_tick_5 : decode cX12_tick 5 = .ok (.iload_n 1, 1) := by decide +kernel
theorem dX12_tick_6 : decode cX12_tick 6 = .ok (.imul, 1) := by decide +kernel
theorem dX12_tick_7 : decode cX12_tick 7 = .ok (.iconst 3, 1) := by decide +kernel
theorem dX12_tick_8 : decode cX12_tick 8 = .ok (.iadd, 1) := by decide +kernel
theorem dX12_tick_9 : decode cX12_tick 9 = .ok (.iaload, 1) := by decide +kernel
theorem dX12_tick_10 : decode cX12_tick 10 = .ok (.aload_n 0, 1) := by decide +kernel
theorem dX12_tick_11 : decode cX12_tick 11 = .ok (.getfield 7, 3) := by decide +kernel
theorem dX12_tick_14 : decode cX12_tick 14 = .ok (.iconst 4, 1) := by decide +kernel
theorem dX12_tick_15 : decode cX12_tick 15 = .ok (.iload_n 1, 1) := by decide +kernel
theorem dX12_tick_16 : decode cX12_tick 16 = .ok (.imul, 1) := by decide +kernel
theorem dX12_tick_17 : decode cX12_tick 17 = .ok (.iconst 2, 1) := by decide +kernel
theorem dX12_tick_18 : decode cX12_tick 18 = .ok (.iadd, 1) := by decide +kernel
theorem dX12_tick_19 : decode cX12_tick 19 = .ok (.iaload, 1) := by decide +kernel
theorem dX12_tick_20 : decode cX12_tick 20 = .ok (.imul, 1) := by decide +kernel
theorem dX12_tick_21 : decode cX12_tick 21 = .ok (.aload_n 0, 1) := by decide +kernel
theorem dX12_tick_22 : decode cX12_tick 22 = .ok (.getfield 123, 3) := by decide +kernel
theorem dX12_tick_25 : decode cX12_tick 25 = .ok (.ifCond .ne 7, 3) := by decide +kernel
theorem dX12_tick_28 : decode cX12_tick 28 = .ok (.iconst 0, 1) := by decide +kernel
theorem dX12_tick_29 : decode cX12_tick 29 = .ok (.goto 19, 3) := by decide +kernel
theorem dX12_tick_32 : decode cX12_tick 32 = .ok (.aload_n 0, 1) := by decide +kernel
theorem dX12_tick_33 : decode cX12_tick 33 = .ok (.getfield 22, 3) := by decide +kernel
theorem dX12_tick_36 : decode cX12_tick 36 = .ok (.aload_n 0, 1) := by decide +kernel
theorem dX12_tick_37 : decode cX12_tick 37 = .ok (.getfield 16, 3) := by decide +kernel
theorem dX12_tick_40 : decode cX12_tick 40 = .ok (.iload_n 1, 1) := by decide +kernel
theorem dX12_tick_41 : decode cX12_tick 41 = .ok (.iaload, 1) := by decide +kernel
theorem dX12_tick_42 : decode cX12_tick 42 = .ok (.aload_n 0, 1) := by decide +kernel
theorem dX12_tick_43 : decode cX12_tick 43 = .ok (.getfield 123, 3) := by decide +kernel
theorem dX12_tick_46 : decode cX12_tick 46 = .ok (.irem, 1) := by decide +kernel
theorem dX12_tick_47 : decode cX12_tick 47 = .ok (.iaload, 1) := by decide +kernel
theorem dX12_tick_48 : decode cX12_tick 48 = .ok (.iadd, 1) := by decide +kernel
theorem dX12_tick_49 : decode cX12_tick 49 = .ok (.istore_n 2, 1) := by decide +kernel
theorem dX12_tick_50 : decode cX12_tick 50 = .ok (.aload_n 0, 1) := by decide +kernel
theorem dX12_tick_51 : decode cX12_tick 51 = .ok (.getfield 13, 3) := by decide +kernel
theorem dX12_tick_54 : decode cX12_tick 54 = .ok (.iload_n 1, 1) := by decide +kernel
theorem dX12_tick_55 : decode cX12_tick 55 = .ok (.aload_n 0, 1) := by decide +kernel
theorem dX12_tick_56 : decode cX12_tick 56 = .ok (.getfield 13, 3) := by decide +kernel
theorem dX12_tick_59 : decode cX12_tick 59 = .ok (.iload_n 1, 1) := by decide +kernel
theorem dX12_tick_60 : decode cX12_tick 60 = .ok (.iaload, 1) := by decide +kernel
theorem dX12_tick_61 : decode cX12_tick 61 = .ok (.iload_n 2, 1) := by decide +kernel
theorem dX12_tick_62 : decode cX12_tick 62 = .ok (.iadd, 1) := by decide +kernel
theorem dX12_tick_63 : decode cX12_tick 63 = .ok (.invokestatic 92, 3) := by decide +kernel
theorem dX12_tick_66 : decode cX12_tick 66 = .ok (.iastore, 1) := by decide +kernel
theorem dX12_tick_67 : decode cX12_tick 67 = .ok (.aload_n 0, 1) := by decide +kernel
theorem dX12_tick_68 : decode cX12_tick 68 = .ok (.getfield 7, 3) := by decide +kernel
theorem dX12_tick_71 : decode cX12_tick 71 = .ok (.iconst 4, 1) := by decide +kernel
theorem dX12_tick_72 : decode cX12_tick 72 = .ok (.iload_n 1, 1) := by decide +kernel
theorem dX12_tick_73 : decode cX12_tick 73 = .ok (.imul, 1) := by decide +kernel
theorem dX12_tick_74 : decode cX12_tick 74 = .ok (.iaload, 1) := by decide +kernel
theorem dX12_tick_75 : decode cX12_tick 75 = .ok (.istore_n 3, 1) := by decide +kernel
theorem dX12_tick_76 : decode cX12_tick 76 = .ok (.iconst 0, 1) := by decide +kernel
theorem dX12_tick_77 : decode cX12_tick 77 = .ok (.istore 4, 2) := by decide +kernel
theorem dX12_tick_79 : decode cX12_tick 79 = .ok (.iload 4, 2) := by decide +kernel
theorem dX12_tick_81 : decode cX12_tick 81 = .ok (.iconst 3, 1) := by decide +kernel
theorem dX12_tick_82 : decode cX12_tick 82 = .ok (.if_icmp .ge 219, 3) := by decide +kernel
theorem dX12_tick_85 : decode cX12_tick 85 = .ok (.iconst 3, 1) := by decide +kernel
theorem dX12_tick_86 : decode cX12_tick 86 = .ok (.iload_n 1, 1) := by decide +kernel
theorem dX12_tick_87 : decode cX12_tick 87 = .ok (.imul, 1) := by decide +kernel
theorem dX12_tick_88 : decode cX12_tick 88 = .ok (.iload 4, 2) := by decide +kernel
theorem dX12_tick_90 : decode cX12_tick 90 = .ok (.iadd, 1) := by decide +kernel
theorem dX12_tick_91 : decode cX12_tick 91 = .ok (.istore 5, 2) := by decide +kernel
theorem dX12_tick_93 : decode cX12_tick 93 = .ok (.aload_n 0, 1) := by decide +kernel
theorem dX12_tick_94 : decode cX12_tick 94 = .ok (.getfield 25, 3) := by decide +kernel
theorem dX12_tick_97 : decode cX12_tick 97 = .ok (.iload 4, 2) := by decide +kernel
theorem dX12_tick_99 : decode cX12_tick 99 = .ok (.iaload, 1) := by decide +kernel
theorem dX12_tick_100 : decode cX12_tick 100 = .ok (.istore 6, 2) := by decide +kernel
theorem dX12_tick_102 : decode cX12_tick 102 = .ok (.iload 6, 2) := by decide +kernel
theorem dX12_tick_104 : decode cX12_tick 104 = .ok (.iconst 1, 1) := by decide +kernel
theorem dX12_tick_105 : decode cX12_tick 105 = .ok (.if_icmp .ne 31, 3) := by decide +kernel
theorem dX12_tick_108 : decode cX12_tick 108 = .ok (.aload_n 0, 1) := by decide +kernel
theorem dX12_tick_109 : decode cX12_tick 109 = .ok (.getfield 37, 3) := by decide +kernel
theorem dX12_tick_112 : decode cX12_tick 112 = .ok (.iload 5, 2) := by decide +kernel
theorem dX12_tick_114 : decode cX12_tick 114 = .ok (.aload_n 0, 1) := by decide +kernel
theorem dX12_tick_115 : decode cX12_tick 115 = .ok (.getfield 37, 3) := by decide +kernel
theorem dX12_tick_118 : decode cX12_tick 118 = .ok (.iload 5, 2) := by decide +kernel
theorem dX12_tick_120 : decode cX12_tick 120 = .ok (.iaload, 1) := by decide +kernel
theorem dX12_tick_121 : decode cX12_tick 121 = .ok (.bipush 25, 2) := by decide +kernel
theorem dX12_tick_123 : decode cX12_tick 123 = .ok (.iload_n 3, 1) := by decide +kernel
theorem dX12_tick_124 : decode cX12_tick 124 = .ok (.imul, 1) := by decide +kernel
theorem dX12_tick_125 : decode cX12_tick 125 = .ok (.bipush 90, 2) := by decide +kernel
theorem dX12_tick_127 : decode cX12_tick 127 = .ok (.idiv, 1) := by decide +kernel
theorem dX12_tick_128 : decode cX12_tick 128 = .ok (.isub, 1) := by decide +kernel
theorem dX12_tick_129 : decode cX12_tick 129 = .ok (.invokestatic 167, 3) := by decide +kernel
theorem dX12_tick_132 : decode cX12_tick 132 = .ok (.iastore, 1) := by decide +kernel
theorem dX12_tick_133 : decode cX12_tick 133 = .ok (.goto 162, 3) := by decide +kernel
theorem dX12_tick_136 : decode cX12_tick 136 = .ok (.iload 6, 2) := by decide +kernel
theorem dX12_tick_138 : decode cX12_tick 138 = .ok (.iconst 1, 1) := by decide +kernel
theorem dX12_tick_139 : decode cX12_tick 139 = .ok (.if_icmp .le 156, 3) := by decide +kernel
theorem dX12_tick_142 : decode cX12_tick 142 = .ok (.iload 6, 2) := by decide +kernel
theorem dX12_tick_144 : decode cX12_tick 144 = .ok (.iconst 5, 1) := by decide +kernel
theorem dX12_tick_145 : decode cX12_tick 145 = .ok (.if_icmp .ge 150, 3) := by decide +kernel
theorem dX12_tick_148 : decode cX12_tick 148 = .ok (.iload 6, 2) := by decide +kernel
theorem dX12_tick_150 : decode cX12_tick 150 = .ok (.iconst 2, 1) := by decide +kernel
theorem dX12_tick_151 : decode cX12_tick 151 = .ok (.if_icmp .ne 13, 3) := by decide +kernel
theorem dX12_tick_154 : decode cX12_tick 154 = .ok (.aload_n 0, 1) := by decide +kernel
theorem dX12_tick_155 : decode cX12_tick 155 = .ok (.getfield 37, 3) := by decide +kernel
theorem dX12_tick_158 : decode cX12_tick 158 = .ok (.iload 5, 2) := by decide +kernel
theorem dX12_tick_160 : decode cX12_tick 160 = .ok (.iaload, 1) := by decide +kernel
theorem dX12_tick_161 : decode cX12_tick 161 = .ok (.goto 34, 3) := by decide +kernel
theorem dX12_tick_164 : decode cX12_tick 164 = .ok (.aload_n 0, 1) := by decide +kernel
theorem dX12_tick_165 : decode cX12_tick 165 = .ok (.getfield 37, 3) := by decide +kernel
theorem dX12_tick_168 : decode cX12_tick 168 = .ok (.iload 5, 2) := by decide +kernel
theorem dX12_tick_170 : decode cX12_tick 170 = .ok (.iaload, 1) := by decide +kernel
theorem dX12_tick_171 : decode cX12_tick 171 = .ok (.aload_n 0, 1) := by decide +kernel
theorem dX12_tick_172 : decode cX12_tick 172 = .ok (.getfield 7, 3) := by decide +kernel
theorem dX12_tick_175 : decode cX12_tick 175 = .ok (.iconst 4, 1) := by decide +kernel
theorem dX12_tick_176 : decode cX12_tick 176 = .ok (.iload_n 1, 1) := by decide +kernel
theorem dX12_tick_177 : decode cX12_tick 177 = .ok (.imul, 1) := by decide +kernel
theorem dX12_tick_178 : decode cX12_tick 178 = .ok (.iconst 1, 1) := by decide +kernel
theorem dX12_tick_179 : decode cX12_tick 179 = .ok (.iadd, 1) := by decide +kernel
theorem dX12_tick_180 : decode cX12_tick 180 = .ok (.iaload, 1) := by decide +kernel
theorem dX12_tick_181 : decode cX12_tick 181 = .ok (.iload_n 3, 1) := by decide +kernel
theorem dX12_tick_182 : decode cX12_tick 182 = .ok (.aload_n 0, 1) := by decide +kernel
theorem dX12_tick_183 : decode cX12_tick 183 = .ok (.getfield 13, 3) := by decide +kernel
theorem dX12_tick_186 : decode cX12_tick 186 = .ok (.iload_n 1, 1) := by decide +kernel
theorem dX12_tick_187 : decode cX12_tick 187 = .ok (.iaload, 1) := by decide +kernel
theorem dX12_tick_188 : decode cX12_tick 188 = .ok (.invokestatic 157, 3) := by decide +kernel
theorem dX12_tick_191 : decode cX12_tick 191 = .ok (.isub, 1) := by decide +kernel
theorem dX12_tick_192 : decode cX12_tick 192 = .ok (.invokestatic 167, 3) := by decide +kernel
theorem dX12_tick_195 : decode cX12_tick 195 = .ok (.istore 7, 2) := by decide +kernel
theorem dX12_tick_197 : decode cX12_tick 197 = .ok (.aload_n 0, 1) := by decide +kernel
theorem dX12_tick_198 : decode cX12_tick 198 = .ok (.getfield 40, 3) := by decide +kernel
theorem dX12_tick_201 : decode cX12_tick 201 = .ok (.iload 5, 2) := by decide +kernel
theorem dX12_tick_203 : decode cX12_tick 203 = .ok (.iaload, 1) := by decide +kernel
theorem dX12_tick_204 : decode cX12_tick 204 = .ok (.aload_n 0, 1) := by decide +kernel
theorem dX12_tick_205 : decode cX12_tick 205 = .ok (.getfield 28, 3) := by decide +kernel
theorem dX12_tick_208 : decode cX12_tick 208 = .ok (.iload 4, 2) := by decide +kernel
theorem dX12_tick_210 : decode cX12_tick 210 = .ok (.iaload, 1) := by decide +kernel
theorem dX12_tick_211 : decode cX12_tick 211 = .ok (.iload_n 3, 1) := by decide +kernel
theorem dX12_tick_212 : decode cX12_tick 212 = .ok (.iload 7, 2) := by decide +kernel
theorem dX12_tick_214 : decode cX12_tick 214 = .ok (.invokestatic 170, 3) := by decide +kernel
theorem dX12_tick_217 : decode cX12_tick 217 = .ok (.istore 8, 2) := by decide +kernel
theorem dX12_tick_219 : decode cX12_tick 219 = .ok (.iload 6, 2) := by decide +kernel
theorem dX12_tick_221 : decode cX12_tick 221 = .ok (.iconst 2, 1) := by decide +kernel
theorem dX12_tick_222 : decode cX12_tick 222 = .ok (.if_icmp .ne 8, 3) := by decide +kernel
theorem dX12_tick_225 : decode cX12_tick 225 = .ok (.iload 8, 2) := by decide +kernel
theorem dX12_tick_227 : decode cX12_tick 227 = .ok (.goto 26, 3) := by decide +kernel
theorem dX12_tick_230 : decode cX12_tick 230 = .ok (.iload 8, 2) := by decide +kernel
theorem dX12_tick_232 : decode cX12_tick 232 = .ok (.aload_n 0, 1) := by decide +kernel
theorem dX12_tick_233 : decode cX12_tick 233 = .ok (.getfield 31, 3) := by decide +kernel
theorem dX12_tick_236 : decode cX12_tick 236 = .ok (.iload 4, 2) := by decide +kernel
theorem dX12_tick_238 : decode cX12_tick 238 = .ok (.iaload, 1) := by decide +kernel
theorem dX12_tick_239 : decode cX12_tick 239 = .ok (.invokestatic 174, 3) := by decide +kernel
theorem dX12_tick_242 : decode cX12_tick 242 = .ok (.iload_n 2, 1) := by decide +kernel
theorem dX12_tick_243 : decode cX12_tick 243 = .ok (.aload_n 0, 1) := by decide +kernel
theorem dX12_tick_244 : decode cX12_tick 244 = .ok (.getfield 34, 3) := by decide +kernel
theorem dX12_tick_247 : decode cX12_tick 247 = .ok (.iload 4, 2) := by decide +kernel
theorem dX12_tick_249 : decode cX12_tick 249 = .ok (.iaload, 1) := by decide +kernel
theorem dX12_tick_250 : decode cX12_tick 250 = .ok (.invokestatic 177, 3) := by decide +kernel
theorem dX12_tick_253 : decode cX12_tick 253 = .ok (.istore 8, 2) := by decide +kernel
theorem dX12_tick_255 : decode cX12_tick 255 = .ok (.aload_n 0, 1) := by decide +kernel
theorem dX12_tick_256 : decode cX12_tick 256 = .ok (.getfield 40, 3) := by decide +kernel
theorem dX12_tick_259 : decode cX12_tick 259 = .ok (.iload 5, 2) := by decide +kernel
theorem dX12_tick_261 : decode cX12_tick 261 = .ok (.iload 8, 2) := by decide +kernel
theorem dX12_tick_263 : decode cX12_tick 263 = .ok (.sipush 9999, 3) := by decide +kernel
theorem dX12_tick_266 : decode cX12_tick 266 = .ok (.invokestatic 180, 3) := by decide +kernel
theorem dX12_tick_269 : decode cX12_tick 269 = .ok (.iastore, 1) := by decide +kernel
theorem dX12_tick_270 : decode cX12_tick 270 = .ok (.aload_n 0, 1) := by decide +kernel
theorem dX12_tick_271 : decode cX12_tick 271 = .ok (.getfield 37, 3) := by decide +kernel
theorem dX12_tick_274 : decode cX12_tick 274 = .ok (.iload 5, 2) := by decide +kernel
theorem dX12_tick_276 : decode cX12_tick 276 = .ok (.aload_n 0, 1) := by decide +kernel
theorem dX12_tick_277 : decode cX12_tick 277 = .ok (.getfield 37, 3) := by decide +kernel
theorem dX12_tick_280 : decode cX12_tick 280 = .ok (.iload 5, 2) := by decide +kernel
theorem dX12_tick_282 : decode cX12_tick 282 = .ok (.iaload, 1) := by decide +kernel
theorem dX12_tick_283 : decode cX12_tick 283 = .ok (.aload_n 0, 1) := by decide +kernel
theorem dX12_tick_284 : decode cX12_tick 284 = .ok (.getfield 40, 3) := by decide +kernel
theorem dX12_tick_287 : decode cX12_tick 287 = .ok (.iload 5, 2) := by decide +kernel
theorem dX12_tick_289 : decode cX12_tick 289 = .ok (.iaload, 1) := by decide +kernel
theorem dX12_tick_290 : decode cX12_tick 290 = .ok (.iadd, 1) := by decide +kernel
theorem dX12_tick_291 : decode cX12_tick 291 = .ok (.invokestatic 167, 3) := by decide +kernel
theorem dX12_tick_294 : decode cX12_tick 294 = .ok (.iastore, 1) := by decide +kernel
theorem dX12_tick_295 : decode cX12_tick 295 = .ok (.iinc 4 1, 3) := by decide +kernel
theorem dX12_tick_298 : decode cX12_tick 298 = .ok (.goto (-219), 3) := by decide +kernel
theorem dX12_tick_301 : decode cX12_tick 301 = .ok (.aload_n 0, 1) := by decide +kernel
theorem dX12_tick_302 : decode cX12_tick 302 = .ok (.getfield 16, 3) := by decide +kernel
theorem dX12_tick_305 : decode cX12_tick 305 = .ok (.iload_n 1, 1) := by decide +kernel
theorem dX12_tick_306 : decode cX12_tick 306 = .ok (.dup2, 1) := by decide +kernel
theorem dX12_tick_307 : decode cX12_tick 307 = .ok (.iaload, 1) := by decide +kernel
theorem dX12_tick_308 : decode cX12_tick 308 = .ok (.iconst 1, 1) := by decide +kernel
theorem dX12_tick_309 : decode cX12_tick 309 = .ok (.iadd, 1) := by decide +kernel
theorem dX12_tick_310 : decode cX12_tick 310 = .ok (.iastore, 1) := by decide +kernel
theorem dX12_tick_311 : decode cX12_tick 311 = .ok (.return_, 1) := by decide +kernel
theorem dX12_steer_0 : decode cX12_steer 0 = .ok (.aload_n 0, 1) := by decide +kernel
theorem dX12_steer_1 : decode cX12_steer 1 = .ok (.getfield 16, 3) := by decide +kernel
theorem dX12_steer_4 : decode cX12_steer 4 = .ok (.iload_n 1, 1) := by decide +kernel
theorem dX12_steer_5 : decode cX12_steer 5 = .ok (.iaload, 1) := by decide +kernel
theorem dX12_steer_6 : decode cX12_steer 6 = .ok (.aload_n 0, 1) := by decide +kernel
theorem dX12_steer_7 : decode cX12_steer 7 = .ok (.getfield 55, 3) := by decide +kernel
theorem dX12_steer_10 : decode cX12_steer 10 = .ok (.iconst 4, 1) := by decide +kernel
theorem dX12_steer_11 : decode cX12_steer 11 = .ok (.iaload, 1) := by decide +kernel
theorem dX12_steer_12 : decode cX12_steer 12 = .ok (.irem, 1) := by decide +kernel
theorem dX12_steer_13 : decode cX12_steer 13 = .ok (.ifCond .eq 4, 3) := by decide +kernel
theorem dX12_steer_16 : decode cX12_steer 16 = .ok (.return_, 1) := by decide +kernel
theorem dX12_steer_17 : decode cX12_steer 17 = .ok (.aload_n 0, 1) := by decide +kernel
theorem dX12_steer_18 : decode cX12_steer 18 = .ok (.iload_n 1, 1) := by decide +kernel
theorem dX12_steer_19 : decode cX12_steer 19 = .ok (.aload_n 0, 1) := by decide +kernel
theorem dX12_steer_20 : decode cX12_steer 20 = .ok (.getfield 55, 3) := by decide +kernel
theorem dX12_steer_23 : decode cX12_steer 23 = .ok (.iconst 5, 1) := by decide +kernel
theorem dX12_steer_24 : decode cX12_steer 24 = .ok (.iaload, 1) := by decide +kernel
theorem dX12_steer_25 : decode cX12_steer 25 = .ok (.invokevirtual 161, 3) := by decide +kernel
theorem dX12_steer_28 : decode cX12_steer 28 = .ok (.istore_n 3, 1) := by decide +kernel
theorem dX12_steer_29 : decode cX12_steer 29 = .ok (.aload_n 0, 1) := by decide +kernel
theorem dX12_steer_30 : decode cX12_steer 30 = .ok (.getfield 183, 3) := by decide +kernel
theorem dX12_steer_33 : decode cX12_steer 33 = .ok (.iload_n 3, 1) := by decide +kernel
theorem dX12_steer_34 : decode cX12_steer 34 = .ok (.isub, 1) := by decide +kernel
theorem dX12_steer_35 : decode cX12_steer 35 = .ok (.invokestatic 167, 3) := by decide +kernel
theorem dX12_steer_38 : decode cX12_steer 38 = .ok (.istore 4, 2) := by decide +kernel
theorem dX12_steer_40 : decode cX12_steer 40 = .ok (.aload_n 0, 1) := by decide +kernel
theorem dX12_steer_41 : decode cX12_steer 41 = .ok (.getfield 19, 3) := by decide +kernel
theorem dX12_steer_44 : decode cX12_steer 44 = .ok (.iload_n 1, 1) := by decide +kernel
theorem dX12_steer_45 : decode cX12_steer 45 = .ok (.iaload, 1) := by decide +kernel
theorem dX12_steer_46 : decode cX12_steer 46 = .ok (.iconst (-1), 1) := by decide +kernel
theorem dX12_steer_47 : decode cX12_steer 47 = .ok (.if_icmp .ne 7, 3) := by decide +kernel
theorem dX12_steer_50 : decode cX12_steer 50 = .ok (.iconst 0, 1) := by decide +kernel
theorem dX12_steer_51 : decode cX12_steer 51 = .ok (.goto 14, 3) := by decide +kernel
theorem dX12_steer_54 : decode cX12_steer 54 = .ok (.iload_n 3, 1) := by decide +kernel
theorem dX12_steer_55 : decode cX12_steer 55 = .ok (.aload_n 0, 1) := by decide +kernel
theorem dX12_steer_56 : decode cX12_steer 56 = .ok (.getfield 19, 3) := by decide +kernel
theorem dX12_steer_59 : decode cX12_steer 59 = .ok (.iload_n 1, 1) := by decide +kernel
theorem dX12_steer_60 : decode cX12_steer 60 = .ok (.iaload, 1) := by decide +kernel
theorem dX12_steer_61 : decode cX12_steer 61 = .ok (.isub, 1) := by decide +kernel
theorem dX12_steer_62 : decode cX12_steer 62 = .ok (.invokestatic 167, 3) := by decide +kernel
theorem dX12_steer_65 : decode cX12_steer 65 = .ok (.istore 5, 2) := by decide +kernel
theorem dX12_steer_67 : decode cX12_steer 67 = .ok (.aload_n 0, 1) := by decide +kernel
theorem dX12_steer_68 : decode cX12_steer 68 = .ok (.getfield 19, 3) := by decide +kernel
theorem dX12_steer_71 : decode cX12_steer 71 = .ok (.iload_n 1, 1) := by decide +kernel
theorem dX12_steer_72 : decode cX12_steer 72 = .ok (.iload_n 3, 1) := by decide +kernel
theorem dX12_steer_73 : decode cX12_steer 73 = .ok (.iastore, 1) := by decide +kernel
theorem dX12_steer_74 : decode cX12_steer 74 = .ok (.aload_n 0, 1) := by decide +kernel
theorem dX12_steer_75 : decode cX12_steer 75 = .ok (.getfield 7, 3) := by decide +kernel
theorem dX12_steer_78 : decode cX12_steer 78 = .ok (.iconst 4, 1) := by decide +kernel
theorem dX12_steer_79 : decode cX12_steer 79 = .ok (.iload_n 1, 1) := by decide +kernel
theorem dX12_steer_80 : decode cX12_steer 80 = .ok (.imul, 1) := by decide +kernel
theorem dX12_steer_81 : decode cX12_steer 81 = .ok (.iconst 3, 1) := by decide +kernel
theorem dX12_steer_82 : decode cX12_steer 82 = .ok (.iadd, 1) := by decide +kernel
theorem dX12_steer_83 : decode cX12_steer 83 = .ok (.iload 4, 2) := by decide +kernel
theorem dX12_steer_85 : decode cX12_steer 85 = .ok (.invokestatic 96, 3) := by decide +kernel
theorem dX12_steer_88 : decode cX12_steer 88 = .ok (.bipush 10, 2) := by decide +kernel
theorem dX12_steer_90 : decode cX12_steer 90 = .ok (.iload_n 2, 1) := by decide +kernel
theorem dX12_steer_91 : decode cX12_steer 91 = .ok (.imul, 1) := by decide +kernel
theorem dX12_steer_92 : decode cX12_steer 92 = .ok (.if_icmp .gt 7, 3) := by decide +kernel
theorem dX12_steer_95 : decode cX12_steer 95 = .ok (.iconst 0, 1) := by decide +kernel
theorem dX12_steer_96 : decode cX12_steer 96 = .ok (.goto 39, 3) := by decide +kernel
theorem dX12_steer_99 : decode cX12_steer 99 = .ok (.iload 4, 2) := by decide +kernel
theorem dX12_steer_101 : decode cX12_steer 101 = .ok (.aload_n 0, 1) := by decide +kernel
theorem dX12_steer_102 : decode cX12_steer 102 = .ok (.getfield 55, 3) := by decide +kernel
theorem dX12_steer_105 : decode cX12_steer 105 = .ok (.iconst 1, 1) := by decide +kernel
theorem dX12_steer_106 : decode cX12_steer 106 = .ok (.iaload, 1) := by decide +kernel
theorem dX12_steer_107 : decode cX12_steer 107 = .ok (.imul, 1) := by decide +kernel
theorem dX12_steer_108 : decode cX12_steer 108 = .ok (.sipush 10000, 3) := by decide +kernel
theorem dX12_steer_111 : decode cX12_steer 111 = .ok (.idiv, 1) := by decide +kernel
theorem dX12_steer_112 : decode cX12_steer 112 = .ok (.iload 5, 2) := by decide +kernel
theorem dX12_steer_114 : decode cX12_steer 114 = .ok (.aload_n 0, 1) := by decide +kernel
theorem dX12_steer_115 : decode cX12_steer 115 = .ok (.getfield 55, 3) := by decide +kernel
theorem dX12_steer_118 : decode cX12_steer 118 = .ok (.iconst 2, 1) := by decide +kernel
theorem dX12_steer_119 : decode cX12_steer 119 = .ok (.iaload, 1) := by decide +kernel
theorem dX12_steer_120 : decode cX12_steer 120 = .ok (.imul, 1) := by decide +kernel
theorem dX12_steer_121 : decode cX12_steer 121 = .ok (.sipush 10000, 3) := by decide +kernel
theorem dX12_steer_124 : decode cX12_steer 124 = .ok (.idiv, 1) := by decide +kernel
theorem dX12_steer_125 : decode cX12_steer 125 = .ok (.isub, 1) := by decide +kernel
theorem dX12_steer_126 : decode cX12_steer 126 = .ok (.aload_n 0, 1) := by decide +kernel
theorem dX12_steer_127 : decode cX12_steer 127 = .ok (.getfield 55, 3) := by decide +kernel
theorem dX12_steer_130 : decode cX12_steer 130 = .ok (.iconst 3, 1) := by decide +kernel
theorem dX12_steer_131 : decode cX12_steer 131 = .ok (.iaload, 1) := by decide +kernel
theorem dX12_steer_132 : decode cX12_steer 132 = .ok (.invokestatic 180, 3) := by decide +kernel
theorem dX12_steer_135 : decode cX12_steer 135 = .ok (.iastore, 1) := by decide +kernel
theorem dX12_steer_136 : decode cX12_steer 136 = .ok (.return_, 1) := by decide +kernel
theorem dX12_run_0 : decode cX12_run 0 = .ok (.iload_n 1, 1) := by decide +kernel
theorem dX12_run_1 : decode cX12_run 1 = .ok (.i2l, 1) := by decide +kernel
theorem dX12_run_2 : decode cX12_run 2 = .ok (.lconst 1, 1) := by decide +kernel
theorem dX12_run_3 : decode cX12_run 3 = .ok (.ldc2_w 186, 3) := by decide +kernel
theorem dX12_run_6 : decode cX12_run 6 = .ok (.invokestatic 87, 3) := by decide +kernel
theorem dX12_run_9 : decode cX12_run 9 = .ok (.ifCond .eq 17, 3) := by decide +kernel
theorem dX12_run_12 : decode cX12_run 12 = .ok (.aload_n 0, 1) := by decide +kernel
theorem dX12_run_13 : decode cX12_run 13 = .ok (.getfield 16, 3) := by decide +kernel
theorem dX12_run_16 : decode cX12_run 16 = .ok (.iconst 0, 1) := by decide +kernel
theorem dX12_run_17 : decode cX12_run 17 = .ok (.iaload, 1) := by decide +kernel
theorem dX12_run_18 : decode cX12_run 18 = .ok (.iload_n 1, 1) := by decide +kernel
theorem dX12_run_19 : decode cX12_run 19 = .ok (.iadd, 1) := by decide +kernel
theorem dX12_run_20 : decode cX12_run 20 = .ok (.sipush 5000, 3) := by decide +kernel
theorem dX12_run_23 : decode cX12_run 23 = .ok (.if_icmp .le 6, 3) := by decide +kernel
theorem dX12_run_26 : decode cX12_run 26 = .ok (.bipush (-3), 2) := by decide +kernel
theorem dX12_run_28 : decode cX12_run 28 = .ok (.ireturn, 1) := by decide +kernel
theorem dX12_run_29 : decode cX12_run 29 = .ok (.iconst 0, 1) := by decide +kernel
theorem dX12_run_30 : decode cX12_run 30 = .ok (.istore_n 3, 1) := by decide +kernel
theorem dX12_run_31 : decode cX12_run 31 = .ok (.iload_n 3, 1) := by decide +kernel
theorem dX12_run_32 : decode cX12_run 32 = .ok (.iload_n 1, 1) := by decide +kernel
theorem dX12_run_33 : decode cX12_run 33 = .ok (.if_icmp .ge 29, 3) := by decide +kernel
theorem dX12_run_36 : decode cX12_run 36 = .ok (.iload_n 2, 1) := by decide +kernel
theorem dX12_run_37 : decode cX12_run 37 = .ok (.ifCond .eq 14, 3) := by decide +kernel
theorem dX12_run_40 : decode cX12_run 40 = .ok (.aload_n 0, 1) := by decide +kernel
theorem dX12_run_41 : decode cX12_run 41 = .ok (.iconst 0, 1) := by decide +kernel
theorem dX12_run_42 : decode cX12_run 42 = .ok (.aload_n 0, 1) := by decide +kernel
theorem dX12_run_43 : decode cX12_run 43 = .ok (.getfield 55, 3) := by decide +kernel
theorem dX12_run_46 : decode cX12_run 46 = .ok (.iconst 0, 1) := by decide +kernel
theorem dX12_run_47 : decode cX12_run 47 = .ok (.iaload, 1) := by decide +kernel
theorem dX12_run_48 : decode cX12_run 48 = .ok (.invokevirtual 188, 3) := by decide +kernel
theorem dX12_run_51 : decode cX12_run 51 = .ok (.aload_n 0, 1) := by decide +kernel
theorem dX12_run_52 : decode cX12_run 52 = .ok (.iconst 0, 1) := by decide +kernel
theorem dX12_run_53 : decode cX12_run 53 = .ok (.invokevirtual 192, 3) := by decide +kernel
theorem dX12_run_56 : decode cX12_run 56 = .ok (.iinc 3 1, 3) := by decide +kernel
theorem dX12_run_59 : decode cX12_run 59 = .ok (.goto (-28), 3) := by decide +kernel
theorem dX12_run_62 : decode cX12_run 62 = .ok (.aload_n 0, 1) := by decide +kernel
theorem dX12_run_63 : decode cX12_run 63 = .ok (.getfield 13, 3) := by decide +kernel
theorem dX12_run_66 : decode cX12_run 66 = .ok (.iconst 0, 1) := by decide +kernel
theorem dX12_run_67 : decode cX12_run 67 = .ok (.iaload, 1) := by decide +kernel
theorem dX12_run_68 : decode cX12_run 68 = .ok (.ireturn, 1) := by decide +kernel
theorem dX12_write_0 : decode cX12_write 0 = .ok (.iload_n 3, 1) := by decide +kernel
theorem dX12_write_1 : decode cX12_write 1 = .ok (.i2l, 1) := by decide +kernel
theorem dX12_write_2 : decode cX12_write 2 = .ok (.lconst 1, 1) := by decide +kernel
theorem dX12_write_3 : decode cX12_write 3 = .ok (.ldc2_w 196, 3) := by decide +kernel
theorem dX12_write_6 : decode cX12_write 6 = .ok (.invokestatic 87, 3) := by decide +kernel
theorem dX12_write_9 : decode cX12_write 9 = .ok (.ifCond .ne 6, 3) := by decide +kernel
theorem dX12_write_12 : decode cX12_write 12 = .ok (.bipush (-3), 2) := by decide +kernel
theorem dX12_write_14 : decode cX12_write 14 = .ok (.ireturn, 1) := by decide +kernel
theorem dX12_write_15 : decode cX12_write 15 = .ok (.aload_n 0, 1) := by decide +kernel
theorem dX12_write_16 : decode cX12_write 16 = .ok (.getfield 198, 3) := by decide +kernel
theorem dX12_write_19 : decode cX12_write 19 = .ok (.iload_n 3, 1) := by decide +kernel
theorem dX12_write_20 : decode cX12_write 20 = .ok (.iadd, 1) := by decide +kernel
theorem dX12_write_21 : decode cX12_write 21 = .ok (.sipush 160, 3) := by decide +kernel
theorem dX12_write_24 : decode cX12_write 24 = .ok (.if_icmp .le 6, 3) := by decide +kernel
theorem dX12_write_27 : decode cX12_write 27 = .ok (.bipush (-5), 2) := by decide +kernel
theorem dX12_write_29 : decode cX12_write 29 = .ok (.ireturn, 1) := by decide +kernel
theorem dX12_write_30 : decode cX12_write 30 = .ok (.iconst 0, 1) := by decide +kernel
theorem dX12_write_31 : decode cX12_write 31 = .ok (.istore 4, 2) := by decide +kernel
theorem dX12_write_33 : decode cX12_write 33 = .ok (.iload 4, 2) := by decide +kernel
theorem dX12_write_35 : decode cX12_write 35 = .ok (.iload_n 3, 1) := by decide +kernel
theorem dX12_write_36 : decode cX12_write 36 = .ok (.if_icmp .ge 40, 3) := by decide +kernel
theorem dX12_write_39 : decode cX12_write 39 = .ok (.aload_n 0, 1) := by decide +kernel
theorem dX12_write_40 : decode cX12_write 40 = .ok (.getfield 52, 3) := by decide +kernel
theorem dX12_write_43 : decode cX12_write 43 = .ok (.aload_n 0, 1) := by decide +kernel
theorem dX12_write_44 : decode cX12_write 44 = .ok (.getfield 198, 3) := by decide +kernel
theorem dX12_write_47 : decode cX12_write 47 = .ok (.lload_n 1, 1) := by decide +kernel
theorem dX12_write_48 : decode cX12_write 48 = .ok (.bipush 8, 2) := by decide +kernel
theorem dX12_write_50 : decode cX12_write 50 = .ok (.iload 4, 2) := by decide +kernel
theorem dX12_write_52 : decode cX12_write 52 = .ok (.imul, 1) := by decide +kernel
theorem dX12_write_53 : decode cX12_write 53 = .ok (.lshr, 1) := by decide +kernel
theorem dX12_write_54 : decode cX12_write 54 = .ok (.ldc2_w 201, 3) := by decide +kernel
theorem dX12_write_57 : decode cX12_write 57 = .ok (.land, 1) := by decide +kernel
theorem dX12_write_58 : decode cX12_write 58 = .ok (.l2i, 1) := by decide +kernel
theorem dX12_write_59 : decode cX12_write 59 = .ok (.iastore, 1) := by decide +kernel
theorem dX12_write_60 : decode cX12_write 60 = .ok (.aload_n 0, 1) := by decide +kernel
theorem dX12_write_61 : decode cX12_write 61 = .ok (.dup, 1) := by decide +kernel
theorem dX12_write_62 : decode cX12_write 62 = .ok (.getfield 198, 3) := by decide +kernel
theorem dX12_write_65 : decode cX12_write 65 = .ok (.iconst 1, 1) := by decide +kernel
theorem dX12_write_66 : decode cX12_write 66 = .ok (.iadd, 1) := by decide +kernel
theorem dX12_write_67 : decode cX12_write 67 = .ok (.putfield 198, 3) := by decide +kernel
theorem dX12_write_70 : decode cX12_write 70 = .ok (.iinc 4 1, 3) := by decide +kernel
theorem dX12_write_73 : decode cX12_write 73 = .ok (.goto (-40), 3) := by decide +kernel
theorem dX12_write_76 : decode cX12_write 76 = .ok (.aload_n 0, 1) := by decide +kernel
theorem dX12_write_77 : decode cX12_write 77 = .ok (.getfield 198, 3) := by decide +kernel
theorem dX12_write_80 : decode cX12_write 80 = .ok (.ireturn, 1) := by decide +kernel
theorem dX12_erase_0 : decode cX12_erase 0 = .ok (.aload_n 0, 1) := by decide +kernel
theorem dX12_erase_1 : decode cX12_erase 1 = .ok (.getfield 198, 3) := by decide +kernel
theorem dX12_erase_4 : decode cX12_erase 4 = .ok (.istore_n 1, 1) := by decide +kernel
theorem dX12_erase_5 : decode cX12_erase 5 = .ok (.aload_n 0, 1) := by decide +kernel
theorem dX12_erase_6 : decode cX12_erase 6 = .ok (.iconst 0, 1) := by decide +kernel
theorem dX12_erase_7 : decode cX12_erase 7 = .ok (.putfield 198, 3) := by decide +kernel
theorem dX12_erase_10 : decode cX12_erase 10 = .ok (.iload_n 1, 1) := by decide +kernel
theorem dX12_erase_11 : decode cX12_erase 11 = .ok (.ireturn, 1) := by decide +kernel
theorem dX12_sort_0 : decode cX12_sort 0 = .ok (.iload_n 0, 1) := by decide +kernel
theorem dX12_sort_1 : decode cX12_sort 1 = .ok (.bipush 97, 2) := by decide +kernel
theorem dX12_sort_3 : decode cX12_sort 3 = .ok (.if_icmp .lt 13, 3) := by decide +kernel
theorem dX12_sort_6 : decode cX12_sort 6 = .ok (.iload_n 0, 1) := by decide +kernel
theorem dX12_sort_7 : decode cX12_sort 7 = .ok (.bipush 122, 2) := by decide +kernel
theorem dX12_sort_9 : decode cX12_sort 9 = .ok (.if_icmp .gt 7, 3) := by decide +kernel
theorem dX12_sort_12 : decode cX12_sort 12 = .ok (.iconst 1, 1) := by decide +kernel
theorem dX12_sort_13 : decode cX12_sort 13 = .ok (.goto 20, 3) := by decide +kernel
theorem dX12_sort_16 : decode cX12_sort 16 = .ok (.iload_n 0, 1) := by decide +kernel
theorem dX12_sort_17 : decode cX12_sort 17 = .ok (.bipush 48, 2) := by decide +kernel
theorem dX12_sort_19 : decode cX12_sort 19 = .ok (.if_icmp .lt 13, 3) := by decide +kernel
theorem dX12_sort_22 : decode cX12_sort 22 = .ok (.iload_n 0, 1) := by decide +kernel
theorem dX12_sort_23 : decode cX12_sort 23 = .ok (.bipush 57, 2) := by decide +kernel
theorem dX12_sort_25 : decode cX12_sort 25 = .ok (.if_icmp .gt 7, 3) := by decide +kernel
theorem dX12_sort_28 : decode cX12_sort 28 = .ok (.iconst 2, 1) := by decide +kernel
theorem dX12_sort_29 : decode cX12_sort 29 = .ok (.goto 4, 3) := by decide +kernel
theorem dX12_sort_32 : decode cX12_sort 32 = .ok (.iconst 0, 1) := by decide +kernel
theorem dX12_sort_33 : decode cX12_sort 33 = .ok (.ireturn, 1) := by decide +kernel
theorem dX12_token_0 : decode cX12_token 0 = .ok (.aload_n 0, 1) := by decide +kernel
theorem dX12_token_1 : decode cX12_token 1 = .ok (.getfield 203, 3) := by decide +kernel
theorem dX12_token_4 : decode cX12_token 4 = .ok (.aload_n 0, 1) := by decide +kernel
theorem dX12_token_5 : decode cX12_token 5 = .ok (.getfield 198, 3) := by decide +kernel
theorem dX12_token_8 : decode cX12_token 8 = .ok (.if_icmp .ge 30, 3) := by decide +kernel
theorem dX12_token_11 : decode cX12_token 11 = .ok (.aload_n 0, 1) := by decide +kernel
theorem dX12_token_12 : decode cX12_token 12 = .ok (.getfield 52, 3) := by decide +kernel
theorem dX12_token_15 : decode cX12_token 15 = .ok (.aload_n 0, 1) := by decide +kernel
theorem dX12_token_16 : decode cX12_token 16 = .ok (.getfield 203, 3) := by decide +kernel
theorem dX12_token_19 : decode cX12_token 19 = .ok (.iaload, 1) := by decide +kernel
theorem dX12_token_20 : decode cX12_token 20 = .ok (.bipush 32, 2) := by decide +kernel
theorem dX12_token_22 : decode cX12_token 22 = .ok (.if_icmp .ne 16, 3) := by decide +kernel
theorem dX12_token_25 : decode cX12_token 25 = .ok (.aload_n 0, 1) := by decide +kernel
theorem dX12_token_26 : decode cX12_token 26 = .ok (.dup, 1) := by decide +kernel
theorem dX12_token_27 : decode cX12_token 27 = .ok (.getfield 203, 3) := by decide +kernel
theorem dX12_token_30 : decode cX12_token 30 = .ok (.iconst 1, 1) := by decide +kernel
theorem dX12_token_31 : decode cX12_token 31 = .ok (.iadd, 1) := by decide +kernel
theorem dX12_token_32 : decode cX12_token 32 = .ok (.putfield 203, 3) := by decide +kernel
theorem dX12_token_35 : decode cX12_token 35 = .ok (.goto (-35), 3) := by decide +kernel
theorem dX12_token_38 : decode cX12_token 38 = .ok (.aload_n 0, 1) := by decide +kernel
theorem dX12_token_39 : decode cX12_token 39 = .ok (.aload_n 0, 1) := by decide +kernel
theorem dX12_token_40 : decode cX12_token 40 = .ok (.getfield 203, 3) := by decide +kernel
theorem dX12_token_43 : decode cX12_token 43 = .ok (.putfield 206, 3) := by decide +kernel
theorem dX12_token_46 : decode cX12_token 46 = .ok (.aload_n 0, 1) := by decide +kernel
theorem dX12_token_47 : decode cX12_token 47 = .ok (.dup, 1) := by decide +kernel
theorem dX12_token_48 : decode cX12_token 48 = .ok (.getfield 203, 3) := by decide +kernel
theorem dX12_token_51 : decode cX12_token 51 = .ok (.aload_n 0, 1) := by decide +kernel
theorem dX12_token_52 : decode cX12_token 52 = .ok (.getfield 203, 3) := by decide +kernel
theorem dX12_token_55 : decode cX12_token 55 = .ok (.aload_n 0, 1) := by decide +kernel
theorem dX12_token_56 : decode cX12_token 56 = .ok (.getfield 198, 3) := by decide +kernel
theorem dX12_token_59 : decode cX12_token 59 = .ok (.if_icmp .ge 7, 3) := by decide +kernel
theorem dX12_token_62 : decode cX12_token 62 = .ok (.iconst 1, 1) := by decide +kernel
theorem dX12_token_63 : decode cX12_token 63 = .ok (.goto 4, 3) := by decide +kernel
theorem dX12_token_66 : decode cX12_token 66 = .ok (.iconst 0, 1) := by decide +kernel
theorem dX12_token_67 : decode cX12_token 67 = .ok (.iadd, 1) := by decide +kernel
theorem dX12_token_68 : decode cX12_token 68 = .ok (.putfield 203, 3) := by decide +kernel
theorem dX12_token_71 : decode cX12_token 71 = .ok (.aload_n 0, 1) := by decide +kernel
theorem dX12_token_72 : decode cX12_token 72 = .ok (.getfield 203, 3) := by decide +kernel
theorem dX12_token_75 : decode cX12_token 75 = .ok (.aload_n 0, 1) := by decide +kernel
theorem dX12_token_76 : decode cX12_token 76 = .ok (.getfield 198, 3) := by decide +kernel
theorem dX12_token_79 : decode cX12_token 79 = .ok (.if_icmp .ge 58, 3) := by decide +kernel
theorem dX12_token_82 : decode cX12_token 82 = .ok (.aload_n 0, 1) := by decide +kernel
theorem dX12_token_83 : decode cX12_token 83 = .ok (.getfield 52, 3) := by decide +kernel
theorem dX12_token_86 : decode cX12_token 86 = .ok (.aload_n 0, 1) := by decide +kernel
theorem dX12_token_87 : decode cX12_token 87 = .ok (.getfield 206, 3) := by decide +kernel
theorem dX12_token_90 : decode cX12_token 90 = .ok (.iaload, 1) := by decide +kernel
theorem dX12_token_91 : decode cX12_token 91 = .ok (.invokestatic 209, 3) := by decide +kernel
theorem dX12_token_94 : decode cX12_token 94 = .ok (.ifCond .le 43, 3) := by decide +kernel
theorem dX12_token_97 : decode cX12_token 97 = .ok (.aload_n 0, 1) := by decide +kernel
theorem dX12_token_98 : decode cX12_token 98 = .ok (.getfield 52, 3) := by decide +kernel
theorem dX12_token_101 : decode cX12_token 101 = .ok (.aload_n 0, 1) := by decide +kernel
theorem dX12_token_102 : decode cX12_token 102 = .ok (.getfield 203, 3) := by decide +kernel
theorem dX12_token_105 : decode cX12_token 105 = .ok (.iaload, 1) := by decide +kernel
theorem dX12_token_106 : decode cX12_token 106 = .ok (.invokestatic 209, 3) := by decide +kernel
theorem dX12_token_109 : decode cX12_token 109 = .ok (.aload_n 0, 1) := by decide +kernel
theorem dX12_token_110 : decode cX12_token 110 = .ok (.getfield 52, 3) := by decide +kernel
theorem dX12_token_113 : decode cX12_token 113 = .ok (.aload_n 0, 1) := by decide +kernel
theorem dX12_token_114 : decode cX12_token 114 = .ok (.getfield 206, 3) := by decide +kernel
theorem dX12_token_117 : decode cX12_token 117 = .ok (.iaload, 1) := by decide +kernel
theorem dX12_token_118 : decode cX12_token 118 = .ok (.invokestatic 209, 3) := by decide +kernel
theorem dX12_token_121 : decode cX12_token 121 = .ok (.if_icmp .ne 16, 3) := by decide +kernel
theorem dX12_token_124 : decode cX12_token 124 = .ok (.aload_n 0, 1) := by decide +kernel
theorem dX12_token_125 : decode cX12_token 125 = .ok (.dup, 1) := by decide +kernel
theorem dX12_token_126 : decode cX12_token 126 = .ok (.getfield 203, 3) := by decide +kernel
theorem dX12_token_129 : decode cX12_token 129 = .ok (.iconst 1, 1) := by decide +kernel
theorem dX12_token_130 : decode cX12_token 130 = .ok (.iadd, 1) := by decide +kernel
theorem dX12_token_131 : decode cX12_token 131 = .ok (.putfield 203, 3) := by decide +kernel
theorem dX12_token_134 : decode cX12_token 134 = .ok (.goto (-63), 3) := by decide +kernel
theorem dX12_token_137 : decode cX12_token 137 = .ok (.aload_n 0, 1) := by decide +kernel
theorem dX12_token_138 : decode cX12_token 138 = .ok (.aload_n 0, 1) := by decide +kernel
theorem dX12_token_139 : decode cX12_token 139 = .ok (.getfield 203, 3) := by decide +kernel
theorem dX12_token_142 : decode cX12_token 142 = .ok (.putfield 212, 3) := by decide +kernel
theorem dX12_token_145 : decode cX12_token 145 = .ok (.return_, 1) := by decide +kernel
theorem dX12_isWord_0 : decode cX12_isWord 0 = .ok (.aload_n 0, 1) := by decide +kernel
theorem dX12_isWord_1 : decode cX12_isWord 1 = .ok (.getfield 212, 3) := by decide +kernel
theorem dX12_isWord_4 : decode cX12_isWord 4 = .ok (.aload_n 0, 1) := by decide +kernel
theorem dX12_isWord_5 : decode cX12_isWord 5 = .ok (.getfield 206, 3) := by decide +kernel
theorem dX12_isWord_8 : decode cX12_isWord 8 = .ok (.isub, 1) := by decide +kernel
theorem dX12_isWord_9 : decode cX12_isWord 9 = .ok (.iload_n 2, 1) := by decide +kernel
theorem dX12_isWord_10 : decode cX12_isWord 10 = .ok (.if_icmp .ne 7, 3) := by decide +kernel
theorem dX12_isWord_13 : decode cX12_isWord 13 = .ok (.iconst 1, 1) := by decide +kernel
theorem dX12_isWord_14 : decode cX12_isWord 14 = .ok (.goto 4, 3) := by decide +kernel
theorem dX12_isWord_17 : decode cX12_isWord 17 = .ok (.iconst 0, 1) := by decide +kernel
theorem dX12_isWord_18 : decode cX12_isWord 18 = .ok (.istore_n 3, 1) := by decide +kernel
theorem dX12_isWord_19 : decode cX12_isWord 19 = .ok (.iconst 0, 1) := by decide +kernel
theorem dX12_isWord_20 : decode cX12_isWord 20 = .ok (.istore 4, 2) := by decide +kernel
theorem dX12_isWord_22 : decode cX12_isWord 22 = .ok (.iload_n 3, 1) := by decide +kernel
theorem dX12_isWord_23 : decode cX12_isWord 23 = .ok (.ifCond .eq 48, 3) := by decide +kernel
theorem dX12_isWord_26 : decode cX12_isWord 26 = .ok (.iload 4, 2) := by decide +kernel
theorem dX12_isWord_28 : decode cX12_isWord 28 = .ok (.iload_n 2, 1) := by decide +kernel
theorem dX12_isWord_29 : decode cX12_isWord 29 = .ok (.if_icmp .ge 42, 3) := by decide +kernel
theorem dX12_isWord_32 : decode cX12_isWord 32 = .ok (.aload_n 0, 1) := by decide +kernel
theorem dX12_isWord_33 : decode cX12_isWord 33 = .ok (.getfield 52, 3) := by decide +kernel
theorem dX12_isWord_36 : decode cX12_isWord 36 = .ok (.aload_n 0, 1) := by decide +kernel
theorem dX12_isWord_37 : decode cX12_isWord 37 = .ok (.getfield 206, 3) := by decide +kernel
theorem dX12_isWord_40 : decode cX12_isWord 40 = .ok (.iload 4, 2) := by decide +kernel
theorem dX12_isWord_42 : decode cX12_isWord 42 = .ok (.iadd, 1) := by decide +kernel
theorem dX12_isWord_43 : decode cX12_isWord 43 = .ok (.iaload, 1) := by decide +kernel
theorem dX12_isWord_44 : decode cX12_isWord 44 = .ok (.bipush 96, 2) := by decide +kernel
theorem dX12_isWord_46 : decode cX12_isWord 46 = .ok (.iload_n 1, 1) := by decide +kernel
theorem dX12_isWord_47 : decode cX12_isWord 47 = .ok (.iconst 5, 1) := by decide +kernel
theorem dX12_isWord_48 : decode cX12_isWord 48 = .ok (.iload 4, 2) := by decide +kernel
theorem dX12_isWord_50 : decode cX12_isWord 50 = .ok (.imul, 1) := by decide +kernel
theorem dX12_isWord_51 : decode cX12_isWord 51 = .ok (.ishr, 1) := by decide +kernel
theorem dX12_isWord_52 : decode cX12_isWord 52 = .ok (.bipush 31, 2) := by decide +kernel
theorem dX12_isWord_54 : decode cX12_isWord 54 = .ok (.iand, 1) := by decide +kernel
theorem dX12_isWord_55 : decode cX12_isWord 55 = .ok (.iadd, 1) := by decide +kernel
theorem dX12_isWord_56 : decode cX12_isWord 56 = .ok (.if_icmp .ne 7, 3) := by decide +kernel
theorem dX12_isWord_59 : decode cX12_isWord 59 = .ok (.iconst 1, 1) := by decide +kernel
theorem dX12_isWord_60 : decode cX12_isWord 60 = .ok (.goto 4, 3) := by decide +kernel
theorem dX12_isWord_63 : decode cX12_isWord 63 = .ok (.iconst 0, 1) := by decide +kernel
theorem dX12_isWord_64 : decode cX12_isWord 64 = .ok (.istore_n 3, 1) := by decide +kernel
theorem dX12_isWord_65 : decode cX12_isWord 65 = .ok (.iinc 4 1, 3) := by decide +kernel
theorem dX12_isWord_68 : decode cX12_isWord 68 = .ok (.goto (-46), 3) := by decide +kernel
theorem dX12_isWord_71 : decode cX12_isWord 71 = .ok (.iload_n 3, 1) := by decide +kernel
theorem dX12_isWord_72 : decode cX12_isWord 72 = .ok (.ireturn, 1) := by decide +kernel
theorem dX12_readsLine_0 : decode cX12_readsLine 0 = .ok (.aload_n 0, 1) := by decide +kernel
theorem dX12_readsLine_1 : decode cX12_readsLine 1 = .ok (.ldc 215, 2) := by decide +kernel
theorem dX12_readsLine_3 : decode cX12_readsLine 3 = .ok (.iconst 4, 1) := by decide +kernel
theorem dX12_readsLine_4 : decode cX12_readsLine 4 = .ok (.invokevirtual 216, 3) := by decide +kernel
theorem dX12_readsLine_7 : decode cX12_readsLine 7 = .ok (.ifCond .eq 7, 3) := by decide +kernel
theorem dX12_readsLine_10 : decode cX12_readsLine 10 = .ok (.iconst 0, 1) := by decide +kernel
theorem dX12_readsLine_11 : decode cX12_readsLine 11 = .ok (.goto 75, 3) := by decide +kernel
theorem dX12_readsLine_14 : decode cX12_readsLine 14 = .ok (.aload_n 0, 1) := by decide +kernel
theorem dX12_readsLine_15 : decode cX12_readsLine 15 = .ok (.ldc 220, 2) := by decide +kernel
theorem dX12_readsLine_17 : decode cX12_readsLine 17 = .ok (.iconst 4, 1) := by decide +kernel
theorem dX12_readsLine_18 : decode cX12_readsLine 18 = .ok (.invokevirtual 216, 3) := by decide +kernel
theorem dX12_readsLine_21 : decode cX12_readsLine 21 = .ok (.ifCond .eq 7, 3) := by decide +kernel
theorem dX12_readsLine_24 : decode cX12_readsLine 24 = .ok (.iconst 1, 1) := by decide +kernel
theorem dX12_readsLine_25 : decode cX12_readsLine 25 = .ok (.goto 61, 3) := by decide +kernel
theorem dX12_readsLine_28 : decode cX12_readsLine 28 = .ok (.aload_n 0, 1) := by decide +kernel
theorem dX12_readsLine_29 : decode cX12_readsLine 29 = .ok (.ldc 221, 2) := by decide +kernel
theorem dX12_readsLine_31 : decode cX12_readsLine 31 = .ok (.iconst 4, 1) := by decide +kernel
theorem dX12_readsLine_32 : decode cX12_readsLine 32 = .ok (.invokevirtual 216, 3) := by decide +kernel
theorem dX12_readsLine_35 : decode cX12_readsLine 35 = .ok (.ifCond .eq 7, 3) := by decide +kernel
theorem dX12_readsLine_38 : decode cX12_readsLine 38 = .ok (.iconst 2, 1) := by decide +kernel
theorem dX12_readsLine_39 : decode cX12_readsLine 39 = .ok (.goto 47, 3) := by decide +kernel
theorem dX12_readsLine_42 : decode cX12_readsLine 42 = .ok (.aload_n 0, 1) := by decide +kernel
theorem dX12_readsLine_43 : decode cX12_readsLine 43 = .ok (.ldc 222, 2) := by decide +kernel
theorem dX12_readsLine_45 : decode cX12_readsLine 45 = .ok (.iconst 4, 1) := by decide +kernel
theorem dX12_readsLine_46 : decode cX12_readsLine 46 = .ok (.invokevirtual 216, 3) := by decide +kernel
theorem dX12_readsLine_49 : decode cX12_readsLine 49 = .ok (.ifCond .eq 7, 3) := by decide +kernel
theorem dX12_readsLine_52 : decode cX12_readsLine 52 = .ok (.iconst 3, 1) := by decide +kernel
theorem dX12_readsLine_53 : decode cX12_readsLine 53 = .ok (.goto 33, 3) := by decide +kernel
theorem dX12_readsLine_56 : decode cX12_readsLine 56 = .ok (.aload_n 0, 1) := by decide +kernel
theorem dX12_readsLine_57 : decode cX12_readsLine 57 = .ok (.ldc 223, 2) := by decide +kernel
theorem dX12_readsLine_59 : decode cX12_readsLine 59 = .ok (.iconst 5, 1) := by decide +kernel
theorem dX12_readsLine_60 : decode cX12_readsLine 60 = .ok (.invokevirtual 216, 3) := by decide +kernel
theorem dX12_readsLine_63 : decode cX12_readsLine 63 = .ok (.ifCond .eq 7, 3) := by decide +kernel
theorem dX12_readsLine_66 : decode cX12_readsLine 66 = .ok (.iconst 4, 1) := by decide +kernel
theorem dX12_readsLine_67 : decode cX12_readsLine 67 = .ok (.goto 19, 3) := by decide +kernel
theorem dX12_readsLine_70 : decode cX12_readsLine 70 = .ok (.aload_n 0, 1) := by decide +kernel
theorem dX12_readsLine_71 : decode cX12_readsLine 71 = .ok (.sipush 802, 3) := by decide +kernel
theorem dX12_readsLine_74 : decode cX12_readsLine 74 = .ok (.iconst 2, 1) := by decide +kernel
theorem dX12_readsLine_75 : decode cX12_readsLine 75 = .ok (.invokevirtual 216, 3) := by decide +kernel
theorem dX12_readsLine_78 : decode cX12_readsLine 78 = .ok (.ifCond .eq 7, 3) := by decide +kernel
theorem dX12_readsLine_81 : decode cX12_readsLine 81 = .ok (.iconst 5, 1) := by decide +kernel
theorem dX12_readsLine_82 : decode cX12_readsLine 82 = .ok (.goto 4, 3) := by decide +kernel
theorem dX12_readsLine_85 : decode cX12_readsLine 85 = .ok (.iconst (-1), 1) := by decide +kernel
theorem dX12_readsLine_86 : decode cX12_readsLine 86 = .ok (.istore_n 1, 1) := by decide +kernel
theorem dX12_readsLine_87 : decode cX12_readsLine 87 = .ok (.iload_n 1, 1) := by decide +kernel
theorem dX12_readsLine_88 : decode cX12_readsLine 88 = .ok (.iconst (-1), 1) := by decide +kernel
theorem dX12_readsLine_89 : decode cX12_readsLine 89 = .ok (.if_icmp .ne 5, 3) := by decide +kernel
theorem dX12_readsLine_92 : decode cX12_readsLine 92 = .ok (.iconst 0, 1) := by decide +kernel
theorem dX12_readsLine_93 : decode cX12_readsLine 93 = .ok (.ireturn, 1) := by decide +kernel
theorem dX12_readsLine_94 : decode cX12_readsLine 94 = .ok (.aload_n 0, 1) := by decide +kernel
theorem dX12_readsLine_95 : decode cX12_readsLine 95 = .ok (.invokevirtual 224, 3) := by decide +kernel
theorem dX12_readsLine_98 : decode cX12_readsLine 98 = .ok (.aload_n 0, 1) := by decide +kernel
theorem dX12_readsLine_99 : decode cX12_readsLine 99 = .ok (.getfield 206, 3) := by decide +kernel
theorem dX12_readsLine_102 : decode cX12_readsLine 102 = .ok (.aload_n 0, 1) := by decide +kernel
theorem dX12_readsLine_103 : decode cX12_readsLine 103 = .ok (.getfield 198, 3) := by decide +kernel
theorem dX12_readsLine_106 : decode cX12_readsLine 106 = .ok (.if_icmp .eq 32, 3) := by decide +kernel
theorem dX12_readsLine_109 : decode cX12_readsLine 109 = .ok (.aload_n 0, 1) := by decide +kernel
theorem dX12_readsLine_110 : decode cX12_readsLine 110 = .ok (.getfield 52, 3) := by decide +kernel
theorem dX12_readsLine_113 : decode cX12_readsLine 113 = .ok (.aload_n 0, 1) := by decide +kernel
theorem dX12_readsLine_114 : decode cX12_readsLine 114 = .ok (.getfield 206, 3) := by decide +kernel
theorem dX12_readsLine_117 : decode cX12_readsLine 117 = .ok (.iaload, 1) := by decide +kernel
theorem dX12_readsLine_118 : decode cX12_readsLine 118 = .ok (.invokestatic 209, 3) := by decide +kernel
theorem dX12_readsLine_121 : decode cX12_readsLine 121 = .ok (.iconst 2, 1) := by decide +kernel
theorem dX12_readsLine_122 : decode cX12_readsLine 122 = .ok (.if_icmp .ne 16, 3) := by decide +kernel
theorem dX12_readsLine_125 : decode cX12_readsLine 125 = .ok (.aload_n 0, 1) := by decide +kernel
theorem dX12_readsLine_126 : decode cX12_readsLine 126 = .ok (.getfield 212, 3) := by decide +kernel
theorem dX12_readsLine_129 : decode cX12_readsLine 129 = .ok (.aload_n 0, 1) := by decide +kernel
theorem dX12_readsLine_130 : decode cX12_readsLine 130 = .ok (.getfield 206, 3) := by decide +kernel
theorem dX12_readsLine_133 : decode cX12_readsLine 133 = .ok (.isub, 1) := by decide +kernel
theorem dX12_readsLine_134 : decode cX12_readsLine 134 = .ok (.iconst 3, 1) := by decide +kernel
theorem dX12_readsLine_135 : decode cX12_readsLine 135 = .ok (.if_icmp .le 5, 3) := by decide +kernel
theorem dX12_readsLine_138 : decode cX12_readsLine 138 = .ok (.iconst 0, 1) := by decide +kernel
theorem dX12_readsLine_139 : decode cX12_readsLine 139 = .ok (.ireturn, 1) := by decide +kernel
theorem dX12_readsLine_140 : decode cX12_readsLine 140 = .ok (.iconst 0, 1) := by decide +kernel
theorem dX12_readsLine_141 : decode cX12_readsLine 141 = .ok (.istore_n 2, 1) := by decide +kernel
theorem dX12_readsLine_142 : decode cX12_readsLine 142 = .ok (.aload_n 0, 1) := by decide +kernel
theorem dX12_readsLine_143 : decode cX12_readsLine 143 = .ok (.getfield 206, 3) := by decide +kernel
theorem dX12_readsLine_146 : decode cX12_readsLine 146 = .ok (.istore_n 3, 1) := by decide +kernel
theorem dX12_readsLine_147 : decode cX12_readsLine 147 = .ok (.iload_n 3, 1) := by decide +kernel
theorem dX12_readsLine_148 : decode cX12_readsLine 148 = .ok (.aload_n 0, 1) := by decide +kernel
theorem dX12_readsLine_149 : decode cX12_readsLine 149 = .ok (.getfield 212, 3) := by decide +kernel
theorem dX12_readsLine_152 : decode cX12_readsLine 152 = .ok (.if_icmp .ge 24, 3) := by decide +kernel
theorem dX12_readsLine_155 : decode cX12_readsLine 155 = .ok (.bipush 10, 2) := by decide +kernel
theorem dX12_readsLine_157 : decode cX12_readsLine 157 = .ok (.iload_n 2, 1) := by decide +kernel
theorem dX12_readsLine_158 : decode cX12_readsLine 158 = .ok (.imul, 1) := by decide +kernel
theorem dX12_readsLine_159 : decode cX12_readsLine 159 = .ok (.aload_n 0, 1) := by decide +kernel
theorem dX12_readsLine_160 : decode cX12_readsLine 160 = .ok (.getfield 52, 3) := by decide +kernel
theorem dX12_readsLine_163 : decode cX12_readsLine 163 = .ok (.iload_n 3, 1) := by decide +kernel
theorem dX12_readsLine_164 : decode cX12_readsLine 164 = .ok (.iaload, 1) := by decide +kernel
theorem dX12_readsLine_165 : decode cX12_readsLine 165 = .ok (.iadd, 1) := by decide +kernel
theorem dX12_readsLine_166 : decode cX12_readsLine 166 = .ok (.bipush 48, 2) := by decide +kernel
theorem dX12_readsLine_168 : decode cX12_readsLine 168 = .ok (.isub, 1) := by decide +kernel
theorem dX12_readsLine_169 : decode cX12_readsLine 169 = .ok (.istore_n 2, 1) := by decide +kernel
theorem dX12_readsLine_170 : decode cX12_readsLine 170 = .ok (.iinc 3 1, 3) := by decide +kernel
theorem dX12_readsLine_173 : decode cX12_readsLine 173 = .ok (.goto (-26), 3) := by decide +kernel
theorem dX12_readsLine_176 : decode cX12_readsLine 176 = .ok (.iload_n 2, 1) := by decide +kernel
theorem dX12_readsLine_177 : decode cX12_readsLine 177 = .ok (.i2l, 1) := by decide +kernel
theorem dX12_readsLine_178 : decode cX12_readsLine 178 = .ok (.iload_n 1, 1) := by decide +kernel
theorem dX12_readsLine_179 : decode cX12_readsLine 179 = .ok (.iconst 4, 1) := by decide +kernel
theorem dX12_readsLine_180 : decode cX12_readsLine 180 = .ok (.if_icmp .ne 7, 3) := by decide +kernel
theorem dX12_readsLine_183 : decode cX12_readsLine 183 = .ok (.lconst 1, 1) := by decide +kernel
theorem dX12_readsLine_184 : decode cX12_readsLine 184 = .ok (.goto 4, 3) := by decide +kernel
theorem dX12_readsLine_187 : decode cX12_readsLine 187 = .ok (.lconst 0, 1) := by decide +kernel
theorem dX12_readsLine_188 : decode cX12_readsLine 188 = .ok (.iload_n 1, 1) := by decide +kernel
theorem dX12_readsLine_189 : decode cX12_readsLine 189 = .ok (.iconst 3, 1) := by decide +kernel
theorem dX12_readsLine_190 : decode cX12_readsLine 190 = .ok (.if_icmp .ne 9, 3) := by decide +kernel
theorem dX12_readsLine_193 : decode cX12_readsLine 193 = .ok (.ldc2_w 111, 3) := by decide +kernel
theorem dX12_readsLine_196 : decode cX12_readsLine 196 = .ok (.goto 28, 3) := by decide +kernel
theorem dX12_readsLine_199 : decode cX12_readsLine 199 = .ok (.iload_n 1, 1) := by decide +kernel
theorem dX12_readsLine_200 : decode cX12_readsLine 200 = .ok (.iconst 4, 1) := by decide +kernel
theorem dX12_readsLine_201 : decode cX12_readsLine 201 = .ok (.if_icmp .ne 9, 3) := by decide +kernel
theorem dX12_readsLine_204 : decode cX12_readsLine 204 = .ok (.ldc2_w 109, 3) := by decide +kernel
theorem dX12_readsLine_207 : decode cX12_readsLine 207 = .ok (.goto 17, 3) := by decide +kernel
theorem dX12_readsLine_210 : decode cX12_readsLine 210 = .ok (.iload_n 1, 1) := by decide +kernel
theorem dX12_readsLine_211 : decode cX12_readsLine 211 = .ok (.iconst 5, 1) := by decide +kernel
theorem dX12_readsLine_212 : decode cX12_readsLine 212 = .ok (.if_icmp .ne 9, 3) := by decide +kernel
theorem dX12_readsLine_215 : decode cX12_readsLine 215 = .ok (.ldc2_w 85, 3) := by decide +kernel
theorem dX12_readsLine_218 : decode cX12_readsLine 218 = .ok (.goto 6, 3) := by decide +kernel
theorem dX12_readsLine_221 : decode cX12_readsLine 221 = .ok (.ldc2_w 121, 3) := by decide +kernel
theorem dX12_readsLine_224 : decode cX12_readsLine 224 = .ok (.invokestatic 87, 3) := by decide +kernel
theorem dX12_readsLine_227 : decode cX12_readsLine 227 = .ok (.ifCond .ne 5, 3) := by decide +kernel
theorem dX12_readsLine_230 : decode cX12_readsLine 230 = .ok (.iconst 0, 1) := by decide +kernel
theorem dX12_readsLine_231 : decode cX12_readsLine 231 = .ok (.ireturn, 1) := by decide +kernel
theorem dX12_readsLine_232 : decode cX12_readsLine 232 = .ok (.aload_n 0, 1) := by decide +kernel
theorem dX12_readsLine_233 : decode cX12_readsLine 233 = .ok (.getfield 58, 3) := by decide +kernel
theorem dX12_readsLine_236 : decode cX12_readsLine 236 = .ok (.iload_n 1, 1) := by decide +kernel
theorem dX12_readsLine_237 : decode cX12_readsLine 237 = .ok (.iload_n 2, 1) := by decide +kernel
theorem dX12_readsLine_238 : decode cX12_readsLine 238 = .ok (.iastore, 1) := by decide +kernel
theorem dX12_readsLine_239 : decode cX12_readsLine 239 = .ok (.aload_n 0, 1) := by decide +kernel
theorem dX12_readsLine_240 : decode cX12_readsLine 240 = .ok (.dup, 1) := by decide +kernel
theorem dX12_readsLine_241 : decode cX12_readsLine 241 = .ok (.getfield 227, 3) := by decide +kernel
theorem dX12_readsLine_244 : decode cX12_readsLine 244 = .ok (.iconst 1, 1) := by decide +kernel
theorem dX12_readsLine_245 : decode cX12_readsLine 245 = .ok (.iadd, 1) := by decide +kernel
theorem dX12_readsLine_246 : decode cX12_readsLine 246 = .ok (.putfield 227, 3) := by decide +kernel
theorem dX12_readsLine_249 : decode cX12_readsLine 249 = .ok (.aload_n 0, 1) := by decide +kernel
theorem dX12_readsLine_250 : decode cX12_readsLine 250 = .ok (.invokevirtual 224, 3) := by decide +kernel
theorem dX12_readsLine_253 : decode cX12_readsLine 253 = .ok (.iconst 1, 1) := by decide +kernel
theorem dX12_readsLine_254 : decode cX12_readsLine 254 = .ok (.ireturn, 1) := by decide +kernel
theorem dX12_fault_0 : decode cX12_fault 0 = .ok (.aload_n 0, 1) := by decide +kernel
theorem dX12_fault_1 : decode cX12_fault 1 = .ok (.iconst 0, 1) := by decide +kernel
theorem dX12_fault_2 : decode cX12_fault 2 = .ok (.putfield 203, 3) := by decide +kernel
theorem dX12_fault_5 : decode cX12_fault 5 = .ok (.aload_n 0, 1) := by decide +kernel
theorem dX12_fault_6 : decode cX12_fault 6 = .ok (.iconst 0, 1) := by decide +kernel
theorem dX12_fault_7 : decode cX12_fault 7 = .ok (.putfield 227, 3) := by decide +kernel
theorem dX12_fault_10 : decode cX12_fault 10 = .ok (.iconst 0, 1) := by decide +kernel
theorem dX12_fault_11 : decode cX12_fault 11 = .ok (.istore_n 1, 1) := by decide +kernel
theorem dX12_fault_12 : decode cX12_fault 12 = .ok (.iload_n 1, 1) := by decide +kernel
theorem dX12_fault_13 : decode cX12_fault 13 = .ok (.bipush 6, 2) := by decide +kernel
theorem dX12_fault_15 : decode cX12_fault 15 = .ok (.if_icmp .ge 45, 3) := by decide +kernel
theorem dX12_fault_18 : decode cX12_fault 18 = .ok (.aload_n 0, 1) := by decide +kernel
theorem dX12_fault_19 : decode cX12_fault 19 = .ok (.getfield 58, 3) := by decide +kernel
theorem dX12_fault_22 : decode cX12_fault 22 = .ok (.iload_n 1, 1) := by decide +kernel
theorem dX12_fault_23 : decode cX12_fault 23 = .ok (.iload_n 1, 1) := by decide +kernel
theorem dX12_fault_24 : decode cX12_fault 24 = .ok (.iconst 1, 1) := by decide +kernel
theorem dX12_fault_25 : decode cX12_fault 25 = .ok (.if_icmp .ne 8, 3) := by decide +kernel
theorem dX12_fault_28 : decode cX12_fault 28 = .ok (.bipush 100, 2) := by decide +kernel
theorem dX12_fault_30 : decode cX12_fault 30 = .ok (.goto 23, 3) := by decide +kernel
theorem dX12_fault_33 : decode cX12_fault 33 = .ok (.iload_n 1, 1) := by decide +kernel
theorem dX12_fault_34 : decode cX12_fault 34 = .ok (.iconst 3, 1) := by decide +kernel
theorem dX12_fault_35 : decode cX12_fault 35 = .ok (.if_icmp .ne 8, 3) := by decide +kernel
theorem dX12_fault_38 : decode cX12_fault 38 = .ok (.bipush 35, 2) := by decide +kernel
theorem dX12_fault_40 : decode cX12_fault 40 = .ok (.goto 13, 3) := by decide +kernel
theorem dX12_fault_43 : decode cX12_fault 43 = .ok (.iload_n 1, 1) := by decide +kernel
theorem dX12_fault_44 : decode cX12_fault 44 = .ok (.iconst 4, 1) := by decide +kernel
theorem dX12_fault_45 : decode cX12_fault 45 = .ok (.if_icmp .ne 7, 3) := by decide +kernel
theorem dX12_fault_48 : decode cX12_fault 48 = .ok (.iconst 1, 1) := by decide +kernel
theorem dX12_fault_49 : decode cX12_fault 49 = .ok (.goto 4, 3) := by decide +kernel
theorem dX12_fault_52 : decode cX12_fault 52 = .ok (.iconst 0, 1) := by decide +kernel
theorem dX12_fault_53 : decode cX12_fault 53 = .ok (.iastore, 1) := by decide +kernel
theorem dX12_fault_54 : decode cX12_fault 54 = .ok (.iinc 1 1, 3) := by decide +kernel
theorem dX12_fault_57 : decode cX12_fault 57 = .ok (.goto (-45), 3) := by decide +kernel
theorem dX12_fault_60 : decode cX12_fault 60 = .ok (.aload_n 0, 1) := by decide +kernel
theorem dX12_fault_61 : decode cX12_fault 61 = .ok (.invokevirtual 224, 3) := by decide +kernel
theorem dX12_fault_64 : decode cX12_fault 64 = .ok (.aload_n 0, 1) := by decide +kernel
theorem dX12_fault_65 : decode cX12_fault 65 = .ok (.invokevirtual 230, 3) := by decide +kernel
theorem dX12_fault_68 : decode cX12_fault 68 = .ok (.ifCond .ne 8, 3) := by decide +kernel
theorem dX12_fault_71 : decode cX12_fault 71 = .ok (.aload_n 0, 1) := by decide +kernel
theorem dX12_fault_72 : decode cX12_fault 72 = .ok (.getfield 206, 3) := by decide +kernel
theorem dX12_fault_75 : decode cX12_fault 75 = .ok (.ireturn, 1) := by decide +kernel
theorem dX12_fault_76 : decode cX12_fault 76 = .ok (.aload_n 0, 1) := by decide +kernel
theorem dX12_fault_77 : decode cX12_fault 77 = .ok (.getfield 206, 3) := by decide +kernel
theorem dX12_fault_80 : decode cX12_fault 80 = .ok (.aload_n 0, 1) := by decide +kernel
theorem dX12_fault_81 : decode cX12_fault 81 = .ok (.getfield 198, 3) := by decide +kernel
theorem dX12_fault_84 : decode cX12_fault 84 = .ok (.if_icmp .ge 70, 3) := by decide +kernel
theorem dX12_fault_87 : decode cX12_fault 87 = .ok (.aload_n 0, 1) := by decide +kernel
theorem dX12_fault_88 : decode cX12_fault 88 = .ok (.getfield 212, 3) := by decide +kernel
theorem dX12_fault_91 : decode cX12_fault 91 = .ok (.aload_n 0, 1) := by decide +kernel
theorem dX12_fault_92 : decode cX12_fault 92 = .ok (.getfield 206, 3) := by decide +kernel
theorem dX12_fault_95 : decode cX12_fault 95 = .ok (.isub, 1) := by decide +kernel
theorem dX12_fault_96 : decode cX12_fault 96 = .ok (.iconst 1, 1) := by decide +kernel
theorem dX12_fault_97 : decode cX12_fault 97 = .ok (.if_icmp .ne 30, 3) := by decide +kernel
theorem dX12_fault_100 : decode cX12_fault 100 = .ok (.aload_n 0, 1) := by decide +kernel
theorem dX12_fault_101 : decode cX12_fault 101 = .ok (.getfield 52, 3) := by decide +kernel
theorem dX12_fault_104 : decode cX12_fault 104 = .ok (.aload_n 0, 1) := by decide +kernel
theorem dX12_fault_105 : decode cX12_fault 105 = .ok (.getfield 206, 3) := by decide +kernel
theorem dX12_fault_108 : decode cX12_fault 108 = .ok (.iaload, 1) := by decide +kernel
theorem dX12_fault_109 : decode cX12_fault 109 = .ok (.bipush 59, 2) := by decide +kernel
theorem dX12_fault_111 : decode cX12_fault 111 = .ok (.if_icmp .ne 16, 3) := by decide +kernel
theorem dX12_fault_114 : decode cX12_fault 114 = .ok (.aload_n 0, 1) := by decide +kernel
theorem dX12_fault_115 : decode cX12_fault 115 = .ok (.getfield 227, 3) := by decide +kernel
theorem dX12_fault_118 : decode cX12_fault 118 = .ok (.bipush 8, 2) := by decide +kernel
theorem dX12_fault_120 : decode cX12_fault 120 = .ok (.if_icmp .ge 7, 3) := by decide +kernel
theorem dX12_fault_123 : decode cX12_fault 123 = .ok (.iconst 1, 1) := by decide +kernel
theorem dX12_fault_124 : decode cX12_fault 124 = .ok (.goto 4, 3) := by decide +kernel
theorem dX12_fault_127 : decode cX12_fault 127 = .ok (.iconst 0, 1) := by decide +kernel
theorem dX12_fault_128 : decode cX12_fault 128 = .ok (.istore_n 1, 1) := by decide +kernel
theorem dX12_fault_129 : decode cX12_fault 129 = .ok (.iload_n 1, 1) := by decide +kernel
theorem dX12_fault_130 : decode cX12_fault 130 = .ok (.ifCond .eq 12, 3) := by decide +kernel
theorem dX12_fault_133 : decode cX12_fault 133 = .ok (.aload_n 0, 1) := by decide +kernel
theorem dX12_fault_134 : decode cX12_fault 134 = .ok (.invokevirtual 224, 3) := by decide +kernel
theorem dX12_fault_137 : decode cX12_fault 137 = .ok (.aload_n 0, 1) := by decide +kernel
theorem dX12_fault_138 : decode cX12_fault 138 = .ok (.invokevirtual 230, 3) := by decide +kernel
theorem dX12_fault_141 : decode cX12_fault 141 = .ok (.istore_n 1, 1) := by decide +kernel
theorem dX12_fault_142 : decode cX12_fault 142 = .ok (.iload_n 1, 1) := by decide +kernel
theorem dX12_fault_143 : decode cX12_fault 143 = .ok (.ifCond .ne 8, 3) := by decide +kernel
theorem dX12_fault_146 : decode cX12_fault 146 = .ok (.aload_n 0, 1) := by decide +kernel
theorem dX12_fault_147 : decode cX12_fault 147 = .ok (.getfield 206, 3) := by decide +kernel
theorem dX12_fault_150 : decode cX12_fault 150 = .ok (.ireturn, 1) := by decide +kernel
theorem dX12_fault_151 : decode cX12_fault 151 = .ok (.goto (-75), 3) := by decide +kernel
theorem dX12_fault_154 : decode cX12_fault 154 = .ok (.iconst (-1), 1) := by decide +kernel
theorem dX12_fault_155 : decode cX12_fault 155 = .ok (.ireturn, 1) := by decide +kernel
theorem dX12_steerer_0 : decode cX12_steerer 0 = .ok (.aload_n 0, 1) := by decide +kernel
theorem dX12_steerer_1 : decode cX12_steerer 1 = .ok (.invokevirtual 234, 3) := by decide +kernel
theorem dX12_steerer_4 : decode cX12_steerer 4 = .ok (.iconst (-1), 1) := by decide +kernel
theorem dX12_steerer_5 : decode cX12_steerer 5 = .ok (.if_icmp .eq 6, 3) := by decide +kernel
theorem dX12_steerer_8 : decode cX12_steerer 8 = .ok (.bipush (-4), 2) := by decide +kernel
theorem dX12_steerer_10 : decode cX12_steerer 10 = .ok (.ireturn, 1) := by decide +kernel
theorem dX12_steerer_11 : decode cX12_steerer 11 = .ok (.iconst 0, 1) := by decide +kernel
theorem dX12_steerer_12 : decode cX12_steerer 12 = .ok (.istore_n 1, 1) := by decide +kernel
theorem dX12_steerer_13 : decode cX12_steerer 13 = .ok (.iload_n 1, 1) := by decide +kernel
theorem dX12_steerer_14 : decode cX12_steerer 14 = .ok (.bipush 6, 2) := by decide +kernel
theorem dX12_steerer_16 : decode cX12_steerer 16 = .ok (.if_icmp .ge 21, 3) := by decide +kernel
theorem dX12_steerer_19 : decode cX12_steerer 19 = .ok (.aload_n 0, 1) := by decide +kernel
theorem dX12_steerer_20 : decode cX12_steerer 20 = .ok (.getfield 55, 3) := by decide +kernel
theorem dX12_steerer_23 : decode cX12_steerer 23 = .ok (.iload_n 1, 1) := by decide +kernel
theorem dX12_steerer_24 : decode cX12_steerer 24 = .ok (.aload_n 0, 1) := by decide +kernel
theorem dX12_steerer_25 : decode cX12_steerer 25 = .ok (.getfield 58, 3) := by decide +kernel
theorem dX12_steerer_28 : decode cX12_steerer 28 = .ok (.iload_n 1, 1) := by decide +kernel
theorem dX12_steerer_29 : decode cX12_steerer 29 = .ok (.iaload, 1) := by decide +kernel
theorem dX12_steerer_30 : decode cX12_steerer 30 = .ok (.iastore, 1) := by decide +kernel
theorem dX12_steerer_31 : decode cX12_steerer 31 = .ok (.iinc 1 1, 3) := by decide +kernel
theorem dX12_steerer_34 : decode cX12_steerer 34 = .ok (.goto (-21), 3) := by decide +kernel
theorem dX12_steerer_37 : decode cX12_steerer 37 = .ok (.aload_n 0, 1) := by decide +kernel
theorem dX12_steerer_38 : decode cX12_steerer 38 = .ok (.getfield 19, 3) := by decide +kernel
theorem dX12_steerer_41 : decode cX12_steerer 41 = .ok (.iconst 0, 1) := by decide +kernel
theorem dX12_steerer_42 : decode cX12_steerer 42 = .ok (.iconst (-1), 1) := by decide +kernel
theorem dX12_steerer_43 : decode cX12_steerer 43 = .ok (.iastore, 1) := by decide +kernel
theorem dX12_steerer_44 : decode cX12_steerer 44 = .ok (.aload_n 0, 1) := by decide +kernel
theorem dX12_steerer_45 : decode cX12_steerer 45 = .ok (.iconst 0, 1) := by decide +kernel
theorem dX12_steerer_46 : decode cX12_steerer 46 = .ok (.putfield 198, 3) := by decide +kernel
theorem dX12_steerer_49 : decode cX12_steerer 49 = .ok (.aload_n 0, 1) := by decide +kernel
theorem dX12_steerer_50 : decode cX12_steerer 50 = .ok (.getfield 227, 3) := by decide +kernel
theorem dX12_steerer_53 : decode cX12_steerer 53 = .ok (.ireturn, 1) := by decide +kernel
theorem dX12_steers_0 : decode cX12_steers 0 = .ok (.iload_n 1, 1) := by decide +kernel
theorem dX12_steers_1 : decode cX12_steers 1 = .ok (.i2l, 1) := by decide +kernel
theorem dX12_steers_2 : decode cX12_steers 2 = .ok (.lconst 0, 1) := by decide +kernel
theorem dX12_steers_3 : decode cX12_steers 3 = .ok (.ldc2_w 130, 3) := by decide +kernel
theorem dX12_steers_6 : decode cX12_steers 6 = .ok (.invokestatic 87, 3) := by decide +kernel
theorem dX12_steers_9 : decode cX12_steers 9 = .ok (.ifCond .eq 12, 3) := by decide +kernel
theorem dX12_steers_12 : decode cX12_steers 12 = .ok (.aload_n 0, 1) := by decide +kernel
theorem dX12_steers_13 : decode cX12_steers 13 = .ok (.getfield 55, 3) := by decide +kernel
theorem dX12_steers_16 : decode cX12_steers 16 = .ok (.iload_n 1, 1) := by decide +kernel
theorem dX12_steers_17 : decode cX12_steers 17 = .ok (.iaload, 1) := by decide +kernel
theorem dX12_steers_18 : decode cX12_steers 18 = .ok (.goto 5, 3) := by decide +kernel
theorem dX12_steers_21 : decode cX12_steers 21 = .ok (.bipush (-3), 2) := by decide +kernel
theorem dX12_steers_23 : decode cX12_steers 23 = .ok (.ireturn, 1) := by decide +kernel
theorem dX12_course_0 : decode cX12_course 0 = .ok (.iload_n 1, 1) := by decide +kernel
theorem dX12_course_1 : decode cX12_course 1 = .ok (.invokestatic 115, 3) := by decide +kernel
theorem dX12_course_4 : decode cX12_course 4 = .ok (.ifCond .ne 6, 3) := by decide +kernel
theorem dX12_course_7 : decode cX12_course 7 = .ok (.bipush (-3), 2) := by decide +kernel
theorem dX12_course_9 : decode cX12_course 9 = .ok (.ireturn, 1) := by decide +kernel
theorem dX12_course_10 : decode cX12_course 10 = .ok (.aload_n 0, 1) := by decide +kernel
theorem dX12_course_11 : decode cX12_course 11 = .ok (.getfield 183, 3) := by decide +kernel
theorem dX12_course_14 : decode cX12_course 14 = .ok (.istore_n 2, 1) := by decide +kernel
theorem dX12_course_15 : decode cX12_course 15 = .ok (.aload_n 0, 1) := by decide +kernel
theorem dX12_course_16 : decode cX12_course 16 = .ok (.iload_n 1, 1) := by decide +kernel
theorem dX12_course_17 : decode cX12_course 17 = .ok (.putfield 183, 3) := by decide +kernel
theorem dX12_course_20 : decode cX12_course 20 = .ok (.aload_n 0, 1) := by decide +kernel
theorem dX12_course_21 : decode cX12_course 21 = .ok (.getfield 19, 3) := by decide +kernel
theorem dX12_course_24 : decode cX12_course 24 = .ok (.iconst 0, 1) := by decide +kernel
theorem dX12_course_25 : decode cX12_course 25 = .ok (.iconst (-1), 1) := by decide +kernel
theorem dX12_course_26 : decode cX12_course 26 = .ok (.iastore, 1) := by decide +kernel
theorem dX12_course_27 : decode cX12_course 27 = .ok (.iload_n 2, 1) := by decide +kernel
theorem dX12_course_28 : decode cX12_course 28 = .ok (.ireturn, 1) := by decide +kernel
theorem dX12_laySwing_0 : decode cX12_laySwing 0 = .ok (.iconst 0, 1) := by decide +kernel
theorem dX12_laySwing_1 : decode cX12_laySwing 1 = .ok (.istore 7, 2) := by decide +kernel
theorem dX12_laySwing_3 : decode cX12_laySwing 3 = .ok (.aload_n 0, 1) := by decide +kernel
theorem dX12_laySwing_4 : decode cX12_laySwing 4 = .ok (.getfield 76, 3) := by decide +kernel
theorem dX12_laySwing_7 : decode cX12_laySwing 7 = .ok (.iconst 0, 1) := by decide +kernel
theorem dX12_laySwing_8 : decode cX12_laySwing 8 = .ok (.iload 5, 2) := by decide +kernel
theorem dX12_laySwing_10 : decode cX12_laySwing 10 = .ok (.iastore, 1) := by decide +kernel
theorem dX12_laySwing_11 : decode cX12_laySwing 11 = .ok (.iconst 1, 1) := by decide +kernel
theorem dX12_laySwing_12 : decode cX12_laySwing 12 = .ok (.istore 8, 2) := by decide +kernel
theorem dX12_laySwing_14 : decode cX12_laySwing 14 = .ok (.iload 8, 2) := by decide +kernel
theorem dX12_laySwing_16 : decode cX12_laySwing 16 = .ok (.iload 6, 2) := by decide +kernel
theorem dX12_laySwing_18 : decode cX12_laySwing 18 = .ok (.if_icmp .gt 73, 3) := by decide +kernel
theorem dX12_laySwing_21 : decode cX12_laySwing 21 = .ok (.iload 7, 2) := by decide +kernel
theorem dX12_laySwing_23 : decode cX12_laySwing 23 = .ok (.iload_n 1, 1) := by decide +kernel
theorem dX12_laySwing_24 : decode cX12_laySwing 24 = .ok (.iload 4, 2) := by decide +kernel
theorem dX12_laySwing_26 : decode cX12_laySwing 26 = .ok (.aload_n 0, 1) := by decide +kernel
theorem dX12_laySwing_27 : decode cX12_laySwing 27 = .ok (.getfield 76, 3) := by decide +kernel
theorem dX12_laySwing_30 : decode cX12_laySwing 30 = .ok (.iload 8, 2) := by decide +kernel
theorem dX12_laySwing_32 : decode cX12_laySwing 32 = .ok (.iconst 1, 1) := by decide +kernel
theorem dX12_laySwing_33 : decode cX12_laySwing 33 = .ok (.isub, 1) := by decide +kernel
theorem dX12_laySwing_34 : decode cX12_laySwing 34 = .ok (.iaload, 1) := by decide +kernel
theorem dX12_laySwing_35 : decode cX12_laySwing 35 = .ok (.invokestatic 170, 3) := by decide +kernel
theorem dX12_laySwing_38 : decode cX12_laySwing 38 = .ok (.istore 7, 2) := by decide +kernel
theorem dX12_laySwing_40 : decode cX12_laySwing 40 = .ok (.iload_n 3, 1) := by decide +kernel
theorem dX12_laySwing_41 : decode cX12_laySwing 41 = .ok (.ifCond .eq 12, 3) := by decide +kernel
theorem dX12_laySwing_44 : decode cX12_laySwing 44 = .ok (.iload 7, 2) := by decide +kernel
theorem dX12_laySwing_46 : decode cX12_laySwing 46 = .ok (.iload_n 2, 1) := by decide +kernel
theorem dX12_laySwing_47 : decode cX12_laySwing 47 = .ok (.invokestatic 174, 3) := by decide +kernel
theorem dX12_laySwing_50 : decode cX12_laySwing 50 = .ok (.goto 5, 3) := by decide +kernel
theorem dX12_laySwing_53 : decode cX12_laySwing 53 = .ok (.iload 7, 2) := by decide +kernel
theorem dX12_laySwing_55 : decode cX12_laySwing 55 = .ok (.sipush 9999, 3) := by decide +kernel
theorem dX12_laySwing_58 : decode cX12_laySwing 58 = .ok (.invokestatic 180, 3) := by decide +kernel
theorem dX12_laySwing_61 : decode cX12_laySwing 61 = .ok (.istore 7, 2) := by decide +kernel
theorem dX12_laySwing_63 : decode cX12_laySwing 63 = .ok (.aload_n 0, 1) := by decide +kernel
theorem dX12_laySwing_64 : decode cX12_laySwing 64 = .ok (.getfield 76, 3) := by decide +kernel
theorem dX12_laySwing_67 : decode cX12_laySwing 67 = .ok (.iload 8, 2) := by decide +kernel
theorem dX12_laySwing_69 : decode cX12_laySwing 69 = .ok (.aload_n 0, 1) := by decide +kernel
theorem dX12_laySwing_70 : decode cX12_laySwing 70 = .ok (.getfield 76, 3) := by decide +kernel
theorem dX12_laySwing_73 : decode cX12_laySwing 73 = .ok (.iload 8, 2) := by decide +kernel
theorem dX12_laySwing_75 : decode cX12_laySwing 75 = .ok (.iconst 1, 1) := by decide +kernel
theorem dX12_laySwing_76 : decode cX12_laySwing 76 = .ok (.isub, 1) := by decide +kernel
theorem dX12_laySwing_77 : decode cX12_laySwing 77 = .ok (.iaload, 1) := by decide +kernel
theorem dX12_laySwing_78 : decode cX12_laySwing 78 = .ok (.iload 7, 2) := by decide +kernel
theorem dX12_laySwing_80 : decode cX12_laySwing 80 = .ok (.iadd, 1) := by decide +kernel
theorem dX12_laySwing_81 : decode cX12_laySwing 81 = .ok (.invokestatic 167, 3) := by decide +kernel
theorem dX12_laySwing_84 : decode cX12_laySwing 84 = .ok (.iastore, 1) := by decide +kernel
theorem dX12_laySwing_85 : decode cX12_laySwing 85 = .ok (.iinc 8 1, 3) := by decide +kernel
theorem dX12_laySwing_88 : decode cX12_laySwing 88 = .ok (.goto (-74), 3) := by decide +kernel
theorem dX12_laySwing_91 : decode cX12_laySwing 91 = .ok (.return_, 1) := by decide +kernel
theorem dX12_crosses_0 : decode cX12_crosses 0 = .ok (.iconst 1, 1) := by decide +kernel
theorem dX12_crosses_1 : decode cX12_crosses 1 = .ok (.istore_n 1, 1) := by decide +kernel
theorem dX12_crosses_2 : decode cX12_crosses 2 = .ok (.iload_n 1, 1) := by decide +kernel
theorem dX12_crosses_3 : decode cX12_crosses 3 = .ok (.sipush 600, 3) := by decide +kernel
theorem dX12_crosses_6 : decode cX12_crosses 6 = .ok (.if_icmp .gt 51, 3) := by decide +kernel
theorem dX12_crosses_9 : decode cX12_crosses 9 = .ok (.aload_n 0, 1) := by decide +kernel
theorem dX12_crosses_10 : decode cX12_crosses 10 = .ok (.getfield 76, 3) := by decide +kernel
theorem dX12_crosses_13 : decode cX12_crosses 13 = .ok (.iload_n 1, 1) := by decide +kernel
theorem dX12_crosses_14 : decode cX12_crosses 14 = .ok (.iaload, 1) := by decide +kernel
theorem dX12_crosses_15 : decode cX12_crosses 15 = .ok (.ifCond .eq 34, 3) := by decide +kernel
theorem dX12_crosses_18 : decode cX12_crosses 18 = .ok (.aload_n 0, 1) := by decide +kernel
theorem dX12_crosses_19 : decode cX12_crosses 19 = .ok (.getfield 76, 3) := by decide +kernel
theorem dX12_crosses_22 : decode cX12_crosses 22 = .ok (.iload_n 1, 1) := by decide +kernel
theorem dX12_crosses_23 : decode cX12_crosses 23 = .ok (.iaload, 1) := by decide +kernel
theorem dX12_crosses_24 : decode cX12_crosses 24 = .ok (.ifCond .ge 7, 3) := by decide +kernel
theorem dX12_crosses_27 : decode cX12_crosses 27 = .ok (.iconst 1, 1) := by decide +kernel
theorem dX12_crosses_28 : decode cX12_crosses 28 = .ok (.goto 4, 3) := by decide +kernel
theorem dX12_crosses_31 : decode cX12_crosses 31 = .ok (.iconst 0, 1) := by decide +kernel
theorem dX12_crosses_32 : decode cX12_crosses 32 = .ok (.aload_n 0, 1) := by decide +kernel
theorem dX12_crosses_33 : decode cX12_crosses 33 = .ok (.getfield 76, 3) := by decide +kernel
theorem dX12_crosses_36 : decode cX12_crosses 36 = .ok (.iconst 0, 1) := by decide +kernel
theorem dX12_crosses_37 : decode cX12_crosses 37 = .ok (.iaload, 1) := by decide +kernel
theorem dX12_crosses_38 : decode cX12_crosses 38 = .ok (.ifCond .ge 7, 3) := by decide +kernel
theorem dX12_crosses_41 : decode cX12_crosses 41 = .ok (.iconst 1, 1) := by decide +kernel
theorem dX12_crosses_42 : decode cX12_crosses 42 = .ok (.goto 4, 3) := by decide +kernel
theorem dX12_crosses_45 : decode cX12_crosses 45 = .ok (.iconst 0, 1) := by decide +kernel
theorem dX12_crosses_46 : decode cX12_crosses 46 = .ok (.if_icmp .eq 5, 3) := by decide +kernel
theorem dX12_crosses_49 : decode cX12_crosses 49 = .ok (.iload_n 1, 1) := by decide +kernel
theorem dX12_crosses_50 : decode cX12_crosses 50 = .ok (.ireturn, 1) := by decide +kernel
theorem dX12_crosses_51 : decode cX12_crosses 51 = .ok (.iinc 1 1, 3) := by decide +kernel
theorem dX12_crosses_54 : decode cX12_crosses 54 = .ok (.goto (-52), 3) := by decide +kernel
theorem dX12_crosses_57 : decode cX12_crosses 57 = .ok (.iconst (-1), 1) := by decide +kernel
theorem dX12_crosses_58 : decode cX12_crosses 58 = .ok (.ireturn, 1) := by decide +kernel
theorem dX12_rests_0 : decode cX12_rests 0 = .ok (.sipush 600, 3) := by decide +kernel
theorem dX12_rests_3 : decode cX12_rests 3 = .ok (.istore_n 1, 1) := by decide +kernel
theorem dX12_rests_4 : decode cX12_rests 4 = .ok (.aload_n 0, 1) := by decide +kernel
theorem dX12_rests_5 : decode cX12_rests 5 = .ok (.getfield 76, 3) := by decide +kernel
theorem dX12_rests_8 : decode cX12_rests 8 = .ok (.iload_n 1, 1) := by decide +kernel
theorem dX12_rests_9 : decode cX12_rests 9 = .ok (.iaload, 1) := by decide +kernel
theorem dX12_rests_10 : decode cX12_rests 10 = .ok (.invokestatic 96, 3) := by decide +kernel
theorem dX12_rests_13 : decode cX12_rests 13 = .ok (.bipush 100, 2) := by decide +kernel
theorem dX12_rests_15 : decode cX12_rests 15 = .ok (.if_icmp .le 5, 3) := by decide +kernel
theorem dX12_rests_18 : decode cX12_rests 18 = .ok (.iconst (-1), 1) := by decide +kernel
theorem dX12_rests_19 : decode cX12_rests 19 = .ok (.ireturn, 1) := by decide +kernel
theorem dX12_rests_20 : decode cX12_rests 20 = .ok (.iload_n 1, 1) := by decide +kernel
theorem dX12_rests_21 : decode cX12_rests 21 = .ok (.ifCond .le 25, 3) := by decide +kernel
theorem dX12_rests_24 : decode cX12_rests 24 = .ok (.aload_n 0, 1) := by decide +kernel
theorem dX12_rests_25 : decode cX12_rests 25 = .ok (.getfield 76, 3) := by decide +kernel
theorem dX12_rests_28 : decode cX12_rests 28 = .ok (.iload_n 1, 1) := by decide +kernel
theorem dX12_rests_29 : decode cX12_rests 29 = .ok (.iconst 1, 1) := by decide +kernel
theorem dX12_rests_30 : decode cX12_rests 30 = .ok (.isub, 1) := by decide +kernel
theorem dX12_rests_31 : decode cX12_rests 31 = .ok (.iaload, 1) := by decide +kernel
theorem dX12_rests_32 : decode cX12_rests 32 = .ok (.invokestatic 96, 3) := by decide +kernel
theorem dX12_rests_35 : decode cX12_rests 35 = .ok (.bipush 100, 2) := by decide +kernel
theorem dX12_rests_37 : decode cX12_rests 37 = .ok (.if_icmp .gt 9, 3) := by decide +kernel
theorem dX12_rests_40 : decode cX12_rests 40 = .ok (.iinc 1 (-1), 3) := by decide +kernel
theorem dX12_rests_43 : decode cX12_rests 43 = .ok (.goto (-23), 3) := by decide +kernel
theorem dX12_rests_46 : decode cX12_rests 46 = .ok (.iload_n 1, 1) := by decide +kernel
theorem dX12_rests_47 : decode cX12_rests 47 = .ok (.ireturn, 1) := by decide +kernel
theorem dX12_swing_0 : decode cX12_swing 0 = .ok (.iload_n 1, 1) := by decide +kernel
theorem dX12_swing_1 : decode cX12_swing 1 = .ok (.invokestatic 127, 3) := by decide +kernel
theorem dX12_swing_4 : decode cX12_swing 4 = .ok (.ifCond .ne 6, 3) := by decide +kernel
theorem dX12_swing_7 : decode cX12_swing 7 = .ok (.bipush (-2), 2) := by decide +kernel
theorem dX12_swing_9 : decode cX12_swing 9 = .ok (.ireturn, 1) := by decide +kernel
theorem dX12_swing_10 : decode cX12_swing 10 = .ok (.iload_n 2, 1) := by decide +kernel
theorem dX12_swing_11 : decode cX12_swing 11 = .ok (.i2l, 1) := by decide +kernel
theorem dX12_swing_12 : decode cX12_swing 12 = .ok (.ldc2_w 238, 3) := by decide +kernel
theorem dX12_swing_15 : decode cX12_swing 15 = .ok (.ldc2_w 240, 3) := by decide +kernel
theorem dX12_swing_18 : decode cX12_swing 18 = .ok (.invokestatic 87, 3) := by decide +kernel
theorem dX12_swing_21 : decode cX12_swing 21 = .ok (.ifCond .eq 20, 3) := by decide +kernel
theorem dX12_swing_24 : decode cX12_swing 24 = .ok (.iload_n 2, 1) := by decide +kernel
theorem dX12_swing_25 : decode cX12_swing 25 = .ok (.ifCond .eq 16, 3) := by decide +kernel
theorem dX12_swing_28 : decode cX12_swing 28 = .ok (.iload 4, 2) := by decide +kernel
theorem dX12_swing_30 : decode cX12_swing 30 = .ok (.i2l, 1) := by decide +kernel
theorem dX12_swing_31 : decode cX12_swing 31 = .ok (.lconst 0, 1) := by decide +kernel
theorem dX12_swing_32 : decode cX12_swing 32 = .ok (.ldc2_w 85, 3) := by decide +kernel
theorem dX12_swing_35 : decode cX12_swing 35 = .ok (.invokestatic 87, 3) := by decide +kernel
theorem dX12_swing_38 : decode cX12_swing 38 = .ok (.ifCond .ne 6, 3) := by decide +kernel
theorem dX12_swing_41 : decode cX12_swing 41 = .ok (.bipush (-3), 2) := by decide +kernel
theorem dX12_swing_43 : decode cX12_swing 43 = .ok (.ireturn, 1) := by decide +kernel
theorem dX12_swing_44 : decode cX12_swing 44 = .ok (.aload_n 0, 1) := by decide +kernel
theorem dX12_swing_45 : decode cX12_swing 45 = .ok (.aload_n 0, 1) := by decide +kernel
theorem dX12_swing_46 : decode cX12_swing 46 = .ok (.getfield 28, 3) := by decide +kernel
theorem dX12_swing_49 : decode cX12_swing 49 = .ok (.iload_n 1, 1) := by decide +kernel
theorem dX12_swing_50 : decode cX12_swing 50 = .ok (.iaload, 1) := by decide +kernel
theorem dX12_swing_51 : decode cX12_swing 51 = .ok (.aload_n 0, 1) := by decide +kernel
theorem dX12_swing_52 : decode cX12_swing 52 = .ok (.getfield 31, 3) := by decide +kernel
theorem dX12_swing_55 : decode cX12_swing 55 = .ok (.iload_n 1, 1) := by decide +kernel
theorem dX12_swing_56 : decode cX12_swing 56 = .ok (.iaload, 1) := by decide +kernel
theorem dX12_swing_57 : decode cX12_swing 57 = .ok (.iload_n 3, 1) := by decide +kernel
theorem dX12_swing_58 : decode cX12_swing 58 = .ok (.aload_n 0, 1) := by decide +kernel
theorem dX12_swing_59 : decode cX12_swing 59 = .ok (.getfield 7, 3) := by decide +kernel
theorem dX12_swing_62 : decode cX12_swing 62 = .ok (.iconst 0, 1) := by decide +kernel
theorem dX12_swing_63 : decode cX12_swing 63 = .ok (.iaload, 1) := by decide +kernel
theorem dX12_swing_64 : decode cX12_swing 64 = .ok (.iload_n 2, 1) := by decide +kernel
theorem dX12_swing_65 : decode cX12_swing 65 = .ok (.sipush 600, 3) := by decide +kernel
theorem dX12_swing_68 : decode cX12_swing 68 = .ok (.invokevirtual 242, 3) := by decide +kernel
theorem dX12_swing_71 : decode cX12_swing 71 = .ok (.iload 4, 2) := by decide +kernel
theorem dX12_swing_73 : decode cX12_swing 73 = .ok (.iconst 2, 1) := by decide +kernel
theorem dX12_swing_74 : decode cX12_swing 74 = .ok (.if_icmp .ne 8, 3) := by decide +kernel
theorem dX12_swing_77 : decode cX12_swing 77 = .ok (.aload_n 0, 1) := by decide +kernel
theorem dX12_swing_78 : decode cX12_swing 78 = .ok (.invokevirtual 246, 3) := by decide +kernel
theorem dX12_swing_81 : decode cX12_swing 81 = .ok (.ireturn, 1) := by decide +kernel
theorem dX12_swing_82 : decode cX12_swing 82 = .ok (.aload_n 0, 1) := by decide +kernel
theorem dX12_swing_83 : decode cX12_swing 83 = .ok (.invokevirtual 249, 3) := by decide +kernel
theorem dX12_swing_86 : decode cX12_swing 86 = .ok (.istore 5, 2) := by decide +kernel
theorem dX12_swing_88 : decode cX12_swing 88 = .ok (.iload 4, 2) := by decide +kernel
theorem dX12_swing_90 : decode cX12_swing 90 = .ok (.ifCond .eq 9, 3) := by decide +kernel
theorem dX12_swing_93 : decode cX12_swing 93 = .ok (.iload 5, 2) := by decide +kernel
theorem dX12_swing_95 : decode cX12_swing 95 = .ok (.iconst (-1), 1) := by decide +kernel
theorem dX12_swing_96 : decode cX12_swing 96 = .ok (.if_icmp .ne 6, 3) := by decide +kernel
theorem dX12_swing_99 : decode cX12_swing 99 = .ok (.iload 5, 2) := by decide +kernel
theorem dX12_swing_101 : decode cX12_swing 101 = .ok (.ireturn, 1) := by decide +kernel
theorem dX12_swing_102 : decode cX12_swing 102 = .ok (.iload 5, 2) := by decide +kernel
theorem dX12_swing_104 : decode cX12_swing 104 = .ok (.istore 6, 2) := by decide +kernel
theorem dX12_swing_106 : decode cX12_swing 106 = .ok (.iload 5, 2) := by decide +kernel
theorem dX12_swing_108 : decode cX12_swing 108 = .ok (.iconst 1, 1) := by decide +kernel
theorem dX12_swing_109 : decode cX12_swing 109 = .ok (.iadd, 1) := by decide +kernel
theorem dX12_swing_110 : decode cX12_swing 110 = .ok (.istore 7, 2) := by decide +kernel
theorem dX12_swing_112 : decode cX12_swing 112 = .ok (.iload 7, 2) := by decide +kernel
theorem dX12_swing_114 : decode cX12_swing 114 = .ok (.sipush 600, 3) := by decide +kernel
theorem dX12_swing_117 : decode cX12_swing 117 = .ok (.if_icmp .gt 41, 3) := by decide +kernel
theorem dX12_swing_120 : decode cX12_swing 120 = .ok (.aload_n 0, 1) := by decide +kernel
theorem dX12_swing_121 : decode cX12_swing 121 = .ok (.getfield 76, 3) := by decide +kernel
theorem dX12_swing_124 : decode cX12_swing 124 = .ok (.iload 7, 2) := by decide +kernel
theorem dX12_swing_126 : decode cX12_swing 126 = .ok (.iaload, 1) := by decide +kernel
theorem dX12_swing_127 : decode cX12_swing 127 = .ok (.invokestatic 96, 3) := by decide +kernel
theorem dX12_swing_130 : decode cX12_swing 130 = .ok (.aload_n 0, 1) := by decide +kernel
theorem dX12_swing_131 : decode cX12_swing 131 = .ok (.getfield 76, 3) := by decide +kernel
theorem dX12_swing_134 : decode cX12_swing 134 = .ok (.iload 6, 2) := by decide +kernel
theorem dX12_swing_136 : decode cX12_swing 136 = .ok (.iaload, 1) := by decide +kernel
theorem dX12_swing_137 : decode cX12_swing 137 = .ok (.invokestatic 96, 3) := by decide +kernel
theorem dX12_swing_140 : decode cX12_swing 140 = .ok (.if_icmp .le 8, 3) := by decide +kernel
theorem dX12_swing_143 : decode cX12_swing 143 = .ok (.iload 7, 2) := by decide +kernel
theorem dX12_swing_145 : decode cX12_swing 145 = .ok (.goto 5, 3) := by decide +kernel
theorem dX12_swing_148 : decode cX12_swing 148 = .ok (.iload 6, 2) := by decide +kernel
theorem dX12_swing_150 : decode cX12_swing 150 = .ok (.istore 6, 2) := by decide +kernel
theorem dX12_swing_152 : decode cX12_swing 152 = .ok (.iinc 7 1, 3) := by decide +kernel
theorem dX12_swing_155 : decode cX12_swing 155 = .ok (.goto (-43), 3) := by decide +kernel
theorem dX12_swing_158 : decode cX12_swing 158 = .ok (.ldc 165, 2) := by decide +kernel
theorem dX12_swing_160 : decode cX12_swing 160 = .ok (.aload_n 0, 1) := by decide +kernel
theorem dX12_swing_161 : decode cX12_swing 161 = .ok (.getfield 76, 3) := by decide +kernel
theorem dX12_swing_164 : decode cX12_swing 164 = .ok (.iload 6, 2) := by decide +kernel
theorem dX12_swing_166 : decode cX12_swing 166 = .ok (.iaload, 1) := by decide +kernel
theorem dX12_swing_167 : decode cX12_swing 167 = .ok (.iadd, 1) := by decide +kernel
theorem dX12_swing_168 : decode cX12_swing 168 = .ok (.ireturn, 1) := by decide +kernel
theorem dX12_noUse_0 : decode cX12_noUse 0 = .ok (.iload_n 1, 1) := by decide +kernel
theorem dX12_noUse_1 : decode cX12_noUse 1 = .ok (.invokestatic 127, 3) := by decide +kernel
theorem dX12_noUse_4 : decode cX12_noUse 4 = .ok (.ifCond .ne 6, 3) := by decide +kernel
theorem dX12_noUse_7 : decode cX12_noUse 7 = .ok (.bipush (-2), 2) := by decide +kernel
theorem dX12_noUse_9 : decode cX12_noUse 9 = .ok (.ireturn, 1) := by decide +kernel
theorem dX12_noUse_10 : decode cX12_noUse 10 = .ok (.iconst 0, 1) := by decide +kernel
theorem dX12_noUse_11 : decode cX12_noUse 11 = .ok (.istore_n 2, 1) := by decide +kernel
theorem dX12_noUse_12 : decode cX12_noUse 12 = .ok (.iload_n 2, 1) := by decide +kernel
theorem dX12_noUse_13 : decode cX12_noUse 13 = .ok (.bipush 90, 2) := by decide +kernel
theorem dX12_noUse_15 : decode cX12_noUse 15 = .ok (.if_icmp .ge 43, 3) := by decide +kernel
theorem dX12_noUse_18 : decode cX12_noUse 18 = .ok (.aload_n 0, 1) := by decide +kernel
theorem dX12_noUse_19 : decode cX12_noUse 19 = .ok (.aload_n 0, 1) := by decide +kernel
theorem dX12_noUse_20 : decode cX12_noUse 20 = .ok (.getfield 28, 3) := by decide +kernel
theorem dX12_noUse_23 : decode cX12_noUse 23 = .ok (.iload_n 1, 1) := by decide +kernel
theorem dX12_noUse_24 : decode cX12_noUse 24 = .ok (.iaload, 1) := by decide +kernel
theorem dX12_noUse_25 : decode cX12_noUse 25 = .ok (.aload_n 0, 1) := by decide +kernel
theorem dX12_noUse_26 : decode cX12_noUse 26 = .ok (.getfield 31, 3) := by decide +kernel
theorem dX12_noUse_29 : decode cX12_noUse 29 = .ok (.iload_n 1, 1) := by decide +kernel
theorem dX12_noUse_30 : decode cX12_noUse 30 = .ok (.iaload, 1) := by decide +kernel
theorem dX12_noUse_31 : decode cX12_noUse 31 = .ok (.iconst 1, 1) := by decide +kernel
theorem dX12_noUse_32 : decode cX12_noUse 32 = .ok (.iload_n 2, 1) := by decide +kernel
theorem dX12_noUse_33 : decode cX12_noUse 33 = .ok (.sipush 3000, 3) := by decide +kernel
theorem dX12_noUse_36 : decode cX12_noUse 36 = .ok (.sipush 600, 3) := by decide +kernel
theorem dX12_noUse_39 : decode cX12_noUse 39 = .ok (.invokevirtual 242, 3) := by decide +kernel
theorem dX12_noUse_42 : decode cX12_noUse 42 = .ok (.aload_n 0, 1) := by decide +kernel
theorem dX12_noUse_43 : decode cX12_noUse 43 = .ok (.invokevirtual 246, 3) := by decide +kernel
theorem dX12_noUse_46 : decode cX12_noUse 46 = .ok (.iconst (-1), 1) := by decide +kernel
theorem dX12_noUse_47 : decode cX12_noUse 47 = .ok (.if_icmp .ne 5, 3) := by decide +kernel
theorem dX12_noUse_50 : decode cX12_noUse 50 = .ok (.iload_n 2, 1) := by decide +kernel
theorem dX12_noUse_51 : decode cX12_noUse 51 = .ok (.ireturn, 1) := by decide +kernel
theorem dX12_noUse_52 : decode cX12_noUse 52 = .ok (.iinc 2 1, 3) := by decide +kernel
theorem dX12_noUse_55 : decode cX12_noUse 55 = .ok (.goto (-43), 3) := by decide +kernel
theorem dX12_noUse_58 : decode cX12_noUse 58 = .ok (.iconst (-1), 1) := by decide +kernel
theorem dX12_noUse_59 : decode cX12_noUse 59 = .ok (.ireturn, 1) := by decide +kernel
theorem dX12_turnedOf_0 : decode cX12_turnedOf 0 = .ok (.iconst 0, 1) := by decide +kernel
theorem dX12_turnedOf_1 : decode cX12_turnedOf 1 = .ok (.istore 6, 2) := by decide +kernel
theorem dX12_turnedOf_3 : decode cX12_turnedOf 3 = .ok (.iconst 0, 1) := by decide +kernel
theorem dX12_turnedOf_4 : decode cX12_turnedOf 4 = .ok (.istore 7, 2) := by decide +kernel
theorem dX12_turnedOf_6 : decode cX12_turnedOf 6 = .ok (.iconst 0, 1) := by decide +kernel
theorem dX12_turnedOf_7 : decode cX12_turnedOf 7 = .ok (.istore 8, 2) := by decide +kernel
theorem dX12_turnedOf_9 : decode cX12_turnedOf 9 = .ok (.iconst 1, 1) := by decide +kernel
theorem dX12_turnedOf_10 : decode cX12_turnedOf 10 = .ok (.istore 9, 2) := by decide +kernel
theorem dX12_turnedOf_12 : decode cX12_turnedOf 12 = .ok (.iload 9, 2) := by decide +kernel
theorem dX12_turnedOf_14 : decode cX12_turnedOf 14 = .ok (.iload_n 3, 1) := by decide +kernel
theorem dX12_turnedOf_15 : decode cX12_turnedOf 15 = .ok (.if_icmp .gt 98, 3) := by decide +kernel
theorem dX12_turnedOf_18 : decode cX12_turnedOf 18 = .ok (.iload 7, 2) := by decide +kernel
theorem dX12_turnedOf_20 : decode cX12_turnedOf 20 = .ok (.iload_n 2, 1) := by decide +kernel
theorem dX12_turnedOf_21 : decode cX12_turnedOf 21 = .ok (.aload_n 0, 1) := by decide +kernel
theorem dX12_turnedOf_22 : decode cX12_turnedOf 22 = .ok (.getfield 7, 3) := by decide +kernel
theorem dX12_turnedOf_25 : decode cX12_turnedOf 25 = .ok (.iconst 0, 1) := by decide +kernel
theorem dX12_turnedOf_26 : decode cX12_turnedOf 26 = .ok (.iaload, 1) := by decide +kernel
theorem dX12_turnedOf_27 : decode cX12_turnedOf 27 = .ok (.iload 6, 2) := by decide +kernel
theorem dX12_turnedOf_29 : decode cX12_turnedOf 29 = .ok (.invokestatic 170, 3) := by decide +kernel
theorem dX12_turnedOf_32 : decode cX12_turnedOf 32 = .ok (.aload_n 0, 1) := by decide +kernel
theorem dX12_turnedOf_33 : decode cX12_turnedOf 33 = .ok (.getfield 31, 3) := by decide +kernel
theorem dX12_turnedOf_36 : decode cX12_turnedOf 36 = .ok (.iload_n 1, 1) := by decide +kernel
theorem dX12_turnedOf_37 : decode cX12_turnedOf 37 = .ok (.iaload, 1) := by decide +kernel
theorem dX12_turnedOf_38 : decode cX12_turnedOf 38 = .ok (.invokestatic 174, 3) := by decide +kernel
theorem dX12_turnedOf_41 : decode cX12_turnedOf 41 = .ok (.istore 7, 2) := by decide +kernel
theorem dX12_turnedOf_43 : decode cX12_turnedOf 43 = .ok (.iload 7, 2) := by decide +kernel
theorem dX12_turnedOf_45 : decode cX12_turnedOf 45 = .ok (.iload 9, 2) := by decide +kernel
theorem dX12_turnedOf_47 : decode cX12_turnedOf 47 = .ok (.iload 4, 2) := by decide +kernel
theorem dX12_turnedOf_49 : decode cX12_turnedOf 49 = .ok (.if_icmp .gt 8, 3) := by decide +kernel
theorem dX12_turnedOf_52 : decode cX12_turnedOf 52 = .ok (.iload 5, 2) := by decide +kernel
theorem dX12_turnedOf_54 : decode cX12_turnedOf 54 = .ok (.goto 4, 3) := by decide +kernel
theorem dX12_turnedOf_57 : decode cX12_turnedOf 57 = .ok (.iconst 0, 1) := by decide +kernel
theorem dX12_turnedOf_58 : decode cX12_turnedOf 58 = .ok (.aload_n 0, 1) := by decide +kernel
theorem dX12_turnedOf_59 : decode cX12_turnedOf 59 = .ok (.getfield 34, 3) := by decide +kernel
theorem dX12_turnedOf_62 : decode cX12_turnedOf 62 = .ok (.iload_n 1, 1) := by decide +kernel
theorem dX12_turnedOf_63 : decode cX12_turnedOf 63 = .ok (.iaload, 1) := by decide +kernel
theorem dX12_turnedOf_64 : decode cX12_turnedOf 64 = .ok (.invokestatic 177, 3) := by decide +kernel
theorem dX12_turnedOf_67 : decode cX12_turnedOf 67 = .ok (.sipush 9999, 3) := by decide +kernel
theorem dX12_turnedOf_70 : decode cX12_turnedOf 70 = .ok (.invokestatic 180, 3) := by decide +kernel
theorem dX12_turnedOf_73 : decode cX12_turnedOf 73 = .ok (.istore 7, 2) := by decide +kernel
theorem dX12_turnedOf_75 : decode cX12_turnedOf 75 = .ok (.iload 6, 2) := by decide +kernel
theorem dX12_turnedOf_77 : decode cX12_turnedOf 77 = .ok (.iload 7, 2) := by decide +kernel
theorem dX12_turnedOf_79 : decode cX12_turnedOf 79 = .ok (.iadd, 1) := by decide +kernel
theorem dX12_turnedOf_80 : decode cX12_turnedOf 80 = .ok (.invokestatic 167, 3) := by decide +kernel
theorem dX12_turnedOf_83 : decode cX12_turnedOf 83 = .ok (.istore 6, 2) := by decide +kernel
theorem dX12_turnedOf_85 : decode cX12_turnedOf 85 = .ok (.iload 6, 2) := by decide +kernel
theorem dX12_turnedOf_87 : decode cX12_turnedOf 87 = .ok (.invokestatic 96, 3) := by decide +kernel
theorem dX12_turnedOf_90 : decode cX12_turnedOf 90 = .ok (.iload 8, 2) := by decide +kernel
theorem dX12_turnedOf_92 : decode cX12_turnedOf 92 = .ok (.if_icmp .le 11, 3) := by decide +kernel
theorem dX12_turnedOf_95 : decode cX12_turnedOf 95 = .ok (.iload 6, 2) := by decide +kernel
theorem dX12_turnedOf_97 : decode cX12_turnedOf 97 = .ok (.invokestatic 96, 3) := by decide +kernel
theorem dX12_turnedOf_100 : decode cX12_turnedOf 100 = .ok (.goto 5, 3) := by decide +kernel
theorem dX12_turnedOf_103 : decode cX12_turnedOf 103 = .ok (.iload 8, 2) := by decide +kernel
theorem dX12_turnedOf_105 : decode cX12_turnedOf 105 = .ok (.istore 8, 2) := by decide +kernel
theorem dX12_turnedOf_107 : decode cX12_turnedOf 107 = .ok (.iinc 9 1, 3) := by decide +kernel
theorem dX12_turnedOf_110 : decode cX12_turnedOf 110 = .ok (.goto (-98), 3) := by decide +kernel
theorem dX12_turnedOf_113 : decode cX12_turnedOf 113 = .ok (.iload 8, 2) := by decide +kernel
theorem dX12_turnedOf_115 : decode cX12_turnedOf 115 = .ok (.ireturn, 1) := by decide +kernel
theorem dX12_isTurn_0 : decode cX12_isTurn 0 = .ok (.iload_n 0, 1) := by decide +kernel
theorem dX12_isTurn_1 : decode cX12_isTurn 1 = .ok (.i2l, 1) := by decide +kernel
theorem dX12_isTurn_2 : decode cX12_isTurn 2 = .ok (.lconst 1, 1) := by decide +kernel
theorem dX12_isTurn_3 : decode cX12_isTurn 3 = .ok (.ldc2_w 252, 3) := by decide +kernel
theorem dX12_isTurn_6 : decode cX12_isTurn 6 = .ok (.invokestatic 87, 3) := by decide +kernel
theorem dX12_isTurn_9 : decode cX12_isTurn 9 = .ok (.ifCond .eq 32, 3) := by decide +kernel
theorem dX12_isTurn_12 : decode cX12_isTurn 12 = .ok (.iload_n 1, 1) := by decide +kernel
theorem dX12_isTurn_13 : decode cX12_isTurn 13 = .ok (.i2l, 1) := by decide +kernel
theorem dX12_isTurn_14 : decode cX12_isTurn 14 = .ok (.lconst 0, 1) := by decide +kernel
theorem dX12_isTurn_15 : decode cX12_isTurn 15 = .ok (.iload_n 0, 1) := by decide +kernel
theorem dX12_isTurn_16 : decode cX12_isTurn 16 = .ok (.i2l, 1) := by decide +kernel
theorem dX12_isTurn_17 : decode cX12_isTurn 17 = .ok (.invokestatic 87, 3) := by decide +kernel
theorem dX12_isTurn_20 : decode cX12_isTurn 20 = .ok (.ifCond .eq 21, 3) := by decide +kernel
theorem dX12_isTurn_23 : decode cX12_isTurn 23 = .ok (.iload_n 2, 1) := by decide +kernel
theorem dX12_isTurn_24 : decode cX12_isTurn 24 = .ok (.i2l, 1) := by decide +kernel
theorem dX12_isTurn_25 : decode cX12_isTurn 25 = .ok (.ldc2_w 119, 3) := by decide +kernel
theorem dX12_isTurn_28 : decode cX12_isTurn 28 = .ok (.ldc2_w 121, 3) := by decide +kernel
theorem dX12_isTurn_31 : decode cX12_isTurn 31 = .ok (.invokestatic 87, 3) := by decide +kernel
theorem dX12_isTurn_34 : decode cX12_isTurn 34 = .ok (.ifCond .eq 7, 3) := by decide +kernel
theorem dX12_isTurn_37 : decode cX12_isTurn 37 = .ok (.iconst 1, 1) := by decide +kernel
theorem dX12_isTurn_38 : decode cX12_isTurn 38 = .ok (.goto 4, 3) := by decide +kernel
theorem dX12_isTurn_41 : decode cX12_isTurn 41 = .ok (.iconst 0, 1) := by decide +kernel
theorem dX12_isTurn_42 : decode cX12_isTurn 42 = .ok (.ireturn, 1) := by decide +kernel
theorem dX12_turned_0 : decode cX12_turned 0 = .ok (.iload_n 1, 1) := by decide +kernel
theorem dX12_turned_1 : decode cX12_turned 1 = .ok (.invokestatic 127, 3) := by decide +kernel
theorem dX12_turned_4 : decode cX12_turned 4 = .ok (.ifCond .ne 6, 3) := by decide +kernel
theorem dX12_turned_7 : decode cX12_turned 7 = .ok (.bipush (-2), 2) := by decide +kernel
theorem dX12_turned_9 : decode cX12_turned 9 = .ok (.ireturn, 1) := by decide +kernel
theorem dX12_turned_10 : decode cX12_turned 10 = .ok (.iload_n 2, 1) := by decide +kernel
theorem dX12_turned_11 : decode cX12_turned 11 = .ok (.iload_n 3, 1) := by decide +kernel
theorem dX12_turned_12 : decode cX12_turned 12 = .ok (.iload 4, 2) := by decide +kernel
theorem dX12_turned_14 : decode cX12_turned 14 = .ok (.invokestatic 254, 3) := by decide +kernel
theorem dX12_turned_17 : decode cX12_turned 17 = .ok (.ifCond .eq 21, 3) := by decide +kernel
theorem dX12_turned_20 : decode cX12_turned 20 = .ok (.aload_n 0, 1) := by decide +kernel
theorem dX12_turned_21 : decode cX12_turned 21 = .ok (.iload_n 1, 1) := by decide +kernel
theorem dX12_turned_22 : decode cX12_turned 22 = .ok (.aload_n 0, 1) := by decide +kernel
theorem dX12_turned_23 : decode cX12_turned 23 = .ok (.getfield 28, 3) := by decide +kernel
theorem dX12_turned_26 : decode cX12_turned 26 = .ok (.iload_n 1, 1) := by decide +kernel
theorem dX12_turned_27 : decode cX12_turned 27 = .ok (.iaload, 1) := by decide +kernel
theorem dX12_turned_28 : decode cX12_turned 28 = .ok (.iload_n 2, 1) := by decide +kernel
theorem dX12_turned_29 : decode cX12_turned 29 = .ok (.iload_n 3, 1) := by decide +kernel
theorem dX12_turned_30 : decode cX12_turned 30 = .ok (.iload 4, 2) := by decide +kernel
theorem dX12_turned_32 : decode cX12_turned 32 = .ok (.invokevirtual 258, 3) := by decide +kernel
theorem dX12_turned_35 : decode cX12_turned 35 = .ok (.goto 5, 3) := by decide +kernel
theorem dX12_turned_38 : decode cX12_turned 38 = .ok (.bipush (-3), 2) := by decide +kernel
theorem dX12_turned_40 : decode cX12_turned 40 = .ok (.ireturn, 1) := by decide +kernel
theorem dX12_bestPull_0 : decode cX12_bestPull 0 = .ok (.iload_n 1, 1) := by decide +kernel
theorem dX12_bestPull_1 : decode cX12_bestPull 1 = .ok (.invokestatic 127, 3) := by decide +kernel
theorem dX12_bestPull_4 : decode cX12_bestPull 4 = .ok (.ifCond .ne 6, 3) := by decide +kernel
theorem dX12_bestPull_7 : decode cX12_bestPull 7 = .ok (.bipush (-2), 2) := by decide +kernel
theorem dX12_bestPull_9 : decode cX12_bestPull 9 = .ok (.ireturn, 1) := by decide +kernel
theorem dX12_bestPull_10 : decode cX12_bestPull 10 = .ok (.iload_n 2, 1) := by decide +kernel
theorem dX12_bestPull_11 : decode cX12_bestPull 11 = .ok (.iload_n 3, 1) := by decide +kernel
theorem dX12_bestPull_12 : decode cX12_bestPull 12 = .ok (.iload 4, 2) := by decide +kernel
theorem dX12_bestPull_14 : decode cX12_bestPull 14 = .ok (.invokestatic 254, 3) := by decide +kernel
theorem dX12_bestPull_17 : decode cX12_bestPull 17 = .ok (.ifCond .ne 6, 3) := by decide +kernel
theorem dX12_bestPull_20 : decode cX12_bestPull 20 = .ok (.bipush (-3), 2) := by decide +kernel
theorem dX12_bestPull_22 : decode cX12_bestPull 22 = .ok (.ireturn, 1) := by decide +kernel
theorem dX12_bestPull_23 : decode cX12_bestPull 23 = .ok (.iconst 1, 1) := by decide +kernel
theorem dX12_bestPull_24 : decode cX12_bestPull 24 = .ok (.istore 5, 2) := by decide +kernel
theorem dX12_bestPull_26 : decode cX12_bestPull 26 = .ok (.iconst 2, 1) := by decide +kernel
theorem dX12_bestPull_27 : decode cX12_bestPull 27 = .ok (.istore 6, 2) := by decide +kernel
theorem dX12_bestPull_29 : decode cX12_bestPull 29 = .ok (.iload 6, 2) := by decide +kernel
theorem dX12_bestPull_31 : decode cX12_bestPull 31 = .ok (.bipush 100, 2) := by decide +kernel
theorem dX12_bestPull_33 : decode cX12_bestPull 33 = .ok (.if_icmp .ge 43, 3) := by decide +kernel
theorem dX12_bestPull_36 : decode cX12_bestPull 36 = .ok (.aload_n 0, 1) := by decide +kernel
theorem dX12_bestPull_37 : decode cX12_bestPull 37 = .ok (.iload_n 1, 1) := by decide +kernel
theorem dX12_bestPull_38 : decode cX12_bestPull 38 = .ok (.iload 6, 2) := by decide +kernel
theorem dX12_bestPull_40 : decode cX12_bestPull 40 = .ok (.iload_n 2, 1) := by decide +kernel
theorem dX12_bestPull_41 : decode cX12_bestPull 41 = .ok (.iload_n 3, 1) := by decide +kernel
theorem dX12_bestPull_42 : decode cX12_bestPull 42 = .ok (.iload 4, 2) := by decide +kernel
theorem dX12_bestPull_44 : decode cX12_bestPull 44 = .ok (.invokevirtual 258, 3) := by decide +kernel
theorem dX12_bestPull_47 : decode cX12_bestPull 47 = .ok (.aload_n 0, 1) := by decide +kernel
theorem dX12_bestPull_48 : decode cX12_bestPull 48 = .ok (.iload_n 1, 1) := by decide +kernel
theorem dX12_bestPull_49 : decode cX12_bestPull 49 = .ok (.iload 5, 2) := by decide +kernel
theorem dX12_bestPull_51 : decode cX12_bestPull 51 = .ok (.iload_n 2, 1) := by decide +kernel
theorem dX12_bestPull_52 : decode cX12_bestPull 52 = .ok (.iload_n 3, 1) := by decide +kernel
theorem dX12_bestPull_53 : decode cX12_bestPull 53 = .ok (.iload 4, 2) := by decide +kernel
theorem dX12_bestPull_55 : decode cX12_bestPull 55 = .ok (.invokevirtual 258, 3) := by decide +kernel
theorem dX12_bestPull_58 : decode cX12_bestPull 58 = .ok (.if_icmp .ge 8, 3) := by decide +kernel
theorem dX12_bestPull_61 : decode cX12_bestPull 61 = .ok (.iload 6, 2) := by decide +kernel
theorem dX12_bestPull_63 : decode cX12_bestPull 63 = .ok (.goto 5, 3) := by decide +kernel
theorem dX12_bestPull_66 : decode cX12_bestPull 66 = .ok (.iload 5, 2) := by decide +kernel
theorem dX12_bestPull_68 : decode cX12_bestPull 68 = .ok (.istore 5, 2) := by decide +kernel
theorem dX12_bestPull_70 : decode cX12_bestPull 70 = .ok (.iinc 6 1, 3) := by decide +kernel
theorem dX12_bestPull_73 : decode cX12_bestPull 73 = .ok (.goto (-44), 3) := by decide +kernel
theorem dX12_bestPull_76 : decode cX12_bestPull 76 = .ok (.iload 5, 2) := by decide +kernel
theorem dX12_bestPull_78 : decode cX12_bestPull 78 = .ok (.ireturn, 1) := by decide +kernel
theorem dX12_keep_0 : decode cX12_keep 0 = .ok (.iconst 0, 1) := by decide +kernel
theorem dX12_keep_1 : decode cX12_keep 1 = .ok (.istore_n 3, 1) := by decide +kernel
theorem dX12_keep_2 : decode cX12_keep 2 = .ok (.iload_n 3, 1) := by decide +kernel
theorem dX12_keep_3 : decode cX12_keep 3 = .ok (.iconst 4, 1) := by decide +kernel
theorem dX12_keep_4 : decode cX12_keep 4 = .ok (.if_icmp .ge 23, 3) := by decide +kernel
theorem dX12_keep_7 : decode cX12_keep 7 = .ok (.aload_n 0, 1) := by decide +kernel
theorem dX12_keep_8 : decode cX12_keep 8 = .ok (.getfield 7, 3) := by decide +kernel
theorem dX12_keep_11 : decode cX12_keep 11 = .ok (.iconst 4, 1) := by decide +kernel
theorem dX12_keep_12 : decode cX12_keep 12 = .ok (.iload_n 3, 1) := by decide +kernel
theorem dX12_keep_13 : decode cX12_keep 13 = .ok (.iadd, 1) := by decide +kernel
theorem dX12_keep_14 : decode cX12_keep 14 = .ok (.aload_n 0, 1) := by decide +kernel
theorem dX12_keep_15 : decode cX12_keep 15 = .ok (.getfield 7, 3) := by decide +kernel
theorem dX12_keep_18 : decode cX12_keep 18 = .ok (.iload_n 3, 1) := by decide +kernel
theorem dX12_keep_19 : decode cX12_keep 19 = .ok (.iaload, 1) := by decide +kernel
theorem dX12_keep_20 : decode cX12_keep 20 = .ok (.iastore, 1) := by decide +kernel
theorem dX12_keep_21 : decode cX12_keep 21 = .ok (.iinc 3 1, 3) := by decide +kernel
theorem dX12_keep_24 : decode cX12_keep 24 = .ok (.goto (-22), 3) := by decide +kernel
theorem dX12_keep_27 : decode cX12_keep 27 = .ok (.iconst 0, 1) := by decide +kernel
theorem dX12_keep_28 : decode cX12_keep 28 = .ok (.istore_n 3, 1) := by decide +kernel
theorem dX12_keep_29 : decode cX12_keep 29 = .ok (.iload_n 3, 1) := by decide +kernel
theorem dX12_keep_30 : decode cX12_keep 30 = .ok (.iconst 3, 1) := by decide +kernel
theorem dX12_keep_31 : decode cX12_keep 31 = .ok (.if_icmp .ge 37, 3) := by decide +kernel
theorem dX12_keep_34 : decode cX12_keep 34 = .ok (.aload_n 0, 1) := by decide +kernel
theorem dX12_keep_35 : decode cX12_keep 35 = .ok (.getfield 37, 3) := by decide +kernel
theorem dX12_keep_38 : decode cX12_keep 38 = .ok (.iconst 3, 1) := by decide +kernel
theorem dX12_keep_39 : decode cX12_keep 39 = .ok (.iload_n 3, 1) := by decide +kernel
theorem dX12_keep_40 : decode cX12_keep 40 = .ok (.iadd, 1) := by decide +kernel
theorem dX12_keep_41 : decode cX12_keep 41 = .ok (.aload_n 0, 1) := by decide +kernel
theorem dX12_keep_42 : decode cX12_keep 42 = .ok (.getfield 37, 3) := by decide +kernel
theorem dX12_keep_45 : decode cX12_keep 45 = .ok (.iload_n 3, 1) := by decide +kernel
theorem dX12_keep_46 : decode cX12_keep 46 = .ok (.iaload, 1) := by decide +kernel
theorem dX12_keep_47 : decode cX12_keep 47 = .ok (.iastore, 1) := by decide +kernel
theorem dX12_keep_48 : decode cX12_keep 48 = .ok (.aload_n 0, 1) := by decide +kernel
theorem dX12_keep_49 : decode cX12_keep 49 = .ok (.getfield 40, 3) := by decide +kernel
theorem dX12_keep_52 : decode cX12_keep 52 = .ok (.iconst 3, 1) := by decide +kernel
theorem dX12_keep_53 : decode cX12_keep 53 = .ok (.iload_n 3, 1) := by decide +kernel
theorem dX12_keep_54 : decode cX12_keep 54 = .ok (.iadd, 1) := by decide +kernel
theorem dX12_keep_55 : decode cX12_keep 55 = .ok (.aload_n 0, 1) := by decide +kernel
theorem dX12_keep_56 : decode cX12_keep 56 = .ok (.getfield 40, 3) := by decide +kernel
theorem dX12_keep_59 : decode cX12_keep 59 = .ok (.iload_n 3, 1) := by decide +kernel
theorem dX12_keep_60 : decode cX12_keep 60 = .ok (.iaload, 1) := by decide +kernel
theorem dX12_keep_61 : decode cX12_keep 61 = .ok (.iastore, 1) := by decide +kernel
theorem dX12_keep_62 : decode cX12_keep 62 = .ok (.iinc 3 1, 3) := by decide +kernel
theorem dX12_keep_65 : decode cX12_keep 65 = .ok (.goto (-36), 3) := by decide +kernel
theorem dX12_keep_68 : decode cX12_keep 68 = .ok (.aload_n 0, 1) := by decide +kernel
theorem dX12_keep_69 : decode cX12_keep 69 = .ok (.getfield 13, 3) := by decide +kernel
theorem dX12_keep_72 : decode cX12_keep 72 = .ok (.iconst 1, 1) := by decide +kernel
theorem dX12_keep_73 : decode cX12_keep 73 = .ok (.aload_n 0, 1) := by decide +kernel
theorem dX12_keep_74 : decode cX12_keep 74 = .ok (.getfield 13, 3) := by decide +kernel
theorem dX12_keep_77 : decode cX12_keep 77 = .ok (.iconst 0, 1) := by decide +kernel
theorem dX12_keep_78 : decode cX12_keep 78 = .ok (.iaload, 1) := by decide +kernel
theorem dX12_keep_79 : decode cX12_keep 79 = .ok (.iastore, 1) := by decide +kernel
theorem dX12_keep_80 : decode cX12_keep 80 = .ok (.aload_n 0, 1) := by decide +kernel
theorem dX12_keep_81 : decode cX12_keep 81 = .ok (.getfield 16, 3) := by decide +kernel
theorem dX12_keep_84 : decode cX12_keep 84 = .ok (.iconst 1, 1) := by decide +kernel
theorem dX12_keep_85 : decode cX12_keep 85 = .ok (.aload_n 0, 1) := by decide +kernel
theorem dX12_keep_86 : decode cX12_keep 86 = .ok (.getfield 16, 3) := by decide +kernel
theorem dX12_keep_89 : decode cX12_keep 89 = .ok (.iconst 0, 1) := by decide +kernel
theorem dX12_keep_90 : decode cX12_keep 90 = .ok (.iaload, 1) := by decide +kernel
theorem dX12_keep_91 : decode cX12_keep 91 = .ok (.iastore, 1) := by decide +kernel
theorem dX12_keep_92 : decode cX12_keep 92 = .ok (.aload_n 0, 1) := by decide +kernel
theorem dX12_keep_93 : decode cX12_keep 93 = .ok (.getfield 19, 3) := by decide +kernel
theorem dX12_keep_96 : decode cX12_keep 96 = .ok (.iconst 1, 1) := by decide +kernel
theorem dX12_keep_97 : decode cX12_keep 97 = .ok (.aload_n 0, 1) := by decide +kernel
theorem dX12_keep_98 : decode cX12_keep 98 = .ok (.getfield 19, 3) := by decide +kernel
theorem dX12_keep_101 : decode cX12_keep 101 = .ok (.iconst 0, 1) := by decide +kernel
theorem dX12_keep_102 : decode cX12_keep 102 = .ok (.iaload, 1) := by decide +kernel
theorem dX12_keep_103 : decode cX12_keep 103 = .ok (.iastore, 1) := by decide +kernel
theorem dX12_keep_104 : decode cX12_keep 104 = .ok (.aload_n 0, 1) := by decide +kernel
theorem dX12_keep_105 : decode cX12_keep 105 = .ok (.iconst 0, 1) := by decide +kernel
theorem dX12_keep_106 : decode cX12_keep 106 = .ok (.putfield 262, 3) := by decide +kernel
theorem dX12_keep_109 : decode cX12_keep 109 = .ok (.aload_n 0, 1) := by decide +kernel
theorem dX12_keep_110 : decode cX12_keep 110 = .ok (.iconst 0, 1) := by decide +kernel
theorem dX12_keep_111 : decode cX12_keep 111 = .ok (.putfield 265, 3) := by decide +kernel
theorem dX12_keep_114 : decode cX12_keep 114 = .ok (.iconst 1, 1) := by decide +kernel
theorem dX12_keep_115 : decode cX12_keep 115 = .ok (.istore_n 3, 1) := by decide +kernel
theorem dX12_keep_116 : decode cX12_keep 116 = .ok (.iload_n 3, 1) := by decide +kernel
theorem dX12_keep_117 : decode cX12_keep 117 = .ok (.iload_n 1, 1) := by decide +kernel
theorem dX12_keep_118 : decode cX12_keep 118 = .ok (.if_icmp .gt 87, 3) := by decide +kernel
theorem dX12_keep_121 : decode cX12_keep 121 = .ok (.aload_n 0, 1) := by decide +kernel
theorem dX12_keep_122 : decode cX12_keep 122 = .ok (.iconst 1, 1) := by decide +kernel
theorem dX12_keep_123 : decode cX12_keep 123 = .ok (.iload_n 2, 1) := by decide +kernel
theorem dX12_keep_124 : decode cX12_keep 124 = .ok (.invokevirtual 188, 3) := by decide +kernel
theorem dX12_keep_127 : decode cX12_keep 127 = .ok (.aload_n 0, 1) := by decide +kernel
theorem dX12_keep_128 : decode cX12_keep 128 = .ok (.iconst 1, 1) := by decide +kernel
theorem dX12_keep_129 : decode cX12_keep 129 = .ok (.invokevirtual 192, 3) := by decide +kernel
theorem dX12_keep_132 : decode cX12_keep 132 = .ok (.aload_n 0, 1) := by decide +kernel
theorem dX12_keep_133 : decode cX12_keep 133 = .ok (.dup, 1) := by decide +kernel
theorem dX12_keep_134 : decode cX12_keep 134 = .ok (.getfield 265, 3) := by decide +kernel
theorem dX12_keep_137 : decode cX12_keep 137 = .ok (.aload_n 0, 1) := by decide +kernel
theorem dX12_keep_138 : decode cX12_keep 138 = .ok (.getfield 7, 3) := by decide +kernel
theorem dX12_keep_141 : decode cX12_keep 141 = .ok (.bipush 7, 2) := by decide +kernel
theorem dX12_keep_143 : decode cX12_keep 143 = .ok (.iaload, 1) := by decide +kernel
theorem dX12_keep_144 : decode cX12_keep 144 = .ok (.invokestatic 96, 3) := by decide +kernel
theorem dX12_keep_147 : decode cX12_keep 147 = .ok (.iadd, 1) := by decide +kernel
theorem dX12_keep_148 : decode cX12_keep 148 = .ok (.putfield 265, 3) := by decide +kernel
theorem dX12_keep_151 : decode cX12_keep 151 = .ok (.aload_n 0, 1) := by decide +kernel
theorem dX12_keep_152 : decode cX12_keep 152 = .ok (.getfield 183, 3) := by decide +kernel
theorem dX12_keep_155 : decode cX12_keep 155 = .ok (.aload_n 0, 1) := by decide +kernel
theorem dX12_keep_156 : decode cX12_keep 156 = .ok (.getfield 13, 3) := by decide +kernel
theorem dX12_keep_159 : decode cX12_keep 159 = .ok (.iconst 1, 1) := by decide +kernel
theorem dX12_keep_160 : decode cX12_keep 160 = .ok (.iaload, 1) := by decide +kernel
theorem dX12_keep_161 : decode cX12_keep 161 = .ok (.isub, 1) := by decide +kernel
theorem dX12_keep_162 : decode cX12_keep 162 = .ok (.invokestatic 167, 3) := by decide +kernel
theorem dX12_keep_165 : decode cX12_keep 165 = .ok (.invokestatic 96, 3) := by decide +kernel
theorem dX12_keep_168 : decode cX12_keep 168 = .ok (.istore 4, 2) := by decide +kernel
theorem dX12_keep_170 : decode cX12_keep 170 = .ok (.aload_n 0, 1) := by decide +kernel
theorem dX12_keep_171 : decode cX12_keep 171 = .ok (.iload_n 3, 1) := by decide +kernel
theorem dX12_keep_172 : decode cX12_keep 172 = .ok (.iload_n 1, 1) := by decide +kernel
theorem dX12_keep_173 : decode cX12_keep 173 = .ok (.iconst 2, 1) := by decide +kernel
theorem dX12_keep_174 : decode cX12_keep 174 = .ok (.idiv, 1) := by decide +kernel
theorem dX12_keep_175 : decode cX12_keep 175 = .ok (.if_icmp .le 17, 3) := by decide +kernel
theorem dX12_keep_178 : decode cX12_keep 178 = .ok (.iload 4, 2) := by decide +kernel
theorem dX12_keep_180 : decode cX12_keep 180 = .ok (.aload_n 0, 1) := by decide +kernel
theorem dX12_keep_181 : decode cX12_keep 181 = .ok (.getfield 262, 3) := by decide +kernel
theorem dX12_keep_184 : decode cX12_keep 184 = .ok (.if_icmp .le 8, 3) := by decide +kernel
theorem dX12_keep_187 : decode cX12_keep 187 = .ok (.iload 4, 2) := by decide +kernel
theorem dX12_keep_189 : decode cX12_keep 189 = .ok (.goto 7, 3) := by decide +kernel
theorem dX12_keep_192 : decode cX12_keep 192 = .ok (.aload_n 0, 1) := by decide +kernel
theorem dX12_keep_193 : decode cX12_keep 193 = .ok (.getfield 262, 3) := by decide +kernel
theorem dX12_keep_196 : decode cX12_keep 196 = .ok (.putfield 262, 3) := by decide +kernel
theorem dX12_keep_199 : decode cX12_keep 199 = .ok (.iinc 3 1, 3) := by decide +kernel
theorem dX12_keep_202 : decode cX12_keep 202 = .ok (.goto (-86), 3) := by decide +kernel
theorem dX12_keep_205 : decode cX12_keep 205 = .ok (.return_, 1) := by decide +kernel
theorem dX12_kept_0 : decode cX12_kept 0 = .ok (.iload_n 1, 1) := by decide +kernel
theorem dX12_kept_1 : decode cX12_kept 1 = .ok (.i2l, 1) := by decide +kernel
theorem dX12_kept_2 : decode cX12_kept 2 = .ok (.lconst 1, 1) := by decide +kernel
theorem dX12_kept_3 : decode cX12_kept 3 = .ok (.ldc2_w 252, 3) := by decide +kernel
theorem dX12_kept_6 : decode cX12_kept 6 = .ok (.invokestatic 87, 3) := by decide +kernel
theorem dX12_kept_9 : decode cX12_kept 9 = .ok (.ifCond .eq 25, 3) := by decide +kernel
theorem dX12_kept_12 : decode cX12_kept 12 = .ok (.iload_n 2, 1) := by decide +kernel
theorem dX12_kept_13 : decode cX12_kept 13 = .ok (.i2l, 1) := by decide +kernel
theorem dX12_kept_14 : decode cX12_kept 14 = .ok (.lconst 0, 1) := by decide +kernel
theorem dX12_kept_15 : decode cX12_kept 15 = .ok (.ldc2_w 121, 3) := by decide +kernel
theorem dX12_kept_18 : decode cX12_kept 18 = .ok (.invokestatic 87, 3) := by decide +kernel
theorem dX12_kept_21 : decode cX12_kept 21 = .ok (.ifCond .eq 13, 3) := by decide +kernel
theorem dX12_kept_24 : decode cX12_kept 24 = .ok (.iload_n 3, 1) := by decide +kernel
theorem dX12_kept_25 : decode cX12_kept 25 = .ok (.i2l, 1) := by decide +kernel
theorem dX12_kept_26 : decode cX12_kept 26 = .ok (.lconst 0, 1) := by decide +kernel
theorem dX12_kept_27 : decode cX12_kept 27 = .ok (.lconst 1, 1) := by decide +kernel
theorem dX12_kept_28 : decode cX12_kept 28 = .ok (.invokestatic 87, 3) := by decide +kernel
theorem dX12_kept_31 : decode cX12_kept 31 = .ok (.ifCond .ne 6, 3) := by decide +kernel
theorem dX12_kept_34 : decode cX12_kept 34 = .ok (.bipush (-3), 2) := by decide +kernel
theorem dX12_kept_36 : decode cX12_kept 36 = .ok (.ireturn, 1) := by decide +kernel
theorem dX12_kept_37 : decode cX12_kept 37 = .ok (.aload_n 0, 1) := by decide +kernel
theorem dX12_kept_38 : decode cX12_kept 38 = .ok (.iload_n 1, 1) := by decide +kernel
theorem dX12_kept_39 : decode cX12_kept 39 = .ok (.iload_n 2, 1) := by decide +kernel
theorem dX12_kept_40 : decode cX12_kept 40 = .ok (.invokevirtual 268, 3) := by decide +kernel
theorem dX12_kept_43 : decode cX12_kept 43 = .ok (.iload_n 3, 1) := by decide +kernel
theorem dX12_kept_44 : decode cX12_kept 44 = .ok (.ifCond .ne 10, 3) := by decide +kernel
theorem dX12_kept_47 : decode cX12_kept 47 = .ok (.aload_n 0, 1) := by decide +kernel
theorem dX12_kept_48 : decode cX12_kept 48 = .ok (.getfield 262, 3) := by decide +kernel
theorem dX12_kept_51 : decode cX12_kept 51 = .ok (.goto 7, 3) := by decide +kernel
theorem dX12_kept_54 : decode cX12_kept 54 = .ok (.aload_n 0, 1) := by decide +kernel
theorem dX12_kept_55 : decode cX12_kept 55 = .ok (.getfield 265, 3) := by decide +kernel
theorem dX12_kept_58 : decode cX12_kept 58 = .ok (.ireturn, 1) := by decide +kernel
theorem dX12_bestDead_0 : decode cX12_bestDead 0 = .ok (.iload_n 1, 1) := by decide +kernel
theorem dX12_bestDead_1 : decode cX12_bestDead 1 = .ok (.i2l, 1) := by decide +kernel
theorem dX12_bestDead_2 : decode cX12_bestDead 2 = .ok (.lconst 1, 1) := by decide +kernel
theorem dX12_bestDead_3 : decode cX12_bestDead 3 = .ok (.ldc2_w 252, 3) := by decide +kernel
theorem dX12_bestDead_6 : decode cX12_bestDead 6 = .ok (.invokestatic 87, 3) := by decide +kernel
theorem dX12_bestDead_9 : decode cX12_bestDead 9 = .ok (.ifCond .eq 15, 3) := by decide +kernel
theorem dX12_bestDead_12 : decode cX12_bestDead 12 = .ok (.iload_n 2, 1) := by decide +kernel
theorem dX12_bestDead_13 : decode cX12_bestDead 13 = .ok (.i2l, 1) := by decide +kernel
theorem dX12_bestDead_14 : decode cX12_bestDead 14 = .ok (.lconst 0, 1) := by decide +kernel
theorem dX12_bestDead_15 : decode cX12_bestDead 15 = .ok (.ldc2_w 271, 3) := by decide +kernel
theorem dX12_bestDead_18 : decode cX12_bestDead 18 = .ok (.invokestatic 87, 3) := by decide +kernel
theorem dX12_bestDead_21 : decode cX12_bestDead 21 = .ok (.ifCond .ne 6, 3) := by decide +kernel
theorem dX12_bestDead_24 : decode cX12_bestDead 24 = .ok (.bipush (-3), 2) := by decide +kernel
theorem dX12_bestDead_26 : decode cX12_bestDead 26 = .ok (.ireturn, 1) := by decide +kernel
theorem dX12_bestDead_27 : decode cX12_bestDead 27 = .ok (.iconst (-1), 1) := by decide +kernel
theorem dX12_bestDead_28 : decode cX12_bestDead 28 = .ok (.istore_n 3, 1) := by decide +kernel
theorem dX12_bestDead_29 : decode cX12_bestDead 29 = .ok (.ldc_w 273, 3) := by decide +kernel
theorem dX12_bestDead_32 : decode cX12_bestDead 32 = .ok (.istore 4, 2) := by decide +kernel
theorem dX12_bestDead_34 : decode cX12_bestDead 34 = .ok (.iconst 0, 1) := by decide +kernel
theorem dX12_bestDead_35 : decode cX12_bestDead 35 = .ok (.istore 5, 2) := by decide +kernel
theorem dX12_bestDead_37 : decode cX12_bestDead 37 = .ok (.iload 5, 2) := by decide +kernel
theorem dX12_bestDead_39 : decode cX12_bestDead 39 = .ok (.sipush 1000, 3) := by decide +kernel
theorem dX12_bestDead_42 : decode cX12_bestDead 42 = .ok (.if_icmp .ge 68, 3) := by decide +kernel
theorem dX12_bestDead_45 : decode cX12_bestDead 45 = .ok (.aload_n 0, 1) := by decide +kernel
theorem dX12_bestDead_46 : decode cX12_bestDead 46 = .ok (.iload_n 1, 1) := by decide +kernel
theorem dX12_bestDead_47 : decode cX12_bestDead 47 = .ok (.iload 5, 2) := by decide +kernel
theorem dX12_bestDead_49 : decode cX12_bestDead 49 = .ok (.invokevirtual 268, 3) := by decide +kernel
theorem dX12_bestDead_52 : decode cX12_bestDead 52 = .ok (.aload_n 0, 1) := by decide +kernel
theorem dX12_bestDead_53 : decode cX12_bestDead 53 = .ok (.getfield 262, 3) := by decide +kernel
theorem dX12_bestDead_56 : decode cX12_bestDead 56 = .ok (.iload_n 2, 1) := by decide +kernel
theorem dX12_bestDead_57 : decode cX12_bestDead 57 = .ok (.if_icmp .gt 16, 3) := by decide +kernel
theorem dX12_bestDead_60 : decode cX12_bestDead 60 = .ok (.aload_n 0, 1) := by decide +kernel
theorem dX12_bestDead_61 : decode cX12_bestDead 61 = .ok (.getfield 265, 3) := by decide +kernel
theorem dX12_bestDead_64 : decode cX12_bestDead 64 = .ok (.iload 4, 2) := by decide +kernel
theorem dX12_bestDead_66 : decode cX12_bestDead 66 = .ok (.if_icmp .ge 7, 3) := by decide +kernel
theorem dX12_bestDead_69 : decode cX12_bestDead 69 = .ok (.iconst 1, 1) := by decide +kernel
theorem dX12_bestDead_70 : decode cX12_bestDead 70 = .ok (.goto 4, 3) := by decide +kernel
theorem dX12_bestDead_73 : decode cX12_bestDead 73 = .ok (.iconst 0, 1) := by decide +kernel
theorem dX12_bestDead_74 : decode cX12_bestDead 74 = .ok (.istore 6, 2) := by decide +kernel
theorem dX12_bestDead_76 : decode cX12_bestDead 76 = .ok (.iload 6, 2) := by decide +kernel
theorem dX12_bestDead_78 : decode cX12_bestDead 78 = .ok (.ifCond .eq 8, 3) := by decide +kernel
theorem dX12_bestDead_81 : decode cX12_bestDead 81 = .ok (.iload 5, 2) := by decide +kernel
theorem dX12_bestDead_83 : decode cX12_bestDead 83 = .ok (.goto 4, 3) := by decide +kernel
theorem dX12_bestDead_86 : decode cX12_bestDead 86 = .ok (.iload_n 3, 1) := by decide +kernel
theorem dX12_bestDead_87 : decode cX12_bestDead 87 = .ok (.istore_n 3, 1) := by decide +kernel
theorem dX12_bestDead_88 : decode cX12_bestDead 88 = .ok (.iload 6, 2) := by decide +kernel
theorem dX12_bestDead_90 : decode cX12_bestDead 90 = .ok (.ifCond .eq 10, 3) := by decide +kernel
theorem dX12_bestDead_93 : decode cX12_bestDead 93 = .ok (.aload_n 0, 1) := by decide +kernel
theorem dX12_bestDead_94 : decode cX12_bestDead 94 = .ok (.getfield 265, 3) := by decide +kernel
theorem dX12_bestDead_97 : decode cX12_bestDead 97 = .ok (.goto 5, 3) := by decide +kernel
theorem dX12_bestDead_100 : decode cX12_bestDead 100 = .ok (.iload 4, 2) := by decide +kernel
theorem dX12_bestDead_102 : decode cX12_bestDead 102 = .ok (.istore 4, 2) := by decide +kernel
theorem dX12_bestDead_104 : decode cX12_bestDead 104 = .ok (.iinc 5 10, 3) := by decide +kernel
theorem dX12_bestDead_107 : decode cX12_bestDead 107 = .ok (.goto (-70), 3) := by decide +kernel
theorem dX12_bestDead_110 : decode cX12_bestDead 110 = .ok (.iload_n 3, 1) := by decide +kernel
theorem dX12_bestDead_111 : decode cX12_bestDead 111 = .ok (.ireturn, 1) := by decide +kernel
theorem dX12_look_0 : decode cX12_look 0 = .ok (.iload_n 1, 1) := by decide +kernel
theorem dX12_look_1 : decode cX12_look 1 = .ok (.invokestatic 115, 3) := by decide +kernel
theorem dX12_look_4 : decode cX12_look 4 = .ok (.ifCond .eq 17, 3) := by decide +kernel
theorem dX12_look_7 : decode cX12_look 7 = .ok (.iload_n 2, 1) := by decide +kernel
theorem dX12_look_8 : decode cX12_look 8 = .ok (.invokestatic 115, 3) := by decide +kernel
theorem dX12_look_11 : decode cX12_look 11 = .ok (.ifCond .eq 10, 3) := by decide +kernel
theorem dX12_look_14 : decode cX12_look 14 = .ok (.iload_n 3, 1) := by decide +kernel
theorem dX12_look_15 : decode cX12_look 15 = .ok (.invokestatic 115, 3) := by decide +kernel
theorem dX12_look_18 : decode cX12_look 18 = .ok (.ifCond .ne 6, 3) := by decide +kernel
theorem dX12_look_21 : decode cX12_look 21 = .ok (.bipush (-3), 2) := by decide +kernel
theorem dX12_look_23 : decode cX12_look 23 = .ok (.ireturn, 1) := by decide +kernel
theorem dX12_look_24 : decode cX12_look 24 = .ok (.aload_n 0, 1) := by decide +kernel
theorem dX12_look_25 : decode cX12_look 25 = .ok (.getfield 274, 3) := by decide +kernel
theorem dX12_look_28 : decode cX12_look 28 = .ok (.bipush 16, 2) := by decide +kernel
theorem dX12_look_30 : decode cX12_look 30 = .ok (.if_icmp .ne 6, 3) := by decide +kernel
theorem dX12_look_33 : decode cX12_look 33 = .ok (.bipush (-5), 2) := by decide +kernel
theorem dX12_look_35 : decode cX12_look 35 = .ok (.ireturn, 1) := by decide +kernel
theorem dX12_look_36 : decode cX12_look 36 = .ok (.aload_n 0, 1) := by decide +kernel
theorem dX12_look_37 : decode cX12_look 37 = .ok (.getfield 61, 3) := by decide +kernel
theorem dX12_look_40 : decode cX12_look 40 = .ok (.iconst 3, 1) := by decide +kernel
theorem dX12_look_41 : decode cX12_look 41 = .ok (.aload_n 0, 1) := by decide +kernel
theorem dX12_look_42 : decode cX12_look 42 = .ok (.getfield 274, 3) := by decide +kernel
theorem dX12_look_45 : decode cX12_look 45 = .ok (.imul, 1) := by decide +kernel
theorem dX12_look_46 : decode cX12_look 46 = .ok (.iload_n 1, 1) := by decide +kernel
theorem dX12_look_47 : decode cX12_look 47 = .ok (.iastore, 1) := by decide +kernel
theorem dX12_look_48 : decode cX12_look 48 = .ok (.aload_n 0, 1) := by decide +kernel
theorem dX12_look_49 : decode cX12_look 49 = .ok (.getfield 61, 3) := by decide +kernel
theorem dX12_look_52 : decode cX12_look 52 = .ok (.iconst 3, 1) := by decide +kernel
theorem dX12_look_53 : decode cX12_look 53 = .ok (.aload_n 0, 1) := by decide +kernel
theorem dX12_look_54 : decode cX12_look 54 = .ok (.getfield 274, 3) := by decide +kernel
theorem dX12_look_57 : decode cX12_look 57 = .ok (.imul, 1) := by decide +kernel
theorem dX12_look_58 : decode cX12_look 58 = .ok (.iconst 1, 1) := by decide +kernel
theorem dX12_look_59 : decode cX12_look 59 = .ok (.iadd, 1) := by decide +kernel
theorem dX12_look_60 : decode cX12_look 60 = .ok (.iload_n 2, 1) := by decide +kernel
theorem dX12_look_61 : decode cX12_look 61 = .ok (.iastore, 1) := by decide +kernel
theorem dX12_look_62 : decode cX12_look 62 = .ok (.aload_n 0, 1) := by decide +kernel
theorem dX12_look_63 : decode cX12_look 63 = .ok (.getfield 61, 3) := by decide +kernel
theorem dX12_look_66 : decode cX12_look 66 = .ok (.iconst 3, 1) := by decide +kernel
theorem dX12_look_67 : decode cX12_look 67 = .ok (.aload_n 0, 1) := by decide +kernel
theorem dX12_look_68 : decode cX12_look 68 = .ok (.getfield 274, 3) := by decide +kernel
theorem dX12_look_71 : decode cX12_look 71 = .ok (.imul, 1) := by decide +kernel
theorem dX12_look_72 : decode cX12_look 72 = .ok (.iconst 2, 1) := by decide +kernel
theorem dX12_look_73 : decode cX12_look 73 = .ok (.iadd, 1) := by decide +kernel
theorem dX12_look_74 : decode cX12_look 74 = .ok (.iload_n 3, 1) := by decide +kernel
theorem dX12_look_75 : decode cX12_look 75 = .ok (.iastore, 1) := by decide +kernel
theorem dX12_look_76 : decode cX12_look 76 = .ok (.aload_n 0, 1) := by decide +kernel
theorem dX12_look_77 : decode cX12_look 77 = .ok (.dup, 1) := by decide +kernel
theorem dX12_look_78 : decode cX12_look 78 = .ok (.getfield 274, 3) := by decide +kernel
theorem dX12_look_81 : decode cX12_look 81 = .ok (.iconst 1, 1) := by decide +kernel
theorem dX12_look_82 : decode cX12_look 82 = .ok (.iadd, 1) := by decide +kernel
theorem dX12_look_83 : decode cX12_look 83 = .ok (.putfield 274, 3) := by decide +kernel
theorem dX12_look_86 : decode cX12_look 86 = .ok (.aload_n 0, 1) := by decide +kernel
theorem dX12_look_87 : decode cX12_look 87 = .ok (.getfield 274, 3) := by decide +kernel
theorem dX12_look_90 : decode cX12_look 90 = .ok (.ireturn, 1) := by decide +kernel
theorem dX12_isWrong_0 : decode cX12_isWrong 0 = .ok (.aload_n 0, 1) := by decide +kernel
theorem dX12_isWrong_1 : decode cX12_isWrong 1 = .ok (.getfield 61, 3) := by decide +kernel
theorem dX12_isWrong_4 : decode cX12_isWrong 4 = .ok (.iconst 3, 1) := by decide +kernel
theorem dX12_isWrong_5 : decode cX12_isWrong 5 = .ok (.iload_n 1, 1) := by decide +kernel
theorem dX12_isWrong_6 : decode cX12_isWrong 6 = .ok (.imul, 1) := by decide +kernel
theorem dX12_isWrong_7 : decode cX12_isWrong 7 = .ok (.iload_n 2, 1) := by decide +kernel
theorem dX12_isWrong_8 : decode cX12_isWrong 8 = .ok (.iadd, 1) := by decide +kernel
theorem dX12_isWrong_9 : decode cX12_isWrong 9 = .ok (.iaload, 1) := by decide +kernel
theorem dX12_isWrong_10 : decode cX12_isWrong 10 = .ok (.istore 4, 2) := by decide +kernel
theorem dX12_isWrong_12 : decode cX12_isWrong 12 = .ok (.aload_n 0, 1) := by decide +kernel
theorem dX12_isWrong_13 : decode cX12_isWrong 13 = .ok (.getfield 61, 3) := by decide +kernel
theorem dX12_isWrong_16 : decode cX12_isWrong 16 = .ok (.iconst 3, 1) := by decide +kernel
theorem dX12_isWrong_17 : decode cX12_isWrong 17 = .ok (.iload_n 1, 1) := by decide +kernel
theorem dX12_isWrong_18 : decode cX12_isWrong 18 = .ok (.imul, 1) := by decide +kernel
theorem dX12_isWrong_19 : decode cX12_isWrong 19 = .ok (.iload_n 2, 1) := by decide +kernel
theorem dX12_isWrong_20 : decode cX12_isWrong 20 = .ok (.iconst 1, 1) := by decide +kernel
theorem dX12_isWrong_21 : decode cX12_isWrong 21 = .ok (.iadd, 1) := by decide +kernel
theorem dX12_isWrong_22 : decode cX12_isWrong 22 = .ok (.iconst 3, 1) := by decide +kernel
theorem dX12_isWrong_23 : decode cX12_isWrong 23 = .ok (.irem, 1) := by decide +kernel
theorem dX12_isWrong_24 : decode cX12_isWrong 24 = .ok (.iadd, 1) := by decide +kernel
theorem dX12_isWrong_25 : decode cX12_isWrong 25 = .ok (.iaload, 1) := by decide +kernel
theorem dX12_isWrong_26 : decode cX12_isWrong 26 = .ok (.istore 5, 2) := by decide +kernel
theorem dX12_isWrong_28 : decode cX12_isWrong 28 = .ok (.aload_n 0, 1) := by decide +kernel
theorem dX12_isWrong_29 : decode cX12_isWrong 29 = .ok (.getfield 61, 3) := by decide +kernel
theorem dX12_isWrong_32 : decode cX12_isWrong 32 = .ok (.iconst 3, 1) := by decide +kernel
theorem dX12_isWrong_33 : decode cX12_isWrong 33 = .ok (.iload_n 1, 1) := by decide +kernel
theorem dX12_isWrong_34 : decode cX12_isWrong 34 = .ok (.imul, 1) := by decide +kernel
theorem dX12_isWrong_35 : decode cX12_isWrong 35 = .ok (.iload_n 2, 1) := by decide +kernel
theorem dX12_isWrong_36 : decode cX12_isWrong 36 = .ok (.iconst 2, 1) := by decide +kernel
theorem dX12_isWrong_37 : decode cX12_isWrong 37 = .ok (.iadd, 1) := by decide +kernel
theorem dX12_isWrong_38 : decode cX12_isWrong 38 = .ok (.iconst 3, 1) := by decide +kernel
theorem dX12_isWrong_39 : decode cX12_isWrong 39 = .ok (.irem, 1) := by decide +kernel
theorem dX12_isWrong_40 : decode cX12_isWrong 40 = .ok (.iadd, 1) := by decide +kernel
theorem dX12_isWrong_41 : decode cX12_isWrong 41 = .ok (.iaload, 1) := by decide +kernel
theorem dX12_isWrong_42 : decode cX12_isWrong 42 = .ok (.istore 6, 2) := by decide +kernel
theorem dX12_isWrong_44 : decode cX12_isWrong 44 = .ok (.iload 4, 2) := by decide +kernel
theorem dX12_isWrong_46 : decode cX12_isWrong 46 = .ok (.iload 5, 2) := by decide +kernel
theorem dX12_isWrong_48 : decode cX12_isWrong 48 = .ok (.isub, 1) := by decide +kernel
theorem dX12_isWrong_49 : decode cX12_isWrong 49 = .ok (.invokestatic 167, 3) := by decide +kernel
theorem dX12_isWrong_52 : decode cX12_isWrong 52 = .ok (.invokestatic 96, 3) := by decide +kernel
theorem dX12_isWrong_55 : decode cX12_isWrong 55 = .ok (.iload_n 3, 1) := by decide +kernel
theorem dX12_isWrong_56 : decode cX12_isWrong 56 = .ok (.if_icmp .le 37, 3) := by decide +kernel
theorem dX12_isWrong_59 : decode cX12_isWrong 59 = .ok (.iload 4, 2) := by decide +kernel
theorem dX12_isWrong_61 : decode cX12_isWrong 61 = .ok (.iload 6, 2) := by decide +kernel
theorem dX12_isWrong_63 : decode cX12_isWrong 63 = .ok (.isub, 1) := by decide +kernel
theorem dX12_isWrong_64 : decode cX12_isWrong 64 = .ok (.invokestatic 167, 3) := by decide +kernel
theorem dX12_isWrong_67 : decode cX12_isWrong 67 = .ok (.invokestatic 96, 3) := by decide +kernel
theorem dX12_isWrong_70 : decode cX12_isWrong 70 = .ok (.iload_n 3, 1) := by decide +kernel
theorem dX12_isWrong_71 : decode cX12_isWrong 71 = .ok (.if_icmp .le 22, 3) := by decide +kernel
theorem dX12_isWrong_74 : decode cX12_isWrong 74 = .ok (.iload 5, 2) := by decide +kernel
theorem dX12_isWrong_76 : decode cX12_isWrong 76 = .ok (.iload 6, 2) := by decide +kernel
theorem dX12_isWrong_78 : decode cX12_isWrong 78 = .ok (.isub, 1) := by decide +kernel
theorem dX12_isWrong_79 : decode cX12_isWrong 79 = .ok (.invokestatic 167, 3) := by decide +kernel
theorem dX12_isWrong_82 : decode cX12_isWrong 82 = .ok (.invokestatic 96, 3) := by decide +kernel
theorem dX12_isWrong_85 : decode cX12_isWrong 85 = .ok (.iload_n 3, 1) := by decide +kernel
theorem dX12_isWrong_86 : decode cX12_isWrong 86 = .ok (.if_icmp .gt 7, 3) := by decide +kernel
theorem dX12_isWrong_89 : decode cX12_isWrong 89 = .ok (.iconst 1, 1) := by decide +kernel
theorem dX12_isWrong_90 : decode cX12_isWrong 90 = .ok (.goto 4, 3) := by decide +kernel
theorem dX12_isWrong_93 : decode cX12_isWrong 93 = .ok (.iconst 0, 1) := by decide +kernel
theorem dX12_isWrong_94 : decode cX12_isWrong 94 = .ok (.ireturn, 1) := by decide +kernel
theorem dX12_wrong_0 : decode cX12_wrong 0 = .ok (.iload_n 1, 1) := by decide +kernel
theorem dX12_wrong_1 : decode cX12_wrong 1 = .ok (.i2l, 1) := by decide +kernel
theorem dX12_wrong_2 : decode cX12_wrong 2 = .ok (.lconst 0, 1) := by decide +kernel
theorem dX12_wrong_3 : decode cX12_wrong 3 = .ok (.ldc2_w 240, 3) := by decide +kernel
theorem dX12_wrong_6 : decode cX12_wrong 6 = .ok (.invokestatic 87, 3) := by decide +kernel
theorem dX12_wrong_9 : decode cX12_wrong 9 = .ok (.ifCond .eq 13, 3) := by decide +kernel
theorem dX12_wrong_12 : decode cX12_wrong 12 = .ok (.iload_n 2, 1) := by decide +kernel
theorem dX12_wrong_13 : decode cX12_wrong 13 = .ok (.i2l, 1) := by decide +kernel
theorem dX12_wrong_14 : decode cX12_wrong 14 = .ok (.lconst 0, 1) := by decide +kernel
theorem dX12_wrong_15 : decode cX12_wrong 15 = .ok (.lconst 1, 1) := by decide +kernel
theorem dX12_wrong_16 : decode cX12_wrong 16 = .ok (.invokestatic 87, 3) := by decide +kernel
theorem dX12_wrong_19 : decode cX12_wrong 19 = .ok (.ifCond .ne 6, 3) := by decide +kernel
theorem dX12_wrong_22 : decode cX12_wrong 22 = .ok (.bipush (-3), 2) := by decide +kernel
theorem dX12_wrong_24 : decode cX12_wrong 24 = .ok (.ireturn, 1) := by decide +kernel
theorem dX12_wrong_25 : decode cX12_wrong 25 = .ok (.iconst 0, 1) := by decide +kernel
theorem dX12_wrong_26 : decode cX12_wrong 26 = .ok (.istore_n 3, 1) := by decide +kernel
theorem dX12_wrong_27 : decode cX12_wrong 27 = .ok (.iconst 0, 1) := by decide +kernel
theorem dX12_wrong_28 : decode cX12_wrong 28 = .ok (.istore 4, 2) := by decide +kernel
theorem dX12_wrong_30 : decode cX12_wrong 30 = .ok (.iload 4, 2) := by decide +kernel
theorem dX12_wrong_32 : decode cX12_wrong 32 = .ok (.iconst 3, 1) := by decide +kernel
theorem dX12_wrong_33 : decode cX12_wrong 33 = .ok (.if_icmp .ge 82, 3) := by decide +kernel
theorem dX12_wrong_36 : decode cX12_wrong 36 = .ok (.iconst 0, 1) := by decide +kernel
theorem dX12_wrong_37 : decode cX12_wrong 37 = .ok (.istore 5, 2) := by decide +kernel
theorem dX12_wrong_39 : decode cX12_wrong 39 = .ok (.iconst 0, 1) := by decide +kernel
theorem dX12_wrong_40 : decode cX12_wrong 40 = .ok (.istore 6, 2) := by decide +kernel
theorem dX12_wrong_42 : decode cX12_wrong 42 = .ok (.iload 6, 2) := by decide +kernel
theorem dX12_wrong_44 : decode cX12_wrong 44 = .ok (.aload_n 0, 1) := by decide +kernel
theorem dX12_wrong_45 : decode cX12_wrong 45 = .ok (.getfield 274, 3) := by decide +kernel
theorem dX12_wrong_48 : decode cX12_wrong 48 = .ok (.if_icmp .ge 31, 3) := by decide +kernel
theorem dX12_wrong_51 : decode cX12_wrong 51 = .ok (.iload 5, 2) := by decide +kernel
theorem dX12_wrong_53 : decode cX12_wrong 53 = .ok (.aload_n 0, 1) := by decide +kernel
theorem dX12_wrong_54 : decode cX12_wrong 54 = .ok (.iload 6, 2) := by decide +kernel
theorem dX12_wrong_56 : decode cX12_wrong 56 = .ok (.iload 4, 2) := by decide +kernel
theorem dX12_wrong_58 : decode cX12_wrong 58 = .ok (.iload_n 1, 1) := by decide +kernel
theorem dX12_wrong_59 : decode cX12_wrong 59 = .ok (.invokevirtual 277, 3) := by decide +kernel
theorem dX12_wrong_62 : decode cX12_wrong 62 = .ok (.ifCond .eq 7, 3) := by decide +kernel
theorem dX12_wrong_65 : decode cX12_wrong 65 = .ok (.iconst 1, 1) := by decide +kernel
theorem dX12_wrong_66 : decode cX12_wrong 66 = .ok (.goto 4, 3) := by decide +kernel
theorem dX12_wrong_69 : decode cX12_wrong 69 = .ok (.iconst 0, 1) := by decide +kernel
theorem dX12_wrong_70 : decode cX12_wrong 70 = .ok (.iadd, 1) := by decide +kernel
theorem dX12_wrong_71 : decode cX12_wrong 71 = .ok (.istore 5, 2) := by decide +kernel
theorem dX12_wrong_73 : decode cX12_wrong 73 = .ok (.iinc 6 1, 3) := by decide +kernel
theorem dX12_wrong_76 : decode cX12_wrong 76 = .ok (.goto (-34), 3) := by decide +kernel
theorem dX12_wrong_79 : decode cX12_wrong 79 = .ok (.iload_n 3, 1) := by decide +kernel
theorem dX12_wrong_80 : decode cX12_wrong 80 = .ok (.iload 5, 2) := by decide +kernel
theorem dX12_wrong_82 : decode cX12_wrong 82 = .ok (.ifCond .le 24, 3) := by decide +kernel
theorem dX12_wrong_85 : decode cX12_wrong 85 = .ok (.iload_n 2, 1) := by decide +kernel
theorem dX12_wrong_86 : decode cX12_wrong 86 = .ok (.iconst 1, 1) := by decide +kernel
theorem dX12_wrong_87 : decode cX12_wrong 87 = .ok (.if_icmp .eq 12, 3) := by decide +kernel
theorem dX12_wrong_90 : decode cX12_wrong 90 = .ok (.iload 5, 2) := by decide +kernel
theorem dX12_wrong_92 : decode cX12_wrong 92 = .ok (.aload_n 0, 1) := by decide +kernel
theorem dX12_wrong_93 : decode cX12_wrong 93 = .ok (.getfield 274, 3) := by decide +kernel
theorem dX12_wrong_96 : decode cX12_wrong 96 = .ok (.if_icmp .ne 10, 3) := by decide +kernel
theorem dX12_wrong_99 : decode cX12_wrong 99 = .ok (.iconst 1, 1) := by decide +kernel
theorem dX12_wrong_100 : decode cX12_wrong 100 = .ok (.iload 4, 2) := by decide +kernel
theorem dX12_wrong_102 : decode cX12_wrong 102 = .ok (.ishl, 1) := by decide +kernel
theorem dX12_wrong_103 : decode cX12_wrong 103 = .ok (.goto 4, 3) := by decide +kernel
theorem dX12_wrong_106 : decode cX12_wrong 106 = .ok (.iconst 0, 1) := by decide +kernel
theorem dX12_wrong_107 : decode cX12_wrong 107 = .ok (.ior, 1) := by decide +kernel
theorem dX12_wrong_108 : decode cX12_wrong 108 = .ok (.istore_n 3, 1) := by decide +kernel
theorem dX12_wrong_109 : decode cX12_wrong 109 = .ok (.iinc 4 1, 3) := by decide +kernel
theorem dX12_wrong_112 : decode cX12_wrong 112 = .ok (.goto (-82), 3) := by decide +kernel
theorem dX12_wrong_115 : decode cX12_wrong 115 = .ok (.iload_n 3, 1) := by decide +kernel
theorem dX12_wrong_116 : decode cX12_wrong 116 = .ok (.ireturn, 1) := by decide +kernel
theorem dX12_about_0 : decode cX12_about 0 = .ok (.iload_n 1, 1) := by decide +kernel
theorem dX12_about_1 : decode cX12_about 1 = .ok (.invokestatic 115, 3) := by decide +kernel
theorem dX12_about_4 : decode cX12_about 4 = .ok (.ifCond .eq 10, 3) := by decide +kernel
theorem dX12_about_7 : decode cX12_about 7 = .ok (.iload_n 2, 1) := by decide +kernel
theorem dX12_about_8 : decode cX12_about 8 = .ok (.invokestatic 115, 3) := by decide +kernel
theorem dX12_about_11 : decode cX12_about 11 = .ok (.ifCond .ne 6, 3) := by decide +kernel
theorem dX12_about_14 : decode cX12_about 14 = .ok (.bipush (-3), 2) := by decide +kernel
theorem dX12_about_16 : decode cX12_about 16 = .ok (.ireturn, 1) := by decide +kernel
theorem dX12_about_17 : decode cX12_about 17 = .ok (.aload_n 0, 1) := by decide +kernel
theorem dX12_about_18 : decode cX12_about 18 = .ok (.getfield 280, 3) := by decide +kernel
theorem dX12_about_21 : decode cX12_about 21 = .ok (.bipush 24, 2) := by decide +kernel
theorem dX12_about_23 : decode cX12_about 23 = .ok (.if_icmp .ne 6, 3) := by decide +kernel
theorem dX12_about_26 : decode cX12_about 26 = .ok (.bipush (-5), 2) := by decide +kernel
theorem dX12_about_28 : decode cX12_about 28 = .ok (.ireturn, 1) := by decide +kernel
theorem dX12_about_29 : decode cX12_about 29 = .ok (.aload_n 0, 1) := by decide +kernel
theorem dX12_about_30 : decode cX12_about 30 = .ok (.getfield 64, 3) := by decide +kernel
theorem dX12_about_33 : decode cX12_about 33 = .ok (.aload_n 0, 1) := by decide +kernel
theorem dX12_about_34 : decode cX12_about 34 = .ok (.getfield 280, 3) := by decide +kernel
theorem dX12_about_37 : decode cX12_about 37 = .ok (.iload_n 1, 1) := by decide +kernel
theorem dX12_about_38 : decode cX12_about 38 = .ok (.iastore, 1) := by decide +kernel
theorem dX12_about_39 : decode cX12_about 39 = .ok (.aload_n 0, 1) := by decide +kernel
theorem dX12_about_40 : decode cX12_about 40 = .ok (.getfield 67, 3) := by decide +kernel
theorem dX12_about_43 : decode cX12_about 43 = .ok (.aload_n 0, 1) := by decide +kernel
theorem dX12_about_44 : decode cX12_about 44 = .ok (.getfield 280, 3) := by decide +kernel
theorem dX12_about_47 : decode cX12_about 47 = .ok (.iload_n 1, 1) := by decide +kernel
theorem dX12_about_48 : decode cX12_about 48 = .ok (.iload_n 2, 1) := by decide +kernel
theorem dX12_about_49 : decode cX12_about 49 = .ok (.isub, 1) := by decide +kernel
theorem dX12_about_50 : decode cX12_about 50 = .ok (.invokestatic 167, 3) := by decide +kernel
theorem dX12_about_53 : decode cX12_about 53 = .ok (.iastore, 1) := by decide +kernel
theorem dX12_about_54 : decode cX12_about 54 = .ok (.aload_n 0, 1) := by decide +kernel
theorem dX12_about_55 : decode cX12_about 55 = .ok (.dup, 1) := by decide +kernel
theorem dX12_about_56 : decode cX12_about 56 = .ok (.getfield 280, 3) := by decide +kernel
theorem dX12_about_59 : decode cX12_about 59 = .ok (.iconst 1, 1) := by decide +kernel
theorem dX12_about_60 : decode cX12_about 60 = .ok (.iadd, 1) := by decide +kernel
theorem dX12_about_61 : decode cX12_about 61 = .ok (.putfield 280, 3) := by decide +kernel
theorem dX12_about_64 : decode cX12_about 64 = .ok (.aload_n 0, 1) := by decide +kernel
theorem dX12_about_65 : decode cX12_about 65 = .ok (.getfield 280, 3) := by decide +kernel
theorem dX12_about_68 : decode cX12_about 68 = .ok (.ireturn, 1) := by decide +kernel
theorem dX12_needle_0 : decode cX12_needle 0 = .ok (.iload_n 1, 1) := by decide +kernel
theorem dX12_needle_1 : decode cX12_needle 1 = .ok (.i2l, 1) := by decide +kernel
theorem dX12_needle_2 : decode cX12_needle 2 = .ok (.lconst 0, 1) := by decide +kernel
theorem dX12_needle_3 : decode cX12_needle 3 = .ok (.ldc2_w 145, 3) := by decide +kernel
theorem dX12_needle_6 : decode cX12_needle 6 = .ok (.invokestatic 87, 3) := by decide +kernel
theorem dX12_needle_9 : decode cX12_needle 9 = .ok (.ifCond .eq 13, 3) := by decide +kernel
theorem dX12_needle_12 : decode cX12_needle 12 = .ok (.iload_n 2, 1) := by decide +kernel
theorem dX12_needle_13 : decode cX12_needle 13 = .ok (.i2l, 1) := by decide +kernel
theorem dX12_needle_14 : decode cX12_needle 14 = .ok (.lconst 0, 1) := by decide +kernel
theorem dX12_needle_15 : decode cX12_needle 15 = .ok (.lconst 1, 1) := by decide +kernel
theorem dX12_needle_16 : decode cX12_needle 16 = .ok (.invokestatic 87, 3) := by decide +kernel
theorem dX12_needle_19 : decode cX12_needle 19 = .ok (.ifCond .ne 6, 3) := by decide +kernel
theorem dX12_needle_22 : decode cX12_needle 22 = .ok (.bipush (-3), 2) := by decide +kernel
theorem dX12_needle_24 : decode cX12_needle 24 = .ok (.ireturn, 1) := by decide +kernel
theorem dX12_needle_25 : decode cX12_needle 25 = .ok (.iconst (-1), 1) := by decide +kernel
theorem dX12_needle_26 : decode cX12_needle 26 = .ok (.istore_n 3, 1) := by decide +kernel
theorem dX12_needle_27 : decode cX12_needle 27 = .ok (.iconst 0, 1) := by decide +kernel
theorem dX12_needle_28 : decode cX12_needle 28 = .ok (.istore 4, 2) := by decide +kernel
theorem dX12_needle_30 : decode cX12_needle 30 = .ok (.iload 4, 2) := by decide +kernel
theorem dX12_needle_32 : decode cX12_needle 32 = .ok (.aload_n 0, 1) := by decide +kernel
theorem dX12_needle_33 : decode cX12_needle 33 = .ok (.getfield 280, 3) := by decide +kernel
theorem dX12_needle_36 : decode cX12_needle 36 = .ok (.if_icmp .ge 106, 3) := by decide +kernel
theorem dX12_needle_39 : decode cX12_needle 39 = .ok (.aload_n 0, 1) := by decide +kernel
theorem dX12_needle_40 : decode cX12_needle 40 = .ok (.getfield 64, 3) := by decide +kernel
theorem dX12_needle_43 : decode cX12_needle 43 = .ok (.iload 4, 2) := by decide +kernel
theorem dX12_needle_45 : decode cX12_needle 45 = .ok (.iaload, 1) := by decide +kernel
theorem dX12_needle_46 : decode cX12_needle 46 = .ok (.sipush 2250, 3) := by decide +kernel
theorem dX12_needle_49 : decode cX12_needle 49 = .ok (.iadd, 1) := by decide +kernel
theorem dX12_needle_50 : decode cX12_needle 50 = .ok (.sipush 4500, 3) := by decide +kernel
theorem dX12_needle_53 : decode cX12_needle 53 = .ok (.idiv, 1) := by decide +kernel
theorem dX12_needle_54 : decode cX12_needle 54 = .ok (.bipush 8, 2) := by decide +kernel
theorem dX12_needle_56 : decode cX12_needle 56 = .ok (.irem, 1) := by decide +kernel
theorem dX12_needle_57 : decode cX12_needle 57 = .ok (.iload_n 1, 1) := by decide +kernel
theorem dX12_needle_58 : decode cX12_needle 58 = .ok (.if_icmp .ne 7, 3) := by decide +kernel
theorem dX12_needle_61 : decode cX12_needle 61 = .ok (.iconst 1, 1) := by decide +kernel
theorem dX12_needle_62 : decode cX12_needle 62 = .ok (.goto 4, 3) := by decide +kernel
theorem dX12_needle_65 : decode cX12_needle 65 = .ok (.iconst 0, 1) := by decide +kernel
theorem dX12_needle_66 : decode cX12_needle 66 = .ok (.istore 5, 2) := by decide +kernel
theorem dX12_needle_68 : decode cX12_needle 68 = .ok (.iload_n 3, 1) := by decide +kernel
theorem dX12_needle_69 : decode cX12_needle 69 = .ok (.iconst (-1), 1) := by decide +kernel
theorem dX12_needle_70 : decode cX12_needle 70 = .ok (.if_icmp .eq 42, 3) := by decide +kernel
theorem dX12_needle_73 : decode cX12_needle 73 = .ok (.iload_n 2, 1) := by decide +kernel
theorem dX12_needle_74 : decode cX12_needle 74 = .ok (.ifCond .ne 22, 3) := by decide +kernel
theorem dX12_needle_77 : decode cX12_needle 77 = .ok (.aload_n 0, 1) := by decide +kernel
theorem dX12_needle_78 : decode cX12_needle 78 = .ok (.getfield 67, 3) := by decide +kernel
theorem dX12_needle_81 : decode cX12_needle 81 = .ok (.iload 4, 2) := by decide +kernel
theorem dX12_needle_83 : decode cX12_needle 83 = .ok (.iaload, 1) := by decide +kernel
theorem dX12_needle_84 : decode cX12_needle 84 = .ok (.aload_n 0, 1) := by decide +kernel
theorem dX12_needle_85 : decode cX12_needle 85 = .ok (.getfield 67, 3) := by decide +kernel
theorem dX12_needle_88 : decode cX12_needle 88 = .ok (.iload_n 3, 1) := by decide +kernel
theorem dX12_needle_89 : decode cX12_needle 89 = .ok (.iaload, 1) := by decide +kernel
theorem dX12_needle_90 : decode cX12_needle 90 = .ok (.if_icmp .ge 26, 3) := by decide +kernel
theorem dX12_needle_93 : decode cX12_needle 93 = .ok (.goto 19, 3) := by decide +kernel
theorem dX12_needle_96 : decode cX12_needle 96 = .ok (.aload_n 0, 1) := by decide +kernel
theorem dX12_needle_97 : decode cX12_needle 97 = .ok (.getfield 67, 3) := by decide +kernel
theorem dX12_needle_100 : decode cX12_needle 100 = .ok (.iload 4, 2) := by decide +kernel
theorem dX12_needle_102 : decode cX12_needle 102 = .ok (.iaload, 1) := by decide +kernel
theorem dX12_needle_103 : decode cX12_needle 103 = .ok (.aload_n 0, 1) := by decide +kernel
theorem dX12_needle_104 : decode cX12_needle 104 = .ok (.getfield 67, 3) := by decide +kernel
theorem dX12_needle_107 : decode cX12_needle 107 = .ok (.iload_n 3, 1) := by decide +kernel
theorem dX12_needle_108 : decode cX12_needle 108 = .ok (.iaload, 1) := by decide +kernel
theorem dX12_needle_109 : decode cX12_needle 109 = .ok (.if_icmp .le 7, 3) := by decide +kernel
theorem dX12_needle_112 : decode cX12_needle 112 = .ok (.iconst 1, 1) := by decide +kernel
theorem dX12_needle_113 : decode cX12_needle 113 = .ok (.goto 4, 3) := by decide +kernel
theorem dX12_needle_116 : decode cX12_needle 116 = .ok (.iconst 0, 1) := by decide +kernel
theorem dX12_needle_117 : decode cX12_needle 117 = .ok (.istore 6, 2) := by decide +kernel
theorem dX12_needle_119 : decode cX12_needle 119 = .ok (.iload 5, 2) := by decide +kernel
theorem dX12_needle_121 : decode cX12_needle 121 = .ok (.ifCond .eq 13, 3) := by decide +kernel
theorem dX12_needle_124 : decode cX12_needle 124 = .ok (.iload 6, 2) := by decide +kernel
theorem dX12_needle_126 : decode cX12_needle 126 = .ok (.ifCond .eq 8, 3) := by decide +kernel
theorem dX12_needle_129 : decode cX12_needle 129 = .ok (.iload 4, 2) := by decide +kernel
theorem dX12_needle_131 : decode cX12_needle 131 = .ok (.goto 4, 3) := by decide +kernel
theorem dX12_needle_134 : decode cX12_needle 134 = .ok (.iload_n 3, 1) := by decide +kernel
theorem dX12_needle_135 : decode cX12_needle 135 = .ok (.istore_n 3, 1) := by decide +kernel
theorem dX12_needle_136 : decode cX12_needle 136 = .ok (.iinc 4 1, 3) := by decide +kernel
theorem dX12_needle_139 : decode cX12_needle 139 = .ok (.goto (-109), 3) := by decide +kernel
theorem dX12_needle_142 : decode cX12_needle 142 = .ok (.iload_n 3, 1) := by decide +kernel
theorem dX12_needle_143 : decode cX12_needle 143 = .ok (.iconst (-1), 1) := by decide +kernel
theorem dX12_needle_144 : decode cX12_needle 144 = .ok (.if_icmp .ne 7, 3) := by decide +kernel
theorem dX12_needle_147 : decode cX12_needle 147 = .ok (.iconst (-1), 1) := by decide +kernel
theorem dX12_needle_148 : decode cX12_needle 148 = .ok (.goto 12, 3) := by decide +kernel
theorem dX12_needle_151 : decode cX12_needle 151 = .ok (.ldc 165, 2) := by decide +kernel
theorem dX12_needle_153 : decode cX12_needle 153 = .ok (.aload_n 0, 1) := by decide +kernel
theorem dX12_needle_154 : decode cX12_needle 154 = .ok (.getfield 67, 3) := by decide +kernel
theorem dX12_needle_157 : decode cX12_needle 157 = .ok (.iload_n 3, 1) := by decide +kernel
theorem dX12_needle_158 : decode cX12_needle 158 = .ok (.iaload, 1) := by decide +kernel
theorem dX12_needle_159 : decode cX12_needle 159 = .ok (.iadd, 1) := by decide +kernel
theorem dX12_needle_160 : decode cX12_needle 160 = .ok (.ireturn, 1) := by decide +kernel
theorem dX12_watch_0 : decode cX12_watch 0 = .ok (.iload_n 1, 1) := by decide +kernel
theorem dX12_watch_1 : decode cX12_watch 1 = .ok (.i2l, 1) := by decide +kernel
theorem dX12_watch_2 : decode cX12_watch 2 = .ok (.lconst 0, 1) := by decide +kernel
theorem dX12_watch_3 : decode cX12_watch 3 = .ok (.ldc2_w 283, 3) := by decide +kernel
theorem dX12_watch_6 : decode cX12_watch 6 = .ok (.invokestatic 87, 3) := by decide +kernel
theorem dX12_watch_9 : decode cX12_watch 9 = .ok (.ifCond .eq 10, 3) := by decide +kernel
theorem dX12_watch_12 : decode cX12_watch 12 = .ok (.iload_n 2, 1) := by decide +kernel
theorem dX12_watch_13 : decode cX12_watch 13 = .ok (.invokestatic 136, 3) := by decide +kernel
theorem dX12_watch_16 : decode cX12_watch 16 = .ok (.ifCond .ne 6, 3) := by decide +kernel
theorem dX12_watch_19 : decode cX12_watch 19 = .ok (.bipush (-3), 2) := by decide +kernel
theorem dX12_watch_21 : decode cX12_watch 21 = .ok (.ireturn, 1) := by decide +kernel
theorem dX12_watch_22 : decode cX12_watch 22 = .ok (.aload_n 0, 1) := by decide +kernel
theorem dX12_watch_23 : decode cX12_watch 23 = .ok (.getfield 285, 3) := by decide +kernel
theorem dX12_watch_26 : decode cX12_watch 26 = .ok (.bipush 10, 2) := by decide +kernel
theorem dX12_watch_28 : decode cX12_watch 28 = .ok (.if_icmp .ne 6, 3) := by decide +kernel
theorem dX12_watch_31 : decode cX12_watch 31 = .ok (.bipush (-5), 2) := by decide +kernel
theorem dX12_watch_33 : decode cX12_watch 33 = .ok (.ireturn, 1) := by decide +kernel
theorem dX12_watch_34 : decode cX12_watch 34 = .ok (.aload_n 0, 1) := by decide +kernel
theorem dX12_watch_35 : decode cX12_watch 35 = .ok (.getfield 70, 3) := by decide +kernel
theorem dX12_watch_38 : decode cX12_watch 38 = .ok (.aload_n 0, 1) := by decide +kernel
theorem dX12_watch_39 : decode cX12_watch 39 = .ok (.getfield 285, 3) := by decide +kernel
theorem dX12_watch_42 : decode cX12_watch 42 = .ok (.iload_n 1, 1) := by decide +kernel
theorem dX12_watch_43 : decode cX12_watch 43 = .ok (.iastore, 1) := by decide +kernel
theorem dX12_watch_44 : decode cX12_watch 44 = .ok (.aload_n 0, 1) := by decide +kernel
theorem dX12_watch_45 : decode cX12_watch 45 = .ok (.getfield 73, 3) := by decide +kernel
theorem dX12_watch_48 : decode cX12_watch 48 = .ok (.aload_n 0, 1) := by decide +kernel
theorem dX12_watch_49 : decode cX12_watch 49 = .ok (.getfield 285, 3) := by decide +kernel
theorem dX12_watch_52 : decode cX12_watch 52 = .ok (.iload_n 2, 1) := by decide +kernel
theorem dX12_watch_53 : decode cX12_watch 53 = .ok (.iastore, 1) := by decide +kernel
theorem dX12_watch_54 : decode cX12_watch 54 = .ok (.aload_n 0, 1) := by decide +kernel
theorem dX12_watch_55 : decode cX12_watch 55 = .ok (.dup, 1) := by decide +kernel
theorem dX12_watch_56 : decode cX12_watch 56 = .ok (.getfield 285, 3) := by decide +kernel
theorem dX12_watch_59 : decode cX12_watch 59 = .ok (.iconst 1, 1) := by decide +kernel
theorem dX12_watch_60 : decode cX12_watch 60 = .ok (.iadd, 1) := by decide +kernel
theorem dX12_watch_61 : decode cX12_watch 61 = .ok (.putfield 285, 3) := by decide +kernel
theorem dX12_watch_64 : decode cX12_watch 64 = .ok (.aload_n 0, 1) := by decide +kernel
theorem dX12_watch_65 : decode cX12_watch 65 = .ok (.getfield 285, 3) := by decide +kernel
theorem dX12_watch_68 : decode cX12_watch 68 = .ok (.ireturn, 1) := by decide +kernel
theorem dX12_mayBe_0 : decode cX12_mayBe 0 = .ok (.aload_n 0, 1) := by decide +kernel
theorem dX12_mayBe_1 : decode cX12_mayBe 1 = .ok (.iload_n 1, 1) := by decide +kernel
theorem dX12_mayBe_2 : decode cX12_mayBe 2 = .ok (.iload_n 2, 1) := by decide +kernel
theorem dX12_mayBe_3 : decode cX12_mayBe 3 = .ok (.iconst 1, 1) := by decide +kernel
theorem dX12_mayBe_4 : decode cX12_mayBe 4 = .ok (.iconst 0, 1) := by decide +kernel
theorem dX12_mayBe_5 : decode cX12_mayBe 5 = .ok (.sipush 3000, 3) := by decide +kernel
theorem dX12_mayBe_8 : decode cX12_mayBe 8 = .ok (.bipush 60, 2) := by decide +kernel
theorem dX12_mayBe_10 : decode cX12_mayBe 10 = .ok (.invokevirtual 242, 3) := by decide +kernel
theorem dX12_mayBe_13 : decode cX12_mayBe 13 = .ok (.iconst 1, 1) := by decide +kernel
theorem dX12_mayBe_14 : decode cX12_mayBe 14 = .ok (.istore 4, 2) := by decide +kernel
theorem dX12_mayBe_16 : decode cX12_mayBe 16 = .ok (.iconst 0, 1) := by decide +kernel
theorem dX12_mayBe_17 : decode cX12_mayBe 17 = .ok (.istore 5, 2) := by decide +kernel
theorem dX12_mayBe_19 : decode cX12_mayBe 19 = .ok (.iload 5, 2) := by decide +kernel
theorem dX12_mayBe_21 : decode cX12_mayBe 21 = .ok (.aload_n 0, 1) := by decide +kernel
theorem dX12_mayBe_22 : decode cX12_mayBe 22 = .ok (.getfield 285, 3) := by decide +kernel
theorem dX12_mayBe_25 : decode cX12_mayBe 25 = .ok (.if_icmp .ge 51, 3) := by decide +kernel
theorem dX12_mayBe_28 : decode cX12_mayBe 28 = .ok (.iload 4, 2) := by decide +kernel
theorem dX12_mayBe_30 : decode cX12_mayBe 30 = .ok (.ifCond .eq 37, 3) := by decide +kernel
theorem dX12_mayBe_33 : decode cX12_mayBe 33 = .ok (.aload_n 0, 1) := by decide +kernel
theorem dX12_mayBe_34 : decode cX12_mayBe 34 = .ok (.getfield 76, 3) := by decide +kernel
theorem dX12_mayBe_37 : decode cX12_mayBe 37 = .ok (.aload_n 0, 1) := by decide +kernel
theorem dX12_mayBe_38 : decode cX12_mayBe 38 = .ok (.getfield 70, 3) := by decide +kernel
theorem dX12_mayBe_41 : decode cX12_mayBe 41 = .ok (.iload 5, 2) := by decide +kernel
theorem dX12_mayBe_43 : decode cX12_mayBe 43 = .ok (.iaload, 1) := by decide +kernel
theorem dX12_mayBe_44 : decode cX12_mayBe 44 = .ok (.iaload, 1) := by decide +kernel
theorem dX12_mayBe_45 : decode cX12_mayBe 45 = .ok (.aload_n 0, 1) := by decide +kernel
theorem dX12_mayBe_46 : decode cX12_mayBe 46 = .ok (.getfield 73, 3) := by decide +kernel
theorem dX12_mayBe_49 : decode cX12_mayBe 49 = .ok (.iload 5, 2) := by decide +kernel
theorem dX12_mayBe_51 : decode cX12_mayBe 51 = .ok (.iaload, 1) := by decide +kernel
theorem dX12_mayBe_52 : decode cX12_mayBe 52 = .ok (.isub, 1) := by decide +kernel
theorem dX12_mayBe_53 : decode cX12_mayBe 53 = .ok (.invokestatic 167, 3) := by decide +kernel
theorem dX12_mayBe_56 : decode cX12_mayBe 56 = .ok (.invokestatic 96, 3) := by decide +kernel
theorem dX12_mayBe_59 : decode cX12_mayBe 59 = .ok (.iload_n 3, 1) := by decide +kernel
theorem dX12_mayBe_60 : decode cX12_mayBe 60 = .ok (.if_icmp .gt 7, 3) := by decide +kernel
theorem dX12_mayBe_63 : decode cX12_mayBe 63 = .ok (.iconst 1, 1) := by decide +kernel
theorem dX12_mayBe_64 : decode cX12_mayBe 64 = .ok (.goto 4, 3) := by decide +kernel
theorem dX12_mayBe_67 : decode cX12_mayBe 67 = .ok (.iconst 0, 1) := by decide +kernel
theorem dX12_mayBe_68 : decode cX12_mayBe 68 = .ok (.istore 4, 2) := by decide +kernel
theorem dX12_mayBe_70 : decode cX12_mayBe 70 = .ok (.iinc 5 1, 3) := by decide +kernel
theorem dX12_mayBe_73 : decode cX12_mayBe 73 = .ok (.goto (-54), 3) := by decide +kernel
theorem dX12_mayBe_76 : decode cX12_mayBe 76 = .ok (.iload 4, 2) := by decide +kernel
theorem dX12_mayBe_78 : decode cX12_mayBe 78 = .ok (.ireturn, 1) := by decide +kernel
theorem dX12_may_0 : decode cX12_may 0 = .ok (.iload_n 1, 1) := by decide +kernel
theorem dX12_may_1 : decode cX12_may 1 = .ok (.i2l, 1) := by decide +kernel
theorem dX12_may_2 : decode cX12_may 2 = .ok (.lconst 0, 1) := by decide +kernel
theorem dX12_may_3 : decode cX12_may 3 = .ok (.ldc2_w 121, 3) := by decide +kernel
theorem dX12_may_6 : decode cX12_may 6 = .ok (.invokestatic 87, 3) := by decide +kernel
theorem dX12_may_9 : decode cX12_may 9 = .ok (.ifCond .eq 15, 3) := by decide +kernel
theorem dX12_may_12 : decode cX12_may 12 = .ok (.iload_n 2, 1) := by decide +kernel
theorem dX12_may_13 : decode cX12_may 13 = .ok (.i2l, 1) := by decide +kernel
theorem dX12_may_14 : decode cX12_may 14 = .ok (.lconst 0, 1) := by decide +kernel
theorem dX12_may_15 : decode cX12_may 15 = .ok (.ldc2_w 85, 3) := by decide +kernel
theorem dX12_may_18 : decode cX12_may 18 = .ok (.invokestatic 87, 3) := by decide +kernel
theorem dX12_may_21 : decode cX12_may 21 = .ok (.ifCond .ne 6, 3) := by decide +kernel
theorem dX12_may_24 : decode cX12_may 24 = .ok (.bipush (-3), 2) := by decide +kernel
theorem dX12_may_26 : decode cX12_may 26 = .ok (.ireturn, 1) := by decide +kernel
theorem dX12_may_27 : decode cX12_may 27 = .ok (.iconst 0, 1) := by decide +kernel
theorem dX12_may_28 : decode cX12_may 28 = .ok (.istore_n 3, 1) := by decide +kernel
theorem dX12_may_29 : decode cX12_may 29 = .ok (.iconst (-1), 1) := by decide +kernel
theorem dX12_may_30 : decode cX12_may 30 = .ok (.istore 4, 2) := by decide +kernel
theorem dX12_may_32 : decode cX12_may 32 = .ok (.iconst 0, 1) := by decide +kernel
theorem dX12_may_33 : decode cX12_may 33 = .ok (.istore 5, 2) := by decide +kernel
theorem dX12_may_35 : decode cX12_may 35 = .ok (.iload 5, 2) := by decide +kernel
theorem dX12_may_37 : decode cX12_may 37 = .ok (.sipush 441, 3) := by decide +kernel
theorem dX12_may_40 : decode cX12_may 40 = .ok (.if_icmp .ge 161, 3) := by decide +kernel
theorem dX12_may_43 : decode cX12_may 43 = .ok (.aload_n 0, 1) := by decide +kernel
theorem dX12_may_44 : decode cX12_may 44 = .ok (.iload 5, 2) := by decide +kernel
theorem dX12_may_46 : decode cX12_may 46 = .ok (.bipush 21, 2) := by decide +kernel
theorem dX12_may_48 : decode cX12_may 48 = .ok (.idiv, 1) := by decide +kernel
theorem dX12_may_49 : decode cX12_may 49 = .ok (.iload 5, 2) := by decide +kernel
theorem dX12_may_51 : decode cX12_may 51 = .ok (.bipush 21, 2) := by decide +kernel
theorem dX12_may_53 : decode cX12_may 53 = .ok (.irem, 1) := by decide +kernel
theorem dX12_may_54 : decode cX12_may 54 = .ok (.iload_n 1, 1) := by decide +kernel
theorem dX12_may_55 : decode cX12_may 55 = .ok (.invokevirtual 288, 3) := by decide +kernel
theorem dX12_may_58 : decode cX12_may 58 = .ok (.ifCond .eq 137, 3) := by decide +kernel
theorem dX12_may_61 : decode cX12_may 61 = .ok (.iload_n 3, 1) := by decide +kernel
theorem dX12_may_62 : decode cX12_may 62 = .ok (.ifCond .ne 20, 3) := by decide +kernel
theorem dX12_may_65 : decode cX12_may 65 = .ok (.bipush 100, 2) := by decide +kernel
theorem dX12_may_67 : decode cX12_may 67 = .ok (.iload 5, 2) := by decide +kernel
theorem dX12_may_69 : decode cX12_may 69 = .ok (.bipush 21, 2) := by decide +kernel
theorem dX12_may_71 : decode cX12_may 71 = .ok (.idiv, 1) := by decide +kernel
theorem dX12_may_72 : decode cX12_may 72 = .ok (.imul, 1) := by decide +kernel
theorem dX12_may_73 : decode cX12_may 73 = .ok (.iload 5, 2) := by decide +kernel
theorem dX12_may_75 : decode cX12_may 75 = .ok (.bipush 21, 2) := by decide +kernel
theorem dX12_may_77 : decode cX12_may 77 = .ok (.irem, 1) := by decide +kernel
theorem dX12_may_78 : decode cX12_may 78 = .ok (.iadd, 1) := by decide +kernel
theorem dX12_may_79 : decode cX12_may 79 = .ok (.goto 5, 3) := by decide +kernel
theorem dX12_may_82 : decode cX12_may 82 = .ok (.iload 4, 2) := by decide +kernel
theorem dX12_may_84 : decode cX12_may 84 = .ok (.istore 4, 2) := by decide +kernel
theorem dX12_may_86 : decode cX12_may 86 = .ok (.iconst 0, 1) := by decide +kernel
theorem dX12_may_87 : decode cX12_may 87 = .ok (.istore 6, 2) := by decide +kernel
theorem dX12_may_89 : decode cX12_may 89 = .ok (.iload 6, 2) := by decide +kernel
theorem dX12_may_91 : decode cX12_may 91 = .ok (.bipush 60, 2) := by decide +kernel
theorem dX12_may_93 : decode cX12_may 93 = .ok (.if_icmp .gt 99, 3) := by decide +kernel
theorem dX12_may_96 : decode cX12_may 96 = .ok (.aload_n 0, 1) := by decide +kernel
theorem dX12_may_97 : decode cX12_may 97 = .ok (.getfield 79, 3) := by decide +kernel
theorem dX12_may_100 : decode cX12_may 100 = .ok (.iload 6, 2) := by decide +kernel
theorem dX12_may_102 : decode cX12_may 102 = .ok (.iload_n 3, 1) := by decide +kernel
theorem dX12_may_103 : decode cX12_may 103 = .ok (.ifCond .eq 20, 3) := by decide +kernel
theorem dX12_may_106 : decode cX12_may 106 = .ok (.aload_n 0, 1) := by decide +kernel
theorem dX12_may_107 : decode cX12_may 107 = .ok (.getfield 76, 3) := by decide +kernel
theorem dX12_may_110 : decode cX12_may 110 = .ok (.iload 6, 2) := by decide +kernel
theorem dX12_may_112 : decode cX12_may 112 = .ok (.iaload, 1) := by decide +kernel
theorem dX12_may_113 : decode cX12_may 113 = .ok (.aload_n 0, 1) := by decide +kernel
theorem dX12_may_114 : decode cX12_may 114 = .ok (.getfield 79, 3) := by decide +kernel
theorem dX12_may_117 : decode cX12_may 117 = .ok (.iload 6, 2) := by decide +kernel
theorem dX12_may_119 : decode cX12_may 119 = .ok (.iaload, 1) := by decide +kernel
theorem dX12_may_120 : decode cX12_may 120 = .ok (.if_icmp .ge 13, 3) := by decide +kernel
theorem dX12_may_123 : decode cX12_may 123 = .ok (.aload_n 0, 1) := by decide +kernel
theorem dX12_may_124 : decode cX12_may 124 = .ok (.getfield 76, 3) := by decide +kernel
theorem dX12_may_127 : decode cX12_may 127 = .ok (.iload 6, 2) := by decide +kernel
theorem dX12_may_129 : decode cX12_may 129 = .ok (.iaload, 1) := by decide +kernel
theorem dX12_may_130 : decode cX12_may 130 = .ok (.goto 10, 3) := by decide +kernel
theorem dX12_may_133 : decode cX12_may 133 = .ok (.aload_n 0, 1) := by decide +kernel
theorem dX12_may_134 : decode cX12_may 134 = .ok (.getfield 79, 3) := by decide +kernel
theorem dX12_may_137 : decode cX12_may 137 = .ok (.iload 6, 2) := by decide +kernel
theorem dX12_may_139 : decode cX12_may 139 = .ok (.iaload, 1) := by decide +kernel
theorem dX12_may_140 : decode cX12_may 140 = .ok (.iastore, 1) := by decide +kernel
theorem dX12_may_141 : decode cX12_may 141 = .ok (.aload_n 0, 1) := by decide +kernel
theorem dX12_may_142 : decode cX12_may 142 = .ok (.getfield 82, 3) := by decide +kernel
theorem dX12_may_145 : decode cX12_may 145 = .ok (.iload 6, 2) := by decide +kernel
theorem dX12_may_147 : decode cX12_may 147 = .ok (.iload_n 3, 1) := by decide +kernel
theorem dX12_may_148 : decode cX12_may 148 = .ok (.ifCond .eq 20, 3) := by decide +kernel
theorem dX12_may_151 : decode cX12_may 151 = .ok (.aload_n 0, 1) := by decide +kernel
theorem dX12_may_152 : decode cX12_may 152 = .ok (.getfield 76, 3) := by decide +kernel
theorem dX12_may_155 : decode cX12_may 155 = .ok (.iload 6, 2) := by decide +kernel
theorem dX12_may_157 : decode cX12_may 157 = .ok (.iaload, 1) := by decide +kernel
theorem dX12_may_158 : decode cX12_may 158 = .ok (.aload_n 0, 1) := by decide +kernel
theorem dX12_may_159 : decode cX12_may 159 = .ok (.getfield 82, 3) := by decide +kernel
theorem dX12_may_162 : decode cX12_may 162 = .ok (.iload 6, 2) := by decide +kernel
theorem dX12_may_164 : decode cX12_may 164 = .ok (.iaload, 1) := by decide +kernel
theorem dX12_may_165 : decode cX12_may 165 = .ok (.if_icmp .le 13, 3) := by decide +kernel
theorem dX12_may_168 : decode cX12_may 168 = .ok (.aload_n 0, 1) := by decide +kernel
theorem dX12_may_169 : decode cX12_may 169 = .ok (.getfield 76, 3) := by decide +kernel
theorem dX12_may_172 : decode cX12_may 172 = .ok (.iload 6, 2) := by decide +kernel
theorem dX12_may_174 : decode cX12_may 174 = .ok (.iaload, 1) := by decide +kernel
theorem dX12_may_175 : decode cX12_may 175 = .ok (.goto 10, 3) := by decide +kernel
theorem dX12_may_178 : decode cX12_may 178 = .ok (.aload_n 0, 1) := by decide +kernel
theorem dX12_may_179 : decode cX12_may 179 = .ok (.getfield 82, 3) := by decide +kernel
theorem dX12_may_182 : decode cX12_may 182 = .ok (.iload 6, 2) := by decide +kernel
theorem dX12_may_184 : decode cX12_may 184 = .ok (.iaload, 1) := by decide +kernel
theorem dX12_may_185 : decode cX12_may 185 = .ok (.iastore, 1) := by decide +kernel
theorem dX12_may_186 : decode cX12_may 186 = .ok (.iinc 6 1, 3) := by decide +kernel
theorem dX12_may_189 : decode cX12_may 189 = .ok (.goto (-100), 3) := by decide +kernel
theorem dX12_may_192 : decode cX12_may 192 = .ok (.iinc 3 1, 3) := by decide +kernel
theorem dX12_may_195 : decode cX12_may 195 = .ok (.iinc 5 1, 3) := by decide +kernel
theorem dX12_may_198 : decode cX12_may 198 = .ok (.goto (-163), 3) := by decide +kernel
theorem dX12_may_201 : decode cX12_may 201 = .ok (.iload_n 2, 1) := by decide +kernel
theorem dX12_may_202 : decode cX12_may 202 = .ok (.iconst 2, 1) := by decide +kernel
theorem dX12_may_203 : decode cX12_may 203 = .ok (.if_icmp .ge 14, 3) := by decide +kernel
theorem dX12_may_206 : decode cX12_may 206 = .ok (.iload_n 2, 1) := by decide +kernel
theorem dX12_may_207 : decode cX12_may 207 = .ok (.ifCond .ne 7, 3) := by decide +kernel
theorem dX12_may_210 : decode cX12_may 210 = .ok (.iload_n 3, 1) := by decide +kernel
theorem dX12_may_211 : decode cX12_may 211 = .ok (.goto 5, 3) := by decide +kernel
theorem dX12_may_214 : decode cX12_may 214 = .ok (.iload 4, 2) := by decide +kernel
theorem dX12_may_216 : decode cX12_may 216 = .ok (.ireturn, 1) := by decide +kernel
theorem dX12_may_217 : decode cX12_may 217 = .ok (.iconst (-1), 1) := by decide +kernel
theorem dX12_may_218 : decode cX12_may 218 = .ok (.istore 5, 2) := by decide +kernel
theorem dX12_may_220 : decode cX12_may 220 = .ok (.iconst 0, 1) := by decide +kernel
theorem dX12_may_221 : decode cX12_may 221 = .ok (.istore 6, 2) := by decide +kernel
theorem dX12_may_223 : decode cX12_may 223 = .ok (.iload 6, 2) := by decide +kernel
theorem dX12_may_225 : decode cX12_may 225 = .ok (.bipush 60, 2) := by decide +kernel
theorem dX12_may_227 : decode cX12_may 227 = .ok (.if_icmp .gt 61, 3) := by decide +kernel
theorem dX12_may_230 : decode cX12_may 230 = .ok (.iload_n 3, 1) := by decide +kernel
theorem dX12_may_231 : decode cX12_may 231 = .ok (.ifCond .le 57, 3) := by decide +kernel
theorem dX12_may_234 : decode cX12_may 234 = .ok (.iload 5, 2) := by decide +kernel
theorem dX12_may_236 : decode cX12_may 236 = .ok (.iconst (-1), 1) := by decide +kernel
theorem dX12_may_237 : decode cX12_may 237 = .ok (.if_icmp .eq 36, 3) := by decide +kernel
theorem dX12_may_240 : decode cX12_may 240 = .ok (.aload_n 0, 1) := by decide +kernel
theorem dX12_may_241 : decode cX12_may 241 = .ok (.getfield 82, 3) := by decide +kernel
theorem dX12_may_244 : decode cX12_may 244 = .ok (.iload 6, 2) := by decide +kernel
theorem dX12_may_246 : decode cX12_may 246 = .ok (.iaload, 1) := by decide +kernel
theorem dX12_may_247 : decode cX12_may 247 = .ok (.aload_n 0, 1) := by decide +kernel
theorem dX12_may_248 : decode cX12_may 248 = .ok (.getfield 79, 3) := by decide +kernel
theorem dX12_may_251 : decode cX12_may 251 = .ok (.iload 6, 2) := by decide +kernel
theorem dX12_may_253 : decode cX12_may 253 = .ok (.iaload, 1) := by decide +kernel
theorem dX12_may_254 : decode cX12_may 254 = .ok (.isub, 1) := by decide +kernel
theorem dX12_may_255 : decode cX12_may 255 = .ok (.aload_n 0, 1) := by decide +kernel
theorem dX12_may_256 : decode cX12_may 256 = .ok (.getfield 82, 3) := by decide +kernel
theorem dX12_may_259 : decode cX12_may 259 = .ok (.iload 5, 2) := by decide +kernel
theorem dX12_may_261 : decode cX12_may 261 = .ok (.iaload, 1) := by decide +kernel
theorem dX12_may_262 : decode cX12_may 262 = .ok (.aload_n 0, 1) := by decide +kernel
theorem dX12_may_263 : decode cX12_may 263 = .ok (.getfield 79, 3) := by decide +kernel
theorem dX12_may_266 : decode cX12_may 266 = .ok (.iload 5, 2) := by decide +kernel
theorem dX12_may_268 : decode cX12_may 268 = .ok (.iaload, 1) := by decide +kernel
theorem dX12_may_269 : decode cX12_may 269 = .ok (.isub, 1) := by decide +kernel
theorem dX12_may_270 : decode cX12_may 270 = .ok (.if_icmp .le 8, 3) := by decide +kernel
theorem dX12_may_273 : decode cX12_may 273 = .ok (.iload 6, 2) := by decide +kernel
theorem dX12_may_275 : decode cX12_may 275 = .ok (.goto 5, 3) := by decide +kernel
theorem dX12_may_278 : decode cX12_may 278 = .ok (.iload 5, 2) := by decide +kernel
theorem dX12_may_280 : decode cX12_may 280 = .ok (.istore 5, 2) := by decide +kernel
theorem dX12_may_282 : decode cX12_may 282 = .ok (.iinc 6 1, 3) := by decide +kernel
theorem dX12_may_285 : decode cX12_may 285 = .ok (.goto (-62), 3) := by decide +kernel
theorem dX12_may_288 : decode cX12_may 288 = .ok (.iload 5, 2) := by decide +kernel
theorem dX12_may_290 : decode cX12_may 290 = .ok (.ireturn, 1) := by decide +kernel
theorem dX12_count_0 : decode cX12_count 0 = .ok (.iload_n 1, 1) := by decide +kernel
theorem dX12_count_1 : decode cX12_count 1 = .ok (.tableswitch 96 0 7 #[47, 54, 61, 71, 76, 81, 86, 91], 47) := by decide +kernel
theorem dX12_count_48 : decode cX12_count 48 = .ok (.aload_n 0, 1) := by decide +kernel
theorem dX12_count_49 : decode cX12_count 49 = .ok (.getfield 16, 3) := by decide +kernel
theorem dX12_count_52 : decode cX12_count 52 = .ok (.iconst 0, 1) := by decide +kernel
theorem dX12_count_53 : decode cX12_count 53 = .ok (.iaload, 1) := by decide +kernel
theorem dX12_count_54 : decode cX12_count 54 = .ok (.ireturn, 1) := by decide +kernel
theorem dX12_count_55 : decode cX12_count 55 = .ok (.aload_n 0, 1) := by decide +kernel
theorem dX12_count_56 : decode cX12_count 56 = .ok (.getfield 13, 3) := by decide +kernel
theorem dX12_count_59 : decode cX12_count 59 = .ok (.iconst 0, 1) := by decide +kernel
theorem dX12_count_60 : decode cX12_count 60 = .ok (.iaload, 1) := by decide +kernel
theorem dX12_count_61 : decode cX12_count 61 = .ok (.ireturn, 1) := by decide +kernel
theorem dX12_count_62 : decode cX12_count 62 = .ok (.aload_n 0, 1) := by decide +kernel
theorem dX12_count_63 : decode cX12_count 63 = .ok (.getfield 7, 3) := by decide +kernel
theorem dX12_count_66 : decode cX12_count 66 = .ok (.iconst 3, 1) := by decide +kernel
theorem dX12_count_67 : decode cX12_count 67 = .ok (.iaload, 1) := by decide +kernel
theorem dX12_count_68 : decode cX12_count 68 = .ok (.bipush 50, 2) := by decide +kernel
theorem dX12_count_70 : decode cX12_count 70 = .ok (.iadd, 1) := by decide +kernel
theorem dX12_count_71 : decode cX12_count 71 = .ok (.ireturn, 1) := by decide +kernel
theorem dX12_count_72 : decode cX12_count 72 = .ok (.aload_n 0, 1) := by decide +kernel
theorem dX12_count_73 : decode cX12_count 73 = .ok (.getfield 123, 3) := by decide +kernel
theorem dX12_count_76 : decode cX12_count 76 = .ok (.ireturn, 1) := by decide +kernel
theorem dX12_count_77 : decode cX12_count 77 = .ok (.aload_n 0, 1) := by decide +kernel
theorem dX12_count_78 : decode cX12_count 78 = .ok (.getfield 198, 3) := by decide +kernel
theorem dX12_count_81 : decode cX12_count 81 = .ok (.ireturn, 1) := by decide +kernel
theorem dX12_count_82 : decode cX12_count 82 = .ok (.aload_n 0, 1) := by decide +kernel
theorem dX12_count_83 : decode cX12_count 83 = .ok (.getfield 274, 3) := by decide +kernel
theorem dX12_count_86 : decode cX12_count 86 = .ok (.ireturn, 1) := by decide +kernel
theorem dX12_count_87 : decode cX12_count 87 = .ok (.aload_n 0, 1) := by decide +kernel
theorem dX12_count_88 : decode cX12_count 88 = .ok (.getfield 280, 3) := by decide +kernel
theorem dX12_count_91 : decode cX12_count 91 = .ok (.ireturn, 1) := by decide +kernel
theorem dX12_count_92 : decode cX12_count 92 = .ok (.aload_n 0, 1) := by decide +kernel
theorem dX12_count_93 : decode cX12_count 93 = .ok (.getfield 285, 3) := by decide +kernel
theorem dX12_count_96 : decode cX12_count 96 = .ok (.ireturn, 1) := by decide +kernel
theorem dX12_count_97 : decode cX12_count 97 = .ok (.bipush (-3), 2) := by decide +kernel
theorem dX12_count_99 : decode cX12_count 99 = .ok (.ireturn, 1) := by decide +kernel
