set_option maxRecDepth 20000 in
theorem ggL_law_X5_init : GoodIn wsL_law wsX5_init := goodIn_r _ [6, 7, 8, 9, 10, 11, 12, 13, 14, 15, 16, 17, 18, 19, 20, 21, 22, 23, 24, 25, 26, 27, 28, 29, 30, 31, 32, 33, 34, 35, 36, 37, 38, 39, 40, 41, 42, 43, 44, 45, 46, 47, 48, 49, 50, 51, 52, 53, 54, 55, 56, 57, 58, 59, 60, 61, 62, 63, 64, 65, 66, 67, 68, 69, 70, 71, 72, 73, 74, 668, 669, 670, 671, 672, 673, 660, 661, 662, 663, 664, 665, 666, 667, 674, 675, 676, 677, 678, 679, 680, 681, 682, 683, 684, 685, 686, 687, 688, 689, 690, 691, 692, 693, 694] (by decide +kernel) (by decide +kernel)
set_option maxRecDepth 20000 in
theorem gL_law_X5_init : GoodIn wsL_law (wsX5_init) := ggL_law_X5_init
theorem dL_act_0 : decode cL_act 0 = .ok (.iload_n 1, 1) := by decide +kernel
theorem dL_act_1 : decode cL_act 1 = .ok (.bipush 16, 2) := by decide +kernel
theorem dL_act_3 : decode cL_act 3 = .ok (.idiv, 1) := by decide +kernel
theorem dL_act_4 : decode cL_act 4 = .ok (.istore_n 2, 1) := by decide +kernel
theorem dL_act_5 : decode cL_act 5 = .ok (.aload_n 0, 1) := by decide +kernel
theorem dL_act_6 : decode cL_act 6 = .ok (.iconst 2, 1) := by decide +kernel
theorem dL_act_7 : decode cL_act 7 = .ok (.iconst 0, 1) := by decide +kernel
theorem dL_act_8 : decode cL_act 8 = .ok (.iconst 0, 1) := by decide +kernel
theorem dL_act_9 : decode cL_act 9 = .ok (.iconst 0, 1) := by decide +kernel
theorem dL_act_10 : decode cL_act 10 = .ok (.invokestatic 168, 3) := by decide +kernel
theorem dL_act_13 : decode cL_act 13 = .ok (.aload_n 0, 1) := by decide +kernel
theorem dL_act_14 : decode cL_act 14 = .ok (.iconst 2, 1) := by decide +kernel
theorem dL_act_15 : decode cL_act 15 = .ok (.iconst 1, 1) := by decide +kernel
theorem dL_act_16 : decode cL_act 16 = .ok (.iconst 0, 1) := by decide +kernel
theorem dL_act_17 : decode cL_act 17 = .ok (.iconst 0, 1) := by decide +kernel
theorem dL_act_18 : decode cL_act 18 = .ok (.invokestatic 168, 3) := by decide +kernel
theorem dL_act_21 : decode cL_act 21 = .ok (.imul, 1) := by decide +kernel
theorem dL_act_22 : decode cL_act 22 = .ok (.istore_n 3, 1) := by decide +kernel
theorem dL_act_23 : decode cL_act 23 = .ok (.iload_n 2, 1) := by decide +kernel
theorem dL_act_24 : decode cL_act 24 = .ok (.iload_n 3, 1) := by decide +kernel
theorem dL_act_25 : decode cL_act 25 = .ok (.irem, 1) := by decide +kernel
theorem dL_act_26 : decode cL_act 26 = .ok (.istore 4, 2) := by decide +kernel
theorem dL_act_28 : decode cL_act 28 = .ok (.iload_n 1, 1) := by decide +kernel
theorem dL_act_29 : decode cL_act 29 = .ok (.bipush 16, 2) := by decide +kernel
theorem dL_act_31 : decode cL_act 31 = .ok (.irem, 1) := by decide +kernel
theorem dL_act_32 : decode cL_act 32 = .ok (.tableswitch 245 0 12 #[68, 112, 112, 112, 123, 123, 123, 139, 139, 155, 167, 183, 209], 68) := by decide +kernel
theorem dL_act_100 : decode cL_act 100 = .ok (.iload_n 2, 1) := by decide +kernel
theorem dL_act_101 : decode cL_act 101 = .ok (.iconst 4, 1) := by decide +kernel
theorem dL_act_102 : decode cL_act 102 = .ok (.irem, 1) := by decide +kernel
theorem dL_act_103 : decode cL_act 103 = .ok (.ifCond .ne 30, 3) := by decide +kernel
theorem dL_act_106 : decode cL_act 106 = .ok (.aload_n 0, 1) := by decide +kernel
theorem dL_act_107 : decode cL_act 107 = .ok (.bipush 6, 2) := by decide +kernel
theorem dL_act_109 : decode cL_act 109 = .ok (.iconst 2, 1) := by decide +kernel
theorem dL_act_110 : decode cL_act 110 = .ok (.iload_n 2, 1) := by decide +kernel
theorem dL_act_111 : decode cL_act 111 = .ok (.iconst 4, 1) := by decide +kernel
theorem dL_act_112 : decode cL_act 112 = .ok (.idiv, 1) := by decide +kernel
theorem dL_act_113 : decode cL_act 113 = .ok (.bipush 7, 2) := by decide +kernel
theorem dL_act_115 : decode cL_act 115 = .ok (.irem, 1) := by decide +kernel
theorem dL_act_116 : decode cL_act 116 = .ok (.iadd, 1) := by decide +kernel
theorem dL_act_117 : decode cL_act 117 = .ok (.iconst 2, 1) := by decide +kernel
theorem dL_act_118 : decode cL_act 118 = .ok (.iload_n 2, 1) := by decide +kernel
theorem dL_act_119 : decode cL_act 119 = .ok (.bipush 32, 2) := by decide +kernel
theorem dL_act_121 : decode cL_act 121 = .ok (.idiv, 1) := by decide +kernel
theorem dL_act_122 : decode cL_act 122 = .ok (.bipush 7, 2) := by decide +kernel
theorem dL_act_124 : decode cL_act 124 = .ok (.irem, 1) := by decide +kernel
theorem dL_act_125 : decode cL_act 125 = .ok (.iadd, 1) := by decide +kernel
theorem dL_act_126 : decode cL_act 126 = .ok (.iconst 0, 1) := by decide +kernel
theorem dL_act_127 : decode cL_act 127 = .ok (.invokestatic 168, 3) := by decide +kernel
theorem dL_act_130 : decode cL_act 130 = .ok (.goto 13, 3) := by decide +kernel
theorem dL_act_133 : decode cL_act 133 = .ok (.aload_n 0, 1) := by decide +kernel
theorem dL_act_134 : decode cL_act 134 = .ok (.bipush 7, 2) := by decide +kernel
theorem dL_act_136 : decode cL_act 136 = .ok (.iload 4, 2) := by decide +kernel
theorem dL_act_138 : decode cL_act 138 = .ok (.iconst 0, 1) := by decide +kernel
theorem dL_act_139 : decode cL_act 139 = .ok (.iconst 0, 1) := by decide +kernel
theorem dL_act_140 : decode cL_act 140 = .ok (.invokestatic 168, 3) := by decide +kernel
theorem dL_act_143 : decode cL_act 143 = .ok (.ireturn, 1) := by decide +kernel
theorem dL_act_144 : decode cL_act 144 = .ok (.aload_n 0, 1) := by decide +kernel
theorem dL_act_145 : decode cL_act 145 = .ok (.bipush 7, 2) := by decide +kernel
theorem dL_act_147 : decode cL_act 147 = .ok (.iload 4, 2) := by decide +kernel
theorem dL_act_149 : decode cL_act 149 = .ok (.iconst 0, 1) := by decide +kernel
theorem dL_act_150 : decode cL_act 150 = .ok (.iconst 0, 1) := by decide +kernel
theorem dL_act_151 : decode cL_act 151 = .ok (.invokestatic 168, 3) := by decide +kernel
theorem dL_act_154 : decode cL_act 154 = .ok (.ireturn, 1) := by decide +kernel
theorem dL_act_155 : decode cL_act 155 = .ok (.aload_n 0, 1) := by decide +kernel
theorem dL_act_156 : decode cL_act 156 = .ok (.bipush 8, 2) := by decide +kernel
theorem dL_act_158 : decode cL_act 158 = .ok (.iload 4, 2) := by decide +kernel
theorem dL_act_160 : decode cL_act 160 = .ok (.iload_n 2, 1) := by decide +kernel
theorem dL_act_161 : decode cL_act 161 = .ok (.bipush 64, 2) := by decide +kernel
theorem dL_act_163 : decode cL_act 163 = .ok (.idiv, 1) := by decide +kernel
theorem dL_act_164 : decode cL_act 164 = .ok (.iconst 4, 1) := by decide +kernel
theorem dL_act_165 : decode cL_act 165 = .ok (.irem, 1) := by decide +kernel
theorem dL_act_166 : decode cL_act 166 = .ok (.iconst 0, 1) := by decide +kernel
theorem dL_act_167 : decode cL_act 167 = .ok (.invokestatic 168, 3) := by decide +kernel
theorem dL_act_170 : decode cL_act 170 = .ok (.ireturn, 1) := by decide +kernel
theorem dL_act_171 : decode cL_act 171 = .ok (.aload_n 0, 1) := by decide +kernel
theorem dL_act_172 : decode cL_act 172 = .ok (.bipush 9, 2) := by decide +kernel
theorem dL_act_174 : decode cL_act 174 = .ok (.iload_n 2, 1) := by decide +kernel
theorem dL_act_175 : decode cL_act 175 = .ok (.iconst 4, 1) := by decide +kernel
theorem dL_act_176 : decode cL_act 176 = .ok (.irem, 1) := by decide +kernel
theorem dL_act_177 : decode cL_act 177 = .ok (.iload_n 2, 1) := by decide +kernel
theorem dL_act_178 : decode cL_act 178 = .ok (.iconst 4, 1) := by decide +kernel
theorem dL_act_179 : decode cL_act 179 = .ok (.idiv, 1) := by decide +kernel
theorem dL_act_180 : decode cL_act 180 = .ok (.iconst 3, 1) := by decide +kernel
theorem dL_act_181 : decode cL_act 181 = .ok (.irem, 1) := by decide +kernel
theorem dL_act_182 : decode cL_act 182 = .ok (.iconst 0, 1) := by decide +kernel
theorem dL_act_183 : decode cL_act 183 = .ok (.invokestatic 168, 3) := by decide +kernel
theorem dL_act_186 : decode cL_act 186 = .ok (.ireturn, 1) := by decide +kernel
theorem dL_act_187 : decode cL_act 187 = .ok (.aload_n 0, 1) := by decide +kernel
theorem dL_act_188 : decode cL_act 188 = .ok (.bipush 10, 2) := by decide +kernel
theorem dL_act_190 : decode cL_act 190 = .ok (.iload_n 2, 1) := by decide +kernel
theorem dL_act_191 : decode cL_act 191 = .ok (.iconst 3, 1) := by decide +kernel
theorem dL_act_192 : decode cL_act 192 = .ok (.irem, 1) := by decide +kernel
theorem dL_act_193 : decode cL_act 193 = .ok (.iconst 0, 1) := by decide +kernel
theorem dL_act_194 : decode cL_act 194 = .ok (.iconst 0, 1) := by decide +kernel
theorem dL_act_195 : decode cL_act 195 = .ok (.invokestatic 168, 3) := by decide +kernel
theorem dL_act_198 : decode cL_act 198 = .ok (.ireturn, 1) := by decide +kernel
theorem dL_act_199 : decode cL_act 199 = .ok (.aload_n 0, 1) := by decide +kernel
theorem dL_act_200 : decode cL_act 200 = .ok (.bipush 11, 2) := by decide +kernel
theorem dL_act_202 : decode cL_act 202 = .ok (.iload 4, 2) := by decide +kernel
theorem dL_act_204 : decode cL_act 204 = .ok (.iload_n 2, 1) := by decide +kernel
theorem dL_act_205 : decode cL_act 205 = .ok (.bipush 64, 2) := by decide +kernel
theorem dL_act_207 : decode cL_act 207 = .ok (.idiv, 1) := by decide +kernel
theorem dL_act_208 : decode cL_act 208 = .ok (.iconst 5, 1) := by decide +kernel
theorem dL_act_209 : decode cL_act 209 = .ok (.irem, 1) := by decide +kernel
theorem dL_act_210 : decode cL_act 210 = .ok (.iconst 0, 1) := by decide +kernel
theorem dL_act_211 : decode cL_act 211 = .ok (.invokestatic 168, 3) := by decide +kernel
theorem dL_act_214 : decode cL_act 214 = .ok (.ireturn, 1) := by decide +kernel
theorem dL_act_215 : decode cL_act 215 = .ok (.aload_n 0, 1) := by decide +kernel
theorem dL_act_216 : decode cL_act 216 = .ok (.iconst 2, 1) := by decide +kernel
theorem dL_act_217 : decode cL_act 217 = .ok (.iconst 5, 1) := by decide +kernel
theorem dL_act_218 : decode cL_act 218 = .ok (.iconst 0, 1) := by decide +kernel
theorem dL_act_219 : decode cL_act 219 = .ok (.iconst 0, 1) := by decide +kernel
theorem dL_act_220 : decode cL_act 220 = .ok (.invokestatic 168, 3) := by decide +kernel
theorem dL_act_223 : decode cL_act 223 = .ok (.iconst 3, 1) := by decide +kernel
theorem dL_act_224 : decode cL_act 224 = .ok (.if_icmp .ge 7, 3) := by decide +kernel
theorem dL_act_227 : decode cL_act 227 = .ok (.iconst (-1), 1) := by decide +kernel
theorem dL_act_228 : decode cL_act 228 = .ok (.goto 12, 3) := by decide +kernel
theorem dL_act_231 : decode cL_act 231 = .ok (.aload_n 0, 1) := by decide +kernel
theorem dL_act_232 : decode cL_act 232 = .ok (.bipush 13, 2) := by decide +kernel
theorem dL_act_234 : decode cL_act 234 = .ok (.iconst 0, 1) := by decide +kernel
theorem dL_act_235 : decode cL_act 235 = .ok (.iconst 0, 1) := by decide +kernel
theorem dL_act_236 : decode cL_act 236 = .ok (.iconst 0, 1) := by decide +kernel
theorem dL_act_237 : decode cL_act 237 = .ok (.invokestatic 168, 3) := by decide +kernel
theorem dL_act_240 : decode cL_act 240 = .ok (.ireturn, 1) := by decide +kernel
theorem dL_act_241 : decode cL_act 241 = .ok (.iload_n 2, 1) := by decide +kernel
theorem dL_act_242 : decode cL_act 242 = .ok (.iconst 2, 1) := by decide +kernel
theorem dL_act_243 : decode cL_act 243 = .ok (.irem, 1) := by decide +kernel
theorem dL_act_244 : decode cL_act 244 = .ok (.ifCond .ne 19, 3) := by decide +kernel
theorem dL_act_247 : decode cL_act 247 = .ok (.aload_n 0, 1) := by decide +kernel
theorem dL_act_248 : decode cL_act 248 = .ok (.bipush 18, 2) := by decide +kernel
theorem dL_act_250 : decode cL_act 250 = .ok (.iload_n 2, 1) := by decide +kernel
theorem dL_act_251 : decode cL_act 251 = .ok (.iconst 2, 1) := by decide +kernel
theorem dL_act_252 : decode cL_act 252 = .ok (.idiv, 1) := by decide +kernel
theorem dL_act_253 : decode cL_act 253 = .ok (.iconst 2, 1) := by decide +kernel
theorem dL_act_254 : decode cL_act 254 = .ok (.irem, 1) := by decide +kernel
theorem dL_act_255 : decode cL_act 255 = .ok (.iconst 0, 1) := by decide +kernel
theorem dL_act_256 : decode cL_act 256 = .ok (.iconst 0, 1) := by decide +kernel
theorem dL_act_257 : decode cL_act 257 = .ok (.invokestatic 168, 3) := by decide +kernel
theorem dL_act_260 : decode cL_act 260 = .ok (.goto 16, 3) := by decide +kernel
theorem dL_act_263 : decode cL_act 263 = .ok (.aload_n 0, 1) := by decide +kernel
theorem dL_act_264 : decode cL_act 264 = .ok (.bipush 19, 2) := by decide +kernel
theorem dL_act_266 : decode cL_act 266 = .ok (.iload_n 2, 1) := by decide +kernel
theorem dL_act_267 : decode cL_act 267 = .ok (.iconst 2, 1) := by decide +kernel
theorem dL_act_268 : decode cL_act 268 = .ok (.idiv, 1) := by decide +kernel
theorem dL_act_269 : decode cL_act 269 = .ok (.iconst 2, 1) := by decide +kernel
theorem dL_act_270 : decode cL_act 270 = .ok (.irem, 1) := by decide +kernel
theorem dL_act_271 : decode cL_act 271 = .ok (.iconst 0, 1) := by decide +kernel
theorem dL_act_272 : decode cL_act 272 = .ok (.iconst 0, 1) := by decide +kernel
theorem dL_act_273 : decode cL_act 273 = .ok (.invokestatic 168, 3) := by decide +kernel
theorem dL_act_276 : decode cL_act 276 = .ok (.ireturn, 1) := by decide +kernel
theorem dL_act_277 : decode cL_act 277 = .ok (.aload_n 0, 1) := by decide +kernel
theorem dL_act_278 : decode cL_act 278 = .ok (.bipush 12, 2) := by decide +kernel
theorem dL_act_280 : decode cL_act 280 = .ok (.iconst 1, 1) := by decide +kernel
theorem dL_act_281 : decode cL_act 281 = .ok (.iload_n 2, 1) := by decide +kernel
theorem dL_act_282 : decode cL_act 282 = .ok (.bipush 9, 2) := by decide +kernel
theorem dL_act_284 : decode cL_act 284 = .ok (.irem, 1) := by decide +kernel
theorem dL_act_285 : decode cL_act 285 = .ok (.iadd, 1) := by decide +kernel
theorem dL_act_286 : decode cL_act 286 = .ok (.iconst 0, 1) := by decide +kernel
theorem dL_act_287 : decode cL_act 287 = .ok (.iconst 0, 1) := by decide +kernel
theorem dL_act_288 : decode cL_act 288 = .ok (.invokestatic 168, 3) := by decide +kernel
theorem dL_act_291 : decode cL_act 291 = .ok (.ireturn, 1) := by decide +kernel
theorem dL_alike_0 : decode cL_alike 0 = .ok (.aload_n 0, 1) := by decide +kernel
theorem dL_alike_1 : decode cL_alike 1 = .ok (.iconst 2, 1) := by decide +kernel
theorem dL_alike_2 : decode cL_alike 2 = .ok (.iconst 0, 1) := by decide +kernel
theorem dL_alike_3 : decode cL_alike 3 = .ok (.iconst 0, 1) := by decide +kernel
theorem dL_alike_4 : decode cL_alike 4 = .ok (.iconst 0, 1) := by decide +kernel
theorem dL_alike_5 : decode cL_alike 5 = .ok (.invokestatic 168, 3) := by decide +kernel
theorem dL_alike_8 : decode cL_alike 8 = .ok (.aload_n 0, 1) := by decide +kernel
theorem dL_alike_9 : decode cL_alike 9 = .ok (.iconst 2, 1) := by decide +kernel
theorem dL_alike_10 : decode cL_alike 10 = .ok (.iconst 1, 1) := by decide +kernel
theorem dL_alike_11 : decode cL_alike 11 = .ok (.iconst 0, 1) := by decide +kernel
theorem dL_alike_12 : decode cL_alike 12 = .ok (.iconst 0, 1) := by decide +kernel
theorem dL_alike_13 : decode cL_alike 13 = .ok (.invokestatic 168, 3) := by decide +kernel
theorem dL_alike_16 : decode cL_alike 16 = .ok (.imul, 1) := by decide +kernel
theorem dL_alike_17 : decode cL_alike 17 = .ok (.istore_n 3, 1) := by decide +kernel
theorem dL_alike_18 : decode cL_alike 18 = .ok (.aload_n 0, 1) := by decide +kernel
theorem dL_alike_19 : decode cL_alike 19 = .ok (.iload_n 2, 1) := by decide +kernel
theorem dL_alike_20 : decode cL_alike 20 = .ok (.i2l, 1) := by decide +kernel
theorem dL_alike_21 : decode cL_alike 21 = .ok (.iconst 1, 1) := by decide +kernel
theorem dL_alike_22 : decode cL_alike 22 = .ok (.iload_n 2, 1) := by decide +kernel
theorem dL_alike_23 : decode cL_alike 23 = .ok (.bipush 20, 2) := by decide +kernel
theorem dL_alike_25 : decode cL_alike 25 = .ok (.irem, 1) := by decide +kernel
theorem dL_alike_26 : decode cL_alike 26 = .ok (.iadd, 1) := by decide +kernel
theorem dL_alike_27 : decode cL_alike 27 = .ok (.invokestatic 182, 3) := by decide +kernel
theorem dL_alike_30 : decode cL_alike 30 = .ok (.aload_n 1, 1) := by decide +kernel
theorem dL_alike_31 : decode cL_alike 31 = .ok (.iload_n 2, 1) := by decide +kernel
theorem dL_alike_32 : decode cL_alike 32 = .ok (.i2l, 1) := by decide +kernel
theorem dL_alike_33 : decode cL_alike 33 = .ok (.iconst 1, 1) := by decide +kernel
theorem dL_alike_34 : decode cL_alike 34 = .ok (.iload_n 2, 1) := by decide +kernel
theorem dL_alike_35 : decode cL_alike 35 = .ok (.bipush 20, 2) := by decide +kernel
theorem dL_alike_37 : decode cL_alike 37 = .ok (.irem, 1) := by decide +kernel
theorem dL_alike_38 : decode cL_alike 38 = .ok (.iadd, 1) := by decide +kernel
theorem dL_alike_39 : decode cL_alike 39 = .ok (.invokestatic 182, 3) := by decide +kernel
theorem dL_alike_42 : decode cL_alike 42 = .ok (.if_icmp .ne 43, 3) := by decide +kernel
theorem dL_alike_45 : decode cL_alike 45 = .ok (.aload_n 0, 1) := by decide +kernel
theorem dL_alike_46 : decode cL_alike 46 = .ok (.invokevirtual 186, 3) := by decide +kernel
theorem dL_alike_49 : decode cL_alike 49 = .ok (.aload_n 1, 1) := by decide +kernel
theorem dL_alike_50 : decode cL_alike 50 = .ok (.invokevirtual 186, 3) := by decide +kernel
theorem dL_alike_53 : decode cL_alike 53 = .ok (.lcmp, 1) := by decide +kernel
theorem dL_alike_54 : decode cL_alike 54 = .ok (.ifCond .ne 31, 3) := by decide +kernel
theorem dL_alike_57 : decode cL_alike 57 = .ok (.aload_n 0, 1) := by decide +kernel
theorem dL_alike_58 : decode cL_alike 58 = .ok (.iconst 1, 1) := by decide +kernel
theorem dL_alike_59 : decode cL_alike 59 = .ok (.iload_n 2, 1) := by decide +kernel
theorem dL_alike_60 : decode cL_alike 60 = .ok (.bipush 40, 2) := by decide +kernel
theorem dL_alike_62 : decode cL_alike 62 = .ok (.irem, 1) := by decide +kernel
theorem dL_alike_63 : decode cL_alike 63 = .ok (.iadd, 1) := by decide +kernel
theorem dL_alike_64 : decode cL_alike 64 = .ok (.invokestatic 172, 3) := by decide +kernel
theorem dL_alike_67 : decode cL_alike 67 = .ok (.aload_n 1, 1) := by decide +kernel
theorem dL_alike_68 : decode cL_alike 68 = .ok (.iconst 1, 1) := by decide +kernel
theorem dL_alike_69 : decode cL_alike 69 = .ok (.iload_n 2, 1) := by decide +kernel
theorem dL_alike_70 : decode cL_alike 70 = .ok (.bipush 40, 2) := by decide +kernel
theorem dL_alike_72 : decode cL_alike 72 = .ok (.irem, 1) := by decide +kernel
theorem dL_alike_73 : decode cL_alike 73 = .ok (.iadd, 1) := by decide +kernel
theorem dL_alike_74 : decode cL_alike 74 = .ok (.invokestatic 172, 3) := by decide +kernel
theorem dL_alike_77 : decode cL_alike 77 = .ok (.lcmp, 1) := by decide +kernel
theorem dL_alike_78 : decode cL_alike 78 = .ok (.ifCond .ne 7, 3) := by decide +kernel
theorem dL_alike_81 : decode cL_alike 81 = .ok (.iconst 1, 1) := by decide +kernel
theorem dL_alike_82 : decode cL_alike 82 = .ok (.goto 4, 3) := by decide +kernel
theorem dL_alike_85 : decode cL_alike 85 = .ok (.iconst 0, 1) := by decide +kernel
theorem dL_alike_86 : decode cL_alike 86 = .ok (.istore 4, 2) := by decide +kernel
theorem dL_alike_88 : decode cL_alike 88 = .ok (.iconst 0, 1) := by decide +kernel
theorem dL_alike_89 : decode cL_alike 89 = .ok (.istore 5, 2) := by decide +kernel
theorem dL_alike_91 : decode cL_alike 91 = .ok (.iload 5, 2) := by decide +kernel
theorem dL_alike_93 : decode cL_alike 93 = .ok (.bipush 8, 2) := by decide +kernel
theorem dL_alike_95 : decode cL_alike 95 = .ok (.if_icmp .ge 63, 3) := by decide +kernel
theorem dL_alike_98 : decode cL_alike 98 = .ok (.iload 4, 2) := by decide +kernel
theorem dL_alike_100 : decode cL_alike 100 = .ok (.ifCond .eq 58, 3) := by decide +kernel
theorem dL_alike_103 : decode cL_alike 103 = .ok (.aload_n 0, 1) := by decide +kernel
theorem dL_alike_104 : decode cL_alike 104 = .ok (.iconst 2, 1) := by decide +kernel
theorem dL_alike_105 : decode cL_alike 105 = .ok (.iload 5, 2) := by decide +kernel
theorem dL_alike_107 : decode cL_alike 107 = .ok (.iconst 0, 1) := by decide +kernel
theorem dL_alike_108 : decode cL_alike 108 = .ok (.iconst 0, 1) := by decide +kernel
theorem dL_alike_109 : decode cL_alike 109 = .ok (.invokestatic 168, 3) := by decide +kernel
theorem dL_alike_112 : decode cL_alike 112 = .ok (.aload_n 1, 1) := by decide +kernel
theorem dL_alike_113 : decode cL_alike 113 = .ok (.iconst 2, 1) := by decide +kernel
theorem dL_alike_114 : decode cL_alike 114 = .ok (.iload 5, 2) := by decide +kernel
theorem dL_alike_116 : decode cL_alike 116 = .ok (.iconst 0, 1) := by decide +kernel
theorem dL_alike_117 : decode cL_alike 117 = .ok (.iconst 0, 1) := by decide +kernel
theorem dL_alike_118 : decode cL_alike 118 = .ok (.invokestatic 168, 3) := by decide +kernel
theorem dL_alike_121 : decode cL_alike 121 = .ok (.if_icmp .ne 28, 3) := by decide +kernel
theorem dL_alike_124 : decode cL_alike 124 = .ok (.aload_n 0, 1) := by decide +kernel
theorem dL_alike_125 : decode cL_alike 125 = .ok (.iconst 5, 1) := by decide +kernel
theorem dL_alike_126 : decode cL_alike 126 = .ok (.iload 5, 2) := by decide +kernel
theorem dL_alike_128 : decode cL_alike 128 = .ok (.iconst 0, 1) := by decide +kernel
theorem dL_alike_129 : decode cL_alike 129 = .ok (.iconst 0, 1) := by decide +kernel
theorem dL_alike_130 : decode cL_alike 130 = .ok (.invokestatic 168, 3) := by decide +kernel
theorem dL_alike_133 : decode cL_alike 133 = .ok (.aload_n 1, 1) := by decide +kernel
theorem dL_alike_134 : decode cL_alike 134 = .ok (.iconst 5, 1) := by decide +kernel
theorem dL_alike_135 : decode cL_alike 135 = .ok (.iload 5, 2) := by decide +kernel
theorem dL_alike_137 : decode cL_alike 137 = .ok (.iconst 0, 1) := by decide +kernel
theorem dL_alike_138 : decode cL_alike 138 = .ok (.iconst 0, 1) := by decide +kernel
theorem dL_alike_139 : decode cL_alike 139 = .ok (.invokestatic 168, 3) := by decide +kernel
theorem dL_alike_142 : decode cL_alike 142 = .ok (.if_icmp .ne 7, 3) := by decide +kernel
theorem dL_alike_145 : decode cL_alike 145 = .ok (.iconst 1, 1) := by decide +kernel
theorem dL_alike_146 : decode cL_alike 146 = .ok (.goto 4, 3) := by decide +kernel
theorem dL_alike_149 : decode cL_alike 149 = .ok (.iconst 0, 1) := by decide +kernel
theorem dL_alike_150 : decode cL_alike 150 = .ok (.istore 4, 2) := by decide +kernel
theorem dL_alike_152 : decode cL_alike 152 = .ok (.iinc 5 1, 3) := by decide +kernel
theorem dL_alike_155 : decode cL_alike 155 = .ok (.goto (-64), 3) := by decide +kernel
theorem dL_alike_158 : decode cL_alike 158 = .ok (.iconst 0, 1) := by decide +kernel
theorem dL_alike_159 : decode cL_alike 159 = .ok (.istore 5, 2) := by decide +kernel
theorem dL_alike_161 : decode cL_alike 161 = .ok (.iload 5, 2) := by decide +kernel
theorem dL_alike_163 : decode cL_alike 163 = .ok (.iload_n 3, 1) := by decide +kernel
theorem dL_alike_164 : decode cL_alike 164 = .ok (.if_icmp .ge 63, 3) := by decide +kernel
theorem dL_alike_167 : decode cL_alike 167 = .ok (.iload 4, 2) := by decide +kernel
theorem dL_alike_169 : decode cL_alike 169 = .ok (.ifCond .eq 58, 3) := by decide +kernel
theorem dL_alike_172 : decode cL_alike 172 = .ok (.aload_n 0, 1) := by decide +kernel
theorem dL_alike_173 : decode cL_alike 173 = .ok (.iconst 3, 1) := by decide +kernel
theorem dL_alike_174 : decode cL_alike 174 = .ok (.iload 5, 2) := by decide +kernel
theorem dL_alike_176 : decode cL_alike 176 = .ok (.iconst 1, 1) := by decide +kernel
theorem dL_alike_177 : decode cL_alike 177 = .ok (.iconst 0, 1) := by decide +kernel
theorem dL_alike_178 : decode cL_alike 178 = .ok (.invokestatic 168, 3) := by decide +kernel
theorem dL_alike_181 : decode cL_alike 181 = .ok (.aload_n 1, 1) := by decide +kernel
theorem dL_alike_182 : decode cL_alike 182 = .ok (.iconst 3, 1) := by decide +kernel
theorem dL_alike_183 : decode cL_alike 183 = .ok (.iload 5, 2) := by decide +kernel
theorem dL_alike_185 : decode cL_alike 185 = .ok (.iconst 1, 1) := by decide +kernel
theorem dL_alike_186 : decode cL_alike 186 = .ok (.iconst 0, 1) := by decide +kernel
theorem dL_alike_187 : decode cL_alike 187 = .ok (.invokestatic 168, 3) := by decide +kernel
theorem dL_alike_190 : decode cL_alike 190 = .ok (.if_icmp .ne 28, 3) := by decide +kernel
theorem dL_alike_193 : decode cL_alike 193 = .ok (.aload_n 0, 1) := by decide +kernel
theorem dL_alike_194 : decode cL_alike 194 = .ok (.iconst 3, 1) := by decide +kernel
theorem dL_alike_195 : decode cL_alike 195 = .ok (.iload 5, 2) := by decide +kernel
theorem dL_alike_197 : decode cL_alike 197 = .ok (.iconst 3, 1) := by decide +kernel
theorem dL_alike_198 : decode cL_alike 198 = .ok (.iconst 0, 1) := by decide +kernel
theorem dL_alike_199 : decode cL_alike 199 = .ok (.invokestatic 168, 3) := by decide +kernel
theorem dL_alike_202 : decode cL_alike 202 = .ok (.aload_n 1, 1) := by decide +kernel
theorem dL_alike_203 : decode cL_alike 203 = .ok (.iconst 3, 1) := by decide +kernel
theorem dL_alike_204 : decode cL_alike 204 = .ok (.iload 5, 2) := by decide +kernel
theorem dL_alike_206 : decode cL_alike 206 = .ok (.iconst 3, 1) := by decide +kernel
theorem dL_alike_207 : decode cL_alike 207 = .ok (.iconst 0, 1) := by decide +kernel
theorem dL_alike_208 : decode cL_alike 208 = .ok (.invokestatic 168, 3) := by decide +kernel
theorem dL_alike_211 : decode cL_alike 211 = .ok (.if_icmp .ne 7, 3) := by decide +kernel
theorem dL_alike_214 : decode cL_alike 214 = .ok (.iconst 1, 1) := by decide +kernel
theorem dL_alike_215 : decode cL_alike 215 = .ok (.goto 4, 3) := by decide +kernel
theorem dL_alike_218 : decode cL_alike 218 = .ok (.iconst 0, 1) := by decide +kernel
theorem dL_alike_219 : decode cL_alike 219 = .ok (.istore 4, 2) := by decide +kernel
theorem dL_alike_221 : decode cL_alike 221 = .ok (.iinc 5 1, 3) := by decide +kernel
theorem dL_alike_224 : decode cL_alike 224 = .ok (.goto (-63), 3) := by decide +kernel
theorem dL_alike_227 : decode cL_alike 227 = .ok (.iload 4, 2) := by decide +kernel
theorem dL_alike_229 : decode cL_alike 229 = .ok (.ireturn, 1) := by decide +kernel
theorem dL_law_0 : decode cL_law 0 = .ok (.new 8, 3) := by decide +kernel
theorem dL_law_3 : decode cL_law 3 = .ok (.dup, 1) := by decide +kernel
theorem dL_law_4 : decode cL_law 4 = .ok (.invokespecial 189, 3) := by decide +kernel
theorem dL_law_7 : decode cL_law 7 = .ok (.astore_n 1, 1) := by decide +kernel
theorem dL_law_8 : decode cL_law 8 = .ok (.new 8, 3) := by decide +kernel
theorem dL_law_11 : decode cL_law 11 = .ok (.dup, 1) := by decide +kernel
theorem dL_law_12 : decode cL_law 12 = .ok (.invokespecial 189, 3) := by decide +kernel
theorem dL_law_15 : decode cL_law 15 = .ok (.astore_n 2, 1) := by decide +kernel
theorem dL_law_16 : decode cL_law 16 = .ok (.bipush 8, 2) := by decide +kernel
theorem dL_law_18 : decode cL_law 18 = .ok (.aload_n 0, 1) := by decide +kernel
theorem dL_law_19 : decode cL_law 19 = .ok (.iconst 0, 1) := by decide +kernel
theorem dL_law_20 : decode cL_law 20 = .ok (.invokestatic 190, 3) := by decide +kernel
theorem dL_law_23 : decode cL_law 23 = .ok (.bipush 19, 2) := by decide +kernel
theorem dL_law_25 : decode cL_law 25 = .ok (.irem, 1) := by decide +kernel
theorem dL_law_26 : decode cL_law 26 = .ok (.iadd, 1) := by decide +kernel
theorem dL_law_27 : decode cL_law 27 = .ok (.istore_n 3, 1) := by decide +kernel
theorem dL_law_28 : decode cL_law 28 = .ok (.iconst 1, 1) := by decide +kernel
theorem dL_law_29 : decode cL_law 29 = .ok (.istore 4, 2) := by decide +kernel
theorem dL_law_31 : decode cL_law 31 = .ok (.iconst 0, 1) := by decide +kernel
theorem dL_law_32 : decode cL_law 32 = .ok (.istore 5, 2) := by decide +kernel
theorem dL_law_34 : decode cL_law 34 = .ok (.iload 5, 2) := by decide +kernel
theorem dL_law_36 : decode cL_law 36 = .ok (.iload_n 3, 1) := by decide +kernel
theorem dL_law_37 : decode cL_law 37 = .ok (.if_icmp .ge 146, 3) := by decide +kernel
theorem dL_law_40 : decode cL_law 40 = .ok (.iload 4, 2) := by decide +kernel
theorem dL_law_42 : decode cL_law 42 = .ok (.ifCond .eq 141, 3) := by decide +kernel
theorem dL_law_45 : decode cL_law 45 = .ok (.aload_n 0, 1) := by decide +kernel
theorem dL_law_46 : decode cL_law 46 = .ok (.iconst 1, 1) := by decide +kernel
theorem dL_law_47 : decode cL_law 47 = .ok (.iload 5, 2) := by decide +kernel
theorem dL_law_49 : decode cL_law 49 = .ok (.iadd, 1) := by decide +kernel
theorem dL_law_50 : decode cL_law 50 = .ok (.invokestatic 190, 3) := by decide +kernel
theorem dL_law_53 : decode cL_law 53 = .ok (.istore 6, 2) := by decide +kernel
theorem dL_law_55 : decode cL_law 55 = .ok (.aload_n 1, 1) := by decide +kernel
theorem dL_law_56 : decode cL_law 56 = .ok (.iload 6, 2) := by decide +kernel
theorem dL_law_58 : decode cL_law 58 = .ok (.invokestatic 193, 3) := by decide +kernel
theorem dL_law_61 : decode cL_law 61 = .ok (.istore 7, 2) := by decide +kernel
theorem dL_law_63 : decode cL_law 63 = .ok (.aload_n 2, 1) := by decide +kernel
theorem dL_law_64 : decode cL_law 64 = .ok (.iload 6, 2) := by decide +kernel
theorem dL_law_66 : decode cL_law 66 = .ok (.ldc 196, 2) := by decide +kernel
theorem dL_law_68 : decode cL_law 68 = .ok (.irem, 1) := by decide +kernel
theorem dL_law_69 : decode cL_law 69 = .ok (.invokestatic 197, 3) := by decide +kernel
theorem dL_law_72 : decode cL_law 72 = .ok (.ifCond .eq 102, 3) := by decide +kernel
theorem dL_law_75 : decode cL_law 75 = .ok (.aload_n 2, 1) := by decide +kernel
theorem dL_law_76 : decode cL_law 76 = .ok (.iload 6, 2) := by decide +kernel
theorem dL_law_78 : decode cL_law 78 = .ok (.invokestatic 193, 3) := by decide +kernel
theorem dL_law_81 : decode cL_law 81 = .ok (.iload 7, 2) := by decide +kernel
theorem dL_law_83 : decode cL_law 83 = .ok (.if_icmp .ne 91, 3) := by decide +kernel
theorem dL_law_86 : decode cL_law 86 = .ok (.aload_n 2, 1) := by decide +kernel
theorem dL_law_87 : decode cL_law 87 = .ok (.iload 6, 2) := by decide +kernel
theorem dL_law_89 : decode cL_law 89 = .ok (.sipush 1000, 3) := by decide +kernel
theorem dL_law_92 : decode cL_law 92 = .ok (.irem, 1) := by decide +kernel
theorem dL_law_93 : decode cL_law 93 = .ok (.invokestatic 197, 3) := by decide +kernel
theorem dL_law_96 : decode cL_law 96 = .ok (.ifCond .eq 78, 3) := by decide +kernel
theorem dL_law_99 : decode cL_law 99 = .ok (.aload_n 1, 1) := by decide +kernel
theorem dL_law_100 : decode cL_law 100 = .ok (.aload_n 2, 1) := by decide +kernel
theorem dL_law_101 : decode cL_law 101 = .ok (.iload 6, 2) := by decide +kernel
theorem dL_law_103 : decode cL_law 103 = .ok (.sipush 5000, 3) := by decide +kernel
theorem dL_law_106 : decode cL_law 106 = .ok (.irem, 1) := by decide +kernel
theorem dL_law_107 : decode cL_law 107 = .ok (.invokestatic 201, 3) := by decide +kernel
theorem dL_law_110 : decode cL_law 110 = .ok (.ifCond .eq 64, 3) := by decide +kernel
theorem dL_law_113 : decode cL_law 113 = .ok (.iload 5, 2) := by decide +kernel
theorem dL_law_115 : decode cL_law 115 = .ok (.iconst 2, 1) := by decide +kernel
theorem dL_law_116 : decode cL_law 116 = .ok (.irem, 1) := by decide +kernel
theorem dL_law_117 : decode cL_law 117 = .ok (.ifCond .ne 13, 3) := by decide +kernel
theorem dL_law_120 : decode cL_law 120 = .ok (.aload_n 1, 1) := by decide +kernel
theorem dL_law_121 : decode cL_law 121 = .ok (.invokestatic 205, 3) := by decide +kernel
theorem dL_law_124 : decode cL_law 124 = .ok (.ifCond .eq 50, 3) := by decide +kernel
theorem dL_law_127 : decode cL_law 127 = .ok (.goto 10, 3) := by decide +kernel
theorem dL_law_130 : decode cL_law 130 = .ok (.aload_n 2, 1) := by decide +kernel
theorem dL_law_131 : decode cL_law 131 = .ok (.invokestatic 205, 3) := by decide +kernel
theorem dL_law_134 : decode cL_law 134 = .ok (.ifCond .eq 40, 3) := by decide +kernel
theorem dL_law_137 : decode cL_law 137 = .ok (.aload_n 1, 1) := by decide +kernel
theorem dL_law_138 : decode cL_law 138 = .ok (.aload_n 2, 1) := by decide +kernel
theorem dL_law_139 : decode cL_law 139 = .ok (.iload 6, 2) := by decide +kernel
theorem dL_law_141 : decode cL_law 141 = .ok (.bipush 7, 2) := by decide +kernel
theorem dL_law_143 : decode cL_law 143 = .ok (.idiv, 1) := by decide +kernel
theorem dL_law_144 : decode cL_law 144 = .ok (.invokestatic 209, 3) := by decide +kernel
theorem dL_law_147 : decode cL_law 147 = .ok (.ifCond .eq 27, 3) := by decide +kernel
theorem dL_law_150 : decode cL_law 150 = .ok (.iload 5, 2) := by decide +kernel
theorem dL_law_152 : decode cL_law 152 = .ok (.iconst 3, 1) := by decide +kernel
theorem dL_law_153 : decode cL_law 153 = .ok (.irem, 1) := by decide +kernel
theorem dL_law_154 : decode cL_law 154 = .ok (.ifCond .gt 16, 3) := by decide +kernel
theorem dL_law_157 : decode cL_law 157 = .ok (.aload_n 1, 1) := by decide +kernel
theorem dL_law_158 : decode cL_law 158 = .ok (.aload_n 2, 1) := by decide +kernel
theorem dL_law_159 : decode cL_law 159 = .ok (.iload 6, 2) := by decide +kernel
theorem dL_law_161 : decode cL_law 161 = .ok (.bipush 11, 2) := by decide +kernel
theorem dL_law_163 : decode cL_law 163 = .ok (.idiv, 1) := by decide +kernel
theorem dL_law_164 : decode cL_law 164 = .ok (.invokestatic 211, 3) := by decide +kernel
theorem dL_law_167 : decode cL_law 167 = .ok (.ifCond .eq 7, 3) := by decide +kernel
theorem dL_law_170 : decode cL_law 170 = .ok (.iconst 1, 1) := by decide +kernel
theorem dL_law_171 : decode cL_law 171 = .ok (.goto 4, 3) := by decide +kernel
theorem dL_law_174 : decode cL_law 174 = .ok (.iconst 0, 1) := by decide +kernel
theorem dL_law_175 : decode cL_law 175 = .ok (.istore 4, 2) := by decide +kernel
theorem dL_law_177 : decode cL_law 177 = .ok (.iinc 5 1, 3) := by decide +kernel
theorem dL_law_180 : decode cL_law 180 = .ok (.goto (-146), 3) := by decide +kernel
theorem dL_law_183 : decode cL_law 183 = .ok (.iload 4, 2) := by decide +kernel
theorem dL_law_185 : decode cL_law 185 = .ok (.ireturn, 1) := by decide +kernel
theorem dL_nights_0 : decode cL_nights 0 = .ok (.aload_n 0, 1) := by decide +kernel
theorem dL_nights_1 : decode cL_nights 1 = .ok (.iconst 2, 1) := by decide +kernel
theorem dL_nights_2 : decode cL_nights 2 = .ok (.iconst 0, 1) := by decide +kernel
theorem dL_nights_3 : decode cL_nights 3 = .ok (.iconst 0, 1) := by decide +kernel
theorem dL_nights_4 : decode cL_nights 4 = .ok (.iconst 0, 1) := by decide +kernel
theorem dL_nights_5 : decode cL_nights 5 = .ok (.invokestatic 168, 3) := by decide +kernel
theorem dL_nights_8 : decode cL_nights 8 = .ok (.aload_n 0, 1) := by decide +kernel
theorem dL_nights_9 : decode cL_nights 9 = .ok (.iconst 2, 1) := by decide +kernel
theorem dL_nights_10 : decode cL_nights 10 = .ok (.iconst 1, 1) := by decide +kernel
theorem dL_nights_11 : decode cL_nights 11 = .ok (.iconst 0, 1) := by decide +kernel
theorem dL_nights_12 : decode cL_nights 12 = .ok (.iconst 0, 1) := by decide +kernel
theorem dL_nights_13 : decode cL_nights 13 = .ok (.invokestatic 168, 3) := by decide +kernel
theorem dL_nights_16 : decode cL_nights 16 = .ok (.imul, 1) := by decide +kernel
theorem dL_nights_17 : decode cL_nights 17 = .ok (.istore_n 3, 1) := by decide +kernel
theorem dL_nights_18 : decode cL_nights 18 = .ok (.iconst 1, 1) := by decide +kernel
theorem dL_nights_19 : decode cL_nights 19 = .ok (.iload_n 2, 1) := by decide +kernel
theorem dL_nights_20 : decode cL_nights 20 = .ok (.bipush 20, 2) := by decide +kernel
theorem dL_nights_22 : decode cL_nights 22 = .ok (.irem, 1) := by decide +kernel
theorem dL_nights_23 : decode cL_nights 23 = .ok (.iadd, 1) := by decide +kernel
theorem dL_nights_24 : decode cL_nights 24 = .ok (.istore 4, 2) := by decide +kernel
theorem dL_nights_26 : decode cL_nights 26 = .ok (.iload_n 2, 1) := by decide +kernel
theorem dL_nights_27 : decode cL_nights 27 = .ok (.bipush 20, 2) := by decide +kernel
theorem dL_nights_29 : decode cL_nights 29 = .ok (.idiv, 1) := by decide +kernel
theorem dL_nights_30 : decode cL_nights 30 = .ok (.iload_n 3, 1) := by decide +kernel
theorem dL_nights_31 : decode cL_nights 31 = .ok (.irem, 1) := by decide +kernel
theorem dL_nights_32 : decode cL_nights 32 = .ok (.istore 5, 2) := by decide +kernel
theorem dL_nights_34 : decode cL_nights 34 = .ok (.aload_n 0, 1) := by decide +kernel
theorem dL_nights_35 : decode cL_nights 35 = .ok (.invokevirtual 186, 3) := by decide +kernel
theorem dL_nights_38 : decode cL_nights 38 = .ok (.lstore 6, 2) := by decide +kernel
theorem dL_nights_40 : decode cL_nights 40 = .ok (.aload_n 0, 1) := by decide +kernel
theorem dL_nights_41 : decode cL_nights 41 = .ok (.iload 4, 2) := by decide +kernel
theorem dL_nights_43 : decode cL_nights 43 = .ok (.invokestatic 172, 3) := by decide +kernel
theorem dL_nights_46 : decode cL_nights 46 = .ok (.lstore 8, 2) := by decide +kernel
theorem dL_nights_48 : decode cL_nights 48 = .ok (.aload_n 0, 1) := by decide +kernel
theorem dL_nights_49 : decode cL_nights 49 = .ok (.iconst 1, 1) := by decide +kernel
theorem dL_nights_50 : decode cL_nights 50 = .ok (.invokestatic 172, 3) := by decide +kernel
theorem dL_nights_53 : decode cL_nights 53 = .ok (.lstore 10, 2) := by decide +kernel
theorem dL_nights_55 : decode cL_nights 55 = .ok (.aload_n 0, 1) := by decide +kernel
theorem dL_nights_56 : decode cL_nights 56 = .ok (.bipush 16, 2) := by decide +kernel
theorem dL_nights_58 : decode cL_nights 58 = .ok (.iload 5, 2) := by decide +kernel
theorem dL_nights_60 : decode cL_nights 60 = .ok (.iconst 0, 1) := by decide +kernel
theorem dL_nights_61 : decode cL_nights 61 = .ok (.iconst 0, 1) := by decide +kernel
theorem dL_nights_62 : decode cL_nights 62 = .ok (.invokestatic 168, 3) := by decide +kernel
theorem dL_nights_65 : decode cL_nights 65 = .ok (.istore 12, 2) := by decide +kernel
theorem dL_nights_67 : decode cL_nights 67 = .ok (.aload_n 0, 1) := by decide +kernel
theorem dL_nights_68 : decode cL_nights 68 = .ok (.bipush 14, 2) := by decide +kernel
theorem dL_nights_70 : decode cL_nights 70 = .ok (.iconst 0, 1) := by decide +kernel
theorem dL_nights_71 : decode cL_nights 71 = .ok (.iconst 0, 1) := by decide +kernel
theorem dL_nights_72 : decode cL_nights 72 = .ok (.iconst 0, 1) := by decide +kernel
theorem dL_nights_73 : decode cL_nights 73 = .ok (.invokestatic 168, 3) := by decide +kernel
theorem dL_nights_76 : decode cL_nights 76 = .ok (.istore 13, 2) := by decide +kernel
theorem dL_nights_78 : decode cL_nights 78 = .ok (.aload_n 0, 1) := by decide +kernel
theorem dL_nights_79 : decode cL_nights 79 = .ok (.bipush 14, 2) := by decide +kernel
theorem dL_nights_81 : decode cL_nights 81 = .ok (.iconst 1, 1) := by decide +kernel
theorem dL_nights_82 : decode cL_nights 82 = .ok (.iconst 0, 1) := by decide +kernel
theorem dL_nights_83 : decode cL_nights 83 = .ok (.iconst 0, 1) := by decide +kernel
theorem dL_nights_84 : decode cL_nights 84 = .ok (.invokestatic 168, 3) := by decide +kernel
theorem dL_nights_87 : decode cL_nights 87 = .ok (.istore 14, 2) := by decide +kernel
theorem dL_nights_89 : decode cL_nights 89 = .ok (.iload 13, 2) := by decide +kernel
theorem dL_nights_91 : decode cL_nights 91 = .ok (.iconst (-1), 1) := by decide +kernel
theorem dL_nights_92 : decode cL_nights 92 = .ok (.if_icmp .ne 7, 3) := by decide +kernel
theorem dL_nights_95 : decode cL_nights 95 = .ok (.iconst 1, 1) := by decide +kernel
theorem dL_nights_96 : decode cL_nights 96 = .ok (.goto 4, 3) := by decide +kernel
theorem dL_nights_99 : decode cL_nights 99 = .ok (.iconst 0, 1) := by decide +kernel
theorem dL_nights_100 : decode cL_nights 100 = .ok (.iload 14, 2) := by decide +kernel
theorem dL_nights_102 : decode cL_nights 102 = .ok (.iconst (-1), 1) := by decide +kernel
theorem dL_nights_103 : decode cL_nights 103 = .ok (.if_icmp .ne 7, 3) := by decide +kernel
theorem dL_nights_106 : decode cL_nights 106 = .ok (.iconst 1, 1) := by decide +kernel
theorem dL_nights_107 : decode cL_nights 107 = .ok (.goto 4, 3) := by decide +kernel
theorem dL_nights_110 : decode cL_nights 110 = .ok (.iconst 0, 1) := by decide +kernel
theorem dL_nights_111 : decode cL_nights 111 = .ok (.if_icmp .ne 58, 3) := by decide +kernel
theorem dL_nights_114 : decode cL_nights 114 = .ok (.iload 13, 2) := by decide +kernel
theorem dL_nights_116 : decode cL_nights 116 = .ok (.iconst (-1), 1) := by decide +kernel
theorem dL_nights_117 : decode cL_nights 117 = .ok (.if_icmp .eq 48, 3) := by decide +kernel
theorem dL_nights_120 : decode cL_nights 120 = .ok (.iload 14, 2) := by decide +kernel
theorem dL_nights_122 : decode cL_nights 122 = .ok (.ifCond .le 47, 3) := by decide +kernel
theorem dL_nights_125 : decode cL_nights 125 = .ok (.iload 13, 2) := by decide +kernel
theorem dL_nights_127 : decode cL_nights 127 = .ok (.iload 14, 2) := by decide +kernel
theorem dL_nights_129 : decode cL_nights 129 = .ok (.iadd, 1) := by decide +kernel
theorem dL_nights_130 : decode cL_nights 130 = .ok (.sipush 200, 3) := by decide +kernel
theorem dL_nights_133 : decode cL_nights 133 = .ok (.if_icmp .gt 32, 3) := by decide +kernel
theorem dL_nights_136 : decode cL_nights 136 = .ok (.aload_n 0, 1) := by decide +kernel
theorem dL_nights_137 : decode cL_nights 137 = .ok (.iload 13, 2) := by decide +kernel
theorem dL_nights_139 : decode cL_nights 139 = .ok (.iload 14, 2) := by decide +kernel
theorem dL_nights_141 : decode cL_nights 141 = .ok (.iadd, 1) := by decide +kernel
theorem dL_nights_142 : decode cL_nights 142 = .ok (.invokestatic 172, 3) := by decide +kernel
theorem dL_nights_145 : decode cL_nights 145 = .ok (.iload 13, 2) := by decide +kernel
theorem dL_nights_147 : decode cL_nights 147 = .ok (.ifCond .ne 8, 3) := by decide +kernel
theorem dL_nights_150 : decode cL_nights 150 = .ok (.lload 6, 2) := by decide +kernel
theorem dL_nights_152 : decode cL_nights 152 = .ok (.goto 9, 3) := by decide +kernel
theorem dL_nights_155 : decode cL_nights 155 = .ok (.aload_n 0, 1) := by decide +kernel
theorem dL_nights_156 : decode cL_nights 156 = .ok (.iload 13, 2) := by decide +kernel
theorem dL_nights_158 : decode cL_nights 158 = .ok (.invokestatic 172, 3) := by decide +kernel
theorem dL_nights_161 : decode cL_nights 161 = .ok (.lcmp, 1) := by decide +kernel
theorem dL_nights_162 : decode cL_nights 162 = .ok (.ifCond .ne 7, 3) := by decide +kernel
theorem dL_nights_165 : decode cL_nights 165 = .ok (.iconst 1, 1) := by decide +kernel
theorem dL_nights_166 : decode cL_nights 166 = .ok (.goto 4, 3) := by decide +kernel
theorem dL_nights_169 : decode cL_nights 169 = .ok (.iconst 0, 1) := by decide +kernel
theorem dL_nights_170 : decode cL_nights 170 = .ok (.istore 15, 2) := by decide +kernel
theorem dL_nights_172 : decode cL_nights 172 = .ok (.iload 15, 2) := by decide +kernel
theorem dL_nights_174 : decode cL_nights 174 = .ok (.ifCond .eq 123, 3) := by decide +kernel
theorem dL_nights_177 : decode cL_nights 177 = .ok (.aload_n 0, 1) := by decide +kernel
theorem dL_nights_178 : decode cL_nights 178 = .ok (.bipush 12, 2) := by decide +kernel
theorem dL_nights_180 : decode cL_nights 180 = .ok (.iload 4, 2) := by decide +kernel
theorem dL_nights_182 : decode cL_nights 182 = .ok (.iconst 0, 1) := by decide +kernel
theorem dL_nights_183 : decode cL_nights 183 = .ok (.iconst 0, 1) := by decide +kernel
theorem dL_nights_184 : decode cL_nights 184 = .ok (.invokestatic 168, 3) := by decide +kernel
theorem dL_nights_187 : decode cL_nights 187 = .ok (.aload_n 1, 1) := by decide +kernel
theorem dL_nights_188 : decode cL_nights 188 = .ok (.bipush 12, 2) := by decide +kernel
theorem dL_nights_190 : decode cL_nights 190 = .ok (.iload 4, 2) := by decide +kernel
theorem dL_nights_192 : decode cL_nights 192 = .ok (.iconst 0, 1) := by decide +kernel
theorem dL_nights_193 : decode cL_nights 193 = .ok (.iconst 0, 1) := by decide +kernel
theorem dL_nights_194 : decode cL_nights 194 = .ok (.invokestatic 168, 3) := by decide +kernel
theorem dL_nights_197 : decode cL_nights 197 = .ok (.if_icmp .ne 100, 3) := by decide +kernel
theorem dL_nights_200 : decode cL_nights 200 = .ok (.aload_n 0, 1) := by decide +kernel
theorem dL_nights_201 : decode cL_nights 201 = .ok (.invokevirtual 186, 3) := by decide +kernel
theorem dL_nights_204 : decode cL_nights 204 = .ok (.lload 8, 2) := by decide +kernel
theorem dL_nights_206 : decode cL_nights 206 = .ok (.lcmp, 1) := by decide +kernel
theorem dL_nights_207 : decode cL_nights 207 = .ok (.ifCond .ne 90, 3) := by decide +kernel
theorem dL_nights_210 : decode cL_nights 210 = .ok (.iload 12, 2) := by decide +kernel
theorem dL_nights_212 : decode cL_nights 212 = .ok (.iload 4, 2) := by decide +kernel
theorem dL_nights_214 : decode cL_nights 214 = .ok (.if_icmp .ne 15, 3) := by decide +kernel
theorem dL_nights_217 : decode cL_nights 217 = .ok (.lload 8, 2) := by decide +kernel
theorem dL_nights_219 : decode cL_nights 219 = .ok (.iload 5, 2) := by decide +kernel
theorem dL_nights_221 : decode cL_nights 221 = .ok (.lshr, 1) := by decide +kernel
theorem dL_nights_222 : decode cL_nights 222 = .ok (.lconst 1, 1) := by decide +kernel
theorem dL_nights_223 : decode cL_nights 223 = .ok (.land, 1) := by decide +kernel
theorem dL_nights_224 : decode cL_nights 224 = .ok (.lconst 1, 1) := by decide +kernel
theorem dL_nights_225 : decode cL_nights 225 = .ok (.lcmp, 1) := by decide +kernel
theorem dL_nights_226 : decode cL_nights 226 = .ok (.ifCond .ne 71, 3) := by decide +kernel
theorem dL_nights_229 : decode cL_nights 229 = .ok (.iload 12, 2) := by decide +kernel
theorem dL_nights_231 : decode cL_nights 231 = .ok (.ifCond .lt 10, 3) := by decide +kernel
theorem dL_nights_234 : decode cL_nights 234 = .ok (.iload 12, 2) := by decide +kernel
theorem dL_nights_236 : decode cL_nights 236 = .ok (.iload 4, 2) := by decide +kernel
theorem dL_nights_238 : decode cL_nights 238 = .ok (.if_icmp .le 15, 3) := by decide +kernel
theorem dL_nights_241 : decode cL_nights 241 = .ok (.lload 8, 2) := by decide +kernel
theorem dL_nights_243 : decode cL_nights 243 = .ok (.iload 5, 2) := by decide +kernel
theorem dL_nights_245 : decode cL_nights 245 = .ok (.lshr, 1) := by decide +kernel
theorem dL_nights_246 : decode cL_nights 246 = .ok (.lconst 1, 1) := by decide +kernel
theorem dL_nights_247 : decode cL_nights 247 = .ok (.land, 1) := by decide +kernel
theorem dL_nights_248 : decode cL_nights 248 = .ok (.lconst 0, 1) := by decide +kernel
theorem dL_nights_249 : decode cL_nights 249 = .ok (.lcmp, 1) := by decide +kernel
theorem dL_nights_250 : decode cL_nights 250 = .ok (.ifCond .ne 47, 3) := by decide +kernel
theorem dL_nights_253 : decode cL_nights 253 = .ok (.aload_n 0, 1) := by decide +kernel
theorem dL_nights_254 : decode cL_nights 254 = .ok (.bipush 13, 2) := by decide +kernel
theorem dL_nights_256 : decode cL_nights 256 = .ok (.iconst 0, 1) := by decide +kernel
theorem dL_nights_257 : decode cL_nights 257 = .ok (.iconst 0, 1) := by decide +kernel
theorem dL_nights_258 : decode cL_nights 258 = .ok (.iconst 0, 1) := by decide +kernel
theorem dL_nights_259 : decode cL_nights 259 = .ok (.invokestatic 168, 3) := by decide +kernel
theorem dL_nights_262 : decode cL_nights 262 = .ok (.invokestatic 214, 3) := by decide +kernel
theorem dL_nights_265 : decode cL_nights 265 = .ok (.ifCond .ne 32, 3) := by decide +kernel
theorem dL_nights_268 : decode cL_nights 268 = .ok (.aload_n 1, 1) := by decide +kernel
theorem dL_nights_269 : decode cL_nights 269 = .ok (.bipush 13, 2) := by decide +kernel
theorem dL_nights_271 : decode cL_nights 271 = .ok (.iconst 0, 1) := by decide +kernel
theorem dL_nights_272 : decode cL_nights 272 = .ok (.iconst 0, 1) := by decide +kernel
theorem dL_nights_273 : decode cL_nights 273 = .ok (.iconst 0, 1) := by decide +kernel
theorem dL_nights_274 : decode cL_nights 274 = .ok (.invokestatic 168, 3) := by decide +kernel
theorem dL_nights_277 : decode cL_nights 277 = .ok (.invokestatic 214, 3) := by decide +kernel
theorem dL_nights_280 : decode cL_nights 280 = .ok (.ifCond .ne 17, 3) := by decide +kernel
theorem dL_nights_283 : decode cL_nights 283 = .ok (.aload_n 0, 1) := by decide +kernel
theorem dL_nights_284 : decode cL_nights 284 = .ok (.invokevirtual 186, 3) := by decide +kernel
theorem dL_nights_287 : decode cL_nights 287 = .ok (.lload 6, 2) := by decide +kernel
theorem dL_nights_289 : decode cL_nights 289 = .ok (.lcmp, 1) := by decide +kernel
theorem dL_nights_290 : decode cL_nights 290 = .ok (.ifCond .ne 7, 3) := by decide +kernel
theorem dL_nights_293 : decode cL_nights 293 = .ok (.iconst 1, 1) := by decide +kernel
theorem dL_nights_294 : decode cL_nights 294 = .ok (.goto 4, 3) := by decide +kernel
theorem dL_nights_297 : decode cL_nights 297 = .ok (.iconst 0, 1) := by decide +kernel
theorem dL_nights_298 : decode cL_nights 298 = .ok (.istore 15, 2) := by decide +kernel
theorem dL_nights_300 : decode cL_nights 300 = .ok (.iload 15, 2) := by decide +kernel
theorem dL_nights_302 : decode cL_nights 302 = .ok (.ifCond .eq 38, 3) := by decide +kernel
theorem dL_nights_305 : decode cL_nights 305 = .ok (.aload_n 0, 1) := by decide +kernel
theorem dL_nights_306 : decode cL_nights 306 = .ok (.bipush 12, 2) := by decide +kernel
theorem dL_nights_308 : decode cL_nights 308 = .ok (.iconst 1, 1) := by decide +kernel
theorem dL_nights_309 : decode cL_nights 309 = .ok (.iconst 0, 1) := by decide +kernel
theorem dL_nights_310 : decode cL_nights 310 = .ok (.iconst 0, 1) := by decide +kernel
theorem dL_nights_311 : decode cL_nights 311 = .ok (.invokestatic 168, 3) := by decide +kernel
theorem dL_nights_314 : decode cL_nights 314 = .ok (.aload_n 1, 1) := by decide +kernel
theorem dL_nights_315 : decode cL_nights 315 = .ok (.bipush 12, 2) := by decide +kernel
theorem dL_nights_317 : decode cL_nights 317 = .ok (.iconst 1, 1) := by decide +kernel
theorem dL_nights_318 : decode cL_nights 318 = .ok (.iconst 0, 1) := by decide +kernel
theorem dL_nights_319 : decode cL_nights 319 = .ok (.iconst 0, 1) := by decide +kernel
theorem dL_nights_320 : decode cL_nights 320 = .ok (.invokestatic 168, 3) := by decide +kernel
theorem dL_nights_323 : decode cL_nights 323 = .ok (.if_icmp .ne 17, 3) := by decide +kernel
theorem dL_nights_326 : decode cL_nights 326 = .ok (.aload_n 0, 1) := by decide +kernel
theorem dL_nights_327 : decode cL_nights 327 = .ok (.invokevirtual 186, 3) := by decide +kernel
theorem dL_nights_330 : decode cL_nights 330 = .ok (.lload 10, 2) := by decide +kernel
theorem dL_nights_332 : decode cL_nights 332 = .ok (.lcmp, 1) := by decide +kernel
theorem dL_nights_333 : decode cL_nights 333 = .ok (.ifCond .ne 7, 3) := by decide +kernel
theorem dL_nights_336 : decode cL_nights 336 = .ok (.iconst 1, 1) := by decide +kernel
theorem dL_nights_337 : decode cL_nights 337 = .ok (.goto 4, 3) := by decide +kernel
theorem dL_nights_340 : decode cL_nights 340 = .ok (.iconst 0, 1) := by decide +kernel
theorem dL_nights_341 : decode cL_nights 341 = .ok (.istore 15, 2) := by decide +kernel
theorem dL_nights_343 : decode cL_nights 343 = .ok (.aload_n 0, 1) := by decide +kernel
theorem dL_nights_344 : decode cL_nights 344 = .ok (.bipush 15, 2) := by decide +kernel
theorem dL_nights_346 : decode cL_nights 346 = .ok (.iconst 0, 1) := by decide +kernel
theorem dL_nights_347 : decode cL_nights 347 = .ok (.iconst 0, 1) := by decide +kernel
theorem dL_nights_348 : decode cL_nights 348 = .ok (.iconst 0, 1) := by decide +kernel
theorem dL_nights_349 : decode cL_nights 349 = .ok (.invokestatic 168, 3) := by decide +kernel
theorem dL_nights_352 : decode cL_nights 352 = .ok (.istore 16, 2) := by decide +kernel
theorem dL_nights_354 : decode cL_nights 354 = .ok (.aload_n 0, 1) := by decide +kernel
theorem dL_nights_355 : decode cL_nights 355 = .ok (.invokestatic 218, 3) := by decide +kernel
theorem dL_nights_358 : decode cL_nights 358 = .ok (.lstore 17, 2) := by decide +kernel
theorem dL_nights_360 : decode cL_nights 360 = .ok (.aload_n 0, 1) := by decide +kernel
theorem dL_nights_361 : decode cL_nights 361 = .ok (.iconst 2, 1) := by decide +kernel
theorem dL_nights_362 : decode cL_nights 362 = .ok (.iconst 4, 1) := by decide +kernel
theorem dL_nights_363 : decode cL_nights 363 = .ok (.iconst 0, 1) := by decide +kernel
theorem dL_nights_364 : decode cL_nights 364 = .ok (.iconst 0, 1) := by decide +kernel
theorem dL_nights_365 : decode cL_nights 365 = .ok (.invokestatic 168, 3) := by decide +kernel
theorem dL_nights_368 : decode cL_nights 368 = .ok (.ifCond .ne 7, 3) := by decide +kernel
theorem dL_nights_371 : decode cL_nights 371 = .ok (.iconst 1, 1) := by decide +kernel
theorem dL_nights_372 : decode cL_nights 372 = .ok (.goto 4, 3) := by decide +kernel
theorem dL_nights_375 : decode cL_nights 375 = .ok (.iconst 0, 1) := by decide +kernel
theorem dL_nights_376 : decode cL_nights 376 = .ok (.istore 19, 2) := by decide +kernel
theorem dL_nights_378 : decode cL_nights 378 = .ok (.lload 17, 2) := by decide +kernel
theorem dL_nights_380 : decode cL_nights 380 = .ok (.bipush 32, 2) := by decide +kernel
theorem dL_nights_382 : decode cL_nights 382 = .ok (.lushr, 1) := by decide +kernel
theorem dL_nights_383 : decode cL_nights 383 = .ok (.lload 6, 2) := by decide +kernel
theorem dL_nights_385 : decode cL_nights 385 = .ok (.bipush 32, 2) := by decide +kernel
theorem dL_nights_387 : decode cL_nights 387 = .ok (.lushr, 1) := by decide +kernel
theorem dL_nights_388 : decode cL_nights 388 = .ok (.lcmp, 1) := by decide +kernel
theorem dL_nights_389 : decode cL_nights 389 = .ok (.ifCond .lt 33, 3) := by decide +kernel
theorem dL_nights_392 : decode cL_nights 392 = .ok (.lload 17, 2) := by decide +kernel
theorem dL_nights_394 : decode cL_nights 394 = .ok (.bipush 32, 2) := by decide +kernel
theorem dL_nights_396 : decode cL_nights 396 = .ok (.lushr, 1) := by decide +kernel
theorem dL_nights_397 : decode cL_nights 397 = .ok (.lload 6, 2) := by decide +kernel
theorem dL_nights_399 : decode cL_nights 399 = .ok (.bipush 32, 2) := by decide +kernel
theorem dL_nights_401 : decode cL_nights 401 = .ok (.lushr, 1) := by decide +kernel
theorem dL_nights_402 : decode cL_nights 402 = .ok (.lcmp, 1) := by decide +kernel
theorem dL_nights_403 : decode cL_nights 403 = .ok (.ifCond .ne 23, 3) := by decide +kernel
theorem dL_nights_406 : decode cL_nights 406 = .ok (.lload 17, 2) := by decide +kernel
theorem dL_nights_408 : decode cL_nights 408 = .ok (.ldc2_w 222, 3) := by decide +kernel
theorem dL_nights_411 : decode cL_nights 411 = .ok (.land, 1) := by decide +kernel
theorem dL_nights_412 : decode cL_nights 412 = .ok (.lload 6, 2) := by decide +kernel
theorem dL_nights_414 : decode cL_nights 414 = .ok (.ldc2_w 222, 3) := by decide +kernel
theorem dL_nights_417 : decode cL_nights 417 = .ok (.land, 1) := by decide +kernel
theorem dL_nights_418 : decode cL_nights 418 = .ok (.lcmp, 1) := by decide +kernel
theorem dL_nights_419 : decode cL_nights 419 = .ok (.ifCond .gt 7, 3) := by decide +kernel
theorem dL_nights_422 : decode cL_nights 422 = .ok (.iconst 1, 1) := by decide +kernel
theorem dL_nights_423 : decode cL_nights 423 = .ok (.goto 4, 3) := by decide +kernel
theorem dL_nights_426 : decode cL_nights 426 = .ok (.iconst 0, 1) := by decide +kernel
theorem dL_nights_427 : decode cL_nights 427 = .ok (.istore 20, 2) := by decide +kernel
theorem dL_nights_429 : decode cL_nights 429 = .ok (.iload 15, 2) := by decide +kernel
theorem dL_nights_431 : decode cL_nights 431 = .ok (.ifCond .eq 71, 3) := by decide +kernel
theorem dL_nights_434 : decode cL_nights 434 = .ok (.iload 19, 2) := by decide +kernel
theorem dL_nights_436 : decode cL_nights 436 = .ok (.ifCond .eq 33, 3) := by decide +kernel
theorem dL_nights_439 : decode cL_nights 439 = .ok (.iload 16, 2) := by decide +kernel
theorem dL_nights_441 : decode cL_nights 441 = .ok (.ldc 38, 2) := by decide +kernel
theorem dL_nights_443 : decode cL_nights 443 = .ok (.if_icmp .ne 59, 3) := by decide +kernel
theorem dL_nights_446 : decode cL_nights 446 = .ok (.lload 17, 2) := by decide +kernel
theorem dL_nights_448 : decode cL_nights 448 = .ok (.ldc2_w 23, 3) := by decide +kernel
theorem dL_nights_451 : decode cL_nights 451 = .ok (.lcmp, 1) := by decide +kernel
theorem dL_nights_452 : decode cL_nights 452 = .ok (.ifCond .ne 50, 3) := by decide +kernel
theorem dL_nights_455 : decode cL_nights 455 = .ok (.lload 10, 2) := by decide +kernel
theorem dL_nights_457 : decode cL_nights 457 = .ok (.lload 6, 2) := by decide +kernel
theorem dL_nights_459 : decode cL_nights 459 = .ok (.land, 1) := by decide +kernel
theorem dL_nights_460 : decode cL_nights 460 = .ok (.lload 6, 2) := by decide +kernel
theorem dL_nights_462 : decode cL_nights 462 = .ok (.lcmp, 1) := by decide +kernel
theorem dL_nights_463 : decode cL_nights 463 = .ok (.ifCond .ne 39, 3) := by decide +kernel
theorem dL_nights_466 : decode cL_nights 466 = .ok (.goto 32, 3) := by decide +kernel
theorem dL_nights_469 : decode cL_nights 469 = .ok (.iload 16, 2) := by decide +kernel
theorem dL_nights_471 : decode cL_nights 471 = .ok (.ifCond .lt 31, 3) := by decide +kernel
theorem dL_nights_474 : decode cL_nights 474 = .ok (.iload 16, 2) := by decide +kernel
theorem dL_nights_476 : decode cL_nights 476 = .ok (.iload_n 3, 1) := by decide +kernel
theorem dL_nights_477 : decode cL_nights 477 = .ok (.if_icmp .gt 25, 3) := by decide +kernel
theorem dL_nights_480 : decode cL_nights 480 = .ok (.iload 20, 2) := by decide +kernel
theorem dL_nights_482 : decode cL_nights 482 = .ok (.ifCond .eq 20, 3) := by decide +kernel
theorem dL_nights_485 : decode cL_nights 485 = .ok (.iload 16, 2) := by decide +kernel
theorem dL_nights_487 : decode cL_nights 487 = .ok (.ifCond .gt 11, 3) := by decide +kernel
theorem dL_nights_490 : decode cL_nights 490 = .ok (.lload 17, 2) := by decide +kernel
theorem dL_nights_492 : decode cL_nights 492 = .ok (.lload 6, 2) := by decide +kernel
theorem dL_nights_494 : decode cL_nights 494 = .ok (.lcmp, 1) := by decide +kernel
theorem dL_nights_495 : decode cL_nights 495 = .ok (.ifCond .ne 7, 3) := by decide +kernel
theorem dL_nights_498 : decode cL_nights 498 = .ok (.iconst 1, 1) := by decide +kernel
theorem dL_nights_499 : decode cL_nights 499 = .ok (.goto 4, 3) := by decide +kernel
theorem dL_nights_502 : decode cL_nights 502 = .ok (.iconst 0, 1) := by decide +kernel
theorem dL_nights_503 : decode cL_nights 503 = .ok (.istore 15, 2) := by decide +kernel
theorem dL_nights_505 : decode cL_nights 505 = .ok (.iload 15, 2) := by decide +kernel
theorem dL_nights_507 : decode cL_nights 507 = .ok (.ifCond .eq 47, 3) := by decide +kernel
theorem dL_nights_510 : decode cL_nights 510 = .ok (.aload_n 0, 1) := by decide +kernel
theorem dL_nights_511 : decode cL_nights 511 = .ok (.bipush 13, 2) := by decide +kernel
theorem dL_nights_513 : decode cL_nights 513 = .ok (.iconst 0, 1) := by decide +kernel
theorem dL_nights_514 : decode cL_nights 514 = .ok (.iconst 0, 1) := by decide +kernel
theorem dL_nights_515 : decode cL_nights 515 = .ok (.iconst 0, 1) := by decide +kernel
theorem dL_nights_516 : decode cL_nights 516 = .ok (.invokestatic 168, 3) := by decide +kernel
theorem dL_nights_519 : decode cL_nights 519 = .ok (.invokestatic 214, 3) := by decide +kernel
theorem dL_nights_522 : decode cL_nights 522 = .ok (.ifCond .ne 32, 3) := by decide +kernel
theorem dL_nights_525 : decode cL_nights 525 = .ok (.aload_n 1, 1) := by decide +kernel
theorem dL_nights_526 : decode cL_nights 526 = .ok (.bipush 13, 2) := by decide +kernel
theorem dL_nights_528 : decode cL_nights 528 = .ok (.iconst 0, 1) := by decide +kernel
theorem dL_nights_529 : decode cL_nights 529 = .ok (.iconst 0, 1) := by decide +kernel
theorem dL_nights_530 : decode cL_nights 530 = .ok (.iconst 0, 1) := by decide +kernel
theorem dL_nights_531 : decode cL_nights 531 = .ok (.invokestatic 168, 3) := by decide +kernel
theorem dL_nights_534 : decode cL_nights 534 = .ok (.invokestatic 214, 3) := by decide +kernel
theorem dL_nights_537 : decode cL_nights 537 = .ok (.ifCond .ne 17, 3) := by decide +kernel
theorem dL_nights_540 : decode cL_nights 540 = .ok (.aload_n 0, 1) := by decide +kernel
theorem dL_nights_541 : decode cL_nights 541 = .ok (.invokevirtual 186, 3) := by decide +kernel
theorem dL_nights_544 : decode cL_nights 544 = .ok (.lload 6, 2) := by decide +kernel
theorem dL_nights_546 : decode cL_nights 546 = .ok (.lcmp, 1) := by decide +kernel
theorem dL_nights_547 : decode cL_nights 547 = .ok (.ifCond .ne 7, 3) := by decide +kernel
theorem dL_nights_550 : decode cL_nights 550 = .ok (.iconst 1, 1) := by decide +kernel
theorem dL_nights_551 : decode cL_nights 551 = .ok (.goto 4, 3) := by decide +kernel
theorem dL_nights_554 : decode cL_nights 554 = .ok (.iconst 0, 1) := by decide +kernel
theorem dL_nights_555 : decode cL_nights 555 = .ok (.ireturn, 1) := by decide +kernel
theorem dL_scratches_0 : decode cL_scratches 0 = .ok (.aload_n 0, 1) := by decide +kernel
theorem dL_scratches_1 : decode cL_scratches 1 = .ok (.iconst 2, 1) := by decide +kernel
theorem dL_scratches_2 : decode cL_scratches 2 = .ok (.iconst 0, 1) := by decide +kernel
theorem dL_scratches_3 : decode cL_scratches 3 = .ok (.iconst 0, 1) := by decide +kernel
theorem dL_scratches_4 : decode cL_scratches 4 = .ok (.iconst 0, 1) := by decide +kernel
theorem dL_scratches_5 : decode cL_scratches 5 = .ok (.invokestatic 168, 3) := by decide +kernel
theorem dL_scratches_8 : decode cL_scratches 8 = .ok (.aload_n 0, 1) := by decide +kernel
theorem dL_scratches_9 : decode cL_scratches 9 = .ok (.iconst 2, 1) := by decide +kernel
theorem dL_scratches_10 : decode cL_scratches 10 = .ok (.iconst 1, 1) := by decide +kernel
theorem dL_scratches_11 : decode cL_scratches 11 = .ok (.iconst 0, 1) := by decide +kernel
theorem dL_scratches_12 : decode cL_scratches 12 = .ok (.iconst 0, 1) := by decide +kernel
theorem dL_scratches_13 : decode cL_scratches 13 = .ok (.invokestatic 168, 3) := by decide +kernel
theorem dL_scratches_16 : decode cL_scratches 16 = .ok (.imul, 1) := by decide +kernel
theorem dL_scratches_17 : decode cL_scratches 17 = .ok (.istore_n 3, 1) := by decide +kernel
theorem dL_scratches_18 : decode cL_scratches 18 = .ok (.iload_n 2, 1) := by decide +kernel
theorem dL_scratches_19 : decode cL_scratches 19 = .ok (.iload_n 3, 1) := by decide +kernel
theorem dL_scratches_20 : decode cL_scratches 20 = .ok (.irem, 1) := by decide +kernel
theorem dL_scratches_21 : decode cL_scratches 21 = .ok (.istore 4, 2) := by decide +kernel
theorem dL_scratches_23 : decode cL_scratches 23 = .ok (.iconst 1, 1) := by decide +kernel
theorem dL_scratches_24 : decode cL_scratches 24 = .ok (.iload_n 2, 1) := by decide +kernel
theorem dL_scratches_25 : decode cL_scratches 25 = .ok (.bipush 64, 2) := by decide +kernel
theorem dL_scratches_27 : decode cL_scratches 27 = .ok (.idiv, 1) := by decide +kernel
theorem dL_scratches_28 : decode cL_scratches 28 = .ok (.bipush 6, 2) := by decide +kernel
theorem dL_scratches_30 : decode cL_scratches 30 = .ok (.irem, 1) := by decide +kernel
theorem dL_scratches_31 : decode cL_scratches 31 = .ok (.iadd, 1) := by decide +kernel
theorem dL_scratches_32 : decode cL_scratches 32 = .ok (.istore 5, 2) := by decide +kernel
theorem dL_scratches_34 : decode cL_scratches 34 = .ok (.aload_n 0, 1) := by decide +kernel
theorem dL_scratches_35 : decode cL_scratches 35 = .ok (.bipush 17, 2) := by decide +kernel
theorem dL_scratches_37 : decode cL_scratches 37 = .ok (.iload 4, 2) := by decide +kernel
theorem dL_scratches_39 : decode cL_scratches 39 = .ok (.iload 5, 2) := by decide +kernel
theorem dL_scratches_41 : decode cL_scratches 41 = .ok (.iconst 0, 1) := by decide +kernel
theorem dL_scratches_42 : decode cL_scratches 42 = .ok (.invokestatic 168, 3) := by decide +kernel
theorem dL_scratches_45 : decode cL_scratches 45 = .ok (.istore 6, 2) := by decide +kernel
theorem dL_scratches_47 : decode cL_scratches 47 = .ok (.iload_n 2, 1) := by decide +kernel
theorem dL_scratches_48 : decode cL_scratches 48 = .ok (.sipush 400, 3) := by decide +kernel
theorem dL_scratches_51 : decode cL_scratches 51 = .ok (.idiv, 1) := by decide +kernel
theorem dL_scratches_52 : decode cL_scratches 52 = .ok (.iconst 4, 1) := by decide +kernel
theorem dL_scratches_53 : decode cL_scratches 53 = .ok (.iload_n 3, 1) := by decide +kernel
theorem dL_scratches_54 : decode cL_scratches 54 = .ok (.imul, 1) := by decide +kernel
theorem dL_scratches_55 : decode cL_scratches 55 = .ok (.irem, 1) := by decide +kernel
theorem dL_scratches_56 : decode cL_scratches 56 = .ok (.istore 7, 2) := by decide +kernel
theorem dL_scratches_58 : decode cL_scratches 58 = .ok (.iload 6, 2) := by decide +kernel
theorem dL_scratches_60 : decode cL_scratches 60 = .ok (.iconst (-1), 1) := by decide +kernel
theorem dL_scratches_61 : decode cL_scratches 61 = .ok (.if_icmp .ne 8, 3) := by decide +kernel
theorem dL_scratches_64 : decode cL_scratches 64 = .ok (.iload 7, 2) := by decide +kernel
theorem dL_scratches_66 : decode cL_scratches 66 = .ok (.goto 5, 3) := by decide +kernel
theorem dL_scratches_69 : decode cL_scratches 69 = .ok (.iload 6, 2) := by decide +kernel
theorem dL_scratches_71 : decode cL_scratches 71 = .ok (.istore 8, 2) := by decide +kernel
theorem dL_scratches_73 : decode cL_scratches 73 = .ok (.iload 6, 2) := by decide +kernel
theorem dL_scratches_75 : decode cL_scratches 75 = .ok (.iconst (-1), 1) := by decide +kernel
theorem dL_scratches_76 : decode cL_scratches 76 = .ok (.if_icmp .eq 10, 3) := by decide +kernel
theorem dL_scratches_79 : decode cL_scratches 79 = .ok (.iload 7, 2) := by decide +kernel
theorem dL_scratches_81 : decode cL_scratches 81 = .ok (.iload 6, 2) := by decide +kernel
theorem dL_scratches_83 : decode cL_scratches 83 = .ok (.if_icmp .ge 7, 3) := by decide +kernel
theorem dL_scratches_86 : decode cL_scratches 86 = .ok (.iconst 1, 1) := by decide +kernel
theorem dL_scratches_87 : decode cL_scratches 87 = .ok (.goto 4, 3) := by decide +kernel
theorem dL_scratches_90 : decode cL_scratches 90 = .ok (.iconst 0, 1) := by decide +kernel
theorem dL_scratches_91 : decode cL_scratches 91 = .ok (.istore 9, 2) := by decide +kernel
theorem dL_scratches_93 : decode cL_scratches 93 = .ok (.iload 6, 2) := by decide +kernel
theorem dL_scratches_95 : decode cL_scratches 95 = .ok (.iconst (-1), 1) := by decide +kernel
theorem dL_scratches_96 : decode cL_scratches 96 = .ok (.if_icmp .eq 17, 3) := by decide +kernel
theorem dL_scratches_99 : decode cL_scratches 99 = .ok (.aload_n 0, 1) := by decide +kernel
theorem dL_scratches_100 : decode cL_scratches 100 = .ok (.aload_n 1, 1) := by decide +kernel
theorem dL_scratches_101 : decode cL_scratches 101 = .ok (.iload 4, 2) := by decide +kernel
theorem dL_scratches_103 : decode cL_scratches 103 = .ok (.iload 5, 2) := by decide +kernel
theorem dL_scratches_105 : decode cL_scratches 105 = .ok (.iload 8, 2) := by decide +kernel
theorem dL_scratches_107 : decode cL_scratches 107 = .ok (.invokestatic 224, 3) := by decide +kernel
theorem dL_scratches_110 : decode cL_scratches 110 = .ok (.ifCond .eq 7, 3) := by decide +kernel
theorem dL_scratches_113 : decode cL_scratches 113 = .ok (.iconst 1, 1) := by decide +kernel
theorem dL_scratches_114 : decode cL_scratches 114 = .ok (.goto 4, 3) := by decide +kernel
theorem dL_scratches_117 : decode cL_scratches 117 = .ok (.iconst 0, 1) := by decide +kernel
theorem dL_scratches_118 : decode cL_scratches 118 = .ok (.istore 10, 2) := by decide +kernel
theorem dL_scratches_120 : decode cL_scratches 120 = .ok (.iload 10, 2) := by decide +kernel
theorem dL_scratches_122 : decode cL_scratches 122 = .ok (.ifCond .eq 26, 3) := by decide +kernel
theorem dL_scratches_125 : decode cL_scratches 125 = .ok (.iload 9, 2) := by decide +kernel
theorem dL_scratches_127 : decode cL_scratches 127 = .ok (.ifCond .eq 17, 3) := by decide +kernel
theorem dL_scratches_130 : decode cL_scratches 130 = .ok (.aload_n 0, 1) := by decide +kernel
theorem dL_scratches_131 : decode cL_scratches 131 = .ok (.aload_n 1, 1) := by decide +kernel
theorem dL_scratches_132 : decode cL_scratches 132 = .ok (.iload 4, 2) := by decide +kernel
theorem dL_scratches_134 : decode cL_scratches 134 = .ok (.iload 5, 2) := by decide +kernel
theorem dL_scratches_136 : decode cL_scratches 136 = .ok (.iload 7, 2) := by decide +kernel
theorem dL_scratches_138 : decode cL_scratches 138 = .ok (.invokestatic 224, 3) := by decide +kernel
theorem dL_scratches_141 : decode cL_scratches 141 = .ok (.ifCond .ne 7, 3) := by decide +kernel
theorem dL_scratches_144 : decode cL_scratches 144 = .ok (.iconst 1, 1) := by decide +kernel
theorem dL_scratches_145 : decode cL_scratches 145 = .ok (.goto 4, 3) := by decide +kernel
theorem dL_scratches_148 : decode cL_scratches 148 = .ok (.iconst 0, 1) := by decide +kernel
theorem dL_scratches_149 : decode cL_scratches 149 = .ok (.ireturn, 1) := by decide +kernel
theorem dL_clear_0 : decode cL_clear 0 = .ok (.aload_n 0, 1) := by decide +kernel
theorem dL_clear_1 : decode cL_clear 1 = .ok (.iconst 4, 1) := by decide +kernel
theorem dL_clear_2 : decode cL_clear 2 = .ok (.iload 4, 2) := by decide +kernel
theorem dL_clear_4 : decode cL_clear 4 = .ok (.iconst 4, 1) := by decide +kernel
theorem dL_clear_5 : decode cL_clear 5 = .ok (.idiv, 1) := by decide +kernel
theorem dL_clear_6 : decode cL_clear 6 = .ok (.iload 4, 2) := by decide +kernel
theorem dL_clear_8 : decode cL_clear 8 = .ok (.iconst 4, 1) := by decide +kernel
theorem dL_clear_9 : decode cL_clear 9 = .ok (.irem, 1) := by decide +kernel
theorem dL_clear_10 : decode cL_clear 10 = .ok (.iconst 0, 1) := by decide +kernel
theorem dL_clear_11 : decode cL_clear 11 = .ok (.invokestatic 168, 3) := by decide +kernel
theorem dL_clear_14 : decode cL_clear 14 = .ok (.iconst (-1), 1) := by decide +kernel
theorem dL_clear_15 : decode cL_clear 15 = .ok (.if_icmp .eq 25, 3) := by decide +kernel
theorem dL_clear_18 : decode cL_clear 18 = .ok (.aload_n 0, 1) := by decide +kernel
theorem dL_clear_19 : decode cL_clear 19 = .ok (.iconst 3, 1) := by decide +kernel
theorem dL_clear_20 : decode cL_clear 20 = .ok (.iload 4, 2) := by decide +kernel
theorem dL_clear_22 : decode cL_clear 22 = .ok (.iconst 4, 1) := by decide +kernel
theorem dL_clear_23 : decode cL_clear 23 = .ok (.idiv, 1) := by decide +kernel
theorem dL_clear_24 : decode cL_clear 24 = .ok (.iconst 3, 1) := by decide +kernel
theorem dL_clear_25 : decode cL_clear 25 = .ok (.iconst 0, 1) := by decide +kernel
theorem dL_clear_26 : decode cL_clear 26 = .ok (.invokestatic 168, 3) := by decide +kernel
theorem dL_clear_29 : decode cL_clear 29 = .ok (.iload 4, 2) := by decide +kernel
theorem dL_clear_31 : decode cL_clear 31 = .ok (.iconst 4, 1) := by decide +kernel
theorem dL_clear_32 : decode cL_clear 32 = .ok (.irem, 1) := by decide +kernel
theorem dL_clear_33 : decode cL_clear 33 = .ok (.ishr, 1) := by decide +kernel
theorem dL_clear_34 : decode cL_clear 34 = .ok (.iconst 1, 1) := by decide +kernel
theorem dL_clear_35 : decode cL_clear 35 = .ok (.iand, 1) := by decide +kernel
theorem dL_clear_36 : decode cL_clear 36 = .ok (.iconst 1, 1) := by decide +kernel
theorem dL_clear_37 : decode cL_clear 37 = .ok (.if_icmp .ne 5, 3) := by decide +kernel
theorem dL_clear_40 : decode cL_clear 40 = .ok (.iconst 0, 1) := by decide +kernel
theorem dL_clear_41 : decode cL_clear 41 = .ok (.ireturn, 1) := by decide +kernel
theorem dL_clear_42 : decode cL_clear 42 = .ok (.aload_n 0, 1) := by decide +kernel
theorem dL_clear_43 : decode cL_clear 43 = .ok (.bipush 8, 2) := by decide +kernel
theorem dL_clear_45 : decode cL_clear 45 = .ok (.iload 4, 2) := by decide +kernel
theorem dL_clear_47 : decode cL_clear 47 = .ok (.iconst 4, 1) := by decide +kernel
theorem dL_clear_48 : decode cL_clear 48 = .ok (.idiv, 1) := by decide +kernel
theorem dL_clear_49 : decode cL_clear 49 = .ok (.iload 4, 2) := by decide +kernel
theorem dL_clear_51 : decode cL_clear 51 = .ok (.iconst 4, 1) := by decide +kernel
theorem dL_clear_52 : decode cL_clear 52 = .ok (.irem, 1) := by decide +kernel
theorem dL_clear_53 : decode cL_clear 53 = .ok (.iconst 0, 1) := by decide +kernel
theorem dL_clear_54 : decode cL_clear 54 = .ok (.invokestatic 168, 3) := by decide +kernel
theorem dL_clear_57 : decode cL_clear 57 = .ok (.iconst 1, 1) := by decide +kernel
theorem dL_clear_58 : decode cL_clear 58 = .ok (.if_icmp .ne 26, 3) := by decide +kernel
theorem dL_clear_61 : decode cL_clear 61 = .ok (.aload_n 1, 1) := by decide +kernel
theorem dL_clear_62 : decode cL_clear 62 = .ok (.bipush 8, 2) := by decide +kernel
theorem dL_clear_64 : decode cL_clear 64 = .ok (.iload 4, 2) := by decide +kernel
theorem dL_clear_66 : decode cL_clear 66 = .ok (.iconst 4, 1) := by decide +kernel
theorem dL_clear_67 : decode cL_clear 67 = .ok (.idiv, 1) := by decide +kernel
theorem dL_clear_68 : decode cL_clear 68 = .ok (.iload 4, 2) := by decide +kernel
theorem dL_clear_70 : decode cL_clear 70 = .ok (.iconst 4, 1) := by decide +kernel
theorem dL_clear_71 : decode cL_clear 71 = .ok (.irem, 1) := by decide +kernel
theorem dL_clear_72 : decode cL_clear 72 = .ok (.iconst 0, 1) := by decide +kernel
theorem dL_clear_73 : decode cL_clear 73 = .ok (.invokestatic 168, 3) := by decide +kernel
theorem dL_clear_76 : decode cL_clear 76 = .ok (.iconst 1, 1) := by decide +kernel
theorem dL_clear_77 : decode cL_clear 77 = .ok (.if_icmp .ne 7, 3) := by decide +kernel
theorem dL_clear_80 : decode cL_clear 80 = .ok (.iconst 1, 1) := by decide +kernel
theorem dL_clear_81 : decode cL_clear 81 = .ok (.goto 4, 3) := by decide +kernel
theorem dL_clear_84 : decode cL_clear 84 = .ok (.iconst 0, 1) := by decide +kernel
theorem dL_clear_85 : decode cL_clear 85 = .ok (.istore 5, 2) := by decide +kernel
theorem dL_clear_87 : decode cL_clear 87 = .ok (.iconst 1, 1) := by decide +kernel
theorem dL_clear_88 : decode cL_clear 88 = .ok (.istore 6, 2) := by decide +kernel
theorem dL_clear_90 : decode cL_clear 90 = .ok (.iload 6, 2) := by decide +kernel
theorem dL_clear_92 : decode cL_clear 92 = .ok (.iload_n 3, 1) := by decide +kernel
theorem dL_clear_93 : decode cL_clear 93 = .ok (.if_icmp .gt 36, 3) := by decide +kernel
theorem dL_clear_96 : decode cL_clear 96 = .ok (.iload 5, 2) := by decide +kernel
theorem dL_clear_98 : decode cL_clear 98 = .ok (.ifCond .eq 31, 3) := by decide +kernel
theorem dL_clear_101 : decode cL_clear 101 = .ok (.aload_n 0, 1) := by decide +kernel
theorem dL_clear_102 : decode cL_clear 102 = .ok (.iload 6, 2) := by decide +kernel
theorem dL_clear_104 : decode cL_clear 104 = .ok (.invokestatic 172, 3) := by decide +kernel
theorem dL_clear_107 : decode cL_clear 107 = .ok (.iload_n 2, 1) := by decide +kernel
theorem dL_clear_108 : decode cL_clear 108 = .ok (.lshr, 1) := by decide +kernel
theorem dL_clear_109 : decode cL_clear 109 = .ok (.lconst 1, 1) := by decide +kernel
theorem dL_clear_110 : decode cL_clear 110 = .ok (.land, 1) := by decide +kernel
theorem dL_clear_111 : decode cL_clear 111 = .ok (.lconst 0, 1) := by decide +kernel
theorem dL_clear_112 : decode cL_clear 112 = .ok (.lcmp, 1) := by decide +kernel
theorem dL_clear_113 : decode cL_clear 113 = .ok (.ifCond .ne 7, 3) := by decide +kernel
theorem dL_clear_116 : decode cL_clear 116 = .ok (.iconst 1, 1) := by decide +kernel
theorem dL_clear_117 : decode cL_clear 117 = .ok (.goto 4, 3) := by decide +kernel
theorem dL_clear_120 : decode cL_clear 120 = .ok (.iconst 0, 1) := by decide +kernel
theorem dL_clear_121 : decode cL_clear 121 = .ok (.istore 5, 2) := by decide +kernel
theorem dL_clear_123 : decode cL_clear 123 = .ok (.iinc 6 1, 3) := by decide +kernel
theorem dL_clear_126 : decode cL_clear 126 = .ok (.goto (-36), 3) := by decide +kernel
theorem dL_clear_129 : decode cL_clear 129 = .ok (.aload_n 0, 1) := by decide +kernel
theorem dL_clear_130 : decode cL_clear 130 = .ok (.bipush 13, 2) := by decide +kernel
theorem dL_clear_132 : decode cL_clear 132 = .ok (.iconst 0, 1) := by decide +kernel
theorem dL_clear_133 : decode cL_clear 133 = .ok (.iconst 0, 1) := by decide +kernel
theorem dL_clear_134 : decode cL_clear 134 = .ok (.iconst 0, 1) := by decide +kernel
theorem dL_clear_135 : decode cL_clear 135 = .ok (.invokestatic 168, 3) := by decide +kernel
theorem dL_clear_138 : decode cL_clear 138 = .ok (.invokestatic 214, 3) := by decide +kernel
theorem dL_clear_141 : decode cL_clear 141 = .ok (.ifCond .ne 27, 3) := by decide +kernel
theorem dL_clear_144 : decode cL_clear 144 = .ok (.aload_n 1, 1) := by decide +kernel
theorem dL_clear_145 : decode cL_clear 145 = .ok (.bipush 13, 2) := by decide +kernel
theorem dL_clear_147 : decode cL_clear 147 = .ok (.iconst 0, 1) := by decide +kernel
theorem dL_clear_148 : decode cL_clear 148 = .ok (.iconst 0, 1) := by decide +kernel
theorem dL_clear_149 : decode cL_clear 149 = .ok (.iconst 0, 1) := by decide +kernel
theorem dL_clear_150 : decode cL_clear 150 = .ok (.invokestatic 168, 3) := by decide +kernel
theorem dL_clear_153 : decode cL_clear 153 = .ok (.invokestatic 214, 3) := by decide +kernel
theorem dL_clear_156 : decode cL_clear 156 = .ok (.ifCond .ne 12, 3) := by decide +kernel
theorem dL_clear_159 : decode cL_clear 159 = .ok (.iload 5, 2) := by decide +kernel
theorem dL_clear_161 : decode cL_clear 161 = .ok (.ifCond .eq 7, 3) := by decide +kernel
theorem dL_clear_164 : decode cL_clear 164 = .ok (.iconst 1, 1) := by decide +kernel
theorem dL_clear_165 : decode cL_clear 165 = .ok (.goto 4, 3) := by decide +kernel
theorem dL_clear_168 : decode cL_clear 168 = .ok (.iconst 0, 1) := by decide +kernel
theorem dL_clear_169 : decode cL_clear 169 = .ok (.ireturn, 1) := by decide +kernel
