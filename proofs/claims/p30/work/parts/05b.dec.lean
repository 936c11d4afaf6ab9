theorem dL_refuses_0 : decode cL_refuses 0 = .ok (.aload_n 0, 1) := by decide +kernel
theorem dL_refuses_1 : decode cL_refuses 1 = .ok (.iconst 2, 1) := by decide +kernel
theorem dL_refuses_2 : decode cL_refuses 2 = .ok (.iconst 0, 1) := by decide +kernel
theorem dL_refuses_3 : decode cL_refuses 3 = .ok (.iconst 0, 1) := by decide +kernel
theorem dL_refuses_4 : decode cL_refuses 4 = .ok (.iconst 0, 1) := by decide +kernel
theorem dL_refuses_5 : decode cL_refuses 5 = .ok (.invokestatic 168, 3) := by decide +kernel
theorem dL_refuses_8 : decode cL_refuses 8 = .ok (.aload_n 0, 1) := by decide +kernel
theorem dL_refuses_9 : decode cL_refuses 9 = .ok (.iconst 2, 1) := by decide +kernel
theorem dL_refuses_10 : decode cL_refuses 10 = .ok (.iconst 1, 1) := by decide +kernel
theorem dL_refuses_11 : decode cL_refuses 11 = .ok (.iconst 0, 1) := by decide +kernel
theorem dL_refuses_12 : decode cL_refuses 12 = .ok (.iconst 0, 1) := by decide +kernel
theorem dL_refuses_13 : decode cL_refuses 13 = .ok (.invokestatic 168, 3) := by decide +kernel
theorem dL_refuses_16 : decode cL_refuses 16 = .ok (.imul, 1) := by decide +kernel
theorem dL_refuses_17 : decode cL_refuses 17 = .ok (.istore_n 2, 1) := by decide +kernel
theorem dL_refuses_18 : decode cL_refuses 18 = .ok (.iload_n 1, 1) := by decide +kernel
theorem dL_refuses_19 : decode cL_refuses 19 = .ok (.iconst 2, 1) := by decide +kernel
theorem dL_refuses_20 : decode cL_refuses 20 = .ok (.irem, 1) := by decide +kernel
theorem dL_refuses_21 : decode cL_refuses 21 = .ok (.ifCond .ne 12, 3) := by decide +kernel
theorem dL_refuses_24 : decode cL_refuses 24 = .ok (.iconst (-1), 1) := by decide +kernel
theorem dL_refuses_25 : decode cL_refuses 25 = .ok (.iload_n 1, 1) := by decide +kernel
theorem dL_refuses_26 : decode cL_refuses 26 = .ok (.bipush 99, 2) := by decide +kernel
theorem dL_refuses_28 : decode cL_refuses 28 = .ok (.irem, 1) := by decide +kernel
theorem dL_refuses_29 : decode cL_refuses 29 = .ok (.isub, 1) := by decide +kernel
theorem dL_refuses_30 : decode cL_refuses 30 = .ok (.goto 9, 3) := by decide +kernel
theorem dL_refuses_33 : decode cL_refuses 33 = .ok (.iload_n 2, 1) := by decide +kernel
theorem dL_refuses_34 : decode cL_refuses 34 = .ok (.iload_n 1, 1) := by decide +kernel
theorem dL_refuses_35 : decode cL_refuses 35 = .ok (.bipush 99, 2) := by decide +kernel
theorem dL_refuses_37 : decode cL_refuses 37 = .ok (.irem, 1) := by decide +kernel
theorem dL_refuses_38 : decode cL_refuses 38 = .ok (.iadd, 1) := by decide +kernel
theorem dL_refuses_39 : decode cL_refuses 39 = .ok (.istore_n 3, 1) := by decide +kernel
theorem dL_refuses_40 : decode cL_refuses 40 = .ok (.iload_n 1, 1) := by decide +kernel
theorem dL_refuses_41 : decode cL_refuses 41 = .ok (.iconst 2, 1) := by decide +kernel
theorem dL_refuses_42 : decode cL_refuses 42 = .ok (.irem, 1) := by decide +kernel
theorem dL_refuses_43 : decode cL_refuses 43 = .ok (.ifCond .ne 12, 3) := by decide +kernel
theorem dL_refuses_46 : decode cL_refuses 46 = .ok (.iconst (-1), 1) := by decide +kernel
theorem dL_refuses_47 : decode cL_refuses 47 = .ok (.iload_n 1, 1) := by decide +kernel
theorem dL_refuses_48 : decode cL_refuses 48 = .ok (.bipush 99, 2) := by decide +kernel
theorem dL_refuses_50 : decode cL_refuses 50 = .ok (.irem, 1) := by decide +kernel
theorem dL_refuses_51 : decode cL_refuses 51 = .ok (.isub, 1) := by decide +kernel
theorem dL_refuses_52 : decode cL_refuses 52 = .ok (.goto 9, 3) := by decide +kernel
theorem dL_refuses_55 : decode cL_refuses 55 = .ok (.iconst 4, 1) := by decide +kernel
theorem dL_refuses_56 : decode cL_refuses 56 = .ok (.iload_n 1, 1) := by decide +kernel
theorem dL_refuses_57 : decode cL_refuses 57 = .ok (.bipush 99, 2) := by decide +kernel
theorem dL_refuses_59 : decode cL_refuses 59 = .ok (.irem, 1) := by decide +kernel
theorem dL_refuses_60 : decode cL_refuses 60 = .ok (.iadd, 1) := by decide +kernel
theorem dL_refuses_61 : decode cL_refuses 61 = .ok (.istore 4, 2) := by decide +kernel
theorem dL_refuses_63 : decode cL_refuses 63 = .ok (.iload_n 1, 1) := by decide +kernel
theorem dL_refuses_64 : decode cL_refuses 64 = .ok (.iconst 2, 1) := by decide +kernel
theorem dL_refuses_65 : decode cL_refuses 65 = .ok (.irem, 1) := by decide +kernel
theorem dL_refuses_66 : decode cL_refuses 66 = .ok (.ifCond .ne 12, 3) := by decide +kernel
theorem dL_refuses_69 : decode cL_refuses 69 = .ok (.iconst 1, 1) := by decide +kernel
theorem dL_refuses_70 : decode cL_refuses 70 = .ok (.iload_n 1, 1) := by decide +kernel
theorem dL_refuses_71 : decode cL_refuses 71 = .ok (.bipush 99, 2) := by decide +kernel
theorem dL_refuses_73 : decode cL_refuses 73 = .ok (.irem, 1) := by decide +kernel
theorem dL_refuses_74 : decode cL_refuses 74 = .ok (.isub, 1) := by decide +kernel
theorem dL_refuses_75 : decode cL_refuses 75 = .ok (.goto 10, 3) := by decide +kernel
theorem dL_refuses_78 : decode cL_refuses 78 = .ok (.bipush 9, 2) := by decide +kernel
theorem dL_refuses_80 : decode cL_refuses 80 = .ok (.iload_n 1, 1) := by decide +kernel
theorem dL_refuses_81 : decode cL_refuses 81 = .ok (.bipush 99, 2) := by decide +kernel
theorem dL_refuses_83 : decode cL_refuses 83 = .ok (.irem, 1) := by decide +kernel
theorem dL_refuses_84 : decode cL_refuses 84 = .ok (.iadd, 1) := by decide +kernel
theorem dL_refuses_85 : decode cL_refuses 85 = .ok (.istore 5, 2) := by decide +kernel
theorem dL_refuses_87 : decode cL_refuses 87 = .ok (.aload_n 0, 1) := by decide +kernel
theorem dL_refuses_88 : decode cL_refuses 88 = .ok (.iconst 0, 1) := by decide +kernel
theorem dL_refuses_89 : decode cL_refuses 89 = .ok (.iload_n 1, 1) := by decide +kernel
theorem dL_refuses_90 : decode cL_refuses 90 = .ok (.iconst 2, 1) := by decide +kernel
theorem dL_refuses_91 : decode cL_refuses 91 = .ok (.irem, 1) := by decide +kernel
theorem dL_refuses_92 : decode cL_refuses 92 = .ok (.ifCond .ne 12, 3) := by decide +kernel
theorem dL_refuses_95 : decode cL_refuses 95 = .ok (.iconst (-1), 1) := by decide +kernel
theorem dL_refuses_96 : decode cL_refuses 96 = .ok (.iload_n 1, 1) := by decide +kernel
theorem dL_refuses_97 : decode cL_refuses 97 = .ok (.bipush 9, 2) := by decide +kernel
theorem dL_refuses_99 : decode cL_refuses 99 = .ok (.irem, 1) := by decide +kernel
theorem dL_refuses_100 : decode cL_refuses 100 = .ok (.isub, 1) := by decide +kernel
theorem dL_refuses_101 : decode cL_refuses 101 = .ok (.goto 11, 3) := by decide +kernel
theorem dL_refuses_104 : decode cL_refuses 104 = .ok (.sipush 256, 3) := by decide +kernel
theorem dL_refuses_107 : decode cL_refuses 107 = .ok (.iload_n 1, 1) := by decide +kernel
theorem dL_refuses_108 : decode cL_refuses 108 = .ok (.bipush 9, 2) := by decide +kernel
theorem dL_refuses_110 : decode cL_refuses 110 = .ok (.irem, 1) := by decide +kernel
theorem dL_refuses_111 : decode cL_refuses 111 = .ok (.iadd, 1) := by decide +kernel
theorem dL_refuses_112 : decode cL_refuses 112 = .ok (.iconst 0, 1) := by decide +kernel
theorem dL_refuses_113 : decode cL_refuses 113 = .ok (.iconst 0, 1) := by decide +kernel
theorem dL_refuses_114 : decode cL_refuses 114 = .ok (.invokestatic 168, 3) := by decide +kernel
theorem dL_refuses_117 : decode cL_refuses 117 = .ok (.ldc 29, 2) := by decide +kernel
theorem dL_refuses_119 : decode cL_refuses 119 = .ok (.if_icmp .ne 494, 3) := by decide +kernel
theorem dL_refuses_122 : decode cL_refuses 122 = .ok (.aload_n 0, 1) := by decide +kernel
theorem dL_refuses_123 : decode cL_refuses 123 = .ok (.iconst 2, 1) := by decide +kernel
theorem dL_refuses_124 : decode cL_refuses 124 = .ok (.bipush 8, 2) := by decide +kernel
theorem dL_refuses_126 : decode cL_refuses 126 = .ok (.iload_n 1, 1) := by decide +kernel
theorem dL_refuses_127 : decode cL_refuses 127 = .ok (.bipush 50, 2) := by decide +kernel
theorem dL_refuses_129 : decode cL_refuses 129 = .ok (.irem, 1) := by decide +kernel
theorem dL_refuses_130 : decode cL_refuses 130 = .ok (.iadd, 1) := by decide +kernel
theorem dL_refuses_131 : decode cL_refuses 131 = .ok (.iconst 0, 1) := by decide +kernel
theorem dL_refuses_132 : decode cL_refuses 132 = .ok (.iconst 0, 1) := by decide +kernel
theorem dL_refuses_133 : decode cL_refuses 133 = .ok (.invokestatic 168, 3) := by decide +kernel
theorem dL_refuses_136 : decode cL_refuses 136 = .ok (.ldc 29, 2) := by decide +kernel
theorem dL_refuses_138 : decode cL_refuses 138 = .ok (.if_icmp .ne 475, 3) := by decide +kernel
theorem dL_refuses_141 : decode cL_refuses 141 = .ok (.aload_n 0, 1) := by decide +kernel
theorem dL_refuses_142 : decode cL_refuses 142 = .ok (.iconst 3, 1) := by decide +kernel
theorem dL_refuses_143 : decode cL_refuses 143 = .ok (.iload_n 3, 1) := by decide +kernel
theorem dL_refuses_144 : decode cL_refuses 144 = .ok (.bipush 9, 2) := by decide +kernel
theorem dL_refuses_146 : decode cL_refuses 146 = .ok (.iconst 0, 1) := by decide +kernel
theorem dL_refuses_147 : decode cL_refuses 147 = .ok (.invokestatic 168, 3) := by decide +kernel
theorem dL_refuses_150 : decode cL_refuses 150 = .ok (.ldc 52, 2) := by decide +kernel
theorem dL_refuses_152 : decode cL_refuses 152 = .ok (.if_icmp .ne 461, 3) := by decide +kernel
theorem dL_refuses_155 : decode cL_refuses 155 = .ok (.aload_n 0, 1) := by decide +kernel
theorem dL_refuses_156 : decode cL_refuses 156 = .ok (.iconst 3, 1) := by decide +kernel
theorem dL_refuses_157 : decode cL_refuses 157 = .ok (.iload_n 1, 1) := by decide +kernel
theorem dL_refuses_158 : decode cL_refuses 158 = .ok (.iload_n 2, 1) := by decide +kernel
theorem dL_refuses_159 : decode cL_refuses 159 = .ok (.irem, 1) := by decide +kernel
theorem dL_refuses_160 : decode cL_refuses 160 = .ok (.iconst 4, 1) := by decide +kernel
theorem dL_refuses_161 : decode cL_refuses 161 = .ok (.iload_n 1, 1) := by decide +kernel
theorem dL_refuses_162 : decode cL_refuses 162 = .ok (.bipush 9, 2) := by decide +kernel
theorem dL_refuses_164 : decode cL_refuses 164 = .ok (.irem, 1) := by decide +kernel
theorem dL_refuses_165 : decode cL_refuses 165 = .ok (.iadd, 1) := by decide +kernel
theorem dL_refuses_166 : decode cL_refuses 166 = .ok (.iconst 0, 1) := by decide +kernel
theorem dL_refuses_167 : decode cL_refuses 167 = .ok (.invokestatic 168, 3) := by decide +kernel
theorem dL_refuses_170 : decode cL_refuses 170 = .ok (.ldc 29, 2) := by decide +kernel
theorem dL_refuses_172 : decode cL_refuses 172 = .ok (.if_icmp .ne 441, 3) := by decide +kernel
theorem dL_refuses_175 : decode cL_refuses 175 = .ok (.aload_n 0, 1) := by decide +kernel
theorem dL_refuses_176 : decode cL_refuses 176 = .ok (.iconst 4, 1) := by decide +kernel
theorem dL_refuses_177 : decode cL_refuses 177 = .ok (.iload_n 3, 1) := by decide +kernel
theorem dL_refuses_178 : decode cL_refuses 178 = .ok (.bipush 9, 2) := by decide +kernel
theorem dL_refuses_180 : decode cL_refuses 180 = .ok (.iconst 0, 1) := by decide +kernel
theorem dL_refuses_181 : decode cL_refuses 181 = .ok (.invokestatic 168, 3) := by decide +kernel
theorem dL_refuses_184 : decode cL_refuses 184 = .ok (.ldc 52, 2) := by decide +kernel
theorem dL_refuses_186 : decode cL_refuses 186 = .ok (.if_icmp .ne 427, 3) := by decide +kernel
theorem dL_refuses_189 : decode cL_refuses 189 = .ok (.aload_n 0, 1) := by decide +kernel
theorem dL_refuses_190 : decode cL_refuses 190 = .ok (.iconst 4, 1) := by decide +kernel
theorem dL_refuses_191 : decode cL_refuses 191 = .ok (.iload_n 1, 1) := by decide +kernel
theorem dL_refuses_192 : decode cL_refuses 192 = .ok (.iload_n 2, 1) := by decide +kernel
theorem dL_refuses_193 : decode cL_refuses 193 = .ok (.irem, 1) := by decide +kernel
theorem dL_refuses_194 : decode cL_refuses 194 = .ok (.iload 4, 2) := by decide +kernel
theorem dL_refuses_196 : decode cL_refuses 196 = .ok (.iconst 0, 1) := by decide +kernel
theorem dL_refuses_197 : decode cL_refuses 197 = .ok (.invokestatic 168, 3) := by decide +kernel
theorem dL_refuses_200 : decode cL_refuses 200 = .ok (.ldc 29, 2) := by decide +kernel
theorem dL_refuses_202 : decode cL_refuses 202 = .ok (.if_icmp .ne 411, 3) := by decide +kernel
theorem dL_refuses_205 : decode cL_refuses 205 = .ok (.aload_n 0, 1) := by decide +kernel
theorem dL_refuses_206 : decode cL_refuses 206 = .ok (.iconst 5, 1) := by decide +kernel
theorem dL_refuses_207 : decode cL_refuses 207 = .ok (.iload 4, 2) := by decide +kernel
theorem dL_refuses_209 : decode cL_refuses 209 = .ok (.iconst 0, 1) := by decide +kernel
theorem dL_refuses_210 : decode cL_refuses 210 = .ok (.iconst 0, 1) := by decide +kernel
theorem dL_refuses_211 : decode cL_refuses 211 = .ok (.invokestatic 168, 3) := by decide +kernel
theorem dL_refuses_214 : decode cL_refuses 214 = .ok (.ldc 29, 2) := by decide +kernel
theorem dL_refuses_216 : decode cL_refuses 216 = .ok (.if_icmp .ne 397, 3) := by decide +kernel
theorem dL_refuses_219 : decode cL_refuses 219 = .ok (.aload_n 0, 1) := by decide +kernel
theorem dL_refuses_220 : decode cL_refuses 220 = .ok (.bipush 6, 2) := by decide +kernel
theorem dL_refuses_222 : decode cL_refuses 222 = .ok (.iload 5, 2) := by decide +kernel
theorem dL_refuses_224 : decode cL_refuses 224 = .ok (.iconst 4, 1) := by decide +kernel
theorem dL_refuses_225 : decode cL_refuses 225 = .ok (.iconst 0, 1) := by decide +kernel
theorem dL_refuses_226 : decode cL_refuses 226 = .ok (.invokestatic 168, 3) := by decide +kernel
theorem dL_refuses_229 : decode cL_refuses 229 = .ok (.ldc 29, 2) := by decide +kernel
theorem dL_refuses_231 : decode cL_refuses 231 = .ok (.if_icmp .ne 382, 3) := by decide +kernel
theorem dL_refuses_234 : decode cL_refuses 234 = .ok (.aload_n 0, 1) := by decide +kernel
theorem dL_refuses_235 : decode cL_refuses 235 = .ok (.bipush 6, 2) := by decide +kernel
theorem dL_refuses_237 : decode cL_refuses 237 = .ok (.iconst 4, 1) := by decide +kernel
theorem dL_refuses_238 : decode cL_refuses 238 = .ok (.iload 5, 2) := by decide +kernel
theorem dL_refuses_240 : decode cL_refuses 240 = .ok (.iconst 0, 1) := by decide +kernel
theorem dL_refuses_241 : decode cL_refuses 241 = .ok (.invokestatic 168, 3) := by decide +kernel
theorem dL_refuses_244 : decode cL_refuses 244 = .ok (.ldc 29, 2) := by decide +kernel
theorem dL_refuses_246 : decode cL_refuses 246 = .ok (.if_icmp .ne 367, 3) := by decide +kernel
theorem dL_refuses_249 : decode cL_refuses 249 = .ok (.aload_n 0, 1) := by decide +kernel
theorem dL_refuses_250 : decode cL_refuses 250 = .ok (.bipush 7, 2) := by decide +kernel
theorem dL_refuses_252 : decode cL_refuses 252 = .ok (.iload_n 3, 1) := by decide +kernel
theorem dL_refuses_253 : decode cL_refuses 253 = .ok (.iconst 0, 1) := by decide +kernel
theorem dL_refuses_254 : decode cL_refuses 254 = .ok (.iconst 0, 1) := by decide +kernel
theorem dL_refuses_255 : decode cL_refuses 255 = .ok (.invokestatic 168, 3) := by decide +kernel
theorem dL_refuses_258 : decode cL_refuses 258 = .ok (.ldc 52, 2) := by decide +kernel
theorem dL_refuses_260 : decode cL_refuses 260 = .ok (.if_icmp .ne 353, 3) := by decide +kernel
theorem dL_refuses_263 : decode cL_refuses 263 = .ok (.aload_n 0, 1) := by decide +kernel
theorem dL_refuses_264 : decode cL_refuses 264 = .ok (.bipush 8, 2) := by decide +kernel
theorem dL_refuses_266 : decode cL_refuses 266 = .ok (.iload_n 3, 1) := by decide +kernel
theorem dL_refuses_267 : decode cL_refuses 267 = .ok (.bipush 9, 2) := by decide +kernel
theorem dL_refuses_269 : decode cL_refuses 269 = .ok (.iconst 0, 1) := by decide +kernel
theorem dL_refuses_270 : decode cL_refuses 270 = .ok (.invokestatic 168, 3) := by decide +kernel
theorem dL_refuses_273 : decode cL_refuses 273 = .ok (.ldc 52, 2) := by decide +kernel
theorem dL_refuses_275 : decode cL_refuses 275 = .ok (.if_icmp .ne 338, 3) := by decide +kernel
theorem dL_refuses_278 : decode cL_refuses 278 = .ok (.aload_n 0, 1) := by decide +kernel
theorem dL_refuses_279 : decode cL_refuses 279 = .ok (.bipush 8, 2) := by decide +kernel
theorem dL_refuses_281 : decode cL_refuses 281 = .ok (.iload_n 1, 1) := by decide +kernel
theorem dL_refuses_282 : decode cL_refuses 282 = .ok (.iload_n 2, 1) := by decide +kernel
theorem dL_refuses_283 : decode cL_refuses 283 = .ok (.irem, 1) := by decide +kernel
theorem dL_refuses_284 : decode cL_refuses 284 = .ok (.iload 4, 2) := by decide +kernel
theorem dL_refuses_286 : decode cL_refuses 286 = .ok (.iconst 0, 1) := by decide +kernel
theorem dL_refuses_287 : decode cL_refuses 287 = .ok (.invokestatic 168, 3) := by decide +kernel
theorem dL_refuses_290 : decode cL_refuses 290 = .ok (.ldc 29, 2) := by decide +kernel
theorem dL_refuses_292 : decode cL_refuses 292 = .ok (.if_icmp .ne 321, 3) := by decide +kernel
theorem dL_refuses_295 : decode cL_refuses 295 = .ok (.aload_n 0, 1) := by decide +kernel
theorem dL_refuses_296 : decode cL_refuses 296 = .ok (.bipush 9, 2) := by decide +kernel
theorem dL_refuses_298 : decode cL_refuses 298 = .ok (.iload 4, 2) := by decide +kernel
theorem dL_refuses_300 : decode cL_refuses 300 = .ok (.iconst 0, 1) := by decide +kernel
theorem dL_refuses_301 : decode cL_refuses 301 = .ok (.iconst 0, 1) := by decide +kernel
theorem dL_refuses_302 : decode cL_refuses 302 = .ok (.invokestatic 168, 3) := by decide +kernel
theorem dL_refuses_305 : decode cL_refuses 305 = .ok (.ldc 29, 2) := by decide +kernel
theorem dL_refuses_307 : decode cL_refuses 307 = .ok (.if_icmp .ne 306, 3) := by decide +kernel
theorem dL_refuses_310 : decode cL_refuses 310 = .ok (.aload_n 0, 1) := by decide +kernel
theorem dL_refuses_311 : decode cL_refuses 311 = .ok (.bipush 9, 2) := by decide +kernel
theorem dL_refuses_313 : decode cL_refuses 313 = .ok (.iload_n 1, 1) := by decide +kernel
theorem dL_refuses_314 : decode cL_refuses 314 = .ok (.iconst 4, 1) := by decide +kernel
theorem dL_refuses_315 : decode cL_refuses 315 = .ok (.irem, 1) := by decide +kernel
theorem dL_refuses_316 : decode cL_refuses 316 = .ok (.iconst 3, 1) := by decide +kernel
theorem dL_refuses_317 : decode cL_refuses 317 = .ok (.iload_n 1, 1) := by decide +kernel
theorem dL_refuses_318 : decode cL_refuses 318 = .ok (.bipush 9, 2) := by decide +kernel
theorem dL_refuses_320 : decode cL_refuses 320 = .ok (.irem, 1) := by decide +kernel
theorem dL_refuses_321 : decode cL_refuses 321 = .ok (.iadd, 1) := by decide +kernel
theorem dL_refuses_322 : decode cL_refuses 322 = .ok (.iconst 0, 1) := by decide +kernel
theorem dL_refuses_323 : decode cL_refuses 323 = .ok (.invokestatic 168, 3) := by decide +kernel
theorem dL_refuses_326 : decode cL_refuses 326 = .ok (.ldc 29, 2) := by decide +kernel
theorem dL_refuses_328 : decode cL_refuses 328 = .ok (.if_icmp .ne 285, 3) := by decide +kernel
theorem dL_refuses_331 : decode cL_refuses 331 = .ok (.aload_n 0, 1) := by decide +kernel
theorem dL_refuses_332 : decode cL_refuses 332 = .ok (.bipush 10, 2) := by decide +kernel
theorem dL_refuses_334 : decode cL_refuses 334 = .ok (.iload_n 1, 1) := by decide +kernel
theorem dL_refuses_335 : decode cL_refuses 335 = .ok (.iconst 2, 1) := by decide +kernel
theorem dL_refuses_336 : decode cL_refuses 336 = .ok (.irem, 1) := by decide +kernel
theorem dL_refuses_337 : decode cL_refuses 337 = .ok (.ifCond .ne 12, 3) := by decide +kernel
theorem dL_refuses_340 : decode cL_refuses 340 = .ok (.iconst (-1), 1) := by decide +kernel
theorem dL_refuses_341 : decode cL_refuses 341 = .ok (.iload_n 1, 1) := by decide +kernel
theorem dL_refuses_342 : decode cL_refuses 342 = .ok (.bipush 9, 2) := by decide +kernel
theorem dL_refuses_344 : decode cL_refuses 344 = .ok (.irem, 1) := by decide +kernel
theorem dL_refuses_345 : decode cL_refuses 345 = .ok (.isub, 1) := by decide +kernel
theorem dL_refuses_346 : decode cL_refuses 346 = .ok (.goto 9, 3) := by decide +kernel
theorem dL_refuses_349 : decode cL_refuses 349 = .ok (.iconst 3, 1) := by decide +kernel
theorem dL_refuses_350 : decode cL_refuses 350 = .ok (.iload_n 1, 1) := by decide +kernel
theorem dL_refuses_351 : decode cL_refuses 351 = .ok (.bipush 9, 2) := by decide +kernel
theorem dL_refuses_353 : decode cL_refuses 353 = .ok (.irem, 1) := by decide +kernel
theorem dL_refuses_354 : decode cL_refuses 354 = .ok (.iadd, 1) := by decide +kernel
theorem dL_refuses_355 : decode cL_refuses 355 = .ok (.iconst 0, 1) := by decide +kernel
theorem dL_refuses_356 : decode cL_refuses 356 = .ok (.iconst 0, 1) := by decide +kernel
theorem dL_refuses_357 : decode cL_refuses 357 = .ok (.invokestatic 168, 3) := by decide +kernel
theorem dL_refuses_360 : decode cL_refuses 360 = .ok (.ldc 29, 2) := by decide +kernel
theorem dL_refuses_362 : decode cL_refuses 362 = .ok (.if_icmp .ne 251, 3) := by decide +kernel
theorem dL_refuses_365 : decode cL_refuses 365 = .ok (.aload_n 0, 1) := by decide +kernel
theorem dL_refuses_366 : decode cL_refuses 366 = .ok (.bipush 11, 2) := by decide +kernel
theorem dL_refuses_368 : decode cL_refuses 368 = .ok (.iload_n 3, 1) := by decide +kernel
theorem dL_refuses_369 : decode cL_refuses 369 = .ok (.bipush 99, 2) := by decide +kernel
theorem dL_refuses_371 : decode cL_refuses 371 = .ok (.iconst 0, 1) := by decide +kernel
theorem dL_refuses_372 : decode cL_refuses 372 = .ok (.invokestatic 168, 3) := by decide +kernel
theorem dL_refuses_375 : decode cL_refuses 375 = .ok (.ldc 52, 2) := by decide +kernel
theorem dL_refuses_377 : decode cL_refuses 377 = .ok (.if_icmp .ne 236, 3) := by decide +kernel
theorem dL_refuses_380 : decode cL_refuses 380 = .ok (.aload_n 0, 1) := by decide +kernel
theorem dL_refuses_381 : decode cL_refuses 381 = .ok (.bipush 11, 2) := by decide +kernel
theorem dL_refuses_383 : decode cL_refuses 383 = .ok (.iload_n 1, 1) := by decide +kernel
theorem dL_refuses_384 : decode cL_refuses 384 = .ok (.iload_n 2, 1) := by decide +kernel
theorem dL_refuses_385 : decode cL_refuses 385 = .ok (.irem, 1) := by decide +kernel
theorem dL_refuses_386 : decode cL_refuses 386 = .ok (.bipush 10, 2) := by decide +kernel
theorem dL_refuses_388 : decode cL_refuses 388 = .ok (.iload_n 1, 1) := by decide +kernel
theorem dL_refuses_389 : decode cL_refuses 389 = .ok (.bipush 9, 2) := by decide +kernel
theorem dL_refuses_391 : decode cL_refuses 391 = .ok (.irem, 1) := by decide +kernel
theorem dL_refuses_392 : decode cL_refuses 392 = .ok (.iadd, 1) := by decide +kernel
theorem dL_refuses_393 : decode cL_refuses 393 = .ok (.iconst 0, 1) := by decide +kernel
theorem dL_refuses_394 : decode cL_refuses 394 = .ok (.invokestatic 168, 3) := by decide +kernel
theorem dL_refuses_397 : decode cL_refuses 397 = .ok (.ldc 29, 2) := by decide +kernel
theorem dL_refuses_399 : decode cL_refuses 399 = .ok (.if_icmp .ne 214, 3) := by decide +kernel
theorem dL_refuses_402 : decode cL_refuses 402 = .ok (.aload_n 0, 1) := by decide +kernel
theorem dL_refuses_403 : decode cL_refuses 403 = .ok (.bipush 12, 2) := by decide +kernel
theorem dL_refuses_405 : decode cL_refuses 405 = .ok (.bipush 61, 2) := by decide +kernel
theorem dL_refuses_407 : decode cL_refuses 407 = .ok (.iload_n 1, 1) := by decide +kernel
theorem dL_refuses_408 : decode cL_refuses 408 = .ok (.bipush 9, 2) := by decide +kernel
theorem dL_refuses_410 : decode cL_refuses 410 = .ok (.irem, 1) := by decide +kernel
theorem dL_refuses_411 : decode cL_refuses 411 = .ok (.iadd, 1) := by decide +kernel
theorem dL_refuses_412 : decode cL_refuses 412 = .ok (.iconst 0, 1) := by decide +kernel
theorem dL_refuses_413 : decode cL_refuses 413 = .ok (.iconst 0, 1) := by decide +kernel
theorem dL_refuses_414 : decode cL_refuses 414 = .ok (.invokestatic 168, 3) := by decide +kernel
theorem dL_refuses_417 : decode cL_refuses 417 = .ok (.ldc 29, 2) := by decide +kernel
theorem dL_refuses_419 : decode cL_refuses 419 = .ok (.if_icmp .ne 194, 3) := by decide +kernel
theorem dL_refuses_422 : decode cL_refuses 422 = .ok (.aload_n 0, 1) := by decide +kernel
theorem dL_refuses_423 : decode cL_refuses 423 = .ok (.sipush 201, 3) := by decide +kernel
theorem dL_refuses_426 : decode cL_refuses 426 = .ok (.iload_n 1, 1) := by decide +kernel
theorem dL_refuses_427 : decode cL_refuses 427 = .ok (.bipush 9, 2) := by decide +kernel
theorem dL_refuses_429 : decode cL_refuses 429 = .ok (.irem, 1) := by decide +kernel
theorem dL_refuses_430 : decode cL_refuses 430 = .ok (.iadd, 1) := by decide +kernel
theorem dL_refuses_431 : decode cL_refuses 431 = .ok (.invokestatic 172, 3) := by decide +kernel
theorem dL_refuses_434 : decode cL_refuses 434 = .ok (.ldc2_w 15, 3) := by decide +kernel
theorem dL_refuses_437 : decode cL_refuses 437 = .ok (.lcmp, 1) := by decide +kernel
theorem dL_refuses_438 : decode cL_refuses 438 = .ok (.ifCond .ne 175, 3) := by decide +kernel
theorem dL_refuses_441 : decode cL_refuses 441 = .ok (.aload_n 0, 1) := by decide +kernel
theorem dL_refuses_442 : decode cL_refuses 442 = .ok (.iload_n 1, 1) := by decide +kernel
theorem dL_refuses_443 : decode cL_refuses 443 = .ok (.bipush 9, 2) := by decide +kernel
theorem dL_refuses_445 : decode cL_refuses 445 = .ok (.irem, 1) := by decide +kernel
theorem dL_refuses_446 : decode cL_refuses 446 = .ok (.ineg, 1) := by decide +kernel
theorem dL_refuses_447 : decode cL_refuses 447 = .ok (.invokestatic 172, 3) := by decide +kernel
theorem dL_refuses_450 : decode cL_refuses 450 = .ok (.ldc2_w 15, 3) := by decide +kernel
theorem dL_refuses_453 : decode cL_refuses 453 = .ok (.lcmp, 1) := by decide +kernel
theorem dL_refuses_454 : decode cL_refuses 454 = .ok (.ifCond .ne 159, 3) := by decide +kernel
theorem dL_refuses_457 : decode cL_refuses 457 = .ok (.aload_n 0, 1) := by decide +kernel
theorem dL_refuses_458 : decode cL_refuses 458 = .ok (.bipush 14, 2) := by decide +kernel
theorem dL_refuses_460 : decode cL_refuses 460 = .ok (.iconst 2, 1) := by decide +kernel
theorem dL_refuses_461 : decode cL_refuses 461 = .ok (.iload_n 1, 1) := by decide +kernel
theorem dL_refuses_462 : decode cL_refuses 462 = .ok (.bipush 9, 2) := by decide +kernel
theorem dL_refuses_464 : decode cL_refuses 464 = .ok (.irem, 1) := by decide +kernel
theorem dL_refuses_465 : decode cL_refuses 465 = .ok (.iadd, 1) := by decide +kernel
theorem dL_refuses_466 : decode cL_refuses 466 = .ok (.iconst 0, 1) := by decide +kernel
theorem dL_refuses_467 : decode cL_refuses 467 = .ok (.iconst 0, 1) := by decide +kernel
theorem dL_refuses_468 : decode cL_refuses 468 = .ok (.invokestatic 168, 3) := by decide +kernel
theorem dL_refuses_471 : decode cL_refuses 471 = .ok (.ldc 29, 2) := by decide +kernel
theorem dL_refuses_473 : decode cL_refuses 473 = .ok (.if_icmp .ne 140, 3) := by decide +kernel
theorem dL_refuses_476 : decode cL_refuses 476 = .ok (.aload_n 0, 1) := by decide +kernel
theorem dL_refuses_477 : decode cL_refuses 477 = .ok (.bipush 16, 2) := by decide +kernel
theorem dL_refuses_479 : decode cL_refuses 479 = .ok (.iload_n 3, 1) := by decide +kernel
theorem dL_refuses_480 : decode cL_refuses 480 = .ok (.iconst 0, 1) := by decide +kernel
theorem dL_refuses_481 : decode cL_refuses 481 = .ok (.iconst 0, 1) := by decide +kernel
theorem dL_refuses_482 : decode cL_refuses 482 = .ok (.invokestatic 168, 3) := by decide +kernel
theorem dL_refuses_485 : decode cL_refuses 485 = .ok (.ldc 52, 2) := by decide +kernel
theorem dL_refuses_487 : decode cL_refuses 487 = .ok (.if_icmp .ne 126, 3) := by decide +kernel
theorem dL_refuses_490 : decode cL_refuses 490 = .ok (.aload_n 0, 1) := by decide +kernel
theorem dL_refuses_491 : decode cL_refuses 491 = .ok (.bipush 17, 2) := by decide +kernel
theorem dL_refuses_493 : decode cL_refuses 493 = .ok (.iload_n 3, 1) := by decide +kernel
theorem dL_refuses_494 : decode cL_refuses 494 = .ok (.iconst 0, 1) := by decide +kernel
theorem dL_refuses_495 : decode cL_refuses 495 = .ok (.iconst 0, 1) := by decide +kernel
theorem dL_refuses_496 : decode cL_refuses 496 = .ok (.invokestatic 168, 3) := by decide +kernel
theorem dL_refuses_499 : decode cL_refuses 499 = .ok (.ldc 52, 2) := by decide +kernel
theorem dL_refuses_501 : decode cL_refuses 501 = .ok (.if_icmp .ne 112, 3) := by decide +kernel
theorem dL_refuses_504 : decode cL_refuses 504 = .ok (.aload_n 0, 1) := by decide +kernel
theorem dL_refuses_505 : decode cL_refuses 505 = .ok (.bipush 17, 2) := by decide +kernel
theorem dL_refuses_507 : decode cL_refuses 507 = .ok (.iload_n 1, 1) := by decide +kernel
theorem dL_refuses_508 : decode cL_refuses 508 = .ok (.iload_n 2, 1) := by decide +kernel
theorem dL_refuses_509 : decode cL_refuses 509 = .ok (.irem, 1) := by decide +kernel
theorem dL_refuses_510 : decode cL_refuses 510 = .ok (.bipush 21, 2) := by decide +kernel
theorem dL_refuses_512 : decode cL_refuses 512 = .ok (.iload_n 1, 1) := by decide +kernel
theorem dL_refuses_513 : decode cL_refuses 513 = .ok (.bipush 9, 2) := by decide +kernel
theorem dL_refuses_515 : decode cL_refuses 515 = .ok (.irem, 1) := by decide +kernel
theorem dL_refuses_516 : decode cL_refuses 516 = .ok (.iadd, 1) := by decide +kernel
theorem dL_refuses_517 : decode cL_refuses 517 = .ok (.iconst 0, 1) := by decide +kernel
theorem dL_refuses_518 : decode cL_refuses 518 = .ok (.invokestatic 168, 3) := by decide +kernel
theorem dL_refuses_521 : decode cL_refuses 521 = .ok (.ldc 29, 2) := by decide +kernel
theorem dL_refuses_523 : decode cL_refuses 523 = .ok (.if_icmp .ne 90, 3) := by decide +kernel
theorem dL_refuses_526 : decode cL_refuses 526 = .ok (.aload_n 0, 1) := by decide +kernel
theorem dL_refuses_527 : decode cL_refuses 527 = .ok (.bipush 18, 2) := by decide +kernel
theorem dL_refuses_529 : decode cL_refuses 529 = .ok (.iconst 2, 1) := by decide +kernel
theorem dL_refuses_530 : decode cL_refuses 530 = .ok (.iload_n 1, 1) := by decide +kernel
theorem dL_refuses_531 : decode cL_refuses 531 = .ok (.bipush 50, 2) := by decide +kernel
theorem dL_refuses_533 : decode cL_refuses 533 = .ok (.irem, 1) := by decide +kernel
theorem dL_refuses_534 : decode cL_refuses 534 = .ok (.iadd, 1) := by decide +kernel
theorem dL_refuses_535 : decode cL_refuses 535 = .ok (.iconst 0, 1) := by decide +kernel
theorem dL_refuses_536 : decode cL_refuses 536 = .ok (.iconst 0, 1) := by decide +kernel
theorem dL_refuses_537 : decode cL_refuses 537 = .ok (.invokestatic 168, 3) := by decide +kernel
theorem dL_refuses_540 : decode cL_refuses 540 = .ok (.ldc 52, 2) := by decide +kernel
theorem dL_refuses_542 : decode cL_refuses 542 = .ok (.if_icmp .ne 71, 3) := by decide +kernel
theorem dL_refuses_545 : decode cL_refuses 545 = .ok (.aload_n 0, 1) := by decide +kernel
theorem dL_refuses_546 : decode cL_refuses 546 = .ok (.bipush 19, 2) := by decide +kernel
theorem dL_refuses_548 : decode cL_refuses 548 = .ok (.iconst (-1), 1) := by decide +kernel
theorem dL_refuses_549 : decode cL_refuses 549 = .ok (.iload_n 1, 1) := by decide +kernel
theorem dL_refuses_550 : decode cL_refuses 550 = .ok (.bipush 9, 2) := by decide +kernel
theorem dL_refuses_552 : decode cL_refuses 552 = .ok (.irem, 1) := by decide +kernel
theorem dL_refuses_553 : decode cL_refuses 553 = .ok (.isub, 1) := by decide +kernel
theorem dL_refuses_554 : decode cL_refuses 554 = .ok (.iconst 0, 1) := by decide +kernel
theorem dL_refuses_555 : decode cL_refuses 555 = .ok (.iconst 0, 1) := by decide +kernel
theorem dL_refuses_556 : decode cL_refuses 556 = .ok (.invokestatic 168, 3) := by decide +kernel
theorem dL_refuses_559 : decode cL_refuses 559 = .ok (.ldc 52, 2) := by decide +kernel
theorem dL_refuses_561 : decode cL_refuses 561 = .ok (.if_icmp .ne 52, 3) := by decide +kernel
theorem dL_refuses_564 : decode cL_refuses 564 = .ok (.aload_n 0, 1) := by decide +kernel
theorem dL_refuses_565 : decode cL_refuses 565 = .ok (.iconst 0, 1) := by decide +kernel
theorem dL_refuses_566 : decode cL_refuses 566 = .ok (.lconst 0, 1) := by decide +kernel
theorem dL_refuses_567 : decode cL_refuses 567 = .ok (.invokestatic 176, 3) := by decide +kernel
theorem dL_refuses_570 : decode cL_refuses 570 = .ok (.ldc 29, 2) := by decide +kernel
theorem dL_refuses_572 : decode cL_refuses 572 = .ok (.if_icmp .ne 41, 3) := by decide +kernel
theorem dL_refuses_575 : decode cL_refuses 575 = .ok (.aload_n 0, 1) := by decide +kernel
theorem dL_refuses_576 : decode cL_refuses 576 = .ok (.iconst 1, 1) := by decide +kernel
theorem dL_refuses_577 : decode cL_refuses 577 = .ok (.ldc2_w 180, 3) := by decide +kernel
theorem dL_refuses_580 : decode cL_refuses 580 = .ok (.iload_n 1, 1) := by decide +kernel
theorem dL_refuses_581 : decode cL_refuses 581 = .ok (.i2l, 1) := by decide +kernel
theorem dL_refuses_582 : decode cL_refuses 582 = .ok (.ladd, 1) := by decide +kernel
theorem dL_refuses_583 : decode cL_refuses 583 = .ok (.invokestatic 176, 3) := by decide +kernel
theorem dL_refuses_586 : decode cL_refuses 586 = .ok (.ldc 29, 2) := by decide +kernel
theorem dL_refuses_588 : decode cL_refuses 588 = .ok (.if_icmp .ne 25, 3) := by decide +kernel
theorem dL_refuses_591 : decode cL_refuses 591 = .ok (.aload_n 0, 1) := by decide +kernel
theorem dL_refuses_592 : decode cL_refuses 592 = .ok (.iload_n 1, 1) := by decide +kernel
theorem dL_refuses_593 : decode cL_refuses 593 = .ok (.i2l, 1) := by decide +kernel
theorem dL_refuses_594 : decode cL_refuses 594 = .ok (.bipush 61, 2) := by decide +kernel
theorem dL_refuses_596 : decode cL_refuses 596 = .ok (.iload_n 1, 1) := by decide +kernel
theorem dL_refuses_597 : decode cL_refuses 597 = .ok (.bipush 9, 2) := by decide +kernel
theorem dL_refuses_599 : decode cL_refuses 599 = .ok (.irem, 1) := by decide +kernel
theorem dL_refuses_600 : decode cL_refuses 600 = .ok (.iadd, 1) := by decide +kernel
theorem dL_refuses_601 : decode cL_refuses 601 = .ok (.invokestatic 182, 3) := by decide +kernel
theorem dL_refuses_604 : decode cL_refuses 604 = .ok (.ldc 29, 2) := by decide +kernel
theorem dL_refuses_606 : decode cL_refuses 606 = .ok (.if_icmp .ne 7, 3) := by decide +kernel
theorem dL_refuses_609 : decode cL_refuses 609 = .ok (.iconst 1, 1) := by decide +kernel
theorem dL_refuses_610 : decode cL_refuses 610 = .ok (.goto 4, 3) := by decide +kernel
theorem dL_refuses_613 : decode cL_refuses 613 = .ok (.iconst 0, 1) := by decide +kernel
theorem dL_refuses_614 : decode cL_refuses 614 = .ok (.ireturn, 1) := by decide +kernel
theorem dL_holds_0 : decode cL_holds 0 = .ok (.aload_n 0, 1) := by decide +kernel
theorem dL_holds_1 : decode cL_holds 1 = .ok (.iconst 2, 1) := by decide +kernel
theorem dL_holds_2 : decode cL_holds 2 = .ok (.iconst 0, 1) := by decide +kernel
theorem dL_holds_3 : decode cL_holds 3 = .ok (.iconst 0, 1) := by decide +kernel
theorem dL_holds_4 : decode cL_holds 4 = .ok (.iconst 0, 1) := by decide +kernel
theorem dL_holds_5 : decode cL_holds 5 = .ok (.invokestatic 168, 3) := by decide +kernel
theorem dL_holds_8 : decode cL_holds 8 = .ok (.istore_n 1, 1) := by decide +kernel
theorem dL_holds_9 : decode cL_holds 9 = .ok (.aload_n 0, 1) := by decide +kernel
theorem dL_holds_10 : decode cL_holds 10 = .ok (.iconst 2, 1) := by decide +kernel
theorem dL_holds_11 : decode cL_holds 11 = .ok (.iconst 1, 1) := by decide +kernel
theorem dL_holds_12 : decode cL_holds 12 = .ok (.iconst 0, 1) := by decide +kernel
theorem dL_holds_13 : decode cL_holds 13 = .ok (.iconst 0, 1) := by decide +kernel
theorem dL_holds_14 : decode cL_holds 14 = .ok (.invokestatic 168, 3) := by decide +kernel
theorem dL_holds_17 : decode cL_holds 17 = .ok (.istore_n 2, 1) := by decide +kernel
theorem dL_holds_18 : decode cL_holds 18 = .ok (.iload_n 1, 1) := by decide +kernel
theorem dL_holds_19 : decode cL_holds 19 = .ok (.iload_n 2, 1) := by decide +kernel
theorem dL_holds_20 : decode cL_holds 20 = .ok (.imul, 1) := by decide +kernel
theorem dL_holds_21 : decode cL_holds 21 = .ok (.istore_n 3, 1) := by decide +kernel
theorem dL_holds_22 : decode cL_holds 22 = .ok (.aload_n 0, 1) := by decide +kernel
theorem dL_holds_23 : decode cL_holds 23 = .ok (.invokevirtual 186, 3) := by decide +kernel
theorem dL_holds_26 : decode cL_holds 26 = .ok (.lstore 4, 2) := by decide +kernel
theorem dL_holds_28 : decode cL_holds 28 = .ok (.iconst 0, 1) := by decide +kernel
theorem dL_holds_29 : decode cL_holds 29 = .ok (.istore 6, 2) := by decide +kernel
theorem dL_holds_31 : decode cL_holds 31 = .ok (.iconst 0, 1) := by decide +kernel
theorem dL_holds_32 : decode cL_holds 32 = .ok (.istore 7, 2) := by decide +kernel
theorem dL_holds_34 : decode cL_holds 34 = .ok (.iconst 0, 1) := by decide +kernel
theorem dL_holds_35 : decode cL_holds 35 = .ok (.istore 8, 2) := by decide +kernel
theorem dL_holds_37 : decode cL_holds 37 = .ok (.iload_n 1, 1) := by decide +kernel
theorem dL_holds_38 : decode cL_holds 38 = .ok (.iconst 2, 1) := by decide +kernel
theorem dL_holds_39 : decode cL_holds 39 = .ok (.if_icmp .lt 39, 3) := by decide +kernel
theorem dL_holds_42 : decode cL_holds 42 = .ok (.iload_n 1, 1) := by decide +kernel
theorem dL_holds_43 : decode cL_holds 43 = .ok (.bipush 8, 2) := by decide +kernel
theorem dL_holds_45 : decode cL_holds 45 = .ok (.if_icmp .gt 33, 3) := by decide +kernel
theorem dL_holds_48 : decode cL_holds 48 = .ok (.iload_n 2, 1) := by decide +kernel
theorem dL_holds_49 : decode cL_holds 49 = .ok (.iconst 2, 1) := by decide +kernel
theorem dL_holds_50 : decode cL_holds 50 = .ok (.if_icmp .lt 28, 3) := by decide +kernel
theorem dL_holds_53 : decode cL_holds 53 = .ok (.iload_n 2, 1) := by decide +kernel
theorem dL_holds_54 : decode cL_holds 54 = .ok (.bipush 8, 2) := by decide +kernel
theorem dL_holds_56 : decode cL_holds 56 = .ok (.if_icmp .gt 22, 3) := by decide +kernel
theorem dL_holds_59 : decode cL_holds 59 = .ok (.iload_n 3, 1) := by decide +kernel
theorem dL_holds_60 : decode cL_holds 60 = .ok (.bipush 64, 2) := by decide +kernel
theorem dL_holds_62 : decode cL_holds 62 = .ok (.if_icmp .eq 12, 3) := by decide +kernel
theorem dL_holds_65 : decode cL_holds 65 = .ok (.lload 4, 2) := by decide +kernel
theorem dL_holds_67 : decode cL_holds 67 = .ok (.iload_n 3, 1) := by decide +kernel
theorem dL_holds_68 : decode cL_holds 68 = .ok (.lshr, 1) := by decide +kernel
theorem dL_holds_69 : decode cL_holds 69 = .ok (.lconst 0, 1) := by decide +kernel
theorem dL_holds_70 : decode cL_holds 70 = .ok (.lcmp, 1) := by decide +kernel
theorem dL_holds_71 : decode cL_holds 71 = .ok (.ifCond .ne 7, 3) := by decide +kernel
theorem dL_holds_74 : decode cL_holds 74 = .ok (.iconst 1, 1) := by decide +kernel
theorem dL_holds_75 : decode cL_holds 75 = .ok (.goto 4, 3) := by decide +kernel
theorem dL_holds_78 : decode cL_holds 78 = .ok (.iconst 0, 1) := by decide +kernel
theorem dL_holds_79 : decode cL_holds 79 = .ok (.istore 9, 2) := by decide +kernel
theorem dL_holds_81 : decode cL_holds 81 = .ok (.iconst 0, 1) := by decide +kernel
theorem dL_holds_82 : decode cL_holds 82 = .ok (.istore 10, 2) := by decide +kernel
theorem dL_holds_84 : decode cL_holds 84 = .ok (.iload 10, 2) := by decide +kernel
theorem dL_holds_86 : decode cL_holds 86 = .ok (.iconst 4, 1) := by decide +kernel
theorem dL_holds_87 : decode cL_holds 87 = .ok (.if_icmp .ge 64, 3) := by decide +kernel
theorem dL_holds_90 : decode cL_holds 90 = .ok (.iload 9, 2) := by decide +kernel
theorem dL_holds_92 : decode cL_holds 92 = .ok (.ifCond .eq 50, 3) := by decide +kernel
theorem dL_holds_95 : decode cL_holds 95 = .ok (.aload_n 0, 1) := by decide +kernel
theorem dL_holds_96 : decode cL_holds 96 = .ok (.iconst 5, 1) := by decide +kernel
theorem dL_holds_97 : decode cL_holds 97 = .ok (.iload 10, 2) := by decide +kernel
theorem dL_holds_99 : decode cL_holds 99 = .ok (.iconst 0, 1) := by decide +kernel
theorem dL_holds_100 : decode cL_holds 100 = .ok (.iconst 0, 1) := by decide +kernel
theorem dL_holds_101 : decode cL_holds 101 = .ok (.invokestatic 168, 3) := by decide +kernel
theorem dL_holds_104 : decode cL_holds 104 = .ok (.iconst 2, 1) := by decide +kernel
theorem dL_holds_105 : decode cL_holds 105 = .ok (.if_icmp .ne 7, 3) := by decide +kernel
theorem dL_holds_108 : decode cL_holds 108 = .ok (.iconst 1, 1) := by decide +kernel
theorem dL_holds_109 : decode cL_holds 109 = .ok (.goto 4, 3) := by decide +kernel
theorem dL_holds_112 : decode cL_holds 112 = .ok (.iconst 0, 1) := by decide +kernel
theorem dL_holds_113 : decode cL_holds 113 = .ok (.aload_n 0, 1) := by decide +kernel
theorem dL_holds_114 : decode cL_holds 114 = .ok (.iconst 5, 1) := by decide +kernel
theorem dL_holds_115 : decode cL_holds 115 = .ok (.iload 10, 2) := by decide +kernel
theorem dL_holds_117 : decode cL_holds 117 = .ok (.iconst 2, 1) := by decide +kernel
theorem dL_holds_118 : decode cL_holds 118 = .ok (.iadd, 1) := by decide +kernel
theorem dL_holds_119 : decode cL_holds 119 = .ok (.iconst 4, 1) := by decide +kernel
theorem dL_holds_120 : decode cL_holds 120 = .ok (.irem, 1) := by decide +kernel
theorem dL_holds_121 : decode cL_holds 121 = .ok (.iconst 0, 1) := by decide +kernel
theorem dL_holds_122 : decode cL_holds 122 = .ok (.iconst 0, 1) := by decide +kernel
theorem dL_holds_123 : decode cL_holds 123 = .ok (.invokestatic 168, 3) := by decide +kernel
theorem dL_holds_126 : decode cL_holds 126 = .ok (.iconst 2, 1) := by decide +kernel
theorem dL_holds_127 : decode cL_holds 127 = .ok (.if_icmp .ne 7, 3) := by decide +kernel
theorem dL_holds_130 : decode cL_holds 130 = .ok (.iconst 1, 1) := by decide +kernel
theorem dL_holds_131 : decode cL_holds 131 = .ok (.goto 4, 3) := by decide +kernel
theorem dL_holds_134 : decode cL_holds 134 = .ok (.iconst 0, 1) := by decide +kernel
theorem dL_holds_135 : decode cL_holds 135 = .ok (.if_icmp .ne 7, 3) := by decide +kernel
theorem dL_holds_138 : decode cL_holds 138 = .ok (.iconst 1, 1) := by decide +kernel
theorem dL_holds_139 : decode cL_holds 139 = .ok (.goto 4, 3) := by decide +kernel
theorem dL_holds_142 : decode cL_holds 142 = .ok (.iconst 0, 1) := by decide +kernel
theorem dL_holds_143 : decode cL_holds 143 = .ok (.istore 9, 2) := by decide +kernel
theorem dL_holds_145 : decode cL_holds 145 = .ok (.iinc 10 1, 3) := by decide +kernel
theorem dL_holds_148 : decode cL_holds 148 = .ok (.goto (-64), 3) := by decide +kernel
theorem dL_holds_151 : decode cL_holds 151 = .ok (.iconst 0, 1) := by decide +kernel
theorem dL_holds_152 : decode cL_holds 152 = .ok (.istore 10, 2) := by decide +kernel
theorem dL_holds_154 : decode cL_holds 154 = .ok (.iload 10, 2) := by decide +kernel
theorem dL_holds_156 : decode cL_holds 156 = .ok (.iload_n 3, 1) := by decide +kernel
theorem dL_holds_157 : decode cL_holds 157 = .ok (.if_icmp .ge 504, 3) := by decide +kernel
theorem dL_holds_160 : decode cL_holds 160 = .ok (.iload 9, 2) := by decide +kernel
theorem dL_holds_162 : decode cL_holds 162 = .ok (.ifCond .eq 499, 3) := by decide +kernel
theorem dL_holds_165 : decode cL_holds 165 = .ok (.lload 4, 2) := by decide +kernel
theorem dL_holds_167 : decode cL_holds 167 = .ok (.iload 10, 2) := by decide +kernel
theorem dL_holds_169 : decode cL_holds 169 = .ok (.lshr, 1) := by decide +kernel
theorem dL_holds_170 : decode cL_holds 170 = .ok (.lconst 1, 1) := by decide +kernel
theorem dL_holds_171 : decode cL_holds 171 = .ok (.land, 1) := by decide +kernel
theorem dL_holds_172 : decode cL_holds 172 = .ok (.l2i, 1) := by decide +kernel
theorem dL_holds_173 : decode cL_holds 173 = .ok (.istore 11, 2) := by decide +kernel
theorem dL_holds_175 : decode cL_holds 175 = .ok (.iconst 0, 1) := by decide +kernel
theorem dL_holds_176 : decode cL_holds 176 = .ok (.istore 12, 2) := by decide +kernel
theorem dL_holds_178 : decode cL_holds 178 = .ok (.aload_n 0, 1) := by decide +kernel
theorem dL_holds_179 : decode cL_holds 179 = .ok (.iconst 3, 1) := by decide +kernel
theorem dL_holds_180 : decode cL_holds 180 = .ok (.iload 10, 2) := by decide +kernel
theorem dL_holds_182 : decode cL_holds 182 = .ok (.iconst 3, 1) := by decide +kernel
theorem dL_holds_183 : decode cL_holds 183 = .ok (.iconst 0, 1) := by decide +kernel
theorem dL_holds_184 : decode cL_holds 184 = .ok (.invokestatic 168, 3) := by decide +kernel
theorem dL_holds_187 : decode cL_holds 187 = .ok (.istore 13, 2) := by decide +kernel
theorem dL_holds_189 : decode cL_holds 189 = .ok (.aload_n 0, 1) := by decide +kernel
theorem dL_holds_190 : decode cL_holds 190 = .ok (.iconst 3, 1) := by decide +kernel
theorem dL_holds_191 : decode cL_holds 191 = .ok (.iload 10, 2) := by decide +kernel
theorem dL_holds_193 : decode cL_holds 193 = .ok (.iconst 2, 1) := by decide +kernel
theorem dL_holds_194 : decode cL_holds 194 = .ok (.iconst 0, 1) := by decide +kernel
theorem dL_holds_195 : decode cL_holds 195 = .ok (.invokestatic 168, 3) := by decide +kernel
theorem dL_holds_198 : decode cL_holds 198 = .ok (.istore 14, 2) := by decide +kernel
theorem dL_holds_200 : decode cL_holds 200 = .ok (.iload 6, 2) := by decide +kernel
theorem dL_holds_202 : decode cL_holds 202 = .ok (.iload 11, 2) := by decide +kernel
theorem dL_holds_204 : decode cL_holds 204 = .ok (.iadd, 1) := by decide +kernel
theorem dL_holds_205 : decode cL_holds 205 = .ok (.istore 6, 2) := by decide +kernel
theorem dL_holds_207 : decode cL_holds 207 = .ok (.iconst 0, 1) := by decide +kernel
theorem dL_holds_208 : decode cL_holds 208 = .ok (.istore 15, 2) := by decide +kernel
theorem dL_holds_210 : decode cL_holds 210 = .ok (.iload 15, 2) := by decide +kernel
theorem dL_holds_212 : decode cL_holds 212 = .ok (.iconst 4, 1) := by decide +kernel
theorem dL_holds_213 : decode cL_holds 213 = .ok (.if_icmp .ge 364, 3) := by decide +kernel
theorem dL_holds_216 : decode cL_holds 216 = .ok (.iload 9, 2) := by decide +kernel
theorem dL_holds_218 : decode cL_holds 218 = .ok (.ifCond .eq 359, 3) := by decide +kernel
theorem dL_holds_221 : decode cL_holds 221 = .ok (.aload_n 0, 1) := by decide +kernel
theorem dL_holds_222 : decode cL_holds 222 = .ok (.iconst 4, 1) := by decide +kernel
theorem dL_holds_223 : decode cL_holds 223 = .ok (.iload 10, 2) := by decide +kernel
theorem dL_holds_225 : decode cL_holds 225 = .ok (.iload 15, 2) := by decide +kernel
theorem dL_holds_227 : decode cL_holds 227 = .ok (.iconst 0, 1) := by decide +kernel
theorem dL_holds_228 : decode cL_holds 228 = .ok (.invokestatic 168, 3) := by decide +kernel
theorem dL_holds_231 : decode cL_holds 231 = .ok (.istore 16, 2) := by decide +kernel
theorem dL_holds_233 : decode cL_holds 233 = .ok (.iload 15, 2) := by decide +kernel
theorem dL_holds_235 : decode cL_holds 235 = .ok (.ifCond .ne 17, 3) := by decide +kernel
theorem dL_holds_238 : decode cL_holds 238 = .ok (.iload 10, 2) := by decide +kernel
theorem dL_holds_240 : decode cL_holds 240 = .ok (.iload_n 2, 1) := by decide +kernel
theorem dL_holds_241 : decode cL_holds 241 = .ok (.if_icmp .ge 7, 3) := by decide +kernel
theorem dL_holds_244 : decode cL_holds 244 = .ok (.iconst 1, 1) := by decide +kernel
theorem dL_holds_245 : decode cL_holds 245 = .ok (.goto 65, 3) := by decide +kernel
theorem dL_holds_248 : decode cL_holds 248 = .ok (.iconst 0, 1) := by decide +kernel
theorem dL_holds_249 : decode cL_holds 249 = .ok (.goto 61, 3) := by decide +kernel
theorem dL_holds_252 : decode cL_holds 252 = .ok (.iload 15, 2) := by decide +kernel
theorem dL_holds_254 : decode cL_holds 254 = .ok (.iconst 1, 1) := by decide +kernel
theorem dL_holds_255 : decode cL_holds 255 = .ok (.if_icmp .ne 21, 3) := by decide +kernel
theorem dL_holds_258 : decode cL_holds 258 = .ok (.iload 10, 2) := by decide +kernel
theorem dL_holds_260 : decode cL_holds 260 = .ok (.iload_n 2, 1) := by decide +kernel
theorem dL_holds_261 : decode cL_holds 261 = .ok (.irem, 1) := by decide +kernel
theorem dL_holds_262 : decode cL_holds 262 = .ok (.iload_n 2, 1) := by decide +kernel
theorem dL_holds_263 : decode cL_holds 263 = .ok (.iconst 1, 1) := by decide +kernel
theorem dL_holds_264 : decode cL_holds 264 = .ok (.isub, 1) := by decide +kernel
theorem dL_holds_265 : decode cL_holds 265 = .ok (.if_icmp .ne 7, 3) := by decide +kernel
theorem dL_holds_268 : decode cL_holds 268 = .ok (.iconst 1, 1) := by decide +kernel
theorem dL_holds_269 : decode cL_holds 269 = .ok (.goto 41, 3) := by decide +kernel
theorem dL_holds_272 : decode cL_holds 272 = .ok (.iconst 0, 1) := by decide +kernel
theorem dL_holds_273 : decode cL_holds 273 = .ok (.goto 37, 3) := by decide +kernel
theorem dL_holds_276 : decode cL_holds 276 = .ok (.iload 15, 2) := by decide +kernel
theorem dL_holds_278 : decode cL_holds 278 = .ok (.iconst 2, 1) := by decide +kernel
theorem dL_holds_279 : decode cL_holds 279 = .ok (.if_icmp .ne 19, 3) := by decide +kernel
theorem dL_holds_282 : decode cL_holds 282 = .ok (.iload 10, 2) := by decide +kernel
theorem dL_holds_284 : decode cL_holds 284 = .ok (.iload_n 3, 1) := by decide +kernel
theorem dL_holds_285 : decode cL_holds 285 = .ok (.iload_n 2, 1) := by decide +kernel
theorem dL_holds_286 : decode cL_holds 286 = .ok (.isub, 1) := by decide +kernel
theorem dL_holds_287 : decode cL_holds 287 = .ok (.if_icmp .lt 7, 3) := by decide +kernel
theorem dL_holds_290 : decode cL_holds 290 = .ok (.iconst 1, 1) := by decide +kernel
theorem dL_holds_291 : decode cL_holds 291 = .ok (.goto 19, 3) := by decide +kernel
theorem dL_holds_294 : decode cL_holds 294 = .ok (.iconst 0, 1) := by decide +kernel
theorem dL_holds_295 : decode cL_holds 295 = .ok (.goto 15, 3) := by decide +kernel
theorem dL_holds_298 : decode cL_holds 298 = .ok (.iload 10, 2) := by decide +kernel
theorem dL_holds_300 : decode cL_holds 300 = .ok (.iload_n 2, 1) := by decide +kernel
theorem dL_holds_301 : decode cL_holds 301 = .ok (.irem, 1) := by decide +kernel
theorem dL_holds_302 : decode cL_holds 302 = .ok (.ifCond .ne 7, 3) := by decide +kernel
theorem dL_holds_305 : decode cL_holds 305 = .ok (.iconst 1, 1) := by decide +kernel
theorem dL_holds_306 : decode cL_holds 306 = .ok (.goto 4, 3) := by decide +kernel
theorem dL_holds_309 : decode cL_holds 309 = .ok (.iconst 0, 1) := by decide +kernel
theorem dL_holds_310 : decode cL_holds 310 = .ok (.istore 17, 2) := by decide +kernel
theorem dL_holds_312 : decode cL_holds 312 = .ok (.iload 13, 2) := by decide +kernel
theorem dL_holds_314 : decode cL_holds 314 = .ok (.iload 15, 2) := by decide +kernel
theorem dL_holds_316 : decode cL_holds 316 = .ok (.ishr, 1) := by decide +kernel
theorem dL_holds_317 : decode cL_holds 317 = .ok (.iconst 1, 1) := by decide +kernel
theorem dL_holds_318 : decode cL_holds 318 = .ok (.iand, 1) := by decide +kernel
theorem dL_holds_319 : decode cL_holds 319 = .ok (.iconst 1, 1) := by decide +kernel
theorem dL_holds_320 : decode cL_holds 320 = .ok (.if_icmp .ne 7, 3) := by decide +kernel
theorem dL_holds_323 : decode cL_holds 323 = .ok (.iconst 1, 1) := by decide +kernel
theorem dL_holds_324 : decode cL_holds 324 = .ok (.goto 4, 3) := by decide +kernel
theorem dL_holds_327 : decode cL_holds 327 = .ok (.iconst 0, 1) := by decide +kernel
theorem dL_holds_328 : decode cL_holds 328 = .ok (.istore 18, 2) := by decide +kernel
theorem dL_holds_330 : decode cL_holds 330 = .ok (.iload 7, 2) := by decide +kernel
theorem dL_holds_332 : decode cL_holds 332 = .ok (.iload 18, 2) := by decide +kernel
theorem dL_holds_334 : decode cL_holds 334 = .ok (.ifCond .eq 7, 3) := by decide +kernel
theorem dL_holds_337 : decode cL_holds 337 = .ok (.iconst 1, 1) := by decide +kernel
theorem dL_holds_338 : decode cL_holds 338 = .ok (.goto 4, 3) := by decide +kernel
theorem dL_holds_341 : decode cL_holds 341 = .ok (.iconst 0, 1) := by decide +kernel
theorem dL_holds_342 : decode cL_holds 342 = .ok (.iadd, 1) := by decide +kernel
theorem dL_holds_343 : decode cL_holds 343 = .ok (.istore 7, 2) := by decide +kernel
theorem dL_holds_345 : decode cL_holds 345 = .ok (.iload 8, 2) := by decide +kernel
theorem dL_holds_347 : decode cL_holds 347 = .ok (.iload 16, 2) := by decide +kernel
theorem dL_holds_349 : decode cL_holds 349 = .ok (.iconst (-1), 1) := by decide +kernel
theorem dL_holds_350 : decode cL_holds 350 = .ok (.if_icmp .ne 7, 3) := by decide +kernel
theorem dL_holds_353 : decode cL_holds 353 = .ok (.iconst 1, 1) := by decide +kernel
theorem dL_holds_354 : decode cL_holds 354 = .ok (.goto 4, 3) := by decide +kernel
theorem dL_holds_357 : decode cL_holds 357 = .ok (.iconst 0, 1) := by decide +kernel
theorem dL_holds_358 : decode cL_holds 358 = .ok (.iadd, 1) := by decide +kernel
theorem dL_holds_359 : decode cL_holds 359 = .ok (.istore 8, 2) := by decide +kernel
theorem dL_holds_361 : decode cL_holds 361 = .ok (.iload 16, 2) := by decide +kernel
theorem dL_holds_363 : decode cL_holds 363 = .ok (.iconst (-1), 1) := by decide +kernel
theorem dL_holds_364 : decode cL_holds 364 = .ok (.if_icmp .eq 19, 3) := by decide +kernel
theorem dL_holds_367 : decode cL_holds 367 = .ok (.lload 4, 2) := by decide +kernel
theorem dL_holds_369 : decode cL_holds 369 = .ok (.iload 16, 2) := by decide +kernel
theorem dL_holds_371 : decode cL_holds 371 = .ok (.lshr, 1) := by decide +kernel
theorem dL_holds_372 : decode cL_holds 372 = .ok (.lconst 1, 1) := by decide +kernel
theorem dL_holds_373 : decode cL_holds 373 = .ok (.land, 1) := by decide +kernel
theorem dL_holds_374 : decode cL_holds 374 = .ok (.lconst 1, 1) := by decide +kernel
theorem dL_holds_375 : decode cL_holds 375 = .ok (.lcmp, 1) := by decide +kernel
theorem dL_holds_376 : decode cL_holds 376 = .ok (.ifCond .ne 7, 3) := by decide +kernel
theorem dL_holds_379 : decode cL_holds 379 = .ok (.iconst 1, 1) := by decide +kernel
theorem dL_holds_380 : decode cL_holds 380 = .ok (.goto 4, 3) := by decide +kernel
theorem dL_holds_383 : decode cL_holds 383 = .ok (.iconst 0, 1) := by decide +kernel
theorem dL_holds_384 : decode cL_holds 384 = .ok (.istore 19, 2) := by decide +kernel
theorem dL_holds_386 : decode cL_holds 386 = .ok (.iload 12, 2) := by decide +kernel
theorem dL_holds_388 : decode cL_holds 388 = .ok (.iload 16, 2) := by decide +kernel
theorem dL_holds_390 : decode cL_holds 390 = .ok (.iconst (-1), 1) := by decide +kernel
theorem dL_holds_391 : decode cL_holds 391 = .ok (.if_icmp .ne 24, 3) := by decide +kernel
theorem dL_holds_394 : decode cL_holds 394 = .ok (.aload_n 0, 1) := by decide +kernel
theorem dL_holds_395 : decode cL_holds 395 = .ok (.iconst 5, 1) := by decide +kernel
theorem dL_holds_396 : decode cL_holds 396 = .ok (.iload 15, 2) := by decide +kernel
theorem dL_holds_398 : decode cL_holds 398 = .ok (.iconst 0, 1) := by decide +kernel
theorem dL_holds_399 : decode cL_holds 399 = .ok (.iconst 0, 1) := by decide +kernel
theorem dL_holds_400 : decode cL_holds 400 = .ok (.invokestatic 168, 3) := by decide +kernel
theorem dL_holds_403 : decode cL_holds 403 = .ok (.iconst 1, 1) := by decide +kernel
theorem dL_holds_404 : decode cL_holds 404 = .ok (.if_icmp .ne 7, 3) := by decide +kernel
theorem dL_holds_407 : decode cL_holds 407 = .ok (.iconst 1, 1) := by decide +kernel
theorem dL_holds_408 : decode cL_holds 408 = .ok (.goto 22, 3) := by decide +kernel
theorem dL_holds_411 : decode cL_holds 411 = .ok (.iconst 0, 1) := by decide +kernel
theorem dL_holds_412 : decode cL_holds 412 = .ok (.goto 18, 3) := by decide +kernel
theorem dL_holds_415 : decode cL_holds 415 = .ok (.iload 19, 2) := by decide +kernel
theorem dL_holds_417 : decode cL_holds 417 = .ok (.ifCond .eq 12, 3) := by decide +kernel
theorem dL_holds_420 : decode cL_holds 420 = .ok (.iload 18, 2) := by decide +kernel
theorem dL_holds_422 : decode cL_holds 422 = .ok (.ifCond .ne 7, 3) := by decide +kernel
theorem dL_holds_425 : decode cL_holds 425 = .ok (.iconst 1, 1) := by decide +kernel
theorem dL_holds_426 : decode cL_holds 426 = .ok (.goto 4, 3) := by decide +kernel
theorem dL_holds_429 : decode cL_holds 429 = .ok (.iconst 0, 1) := by decide +kernel
theorem dL_holds_430 : decode cL_holds 430 = .ok (.iadd, 1) := by decide +kernel
theorem dL_holds_431 : decode cL_holds 431 = .ok (.istore 12, 2) := by decide +kernel
theorem dL_holds_433 : decode cL_holds 433 = .ok (.iload 16, 2) := by decide +kernel
theorem dL_holds_435 : decode cL_holds 435 = .ok (.iconst (-1), 1) := by decide +kernel
theorem dL_holds_436 : decode cL_holds 436 = .ok (.if_icmp .ne 7, 3) := by decide +kernel
theorem dL_holds_439 : decode cL_holds 439 = .ok (.iconst 1, 1) := by decide +kernel
theorem dL_holds_440 : decode cL_holds 440 = .ok (.goto 4, 3) := by decide +kernel
theorem dL_holds_443 : decode cL_holds 443 = .ok (.iconst 0, 1) := by decide +kernel
theorem dL_holds_444 : decode cL_holds 444 = .ok (.iload 17, 2) := by decide +kernel
theorem dL_holds_446 : decode cL_holds 446 = .ok (.ifCond .eq 20, 3) := by decide +kernel
theorem dL_holds_449 : decode cL_holds 449 = .ok (.aload_n 0, 1) := by decide +kernel
theorem dL_holds_450 : decode cL_holds 450 = .ok (.iconst 5, 1) := by decide +kernel
theorem dL_holds_451 : decode cL_holds 451 = .ok (.iload 15, 2) := by decide +kernel
theorem dL_holds_453 : decode cL_holds 453 = .ok (.iconst 0, 1) := by decide +kernel
theorem dL_holds_454 : decode cL_holds 454 = .ok (.iconst 0, 1) := by decide +kernel
theorem dL_holds_455 : decode cL_holds 455 = .ok (.invokestatic 168, 3) := by decide +kernel
theorem dL_holds_458 : decode cL_holds 458 = .ok (.iconst 2, 1) := by decide +kernel
theorem dL_holds_459 : decode cL_holds 459 = .ok (.if_icmp .ge 7, 3) := by decide +kernel
theorem dL_holds_462 : decode cL_holds 462 = .ok (.iconst 1, 1) := by decide +kernel
theorem dL_holds_463 : decode cL_holds 463 = .ok (.goto 4, 3) := by decide +kernel
theorem dL_holds_466 : decode cL_holds 466 = .ok (.iconst 0, 1) := by decide +kernel
theorem dL_holds_467 : decode cL_holds 467 = .ok (.if_icmp .ne 101, 3) := by decide +kernel
theorem dL_holds_470 : decode cL_holds 470 = .ok (.iload 16, 2) := by decide +kernel
theorem dL_holds_472 : decode cL_holds 472 = .ok (.iconst (-1), 1) := by decide +kernel
theorem dL_holds_473 : decode cL_holds 473 = .ok (.if_icmp .ne 11, 3) := by decide +kernel
theorem dL_holds_476 : decode cL_holds 476 = .ok (.iload 18, 2) := by decide +kernel
theorem dL_holds_478 : decode cL_holds 478 = .ok (.ifCond .ne 90, 3) := by decide +kernel
theorem dL_holds_481 : decode cL_holds 481 = .ok (.goto 54, 3) := by decide +kernel
theorem dL_holds_484 : decode cL_holds 484 = .ok (.aload_n 0, 1) := by decide +kernel
theorem dL_holds_485 : decode cL_holds 485 = .ok (.iconst 4, 1) := by decide +kernel
theorem dL_holds_486 : decode cL_holds 486 = .ok (.iload 16, 2) := by decide +kernel
theorem dL_holds_488 : decode cL_holds 488 = .ok (.iload 15, 2) := by decide +kernel
theorem dL_holds_490 : decode cL_holds 490 = .ok (.iconst 2, 1) := by decide +kernel
theorem dL_holds_491 : decode cL_holds 491 = .ok (.iadd, 1) := by decide +kernel
theorem dL_holds_492 : decode cL_holds 492 = .ok (.iconst 4, 1) := by decide +kernel
theorem dL_holds_493 : decode cL_holds 493 = .ok (.irem, 1) := by decide +kernel
theorem dL_holds_494 : decode cL_holds 494 = .ok (.iconst 0, 1) := by decide +kernel
theorem dL_holds_495 : decode cL_holds 495 = .ok (.invokestatic 168, 3) := by decide +kernel
theorem dL_holds_498 : decode cL_holds 498 = .ok (.iload 10, 2) := by decide +kernel
theorem dL_holds_500 : decode cL_holds 500 = .ok (.if_icmp .ne 68, 3) := by decide +kernel
theorem dL_holds_503 : decode cL_holds 503 = .ok (.aload_n 0, 1) := by decide +kernel
theorem dL_holds_504 : decode cL_holds 504 = .ok (.iconst 3, 1) := by decide +kernel
theorem dL_holds_505 : decode cL_holds 505 = .ok (.iload 16, 2) := by decide +kernel
theorem dL_holds_507 : decode cL_holds 507 = .ok (.iconst 3, 1) := by decide +kernel
theorem dL_holds_508 : decode cL_holds 508 = .ok (.iconst 0, 1) := by decide +kernel
theorem dL_holds_509 : decode cL_holds 509 = .ok (.invokestatic 168, 3) := by decide +kernel
theorem dL_holds_512 : decode cL_holds 512 = .ok (.iload 15, 2) := by decide +kernel
theorem dL_holds_514 : decode cL_holds 514 = .ok (.iconst 2, 1) := by decide +kernel
theorem dL_holds_515 : decode cL_holds 515 = .ok (.iadd, 1) := by decide +kernel
theorem dL_holds_516 : decode cL_holds 516 = .ok (.iconst 4, 1) := by decide +kernel
theorem dL_holds_517 : decode cL_holds 517 = .ok (.irem, 1) := by decide +kernel
theorem dL_holds_518 : decode cL_holds 518 = .ok (.ishr, 1) := by decide +kernel
theorem dL_holds_519 : decode cL_holds 519 = .ok (.iconst 1, 1) := by decide +kernel
theorem dL_holds_520 : decode cL_holds 520 = .ok (.iand, 1) := by decide +kernel
theorem dL_holds_521 : decode cL_holds 521 = .ok (.iconst 1, 1) := by decide +kernel
theorem dL_holds_522 : decode cL_holds 522 = .ok (.if_icmp .ne 7, 3) := by decide +kernel
theorem dL_holds_525 : decode cL_holds 525 = .ok (.iconst 1, 1) := by decide +kernel
theorem dL_holds_526 : decode cL_holds 526 = .ok (.goto 4, 3) := by decide +kernel
theorem dL_holds_529 : decode cL_holds 529 = .ok (.iconst 0, 1) := by decide +kernel
theorem dL_holds_530 : decode cL_holds 530 = .ok (.iload 18, 2) := by decide +kernel
theorem dL_holds_532 : decode cL_holds 532 = .ok (.if_icmp .ne 36, 3) := by decide +kernel
theorem dL_holds_535 : decode cL_holds 535 = .ok (.iload 19, 2) := by decide +kernel
theorem dL_holds_537 : decode cL_holds 537 = .ok (.ifCond .eq 27, 3) := by decide +kernel
theorem dL_holds_540 : decode cL_holds 540 = .ok (.iload 18, 2) := by decide +kernel
theorem dL_holds_542 : decode cL_holds 542 = .ok (.ifCond .ne 22, 3) := by decide +kernel
theorem dL_holds_545 : decode cL_holds 545 = .ok (.iload 11, 2) := by decide +kernel
theorem dL_holds_547 : decode cL_holds 547 = .ok (.ifCond .eq 17, 3) := by decide +kernel
theorem dL_holds_550 : decode cL_holds 550 = .ok (.aload_n 0, 1) := by decide +kernel
theorem dL_holds_551 : decode cL_holds 551 = .ok (.iconst 3, 1) := by decide +kernel
theorem dL_holds_552 : decode cL_holds 552 = .ok (.iload 16, 2) := by decide +kernel
theorem dL_holds_554 : decode cL_holds 554 = .ok (.iconst 2, 1) := by decide +kernel
theorem dL_holds_555 : decode cL_holds 555 = .ok (.iconst 0, 1) := by decide +kernel
theorem dL_holds_556 : decode cL_holds 556 = .ok (.invokestatic 168, 3) := by decide +kernel
theorem dL_holds_559 : decode cL_holds 559 = .ok (.iload 14, 2) := by decide +kernel
theorem dL_holds_561 : decode cL_holds 561 = .ok (.if_icmp .ne 7, 3) := by decide +kernel
theorem dL_holds_564 : decode cL_holds 564 = .ok (.iconst 1, 1) := by decide +kernel
theorem dL_holds_565 : decode cL_holds 565 = .ok (.goto 4, 3) := by decide +kernel
theorem dL_holds_568 : decode cL_holds 568 = .ok (.iconst 0, 1) := by decide +kernel
theorem dL_holds_569 : decode cL_holds 569 = .ok (.istore 9, 2) := by decide +kernel
theorem dL_holds_571 : decode cL_holds 571 = .ok (.iinc 15 1, 3) := by decide +kernel
theorem dL_holds_574 : decode cL_holds 574 = .ok (.goto (-364), 3) := by decide +kernel
theorem dL_holds_577 : decode cL_holds 577 = .ok (.iload 9, 2) := by decide +kernel
theorem dL_holds_579 : decode cL_holds 579 = .ok (.ifCond .eq 73, 3) := by decide +kernel
theorem dL_holds_582 : decode cL_holds 582 = .ok (.aload_n 0, 1) := by decide +kernel
theorem dL_holds_583 : decode cL_holds 583 = .ok (.iconst 3, 1) := by decide +kernel
theorem dL_holds_584 : decode cL_holds 584 = .ok (.iload 10, 2) := by decide +kernel
theorem dL_holds_586 : decode cL_holds 586 = .ok (.iconst 0, 1) := by decide +kernel
theorem dL_holds_587 : decode cL_holds 587 = .ok (.iconst 0, 1) := by decide +kernel
theorem dL_holds_588 : decode cL_holds 588 = .ok (.invokestatic 168, 3) := by decide +kernel
theorem dL_holds_591 : decode cL_holds 591 = .ok (.iload 11, 2) := by decide +kernel
theorem dL_holds_593 : decode cL_holds 593 = .ok (.if_icmp .ne 59, 3) := by decide +kernel
theorem dL_holds_596 : decode cL_holds 596 = .ok (.aload_n 0, 1) := by decide +kernel
theorem dL_holds_597 : decode cL_holds 597 = .ok (.iconst 3, 1) := by decide +kernel
theorem dL_holds_598 : decode cL_holds 598 = .ok (.iload 10, 2) := by decide +kernel
theorem dL_holds_600 : decode cL_holds 600 = .ok (.iconst 1, 1) := by decide +kernel
theorem dL_holds_601 : decode cL_holds 601 = .ok (.iconst 0, 1) := by decide +kernel
theorem dL_holds_602 : decode cL_holds 602 = .ok (.invokestatic 168, 3) := by decide +kernel
theorem dL_holds_605 : decode cL_holds 605 = .ok (.iload 12, 2) := by decide +kernel
theorem dL_holds_607 : decode cL_holds 607 = .ok (.if_icmp .ne 45, 3) := by decide +kernel
theorem dL_holds_610 : decode cL_holds 610 = .ok (.iload 14, 2) := by decide +kernel
theorem dL_holds_612 : decode cL_holds 612 = .ok (.ifCond .le 7, 3) := by decide +kernel
theorem dL_holds_615 : decode cL_holds 615 = .ok (.iconst 1, 1) := by decide +kernel
theorem dL_holds_616 : decode cL_holds 616 = .ok (.goto 4, 3) := by decide +kernel
theorem dL_holds_619 : decode cL_holds 619 = .ok (.iconst 0, 1) := by decide +kernel
theorem dL_holds_620 : decode cL_holds 620 = .ok (.iload 11, 2) := by decide +kernel
theorem dL_holds_622 : decode cL_holds 622 = .ok (.iconst 1, 1) := by decide +kernel
theorem dL_holds_623 : decode cL_holds 623 = .ok (.if_icmp .ne 7, 3) := by decide +kernel
theorem dL_holds_626 : decode cL_holds 626 = .ok (.iconst 1, 1) := by decide +kernel
theorem dL_holds_627 : decode cL_holds 627 = .ok (.goto 4, 3) := by decide +kernel
theorem dL_holds_630 : decode cL_holds 630 = .ok (.iconst 0, 1) := by decide +kernel
theorem dL_holds_631 : decode cL_holds 631 = .ok (.if_icmp .ne 21, 3) := by decide +kernel
theorem dL_holds_634 : decode cL_holds 634 = .ok (.iload 14, 2) := by decide +kernel
theorem dL_holds_636 : decode cL_holds 636 = .ok (.aload_n 0, 1) := by decide +kernel
theorem dL_holds_637 : decode cL_holds 637 = .ok (.iconst 2, 1) := by decide +kernel
theorem dL_holds_638 : decode cL_holds 638 = .ok (.bipush 7, 2) := by decide +kernel
theorem dL_holds_640 : decode cL_holds 640 = .ok (.iconst 0, 1) := by decide +kernel
theorem dL_holds_641 : decode cL_holds 641 = .ok (.iconst 0, 1) := by decide +kernel
theorem dL_holds_642 : decode cL_holds 642 = .ok (.invokestatic 168, 3) := by decide +kernel
theorem dL_holds_645 : decode cL_holds 645 = .ok (.if_icmp .gt 7, 3) := by decide +kernel
theorem dL_holds_648 : decode cL_holds 648 = .ok (.iconst 1, 1) := by decide +kernel
theorem dL_holds_649 : decode cL_holds 649 = .ok (.goto 4, 3) := by decide +kernel
theorem dL_holds_652 : decode cL_holds 652 = .ok (.iconst 0, 1) := by decide +kernel
theorem dL_holds_653 : decode cL_holds 653 = .ok (.istore 9, 2) := by decide +kernel
theorem dL_holds_655 : decode cL_holds 655 = .ok (.iinc 10 1, 3) := by decide +kernel
theorem dL_holds_658 : decode cL_holds 658 = .ok (.goto (-504), 3) := by decide +kernel
theorem dL_holds_661 : decode cL_holds 661 = .ok (.aload_n 0, 1) := by decide +kernel
theorem dL_holds_662 : decode cL_holds 662 = .ok (.iconst 2, 1) := by decide +kernel
theorem dL_holds_663 : decode cL_holds 663 = .ok (.bipush 6, 2) := by decide +kernel
theorem dL_holds_665 : decode cL_holds 665 = .ok (.iconst 0, 1) := by decide +kernel
theorem dL_holds_666 : decode cL_holds 666 = .ok (.iconst 0, 1) := by decide +kernel
theorem dL_holds_667 : decode cL_holds 667 = .ok (.invokestatic 168, 3) := by decide +kernel
theorem dL_holds_670 : decode cL_holds 670 = .ok (.istore 10, 2) := by decide +kernel
theorem dL_holds_672 : decode cL_holds 672 = .ok (.iload 9, 2) := by decide +kernel
theorem dL_holds_674 : decode cL_holds 674 = .ok (.ifCond .eq 96, 3) := by decide +kernel
theorem dL_holds_677 : decode cL_holds 677 = .ok (.aload_n 0, 1) := by decide +kernel
theorem dL_holds_678 : decode cL_holds 678 = .ok (.iconst 2, 1) := by decide +kernel
theorem dL_holds_679 : decode cL_holds 679 = .ok (.iconst 2, 1) := by decide +kernel
theorem dL_holds_680 : decode cL_holds 680 = .ok (.iconst 0, 1) := by decide +kernel
theorem dL_holds_681 : decode cL_holds 681 = .ok (.iconst 0, 1) := by decide +kernel
theorem dL_holds_682 : decode cL_holds 682 = .ok (.invokestatic 168, 3) := by decide +kernel
theorem dL_holds_685 : decode cL_holds 685 = .ok (.iload 6, 2) := by decide +kernel
theorem dL_holds_687 : decode cL_holds 687 = .ok (.if_icmp .ne 83, 3) := by decide +kernel
theorem dL_holds_690 : decode cL_holds 690 = .ok (.aload_n 0, 1) := by decide +kernel
theorem dL_holds_691 : decode cL_holds 691 = .ok (.iconst 2, 1) := by decide +kernel
theorem dL_holds_692 : decode cL_holds 692 = .ok (.iconst 3, 1) := by decide +kernel
theorem dL_holds_693 : decode cL_holds 693 = .ok (.iconst 0, 1) := by decide +kernel
theorem dL_holds_694 : decode cL_holds 694 = .ok (.iconst 0, 1) := by decide +kernel
theorem dL_holds_695 : decode cL_holds 695 = .ok (.invokestatic 168, 3) := by decide +kernel
theorem dL_holds_698 : decode cL_holds 698 = .ok (.iload 7, 2) := by decide +kernel
theorem dL_holds_700 : decode cL_holds 700 = .ok (.iconst 2, 1) := by decide +kernel
theorem dL_holds_701 : decode cL_holds 701 = .ok (.idiv, 1) := by decide +kernel
theorem dL_holds_702 : decode cL_holds 702 = .ok (.if_icmp .ne 68, 3) := by decide +kernel
theorem dL_holds_705 : decode cL_holds 705 = .ok (.iload 7, 2) := by decide +kernel
theorem dL_holds_707 : decode cL_holds 707 = .ok (.iconst 2, 1) := by decide +kernel
theorem dL_holds_708 : decode cL_holds 708 = .ok (.irem, 1) := by decide +kernel
theorem dL_holds_709 : decode cL_holds 709 = .ok (.ifCond .ne 61, 3) := by decide +kernel
theorem dL_holds_712 : decode cL_holds 712 = .ok (.iload 10, 2) := by decide +kernel
theorem dL_holds_714 : decode cL_holds 714 = .ok (.ifCond .ne 7, 3) := by decide +kernel
theorem dL_holds_717 : decode cL_holds 717 = .ok (.iconst 1, 1) := by decide +kernel
theorem dL_holds_718 : decode cL_holds 718 = .ok (.goto 4, 3) := by decide +kernel
theorem dL_holds_721 : decode cL_holds 721 = .ok (.iconst 0, 1) := by decide +kernel
theorem dL_holds_722 : decode cL_holds 722 = .ok (.iload 6, 2) := by decide +kernel
theorem dL_holds_724 : decode cL_holds 724 = .ok (.ifCond .ne 7, 3) := by decide +kernel
theorem dL_holds_727 : decode cL_holds 727 = .ok (.iconst 1, 1) := by decide +kernel
theorem dL_holds_728 : decode cL_holds 728 = .ok (.goto 4, 3) := by decide +kernel
theorem dL_holds_731 : decode cL_holds 731 = .ok (.iconst 0, 1) := by decide +kernel
theorem dL_holds_732 : decode cL_holds 732 = .ok (.if_icmp .ne 38, 3) := by decide +kernel
theorem dL_holds_735 : decode cL_holds 735 = .ok (.iload 10, 2) := by decide +kernel
theorem dL_holds_737 : decode cL_holds 737 = .ok (.iload 6, 2) := by decide +kernel
theorem dL_holds_739 : decode cL_holds 739 = .ok (.if_icmp .gt 31, 3) := by decide +kernel
theorem dL_holds_742 : decode cL_holds 742 = .ok (.aload_n 0, 1) := by decide +kernel
theorem dL_holds_743 : decode cL_holds 743 = .ok (.iconst 2, 1) := by decide +kernel
theorem dL_holds_744 : decode cL_holds 744 = .ok (.bipush 7, 2) := by decide +kernel
theorem dL_holds_746 : decode cL_holds 746 = .ok (.iconst 0, 1) := by decide +kernel
theorem dL_holds_747 : decode cL_holds 747 = .ok (.iconst 0, 1) := by decide +kernel
theorem dL_holds_748 : decode cL_holds 748 = .ok (.invokestatic 168, 3) := by decide +kernel
theorem dL_holds_751 : decode cL_holds 751 = .ok (.iload 6, 2) := by decide +kernel
theorem dL_holds_753 : decode cL_holds 753 = .ok (.if_icmp .gt 17, 3) := by decide +kernel
theorem dL_holds_756 : decode cL_holds 756 = .ok (.iload 8, 2) := by decide +kernel
theorem dL_holds_758 : decode cL_holds 758 = .ok (.iconst 2, 1) := by decide +kernel
theorem dL_holds_759 : decode cL_holds 759 = .ok (.iload_n 1, 1) := by decide +kernel
theorem dL_holds_760 : decode cL_holds 760 = .ok (.iload_n 2, 1) := by decide +kernel
theorem dL_holds_761 : decode cL_holds 761 = .ok (.iadd, 1) := by decide +kernel
theorem dL_holds_762 : decode cL_holds 762 = .ok (.imul, 1) := by decide +kernel
theorem dL_holds_763 : decode cL_holds 763 = .ok (.if_icmp .gt 7, 3) := by decide +kernel
theorem dL_holds_766 : decode cL_holds 766 = .ok (.iconst 1, 1) := by decide +kernel
theorem dL_holds_767 : decode cL_holds 767 = .ok (.goto 4, 3) := by decide +kernel
theorem dL_holds_770 : decode cL_holds 770 = .ok (.iconst 0, 1) := by decide +kernel
theorem dL_holds_771 : decode cL_holds 771 = .ok (.ireturn, 1) := by decide +kernel
