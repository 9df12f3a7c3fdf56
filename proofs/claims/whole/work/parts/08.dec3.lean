theorem dX11_init_0 : decode cX11_init 0 = .ok (.aload_n 0, 1) := by decide +kernel
theorem dX11_init_1 : decode cX11_init 1 = .ok (.invokespecial 1, 3) := by decide +kernel
theorem dX11_init_4 : decode cX11_init 4 = .ok (.aload_n 0, 1) := by decide +kernel
theorem dX11_init_5 : decode cX11_init 5 = .ok (.iconst 5, 1) := by decide +kernel
theorem dX11_init_6 : decode cX11_init 6 = .ok (.anewarray 7, 3) := by decide +kernel
theorem dX11_init_9 : decode cX11_init 9 = .ok (.dup, 1) := by decide +kernel
theorem dX11_init_10 : decode cX11_init 10 = .ok (.iconst 0, 1) := by decide +kernel
theorem dX11_init_11 : decode cX11_init 11 = .ok (.ldc 9, 2) := by decide +kernel
theorem dX11_init_13 : decode cX11_init 13 = .ok (.aastore, 1) := by decide +kernel
theorem dX11_init_14 : decode cX11_init 14 = .ok (.dup, 1) := by decide +kernel
theorem dX11_init_15 : decode cX11_init 15 = .ok (.iconst 1, 1) := by decide +kernel
theorem dX11_init_16 : decode cX11_init 16 = .ok (.ldc 11, 2) := by decide +kernel
theorem dX11_init_18 : decode cX11_init 18 = .ok (.aastore, 1) := by decide +kernel
theorem dX11_init_19 : decode cX11_init 19 = .ok (.dup, 1) := by decide +kernel
theorem dX11_init_20 : decode cX11_init 20 = .ok (.iconst 2, 1) := by decide +kernel
theorem dX11_init_21 : decode cX11_init 21 = .ok (.ldc 13, 2) := by decide +kernel
theorem dX11_init_23 : decode cX11_init 23 = .ok (.aastore, 1) := by decide +kernel
theorem dX11_init_24 : decode cX11_init 24 = .ok (.dup, 1) := by decide +kernel
theorem dX11_init_25 : decode cX11_init 25 = .ok (.iconst 3, 1) := by decide +kernel
theorem dX11_init_26 : decode cX11_init 26 = .ok (.ldc 15, 2) := by decide +kernel
theorem dX11_init_28 : decode cX11_init 28 = .ok (.aastore, 1) := by decide +kernel
theorem dX11_init_29 : decode cX11_init 29 = .ok (.dup, 1) := by decide +kernel
theorem dX11_init_30 : decode cX11_init 30 = .ok (.iconst 4, 1) := by decide +kernel
theorem dX11_init_31 : decode cX11_init 31 = .ok (.ldc 17, 2) := by decide +kernel
theorem dX11_init_33 : decode cX11_init 33 = .ok (.aastore, 1) := by decide +kernel
theorem dX11_init_34 : decode cX11_init 34 = .ok (.putfield 19, 3) := by decide +kernel
theorem dX11_init_37 : decode cX11_init 37 = .ok (.aload_n 0, 1) := by decide +kernel
theorem dX11_init_38 : decode cX11_init 38 = .ok (.bipush 7, 2) := by decide +kernel
theorem dX11_init_40 : decode cX11_init 40 = .ok (.anewarray 7, 3) := by decide +kernel
theorem dX11_init_43 : decode cX11_init 43 = .ok (.dup, 1) := by decide +kernel
theorem dX11_init_44 : decode cX11_init 44 = .ok (.iconst 0, 1) := by decide +kernel
theorem dX11_init_45 : decode cX11_init 45 = .ok (.ldc 25, 2) := by decide +kernel
theorem dX11_init_47 : decode cX11_init 47 = .ok (.aastore, 1) := by decide +kernel
theorem dX11_init_48 : decode cX11_init 48 = .ok (.dup, 1) := by decide +kernel
theorem dX11_init_49 : decode cX11_init 49 = .ok (.iconst 1, 1) := by decide +kernel
theorem dX11_init_50 : decode cX11_init 50 = .ok (.ldc 11, 2) := by decide +kernel
theorem dX11_init_52 : decode cX11_init 52 = .ok (.aastore, 1) := by decide +kernel
theorem dX11_init_53 : decode cX11_init 53 = .ok (.dup, 1) := by decide +kernel
theorem dX11_init_54 : decode cX11_init 54 = .ok (.iconst 2, 1) := by decide +kernel
theorem dX11_init_55 : decode cX11_init 55 = .ok (.ldc 27, 2) := by decide +kernel
theorem dX11_init_57 : decode cX11_init 57 = .ok (.aastore, 1) := by decide +kernel
theorem dX11_init_58 : decode cX11_init 58 = .ok (.dup, 1) := by decide +kernel
theorem dX11_init_59 : decode cX11_init 59 = .ok (.iconst 3, 1) := by decide +kernel
theorem dX11_init_60 : decode cX11_init 60 = .ok (.ldc 29, 2) := by decide +kernel
theorem dX11_init_62 : decode cX11_init 62 = .ok (.aastore, 1) := by decide +kernel
theorem dX11_init_63 : decode cX11_init 63 = .ok (.dup, 1) := by decide +kernel
theorem dX11_init_64 : decode cX11_init 64 = .ok (.iconst 4, 1) := by decide +kernel
theorem dX11_init_65 : decode cX11_init 65 = .ok (.ldc 31, 2) := by decide +kernel
theorem dX11_init_67 : decode cX11_init 67 = .ok (.aastore, 1) := by decide +kernel
theorem dX11_init_68 : decode cX11_init 68 = .ok (.dup, 1) := by decide +kernel
theorem dX11_init_69 : decode cX11_init 69 = .ok (.iconst 5, 1) := by decide +kernel
theorem dX11_init_70 : decode cX11_init 70 = .ok (.ldc 33, 2) := by decide +kernel
theorem dX11_init_72 : decode cX11_init 72 = .ok (.aastore, 1) := by decide +kernel
theorem dX11_init_73 : decode cX11_init 73 = .ok (.dup, 1) := by decide +kernel
theorem dX11_init_74 : decode cX11_init 74 = .ok (.bipush 6, 2) := by decide +kernel
theorem dX11_init_76 : decode cX11_init 76 = .ok (.ldc 35, 2) := by decide +kernel
theorem dX11_init_78 : decode cX11_init 78 = .ok (.aastore, 1) := by decide +kernel
theorem dX11_init_79 : decode cX11_init 79 = .ok (.putfield 37, 3) := by decide +kernel
theorem dX11_init_82 : decode cX11_init 82 = .ok (.aload_n 0, 1) := by decide +kernel
theorem dX11_init_83 : decode cX11_init 83 = .ok (.bipush 8, 2) := by decide +kernel
theorem dX11_init_85 : decode cX11_init 85 = .ok (.newarray .int, 2) := by decide +kernel
theorem dX11_init_87 : decode cX11_init 87 = .ok (.dup, 1) := by decide +kernel
theorem dX11_init_88 : decode cX11_init 88 = .ok (.iconst 0, 1) := by decide +kernel
theorem dX11_init_89 : decode cX11_init 89 = .ok (.iconst 1, 1) := by decide +kernel
theorem dX11_init_90 : decode cX11_init 90 = .ok (.iastore, 1) := by decide +kernel
theorem dX11_init_91 : decode cX11_init 91 = .ok (.dup, 1) := by decide +kernel
theorem dX11_init_92 : decode cX11_init 92 = .ok (.iconst 1, 1) := by decide +kernel
theorem dX11_init_93 : decode cX11_init 93 = .ok (.iconst 0, 1) := by decide +kernel
theorem dX11_init_94 : decode cX11_init 94 = .ok (.iastore, 1) := by decide +kernel
theorem dX11_init_95 : decode cX11_init 95 = .ok (.dup, 1) := by decide +kernel
theorem dX11_init_96 : decode cX11_init 96 = .ok (.iconst 2, 1) := by decide +kernel
theorem dX11_init_97 : decode cX11_init 97 = .ok (.iconst 0, 1) := by decide +kernel
theorem dX11_init_98 : decode cX11_init 98 = .ok (.iastore, 1) := by decide +kernel
theorem dX11_init_99 : decode cX11_init 99 = .ok (.dup, 1) := by decide +kernel
theorem dX11_init_100 : decode cX11_init 100 = .ok (.iconst 3, 1) := by decide +kernel
theorem dX11_init_101 : decode cX11_init 101 = .ok (.iconst 0, 1) := by decide +kernel
theorem dX11_init_102 : decode cX11_init 102 = .ok (.iastore, 1) := by decide +kernel
theorem dX11_init_103 : decode cX11_init 103 = .ok (.dup, 1) := by decide +kernel
theorem dX11_init_104 : decode cX11_init 104 = .ok (.iconst 4, 1) := by decide +kernel
theorem dX11_init_105 : decode cX11_init 105 = .ok (.iconst 1, 1) := by decide +kernel
theorem dX11_init_106 : decode cX11_init 106 = .ok (.iastore, 1) := by decide +kernel
theorem dX11_init_107 : decode cX11_init 107 = .ok (.dup, 1) := by decide +kernel
theorem dX11_init_108 : decode cX11_init 108 = .ok (.iconst 5, 1) := by decide +kernel
theorem dX11_init_109 : decode cX11_init 109 = .ok (.iconst 0, 1) := by decide +kernel
theorem dX11_init_110 : decode cX11_init 110 = .ok (.iastore, 1) := by decide +kernel
theorem dX11_init_111 : decode cX11_init 111 = .ok (.dup, 1) := by decide +kernel
theorem dX11_init_112 : decode cX11_init 112 = .ok (.bipush 6, 2) := by decide +kernel
theorem dX11_init_114 : decode cX11_init 114 = .ok (.iconst 0, 1) := by decide +kernel
theorem dX11_init_115 : decode cX11_init 115 = .ok (.iastore, 1) := by decide +kernel
theorem dX11_init_116 : decode cX11_init 116 = .ok (.dup, 1) := by decide +kernel
theorem dX11_init_117 : decode cX11_init 117 = .ok (.bipush 7, 2) := by decide +kernel
theorem dX11_init_119 : decode cX11_init 119 = .ok (.iconst 0, 1) := by decide +kernel
theorem dX11_init_120 : decode cX11_init 120 = .ok (.iastore, 1) := by decide +kernel
theorem dX11_init_121 : decode cX11_init 121 = .ok (.putfield 40, 3) := by decide +kernel
theorem dX11_init_124 : decode cX11_init 124 = .ok (.aload_n 0, 1) := by decide +kernel
theorem dX11_init_125 : decode cX11_init 125 = .ok (.bipush 32, 2) := by decide +kernel
theorem dX11_init_127 : decode cX11_init 127 = .ok (.newarray .int, 2) := by decide +kernel
theorem dX11_init_129 : decode cX11_init 129 = .ok (.putfield 44, 3) := by decide +kernel
theorem dX11_init_132 : decode cX11_init 132 = .ok (.aload_n 0, 1) := by decide +kernel
theorem dX11_init_133 : decode cX11_init 133 = .ok (.bipush 32, 2) := by decide +kernel
theorem dX11_init_135 : decode cX11_init 135 = .ok (.newarray .int, 2) := by decide +kernel
theorem dX11_init_137 : decode cX11_init 137 = .ok (.putfield 47, 3) := by decide +kernel
theorem dX11_init_140 : decode cX11_init 140 = .ok (.aload_n 0, 1) := by decide +kernel
theorem dX11_init_141 : decode cX11_init 141 = .ok (.sipush 200, 3) := by decide +kernel
theorem dX11_init_144 : decode cX11_init 144 = .ok (.newarray .int, 2) := by decide +kernel
theorem dX11_init_146 : decode cX11_init 146 = .ok (.putfield 50, 3) := by decide +kernel
theorem dX11_init_149 : decode cX11_init 149 = .ok (.aload_n 0, 1) := by decide +kernel
theorem dX11_init_150 : decode cX11_init 150 = .ok (.bipush 32, 2) := by decide +kernel
theorem dX11_init_152 : decode cX11_init 152 = .ok (.newarray .boolean, 2) := by decide +kernel
theorem dX11_init_154 : decode cX11_init 154 = .ok (.putfield 53, 3) := by decide +kernel
theorem dX11_init_157 : decode cX11_init 157 = .ok (.aload_n 0, 1) := by decide +kernel
theorem dX11_init_158 : decode cX11_init 158 = .ok (.bipush 20, 2) := by decide +kernel
theorem dX11_init_160 : decode cX11_init 160 = .ok (.newarray .int, 2) := by decide +kernel
theorem dX11_init_162 : decode cX11_init 162 = .ok (.putfield 57, 3) := by decide +kernel
theorem dX11_init_165 : decode cX11_init 165 = .ok (.aload_n 0, 1) := by decide +kernel
theorem dX11_init_166 : decode cX11_init 166 = .ok (.bipush 20, 2) := by decide +kernel
theorem dX11_init_168 : decode cX11_init 168 = .ok (.newarray .int, 2) := by decide +kernel
theorem dX11_init_170 : decode cX11_init 170 = .ok (.putfield 60, 3) := by decide +kernel
theorem dX11_init_173 : decode cX11_init 173 = .ok (.aload_n 0, 1) := by decide +kernel
theorem dX11_init_174 : decode cX11_init 174 = .ok (.sipush 1400, 3) := by decide +kernel
theorem dX11_init_177 : decode cX11_init 177 = .ok (.newarray .int, 2) := by decide +kernel
theorem dX11_init_179 : decode cX11_init 179 = .ok (.putfield 63, 3) := by decide +kernel
theorem dX11_init_182 : decode cX11_init 182 = .ok (.aload_n 0, 1) := by decide +kernel
theorem dX11_init_183 : decode cX11_init 183 = .ok (.iconst 4, 1) := by decide +kernel
theorem dX11_init_184 : decode cX11_init 184 = .ok (.newarray .int, 2) := by decide +kernel
theorem dX11_init_186 : decode cX11_init 186 = .ok (.putfield 66, 3) := by decide +kernel
theorem dX11_init_189 : decode cX11_init 189 = .ok (.aload_n 0, 1) := by decide +kernel
theorem dX11_init_190 : decode cX11_init 190 = .ok (.sipush 200, 3) := by decide +kernel
theorem dX11_init_193 : decode cX11_init 193 = .ok (.newarray .int, 2) := by decide +kernel
theorem dX11_init_195 : decode cX11_init 195 = .ok (.putfield 69, 3) := by decide +kernel
theorem dX11_init_198 : decode cX11_init 198 = .ok (.aload_n 0, 1) := by decide +kernel
theorem dX11_init_199 : decode cX11_init 199 = .ok (.sipush 200, 3) := by decide +kernel
theorem dX11_init_202 : decode cX11_init 202 = .ok (.newarray .int, 2) := by decide +kernel
theorem dX11_init_204 : decode cX11_init 204 = .ok (.putfield 72, 3) := by decide +kernel
theorem dX11_init_207 : decode cX11_init 207 = .ok (.aload_n 0, 1) := by decide +kernel
theorem dX11_init_208 : decode cX11_init 208 = .ok (.sipush 200, 3) := by decide +kernel
theorem dX11_init_211 : decode cX11_init 211 = .ok (.newarray .int, 2) := by decide +kernel
theorem dX11_init_213 : decode cX11_init 213 = .ok (.putfield 75, 3) := by decide +kernel
theorem dX11_init_216 : decode cX11_init 216 = .ok (.aload_n 0, 1) := by decide +kernel
theorem dX11_init_217 : decode cX11_init 217 = .ok (.sipush 200, 3) := by decide +kernel
theorem dX11_init_220 : decode cX11_init 220 = .ok (.newarray .int, 2) := by decide +kernel
theorem dX11_init_222 : decode cX11_init 222 = .ok (.putfield 78, 3) := by decide +kernel
theorem dX11_init_225 : decode cX11_init 225 = .ok (.aload_n 0, 1) := by decide +kernel
theorem dX11_init_226 : decode cX11_init 226 = .ok (.sipush 200, 3) := by decide +kernel
theorem dX11_init_229 : decode cX11_init 229 = .ok (.newarray .int, 2) := by decide +kernel
theorem dX11_init_231 : decode cX11_init 231 = .ok (.putfield 80, 3) := by decide +kernel
theorem dX11_init_234 : decode cX11_init 234 = .ok (.aload_n 0, 1) := by decide +kernel
theorem dX11_init_235 : decode cX11_init 235 = .ok (.sipush 200, 3) := by decide +kernel
theorem dX11_init_238 : decode cX11_init 238 = .ok (.newarray .boolean, 2) := by decide +kernel
theorem dX11_init_240 : decode cX11_init 240 = .ok (.putfield 83, 3) := by decide +kernel
theorem dX11_init_243 : decode cX11_init 243 = .ok (.aload_n 0, 1) := by decide +kernel
theorem dX11_init_244 : decode cX11_init 244 = .ok (.bipush 40, 2) := by decide +kernel
theorem dX11_init_246 : decode cX11_init 246 = .ok (.newarray .int, 2) := by decide +kernel
theorem dX11_init_248 : decode cX11_init 248 = .ok (.putfield 86, 3) := by decide +kernel
theorem dX11_init_251 : decode cX11_init 251 = .ok (.aload_n 0, 1) := by decide +kernel
theorem dX11_init_252 : decode cX11_init 252 = .ok (.bipush 40, 2) := by decide +kernel
theorem dX11_init_254 : decode cX11_init 254 = .ok (.newarray .int, 2) := by decide +kernel
theorem dX11_init_256 : decode cX11_init 256 = .ok (.putfield 89, 3) := by decide +kernel
theorem dX11_init_259 : decode cX11_init 259 = .ok (.aload_n 0, 1) := by decide +kernel
theorem dX11_init_260 : decode cX11_init 260 = .ok (.bipush 40, 2) := by decide +kernel
theorem dX11_init_262 : decode cX11_init 262 = .ok (.newarray .int, 2) := by decide +kernel
theorem dX11_init_264 : decode cX11_init 264 = .ok (.putfield 92, 3) := by decide +kernel
theorem dX11_init_267 : decode cX11_init 267 = .ok (.aload_n 0, 1) := by decide +kernel
theorem dX11_init_268 : decode cX11_init 268 = .ok (.sipush 700, 3) := by decide +kernel
theorem dX11_init_271 : decode cX11_init 271 = .ok (.newarray .int, 2) := by decide +kernel
theorem dX11_init_273 : decode cX11_init 273 = .ok (.putfield 95, 3) := by decide +kernel
theorem dX11_init_276 : decode cX11_init 276 = .ok (.aload_n 0, 1) := by decide +kernel
theorem dX11_init_277 : decode cX11_init 277 = .ok (.iconst (-1), 1) := by decide +kernel
theorem dX11_init_278 : decode cX11_init 278 = .ok (.putfield 98, 3) := by decide +kernel
theorem dX11_init_281 : decode cX11_init 281 = .ok (.aload_n 0, 1) := by decide +kernel
theorem dX11_init_282 : decode cX11_init 282 = .ok (.bipush 7, 2) := by decide +kernel
theorem dX11_init_284 : decode cX11_init 284 = .ok (.newarray .int, 2) := by decide +kernel
theorem dX11_init_286 : decode cX11_init 286 = .ok (.putfield 102, 3) := by decide +kernel
theorem dX11_init_289 : decode cX11_init 289 = .ok (.aload_n 0, 1) := by decide +kernel
theorem dX11_init_290 : decode cX11_init 290 = .ok (.bipush 60, 2) := by decide +kernel
theorem dX11_init_292 : decode cX11_init 292 = .ok (.newarray .int, 2) := by decide +kernel
theorem dX11_init_294 : decode cX11_init 294 = .ok (.putfield 105, 3) := by decide +kernel
theorem dX11_init_297 : decode cX11_init 297 = .ok (.aload_n 0, 1) := by decide +kernel
theorem dX11_init_298 : decode cX11_init 298 = .ok (.bipush 10, 2) := by decide +kernel
theorem dX11_init_300 : decode cX11_init 300 = .ok (.newarray .int, 2) := by decide +kernel
theorem dX11_init_302 : decode cX11_init 302 = .ok (.putfield 108, 3) := by decide +kernel
theorem dX11_init_305 : decode cX11_init 305 = .ok (.aload_n 0, 1) := by decide +kernel
theorem dX11_init_306 : decode cX11_init 306 = .ok (.bipush 10, 2) := by decide +kernel
theorem dX11_init_308 : decode cX11_init 308 = .ok (.newarray .int, 2) := by decide +kernel
theorem dX11_init_310 : decode cX11_init 310 = .ok (.putfield 111, 3) := by decide +kernel
theorem dX11_init_313 : decode cX11_init 313 = .ok (.aload_n 0, 1) := by decide +kernel
theorem dX11_init_314 : decode cX11_init 314 = .ok (.iconst (-1), 1) := by decide +kernel
theorem dX11_init_315 : decode cX11_init 315 = .ok (.putfield 114, 3) := by decide +kernel
theorem dX11_init_318 : decode cX11_init 318 = .ok (.aload_n 0, 1) := by decide +kernel
theorem dX11_init_319 : decode cX11_init 319 = .ok (.bipush 6, 2) := by decide +kernel
theorem dX11_init_321 : decode cX11_init 321 = .ok (.newarray .int, 2) := by decide +kernel
theorem dX11_init_323 : decode cX11_init 323 = .ok (.putfield 117, 3) := by decide +kernel
theorem dX11_init_326 : decode cX11_init 326 = .ok (.aload_n 0, 1) := by decide +kernel
theorem dX11_init_327 : decode cX11_init 327 = .ok (.sipush 1024, 3) := by decide +kernel
theorem dX11_init_330 : decode cX11_init 330 = .ok (.newarray .int, 2) := by decide +kernel
theorem dX11_init_332 : decode cX11_init 332 = .ok (.putfield 120, 3) := by decide +kernel
theorem dX11_init_335 : decode cX11_init 335 = .ok (.aload_n 0, 1) := by decide +kernel
theorem dX11_init_336 : decode cX11_init 336 = .ok (.sipush 200, 3) := by decide +kernel
theorem dX11_init_339 : decode cX11_init 339 = .ok (.newarray .int, 2) := by decide +kernel
theorem dX11_init_341 : decode cX11_init 341 = .ok (.putfield 123, 3) := by decide +kernel
theorem dX11_init_344 : decode cX11_init 344 = .ok (.aload_n 0, 1) := by decide +kernel
theorem dX11_init_345 : decode cX11_init 345 = .ok (.sipush 8241, 3) := by decide +kernel
theorem dX11_init_348 : decode cX11_init 348 = .ok (.newarray .int, 2) := by decide +kernel
theorem dX11_init_350 : decode cX11_init 350 = .ok (.putfield 126, 3) := by decide +kernel
theorem dX11_init_353 : decode cX11_init 353 = .ok (.aload_n 0, 1) := by decide +kernel
theorem dX11_init_354 : decode cX11_init 354 = .ok (.sipush 8241, 3) := by decide +kernel
theorem dX11_init_357 : decode cX11_init 357 = .ok (.newarray .int, 2) := by decide +kernel
theorem dX11_init_359 : decode cX11_init 359 = .ok (.putfield 129, 3) := by decide +kernel
theorem dX11_init_362 : decode cX11_init 362 = .ok (.aload_n 0, 1) := by decide +kernel
theorem dX11_init_363 : decode cX11_init 363 = .ok (.bipush 17, 2) := by decide +kernel
theorem dX11_init_365 : decode cX11_init 365 = .ok (.newarray .int, 2) := by decide +kernel
theorem dX11_init_367 : decode cX11_init 367 = .ok (.putfield 132, 3) := by decide +kernel
theorem dX11_init_370 : decode cX11_init 370 = .ok (.aload_n 0, 1) := by decide +kernel
theorem dX11_init_371 : decode cX11_init 371 = .ok (.iconst 3, 1) := by decide +kernel
theorem dX11_init_372 : decode cX11_init 372 = .ok (.newarray .int, 2) := by decide +kernel
theorem dX11_init_374 : decode cX11_init 374 = .ok (.putfield 135, 3) := by decide +kernel
theorem dX11_init_377 : decode cX11_init 377 = .ok (.aload_n 0, 1) := by decide +kernel
theorem dX11_init_378 : decode cX11_init 378 = .ok (.bipush 32, 2) := by decide +kernel
theorem dX11_init_380 : decode cX11_init 380 = .ok (.newarray .int, 2) := by decide +kernel
theorem dX11_init_382 : decode cX11_init 382 = .ok (.putfield 138, 3) := by decide +kernel
theorem dX11_init_385 : decode cX11_init 385 = .ok (.aload_n 0, 1) := by decide +kernel
theorem dX11_init_386 : decode cX11_init 386 = .ok (.sipush 1200, 3) := by decide +kernel
theorem dX11_init_389 : decode cX11_init 389 = .ok (.newarray .int, 2) := by decide +kernel
theorem dX11_init_391 : decode cX11_init 391 = .ok (.putfield 141, 3) := by decide +kernel
theorem dX11_init_394 : decode cX11_init 394 = .ok (.aload_n 0, 1) := by decide +kernel
theorem dX11_init_395 : decode cX11_init 395 = .ok (.bipush 40, 2) := by decide +kernel
theorem dX11_init_397 : decode cX11_init 397 = .ok (.newarray .int, 2) := by decide +kernel
theorem dX11_init_399 : decode cX11_init 399 = .ok (.putfield 144, 3) := by decide +kernel
theorem dX11_init_402 : decode cX11_init 402 = .ok (.aload_n 0, 1) := by decide +kernel
theorem dX11_init_403 : decode cX11_init 403 = .ok (.bipush 40, 2) := by decide +kernel
theorem dX11_init_405 : decode cX11_init 405 = .ok (.newarray .int, 2) := by decide +kernel
theorem dX11_init_407 : decode cX11_init 407 = .ok (.putfield 147, 3) := by decide +kernel
theorem dX11_init_410 : decode cX11_init 410 = .ok (.aload_n 0, 1) := by decide +kernel
theorem dX11_init_411 : decode cX11_init 411 = .ok (.bipush 40, 2) := by decide +kernel
theorem dX11_init_413 : decode cX11_init 413 = .ok (.newarray .int, 2) := by decide +kernel
theorem dX11_init_415 : decode cX11_init 415 = .ok (.putfield 150, 3) := by decide +kernel
theorem dX11_init_418 : decode cX11_init 418 = .ok (.aload_n 0, 1) := by decide +kernel
theorem dX11_init_419 : decode cX11_init 419 = .ok (.iconst 4, 1) := by decide +kernel
theorem dX11_init_420 : decode cX11_init 420 = .ok (.newarray .int, 2) := by decide +kernel
theorem dX11_init_422 : decode cX11_init 422 = .ok (.putfield 153, 3) := by decide +kernel
theorem dX11_init_425 : decode cX11_init 425 = .ok (.aload_n 0, 1) := by decide +kernel
theorem dX11_init_426 : decode cX11_init 426 = .ok (.iconst 0, 1) := by decide +kernel
theorem dX11_init_427 : decode cX11_init 427 = .ok (.invokevirtual 156, 3) := by decide +kernel
theorem dX11_init_430 : decode cX11_init 430 = .ok (.return_, 1) := by decide +kernel
theorem dX11_thrown_0 : decode cX11_thrown 0 = .ok (.aload_n 0, 1) := by decide +kernel
theorem dX11_thrown_1 : decode cX11_thrown 1 = .ok (.getfield 160, 3) := by decide +kernel
theorem dX11_thrown_4 : decode cX11_thrown 4 = .ok (.ireturn, 1) := by decide +kernel
theorem dX11_fail_0 : decode cX11_fail 0 = .ok (.aload_n 0, 1) := by decide +kernel
theorem dX11_fail_1 : decode cX11_fail 1 = .ok (.iload_n 1, 1) := by decide +kernel
theorem dX11_fail_2 : decode cX11_fail 2 = .ok (.putfield 160, 3) := by decide +kernel
theorem dX11_fail_5 : decode cX11_fail 5 = .ok (.iconst 0, 1) := by decide +kernel
theorem dX11_fail_6 : decode cX11_fail 6 = .ok (.ireturn, 1) := by decide +kernel
theorem dX11_isIn_0 : decode cX11_isIn 0 = .ok (.iload_n 0, 1) := by decide +kernel
theorem dX11_isIn_1 : decode cX11_isIn 1 = .ok (.iload_n 1, 1) := by decide +kernel
theorem dX11_isIn_2 : decode cX11_isIn 2 = .ok (.if_icmp .lt 12, 3) := by decide +kernel
theorem dX11_isIn_5 : decode cX11_isIn 5 = .ok (.iload_n 0, 1) := by decide +kernel
theorem dX11_isIn_6 : decode cX11_isIn 6 = .ok (.iload_n 2, 1) := by decide +kernel
theorem dX11_isIn_7 : decode cX11_isIn 7 = .ok (.if_icmp .gt 7, 3) := by decide +kernel
theorem dX11_isIn_10 : decode cX11_isIn 10 = .ok (.iconst 1, 1) := by decide +kernel
theorem dX11_isIn_11 : decode cX11_isIn 11 = .ok (.goto 4, 3) := by decide +kernel
theorem dX11_isIn_14 : decode cX11_isIn 14 = .ok (.iconst 0, 1) := by decide +kernel
theorem dX11_isIn_15 : decode cX11_isIn 15 = .ok (.ireturn, 1) := by decide +kernel
theorem dX11_clearWalks_0 : decode cX11_clearWalks 0 = .ok (.iconst 0, 1) := by decide +kernel
theorem dX11_clearWalks_1 : decode cX11_clearWalks 1 = .ok (.istore_n 2, 1) := by decide +kernel
theorem dX11_clearWalks_2 : decode cX11_clearWalks 2 = .ok (.iload_n 2, 1) := by decide +kernel
theorem dX11_clearWalks_3 : decode cX11_clearWalks 3 = .ok (.bipush 100, 2) := by decide +kernel
theorem dX11_clearWalks_5 : decode cX11_clearWalks 5 = .ok (.if_icmp .ge 37, 3) := by decide +kernel
theorem dX11_clearWalks_8 : decode cX11_clearWalks 8 = .ok (.aload_n 0, 1) := by decide +kernel
theorem dX11_clearWalks_9 : decode cX11_clearWalks 9 = .ok (.getfield 50, 3) := by decide +kernel
theorem dX11_clearWalks_12 : decode cX11_clearWalks 12 = .ok (.bipush 100, 2) := by decide +kernel
theorem dX11_clearWalks_14 : decode cX11_clearWalks 14 = .ok (.iload_n 1, 1) := by decide +kernel
theorem dX11_clearWalks_15 : decode cX11_clearWalks 15 = .ok (.imul, 1) := by decide +kernel
theorem dX11_clearWalks_16 : decode cX11_clearWalks 16 = .ok (.iload_n 2, 1) := by decide +kernel
theorem dX11_clearWalks_17 : decode cX11_clearWalks 17 = .ok (.iadd, 1) := by decide +kernel
theorem dX11_clearWalks_18 : decode cX11_clearWalks 18 = .ok (.iload_n 2, 1) := by decide +kernel
theorem dX11_clearWalks_19 : decode cX11_clearWalks 19 = .ok (.bipush 10, 2) := by decide +kernel
theorem dX11_clearWalks_21 : decode cX11_clearWalks 21 = .ok (.idiv, 1) := by decide +kernel
theorem dX11_clearWalks_22 : decode cX11_clearWalks 22 = .ok (.iload_n 2, 1) := by decide +kernel
theorem dX11_clearWalks_23 : decode cX11_clearWalks 23 = .ok (.bipush 10, 2) := by decide +kernel
theorem dX11_clearWalks_25 : decode cX11_clearWalks 25 = .ok (.irem, 1) := by decide +kernel
theorem dX11_clearWalks_26 : decode cX11_clearWalks 26 = .ok (.if_icmp .ne 7, 3) := by decide +kernel
theorem dX11_clearWalks_29 : decode cX11_clearWalks 29 = .ok (.iconst 0, 1) := by decide +kernel
theorem dX11_clearWalks_30 : decode cX11_clearWalks 30 = .ok (.goto 5, 3) := by decide +kernel
theorem dX11_clearWalks_33 : decode cX11_clearWalks 33 = .ok (.bipush 10, 2) := by decide +kernel
theorem dX11_clearWalks_35 : decode cX11_clearWalks 35 = .ok (.iastore, 1) := by decide +kernel
theorem dX11_clearWalks_36 : decode cX11_clearWalks 36 = .ok (.iinc 2 1, 3) := by decide +kernel
theorem dX11_clearWalks_39 : decode cX11_clearWalks 39 = .ok (.goto (-37), 3) := by decide +kernel
theorem dX11_clearWalks_42 : decode cX11_clearWalks 42 = .ok (.return_, 1) := by decide +kernel
theorem dX11_isHouse_0 : decode cX11_isHouse 0 = .ok (.iload_n 1, 1) := by decide +kernel
theorem dX11_isHouse_1 : decode cX11_isHouse 1 = .ok (.iconst 0, 1) := by decide +kernel
theorem dX11_isHouse_2 : decode cX11_isHouse 2 = .ok (.aload_n 0, 1) := by decide +kernel
theorem dX11_isHouse_3 : decode cX11_isHouse 3 = .ok (.getfield 40, 3) := by decide +kernel
theorem dX11_isHouse_6 : decode cX11_isHouse 6 = .ok (.iconst 0, 1) := by decide +kernel
theorem dX11_isHouse_7 : decode cX11_isHouse 7 = .ok (.iaload, 1) := by decide +kernel
theorem dX11_isHouse_8 : decode cX11_isHouse 8 = .ok (.iconst 1, 1) := by decide +kernel
theorem dX11_isHouse_9 : decode cX11_isHouse 9 = .ok (.isub, 1) := by decide +kernel
theorem dX11_isHouse_10 : decode cX11_isHouse 10 = .ok (.invokestatic 163, 3) := by decide +kernel
theorem dX11_isHouse_13 : decode cX11_isHouse 13 = .ok (.ireturn, 1) := by decide +kernel
theorem dX11_isPerson_0 : decode cX11_isPerson 0 = .ok (.iload_n 1, 1) := by decide +kernel
theorem dX11_isPerson_1 : decode cX11_isPerson 1 = .ok (.iconst 0, 1) := by decide +kernel
theorem dX11_isPerson_2 : decode cX11_isPerson 2 = .ok (.aload_n 0, 1) := by decide +kernel
theorem dX11_isPerson_3 : decode cX11_isPerson 3 = .ok (.getfield 40, 3) := by decide +kernel
theorem dX11_isPerson_6 : decode cX11_isPerson 6 = .ok (.iconst 1, 1) := by decide +kernel
theorem dX11_isPerson_7 : decode cX11_isPerson 7 = .ok (.iaload, 1) := by decide +kernel
theorem dX11_isPerson_8 : decode cX11_isPerson 8 = .ok (.iconst 1, 1) := by decide +kernel
theorem dX11_isPerson_9 : decode cX11_isPerson 9 = .ok (.isub, 1) := by decide +kernel
theorem dX11_isPerson_10 : decode cX11_isPerson 10 = .ok (.invokestatic 163, 3) := by decide +kernel
theorem dX11_isPerson_13 : decode cX11_isPerson 13 = .ok (.ireturn, 1) := by decide +kernel
theorem dX11_isHour_0 : decode cX11_isHour 0 = .ok (.iload_n 0, 1) := by decide +kernel
theorem dX11_isHour_1 : decode cX11_isHour 1 = .ok (.iconst 0, 1) := by decide +kernel
theorem dX11_isHour_2 : decode cX11_isHour 2 = .ok (.sipush 2399, 3) := by decide +kernel
theorem dX11_isHour_5 : decode cX11_isHour 5 = .ok (.invokestatic 163, 3) := by decide +kernel
theorem dX11_isHour_8 : decode cX11_isHour 8 = .ok (.ireturn, 1) := by decide +kernel
theorem dX11_feed_0 : decode cX11_feed 0 = .ok (.aload_n 0, 1) := by decide +kernel
theorem dX11_feed_1 : decode cX11_feed 1 = .ok (.iconst 0, 1) := by decide +kernel
theorem dX11_feed_2 : decode cX11_feed 2 = .ok (.putfield 160, 3) := by decide +kernel
theorem dX11_feed_5 : decode cX11_feed 5 = .ok (.aload_n 0, 1) := by decide +kernel
theorem dX11_feed_6 : decode cX11_feed 6 = .ok (.getfield 167, 3) := by decide +kernel
theorem dX11_feed_9 : decode cX11_feed 9 = .ok (.bipush 20, 2) := by decide +kernel
theorem dX11_feed_11 : decode cX11_feed 11 = .ok (.iadd, 1) := by decide +kernel
theorem dX11_feed_12 : decode cX11_feed 12 = .ok (.sipush 700, 3) := by decide +kernel
theorem dX11_feed_15 : decode cX11_feed 15 = .ok (.if_icmp .le 5, 3) := by decide +kernel
theorem dX11_feed_18 : decode cX11_feed 18 = .ok (.iconst (-1), 1) := by decide +kernel
theorem dX11_feed_19 : decode cX11_feed 19 = .ok (.ireturn, 1) := by decide +kernel
theorem dX11_feed_20 : decode cX11_feed 20 = .ok (.iconst 0, 1) := by decide +kernel
theorem dX11_feed_21 : decode cX11_feed 21 = .ok (.istore 6, 2) := by decide +kernel
theorem dX11_feed_23 : decode cX11_feed 23 = .ok (.iload 6, 2) := by decide +kernel
theorem dX11_feed_25 : decode cX11_feed 25 = .ok (.bipush 20, 2) := by decide +kernel
theorem dX11_feed_27 : decode cX11_feed 27 = .ok (.if_icmp .ge 93, 3) := by decide +kernel
theorem dX11_feed_30 : decode cX11_feed 30 = .ok (.iload 6, 2) := by decide +kernel
theorem dX11_feed_32 : decode cX11_feed 32 = .ok (.iconst 4, 1) := by decide +kernel
theorem dX11_feed_33 : decode cX11_feed 33 = .ok (.if_icmp .ge 7, 3) := by decide +kernel
theorem dX11_feed_36 : decode cX11_feed 36 = .ok (.iload_n 1, 1) := by decide +kernel
theorem dX11_feed_37 : decode cX11_feed 37 = .ok (.goto 39, 3) := by decide +kernel
theorem dX11_feed_40 : decode cX11_feed 40 = .ok (.iload 6, 2) := by decide +kernel
theorem dX11_feed_42 : decode cX11_feed 42 = .ok (.bipush 8, 2) := by decide +kernel
theorem dX11_feed_44 : decode cX11_feed 44 = .ok (.if_icmp .ge 7, 3) := by decide +kernel
theorem dX11_feed_47 : decode cX11_feed 47 = .ok (.iload_n 2, 1) := by decide +kernel
theorem dX11_feed_48 : decode cX11_feed 48 = .ok (.goto 28, 3) := by decide +kernel
theorem dX11_feed_51 : decode cX11_feed 51 = .ok (.iload 6, 2) := by decide +kernel
theorem dX11_feed_53 : decode cX11_feed 53 = .ok (.bipush 12, 2) := by decide +kernel
theorem dX11_feed_55 : decode cX11_feed 55 = .ok (.if_icmp .ge 7, 3) := by decide +kernel
theorem dX11_feed_58 : decode cX11_feed 58 = .ok (.iload_n 3, 1) := by decide +kernel
theorem dX11_feed_59 : decode cX11_feed 59 = .ok (.goto 17, 3) := by decide +kernel
theorem dX11_feed_62 : decode cX11_feed 62 = .ok (.iload 6, 2) := by decide +kernel
theorem dX11_feed_64 : decode cX11_feed 64 = .ok (.bipush 16, 2) := by decide +kernel
theorem dX11_feed_66 : decode cX11_feed 66 = .ok (.if_icmp .ge 8, 3) := by decide +kernel
theorem dX11_feed_69 : decode cX11_feed 69 = .ok (.iload 4, 2) := by decide +kernel
theorem dX11_feed_71 : decode cX11_feed 71 = .ok (.goto 5, 3) := by decide +kernel
theorem dX11_feed_74 : decode cX11_feed 74 = .ok (.iload 5, 2) := by decide +kernel
theorem dX11_feed_76 : decode cX11_feed 76 = .ok (.istore 7, 2) := by decide +kernel
theorem dX11_feed_78 : decode cX11_feed 78 = .ok (.aload_n 0, 1) := by decide +kernel
theorem dX11_feed_79 : decode cX11_feed 79 = .ok (.getfield 95, 3) := by decide +kernel
theorem dX11_feed_82 : decode cX11_feed 82 = .ok (.aload_n 0, 1) := by decide +kernel
theorem dX11_feed_83 : decode cX11_feed 83 = .ok (.getfield 167, 3) := by decide +kernel
theorem dX11_feed_86 : decode cX11_feed 86 = .ok (.iload 7, 2) := by decide +kernel
theorem dX11_feed_88 : decode cX11_feed 88 = .ok (.bipush 24, 2) := by decide +kernel
theorem dX11_feed_90 : decode cX11_feed 90 = .ok (.bipush 8, 2) := by decide +kernel
theorem dX11_feed_92 : decode cX11_feed 92 = .ok (.iload 6, 2) := by decide +kernel
theorem dX11_feed_94 : decode cX11_feed 94 = .ok (.iconst 4, 1) := by decide +kernel
theorem dX11_feed_95 : decode cX11_feed 95 = .ok (.irem, 1) := by decide +kernel
theorem dX11_feed_96 : decode cX11_feed 96 = .ok (.imul, 1) := by decide +kernel
theorem dX11_feed_97 : decode cX11_feed 97 = .ok (.isub, 1) := by decide +kernel
theorem dX11_feed_98 : decode cX11_feed 98 = .ok (.ishr, 1) := by decide +kernel
theorem dX11_feed_99 : decode cX11_feed 99 = .ok (.sipush 255, 3) := by decide +kernel
theorem dX11_feed_102 : decode cX11_feed 102 = .ok (.iand, 1) := by decide +kernel
theorem dX11_feed_103 : decode cX11_feed 103 = .ok (.iastore, 1) := by decide +kernel
theorem dX11_feed_104 : decode cX11_feed 104 = .ok (.aload_n 0, 1) := by decide +kernel
theorem dX11_feed_105 : decode cX11_feed 105 = .ok (.dup, 1) := by decide +kernel
theorem dX11_feed_106 : decode cX11_feed 106 = .ok (.getfield 167, 3) := by decide +kernel
theorem dX11_feed_109 : decode cX11_feed 109 = .ok (.iconst 1, 1) := by decide +kernel
theorem dX11_feed_110 : decode cX11_feed 110 = .ok (.iadd, 1) := by decide +kernel
theorem dX11_feed_111 : decode cX11_feed 111 = .ok (.putfield 167, 3) := by decide +kernel
theorem dX11_feed_114 : decode cX11_feed 114 = .ok (.iinc 6 1, 3) := by decide +kernel
theorem dX11_feed_117 : decode cX11_feed 117 = .ok (.goto (-94), 3) := by decide +kernel
theorem dX11_feed_120 : decode cX11_feed 120 = .ok (.aload_n 0, 1) := by decide +kernel
theorem dX11_feed_121 : decode cX11_feed 121 = .ok (.getfield 167, 3) := by decide +kernel
theorem dX11_feed_124 : decode cX11_feed 124 = .ok (.ireturn, 1) := by decide +kernel
theorem dX11_byteAt_0 : decode cX11_byteAt 0 = .ok (.iload_n 1, 1) := by decide +kernel
theorem dX11_byteAt_1 : decode cX11_byteAt 1 = .ok (.aload_n 0, 1) := by decide +kernel
theorem dX11_byteAt_2 : decode cX11_byteAt 2 = .ok (.getfield 170, 3) := by decide +kernel
theorem dX11_byteAt_5 : decode cX11_byteAt 5 = .ok (.if_icmp .ge 12, 3) := by decide +kernel
theorem dX11_byteAt_8 : decode cX11_byteAt 8 = .ok (.aload_n 0, 1) := by decide +kernel
theorem dX11_byteAt_9 : decode cX11_byteAt 9 = .ok (.getfield 95, 3) := by decide +kernel
theorem dX11_byteAt_12 : decode cX11_byteAt 12 = .ok (.iload_n 1, 1) := by decide +kernel
theorem dX11_byteAt_13 : decode cX11_byteAt 13 = .ok (.iaload, 1) := by decide +kernel
theorem dX11_byteAt_14 : decode cX11_byteAt 14 = .ok (.goto 4, 3) := by decide +kernel
theorem dX11_byteAt_17 : decode cX11_byteAt 17 = .ok (.iconst (-1), 1) := by decide +kernel
theorem dX11_byteAt_18 : decode cX11_byteAt 18 = .ok (.ireturn, 1) := by decide +kernel
theorem dX11_isLetter_0 : decode cX11_isLetter 0 = .ok (.iload_n 0, 1) := by decide +kernel
theorem dX11_isLetter_1 : decode cX11_isLetter 1 = .ok (.bipush 97, 2) := by decide +kernel
theorem dX11_isLetter_3 : decode cX11_isLetter 3 = .ok (.if_icmp .lt 13, 3) := by decide +kernel
theorem dX11_isLetter_6 : decode cX11_isLetter 6 = .ok (.iload_n 0, 1) := by decide +kernel
theorem dX11_isLetter_7 : decode cX11_isLetter 7 = .ok (.bipush 122, 2) := by decide +kernel
theorem dX11_isLetter_9 : decode cX11_isLetter 9 = .ok (.if_icmp .gt 7, 3) := by decide +kernel
theorem dX11_isLetter_12 : decode cX11_isLetter 12 = .ok (.iconst 1, 1) := by decide +kernel
theorem dX11_isLetter_13 : decode cX11_isLetter 13 = .ok (.goto 4, 3) := by decide +kernel
theorem dX11_isLetter_16 : decode cX11_isLetter 16 = .ok (.iconst 0, 1) := by decide +kernel
theorem dX11_isLetter_17 : decode cX11_isLetter 17 = .ok (.ireturn, 1) := by decide +kernel
theorem dX11_isDigit_0 : decode cX11_isDigit 0 = .ok (.iload_n 0, 1) := by decide +kernel
theorem dX11_isDigit_1 : decode cX11_isDigit 1 = .ok (.bipush 48, 2) := by decide +kernel
theorem dX11_isDigit_3 : decode cX11_isDigit 3 = .ok (.if_icmp .lt 13, 3) := by decide +kernel
theorem dX11_isDigit_6 : decode cX11_isDigit 6 = .ok (.iload_n 0, 1) := by decide +kernel
theorem dX11_isDigit_7 : decode cX11_isDigit 7 = .ok (.bipush 57, 2) := by decide +kernel
theorem dX11_isDigit_9 : decode cX11_isDigit 9 = .ok (.if_icmp .gt 7, 3) := by decide +kernel
theorem dX11_isDigit_12 : decode cX11_isDigit 12 = .ok (.iconst 1, 1) := by decide +kernel
theorem dX11_isDigit_13 : decode cX11_isDigit 13 = .ok (.goto 4, 3) := by decide +kernel
theorem dX11_isDigit_16 : decode cX11_isDigit 16 = .ok (.iconst 0, 1) := by decide +kernel
theorem dX11_isDigit_17 : decode cX11_isDigit 17 = .ok (.ireturn, 1) := by decide +kernel
theorem dX11_isMark_0 : decode cX11_isMark 0 = .ok (.iload_n 0, 1) := by decide +kernel
theorem dX11_isMark_1 : decode cX11_isMark 1 = .ok (.bipush 59, 2) := by decide +kernel
theorem dX11_isMark_3 : decode cX11_isMark 3 = .ok (.if_icmp .eq 51, 3) := by decide +kernel
theorem dX11_isMark_6 : decode cX11_isMark 6 = .ok (.iload_n 0, 1) := by decide +kernel
theorem dX11_isMark_7 : decode cX11_isMark 7 = .ok (.bipush 40, 2) := by decide +kernel
theorem dX11_isMark_9 : decode cX11_isMark 9 = .ok (.if_icmp .eq 45, 3) := by decide +kernel
theorem dX11_isMark_12 : decode cX11_isMark 12 = .ok (.iload_n 0, 1) := by decide +kernel
theorem dX11_isMark_13 : decode cX11_isMark 13 = .ok (.bipush 41, 2) := by decide +kernel
theorem dX11_isMark_15 : decode cX11_isMark 15 = .ok (.if_icmp .eq 39, 3) := by decide +kernel
theorem dX11_isMark_18 : decode cX11_isMark 18 = .ok (.iload_n 0, 1) := by decide +kernel
theorem dX11_isMark_19 : decode cX11_isMark 19 = .ok (.bipush 43, 2) := by decide +kernel
theorem dX11_isMark_21 : decode cX11_isMark 21 = .ok (.if_icmp .eq 33, 3) := by decide +kernel
theorem dX11_isMark_24 : decode cX11_isMark 24 = .ok (.iload_n 0, 1) := by decide +kernel
theorem dX11_isMark_25 : decode cX11_isMark 25 = .ok (.bipush 45, 2) := by decide +kernel
theorem dX11_isMark_27 : decode cX11_isMark 27 = .ok (.if_icmp .eq 27, 3) := by decide +kernel
theorem dX11_isMark_30 : decode cX11_isMark 30 = .ok (.iload_n 0, 1) := by decide +kernel
theorem dX11_isMark_31 : decode cX11_isMark 31 = .ok (.bipush 42, 2) := by decide +kernel
theorem dX11_isMark_33 : decode cX11_isMark 33 = .ok (.if_icmp .eq 21, 3) := by decide +kernel
theorem dX11_isMark_36 : decode cX11_isMark 36 = .ok (.iload_n 0, 1) := by decide +kernel
theorem dX11_isMark_37 : decode cX11_isMark 37 = .ok (.bipush 47, 2) := by decide +kernel
theorem dX11_isMark_39 : decode cX11_isMark 39 = .ok (.if_icmp .eq 15, 3) := by decide +kernel
theorem dX11_isMark_42 : decode cX11_isMark 42 = .ok (.iload_n 0, 1) := by decide +kernel
theorem dX11_isMark_43 : decode cX11_isMark 43 = .ok (.bipush 60, 2) := by decide +kernel
theorem dX11_isMark_45 : decode cX11_isMark 45 = .ok (.if_icmp .eq 9, 3) := by decide +kernel
theorem dX11_isMark_48 : decode cX11_isMark 48 = .ok (.iload_n 0, 1) := by decide +kernel
theorem dX11_isMark_49 : decode cX11_isMark 49 = .ok (.bipush 61, 2) := by decide +kernel
theorem dX11_isMark_51 : decode cX11_isMark 51 = .ok (.if_icmp .ne 7, 3) := by decide +kernel
theorem dX11_isMark_54 : decode cX11_isMark 54 = .ok (.iconst 1, 1) := by decide +kernel
theorem dX11_isMark_55 : decode cX11_isMark 55 = .ok (.goto 4, 3) := by decide +kernel
theorem dX11_isMark_58 : decode cX11_isMark 58 = .ok (.iconst 0, 1) := by decide +kernel
theorem dX11_isMark_59 : decode cX11_isMark 59 = .ok (.ireturn, 1) := by decide +kernel
theorem dX11_stepOn_0 : decode cX11_stepOn 0 = .ok (.aload_n 0, 1) := by decide +kernel
theorem dX11_stepOn_1 : decode cX11_stepOn 1 = .ok (.aload_n 0, 1) := by decide +kernel
theorem dX11_stepOn_2 : decode cX11_stepOn 2 = .ok (.getfield 173, 3) := by decide +kernel
theorem dX11_stepOn_5 : decode cX11_stepOn 5 = .ok (.invokevirtual 176, 3) := by decide +kernel
theorem dX11_stepOn_8 : decode cX11_stepOn 8 = .ok (.bipush 32, 2) := by decide +kernel
theorem dX11_stepOn_10 : decode cX11_stepOn 10 = .ok (.if_icmp .eq 16, 3) := by decide +kernel
theorem dX11_stepOn_13 : decode cX11_stepOn 13 = .ok (.aload_n 0, 1) := by decide +kernel
theorem dX11_stepOn_14 : decode cX11_stepOn 14 = .ok (.aload_n 0, 1) := by decide +kernel
theorem dX11_stepOn_15 : decode cX11_stepOn 15 = .ok (.getfield 173, 3) := by decide +kernel
theorem dX11_stepOn_18 : decode cX11_stepOn 18 = .ok (.invokevirtual 176, 3) := by decide +kernel
theorem dX11_stepOn_21 : decode cX11_stepOn 21 = .ok (.bipush 10, 2) := by decide +kernel
theorem dX11_stepOn_23 : decode cX11_stepOn 23 = .ok (.if_icmp .ne 16, 3) := by decide +kernel
theorem dX11_stepOn_26 : decode cX11_stepOn 26 = .ok (.aload_n 0, 1) := by decide +kernel
theorem dX11_stepOn_27 : decode cX11_stepOn 27 = .ok (.dup, 1) := by decide +kernel
theorem dX11_stepOn_28 : decode cX11_stepOn 28 = .ok (.getfield 173, 3) := by decide +kernel
theorem dX11_stepOn_31 : decode cX11_stepOn 31 = .ok (.iconst 1, 1) := by decide +kernel
theorem dX11_stepOn_32 : decode cX11_stepOn 32 = .ok (.iadd, 1) := by decide +kernel
theorem dX11_stepOn_33 : decode cX11_stepOn 33 = .ok (.putfield 173, 3) := by decide +kernel
theorem dX11_stepOn_36 : decode cX11_stepOn 36 = .ok (.goto (-36), 3) := by decide +kernel
theorem dX11_stepOn_39 : decode cX11_stepOn 39 = .ok (.aload_n 0, 1) := by decide +kernel
theorem dX11_stepOn_40 : decode cX11_stepOn 40 = .ok (.aload_n 0, 1) := by decide +kernel
theorem dX11_stepOn_41 : decode cX11_stepOn 41 = .ok (.getfield 173, 3) := by decide +kernel
theorem dX11_stepOn_44 : decode cX11_stepOn 44 = .ok (.putfield 180, 3) := by decide +kernel
theorem dX11_stepOn_47 : decode cX11_stepOn 47 = .ok (.aload_n 0, 1) := by decide +kernel
theorem dX11_stepOn_48 : decode cX11_stepOn 48 = .ok (.aload_n 0, 1) := by decide +kernel
theorem dX11_stepOn_49 : decode cX11_stepOn 49 = .ok (.getfield 173, 3) := by decide +kernel
theorem dX11_stepOn_52 : decode cX11_stepOn 52 = .ok (.invokevirtual 176, 3) := by decide +kernel
theorem dX11_stepOn_55 : decode cX11_stepOn 55 = .ok (.istore_n 1, 1) := by decide +kernel
theorem dX11_stepOn_56 : decode cX11_stepOn 56 = .ok (.iload_n 1, 1) := by decide +kernel
theorem dX11_stepOn_57 : decode cX11_stepOn 57 = .ok (.iconst (-1), 1) := by decide +kernel
theorem dX11_stepOn_58 : decode cX11_stepOn 58 = .ok (.if_icmp .ne 11, 3) := by decide +kernel
theorem dX11_stepOn_61 : decode cX11_stepOn 61 = .ok (.aload_n 0, 1) := by decide +kernel
theorem dX11_stepOn_62 : decode cX11_stepOn 62 = .ok (.iconst 0, 1) := by decide +kernel
theorem dX11_stepOn_63 : decode cX11_stepOn 63 = .ok (.putfield 183, 3) := by decide +kernel
theorem dX11_stepOn_66 : decode cX11_stepOn 66 = .ok (.goto 146, 3) := by decide +kernel
theorem dX11_stepOn_69 : decode cX11_stepOn 69 = .ok (.iload_n 1, 1) := by decide +kernel
theorem dX11_stepOn_70 : decode cX11_stepOn 70 = .ok (.invokestatic 186, 3) := by decide +kernel
theorem dX11_stepOn_73 : decode cX11_stepOn 73 = .ok (.ifCond .eq 38, 3) := by decide +kernel
theorem dX11_stepOn_76 : decode cX11_stepOn 76 = .ok (.aload_n 0, 1) := by decide +kernel
theorem dX11_stepOn_77 : decode cX11_stepOn 77 = .ok (.aload_n 0, 1) := by decide +kernel
theorem dX11_stepOn_78 : decode cX11_stepOn 78 = .ok (.getfield 173, 3) := by decide +kernel
theorem dX11_stepOn_81 : decode cX11_stepOn 81 = .ok (.invokevirtual 176, 3) := by decide +kernel
theorem dX11_stepOn_84 : decode cX11_stepOn 84 = .ok (.invokestatic 186, 3) := by decide +kernel
theorem dX11_stepOn_87 : decode cX11_stepOn 87 = .ok (.ifCond .eq 16, 3) := by decide +kernel
theorem dX11_stepOn_90 : decode cX11_stepOn 90 = .ok (.aload_n 0, 1) := by decide +kernel
theorem dX11_stepOn_91 : decode cX11_stepOn 91 = .ok (.dup, 1) := by decide +kernel
theorem dX11_stepOn_92 : decode cX11_stepOn 92 = .ok (.getfield 173, 3) := by decide +kernel
theorem dX11_stepOn_95 : decode cX11_stepOn 95 = .ok (.iconst 1, 1) := by decide +kernel
theorem dX11_stepOn_96 : decode cX11_stepOn 96 = .ok (.iadd, 1) := by decide +kernel
theorem dX11_stepOn_97 : decode cX11_stepOn 97 = .ok (.putfield 173, 3) := by decide +kernel
theorem dX11_stepOn_100 : decode cX11_stepOn 100 = .ok (.goto (-24), 3) := by decide +kernel
theorem dX11_stepOn_103 : decode cX11_stepOn 103 = .ok (.aload_n 0, 1) := by decide +kernel
theorem dX11_stepOn_104 : decode cX11_stepOn 104 = .ok (.iconst 1, 1) := by decide +kernel
theorem dX11_stepOn_105 : decode cX11_stepOn 105 = .ok (.putfield 183, 3) := by decide +kernel
theorem dX11_stepOn_108 : decode cX11_stepOn 108 = .ok (.goto 104, 3) := by decide +kernel
theorem dX11_stepOn_111 : decode cX11_stepOn 111 = .ok (.iload_n 1, 1) := by decide +kernel
theorem dX11_stepOn_112 : decode cX11_stepOn 112 = .ok (.invokestatic 190, 3) := by decide +kernel
theorem dX11_stepOn_115 : decode cX11_stepOn 115 = .ok (.ifCond .eq 71, 3) := by decide +kernel
theorem dX11_stepOn_118 : decode cX11_stepOn 118 = .ok (.aload_n 0, 1) := by decide +kernel
theorem dX11_stepOn_119 : decode cX11_stepOn 119 = .ok (.iconst 0, 1) := by decide +kernel
theorem dX11_stepOn_120 : decode cX11_stepOn 120 = .ok (.putfield 193, 3) := by decide +kernel
theorem dX11_stepOn_123 : decode cX11_stepOn 123 = .ok (.aload_n 0, 1) := by decide +kernel
theorem dX11_stepOn_124 : decode cX11_stepOn 124 = .ok (.aload_n 0, 1) := by decide +kernel
theorem dX11_stepOn_125 : decode cX11_stepOn 125 = .ok (.getfield 173, 3) := by decide +kernel
theorem dX11_stepOn_128 : decode cX11_stepOn 128 = .ok (.invokevirtual 176, 3) := by decide +kernel
theorem dX11_stepOn_131 : decode cX11_stepOn 131 = .ok (.invokestatic 190, 3) := by decide +kernel
theorem dX11_stepOn_134 : decode cX11_stepOn 134 = .ok (.ifCond .eq 44, 3) := by decide +kernel
theorem dX11_stepOn_137 : decode cX11_stepOn 137 = .ok (.aload_n 0, 1) := by decide +kernel
theorem dX11_stepOn_138 : decode cX11_stepOn 138 = .ok (.ldc 196, 2) := by decide +kernel
theorem dX11_stepOn_140 : decode cX11_stepOn 140 = .ok (.bipush 10, 2) := by decide +kernel
theorem dX11_stepOn_142 : decode cX11_stepOn 142 = .ok (.aload_n 0, 1) := by decide +kernel
theorem dX11_stepOn_143 : decode cX11_stepOn 143 = .ok (.getfield 193, 3) := by decide +kernel
theorem dX11_stepOn_146 : decode cX11_stepOn 146 = .ok (.imul, 1) := by decide +kernel
theorem dX11_stepOn_147 : decode cX11_stepOn 147 = .ok (.aload_n 0, 1) := by decide +kernel
theorem dX11_stepOn_148 : decode cX11_stepOn 148 = .ok (.aload_n 0, 1) := by decide +kernel
theorem dX11_stepOn_149 : decode cX11_stepOn 149 = .ok (.getfield 173, 3) := by decide +kernel
theorem dX11_stepOn_152 : decode cX11_stepOn 152 = .ok (.invokevirtual 176, 3) := by decide +kernel
theorem dX11_stepOn_155 : decode cX11_stepOn 155 = .ok (.iadd, 1) := by decide +kernel
theorem dX11_stepOn_156 : decode cX11_stepOn 156 = .ok (.bipush 48, 2) := by decide +kernel
theorem dX11_stepOn_158 : decode cX11_stepOn 158 = .ok (.isub, 1) := by decide +kernel
theorem dX11_stepOn_159 : decode cX11_stepOn 159 = .ok (.invokestatic 197, 3) := by decide +kernel
theorem dX11_stepOn_162 : decode cX11_stepOn 162 = .ok (.putfield 193, 3) := by decide +kernel
theorem dX11_stepOn_165 : decode cX11_stepOn 165 = .ok (.aload_n 0, 1) := by decide +kernel
theorem dX11_stepOn_166 : decode cX11_stepOn 166 = .ok (.dup, 1) := by decide +kernel
theorem dX11_stepOn_167 : decode cX11_stepOn 167 = .ok (.getfield 173, 3) := by decide +kernel
theorem dX11_stepOn_170 : decode cX11_stepOn 170 = .ok (.iconst 1, 1) := by decide +kernel
theorem dX11_stepOn_171 : decode cX11_stepOn 171 = .ok (.iadd, 1) := by decide +kernel
theorem dX11_stepOn_172 : decode cX11_stepOn 172 = .ok (.putfield 173, 3) := by decide +kernel
theorem dX11_stepOn_175 : decode cX11_stepOn 175 = .ok (.goto (-52), 3) := by decide +kernel
theorem dX11_stepOn_178 : decode cX11_stepOn 178 = .ok (.aload_n 0, 1) := by decide +kernel
theorem dX11_stepOn_179 : decode cX11_stepOn 179 = .ok (.iconst 2, 1) := by decide +kernel
theorem dX11_stepOn_180 : decode cX11_stepOn 180 = .ok (.putfield 183, 3) := by decide +kernel
theorem dX11_stepOn_183 : decode cX11_stepOn 183 = .ok (.goto 29, 3) := by decide +kernel
theorem dX11_stepOn_186 : decode cX11_stepOn 186 = .ok (.aload_n 0, 1) := by decide +kernel
theorem dX11_stepOn_187 : decode cX11_stepOn 187 = .ok (.dup, 1) := by decide +kernel
theorem dX11_stepOn_188 : decode cX11_stepOn 188 = .ok (.getfield 173, 3) := by decide +kernel
theorem dX11_stepOn_191 : decode cX11_stepOn 191 = .ok (.iconst 1, 1) := by decide +kernel
theorem dX11_stepOn_192 : decode cX11_stepOn 192 = .ok (.iadd, 1) := by decide +kernel
theorem dX11_stepOn_193 : decode cX11_stepOn 193 = .ok (.putfield 173, 3) := by decide +kernel
theorem dX11_stepOn_196 : decode cX11_stepOn 196 = .ok (.aload_n 0, 1) := by decide +kernel
theorem dX11_stepOn_197 : decode cX11_stepOn 197 = .ok (.iload_n 1, 1) := by decide +kernel
theorem dX11_stepOn_198 : decode cX11_stepOn 198 = .ok (.invokestatic 203, 3) := by decide +kernel
theorem dX11_stepOn_201 : decode cX11_stepOn 201 = .ok (.ifCond .eq 7, 3) := by decide +kernel
theorem dX11_stepOn_204 : decode cX11_stepOn 204 = .ok (.iconst 3, 1) := by decide +kernel
theorem dX11_stepOn_205 : decode cX11_stepOn 205 = .ok (.goto 4, 3) := by decide +kernel
theorem dX11_stepOn_208 : decode cX11_stepOn 208 = .ok (.iconst 4, 1) := by decide +kernel
theorem dX11_stepOn_209 : decode cX11_stepOn 209 = .ok (.putfield 183, 3) := by decide +kernel
theorem dX11_stepOn_212 : decode cX11_stepOn 212 = .ok (.aload_n 0, 1) := by decide +kernel
theorem dX11_stepOn_213 : decode cX11_stepOn 213 = .ok (.aload_n 0, 1) := by decide +kernel
theorem dX11_stepOn_214 : decode cX11_stepOn 214 = .ok (.getfield 173, 3) := by decide +kernel
theorem dX11_stepOn_217 : decode cX11_stepOn 217 = .ok (.putfield 206, 3) := by decide +kernel
theorem dX11_stepOn_220 : decode cX11_stepOn 220 = .ok (.return_, 1) := by decide +kernel
theorem dX11_wrong_0 : decode cX11_wrong 0 = .ok (.aload_n 0, 1) := by decide +kernel
theorem dX11_wrong_1 : decode cX11_wrong 1 = .ok (.getfield 209, 3) := by decide +kernel
theorem dX11_wrong_4 : decode cX11_wrong 4 = .ok (.ifCond .eq 4, 3) := by decide +kernel
theorem dX11_wrong_7 : decode cX11_wrong 7 = .ok (.return_, 1) := by decide +kernel
theorem dX11_wrong_8 : decode cX11_wrong 8 = .ok (.aload_n 0, 1) := by decide +kernel
theorem dX11_wrong_9 : decode cX11_wrong 9 = .ok (.iload_n 1, 1) := by decide +kernel
theorem dX11_wrong_10 : decode cX11_wrong 10 = .ok (.putfield 209, 3) := by decide +kernel
theorem dX11_wrong_13 : decode cX11_wrong 13 = .ok (.aload_n 0, 1) := by decide +kernel
theorem dX11_wrong_14 : decode cX11_wrong 14 = .ok (.aload_n 0, 1) := by decide +kernel
theorem dX11_wrong_15 : decode cX11_wrong 15 = .ok (.getfield 180, 3) := by decide +kernel
theorem dX11_wrong_18 : decode cX11_wrong 18 = .ok (.putfield 212, 3) := by decide +kernel
theorem dX11_wrong_21 : decode cX11_wrong 21 = .ok (.return_, 1) := by decide +kernel
theorem dX11_is_0 : decode cX11_is 0 = .ok (.aload_n 0, 1) := by decide +kernel
theorem dX11_is_1 : decode cX11_is 1 = .ok (.getfield 209, 3) := by decide +kernel
theorem dX11_is_4 : decode cX11_is 4 = .ok (.ifCond .ne 31, 3) := by decide +kernel
theorem dX11_is_7 : decode cX11_is 7 = .ok (.aload_n 0, 1) := by decide +kernel
theorem dX11_is_8 : decode cX11_is 8 = .ok (.getfield 183, 3) := by decide +kernel
theorem dX11_is_11 : decode cX11_is 11 = .ok (.iconst 1, 1) := by decide +kernel
theorem dX11_is_12 : decode cX11_is 12 = .ok (.if_icmp .ne 23, 3) := by decide +kernel
theorem dX11_is_15 : decode cX11_is 15 = .ok (.aload_n 1, 1) := by decide +kernel
theorem dX11_is_16 : decode cX11_is 16 = .ok (.invokevirtual 215, 3) := by decide +kernel
theorem dX11_is_19 : decode cX11_is 19 = .ok (.aload_n 0, 1) := by decide +kernel
theorem dX11_is_20 : decode cX11_is 20 = .ok (.getfield 206, 3) := by decide +kernel
theorem dX11_is_23 : decode cX11_is 23 = .ok (.aload_n 0, 1) := by decide +kernel
theorem dX11_is_24 : decode cX11_is 24 = .ok (.getfield 180, 3) := by decide +kernel
theorem dX11_is_27 : decode cX11_is 27 = .ok (.isub, 1) := by decide +kernel
theorem dX11_is_28 : decode cX11_is 28 = .ok (.if_icmp .ne 7, 3) := by decide +kernel
theorem dX11_is_31 : decode cX11_is 31 = .ok (.iconst 1, 1) := by decide +kernel
theorem dX11_is_32 : decode cX11_is 32 = .ok (.goto 4, 3) := by decide +kernel
theorem dX11_is_35 : decode cX11_is 35 = .ok (.iconst 0, 1) := by decide +kernel
theorem dX11_is_36 : decode cX11_is 36 = .ok (.istore_n 2, 1) := by decide +kernel
theorem dX11_is_37 : decode cX11_is 37 = .ok (.iconst 0, 1) := by decide +kernel
theorem dX11_is_38 : decode cX11_is 38 = .ok (.istore_n 3, 1) := by decide +kernel
theorem dX11_is_39 : decode cX11_is 39 = .ok (.iload_n 2, 1) := by decide +kernel
theorem dX11_is_40 : decode cX11_is 40 = .ok (.ifCond .eq 42, 3) := by decide +kernel
theorem dX11_is_43 : decode cX11_is 43 = .ok (.iload_n 3, 1) := by decide +kernel
theorem dX11_is_44 : decode cX11_is 44 = .ok (.aload_n 1, 1) := by decide +kernel
theorem dX11_is_45 : decode cX11_is 45 = .ok (.invokevirtual 215, 3) := by decide +kernel
theorem dX11_is_48 : decode cX11_is 48 = .ok (.if_icmp .ge 34, 3) := by decide +kernel
theorem dX11_is_51 : decode cX11_is 51 = .ok (.aload_n 1, 1) := by decide +kernel
theorem dX11_is_52 : decode cX11_is 52 = .ok (.iload_n 3, 1) := by decide +kernel
theorem dX11_is_53 : decode cX11_is 53 = .ok (.invokevirtual 219, 3) := by decide +kernel
theorem dX11_is_56 : decode cX11_is 56 = .ok (.aload_n 0, 1) := by decide +kernel
theorem dX11_is_57 : decode cX11_is 57 = .ok (.getfield 95, 3) := by decide +kernel
theorem dX11_is_60 : decode cX11_is 60 = .ok (.aload_n 0, 1) := by decide +kernel
theorem dX11_is_61 : decode cX11_is 61 = .ok (.getfield 180, 3) := by decide +kernel
theorem dX11_is_64 : decode cX11_is 64 = .ok (.iload_n 3, 1) := by decide +kernel
theorem dX11_is_65 : decode cX11_is 65 = .ok (.iadd, 1) := by decide +kernel
theorem dX11_is_66 : decode cX11_is 66 = .ok (.iaload, 1) := by decide +kernel
theorem dX11_is_67 : decode cX11_is 67 = .ok (.if_icmp .ne 7, 3) := by decide +kernel
theorem dX11_is_70 : decode cX11_is 70 = .ok (.iconst 1, 1) := by decide +kernel
theorem dX11_is_71 : decode cX11_is 71 = .ok (.goto 4, 3) := by decide +kernel
theorem dX11_is_74 : decode cX11_is 74 = .ok (.iconst 0, 1) := by decide +kernel
theorem dX11_is_75 : decode cX11_is 75 = .ok (.istore_n 2, 1) := by decide +kernel
theorem dX11_is_76 : decode cX11_is 76 = .ok (.iinc 3 1, 3) := by decide +kernel
theorem dX11_is_79 : decode cX11_is 79 = .ok (.goto (-40), 3) := by decide +kernel
theorem dX11_is_82 : decode cX11_is 82 = .ok (.iload_n 2, 1) := by decide +kernel
theorem dX11_is_83 : decode cX11_is 83 = .ok (.ireturn, 1) := by decide +kernel
theorem dX11_isMarked_0 : decode cX11_isMarked 0 = .ok (.aload_n 0, 1) := by decide +kernel
theorem dX11_isMarked_1 : decode cX11_isMarked 1 = .ok (.getfield 209, 3) := by decide +kernel
theorem dX11_isMarked_4 : decode cX11_isMarked 4 = .ok (.ifCond .ne 28, 3) := by decide +kernel
theorem dX11_isMarked_7 : decode cX11_isMarked 7 = .ok (.aload_n 0, 1) := by decide +kernel
theorem dX11_isMarked_8 : decode cX11_isMarked 8 = .ok (.getfield 183, 3) := by decide +kernel
theorem dX11_isMarked_11 : decode cX11_isMarked 11 = .ok (.iconst 3, 1) := by decide +kernel
theorem dX11_isMarked_12 : decode cX11_isMarked 12 = .ok (.if_icmp .ne 20, 3) := by decide +kernel
theorem dX11_isMarked_15 : decode cX11_isMarked 15 = .ok (.aload_n 0, 1) := by decide +kernel
theorem dX11_isMarked_16 : decode cX11_isMarked 16 = .ok (.getfield 95, 3) := by decide +kernel
theorem dX11_isMarked_19 : decode cX11_isMarked 19 = .ok (.aload_n 0, 1) := by decide +kernel
theorem dX11_isMarked_20 : decode cX11_isMarked 20 = .ok (.getfield 180, 3) := by decide +kernel
theorem dX11_isMarked_23 : decode cX11_isMarked 23 = .ok (.iaload, 1) := by decide +kernel
theorem dX11_isMarked_24 : decode cX11_isMarked 24 = .ok (.iload_n 1, 1) := by decide +kernel
theorem dX11_isMarked_25 : decode cX11_isMarked 25 = .ok (.if_icmp .ne 7, 3) := by decide +kernel
theorem dX11_isMarked_28 : decode cX11_isMarked 28 = .ok (.iconst 1, 1) := by decide +kernel
theorem dX11_isMarked_29 : decode cX11_isMarked 29 = .ok (.goto 4, 3) := by decide +kernel
theorem dX11_isMarked_32 : decode cX11_isMarked 32 = .ok (.iconst 0, 1) := by decide +kernel
theorem dX11_isMarked_33 : decode cX11_isMarked 33 = .ok (.ireturn, 1) := by decide +kernel
theorem dX11_which_0 : decode cX11_which 0 = .ok (.iconst 0, 1) := by decide +kernel
theorem dX11_which_1 : decode cX11_which 1 = .ok (.istore_n 2, 1) := by decide +kernel
theorem dX11_which_2 : decode cX11_which 2 = .ok (.iload_n 2, 1) := by decide +kernel
theorem dX11_which_3 : decode cX11_which 3 = .ok (.aload_n 1, 1) := by decide +kernel
theorem dX11_which_4 : decode cX11_which 4 = .ok (.arraylength, 1) := by decide +kernel
theorem dX11_which_5 : decode cX11_which 5 = .ok (.if_icmp .ge 21, 3) := by decide +kernel
theorem dX11_which_8 : decode cX11_which 8 = .ok (.aload_n 0, 1) := by decide +kernel
theorem dX11_which_9 : decode cX11_which 9 = .ok (.aload_n 1, 1) := by decide +kernel
theorem dX11_which_10 : decode cX11_which 10 = .ok (.iload_n 2, 1) := by decide +kernel
theorem dX11_which_11 : decode cX11_which 11 = .ok (.aaload, 1) := by decide +kernel
theorem dX11_which_12 : decode cX11_which 12 = .ok (.invokevirtual 223, 3) := by decide +kernel
theorem dX11_which_15 : decode cX11_which 15 = .ok (.ifCond .eq 5, 3) := by decide +kernel
theorem dX11_which_18 : decode cX11_which 18 = .ok (.iload_n 2, 1) := by decide +kernel
theorem dX11_which_19 : decode cX11_which 19 = .ok (.ireturn, 1) := by decide +kernel
theorem dX11_which_20 : decode cX11_which 20 = .ok (.iinc 2 1, 3) := by decide +kernel
theorem dX11_which_23 : decode cX11_which 23 = .ok (.goto (-21), 3) := by decide +kernel
theorem dX11_which_26 : decode cX11_which 26 = .ok (.iconst (-1), 1) := by decide +kernel
theorem dX11_which_27 : decode cX11_which 27 = .ok (.ireturn, 1) := by decide +kernel
theorem dX11_mark_0 : decode cX11_mark 0 = .ok (.aload_n 0, 1) := by decide +kernel
theorem dX11_mark_1 : decode cX11_mark 1 = .ok (.getfield 209, 3) := by decide +kernel
theorem dX11_mark_4 : decode cX11_mark 4 = .ok (.ifCond .ne 16, 3) := by decide +kernel
theorem dX11_mark_7 : decode cX11_mark 7 = .ok (.aload_n 0, 1) := by decide +kernel
theorem dX11_mark_8 : decode cX11_mark 8 = .ok (.iload_n 1, 1) := by decide +kernel
theorem dX11_mark_9 : decode cX11_mark 9 = .ok (.invokevirtual 227, 3) := by decide +kernel
theorem dX11_mark_12 : decode cX11_mark 12 = .ok (.ifCond .ne 8, 3) := by decide +kernel
theorem dX11_mark_15 : decode cX11_mark 15 = .ok (.aload_n 0, 1) := by decide +kernel
theorem dX11_mark_16 : decode cX11_mark 16 = .ok (.iconst 1, 1) := by decide +kernel
theorem dX11_mark_17 : decode cX11_mark 17 = .ok (.invokevirtual 230, 3) := by decide +kernel
theorem dX11_mark_20 : decode cX11_mark 20 = .ok (.aload_n 0, 1) := by decide +kernel
theorem dX11_mark_21 : decode cX11_mark 21 = .ok (.getfield 209, 3) := by decide +kernel
theorem dX11_mark_24 : decode cX11_mark 24 = .ok (.ifCond .ne 7, 3) := by decide +kernel
theorem dX11_mark_27 : decode cX11_mark 27 = .ok (.aload_n 0, 1) := by decide +kernel
theorem dX11_mark_28 : decode cX11_mark 28 = .ok (.invokevirtual 233, 3) := by decide +kernel
theorem dX11_mark_31 : decode cX11_mark 31 = .ok (.return_, 1) := by decide +kernel
theorem dX11_readNumber_0 : decode cX11_readNumber 0 = .ok (.aload_n 0, 1) := by decide +kernel
theorem dX11_readNumber_1 : decode cX11_readNumber 1 = .ok (.getfield 209, 3) := by decide +kernel
theorem dX11_readNumber_4 : decode cX11_readNumber 4 = .ok (.ifCond .eq 5, 3) := by decide +kernel
theorem dX11_readNumber_7 : decode cX11_readNumber 7 = .ok (.iconst 0, 1) := by decide +kernel
theorem dX11_readNumber_8 : decode cX11_readNumber 8 = .ok (.ireturn, 1) := by decide +kernel
theorem dX11_readNumber_9 : decode cX11_readNumber 9 = .ok (.aload_n 0, 1) := by decide +kernel
theorem dX11_readNumber_10 : decode cX11_readNumber 10 = .ok (.getfield 183, 3) := by decide +kernel
theorem dX11_readNumber_13 : decode cX11_readNumber 13 = .ok (.iconst 2, 1) := by decide +kernel
theorem dX11_readNumber_14 : decode cX11_readNumber 14 = .ok (.if_icmp .eq 11, 3) := by decide +kernel
theorem dX11_readNumber_17 : decode cX11_readNumber 17 = .ok (.aload_n 0, 1) := by decide +kernel
theorem dX11_readNumber_18 : decode cX11_readNumber 18 = .ok (.iconst 1, 1) := by decide +kernel
theorem dX11_readNumber_19 : decode cX11_readNumber 19 = .ok (.invokevirtual 230, 3) := by decide +kernel
theorem dX11_readNumber_22 : decode cX11_readNumber 22 = .ok (.goto 37, 3) := by decide +kernel
theorem dX11_readNumber_25 : decode cX11_readNumber 25 = .ok (.aload_n 0, 1) := by decide +kernel
theorem dX11_readNumber_26 : decode cX11_readNumber 26 = .ok (.getfield 206, 3) := by decide +kernel
theorem dX11_readNumber_29 : decode cX11_readNumber 29 = .ok (.aload_n 0, 1) := by decide +kernel
theorem dX11_readNumber_30 : decode cX11_readNumber 30 = .ok (.getfield 180, 3) := by decide +kernel
theorem dX11_readNumber_33 : decode cX11_readNumber 33 = .ok (.isub, 1) := by decide +kernel
theorem dX11_readNumber_34 : decode cX11_readNumber 34 = .ok (.iconst 4, 1) := by decide +kernel
theorem dX11_readNumber_35 : decode cX11_readNumber 35 = .ok (.if_icmp .gt 19, 3) := by decide +kernel
theorem dX11_readNumber_38 : decode cX11_readNumber 38 = .ok (.aload_n 0, 1) := by decide +kernel
theorem dX11_readNumber_39 : decode cX11_readNumber 39 = .ok (.getfield 193, 3) := by decide +kernel
theorem dX11_readNumber_42 : decode cX11_readNumber 42 = .ok (.iload_n 1, 1) := by decide +kernel
theorem dX11_readNumber_43 : decode cX11_readNumber 43 = .ok (.if_icmp .lt 11, 3) := by decide +kernel
theorem dX11_readNumber_46 : decode cX11_readNumber 46 = .ok (.aload_n 0, 1) := by decide +kernel
theorem dX11_readNumber_47 : decode cX11_readNumber 47 = .ok (.getfield 193, 3) := by decide +kernel
theorem dX11_readNumber_50 : decode cX11_readNumber 50 = .ok (.iload_n 2, 1) := by decide +kernel
theorem dX11_readNumber_51 : decode cX11_readNumber 51 = .ok (.if_icmp .le 8, 3) := by decide +kernel
theorem dX11_readNumber_54 : decode cX11_readNumber 54 = .ok (.aload_n 0, 1) := by decide +kernel
theorem dX11_readNumber_55 : decode cX11_readNumber 55 = .ok (.iconst 2, 1) := by decide +kernel
theorem dX11_readNumber_56 : decode cX11_readNumber 56 = .ok (.invokevirtual 230, 3) := by decide +kernel
theorem dX11_readNumber_59 : decode cX11_readNumber 59 = .ok (.aload_n 0, 1) := by decide +kernel
theorem dX11_readNumber_60 : decode cX11_readNumber 60 = .ok (.getfield 193, 3) := by decide +kernel
theorem dX11_readNumber_63 : decode cX11_readNumber 63 = .ok (.istore_n 3, 1) := by decide +kernel
theorem dX11_readNumber_64 : decode cX11_readNumber 64 = .ok (.aload_n 0, 1) := by decide +kernel
theorem dX11_readNumber_65 : decode cX11_readNumber 65 = .ok (.getfield 209, 3) := by decide +kernel
theorem dX11_readNumber_68 : decode cX11_readNumber 68 = .ok (.ifCond .ne 7, 3) := by decide +kernel
theorem dX11_readNumber_71 : decode cX11_readNumber 71 = .ok (.aload_n 0, 1) := by decide +kernel
theorem dX11_readNumber_72 : decode cX11_readNumber 72 = .ok (.invokevirtual 233, 3) := by decide +kernel
theorem dX11_readNumber_75 : decode cX11_readNumber 75 = .ok (.iload_n 3, 1) := by decide +kernel
theorem dX11_readNumber_76 : decode cX11_readNumber 76 = .ok (.ireturn, 1) := by decide +kernel
theorem dX11_readHouse_0 : decode cX11_readHouse 0 = .ok (.aload_n 0, 1) := by decide +kernel
theorem dX11_readHouse_1 : decode cX11_readHouse 1 = .ok (.getfield 209, 3) := by decide +kernel
theorem dX11_readHouse_4 : decode cX11_readHouse 4 = .ok (.ifCond .eq 5, 3) := by decide +kernel
theorem dX11_readHouse_7 : decode cX11_readHouse 7 = .ok (.iconst 0, 1) := by decide +kernel
theorem dX11_readHouse_8 : decode cX11_readHouse 8 = .ok (.ireturn, 1) := by decide +kernel
theorem dX11_readHouse_9 : decode cX11_readHouse 9 = .ok (.aload_n 0, 1) := by decide +kernel
theorem dX11_readHouse_10 : decode cX11_readHouse 10 = .ok (.getfield 183, 3) := by decide +kernel
theorem dX11_readHouse_13 : decode cX11_readHouse 13 = .ok (.iconst 2, 1) := by decide +kernel
theorem dX11_readHouse_14 : decode cX11_readHouse 14 = .ok (.if_icmp .eq 11, 3) := by decide +kernel
theorem dX11_readHouse_17 : decode cX11_readHouse 17 = .ok (.aload_n 0, 1) := by decide +kernel
theorem dX11_readHouse_18 : decode cX11_readHouse 18 = .ok (.iconst 1, 1) := by decide +kernel
theorem dX11_readHouse_19 : decode cX11_readHouse 19 = .ok (.invokevirtual 230, 3) := by decide +kernel
theorem dX11_readHouse_22 : decode cX11_readHouse 22 = .ok (.goto 58, 3) := by decide +kernel
theorem dX11_readHouse_25 : decode cX11_readHouse 25 = .ok (.aload_n 0, 1) := by decide +kernel
theorem dX11_readHouse_26 : decode cX11_readHouse 26 = .ok (.getfield 206, 3) := by decide +kernel
theorem dX11_readHouse_29 : decode cX11_readHouse 29 = .ok (.aload_n 0, 1) := by decide +kernel
theorem dX11_readHouse_30 : decode cX11_readHouse 30 = .ok (.getfield 180, 3) := by decide +kernel
theorem dX11_readHouse_33 : decode cX11_readHouse 33 = .ok (.isub, 1) := by decide +kernel
theorem dX11_readHouse_34 : decode cX11_readHouse 34 = .ok (.iconst 4, 1) := by decide +kernel
theorem dX11_readHouse_35 : decode cX11_readHouse 35 = .ok (.if_icmp .le 11, 3) := by decide +kernel
theorem dX11_readHouse_38 : decode cX11_readHouse 38 = .ok (.aload_n 0, 1) := by decide +kernel
theorem dX11_readHouse_39 : decode cX11_readHouse 39 = .ok (.iconst 2, 1) := by decide +kernel
theorem dX11_readHouse_40 : decode cX11_readHouse 40 = .ok (.invokevirtual 230, 3) := by decide +kernel
theorem dX11_readHouse_43 : decode cX11_readHouse 43 = .ok (.goto 37, 3) := by decide +kernel
theorem dX11_readHouse_46 : decode cX11_readHouse 46 = .ok (.aload_n 0, 1) := by decide +kernel
theorem dX11_readHouse_47 : decode cX11_readHouse 47 = .ok (.getfield 193, 3) := by decide +kernel
theorem dX11_readHouse_50 : decode cX11_readHouse 50 = .ok (.aload_n 0, 1) := by decide +kernel
theorem dX11_readHouse_51 : decode cX11_readHouse 51 = .ok (.getfield 40, 3) := by decide +kernel
theorem dX11_readHouse_54 : decode cX11_readHouse 54 = .ok (.iconst 4, 1) := by decide +kernel
theorem dX11_readHouse_55 : decode cX11_readHouse 55 = .ok (.iaload, 1) := by decide +kernel
theorem dX11_readHouse_56 : decode cX11_readHouse 56 = .ok (.if_icmp .lt 11, 3) := by decide +kernel
theorem dX11_readHouse_59 : decode cX11_readHouse 59 = .ok (.aload_n 0, 1) := by decide +kernel
theorem dX11_readHouse_60 : decode cX11_readHouse 60 = .ok (.iconst 3, 1) := by decide +kernel
theorem dX11_readHouse_61 : decode cX11_readHouse 61 = .ok (.invokevirtual 230, 3) := by decide +kernel
theorem dX11_readHouse_64 : decode cX11_readHouse 64 = .ok (.goto 16, 3) := by decide +kernel
theorem dX11_readHouse_67 : decode cX11_readHouse 67 = .ok (.aload_n 0, 1) := by decide +kernel
theorem dX11_readHouse_68 : decode cX11_readHouse 68 = .ok (.getfield 193, 3) := by decide +kernel
theorem dX11_readHouse_71 : decode cX11_readHouse 71 = .ok (.iload_n 1, 1) := by decide +kernel
theorem dX11_readHouse_72 : decode cX11_readHouse 72 = .ok (.if_icmp .ne 8, 3) := by decide +kernel
theorem dX11_readHouse_75 : decode cX11_readHouse 75 = .ok (.aload_n 0, 1) := by decide +kernel
theorem dX11_readHouse_76 : decode cX11_readHouse 76 = .ok (.iconst 4, 1) := by decide +kernel
theorem dX11_readHouse_77 : decode cX11_readHouse 77 = .ok (.invokevirtual 230, 3) := by decide +kernel
theorem dX11_readHouse_80 : decode cX11_readHouse 80 = .ok (.aload_n 0, 1) := by decide +kernel
theorem dX11_readHouse_81 : decode cX11_readHouse 81 = .ok (.getfield 193, 3) := by decide +kernel
theorem dX11_readHouse_84 : decode cX11_readHouse 84 = .ok (.istore_n 2, 1) := by decide +kernel
theorem dX11_readHouse_85 : decode cX11_readHouse 85 = .ok (.aload_n 0, 1) := by decide +kernel
theorem dX11_readHouse_86 : decode cX11_readHouse 86 = .ok (.getfield 209, 3) := by decide +kernel
theorem dX11_readHouse_89 : decode cX11_readHouse 89 = .ok (.ifCond .ne 7, 3) := by decide +kernel
theorem dX11_readHouse_92 : decode cX11_readHouse 92 = .ok (.aload_n 0, 1) := by decide +kernel
theorem dX11_readHouse_93 : decode cX11_readHouse 93 = .ok (.invokevirtual 233, 3) := by decide +kernel
theorem dX11_readHouse_96 : decode cX11_readHouse 96 = .ok (.iload_n 2, 1) := by decide +kernel
theorem dX11_readHouse_97 : decode cX11_readHouse 97 = .ok (.ireturn, 1) := by decide +kernel
theorem dX11_lay_0 : decode cX11_lay 0 = .ok (.aload_n 0, 1) := by decide +kernel
theorem dX11_lay_1 : decode cX11_lay 1 = .ok (.getfield 209, 3) := by decide +kernel
theorem dX11_lay_4 : decode cX11_lay 4 = .ok (.ifCond .eq 4, 3) := by decide +kernel
theorem dX11_lay_7 : decode cX11_lay 7 = .ok (.return_, 1) := by decide +kernel
theorem dX11_lay_8 : decode cX11_lay 8 = .ok (.aload_n 0, 1) := by decide +kernel
theorem dX11_lay_9 : decode cX11_lay 9 = .ok (.getfield 63, 3) := by decide +kernel
theorem dX11_lay_12 : decode cX11_lay 12 = .ok (.sipush 700, 3) := by decide +kernel
theorem dX11_lay_15 : decode cX11_lay 15 = .ok (.aload_n 0, 1) := by decide +kernel
theorem dX11_lay_16 : decode cX11_lay 16 = .ok (.getfield 236, 3) := by decide +kernel
theorem dX11_lay_19 : decode cX11_lay 19 = .ok (.iadd, 1) := by decide +kernel
theorem dX11_lay_20 : decode cX11_lay 20 = .ok (.iload_n 1, 1) := by decide +kernel
theorem dX11_lay_21 : decode cX11_lay 21 = .ok (.iastore, 1) := by decide +kernel
theorem dX11_lay_22 : decode cX11_lay 22 = .ok (.aload_n 0, 1) := by decide +kernel
theorem dX11_lay_23 : decode cX11_lay 23 = .ok (.dup, 1) := by decide +kernel
theorem dX11_lay_24 : decode cX11_lay 24 = .ok (.getfield 236, 3) := by decide +kernel
theorem dX11_lay_27 : decode cX11_lay 27 = .ok (.iconst 1, 1) := by decide +kernel
theorem dX11_lay_28 : decode cX11_lay 28 = .ok (.iadd, 1) := by decide +kernel
theorem dX11_lay_29 : decode cX11_lay 29 = .ok (.putfield 236, 3) := by decide +kernel
theorem dX11_lay_32 : decode cX11_lay 32 = .ok (.return_, 1) := by decide +kernel
theorem dX11_readPart_0 : decode cX11_readPart 0 = .ok (.aload_n 0, 1) := by decide +kernel
theorem dX11_readPart_1 : decode cX11_readPart 1 = .ok (.getfield 209, 3) := by decide +kernel
theorem dX11_readPart_4 : decode cX11_readPart 4 = .ok (.ifCond .eq 4, 3) := by decide +kernel
theorem dX11_readPart_7 : decode cX11_readPart 7 = .ok (.return_, 1) := by decide +kernel
theorem dX11_readPart_8 : decode cX11_readPart 8 = .ok (.aload_n 0, 1) := by decide +kernel
theorem dX11_readPart_9 : decode cX11_readPart 9 = .ok (.getfield 183, 3) := by decide +kernel
theorem dX11_readPart_12 : decode cX11_readPart 12 = .ok (.iconst 2, 1) := by decide +kernel
theorem dX11_readPart_13 : decode cX11_readPart 13 = .ok (.if_icmp .ne 16, 3) := by decide +kernel
theorem dX11_readPart_16 : decode cX11_readPart 16 = .ok (.aload_n 0, 1) := by decide +kernel
theorem dX11_readPart_17 : decode cX11_readPart 17 = .ok (.aload_n 0, 1) := by decide +kernel
theorem dX11_readPart_18 : decode cX11_readPart 18 = .ok (.iconst 0, 1) := by decide +kernel
theorem dX11_readPart_19 : decode cX11_readPart 19 = .ok (.sipush 9999, 3) := by decide +kernel
theorem dX11_readPart_22 : decode cX11_readPart 22 = .ok (.invokevirtual 239, 3) := by decide +kernel
theorem dX11_readPart_25 : decode cX11_readPart 25 = .ok (.invokevirtual 242, 3) := by decide +kernel
theorem dX11_readPart_28 : decode cX11_readPart 28 = .ok (.return_, 1) := by decide +kernel
theorem dX11_readPart_29 : decode cX11_readPart 29 = .ok (.aload_n 0, 1) := by decide +kernel
theorem dX11_readPart_30 : decode cX11_readPart 30 = .ok (.getfield 183, 3) := by decide +kernel
theorem dX11_readPart_33 : decode cX11_readPart 33 = .ok (.iconst 1, 1) := by decide +kernel
theorem dX11_readPart_34 : decode cX11_readPart 34 = .ok (.if_icmp .ne 41, 3) := by decide +kernel
theorem dX11_readPart_37 : decode cX11_readPart 37 = .ok (.aload_n 0, 1) := by decide +kernel
theorem dX11_readPart_38 : decode cX11_readPart 38 = .ok (.aload_n 0, 1) := by decide +kernel
theorem dX11_readPart_39 : decode cX11_readPart 39 = .ok (.getfield 37, 3) := by decide +kernel
theorem dX11_readPart_42 : decode cX11_readPart 42 = .ok (.invokevirtual 245, 3) := by decide +kernel
theorem dX11_readPart_45 : decode cX11_readPart 45 = .ok (.istore_n 2, 1) := by decide +kernel
theorem dX11_readPart_46 : decode cX11_readPart 46 = .ok (.iload_n 2, 1) := by decide +kernel
theorem dX11_readPart_47 : decode cX11_readPart 47 = .ok (.iconst (-1), 1) := by decide +kernel
theorem dX11_readPart_48 : decode cX11_readPart 48 = .ok (.if_icmp .ne 8, 3) := by decide +kernel
theorem dX11_readPart_51 : decode cX11_readPart 51 = .ok (.aload_n 0, 1) := by decide +kernel
theorem dX11_readPart_52 : decode cX11_readPart 52 = .ok (.iconst 3, 1) := by decide +kernel
theorem dX11_readPart_53 : decode cX11_readPart 53 = .ok (.invokevirtual 230, 3) := by decide +kernel
theorem dX11_readPart_56 : decode cX11_readPart 56 = .ok (.aload_n 0, 1) := by decide +kernel
theorem dX11_readPart_57 : decode cX11_readPart 57 = .ok (.iconst (-1), 1) := by decide +kernel
theorem dX11_readPart_58 : decode cX11_readPart 58 = .ok (.iload_n 2, 1) := by decide +kernel
theorem dX11_readPart_59 : decode cX11_readPart 59 = .ok (.isub, 1) := by decide +kernel
theorem dX11_readPart_60 : decode cX11_readPart 60 = .ok (.invokevirtual 242, 3) := by decide +kernel
theorem dX11_readPart_63 : decode cX11_readPart 63 = .ok (.aload_n 0, 1) := by decide +kernel
theorem dX11_readPart_64 : decode cX11_readPart 64 = .ok (.getfield 209, 3) := by decide +kernel
theorem dX11_readPart_67 : decode cX11_readPart 67 = .ok (.ifCond .ne 7, 3) := by decide +kernel
theorem dX11_readPart_70 : decode cX11_readPart 70 = .ok (.aload_n 0, 1) := by decide +kernel
theorem dX11_readPart_71 : decode cX11_readPart 71 = .ok (.invokevirtual 233, 3) := by decide +kernel
theorem dX11_readPart_74 : decode cX11_readPart 74 = .ok (.return_, 1) := by decide +kernel
theorem dX11_readPart_75 : decode cX11_readPart 75 = .ok (.aload_n 0, 1) := by decide +kernel
theorem dX11_readPart_76 : decode cX11_readPart 76 = .ok (.bipush 40, 2) := by decide +kernel
theorem dX11_readPart_78 : decode cX11_readPart 78 = .ok (.invokevirtual 249, 3) := by decide +kernel
theorem dX11_readPart_81 : decode cX11_readPart 81 = .ok (.aload_n 0, 1) := by decide +kernel
theorem dX11_readPart_82 : decode cX11_readPart 82 = .ok (.iload_n 1, 1) := by decide +kernel
theorem dX11_readPart_83 : decode cX11_readPart 83 = .ok (.iconst 1, 1) := by decide +kernel
theorem dX11_readPart_84 : decode cX11_readPart 84 = .ok (.iadd, 1) := by decide +kernel
theorem dX11_readPart_85 : decode cX11_readPart 85 = .ok (.invokevirtual 252, 3) := by decide +kernel
theorem dX11_readPart_88 : decode cX11_readPart 88 = .ok (.aload_n 0, 1) := by decide +kernel
theorem dX11_readPart_89 : decode cX11_readPart 89 = .ok (.bipush 41, 2) := by decide +kernel
theorem dX11_readPart_91 : decode cX11_readPart 91 = .ok (.invokevirtual 249, 3) := by decide +kernel
theorem dX11_readPart_94 : decode cX11_readPart 94 = .ok (.return_, 1) := by decide +kernel
theorem dX11_readProduct_0 : decode cX11_readProduct 0 = .ok (.aload_n 0, 1) := by decide +kernel
theorem dX11_readProduct_1 : decode cX11_readProduct 1 = .ok (.iload_n 1, 1) := by decide +kernel
theorem dX11_readProduct_2 : decode cX11_readProduct 2 = .ok (.invokevirtual 255, 3) := by decide +kernel
theorem dX11_readProduct_5 : decode cX11_readProduct 5 = .ok (.aload_n 0, 1) := by decide +kernel
theorem dX11_readProduct_6 : decode cX11_readProduct 6 = .ok (.bipush 42, 2) := by decide +kernel
theorem dX11_readProduct_8 : decode cX11_readProduct 8 = .ok (.invokevirtual 227, 3) := by decide +kernel
theorem dX11_readProduct_11 : decode cX11_readProduct 11 = .ok (.ifCond .ne 12, 3) := by decide +kernel
theorem dX11_readProduct_14 : decode cX11_readProduct 14 = .ok (.aload_n 0, 1) := by decide +kernel
theorem dX11_readProduct_15 : decode cX11_readProduct 15 = .ok (.bipush 47, 2) := by decide +kernel
theorem dX11_readProduct_17 : decode cX11_readProduct 17 = .ok (.invokevirtual 227, 3) := by decide +kernel
theorem dX11_readProduct_20 : decode cX11_readProduct 20 = .ok (.ifCond .eq 37, 3) := by decide +kernel
theorem dX11_readProduct_23 : decode cX11_readProduct 23 = .ok (.aload_n 0, 1) := by decide +kernel
theorem dX11_readProduct_24 : decode cX11_readProduct 24 = .ok (.bipush 42, 2) := by decide +kernel
theorem dX11_readProduct_26 : decode cX11_readProduct 26 = .ok (.invokevirtual 227, 3) := by decide +kernel
theorem dX11_readProduct_29 : decode cX11_readProduct 29 = .ok (.ifCond .eq 8, 3) := by decide +kernel
theorem dX11_readProduct_32 : decode cX11_readProduct 32 = .ok (.bipush (-22), 2) := by decide +kernel
theorem dX11_readProduct_34 : decode cX11_readProduct 34 = .ok (.goto 5, 3) := by decide +kernel
theorem dX11_readProduct_37 : decode cX11_readProduct 37 = .ok (.bipush (-23), 2) := by decide +kernel
theorem dX11_readProduct_39 : decode cX11_readProduct 39 = .ok (.istore_n 2, 1) := by decide +kernel
theorem dX11_readProduct_40 : decode cX11_readProduct 40 = .ok (.aload_n 0, 1) := by decide +kernel
theorem dX11_readProduct_41 : decode cX11_readProduct 41 = .ok (.invokevirtual 233, 3) := by decide +kernel
theorem dX11_readProduct_44 : decode cX11_readProduct 44 = .ok (.aload_n 0, 1) := by decide +kernel
theorem dX11_readProduct_45 : decode cX11_readProduct 45 = .ok (.iload_n 1, 1) := by decide +kernel
theorem dX11_readProduct_46 : decode cX11_readProduct 46 = .ok (.invokevirtual 255, 3) := by decide +kernel
theorem dX11_readProduct_49 : decode cX11_readProduct 49 = .ok (.aload_n 0, 1) := by decide +kernel
theorem dX11_readProduct_50 : decode cX11_readProduct 50 = .ok (.iload_n 2, 1) := by decide +kernel
theorem dX11_readProduct_51 : decode cX11_readProduct 51 = .ok (.invokevirtual 242, 3) := by decide +kernel
theorem dX11_readProduct_54 : decode cX11_readProduct 54 = .ok (.goto (-49), 3) := by decide +kernel
theorem dX11_readProduct_57 : decode cX11_readProduct 57 = .ok (.return_, 1) := by decide +kernel
theorem dX11_readSum_0 : decode cX11_readSum 0 = .ok (.aload_n 0, 1) := by decide +kernel
theorem dX11_readSum_1 : decode cX11_readSum 1 = .ok (.iload_n 1, 1) := by decide +kernel
theorem dX11_readSum_2 : decode cX11_readSum 2 = .ok (.invokevirtual 258, 3) := by decide +kernel
theorem dX11_readSum_5 : decode cX11_readSum 5 = .ok (.aload_n 0, 1) := by decide +kernel
theorem dX11_readSum_6 : decode cX11_readSum 6 = .ok (.bipush 43, 2) := by decide +kernel
theorem dX11_readSum_8 : decode cX11_readSum 8 = .ok (.invokevirtual 227, 3) := by decide +kernel
theorem dX11_readSum_11 : decode cX11_readSum 11 = .ok (.ifCond .ne 12, 3) := by decide +kernel
theorem dX11_readSum_14 : decode cX11_readSum 14 = .ok (.aload_n 0, 1) := by decide +kernel
theorem dX11_readSum_15 : decode cX11_readSum 15 = .ok (.bipush 45, 2) := by decide +kernel
theorem dX11_readSum_17 : decode cX11_readSum 17 = .ok (.invokevirtual 227, 3) := by decide +kernel
theorem dX11_readSum_20 : decode cX11_readSum 20 = .ok (.ifCond .eq 37, 3) := by decide +kernel
theorem dX11_readSum_23 : decode cX11_readSum 23 = .ok (.aload_n 0, 1) := by decide +kernel
theorem dX11_readSum_24 : decode cX11_readSum 24 = .ok (.bipush 43, 2) := by decide +kernel
theorem dX11_readSum_26 : decode cX11_readSum 26 = .ok (.invokevirtual 227, 3) := by decide +kernel
theorem dX11_readSum_29 : decode cX11_readSum 29 = .ok (.ifCond .eq 8, 3) := by decide +kernel
theorem dX11_readSum_32 : decode cX11_readSum 32 = .ok (.bipush (-20), 2) := by decide +kernel
theorem dX11_readSum_34 : decode cX11_readSum 34 = .ok (.goto 5, 3) := by decide +kernel
theorem dX11_readSum_37 : decode cX11_readSum 37 = .ok (.bipush (-21), 2) := by decide +kernel
theorem dX11_readSum_39 : decode cX11_readSum 39 = .ok (.istore_n 2, 1) := by decide +kernel
theorem dX11_readSum_40 : decode cX11_readSum 40 = .ok (.aload_n 0, 1) := by decide +kernel
theorem dX11_readSum_41 : decode cX11_readSum 41 = .ok (.invokevirtual 233, 3) := by decide +kernel
theorem dX11_readSum_44 : decode cX11_readSum 44 = .ok (.aload_n 0, 1) := by decide +kernel
theorem dX11_readSum_45 : decode cX11_readSum 45 = .ok (.iload_n 1, 1) := by decide +kernel
theorem dX11_readSum_46 : decode cX11_readSum 46 = .ok (.invokevirtual 258, 3) := by decide +kernel
theorem dX11_readSum_49 : decode cX11_readSum 49 = .ok (.aload_n 0, 1) := by decide +kernel
theorem dX11_readSum_50 : decode cX11_readSum 50 = .ok (.iload_n 2, 1) := by decide +kernel
theorem dX11_readSum_51 : decode cX11_readSum 51 = .ok (.invokevirtual 242, 3) := by decide +kernel
theorem dX11_readSum_54 : decode cX11_readSum 54 = .ok (.goto (-49), 3) := by decide +kernel
theorem dX11_readSum_57 : decode cX11_readSum 57 = .ok (.return_, 1) := by decide +kernel
theorem dX11_readNot_0 : decode cX11_readNot 0 = .ok (.iconst 0, 1) := by decide +kernel
theorem dX11_readNot_1 : decode cX11_readNot 1 = .ok (.istore_n 2, 1) := by decide +kernel
theorem dX11_readNot_2 : decode cX11_readNot 2 = .ok (.aload_n 0, 1) := by decide +kernel
theorem dX11_readNot_3 : decode cX11_readNot 3 = .ok (.ldc_w 261, 3) := by decide +kernel
theorem dX11_readNot_6 : decode cX11_readNot 6 = .ok (.invokevirtual 223, 3) := by decide +kernel
theorem dX11_readNot_9 : decode cX11_readNot 9 = .ok (.ifCond .eq 31, 3) := by decide +kernel
theorem dX11_readNot_12 : decode cX11_readNot 12 = .ok (.iload_n 2, 1) := by decide +kernel
theorem dX11_readNot_13 : decode cX11_readNot 13 = .ok (.bipush 6, 2) := by decide +kernel
theorem dX11_readNot_15 : decode cX11_readNot 15 = .ok (.if_icmp .ne 8, 3) := by decide +kernel
theorem dX11_readNot_18 : decode cX11_readNot 18 = .ok (.aload_n 0, 1) := by decide +kernel
theorem dX11_readNot_19 : decode cX11_readNot 19 = .ok (.iconst 2, 1) := by decide +kernel
theorem dX11_readNot_20 : decode cX11_readNot 20 = .ok (.invokevirtual 230, 3) := by decide +kernel
theorem dX11_readNot_23 : decode cX11_readNot 23 = .ok (.iinc 2 1, 3) := by decide +kernel
theorem dX11_readNot_26 : decode cX11_readNot 26 = .ok (.aload_n 0, 1) := by decide +kernel
theorem dX11_readNot_27 : decode cX11_readNot 27 = .ok (.getfield 209, 3) := by decide +kernel
theorem dX11_readNot_30 : decode cX11_readNot 30 = .ok (.ifCond .ne (-28), 3) := by decide +kernel
theorem dX11_readNot_33 : decode cX11_readNot 33 = .ok (.aload_n 0, 1) := by decide +kernel
theorem dX11_readNot_34 : decode cX11_readNot 34 = .ok (.invokevirtual 233, 3) := by decide +kernel
theorem dX11_readNot_37 : decode cX11_readNot 37 = .ok (.goto (-35), 3) := by decide +kernel
theorem dX11_readNot_40 : decode cX11_readNot 40 = .ok (.aload_n 0, 1) := by decide +kernel
theorem dX11_readNot_41 : decode cX11_readNot 41 = .ok (.iload_n 1, 1) := by decide +kernel
theorem dX11_readNot_42 : decode cX11_readNot 42 = .ok (.invokevirtual 263, 3) := by decide +kernel
theorem dX11_readNot_45 : decode cX11_readNot 45 = .ok (.aload_n 0, 1) := by decide +kernel
theorem dX11_readNot_46 : decode cX11_readNot 46 = .ok (.bipush 60, 2) := by decide +kernel
theorem dX11_readNot_48 : decode cX11_readNot 48 = .ok (.invokevirtual 227, 3) := by decide +kernel
theorem dX11_readNot_51 : decode cX11_readNot 51 = .ok (.ifCond .ne 12, 3) := by decide +kernel
theorem dX11_readNot_54 : decode cX11_readNot 54 = .ok (.aload_n 0, 1) := by decide +kernel
theorem dX11_readNot_55 : decode cX11_readNot 55 = .ok (.bipush 61, 2) := by decide +kernel
theorem dX11_readNot_57 : decode cX11_readNot 57 = .ok (.invokevirtual 227, 3) := by decide +kernel
theorem dX11_readNot_60 : decode cX11_readNot 60 = .ok (.ifCond .eq 34, 3) := by decide +kernel
theorem dX11_readNot_63 : decode cX11_readNot 63 = .ok (.aload_n 0, 1) := by decide +kernel
theorem dX11_readNot_64 : decode cX11_readNot 64 = .ok (.bipush 60, 2) := by decide +kernel
theorem dX11_readNot_66 : decode cX11_readNot 66 = .ok (.invokevirtual 227, 3) := by decide +kernel
theorem dX11_readNot_69 : decode cX11_readNot 69 = .ok (.ifCond .eq 8, 3) := by decide +kernel
theorem dX11_readNot_72 : decode cX11_readNot 72 = .ok (.bipush (-24), 2) := by decide +kernel
theorem dX11_readNot_74 : decode cX11_readNot 74 = .ok (.goto 5, 3) := by decide +kernel
theorem dX11_readNot_77 : decode cX11_readNot 77 = .ok (.bipush (-25), 2) := by decide +kernel
theorem dX11_readNot_79 : decode cX11_readNot 79 = .ok (.istore_n 3, 1) := by decide +kernel
theorem dX11_readNot_80 : decode cX11_readNot 80 = .ok (.aload_n 0, 1) := by decide +kernel
theorem dX11_readNot_81 : decode cX11_readNot 81 = .ok (.invokevirtual 233, 3) := by decide +kernel
theorem dX11_readNot_84 : decode cX11_readNot 84 = .ok (.aload_n 0, 1) := by decide +kernel
theorem dX11_readNot_85 : decode cX11_readNot 85 = .ok (.iload_n 1, 1) := by decide +kernel
theorem dX11_readNot_86 : decode cX11_readNot 86 = .ok (.invokevirtual 263, 3) := by decide +kernel
theorem dX11_readNot_89 : decode cX11_readNot 89 = .ok (.aload_n 0, 1) := by decide +kernel
theorem dX11_readNot_90 : decode cX11_readNot 90 = .ok (.iload_n 3, 1) := by decide +kernel
theorem dX11_readNot_91 : decode cX11_readNot 91 = .ok (.invokevirtual 242, 3) := by decide +kernel
theorem dX11_readNot_94 : decode cX11_readNot 94 = .ok (.iconst 0, 1) := by decide +kernel
theorem dX11_readNot_95 : decode cX11_readNot 95 = .ok (.istore_n 3, 1) := by decide +kernel
theorem dX11_readNot_96 : decode cX11_readNot 96 = .ok (.iload_n 3, 1) := by decide +kernel
theorem dX11_readNot_97 : decode cX11_readNot 97 = .ok (.iload_n 2, 1) := by decide +kernel
theorem dX11_readNot_98 : decode cX11_readNot 98 = .ok (.if_icmp .ge 15, 3) := by decide +kernel
theorem dX11_readNot_101 : decode cX11_readNot 101 = .ok (.aload_n 0, 1) := by decide +kernel
theorem dX11_readNot_102 : decode cX11_readNot 102 = .ok (.bipush (-28), 2) := by decide +kernel
theorem dX11_readNot_104 : decode cX11_readNot 104 = .ok (.invokevirtual 242, 3) := by decide +kernel
theorem dX11_readNot_107 : decode cX11_readNot 107 = .ok (.iinc 3 1, 3) := by decide +kernel
theorem dX11_readNot_110 : decode cX11_readNot 110 = .ok (.goto (-14), 3) := by decide +kernel
theorem dX11_readNot_113 : decode cX11_readNot 113 = .ok (.return_, 1) := by decide +kernel
theorem dX11_readAnd_0 : decode cX11_readAnd 0 = .ok (.aload_n 0, 1) := by decide +kernel
theorem dX11_readAnd_1 : decode cX11_readAnd 1 = .ok (.iload_n 1, 1) := by decide +kernel
theorem dX11_readAnd_2 : decode cX11_readAnd 2 = .ok (.invokevirtual 266, 3) := by decide +kernel
theorem dX11_readAnd_5 : decode cX11_readAnd 5 = .ok (.aload_n 0, 1) := by decide +kernel
theorem dX11_readAnd_6 : decode cX11_readAnd 6 = .ok (.ldc_w 269, 3) := by decide +kernel
theorem dX11_readAnd_9 : decode cX11_readAnd 9 = .ok (.invokevirtual 223, 3) := by decide +kernel
theorem dX11_readAnd_12 : decode cX11_readAnd 12 = .ok (.ifCond .eq 21, 3) := by decide +kernel
theorem dX11_readAnd_15 : decode cX11_readAnd 15 = .ok (.aload_n 0, 1) := by decide +kernel
theorem dX11_readAnd_16 : decode cX11_readAnd 16 = .ok (.invokevirtual 233, 3) := by decide +kernel
theorem dX11_readAnd_19 : decode cX11_readAnd 19 = .ok (.aload_n 0, 1) := by decide +kernel
theorem dX11_readAnd_20 : decode cX11_readAnd 20 = .ok (.iload_n 1, 1) := by decide +kernel
theorem dX11_readAnd_21 : decode cX11_readAnd 21 = .ok (.invokevirtual 266, 3) := by decide +kernel
theorem dX11_readAnd_24 : decode cX11_readAnd 24 = .ok (.aload_n 0, 1) := by decide +kernel
theorem dX11_readAnd_25 : decode cX11_readAnd 25 = .ok (.bipush (-26), 2) := by decide +kernel
theorem dX11_readAnd_27 : decode cX11_readAnd 27 = .ok (.invokevirtual 242, 3) := by decide +kernel
theorem dX11_readAnd_30 : decode cX11_readAnd 30 = .ok (.goto (-25), 3) := by decide +kernel
theorem dX11_readAnd_33 : decode cX11_readAnd 33 = .ok (.return_, 1) := by decide +kernel
theorem dX11_readExpression_0 : decode cX11_readExpression 0 = .ok (.aload_n 0, 1) := by decide +kernel
theorem dX11_readExpression_1 : decode cX11_readExpression 1 = .ok (.getfield 209, 3) := by decide +kernel
theorem dX11_readExpression_4 : decode cX11_readExpression 4 = .ok (.ifCond .eq 4, 3) := by decide +kernel
theorem dX11_readExpression_7 : decode cX11_readExpression 7 = .ok (.return_, 1) := by decide +kernel
theorem dX11_readExpression_8 : decode cX11_readExpression 8 = .ok (.aload_n 0, 1) := by decide +kernel
theorem dX11_readExpression_9 : decode cX11_readExpression 9 = .ok (.getfield 183, 3) := by decide +kernel
theorem dX11_readExpression_12 : decode cX11_readExpression 12 = .ok (.iconst 2, 1) := by decide +kernel
theorem dX11_readExpression_13 : decode cX11_readExpression 13 = .ok (.if_icmp .eq 20, 3) := by decide +kernel
theorem dX11_readExpression_16 : decode cX11_readExpression 16 = .ok (.aload_n 0, 1) := by decide +kernel
theorem dX11_readExpression_17 : decode cX11_readExpression 17 = .ok (.getfield 183, 3) := by decide +kernel
theorem dX11_readExpression_20 : decode cX11_readExpression 20 = .ok (.iconst 1, 1) := by decide +kernel
theorem dX11_readExpression_21 : decode cX11_readExpression 21 = .ok (.if_icmp .eq 12, 3) := by decide +kernel
theorem dX11_readExpression_24 : decode cX11_readExpression 24 = .ok (.aload_n 0, 1) := by decide +kernel
theorem dX11_readExpression_25 : decode cX11_readExpression 25 = .ok (.bipush 40, 2) := by decide +kernel
theorem dX11_readExpression_27 : decode cX11_readExpression 27 = .ok (.invokevirtual 227, 3) := by decide +kernel
theorem dX11_readExpression_30 : decode cX11_readExpression 30 = .ok (.ifCond .eq 7, 3) := by decide +kernel
theorem dX11_readExpression_33 : decode cX11_readExpression 33 = .ok (.iconst 1, 1) := by decide +kernel
theorem dX11_readExpression_34 : decode cX11_readExpression 34 = .ok (.goto 4, 3) := by decide +kernel
theorem dX11_readExpression_37 : decode cX11_readExpression 37 = .ok (.iconst 0, 1) := by decide +kernel
theorem dX11_readExpression_38 : decode cX11_readExpression 38 = .ok (.istore_n 2, 1) := by decide +kernel
theorem dX11_readExpression_39 : decode cX11_readExpression 39 = .ok (.iload_n 2, 1) := by decide +kernel
theorem dX11_readExpression_40 : decode cX11_readExpression 40 = .ok (.ifCond .ne 11, 3) := by decide +kernel
theorem dX11_readExpression_43 : decode cX11_readExpression 43 = .ok (.aload_n 0, 1) := by decide +kernel
theorem dX11_readExpression_44 : decode cX11_readExpression 44 = .ok (.iconst 1, 1) := by decide +kernel
theorem dX11_readExpression_45 : decode cX11_readExpression 45 = .ok (.invokevirtual 230, 3) := by decide +kernel
theorem dX11_readExpression_48 : decode cX11_readExpression 48 = .ok (.goto 14, 3) := by decide +kernel
theorem dX11_readExpression_51 : decode cX11_readExpression 51 = .ok (.iload_n 1, 1) := by decide +kernel
theorem dX11_readExpression_52 : decode cX11_readExpression 52 = .ok (.bipush 6, 2) := by decide +kernel
theorem dX11_readExpression_54 : decode cX11_readExpression 54 = .ok (.if_icmp .ne 8, 3) := by decide +kernel
theorem dX11_readExpression_57 : decode cX11_readExpression 57 = .ok (.aload_n 0, 1) := by decide +kernel
theorem dX11_readExpression_58 : decode cX11_readExpression 58 = .ok (.iconst 2, 1) := by decide +kernel
theorem dX11_readExpression_59 : decode cX11_readExpression 59 = .ok (.invokevirtual 230, 3) := by decide +kernel
theorem dX11_readExpression_62 : decode cX11_readExpression 62 = .ok (.aload_n 0, 1) := by decide +kernel
theorem dX11_readExpression_63 : decode cX11_readExpression 63 = .ok (.iload_n 1, 1) := by decide +kernel
theorem dX11_readExpression_64 : decode cX11_readExpression 64 = .ok (.invokevirtual 271, 3) := by decide +kernel
theorem dX11_readExpression_67 : decode cX11_readExpression 67 = .ok (.aload_n 0, 1) := by decide +kernel
theorem dX11_readExpression_68 : decode cX11_readExpression 68 = .ok (.ldc_w 274, 3) := by decide +kernel
theorem dX11_readExpression_71 : decode cX11_readExpression 71 = .ok (.invokevirtual 223, 3) := by decide +kernel
theorem dX11_readExpression_74 : decode cX11_readExpression 74 = .ok (.ifCond .eq 21, 3) := by decide +kernel
theorem dX11_readExpression_77 : decode cX11_readExpression 77 = .ok (.aload_n 0, 1) := by decide +kernel
theorem dX11_readExpression_78 : decode cX11_readExpression 78 = .ok (.invokevirtual 233, 3) := by decide +kernel
theorem dX11_readExpression_81 : decode cX11_readExpression 81 = .ok (.aload_n 0, 1) := by decide +kernel
theorem dX11_readExpression_82 : decode cX11_readExpression 82 = .ok (.iload_n 1, 1) := by decide +kernel
theorem dX11_readExpression_83 : decode cX11_readExpression 83 = .ok (.invokevirtual 271, 3) := by decide +kernel
theorem dX11_readExpression_86 : decode cX11_readExpression 86 = .ok (.aload_n 0, 1) := by decide +kernel
theorem dX11_readExpression_87 : decode cX11_readExpression 87 = .ok (.bipush (-27), 2) := by decide +kernel
theorem dX11_readExpression_89 : decode cX11_readExpression 89 = .ok (.invokevirtual 242, 3) := by decide +kernel
theorem dX11_readExpression_92 : decode cX11_readExpression 92 = .ok (.goto (-25), 3) := by decide +kernel
theorem dX11_readExpression_95 : decode cX11_readExpression 95 = .ok (.return_, 1) := by decide +kernel
theorem dX11_readPerson_0 : decode cX11_readPerson 0 = .ok (.bipush 16, 2) := by decide +kernel
theorem dX11_readPerson_2 : decode cX11_readPerson 2 = .ok (.aload_n 0, 1) := by decide +kernel
theorem dX11_readPerson_3 : decode cX11_readPerson 3 = .ok (.getfield 40, 3) := by decide +kernel
theorem dX11_readPerson_6 : decode cX11_readPerson 6 = .ok (.iconst 5, 1) := by decide +kernel
theorem dX11_readPerson_7 : decode cX11_readPerson 7 = .ok (.iaload, 1) := by decide +kernel
theorem dX11_readPerson_8 : decode cX11_readPerson 8 = .ok (.iadd, 1) := by decide +kernel
theorem dX11_readPerson_9 : decode cX11_readPerson 9 = .ok (.istore_n 1, 1) := by decide +kernel
theorem dX11_readPerson_10 : decode cX11_readPerson 10 = .ok (.aload_n 0, 1) := by decide +kernel
theorem dX11_readPerson_11 : decode cX11_readPerson 11 = .ok (.getfield 44, 3) := by decide +kernel
theorem dX11_readPerson_14 : decode cX11_readPerson 14 = .ok (.iload_n 1, 1) := by decide +kernel
theorem dX11_readPerson_15 : decode cX11_readPerson 15 = .ok (.aload_n 0, 1) := by decide +kernel
theorem dX11_readPerson_16 : decode cX11_readPerson 16 = .ok (.iconst (-1), 1) := by decide +kernel
theorem dX11_readPerson_17 : decode cX11_readPerson 17 = .ok (.invokevirtual 276, 3) := by decide +kernel
theorem dX11_readPerson_20 : decode cX11_readPerson 20 = .ok (.iastore, 1) := by decide +kernel
theorem dX11_readPerson_21 : decode cX11_readPerson 21 = .ok (.aload_n 0, 1) := by decide +kernel
theorem dX11_readPerson_22 : decode cX11_readPerson 22 = .ok (.getfield 47, 3) := by decide +kernel
theorem dX11_readPerson_25 : decode cX11_readPerson 25 = .ok (.iload_n 1, 1) := by decide +kernel
theorem dX11_readPerson_26 : decode cX11_readPerson 26 = .ok (.bipush 100, 2) := by decide +kernel
theorem dX11_readPerson_28 : decode cX11_readPerson 28 = .ok (.iastore, 1) := by decide +kernel
theorem dX11_readPerson_29 : decode cX11_readPerson 29 = .ok (.aload_n 0, 1) := by decide +kernel
theorem dX11_readPerson_30 : decode cX11_readPerson 30 = .ok (.ldc_w 279, 3) := by decide +kernel
theorem dX11_readPerson_33 : decode cX11_readPerson 33 = .ok (.invokevirtual 223, 3) := by decide +kernel
theorem dX11_readPerson_36 : decode cX11_readPerson 36 = .ok (.ifCond .eq 21, 3) := by decide +kernel
theorem dX11_readPerson_39 : decode cX11_readPerson 39 = .ok (.aload_n 0, 1) := by decide +kernel
theorem dX11_readPerson_40 : decode cX11_readPerson 40 = .ok (.invokevirtual 233, 3) := by decide +kernel
theorem dX11_readPerson_43 : decode cX11_readPerson 43 = .ok (.aload_n 0, 1) := by decide +kernel
theorem dX11_readPerson_44 : decode cX11_readPerson 44 = .ok (.getfield 47, 3) := by decide +kernel
theorem dX11_readPerson_47 : decode cX11_readPerson 47 = .ok (.iload_n 1, 1) := by decide +kernel
theorem dX11_readPerson_48 : decode cX11_readPerson 48 = .ok (.aload_n 0, 1) := by decide +kernel
theorem dX11_readPerson_49 : decode cX11_readPerson 49 = .ok (.iconst 0, 1) := by decide +kernel
theorem dX11_readPerson_50 : decode cX11_readPerson 50 = .ok (.sipush 1000, 3) := by decide +kernel
theorem dX11_readPerson_53 : decode cX11_readPerson 53 = .ok (.invokevirtual 239, 3) := by decide +kernel
theorem dX11_readPerson_56 : decode cX11_readPerson 56 = .ok (.iastore, 1) := by decide +kernel
theorem dX11_readPerson_57 : decode cX11_readPerson 57 = .ok (.aload_n 0, 1) := by decide +kernel
theorem dX11_readPerson_58 : decode cX11_readPerson 58 = .ok (.getfield 53, 3) := by decide +kernel
theorem dX11_readPerson_61 : decode cX11_readPerson 61 = .ok (.iload_n 1, 1) := by decide +kernel
theorem dX11_readPerson_62 : decode cX11_readPerson 62 = .ok (.aload_n 0, 1) := by decide +kernel
theorem dX11_readPerson_63 : decode cX11_readPerson 63 = .ok (.ldc 29, 2) := by decide +kernel
theorem dX11_readPerson_65 : decode cX11_readPerson 65 = .ok (.invokevirtual 223, 3) := by decide +kernel
theorem dX11_readPerson_68 : decode cX11_readPerson 68 = .ok (.bastore, 1) := by decide +kernel
theorem dX11_readPerson_69 : decode cX11_readPerson 69 = .ok (.aload_n 0, 1) := by decide +kernel
theorem dX11_readPerson_70 : decode cX11_readPerson 70 = .ok (.getfield 53, 3) := by decide +kernel
theorem dX11_readPerson_73 : decode cX11_readPerson 73 = .ok (.iload_n 1, 1) := by decide +kernel
theorem dX11_readPerson_74 : decode cX11_readPerson 74 = .ok (.baload, 1) := by decide +kernel
theorem dX11_readPerson_75 : decode cX11_readPerson 75 = .ok (.ifCond .eq 7, 3) := by decide +kernel
theorem dX11_readPerson_78 : decode cX11_readPerson 78 = .ok (.aload_n 0, 1) := by decide +kernel
theorem dX11_readPerson_79 : decode cX11_readPerson 79 = .ok (.invokevirtual 233, 3) := by decide +kernel
theorem dX11_readPerson_82 : decode cX11_readPerson 82 = .ok (.aload_n 0, 1) := by decide +kernel
theorem dX11_readPerson_83 : decode cX11_readPerson 83 = .ok (.getfield 40, 3) := by decide +kernel
theorem dX11_readPerson_86 : decode cX11_readPerson 86 = .ok (.iconst 5, 1) := by decide +kernel
theorem dX11_readPerson_87 : decode cX11_readPerson 87 = .ok (.dup2, 1) := by decide +kernel
theorem dX11_readPerson_88 : decode cX11_readPerson 88 = .ok (.iaload, 1) := by decide +kernel
theorem dX11_readPerson_89 : decode cX11_readPerson 89 = .ok (.iconst 1, 1) := by decide +kernel
theorem dX11_readPerson_90 : decode cX11_readPerson 90 = .ok (.iadd, 1) := by decide +kernel
theorem dX11_readPerson_91 : decode cX11_readPerson 91 = .ok (.iastore, 1) := by decide +kernel
theorem dX11_readPerson_92 : decode cX11_readPerson 92 = .ok (.return_, 1) := by decide +kernel
theorem dX11_readWalk_0 : decode cX11_readWalk 0 = .ok (.aload_n 0, 1) := by decide +kernel
theorem dX11_readWalk_1 : decode cX11_readWalk 1 = .ok (.iconst (-1), 1) := by decide +kernel
theorem dX11_readWalk_2 : decode cX11_readWalk 2 = .ok (.invokevirtual 276, 3) := by decide +kernel
theorem dX11_readWalk_5 : decode cX11_readWalk 5 = .ok (.istore_n 1, 1) := by decide +kernel
theorem dX11_readWalk_6 : decode cX11_readWalk 6 = .ok (.aload_n 0, 1) := by decide +kernel
theorem dX11_readWalk_7 : decode cX11_readWalk 7 = .ok (.iload_n 1, 1) := by decide +kernel
theorem dX11_readWalk_8 : decode cX11_readWalk 8 = .ok (.invokevirtual 276, 3) := by decide +kernel
theorem dX11_readWalk_11 : decode cX11_readWalk 11 = .ok (.istore_n 2, 1) := by decide +kernel
theorem dX11_readWalk_12 : decode cX11_readWalk 12 = .ok (.aload_n 0, 1) := by decide +kernel
theorem dX11_readWalk_13 : decode cX11_readWalk 13 = .ok (.iconst 1, 1) := by decide +kernel
theorem dX11_readWalk_14 : decode cX11_readWalk 14 = .ok (.bipush 99, 2) := by decide +kernel
theorem dX11_readWalk_16 : decode cX11_readWalk 16 = .ok (.invokevirtual 239, 3) := by decide +kernel
theorem dX11_readWalk_19 : decode cX11_readWalk 19 = .ok (.istore_n 3, 1) := by decide +kernel
theorem dX11_readWalk_20 : decode cX11_readWalk 20 = .ok (.aload_n 0, 1) := by decide +kernel
theorem dX11_readWalk_21 : decode cX11_readWalk 21 = .ok (.getfield 209, 3) := by decide +kernel
theorem dX11_readWalk_24 : decode cX11_readWalk 24 = .ok (.ifCond .eq 4, 3) := by decide +kernel
theorem dX11_readWalk_27 : decode cX11_readWalk 27 = .ok (.return_, 1) := by decide +kernel
theorem dX11_readWalk_28 : decode cX11_readWalk 28 = .ok (.aload_n 0, 1) := by decide +kernel
theorem dX11_readWalk_29 : decode cX11_readWalk 29 = .ok (.getfield 50, 3) := by decide +kernel
theorem dX11_readWalk_32 : decode cX11_readWalk 32 = .ok (.bipush 100, 2) := by decide +kernel
theorem dX11_readWalk_34 : decode cX11_readWalk 34 = .ok (.bipush 10, 2) := by decide +kernel
theorem dX11_readWalk_36 : decode cX11_readWalk 36 = .ok (.iload_n 1, 1) := by decide +kernel
theorem dX11_readWalk_37 : decode cX11_readWalk 37 = .ok (.imul, 1) := by decide +kernel
theorem dX11_readWalk_38 : decode cX11_readWalk 38 = .ok (.iadd, 1) := by decide +kernel
theorem dX11_readWalk_39 : decode cX11_readWalk 39 = .ok (.iload_n 2, 1) := by decide +kernel
theorem dX11_readWalk_40 : decode cX11_readWalk 40 = .ok (.iadd, 1) := by decide +kernel
theorem dX11_readWalk_41 : decode cX11_readWalk 41 = .ok (.iload_n 3, 1) := by decide +kernel
theorem dX11_readWalk_42 : decode cX11_readWalk 42 = .ok (.iastore, 1) := by decide +kernel
theorem dX11_readWalk_43 : decode cX11_readWalk 43 = .ok (.aload_n 0, 1) := by decide +kernel
theorem dX11_readWalk_44 : decode cX11_readWalk 44 = .ok (.getfield 50, 3) := by decide +kernel
theorem dX11_readWalk_47 : decode cX11_readWalk 47 = .ok (.bipush 100, 2) := by decide +kernel
theorem dX11_readWalk_49 : decode cX11_readWalk 49 = .ok (.bipush 10, 2) := by decide +kernel
theorem dX11_readWalk_51 : decode cX11_readWalk 51 = .ok (.iload_n 2, 1) := by decide +kernel
theorem dX11_readWalk_52 : decode cX11_readWalk 52 = .ok (.imul, 1) := by decide +kernel
theorem dX11_readWalk_53 : decode cX11_readWalk 53 = .ok (.iadd, 1) := by decide +kernel
theorem dX11_readWalk_54 : decode cX11_readWalk 54 = .ok (.iload_n 1, 1) := by decide +kernel
theorem dX11_readWalk_55 : decode cX11_readWalk 55 = .ok (.iadd, 1) := by decide +kernel
theorem dX11_readWalk_56 : decode cX11_readWalk 56 = .ok (.iload_n 3, 1) := by decide +kernel
theorem dX11_readWalk_57 : decode cX11_readWalk 57 = .ok (.iastore, 1) := by decide +kernel
theorem dX11_readWalk_58 : decode cX11_readWalk 58 = .ok (.return_, 1) := by decide +kernel
theorem dX11_readClause_0 : decode cX11_readClause 0 = .ok (.aload_n 0, 1) := by decide +kernel
theorem dX11_readClause_1 : decode cX11_readClause 1 = .ok (.aload_n 0, 1) := by decide +kernel
theorem dX11_readClause_2 : decode cX11_readClause 2 = .ok (.getfield 19, 3) := by decide +kernel
theorem dX11_readClause_5 : decode cX11_readClause 5 = .ok (.invokevirtual 245, 3) := by decide +kernel
theorem dX11_readClause_8 : decode cX11_readClause 8 = .ok (.istore_n 2, 1) := by decide +kernel
theorem dX11_readClause_9 : decode cX11_readClause 9 = .ok (.iload_n 2, 1) := by decide +kernel
theorem dX11_readClause_10 : decode cX11_readClause 10 = .ok (.iconst (-1), 1) := by decide +kernel
theorem dX11_readClause_11 : decode cX11_readClause 11 = .ok (.if_icmp .ne 11, 3) := by decide +kernel
theorem dX11_readClause_14 : decode cX11_readClause 14 = .ok (.aload_n 0, 1) := by decide +kernel
theorem dX11_readClause_15 : decode cX11_readClause 15 = .ok (.iconst 1, 1) := by decide +kernel
theorem dX11_readClause_16 : decode cX11_readClause 16 = .ok (.invokevirtual 230, 3) := by decide +kernel
theorem dX11_readClause_19 : decode cX11_readClause 19 = .ok (.goto 73, 3) := by decide +kernel
theorem dX11_readClause_22 : decode cX11_readClause 22 = .ok (.iload_n 2, 1) := by decide +kernel
theorem dX11_readClause_23 : decode cX11_readClause 23 = .ok (.ifCond .ne 15, 3) := by decide +kernel
theorem dX11_readClause_26 : decode cX11_readClause 26 = .ok (.iload_n 1, 1) := by decide +kernel
theorem dX11_readClause_27 : decode cX11_readClause 27 = .ok (.ifCond .ne 11, 3) := by decide +kernel
theorem dX11_readClause_30 : decode cX11_readClause 30 = .ok (.aload_n 0, 1) := by decide +kernel
theorem dX11_readClause_31 : decode cX11_readClause 31 = .ok (.iconst 5, 1) := by decide +kernel
theorem dX11_readClause_32 : decode cX11_readClause 32 = .ok (.invokevirtual 230, 3) := by decide +kernel
theorem dX11_readClause_35 : decode cX11_readClause 35 = .ok (.goto 57, 3) := by decide +kernel
theorem dX11_readClause_38 : decode cX11_readClause 38 = .ok (.iload_n 2, 1) := by decide +kernel
theorem dX11_readClause_39 : decode cX11_readClause 39 = .ok (.iconst 1, 1) := by decide +kernel
theorem dX11_readClause_40 : decode cX11_readClause 40 = .ok (.if_icmp .ne 14, 3) := by decide +kernel
theorem dX11_readClause_43 : decode cX11_readClause 43 = .ok (.aload_n 0, 1) := by decide +kernel
theorem dX11_readClause_44 : decode cX11_readClause 44 = .ok (.getfield 40, 3) := by decide +kernel
theorem dX11_readClause_47 : decode cX11_readClause 47 = .ok (.iconst 5, 1) := by decide +kernel
theorem dX11_readClause_48 : decode cX11_readClause 48 = .ok (.iaload, 1) := by decide +kernel
theorem dX11_readClause_49 : decode cX11_readClause 49 = .ok (.bipush 16, 2) := by decide +kernel
theorem dX11_readClause_51 : decode cX11_readClause 51 = .ok (.if_icmp .eq 36, 3) := by decide +kernel
theorem dX11_readClause_54 : decode cX11_readClause 54 = .ok (.iload_n 2, 1) := by decide +kernel
theorem dX11_readClause_55 : decode cX11_readClause 55 = .ok (.iconst 3, 1) := by decide +kernel
theorem dX11_readClause_56 : decode cX11_readClause 56 = .ok (.if_icmp .ne 14, 3) := by decide +kernel
theorem dX11_readClause_59 : decode cX11_readClause 59 = .ok (.aload_n 0, 1) := by decide +kernel
theorem dX11_readClause_60 : decode cX11_readClause 60 = .ok (.getfield 40, 3) := by decide +kernel
theorem dX11_readClause_63 : decode cX11_readClause 63 = .ok (.bipush 6, 2) := by decide +kernel
theorem dX11_readClause_65 : decode cX11_readClause 65 = .ok (.iaload, 1) := by decide +kernel
theorem dX11_readClause_66 : decode cX11_readClause 66 = .ok (.iconst 4, 1) := by decide +kernel
theorem dX11_readClause_67 : decode cX11_readClause 67 = .ok (.if_icmp .eq 20, 3) := by decide +kernel
theorem dX11_readClause_70 : decode cX11_readClause 70 = .ok (.iload_n 2, 1) := by decide +kernel
theorem dX11_readClause_71 : decode cX11_readClause 71 = .ok (.iconst 4, 1) := by decide +kernel
theorem dX11_readClause_72 : decode cX11_readClause 72 = .ok (.if_icmp .ne 20, 3) := by decide +kernel
theorem dX11_readClause_75 : decode cX11_readClause 75 = .ok (.aload_n 0, 1) := by decide +kernel
theorem dX11_readClause_76 : decode cX11_readClause 76 = .ok (.getfield 40, 3) := by decide +kernel
theorem dX11_readClause_79 : decode cX11_readClause 79 = .ok (.bipush 7, 2) := by decide +kernel
theorem dX11_readClause_81 : decode cX11_readClause 81 = .ok (.iaload, 1) := by decide +kernel
theorem dX11_readClause_82 : decode cX11_readClause 82 = .ok (.bipush 6, 2) := by decide +kernel
theorem dX11_readClause_84 : decode cX11_readClause 84 = .ok (.if_icmp .ne 8, 3) := by decide +kernel
theorem dX11_readClause_87 : decode cX11_readClause 87 = .ok (.aload_n 0, 1) := by decide +kernel
theorem dX11_readClause_88 : decode cX11_readClause 88 = .ok (.iconst 2, 1) := by decide +kernel
theorem dX11_readClause_89 : decode cX11_readClause 89 = .ok (.invokevirtual 230, 3) := by decide +kernel
theorem dX11_readClause_92 : decode cX11_readClause 92 = .ok (.aload_n 0, 1) := by decide +kernel
theorem dX11_readClause_93 : decode cX11_readClause 93 = .ok (.getfield 209, 3) := by decide +kernel
theorem dX11_readClause_96 : decode cX11_readClause 96 = .ok (.ifCond .eq 4, 3) := by decide +kernel
theorem dX11_readClause_99 : decode cX11_readClause 99 = .ok (.return_, 1) := by decide +kernel
theorem dX11_readClause_100 : decode cX11_readClause 100 = .ok (.aload_n 0, 1) := by decide +kernel
theorem dX11_readClause_101 : decode cX11_readClause 101 = .ok (.invokevirtual 233, 3) := by decide +kernel
theorem dX11_readClause_104 : decode cX11_readClause 104 = .ok (.iload_n 2, 1) := by decide +kernel
theorem dX11_readClause_105 : decode cX11_readClause 105 = .ok (.ifCond .ne 19, 3) := by decide +kernel
theorem dX11_readClause_108 : decode cX11_readClause 108 = .ok (.aload_n 0, 1) := by decide +kernel
theorem dX11_readClause_109 : decode cX11_readClause 109 = .ok (.getfield 40, 3) := by decide +kernel
theorem dX11_readClause_112 : decode cX11_readClause 112 = .ok (.iconst 4, 1) := by decide +kernel
theorem dX11_readClause_113 : decode cX11_readClause 113 = .ok (.aload_n 0, 1) := by decide +kernel
theorem dX11_readClause_114 : decode cX11_readClause 114 = .ok (.iconst 1, 1) := by decide +kernel
theorem dX11_readClause_115 : decode cX11_readClause 115 = .ok (.bipush 10, 2) := by decide +kernel
theorem dX11_readClause_117 : decode cX11_readClause 117 = .ok (.invokevirtual 239, 3) := by decide +kernel
theorem dX11_readClause_120 : decode cX11_readClause 120 = .ok (.iastore, 1) := by decide +kernel
theorem dX11_readClause_121 : decode cX11_readClause 121 = .ok (.goto 92, 3) := by decide +kernel
theorem dX11_readClause_124 : decode cX11_readClause 124 = .ok (.iload_n 2, 1) := by decide +kernel
theorem dX11_readClause_125 : decode cX11_readClause 125 = .ok (.iconst 1, 1) := by decide +kernel
theorem dX11_readClause_126 : decode cX11_readClause 126 = .ok (.if_icmp .ne 10, 3) := by decide +kernel
theorem dX11_readClause_129 : decode cX11_readClause 129 = .ok (.aload_n 0, 1) := by decide +kernel
theorem dX11_readClause_130 : decode cX11_readClause 130 = .ok (.invokevirtual 280, 3) := by decide +kernel
theorem dX11_readClause_133 : decode cX11_readClause 133 = .ok (.goto 80, 3) := by decide +kernel
theorem dX11_readClause_136 : decode cX11_readClause 136 = .ok (.iload_n 2, 1) := by decide +kernel
theorem dX11_readClause_137 : decode cX11_readClause 137 = .ok (.iconst 2, 1) := by decide +kernel
theorem dX11_readClause_138 : decode cX11_readClause 138 = .ok (.if_icmp .ne 10, 3) := by decide +kernel
theorem dX11_readClause_141 : decode cX11_readClause 141 = .ok (.aload_n 0, 1) := by decide +kernel
theorem dX11_readClause_142 : decode cX11_readClause 142 = .ok (.invokevirtual 283, 3) := by decide +kernel
theorem dX11_readClause_145 : decode cX11_readClause 145 = .ok (.goto 68, 3) := by decide +kernel
theorem dX11_readClause_148 : decode cX11_readClause 148 = .ok (.bipush 10, 2) := by decide +kernel
theorem dX11_readClause_150 : decode cX11_readClause 150 = .ok (.iload_n 2, 1) := by decide +kernel
theorem dX11_readClause_151 : decode cX11_readClause 151 = .ok (.iconst 3, 1) := by decide +kernel
theorem dX11_readClause_152 : decode cX11_readClause 152 = .ok (.if_icmp .ne 13, 3) := by decide +kernel
theorem dX11_readClause_155 : decode cX11_readClause 155 = .ok (.aload_n 0, 1) := by decide +kernel
theorem dX11_readClause_156 : decode cX11_readClause 156 = .ok (.getfield 40, 3) := by decide +kernel
theorem dX11_readClause_159 : decode cX11_readClause 159 = .ok (.bipush 6, 2) := by decide +kernel
theorem dX11_readClause_161 : decode cX11_readClause 161 = .ok (.iaload, 1) := by decide +kernel
theorem dX11_readClause_162 : decode cX11_readClause 162 = .ok (.goto 12, 3) := by decide +kernel
theorem dX11_readClause_165 : decode cX11_readClause 165 = .ok (.iconst 4, 1) := by decide +kernel
theorem dX11_readClause_166 : decode cX11_readClause 166 = .ok (.aload_n 0, 1) := by decide +kernel
theorem dX11_readClause_167 : decode cX11_readClause 167 = .ok (.getfield 40, 3) := by decide +kernel
theorem dX11_readClause_170 : decode cX11_readClause 170 = .ok (.bipush 7, 2) := by decide +kernel
theorem dX11_readClause_172 : decode cX11_readClause 172 = .ok (.iaload, 1) := by decide +kernel
theorem dX11_readClause_173 : decode cX11_readClause 173 = .ok (.iadd, 1) := by decide +kernel
theorem dX11_readClause_174 : decode cX11_readClause 174 = .ok (.iadd, 1) := by decide +kernel
theorem dX11_readClause_175 : decode cX11_readClause 175 = .ok (.istore_n 3, 1) := by decide +kernel
theorem dX11_readClause_176 : decode cX11_readClause 176 = .ok (.aload_n 0, 1) := by decide +kernel
theorem dX11_readClause_177 : decode cX11_readClause 177 = .ok (.getfield 57, 3) := by decide +kernel
theorem dX11_readClause_180 : decode cX11_readClause 180 = .ok (.iload_n 3, 1) := by decide +kernel
theorem dX11_readClause_181 : decode cX11_readClause 181 = .ok (.aload_n 0, 1) := by decide +kernel
theorem dX11_readClause_182 : decode cX11_readClause 182 = .ok (.getfield 236, 3) := by decide +kernel
theorem dX11_readClause_185 : decode cX11_readClause 185 = .ok (.iastore, 1) := by decide +kernel
theorem dX11_readClause_186 : decode cX11_readClause 186 = .ok (.aload_n 0, 1) := by decide +kernel
theorem dX11_readClause_187 : decode cX11_readClause 187 = .ok (.iconst 0, 1) := by decide +kernel
theorem dX11_readClause_188 : decode cX11_readClause 188 = .ok (.invokevirtual 252, 3) := by decide +kernel
theorem dX11_readClause_191 : decode cX11_readClause 191 = .ok (.aload_n 0, 1) := by decide +kernel
theorem dX11_readClause_192 : decode cX11_readClause 192 = .ok (.getfield 60, 3) := by decide +kernel
theorem dX11_readClause_195 : decode cX11_readClause 195 = .ok (.iload_n 3, 1) := by decide +kernel
theorem dX11_readClause_196 : decode cX11_readClause 196 = .ok (.aload_n 0, 1) := by decide +kernel
theorem dX11_readClause_197 : decode cX11_readClause 197 = .ok (.getfield 236, 3) := by decide +kernel
theorem dX11_readClause_200 : decode cX11_readClause 200 = .ok (.iastore, 1) := by decide +kernel
theorem dX11_readClause_201 : decode cX11_readClause 201 = .ok (.aload_n 0, 1) := by decide +kernel
theorem dX11_readClause_202 : decode cX11_readClause 202 = .ok (.getfield 40, 3) := by decide +kernel
theorem dX11_readClause_205 : decode cX11_readClause 205 = .ok (.iload_n 2, 1) := by decide +kernel
theorem dX11_readClause_206 : decode cX11_readClause 206 = .ok (.iconst 3, 1) := by decide +kernel
theorem dX11_readClause_207 : decode cX11_readClause 207 = .ok (.iadd, 1) := by decide +kernel
theorem dX11_readClause_208 : decode cX11_readClause 208 = .ok (.dup2, 1) := by decide +kernel
theorem dX11_readClause_209 : decode cX11_readClause 209 = .ok (.iaload, 1) := by decide +kernel
theorem dX11_readClause_210 : decode cX11_readClause 210 = .ok (.iconst 1, 1) := by decide +kernel
theorem dX11_readClause_211 : decode cX11_readClause 211 = .ok (.iadd, 1) := by decide +kernel
theorem dX11_readClause_212 : decode cX11_readClause 212 = .ok (.iastore, 1) := by decide +kernel
theorem dX11_readClause_213 : decode cX11_readClause 213 = .ok (.aload_n 0, 1) := by decide +kernel
theorem dX11_readClause_214 : decode cX11_readClause 214 = .ok (.bipush 59, 2) := by decide +kernel
theorem dX11_readClause_216 : decode cX11_readClause 216 = .ok (.invokevirtual 249, 3) := by decide +kernel
theorem dX11_readClause_219 : decode cX11_readClause 219 = .ok (.return_, 1) := by decide +kernel
theorem dX11_city_0 : decode cX11_city 0 = .ok (.aload_n 0, 1) := by decide +kernel
theorem dX11_city_1 : decode cX11_city 1 = .ok (.iconst 0, 1) := by decide +kernel
theorem dX11_city_2 : decode cX11_city 2 = .ok (.putfield 160, 3) := by decide +kernel
theorem dX11_city_5 : decode cX11_city 5 = .ok (.iload_n 1, 1) := by decide +kernel
theorem dX11_city_6 : decode cX11_city 6 = .ok (.ifCond .lt 11, 3) := by decide +kernel
theorem dX11_city_9 : decode cX11_city 9 = .ok (.iload_n 1, 1) := by decide +kernel
theorem dX11_city_10 : decode cX11_city 10 = .ok (.aload_n 0, 1) := by decide +kernel
theorem dX11_city_11 : decode cX11_city 11 = .ok (.getfield 167, 3) := by decide +kernel
theorem dX11_city_14 : decode cX11_city 14 = .ok (.if_icmp .le 9, 3) := by decide +kernel
theorem dX11_city_17 : decode cX11_city 17 = .ok (.aload_n 0, 1) := by decide +kernel
theorem dX11_city_18 : decode cX11_city 18 = .ok (.iconst 1, 1) := by decide +kernel
theorem dX11_city_19 : decode cX11_city 19 = .ok (.invokevirtual 286, 3) := by decide +kernel
theorem dX11_city_22 : decode cX11_city 22 = .ok (.ireturn, 1) := by decide +kernel
theorem dX11_city_23 : decode cX11_city 23 = .ok (.aload_n 0, 1) := by decide +kernel
theorem dX11_city_24 : decode cX11_city 24 = .ok (.iconst 0, 1) := by decide +kernel
theorem dX11_city_25 : decode cX11_city 25 = .ok (.putfield 167, 3) := by decide +kernel
theorem dX11_city_28 : decode cX11_city 28 = .ok (.aload_n 0, 1) := by decide +kernel
theorem dX11_city_29 : decode cX11_city 29 = .ok (.iload_n 1, 1) := by decide +kernel
theorem dX11_city_30 : decode cX11_city 30 = .ok (.putfield 170, 3) := by decide +kernel
theorem dX11_city_33 : decode cX11_city 33 = .ok (.aload_n 0, 1) := by decide +kernel
theorem dX11_city_34 : decode cX11_city 34 = .ok (.iconst 0, 1) := by decide +kernel
theorem dX11_city_35 : decode cX11_city 35 = .ok (.putfield 173, 3) := by decide +kernel
theorem dX11_city_38 : decode cX11_city 38 = .ok (.aload_n 0, 1) := by decide +kernel
theorem dX11_city_39 : decode cX11_city 39 = .ok (.iconst 0, 1) := by decide +kernel
theorem dX11_city_40 : decode cX11_city 40 = .ok (.putfield 209, 3) := by decide +kernel
theorem dX11_city_43 : decode cX11_city 43 = .ok (.aload_n 0, 1) := by decide +kernel
theorem dX11_city_44 : decode cX11_city 44 = .ok (.iconst (-1), 1) := by decide +kernel
theorem dX11_city_45 : decode cX11_city 45 = .ok (.putfield 98, 3) := by decide +kernel
theorem dX11_city_48 : decode cX11_city 48 = .ok (.aload_n 0, 1) := by decide +kernel
theorem dX11_city_49 : decode cX11_city 49 = .ok (.iconst 0, 1) := by decide +kernel
theorem dX11_city_50 : decode cX11_city 50 = .ok (.putfield 236, 3) := by decide +kernel
theorem dX11_city_53 : decode cX11_city 53 = .ok (.aload_n 0, 1) := by decide +kernel
theorem dX11_city_54 : decode cX11_city 54 = .ok (.getfield 40, 3) := by decide +kernel
theorem dX11_city_57 : decode cX11_city 57 = .ok (.iconst 4, 1) := by decide +kernel
theorem dX11_city_58 : decode cX11_city 58 = .ok (.iconst 1, 1) := by decide +kernel
theorem dX11_city_59 : decode cX11_city 59 = .ok (.iastore, 1) := by decide +kernel
theorem dX11_city_60 : decode cX11_city 60 = .ok (.iconst 5, 1) := by decide +kernel
theorem dX11_city_61 : decode cX11_city 61 = .ok (.istore_n 2, 1) := by decide +kernel
theorem dX11_city_62 : decode cX11_city 62 = .ok (.iload_n 2, 1) := by decide +kernel
theorem dX11_city_63 : decode cX11_city 63 = .ok (.bipush 8, 2) := by decide +kernel
theorem dX11_city_65 : decode cX11_city 65 = .ok (.if_icmp .ge 16, 3) := by decide +kernel
theorem dX11_city_68 : decode cX11_city 68 = .ok (.aload_n 0, 1) := by decide +kernel
theorem dX11_city_69 : decode cX11_city 69 = .ok (.getfield 40, 3) := by decide +kernel
theorem dX11_city_72 : decode cX11_city 72 = .ok (.iload_n 2, 1) := by decide +kernel
theorem dX11_city_73 : decode cX11_city 73 = .ok (.iconst 0, 1) := by decide +kernel
theorem dX11_city_74 : decode cX11_city 74 = .ok (.iastore, 1) := by decide +kernel
theorem dX11_city_75 : decode cX11_city 75 = .ok (.iinc 2 1, 3) := by decide +kernel
theorem dX11_city_78 : decode cX11_city 78 = .ok (.goto (-16), 3) := by decide +kernel
theorem dX11_city_81 : decode cX11_city 81 = .ok (.aload_n 0, 1) := by decide +kernel
theorem dX11_city_82 : decode cX11_city 82 = .ok (.iconst 1, 1) := by decide +kernel
theorem dX11_city_83 : decode cX11_city 83 = .ok (.invokevirtual 156, 3) := by decide +kernel
theorem dX11_city_86 : decode cX11_city 86 = .ok (.aload_n 0, 1) := by decide +kernel
theorem dX11_city_87 : decode cX11_city 87 = .ok (.invokevirtual 233, 3) := by decide +kernel
theorem dX11_city_90 : decode cX11_city 90 = .ok (.iconst 1, 1) := by decide +kernel
theorem dX11_city_91 : decode cX11_city 91 = .ok (.istore_n 2, 1) := by decide +kernel
theorem dX11_city_92 : decode cX11_city 92 = .ok (.aload_n 0, 1) := by decide +kernel
theorem dX11_city_93 : decode cX11_city 93 = .ok (.getfield 209, 3) := by decide +kernel
theorem dX11_city_96 : decode cX11_city 96 = .ok (.ifCond .ne 20, 3) := by decide +kernel
theorem dX11_city_99 : decode cX11_city 99 = .ok (.aload_n 0, 1) := by decide +kernel
theorem dX11_city_100 : decode cX11_city 100 = .ok (.getfield 183, 3) := by decide +kernel
theorem dX11_city_103 : decode cX11_city 103 = .ok (.ifCond .eq 13, 3) := by decide +kernel
theorem dX11_city_106 : decode cX11_city 106 = .ok (.aload_n 0, 1) := by decide +kernel
theorem dX11_city_107 : decode cX11_city 107 = .ok (.iload_n 2, 1) := by decide +kernel
theorem dX11_city_108 : decode cX11_city 108 = .ok (.invokevirtual 289, 3) := by decide +kernel
theorem dX11_city_111 : decode cX11_city 111 = .ok (.iconst 0, 1) := by decide +kernel
theorem dX11_city_112 : decode cX11_city 112 = .ok (.istore_n 2, 1) := by decide +kernel
theorem dX11_city_113 : decode cX11_city 113 = .ok (.goto (-21), 3) := by decide +kernel
theorem dX11_city_116 : decode cX11_city 116 = .ok (.aload_n 0, 1) := by decide +kernel
theorem dX11_city_117 : decode cX11_city 117 = .ok (.getfield 209, 3) := by decide +kernel
theorem dX11_city_120 : decode cX11_city 120 = .ok (.ifCond .eq 26, 3) := by decide +kernel
theorem dX11_city_123 : decode cX11_city 123 = .ok (.aload_n 0, 1) := by decide +kernel
theorem dX11_city_124 : decode cX11_city 124 = .ok (.aload_n 0, 1) := by decide +kernel
theorem dX11_city_125 : decode cX11_city 125 = .ok (.getfield 212, 3) := by decide +kernel
theorem dX11_city_128 : decode cX11_city 128 = .ok (.putfield 98, 3) := by decide +kernel
theorem dX11_city_131 : decode cX11_city 131 = .ok (.aload_n 0, 1) := by decide +kernel
theorem dX11_city_132 : decode cX11_city 132 = .ok (.getfield 66, 3) := by decide +kernel
theorem dX11_city_135 : decode cX11_city 135 = .ok (.iconst 0, 1) := by decide +kernel
theorem dX11_city_136 : decode cX11_city 136 = .ok (.dup2, 1) := by decide +kernel
theorem dX11_city_137 : decode cX11_city 137 = .ok (.iaload, 1) := by decide +kernel
theorem dX11_city_138 : decode cX11_city 138 = .ok (.iconst 1, 1) := by decide +kernel
theorem dX11_city_139 : decode cX11_city 139 = .ok (.iadd, 1) := by decide +kernel
theorem dX11_city_140 : decode cX11_city 140 = .ok (.iastore, 1) := by decide +kernel
theorem dX11_city_141 : decode cX11_city 141 = .ok (.aload_n 0, 1) := by decide +kernel
theorem dX11_city_142 : decode cX11_city 142 = .ok (.getfield 209, 3) := by decide +kernel
theorem dX11_city_145 : decode cX11_city 145 = .ok (.ireturn, 1) := by decide +kernel
theorem dX11_city_146 : decode cX11_city 146 = .ok (.aload_n 0, 1) := by decide +kernel
theorem dX11_city_147 : decode cX11_city 147 = .ok (.invokevirtual 293, 3) := by decide +kernel
theorem dX11_city_150 : decode cX11_city 150 = .ok (.iconst 0, 1) := by decide +kernel
theorem dX11_city_151 : decode cX11_city 151 = .ok (.ireturn, 1) := by decide +kernel
theorem dX11_take_0 : decode cX11_take 0 = .ok (.iconst 0, 1) := by decide +kernel
theorem dX11_take_1 : decode cX11_take 1 = .ok (.istore_n 1, 1) := by decide +kernel
theorem dX11_take_2 : decode cX11_take 2 = .ok (.iload_n 1, 1) := by decide +kernel
theorem dX11_take_3 : decode cX11_take 3 = .ok (.iconst 4, 1) := by decide +kernel
theorem dX11_take_4 : decode cX11_take 4 = .ok (.if_icmp .ge 23, 3) := by decide +kernel
theorem dX11_take_7 : decode cX11_take 7 = .ok (.aload_n 0, 1) := by decide +kernel
theorem dX11_take_8 : decode cX11_take 8 = .ok (.getfield 40, 3) := by decide +kernel
theorem dX11_take_11 : decode cX11_take 11 = .ok (.iload_n 1, 1) := by decide +kernel
theorem dX11_take_12 : decode cX11_take 12 = .ok (.aload_n 0, 1) := by decide +kernel
theorem dX11_take_13 : decode cX11_take 13 = .ok (.getfield 40, 3) := by decide +kernel
theorem dX11_take_16 : decode cX11_take 16 = .ok (.iconst 4, 1) := by decide +kernel
theorem dX11_take_17 : decode cX11_take 17 = .ok (.iload_n 1, 1) := by decide +kernel
theorem dX11_take_18 : decode cX11_take 18 = .ok (.iadd, 1) := by decide +kernel
theorem dX11_take_19 : decode cX11_take 19 = .ok (.iaload, 1) := by decide +kernel
theorem dX11_take_20 : decode cX11_take 20 = .ok (.iastore, 1) := by decide +kernel
theorem dX11_take_21 : decode cX11_take 21 = .ok (.iinc 1 1, 3) := by decide +kernel
theorem dX11_take_24 : decode cX11_take 24 = .ok (.goto (-22), 3) := by decide +kernel
theorem dX11_take_27 : decode cX11_take 27 = .ok (.iconst 0, 1) := by decide +kernel
theorem dX11_take_28 : decode cX11_take 28 = .ok (.istore_n 1, 1) := by decide +kernel
theorem dX11_take_29 : decode cX11_take 29 = .ok (.iload_n 1, 1) := by decide +kernel
theorem dX11_take_30 : decode cX11_take 30 = .ok (.bipush 16, 2) := by decide +kernel
theorem dX11_take_32 : decode cX11_take 32 = .ok (.if_icmp .ge 54, 3) := by decide +kernel
theorem dX11_take_35 : decode cX11_take 35 = .ok (.aload_n 0, 1) := by decide +kernel
theorem dX11_take_36 : decode cX11_take 36 = .ok (.getfield 44, 3) := by decide +kernel
theorem dX11_take_39 : decode cX11_take 39 = .ok (.iload_n 1, 1) := by decide +kernel
theorem dX11_take_40 : decode cX11_take 40 = .ok (.aload_n 0, 1) := by decide +kernel
theorem dX11_take_41 : decode cX11_take 41 = .ok (.getfield 44, 3) := by decide +kernel
theorem dX11_take_44 : decode cX11_take 44 = .ok (.bipush 16, 2) := by decide +kernel
theorem dX11_take_46 : decode cX11_take 46 = .ok (.iload_n 1, 1) := by decide +kernel
theorem dX11_take_47 : decode cX11_take 47 = .ok (.iadd, 1) := by decide +kernel
theorem dX11_take_48 : decode cX11_take 48 = .ok (.iaload, 1) := by decide +kernel
theorem dX11_take_49 : decode cX11_take 49 = .ok (.iastore, 1) := by decide +kernel
theorem dX11_take_50 : decode cX11_take 50 = .ok (.aload_n 0, 1) := by decide +kernel
theorem dX11_take_51 : decode cX11_take 51 = .ok (.getfield 47, 3) := by decide +kernel
theorem dX11_take_54 : decode cX11_take 54 = .ok (.iload_n 1, 1) := by decide +kernel
theorem dX11_take_55 : decode cX11_take 55 = .ok (.aload_n 0, 1) := by decide +kernel
theorem dX11_take_56 : decode cX11_take 56 = .ok (.getfield 47, 3) := by decide +kernel
theorem dX11_take_59 : decode cX11_take 59 = .ok (.bipush 16, 2) := by decide +kernel
theorem dX11_take_61 : decode cX11_take 61 = .ok (.iload_n 1, 1) := by decide +kernel
theorem dX11_take_62 : decode cX11_take 62 = .ok (.iadd, 1) := by decide +kernel
theorem dX11_take_63 : decode cX11_take 63 = .ok (.iaload, 1) := by decide +kernel
theorem dX11_take_64 : decode cX11_take 64 = .ok (.iastore, 1) := by decide +kernel
theorem dX11_take_65 : decode cX11_take 65 = .ok (.aload_n 0, 1) := by decide +kernel
theorem dX11_take_66 : decode cX11_take 66 = .ok (.getfield 53, 3) := by decide +kernel
theorem dX11_take_69 : decode cX11_take 69 = .ok (.iload_n 1, 1) := by decide +kernel
theorem dX11_take_70 : decode cX11_take 70 = .ok (.aload_n 0, 1) := by decide +kernel
theorem dX11_take_71 : decode cX11_take 71 = .ok (.getfield 53, 3) := by decide +kernel
theorem dX11_take_74 : decode cX11_take 74 = .ok (.bipush 16, 2) := by decide +kernel
theorem dX11_take_76 : decode cX11_take 76 = .ok (.iload_n 1, 1) := by decide +kernel
theorem dX11_take_77 : decode cX11_take 77 = .ok (.iadd, 1) := by decide +kernel
theorem dX11_take_78 : decode cX11_take 78 = .ok (.baload, 1) := by decide +kernel
theorem dX11_take_79 : decode cX11_take 79 = .ok (.bastore, 1) := by decide +kernel
theorem dX11_take_80 : decode cX11_take 80 = .ok (.iinc 1 1, 3) := by decide +kernel
theorem dX11_take_83 : decode cX11_take 83 = .ok (.goto (-54), 3) := by decide +kernel
theorem dX11_take_86 : decode cX11_take 86 = .ok (.iconst 0, 1) := by decide +kernel
theorem dX11_take_87 : decode cX11_take 87 = .ok (.istore_n 1, 1) := by decide +kernel
theorem dX11_take_88 : decode cX11_take 88 = .ok (.iload_n 1, 1) := by decide +kernel
theorem dX11_take_89 : decode cX11_take 89 = .ok (.bipush 100, 2) := by decide +kernel
theorem dX11_take_91 : decode cX11_take 91 = .ok (.if_icmp .ge 24, 3) := by decide +kernel
theorem dX11_take_94 : decode cX11_take 94 = .ok (.aload_n 0, 1) := by decide +kernel
theorem dX11_take_95 : decode cX11_take 95 = .ok (.getfield 50, 3) := by decide +kernel
theorem dX11_take_98 : decode cX11_take 98 = .ok (.iload_n 1, 1) := by decide +kernel
theorem dX11_take_99 : decode cX11_take 99 = .ok (.aload_n 0, 1) := by decide +kernel
theorem dX11_take_100 : decode cX11_take 100 = .ok (.getfield 50, 3) := by decide +kernel
theorem dX11_take_103 : decode cX11_take 103 = .ok (.bipush 100, 2) := by decide +kernel
theorem dX11_take_105 : decode cX11_take 105 = .ok (.iload_n 1, 1) := by decide +kernel
theorem dX11_take_106 : decode cX11_take 106 = .ok (.iadd, 1) := by decide +kernel
theorem dX11_take_107 : decode cX11_take 107 = .ok (.iaload, 1) := by decide +kernel
theorem dX11_take_108 : decode cX11_take 108 = .ok (.iastore, 1) := by decide +kernel
theorem dX11_take_109 : decode cX11_take 109 = .ok (.iinc 1 1, 3) := by decide +kernel
theorem dX11_take_112 : decode cX11_take 112 = .ok (.goto (-24), 3) := by decide +kernel
theorem dX11_take_115 : decode cX11_take 115 = .ok (.iconst 0, 1) := by decide +kernel
theorem dX11_take_116 : decode cX11_take 116 = .ok (.istore_n 1, 1) := by decide +kernel
theorem dX11_take_117 : decode cX11_take 117 = .ok (.iload_n 1, 1) := by decide +kernel
theorem dX11_take_118 : decode cX11_take 118 = .ok (.bipush 10, 2) := by decide +kernel
theorem dX11_take_120 : decode cX11_take 120 = .ok (.if_icmp .ge 39, 3) := by decide +kernel
theorem dX11_take_123 : decode cX11_take 123 = .ok (.aload_n 0, 1) := by decide +kernel
theorem dX11_take_124 : decode cX11_take 124 = .ok (.getfield 57, 3) := by decide +kernel
theorem dX11_take_127 : decode cX11_take 127 = .ok (.iload_n 1, 1) := by decide +kernel
theorem dX11_take_128 : decode cX11_take 128 = .ok (.aload_n 0, 1) := by decide +kernel
theorem dX11_take_129 : decode cX11_take 129 = .ok (.getfield 57, 3) := by decide +kernel
theorem dX11_take_132 : decode cX11_take 132 = .ok (.bipush 10, 2) := by decide +kernel
theorem dX11_take_134 : decode cX11_take 134 = .ok (.iload_n 1, 1) := by decide +kernel
theorem dX11_take_135 : decode cX11_take 135 = .ok (.iadd, 1) := by decide +kernel
theorem dX11_take_136 : decode cX11_take 136 = .ok (.iaload, 1) := by decide +kernel
theorem dX11_take_137 : decode cX11_take 137 = .ok (.iastore, 1) := by decide +kernel
theorem dX11_take_138 : decode cX11_take 138 = .ok (.aload_n 0, 1) := by decide +kernel
theorem dX11_take_139 : decode cX11_take 139 = .ok (.getfield 60, 3) := by decide +kernel
theorem dX11_take_142 : decode cX11_take 142 = .ok (.iload_n 1, 1) := by decide +kernel
theorem dX11_take_143 : decode cX11_take 143 = .ok (.aload_n 0, 1) := by decide +kernel
theorem dX11_take_144 : decode cX11_take 144 = .ok (.getfield 60, 3) := by decide +kernel
theorem dX11_take_147 : decode cX11_take 147 = .ok (.bipush 10, 2) := by decide +kernel
theorem dX11_take_149 : decode cX11_take 149 = .ok (.iload_n 1, 1) := by decide +kernel
theorem dX11_take_150 : decode cX11_take 150 = .ok (.iadd, 1) := by decide +kernel
theorem dX11_take_151 : decode cX11_take 151 = .ok (.iaload, 1) := by decide +kernel
theorem dX11_take_152 : decode cX11_take 152 = .ok (.iastore, 1) := by decide +kernel
theorem dX11_take_153 : decode cX11_take 153 = .ok (.iinc 1 1, 3) := by decide +kernel
theorem dX11_take_156 : decode cX11_take 156 = .ok (.goto (-39), 3) := by decide +kernel
theorem dX11_take_159 : decode cX11_take 159 = .ok (.iconst 0, 1) := by decide +kernel
theorem dX11_take_160 : decode cX11_take 160 = .ok (.istore_n 1, 1) := by decide +kernel
theorem dX11_take_161 : decode cX11_take 161 = .ok (.iload_n 1, 1) := by decide +kernel
theorem dX11_take_162 : decode cX11_take 162 = .ok (.aload_n 0, 1) := by decide +kernel
theorem dX11_take_163 : decode cX11_take 163 = .ok (.getfield 236, 3) := by decide +kernel
theorem dX11_take_166 : decode cX11_take 166 = .ok (.if_icmp .ge 25, 3) := by decide +kernel
theorem dX11_take_169 : decode cX11_take 169 = .ok (.aload_n 0, 1) := by decide +kernel
theorem dX11_take_170 : decode cX11_take 170 = .ok (.getfield 63, 3) := by decide +kernel
theorem dX11_take_173 : decode cX11_take 173 = .ok (.iload_n 1, 1) := by decide +kernel
theorem dX11_take_174 : decode cX11_take 174 = .ok (.aload_n 0, 1) := by decide +kernel
theorem dX11_take_175 : decode cX11_take 175 = .ok (.getfield 63, 3) := by decide +kernel
theorem dX11_take_178 : decode cX11_take 178 = .ok (.sipush 700, 3) := by decide +kernel
theorem dX11_take_181 : decode cX11_take 181 = .ok (.iload_n 1, 1) := by decide +kernel
theorem dX11_take_182 : decode cX11_take 182 = .ok (.iadd, 1) := by decide +kernel
theorem dX11_take_183 : decode cX11_take 183 = .ok (.iaload, 1) := by decide +kernel
theorem dX11_take_184 : decode cX11_take 184 = .ok (.iastore, 1) := by decide +kernel
theorem dX11_take_185 : decode cX11_take 185 = .ok (.iinc 1 1, 3) := by decide +kernel
theorem dX11_take_188 : decode cX11_take 188 = .ok (.goto (-27), 3) := by decide +kernel
theorem dX11_take_191 : decode cX11_take 191 = .ok (.aload_n 0, 1) := by decide +kernel
theorem dX11_take_192 : decode cX11_take 192 = .ok (.iconst 0, 1) := by decide +kernel
theorem dX11_take_193 : decode cX11_take 193 = .ok (.putfield 296, 3) := by decide +kernel
theorem dX11_take_196 : decode cX11_take 196 = .ok (.aload_n 0, 1) := by decide +kernel
theorem dX11_take_197 : decode cX11_take 197 = .ok (.iconst 0, 1) := by decide +kernel
theorem dX11_take_198 : decode cX11_take 198 = .ok (.putfield 299, 3) := by decide +kernel
theorem dX11_take_201 : decode cX11_take 201 = .ok (.aload_n 0, 1) := by decide +kernel
theorem dX11_take_202 : decode cX11_take 202 = .ok (.iconst 0, 1) := by decide +kernel
theorem dX11_take_203 : decode cX11_take 203 = .ok (.putfield 302, 3) := by decide +kernel
theorem dX11_take_206 : decode cX11_take 206 = .ok (.aload_n 0, 1) := by decide +kernel
theorem dX11_take_207 : decode cX11_take 207 = .ok (.iconst (-1), 1) := by decide +kernel
theorem dX11_take_208 : decode cX11_take 208 = .ok (.putfield 114, 3) := by decide +kernel
theorem dX11_take_211 : decode cX11_take 211 = .ok (.aload_n 0, 1) := by decide +kernel
theorem dX11_take_212 : decode cX11_take 212 = .ok (.iconst 0, 1) := by decide +kernel
theorem dX11_take_213 : decode cX11_take 213 = .ok (.putfield 305, 3) := by decide +kernel
theorem dX11_take_216 : decode cX11_take 216 = .ok (.return_, 1) := by decide +kernel
theorem dX11_fault_0 : decode cX11_fault 0 = .ok (.aload_n 0, 1) := by decide +kernel
theorem dX11_fault_1 : decode cX11_fault 1 = .ok (.iconst 0, 1) := by decide +kernel
theorem dX11_fault_2 : decode cX11_fault 2 = .ok (.putfield 160, 3) := by decide +kernel
theorem dX11_fault_5 : decode cX11_fault 5 = .ok (.aload_n 0, 1) := by decide +kernel
theorem dX11_fault_6 : decode cX11_fault 6 = .ok (.getfield 98, 3) := by decide +kernel
theorem dX11_fault_9 : decode cX11_fault 9 = .ok (.ireturn, 1) := by decide +kernel
theorem dX11_count_0 : decode cX11_count 0 = .ok (.aload_n 0, 1) := by decide +kernel
theorem dX11_count_1 : decode cX11_count 1 = .ok (.iconst 0, 1) := by decide +kernel
theorem dX11_count_2 : decode cX11_count 2 = .ok (.putfield 160, 3) := by decide +kernel
theorem dX11_count_5 : decode cX11_count 5 = .ok (.iload_n 1, 1) := by decide +kernel
theorem dX11_count_6 : decode cX11_count 6 = .ok (.iconst 0, 1) := by decide +kernel
theorem dX11_count_7 : decode cX11_count 7 = .ok (.iconst 3, 1) := by decide +kernel
theorem dX11_count_8 : decode cX11_count 8 = .ok (.invokestatic 163, 3) := by decide +kernel
theorem dX11_count_11 : decode cX11_count 11 = .ok (.ifCond .eq 10, 3) := by decide +kernel
theorem dX11_count_14 : decode cX11_count 14 = .ok (.aload_n 0, 1) := by decide +kernel
theorem dX11_count_15 : decode cX11_count 15 = .ok (.getfield 40, 3) := by decide +kernel
theorem dX11_count_18 : decode cX11_count 18 = .ok (.iload_n 1, 1) := by decide +kernel
theorem dX11_count_19 : decode cX11_count 19 = .ok (.iaload, 1) := by decide +kernel
theorem dX11_count_20 : decode cX11_count 20 = .ok (.ireturn, 1) := by decide +kernel
theorem dX11_count_21 : decode cX11_count 21 = .ok (.iload_n 1, 1) := by decide +kernel
theorem dX11_count_22 : decode cX11_count 22 = .ok (.bipush 9, 2) := by decide +kernel
theorem dX11_count_24 : decode cX11_count 24 = .ok (.bipush 12, 2) := by decide +kernel
theorem dX11_count_26 : decode cX11_count 26 = .ok (.invokestatic 163, 3) := by decide +kernel
theorem dX11_count_29 : decode cX11_count 29 = .ok (.ifCond .eq 13, 3) := by decide +kernel
theorem dX11_count_32 : decode cX11_count 32 = .ok (.aload_n 0, 1) := by decide +kernel
theorem dX11_count_33 : decode cX11_count 33 = .ok (.getfield 66, 3) := by decide +kernel
theorem dX11_count_36 : decode cX11_count 36 = .ok (.iload_n 1, 1) := by decide +kernel
theorem dX11_count_37 : decode cX11_count 37 = .ok (.bipush 9, 2) := by decide +kernel
theorem dX11_count_39 : decode cX11_count 39 = .ok (.isub, 1) := by decide +kernel
theorem dX11_count_40 : decode cX11_count 40 = .ok (.iaload, 1) := by decide +kernel
theorem dX11_count_41 : decode cX11_count 41 = .ok (.ireturn, 1) := by decide +kernel
theorem dX11_count_42 : decode cX11_count 42 = .ok (.iload_n 1, 1) := by decide +kernel
theorem dX11_count_43 : decode cX11_count 43 = .ok (.tableswitch 58 4 8 #[33, 38, 43, 48, 53], 33) := by decide +kernel
theorem dX11_count_76 : decode cX11_count 76 = .ok (.aload_n 0, 1) := by decide +kernel
theorem dX11_count_77 : decode cX11_count 77 = .ok (.getfield 296, 3) := by decide +kernel
theorem dX11_count_80 : decode cX11_count 80 = .ok (.ireturn, 1) := by decide +kernel
theorem dX11_count_81 : decode cX11_count 81 = .ok (.aload_n 0, 1) := by decide +kernel
theorem dX11_count_82 : decode cX11_count 82 = .ok (.getfield 299, 3) := by decide +kernel
theorem dX11_count_85 : decode cX11_count 85 = .ok (.ireturn, 1) := by decide +kernel
theorem dX11_count_86 : decode cX11_count 86 = .ok (.aload_n 0, 1) := by decide +kernel
theorem dX11_count_87 : decode cX11_count 87 = .ok (.getfield 302, 3) := by decide +kernel
theorem dX11_count_90 : decode cX11_count 90 = .ok (.ireturn, 1) := by decide +kernel
theorem dX11_count_91 : decode cX11_count 91 = .ok (.aload_n 0, 1) := by decide +kernel
theorem dX11_count_92 : decode cX11_count 92 = .ok (.getfield 167, 3) := by decide +kernel
theorem dX11_count_95 : decode cX11_count 95 = .ok (.ireturn, 1) := by decide +kernel
theorem dX11_count_96 : decode cX11_count 96 = .ok (.aload_n 0, 1) := by decide +kernel
theorem dX11_count_97 : decode cX11_count 97 = .ok (.invokevirtual 309, 3) := by decide +kernel
theorem dX11_count_100 : decode cX11_count 100 = .ok (.ireturn, 1) := by decide +kernel
theorem dX11_count_101 : decode cX11_count 101 = .ok (.aload_n 0, 1) := by decide +kernel
theorem dX11_count_102 : decode cX11_count 102 = .ok (.iconst 1, 1) := by decide +kernel
theorem dX11_count_103 : decode cX11_count 103 = .ok (.invokevirtual 286, 3) := by decide +kernel
theorem dX11_count_106 : decode cX11_count 106 = .ok (.ireturn, 1) := by decide +kernel
theorem dX11_now_0 : decode cX11_now 0 = .ok (.aload_n 0, 1) := by decide +kernel
theorem dX11_now_1 : decode cX11_now 1 = .ok (.getfield 296, 3) := by decide +kernel
theorem dX11_now_4 : decode cX11_now 4 = .ok (.ifCond .ne 7, 3) := by decide +kernel
theorem dX11_now_7 : decode cX11_now 7 = .ok (.iconst 0, 1) := by decide +kernel
theorem dX11_now_8 : decode cX11_now 8 = .ok (.goto 14, 3) := by decide +kernel
theorem dX11_now_11 : decode cX11_now 11 = .ok (.aload_n 0, 1) := by decide +kernel
theorem dX11_now_12 : decode cX11_now 12 = .ok (.getfield 75, 3) := by decide +kernel
theorem dX11_now_15 : decode cX11_now 15 = .ok (.aload_n 0, 1) := by decide +kernel
theorem dX11_now_16 : decode cX11_now 16 = .ok (.getfield 296, 3) := by decide +kernel
theorem dX11_now_19 : decode cX11_now 19 = .ok (.iconst 1, 1) := by decide +kernel
theorem dX11_now_20 : decode cX11_now 20 = .ok (.isub, 1) := by decide +kernel
theorem dX11_now_21 : decode cX11_now 21 = .ok (.iaload, 1) := by decide +kernel
theorem dX11_now_22 : decode cX11_now 22 = .ok (.ireturn, 1) := by decide +kernel
theorem dX11_person_0 : decode cX11_person 0 = .ok (.aload_n 0, 1) := by decide +kernel
theorem dX11_person_1 : decode cX11_person 1 = .ok (.iconst 0, 1) := by decide +kernel
theorem dX11_person_2 : decode cX11_person 2 = .ok (.putfield 160, 3) := by decide +kernel
theorem dX11_person_5 : decode cX11_person 5 = .ok (.aload_n 0, 1) := by decide +kernel
theorem dX11_person_6 : decode cX11_person 6 = .ok (.iload_n 1, 1) := by decide +kernel
theorem dX11_person_7 : decode cX11_person 7 = .ok (.invokevirtual 312, 3) := by decide +kernel
theorem dX11_person_10 : decode cX11_person 10 = .ok (.ifCond .ne 9, 3) := by decide +kernel
theorem dX11_person_13 : decode cX11_person 13 = .ok (.aload_n 0, 1) := by decide +kernel
theorem dX11_person_14 : decode cX11_person 14 = .ok (.iconst 1, 1) := by decide +kernel
theorem dX11_person_15 : decode cX11_person 15 = .ok (.invokevirtual 286, 3) := by decide +kernel
theorem dX11_person_18 : decode cX11_person 18 = .ok (.ireturn, 1) := by decide +kernel
theorem dX11_person_19 : decode cX11_person 19 = .ok (.iload_n 2, 1) := by decide +kernel
theorem dX11_person_20 : decode cX11_person 20 = .ok (.ifCond .ne 12, 3) := by decide +kernel
theorem dX11_person_23 : decode cX11_person 23 = .ok (.aload_n 0, 1) := by decide +kernel
theorem dX11_person_24 : decode cX11_person 24 = .ok (.getfield 44, 3) := by decide +kernel
theorem dX11_person_27 : decode cX11_person 27 = .ok (.iload_n 1, 1) := by decide +kernel
theorem dX11_person_28 : decode cX11_person 28 = .ok (.iaload, 1) := by decide +kernel
theorem dX11_person_29 : decode cX11_person 29 = .ok (.goto 44, 3) := by decide +kernel
theorem dX11_person_32 : decode cX11_person 32 = .ok (.iload_n 2, 1) := by decide +kernel
theorem dX11_person_33 : decode cX11_person 33 = .ok (.iconst 1, 1) := by decide +kernel
theorem dX11_person_34 : decode cX11_person 34 = .ok (.if_icmp .ne 12, 3) := by decide +kernel
theorem dX11_person_37 : decode cX11_person 37 = .ok (.aload_n 0, 1) := by decide +kernel
theorem dX11_person_38 : decode cX11_person 38 = .ok (.getfield 47, 3) := by decide +kernel
theorem dX11_person_41 : decode cX11_person 41 = .ok (.iload_n 1, 1) := by decide +kernel
theorem dX11_person_42 : decode cX11_person 42 = .ok (.iaload, 1) := by decide +kernel
theorem dX11_person_43 : decode cX11_person 43 = .ok (.goto 30, 3) := by decide +kernel
theorem dX11_person_46 : decode cX11_person 46 = .ok (.iload_n 2, 1) := by decide +kernel
theorem dX11_person_47 : decode cX11_person 47 = .ok (.iconst 2, 1) := by decide +kernel
theorem dX11_person_48 : decode cX11_person 48 = .ok (.if_icmp .ne 20, 3) := by decide +kernel
theorem dX11_person_51 : decode cX11_person 51 = .ok (.aload_n 0, 1) := by decide +kernel
theorem dX11_person_52 : decode cX11_person 52 = .ok (.getfield 53, 3) := by decide +kernel
theorem dX11_person_55 : decode cX11_person 55 = .ok (.iload_n 1, 1) := by decide +kernel
theorem dX11_person_56 : decode cX11_person 56 = .ok (.baload, 1) := by decide +kernel
theorem dX11_person_57 : decode cX11_person 57 = .ok (.ifCond .eq 7, 3) := by decide +kernel
theorem dX11_person_60 : decode cX11_person 60 = .ok (.iconst 1, 1) := by decide +kernel
theorem dX11_person_61 : decode cX11_person 61 = .ok (.goto 12, 3) := by decide +kernel
theorem dX11_person_64 : decode cX11_person 64 = .ok (.iconst 0, 1) := by decide +kernel
theorem dX11_person_65 : decode cX11_person 65 = .ok (.goto 8, 3) := by decide +kernel
theorem dX11_person_68 : decode cX11_person 68 = .ok (.aload_n 0, 1) := by decide +kernel
theorem dX11_person_69 : decode cX11_person 69 = .ok (.iconst 1, 1) := by decide +kernel
theorem dX11_person_70 : decode cX11_person 70 = .ok (.invokevirtual 286, 3) := by decide +kernel
theorem dX11_person_73 : decode cX11_person 73 = .ok (.ireturn, 1) := by decide +kernel
theorem dX11_walk_0 : decode cX11_walk 0 = .ok (.aload_n 0, 1) := by decide +kernel
theorem dX11_walk_1 : decode cX11_walk 1 = .ok (.iconst 0, 1) := by decide +kernel
theorem dX11_walk_2 : decode cX11_walk 2 = .ok (.putfield 160, 3) := by decide +kernel
theorem dX11_walk_5 : decode cX11_walk 5 = .ok (.aload_n 0, 1) := by decide +kernel
theorem dX11_walk_6 : decode cX11_walk 6 = .ok (.iload_n 1, 1) := by decide +kernel
theorem dX11_walk_7 : decode cX11_walk 7 = .ok (.invokevirtual 315, 3) := by decide +kernel
theorem dX11_walk_10 : decode cX11_walk 10 = .ok (.ifCond .eq 25, 3) := by decide +kernel
theorem dX11_walk_13 : decode cX11_walk 13 = .ok (.aload_n 0, 1) := by decide +kernel
theorem dX11_walk_14 : decode cX11_walk 14 = .ok (.iload_n 2, 1) := by decide +kernel
theorem dX11_walk_15 : decode cX11_walk 15 = .ok (.invokevirtual 315, 3) := by decide +kernel
theorem dX11_walk_18 : decode cX11_walk 18 = .ok (.ifCond .eq 17, 3) := by decide +kernel
theorem dX11_walk_21 : decode cX11_walk 21 = .ok (.aload_n 0, 1) := by decide +kernel
theorem dX11_walk_22 : decode cX11_walk 22 = .ok (.getfield 50, 3) := by decide +kernel
theorem dX11_walk_25 : decode cX11_walk 25 = .ok (.bipush 10, 2) := by decide +kernel
theorem dX11_walk_27 : decode cX11_walk 27 = .ok (.iload_n 1, 1) := by decide +kernel
theorem dX11_walk_28 : decode cX11_walk 28 = .ok (.imul, 1) := by decide +kernel
theorem dX11_walk_29 : decode cX11_walk 29 = .ok (.iload_n 2, 1) := by decide +kernel
theorem dX11_walk_30 : decode cX11_walk 30 = .ok (.iadd, 1) := by decide +kernel
theorem dX11_walk_31 : decode cX11_walk 31 = .ok (.iaload, 1) := by decide +kernel
theorem dX11_walk_32 : decode cX11_walk 32 = .ok (.goto 8, 3) := by decide +kernel
theorem dX11_walk_35 : decode cX11_walk 35 = .ok (.aload_n 0, 1) := by decide +kernel
theorem dX11_walk_36 : decode cX11_walk 36 = .ok (.iconst 1, 1) := by decide +kernel
theorem dX11_walk_37 : decode cX11_walk 37 = .ok (.invokevirtual 286, 3) := by decide +kernel
theorem dX11_walk_40 : decode cX11_walk 40 = .ok (.ireturn, 1) := by decide +kernel
theorem dX11_reckon_0 : decode cX11_reckon 0 = .ok (.iload_n 0, 1) := by decide +kernel
theorem dX11_reckon_1 : decode cX11_reckon 1 = .ok (.tableswitch 103 (-26) (-20) #[89, 78, 67, 55, 51, 47, 43], 43) := by decide +kernel
theorem dX11_reckon_44 : decode cX11_reckon 44 = .ok (.iload_n 1, 1) := by decide +kernel
theorem dX11_reckon_45 : decode cX11_reckon 45 = .ok (.iload_n 2, 1) := by decide +kernel
theorem dX11_reckon_46 : decode cX11_reckon 46 = .ok (.iadd, 1) := by decide +kernel
theorem dX11_reckon_47 : decode cX11_reckon 47 = .ok (.ireturn, 1) := by decide +kernel
theorem dX11_reckon_48 : decode cX11_reckon 48 = .ok (.iload_n 1, 1) := by decide +kernel
theorem dX11_reckon_49 : decode cX11_reckon 49 = .ok (.iload_n 2, 1) := by decide +kernel
theorem dX11_reckon_50 : decode cX11_reckon 50 = .ok (.isub, 1) := by decide +kernel
theorem dX11_reckon_51 : decode cX11_reckon 51 = .ok (.ireturn, 1) := by decide +kernel
theorem dX11_reckon_52 : decode cX11_reckon 52 = .ok (.iload_n 1, 1) := by decide +kernel
theorem dX11_reckon_53 : decode cX11_reckon 53 = .ok (.iload_n 2, 1) := by decide +kernel
theorem dX11_reckon_54 : decode cX11_reckon 54 = .ok (.imul, 1) := by decide +kernel
theorem dX11_reckon_55 : decode cX11_reckon 55 = .ok (.ireturn, 1) := by decide +kernel
theorem dX11_reckon_56 : decode cX11_reckon 56 = .ok (.iload_n 2, 1) := by decide +kernel
theorem dX11_reckon_57 : decode cX11_reckon 57 = .ok (.ifCond .ne 7, 3) := by decide +kernel
theorem dX11_reckon_60 : decode cX11_reckon 60 = .ok (.iconst 0, 1) := by decide +kernel
theorem dX11_reckon_61 : decode cX11_reckon 61 = .ok (.goto 6, 3) := by decide +kernel
theorem dX11_reckon_64 : decode cX11_reckon 64 = .ok (.iload_n 1, 1) := by decide +kernel
theorem dX11_reckon_65 : decode cX11_reckon 65 = .ok (.iload_n 2, 1) := by decide +kernel
theorem dX11_reckon_66 : decode cX11_reckon 66 = .ok (.idiv, 1) := by decide +kernel
theorem dX11_reckon_67 : decode cX11_reckon 67 = .ok (.ireturn, 1) := by decide +kernel
theorem dX11_reckon_68 : decode cX11_reckon 68 = .ok (.iload_n 1, 1) := by decide +kernel
theorem dX11_reckon_69 : decode cX11_reckon 69 = .ok (.iload_n 2, 1) := by decide +kernel
theorem dX11_reckon_70 : decode cX11_reckon 70 = .ok (.if_icmp .ge 7, 3) := by decide +kernel
theorem dX11_reckon_73 : decode cX11_reckon 73 = .ok (.iconst 1, 1) := by decide +kernel
theorem dX11_reckon_74 : decode cX11_reckon 74 = .ok (.goto 4, 3) := by decide +kernel
theorem dX11_reckon_77 : decode cX11_reckon 77 = .ok (.iconst 0, 1) := by decide +kernel
theorem dX11_reckon_78 : decode cX11_reckon 78 = .ok (.ireturn, 1) := by decide +kernel
theorem dX11_reckon_79 : decode cX11_reckon 79 = .ok (.iload_n 1, 1) := by decide +kernel
theorem dX11_reckon_80 : decode cX11_reckon 80 = .ok (.iload_n 2, 1) := by decide +kernel
theorem dX11_reckon_81 : decode cX11_reckon 81 = .ok (.if_icmp .ne 7, 3) := by decide +kernel
theorem dX11_reckon_84 : decode cX11_reckon 84 = .ok (.iconst 1, 1) := by decide +kernel
theorem dX11_reckon_85 : decode cX11_reckon 85 = .ok (.goto 4, 3) := by decide +kernel
theorem dX11_reckon_88 : decode cX11_reckon 88 = .ok (.iconst 0, 1) := by decide +kernel
theorem dX11_reckon_89 : decode cX11_reckon 89 = .ok (.ireturn, 1) := by decide +kernel
theorem dX11_reckon_90 : decode cX11_reckon 90 = .ok (.iload_n 1, 1) := by decide +kernel
theorem dX11_reckon_91 : decode cX11_reckon 91 = .ok (.ifCond .eq 11, 3) := by decide +kernel
theorem dX11_reckon_94 : decode cX11_reckon 94 = .ok (.iload_n 2, 1) := by decide +kernel
theorem dX11_reckon_95 : decode cX11_reckon 95 = .ok (.ifCond .eq 7, 3) := by decide +kernel
theorem dX11_reckon_98 : decode cX11_reckon 98 = .ok (.iconst 1, 1) := by decide +kernel
theorem dX11_reckon_99 : decode cX11_reckon 99 = .ok (.goto 4, 3) := by decide +kernel
theorem dX11_reckon_102 : decode cX11_reckon 102 = .ok (.iconst 0, 1) := by decide +kernel
theorem dX11_reckon_103 : decode cX11_reckon 103 = .ok (.ireturn, 1) := by decide +kernel
theorem dX11_reckon_104 : decode cX11_reckon 104 = .ok (.iload_n 1, 1) := by decide +kernel
theorem dX11_reckon_105 : decode cX11_reckon 105 = .ok (.ifCond .ne 7, 3) := by decide +kernel
theorem dX11_reckon_108 : decode cX11_reckon 108 = .ok (.iload_n 2, 1) := by decide +kernel
theorem dX11_reckon_109 : decode cX11_reckon 109 = .ok (.ifCond .eq 7, 3) := by decide +kernel
theorem dX11_reckon_112 : decode cX11_reckon 112 = .ok (.iconst 1, 1) := by decide +kernel
theorem dX11_reckon_113 : decode cX11_reckon 113 = .ok (.goto 4, 3) := by decide +kernel
theorem dX11_reckon_116 : decode cX11_reckon 116 = .ok (.iconst 0, 1) := by decide +kernel
theorem dX11_reckon_117 : decode cX11_reckon 117 = .ok (.ireturn, 1) := by decide +kernel
theorem dX11_isTrue_0 : decode cX11_isTrue 0 = .ok (.iconst 0, 1) := by decide +kernel
theorem dX11_isTrue_1 : decode cX11_isTrue 1 = .ok (.istore_n 2, 1) := by decide +kernel
theorem dX11_isTrue_2 : decode cX11_isTrue 2 = .ok (.aload_n 0, 1) := by decide +kernel
theorem dX11_isTrue_3 : decode cX11_isTrue 3 = .ok (.getfield 57, 3) := by decide +kernel
theorem dX11_isTrue_6 : decode cX11_isTrue 6 = .ok (.iload_n 1, 1) := by decide +kernel
theorem dX11_isTrue_7 : decode cX11_isTrue 7 = .ok (.iaload, 1) := by decide +kernel
theorem dX11_isTrue_8 : decode cX11_isTrue 8 = .ok (.istore_n 3, 1) := by decide +kernel
theorem dX11_isTrue_9 : decode cX11_isTrue 9 = .ok (.iload_n 3, 1) := by decide +kernel
theorem dX11_isTrue_10 : decode cX11_isTrue 10 = .ok (.aload_n 0, 1) := by decide +kernel
theorem dX11_isTrue_11 : decode cX11_isTrue 11 = .ok (.getfield 60, 3) := by decide +kernel
theorem dX11_isTrue_14 : decode cX11_isTrue 14 = .ok (.iload_n 1, 1) := by decide +kernel
theorem dX11_isTrue_15 : decode cX11_isTrue 15 = .ok (.iaload, 1) := by decide +kernel
theorem dX11_isTrue_16 : decode cX11_isTrue 16 = .ok (.if_icmp .ge 119, 3) := by decide +kernel
theorem dX11_isTrue_19 : decode cX11_isTrue 19 = .ok (.aload_n 0, 1) := by decide +kernel
theorem dX11_isTrue_20 : decode cX11_isTrue 20 = .ok (.getfield 63, 3) := by decide +kernel
theorem dX11_isTrue_23 : decode cX11_isTrue 23 = .ok (.iload_n 3, 1) := by decide +kernel
theorem dX11_isTrue_24 : decode cX11_isTrue 24 = .ok (.iaload, 1) := by decide +kernel
theorem dX11_isTrue_25 : decode cX11_isTrue 25 = .ok (.istore 4, 2) := by decide +kernel
theorem dX11_isTrue_27 : decode cX11_isTrue 27 = .ok (.iload 4, 2) := by decide +kernel
theorem dX11_isTrue_29 : decode cX11_isTrue 29 = .ok (.bipush (-20), 2) := by decide +kernel
theorem dX11_isTrue_31 : decode cX11_isTrue 31 = .ok (.if_icmp .le 34, 3) := by decide +kernel
theorem dX11_isTrue_34 : decode cX11_isTrue 34 = .ok (.aload_n 0, 1) := by decide +kernel
theorem dX11_isTrue_35 : decode cX11_isTrue 35 = .ok (.getfield 105, 3) := by decide +kernel
theorem dX11_isTrue_38 : decode cX11_isTrue 38 = .ok (.iload_n 2, 1) := by decide +kernel
theorem dX11_isTrue_39 : decode cX11_isTrue 39 = .ok (.iload 4, 2) := by decide +kernel
theorem dX11_isTrue_41 : decode cX11_isTrue 41 = .ok (.ifCond .lt 8, 3) := by decide +kernel
theorem dX11_isTrue_44 : decode cX11_isTrue 44 = .ok (.iload 4, 2) := by decide +kernel
theorem dX11_isTrue_46 : decode cX11_isTrue 46 = .ok (.goto 12, 3) := by decide +kernel
theorem dX11_isTrue_49 : decode cX11_isTrue 49 = .ok (.aload_n 0, 1) := by decide +kernel
theorem dX11_isTrue_50 : decode cX11_isTrue 50 = .ok (.getfield 102, 3) := by decide +kernel
theorem dX11_isTrue_53 : decode cX11_isTrue 53 = .ok (.iconst (-1), 1) := by decide +kernel
theorem dX11_isTrue_54 : decode cX11_isTrue 54 = .ok (.iload 4, 2) := by decide +kernel
theorem dX11_isTrue_56 : decode cX11_isTrue 56 = .ok (.isub, 1) := by decide +kernel
theorem dX11_isTrue_57 : decode cX11_isTrue 57 = .ok (.iaload, 1) := by decide +kernel
theorem dX11_isTrue_58 : decode cX11_isTrue 58 = .ok (.iastore, 1) := by decide +kernel
theorem dX11_isTrue_59 : decode cX11_isTrue 59 = .ok (.iinc 2 1, 3) := by decide +kernel
theorem dX11_isTrue_62 : decode cX11_isTrue 62 = .ok (.goto 67, 3) := by decide +kernel
theorem dX11_isTrue_65 : decode cX11_isTrue 65 = .ok (.iload 4, 2) := by decide +kernel
theorem dX11_isTrue_67 : decode cX11_isTrue 67 = .ok (.bipush (-28), 2) := by decide +kernel
theorem dX11_isTrue_69 : decode cX11_isTrue 69 = .ok (.if_icmp .ne 30, 3) := by decide +kernel
theorem dX11_isTrue_72 : decode cX11_isTrue 72 = .ok (.aload_n 0, 1) := by decide +kernel
theorem dX11_isTrue_73 : decode cX11_isTrue 73 = .ok (.getfield 105, 3) := by decide +kernel
theorem dX11_isTrue_76 : decode cX11_isTrue 76 = .ok (.iload_n 2, 1) := by decide +kernel
theorem dX11_isTrue_77 : decode cX11_isTrue 77 = .ok (.iconst 1, 1) := by decide +kernel
theorem dX11_isTrue_78 : decode cX11_isTrue 78 = .ok (.isub, 1) := by decide +kernel
theorem dX11_isTrue_79 : decode cX11_isTrue 79 = .ok (.aload_n 0, 1) := by decide +kernel
theorem dX11_isTrue_80 : decode cX11_isTrue 80 = .ok (.getfield 105, 3) := by decide +kernel
theorem dX11_isTrue_83 : decode cX11_isTrue 83 = .ok (.iload_n 2, 1) := by decide +kernel
theorem dX11_isTrue_84 : decode cX11_isTrue 84 = .ok (.iconst 1, 1) := by decide +kernel
theorem dX11_isTrue_85 : decode cX11_isTrue 85 = .ok (.isub, 1) := by decide +kernel
theorem dX11_isTrue_86 : decode cX11_isTrue 86 = .ok (.iaload, 1) := by decide +kernel
theorem dX11_isTrue_87 : decode cX11_isTrue 87 = .ok (.ifCond .eq 7, 3) := by decide +kernel
theorem dX11_isTrue_90 : decode cX11_isTrue 90 = .ok (.iconst 0, 1) := by decide +kernel
theorem dX11_isTrue_91 : decode cX11_isTrue 91 = .ok (.goto 4, 3) := by decide +kernel
theorem dX11_isTrue_94 : decode cX11_isTrue 94 = .ok (.iconst 1, 1) := by decide +kernel
theorem dX11_isTrue_95 : decode cX11_isTrue 95 = .ok (.iastore, 1) := by decide +kernel
theorem dX11_isTrue_96 : decode cX11_isTrue 96 = .ok (.goto 33, 3) := by decide +kernel
theorem dX11_isTrue_99 : decode cX11_isTrue 99 = .ok (.iinc 2 (-1), 3) := by decide +kernel
theorem dX11_isTrue_102 : decode cX11_isTrue 102 = .ok (.aload_n 0, 1) := by decide +kernel
theorem dX11_isTrue_103 : decode cX11_isTrue 103 = .ok (.getfield 105, 3) := by decide +kernel
theorem dX11_isTrue_106 : decode cX11_isTrue 106 = .ok (.iload_n 2, 1) := by decide +kernel
theorem dX11_isTrue_107 : decode cX11_isTrue 107 = .ok (.iconst 1, 1) := by decide +kernel
theorem dX11_isTrue_108 : decode cX11_isTrue 108 = .ok (.isub, 1) := by decide +kernel
theorem dX11_isTrue_109 : decode cX11_isTrue 109 = .ok (.iload 4, 2) := by decide +kernel
theorem dX11_isTrue_111 : decode cX11_isTrue 111 = .ok (.aload_n 0, 1) := by decide +kernel
theorem dX11_isTrue_112 : decode cX11_isTrue 112 = .ok (.getfield 105, 3) := by decide +kernel
theorem dX11_isTrue_115 : decode cX11_isTrue 115 = .ok (.iload_n 2, 1) := by decide +kernel
theorem dX11_isTrue_116 : decode cX11_isTrue 116 = .ok (.iconst 1, 1) := by decide +kernel
theorem dX11_isTrue_117 : decode cX11_isTrue 117 = .ok (.isub, 1) := by decide +kernel
theorem dX11_isTrue_118 : decode cX11_isTrue 118 = .ok (.iaload, 1) := by decide +kernel
theorem dX11_isTrue_119 : decode cX11_isTrue 119 = .ok (.aload_n 0, 1) := by decide +kernel
theorem dX11_isTrue_120 : decode cX11_isTrue 120 = .ok (.getfield 105, 3) := by decide +kernel
theorem dX11_isTrue_123 : decode cX11_isTrue 123 = .ok (.iload_n 2, 1) := by decide +kernel
theorem dX11_isTrue_124 : decode cX11_isTrue 124 = .ok (.iaload, 1) := by decide +kernel
theorem dX11_isTrue_125 : decode cX11_isTrue 125 = .ok (.invokestatic 318, 3) := by decide +kernel
theorem dX11_isTrue_128 : decode cX11_isTrue 128 = .ok (.iastore, 1) := by decide +kernel
theorem dX11_isTrue_129 : decode cX11_isTrue 129 = .ok (.iinc 3 1, 3) := by decide +kernel
theorem dX11_isTrue_132 : decode cX11_isTrue 132 = .ok (.goto (-123), 3) := by decide +kernel
theorem dX11_isTrue_135 : decode cX11_isTrue 135 = .ok (.aload_n 0, 1) := by decide +kernel
theorem dX11_isTrue_136 : decode cX11_isTrue 136 = .ok (.getfield 105, 3) := by decide +kernel
theorem dX11_isTrue_139 : decode cX11_isTrue 139 = .ok (.iconst 0, 1) := by decide +kernel
theorem dX11_isTrue_140 : decode cX11_isTrue 140 = .ok (.iaload, 1) := by decide +kernel
theorem dX11_isTrue_141 : decode cX11_isTrue 141 = .ok (.ifCond .eq 7, 3) := by decide +kernel
theorem dX11_isTrue_144 : decode cX11_isTrue 144 = .ok (.iconst 1, 1) := by decide +kernel
theorem dX11_isTrue_145 : decode cX11_isTrue 145 = .ok (.goto 4, 3) := by decide +kernel
theorem dX11_isTrue_148 : decode cX11_isTrue 148 = .ok (.iconst 0, 1) := by decide +kernel
theorem dX11_isTrue_149 : decode cX11_isTrue 149 = .ok (.ireturn, 1) := by decide +kernel
theorem dX11_ask_0 : decode cX11_ask 0 = .ok (.aload_n 0, 1) := by decide +kernel
theorem dX11_ask_1 : decode cX11_ask 1 = .ok (.getfield 102, 3) := by decide +kernel
theorem dX11_ask_4 : decode cX11_ask 4 = .ok (.iconst 0, 1) := by decide +kernel
theorem dX11_ask_5 : decode cX11_ask 5 = .ok (.iload_n 1, 1) := by decide +kernel
theorem dX11_ask_6 : decode cX11_ask 6 = .ok (.iastore, 1) := by decide +kernel
theorem dX11_ask_7 : decode cX11_ask 7 = .ok (.aload_n 0, 1) := by decide +kernel
theorem dX11_ask_8 : decode cX11_ask 8 = .ok (.getfield 102, 3) := by decide +kernel
theorem dX11_ask_11 : decode cX11_ask 11 = .ok (.iconst 1, 1) := by decide +kernel
theorem dX11_ask_12 : decode cX11_ask 12 = .ok (.iload_n 2, 1) := by decide +kernel
theorem dX11_ask_13 : decode cX11_ask 13 = .ok (.iastore, 1) := by decide +kernel
theorem dX11_ask_14 : decode cX11_ask 14 = .ok (.aload_n 0, 1) := by decide +kernel
theorem dX11_ask_15 : decode cX11_ask 15 = .ok (.getfield 102, 3) := by decide +kernel
theorem dX11_ask_18 : decode cX11_ask 18 = .ok (.iconst 2, 1) := by decide +kernel
theorem dX11_ask_19 : decode cX11_ask 19 = .ok (.iload_n 3, 1) := by decide +kernel
theorem dX11_ask_20 : decode cX11_ask 20 = .ok (.iastore, 1) := by decide +kernel
theorem dX11_ask_21 : decode cX11_ask 21 = .ok (.aload_n 0, 1) := by decide +kernel
theorem dX11_ask_22 : decode cX11_ask 22 = .ok (.getfield 102, 3) := by decide +kernel
theorem dX11_ask_25 : decode cX11_ask 25 = .ok (.iconst 3, 1) := by decide +kernel
theorem dX11_ask_26 : decode cX11_ask 26 = .ok (.iload 4, 2) := by decide +kernel
theorem dX11_ask_28 : decode cX11_ask 28 = .ok (.ifCond .eq 7, 3) := by decide +kernel
theorem dX11_ask_31 : decode cX11_ask 31 = .ok (.iconst 1, 1) := by decide +kernel
theorem dX11_ask_32 : decode cX11_ask 32 = .ok (.goto 4, 3) := by decide +kernel
theorem dX11_ask_35 : decode cX11_ask 35 = .ok (.iconst 0, 1) := by decide +kernel
theorem dX11_ask_36 : decode cX11_ask 36 = .ok (.iastore, 1) := by decide +kernel
theorem dX11_ask_37 : decode cX11_ask 37 = .ok (.aload_n 0, 1) := by decide +kernel
theorem dX11_ask_38 : decode cX11_ask 38 = .ok (.getfield 102, 3) := by decide +kernel
theorem dX11_ask_41 : decode cX11_ask 41 = .ok (.iconst 4, 1) := by decide +kernel
theorem dX11_ask_42 : decode cX11_ask 42 = .ok (.iload 5, 2) := by decide +kernel
theorem dX11_ask_44 : decode cX11_ask 44 = .ok (.bipush 24, 2) := by decide +kernel
theorem dX11_ask_46 : decode cX11_ask 46 = .ok (.idiv, 1) := by decide +kernel
theorem dX11_ask_47 : decode cX11_ask 47 = .ok (.iastore, 1) := by decide +kernel
theorem dX11_ask_48 : decode cX11_ask 48 = .ok (.aload_n 0, 1) := by decide +kernel
theorem dX11_ask_49 : decode cX11_ask 49 = .ok (.getfield 102, 3) := by decide +kernel
theorem dX11_ask_52 : decode cX11_ask 52 = .ok (.iconst 5, 1) := by decide +kernel
theorem dX11_ask_53 : decode cX11_ask 53 = .ok (.iload 5, 2) := by decide +kernel
theorem dX11_ask_55 : decode cX11_ask 55 = .ok (.bipush 24, 2) := by decide +kernel
theorem dX11_ask_57 : decode cX11_ask 57 = .ok (.irem, 1) := by decide +kernel
theorem dX11_ask_58 : decode cX11_ask 58 = .ok (.iastore, 1) := by decide +kernel
theorem dX11_ask_59 : decode cX11_ask 59 = .ok (.aload_n 0, 1) := by decide +kernel
theorem dX11_ask_60 : decode cX11_ask 60 = .ok (.getfield 102, 3) := by decide +kernel
theorem dX11_ask_63 : decode cX11_ask 63 = .ok (.bipush 6, 2) := by decide +kernel
theorem dX11_ask_65 : decode cX11_ask 65 = .ok (.iload 6, 2) := by decide +kernel
theorem dX11_ask_67 : decode cX11_ask 67 = .ok (.iastore, 1) := by decide +kernel
theorem dX11_ask_68 : decode cX11_ask 68 = .ok (.return_, 1) := by decide +kernel
theorem dX11_allRules_0 : decode cX11_allRules 0 = .ok (.iconst 0, 1) := by decide +kernel
theorem dX11_allRules_1 : decode cX11_allRules 1 = .ok (.istore_n 1, 1) := by decide +kernel
theorem dX11_allRules_2 : decode cX11_allRules 2 = .ok (.iload_n 1, 1) := by decide +kernel
theorem dX11_allRules_3 : decode cX11_allRules 3 = .ok (.aload_n 0, 1) := by decide +kernel
theorem dX11_allRules_4 : decode cX11_allRules 4 = .ok (.getfield 40, 3) := by decide +kernel
theorem dX11_allRules_7 : decode cX11_allRules 7 = .ok (.iconst 2, 1) := by decide +kernel
theorem dX11_allRules_8 : decode cX11_allRules 8 = .ok (.iaload, 1) := by decide +kernel
theorem dX11_allRules_9 : decode cX11_allRules 9 = .ok (.if_icmp .ge 19, 3) := by decide +kernel
theorem dX11_allRules_12 : decode cX11_allRules 12 = .ok (.aload_n 0, 1) := by decide +kernel
theorem dX11_allRules_13 : decode cX11_allRules 13 = .ok (.iload_n 1, 1) := by decide +kernel
theorem dX11_allRules_14 : decode cX11_allRules 14 = .ok (.invokevirtual 322, 3) := by decide +kernel
theorem dX11_allRules_17 : decode cX11_allRules 17 = .ok (.ifCond .ne 5, 3) := by decide +kernel
theorem dX11_allRules_20 : decode cX11_allRules 20 = .ok (.iconst 0, 1) := by decide +kernel
theorem dX11_allRules_21 : decode cX11_allRules 21 = .ok (.ireturn, 1) := by decide +kernel
theorem dX11_allRules_22 : decode cX11_allRules 22 = .ok (.iinc 1 1, 3) := by decide +kernel
theorem dX11_allRules_25 : decode cX11_allRules 25 = .ok (.goto (-23), 3) := by decide +kernel
theorem dX11_allRules_28 : decode cX11_allRules 28 = .ok (.iconst 1, 1) := by decide +kernel
theorem dX11_allRules_29 : decode cX11_allRules 29 = .ok (.ireturn, 1) := by decide +kernel
theorem dX11_beforeOf_0 : decode cX11_beforeOf 0 = .ok (.iconst 0, 1) := by decide +kernel
theorem dX11_beforeOf_1 : decode cX11_beforeOf 1 = .ok (.istore_n 3, 1) := by decide +kernel
theorem dX11_beforeOf_2 : decode cX11_beforeOf 2 = .ok (.iconst 0, 1) := by decide +kernel
theorem dX11_beforeOf_3 : decode cX11_beforeOf 3 = .ok (.istore 4, 2) := by decide +kernel
theorem dX11_beforeOf_5 : decode cX11_beforeOf 5 = .ok (.iload 4, 2) := by decide +kernel
theorem dX11_beforeOf_7 : decode cX11_beforeOf 7 = .ok (.aload_n 0, 1) := by decide +kernel
theorem dX11_beforeOf_8 : decode cX11_beforeOf 8 = .ok (.getfield 296, 3) := by decide +kernel
theorem dX11_beforeOf_11 : decode cX11_beforeOf 11 = .ok (.if_icmp .ge 45, 3) := by decide +kernel
theorem dX11_beforeOf_14 : decode cX11_beforeOf 14 = .ok (.iload_n 3, 1) := by decide +kernel
theorem dX11_beforeOf_15 : decode cX11_beforeOf 15 = .ok (.aload_n 0, 1) := by decide +kernel
theorem dX11_beforeOf_16 : decode cX11_beforeOf 16 = .ok (.getfield 72, 3) := by decide +kernel
theorem dX11_beforeOf_19 : decode cX11_beforeOf 19 = .ok (.iload 4, 2) := by decide +kernel
theorem dX11_beforeOf_21 : decode cX11_beforeOf 21 = .ok (.iaload, 1) := by decide +kernel
theorem dX11_beforeOf_22 : decode cX11_beforeOf 22 = .ok (.iload_n 1, 1) := by decide +kernel
theorem dX11_beforeOf_23 : decode cX11_beforeOf 23 = .ok (.if_icmp .ne 24, 3) := by decide +kernel
theorem dX11_beforeOf_26 : decode cX11_beforeOf 26 = .ok (.aload_n 0, 1) := by decide +kernel
theorem dX11_beforeOf_27 : decode cX11_beforeOf 27 = .ok (.getfield 75, 3) := by decide +kernel
theorem dX11_beforeOf_30 : decode cX11_beforeOf 30 = .ok (.iload 4, 2) := by decide +kernel
theorem dX11_beforeOf_32 : decode cX11_beforeOf 32 = .ok (.iaload, 1) := by decide +kernel
theorem dX11_beforeOf_33 : decode cX11_beforeOf 33 = .ok (.bipush 24, 2) := by decide +kernel
theorem dX11_beforeOf_35 : decode cX11_beforeOf 35 = .ok (.idiv, 1) := by decide +kernel
theorem dX11_beforeOf_36 : decode cX11_beforeOf 36 = .ok (.iload_n 2, 1) := by decide +kernel
theorem dX11_beforeOf_37 : decode cX11_beforeOf 37 = .ok (.bipush 24, 2) := by decide +kernel
theorem dX11_beforeOf_39 : decode cX11_beforeOf 39 = .ok (.idiv, 1) := by decide +kernel
theorem dX11_beforeOf_40 : decode cX11_beforeOf 40 = .ok (.if_icmp .ne 7, 3) := by decide +kernel
theorem dX11_beforeOf_43 : decode cX11_beforeOf 43 = .ok (.iconst 1, 1) := by decide +kernel
theorem dX11_beforeOf_44 : decode cX11_beforeOf 44 = .ok (.goto 4, 3) := by decide +kernel
theorem dX11_beforeOf_47 : decode cX11_beforeOf 47 = .ok (.iconst 0, 1) := by decide +kernel
theorem dX11_beforeOf_48 : decode cX11_beforeOf 48 = .ok (.iadd, 1) := by decide +kernel
theorem dX11_beforeOf_49 : decode cX11_beforeOf 49 = .ok (.istore_n 3, 1) := by decide +kernel
theorem dX11_beforeOf_50 : decode cX11_beforeOf 50 = .ok (.iinc 4 1, 3) := by decide +kernel
theorem dX11_beforeOf_53 : decode cX11_beforeOf 53 = .ok (.goto (-48), 3) := by decide +kernel
theorem dX11_beforeOf_56 : decode cX11_beforeOf 56 = .ok (.iload_n 3, 1) := by decide +kernel
theorem dX11_beforeOf_57 : decode cX11_beforeOf 57 = .ok (.ireturn, 1) := by decide +kernel
theorem dX11_move_0 : decode cX11_move 0 = .ok (.aload_n 0, 1) := by decide +kernel
theorem dX11_move_1 : decode cX11_move 1 = .ok (.iconst 0, 1) := by decide +kernel
theorem dX11_move_2 : decode cX11_move 2 = .ok (.putfield 160, 3) := by decide +kernel
theorem dX11_move_5 : decode cX11_move 5 = .ok (.aload_n 0, 1) := by decide +kernel
theorem dX11_move_6 : decode cX11_move 6 = .ok (.iload_n 1, 1) := by decide +kernel
theorem dX11_move_7 : decode cX11_move 7 = .ok (.invokevirtual 312, 3) := by decide +kernel
theorem dX11_move_10 : decode cX11_move 10 = .ok (.ifCond .eq 11, 3) := by decide +kernel
theorem dX11_move_13 : decode cX11_move 13 = .ok (.aload_n 0, 1) := by decide +kernel
theorem dX11_move_14 : decode cX11_move 14 = .ok (.iload_n 2, 1) := by decide +kernel
theorem dX11_move_15 : decode cX11_move 15 = .ok (.invokevirtual 315, 3) := by decide +kernel
theorem dX11_move_18 : decode cX11_move 18 = .ok (.ifCond .ne 9, 3) := by decide +kernel
theorem dX11_move_21 : decode cX11_move 21 = .ok (.aload_n 0, 1) := by decide +kernel
theorem dX11_move_22 : decode cX11_move 22 = .ok (.iconst 1, 1) := by decide +kernel
theorem dX11_move_23 : decode cX11_move 23 = .ok (.putfield 160, 3) := by decide +kernel
theorem dX11_move_26 : decode cX11_move 26 = .ok (.return_, 1) := by decide +kernel
theorem dX11_move_27 : decode cX11_move 27 = .ok (.aload_n 0, 1) := by decide +kernel
theorem dX11_move_28 : decode cX11_move 28 = .ok (.getfield 44, 3) := by decide +kernel
theorem dX11_move_31 : decode cX11_move 31 = .ok (.iload_n 1, 1) := by decide +kernel
theorem dX11_move_32 : decode cX11_move 32 = .ok (.iload_n 2, 1) := by decide +kernel
theorem dX11_move_33 : decode cX11_move 33 = .ok (.iastore, 1) := by decide +kernel
theorem dX11_move_34 : decode cX11_move 34 = .ok (.return_, 1) := by decide +kernel
theorem dX11_weep_0 : decode cX11_weep 0 = .ok (.aload_n 0, 1) := by decide +kernel
theorem dX11_weep_1 : decode cX11_weep 1 = .ok (.iconst 0, 1) := by decide +kernel
theorem dX11_weep_2 : decode cX11_weep 2 = .ok (.putfield 160, 3) := by decide +kernel
theorem dX11_weep_5 : decode cX11_weep 5 = .ok (.aload_n 0, 1) := by decide +kernel
theorem dX11_weep_6 : decode cX11_weep 6 = .ok (.iload_n 1, 1) := by decide +kernel
theorem dX11_weep_7 : decode cX11_weep 7 = .ok (.invokevirtual 312, 3) := by decide +kernel
theorem dX11_weep_10 : decode cX11_weep 10 = .ok (.ifCond .ne 9, 3) := by decide +kernel
theorem dX11_weep_13 : decode cX11_weep 13 = .ok (.aload_n 0, 1) := by decide +kernel
theorem dX11_weep_14 : decode cX11_weep 14 = .ok (.iconst 1, 1) := by decide +kernel
theorem dX11_weep_15 : decode cX11_weep 15 = .ok (.invokevirtual 286, 3) := by decide +kernel
theorem dX11_weep_18 : decode cX11_weep 18 = .ok (.ireturn, 1) := by decide +kernel
theorem dX11_weep_19 : decode cX11_weep 19 = .ok (.aload_n 0, 1) := by decide +kernel
theorem dX11_weep_20 : decode cX11_weep 20 = .ok (.getfield 296, 3) := by decide +kernel
theorem dX11_weep_23 : decode cX11_weep 23 = .ok (.sipush 200, 3) := by decide +kernel
theorem dX11_weep_26 : decode cX11_weep 26 = .ok (.if_icmp .eq 28, 3) := by decide +kernel
theorem dX11_weep_29 : decode cX11_weep 29 = .ok (.iload_n 2, 1) := by decide +kernel
theorem dX11_weep_30 : decode cX11_weep 30 = .ok (.aload_n 0, 1) := by decide +kernel
theorem dX11_weep_31 : decode cX11_weep 31 = .ok (.invokevirtual 309, 3) := by decide +kernel
theorem dX11_weep_34 : decode cX11_weep 34 = .ok (.if_icmp .lt 20, 3) := by decide +kernel
theorem dX11_weep_37 : decode cX11_weep 37 = .ok (.iload_n 2, 1) := by decide +kernel
theorem dX11_weep_38 : decode cX11_weep 38 = .ok (.sipush 2399, 3) := by decide +kernel
theorem dX11_weep_41 : decode cX11_weep 41 = .ok (.if_icmp .gt 13, 3) := by decide +kernel
theorem dX11_weep_44 : decode cX11_weep 44 = .ok (.iload_n 3, 1) := by decide +kernel
theorem dX11_weep_45 : decode cX11_weep 45 = .ok (.iconst 0, 1) := by decide +kernel
theorem dX11_weep_46 : decode cX11_weep 46 = .ok (.bipush 9, 2) := by decide +kernel
theorem dX11_weep_48 : decode cX11_weep 48 = .ok (.invokestatic 163, 3) := by decide +kernel
theorem dX11_weep_51 : decode cX11_weep 51 = .ok (.ifCond .ne 15, 3) := by decide +kernel
theorem dX11_weep_54 : decode cX11_weep 54 = .ok (.aload_n 0, 1) := by decide +kernel
theorem dX11_weep_55 : decode cX11_weep 55 = .ok (.getfield 66, 3) := by decide +kernel
theorem dX11_weep_58 : decode cX11_weep 58 = .ok (.iconst 1, 1) := by decide +kernel
theorem dX11_weep_59 : decode cX11_weep 59 = .ok (.dup2, 1) := by decide +kernel
theorem dX11_weep_60 : decode cX11_weep 60 = .ok (.iaload, 1) := by decide +kernel
theorem dX11_weep_61 : decode cX11_weep 61 = .ok (.iconst 1, 1) := by decide +kernel
theorem dX11_weep_62 : decode cX11_weep 62 = .ok (.iadd, 1) := by decide +kernel
theorem dX11_weep_63 : decode cX11_weep 63 = .ok (.iastore, 1) := by decide +kernel
theorem dX11_weep_64 : decode cX11_weep 64 = .ok (.iconst (-1), 1) := by decide +kernel
theorem dX11_weep_65 : decode cX11_weep 65 = .ok (.ireturn, 1) := by decide +kernel
theorem dX11_weep_66 : decode cX11_weep 66 = .ok (.aload_n 0, 1) := by decide +kernel
theorem dX11_weep_67 : decode cX11_weep 67 = .ok (.aload_n 0, 1) := by decide +kernel
theorem dX11_weep_68 : decode cX11_weep 68 = .ok (.getfield 44, 3) := by decide +kernel
theorem dX11_weep_71 : decode cX11_weep 71 = .ok (.iload_n 1, 1) := by decide +kernel
theorem dX11_weep_72 : decode cX11_weep 72 = .ok (.iaload, 1) := by decide +kernel
theorem dX11_weep_73 : decode cX11_weep 73 = .ok (.iload_n 2, 1) := by decide +kernel
theorem dX11_weep_74 : decode cX11_weep 74 = .ok (.invokevirtual 325, 3) := by decide +kernel
theorem dX11_weep_77 : decode cX11_weep 77 = .ok (.istore 4, 2) := by decide +kernel
theorem dX11_weep_79 : decode cX11_weep 79 = .ok (.aload_n 0, 1) := by decide +kernel
theorem dX11_weep_80 : decode cX11_weep 80 = .ok (.aload_n 0, 1) := by decide +kernel
theorem dX11_weep_81 : decode cX11_weep 81 = .ok (.getfield 44, 3) := by decide +kernel
theorem dX11_weep_84 : decode cX11_weep 84 = .ok (.iload_n 1, 1) := by decide +kernel
theorem dX11_weep_85 : decode cX11_weep 85 = .ok (.iaload, 1) := by decide +kernel
theorem dX11_weep_86 : decode cX11_weep 86 = .ok (.iload_n 1, 1) := by decide +kernel
theorem dX11_weep_87 : decode cX11_weep 87 = .ok (.iload_n 3, 1) := by decide +kernel
theorem dX11_weep_88 : decode cX11_weep 88 = .ok (.aload_n 0, 1) := by decide +kernel
theorem dX11_weep_89 : decode cX11_weep 89 = .ok (.getfield 53, 3) := by decide +kernel
theorem dX11_weep_92 : decode cX11_weep 92 = .ok (.iload_n 1, 1) := by decide +kernel
theorem dX11_weep_93 : decode cX11_weep 93 = .ok (.baload, 1) := by decide +kernel
theorem dX11_weep_94 : decode cX11_weep 94 = .ok (.iload_n 2, 1) := by decide +kernel
theorem dX11_weep_95 : decode cX11_weep 95 = .ok (.iload 4, 2) := by decide +kernel
theorem dX11_weep_97 : decode cX11_weep 97 = .ok (.invokevirtual 328, 3) := by decide +kernel
theorem dX11_weep_100 : decode cX11_weep 100 = .ok (.aload_n 0, 1) := by decide +kernel
theorem dX11_weep_101 : decode cX11_weep 101 = .ok (.getfield 69, 3) := by decide +kernel
theorem dX11_weep_104 : decode cX11_weep 104 = .ok (.aload_n 0, 1) := by decide +kernel
theorem dX11_weep_105 : decode cX11_weep 105 = .ok (.getfield 296, 3) := by decide +kernel
theorem dX11_weep_108 : decode cX11_weep 108 = .ok (.iload_n 1, 1) := by decide +kernel
theorem dX11_weep_109 : decode cX11_weep 109 = .ok (.iastore, 1) := by decide +kernel
theorem dX11_weep_110 : decode cX11_weep 110 = .ok (.aload_n 0, 1) := by decide +kernel
theorem dX11_weep_111 : decode cX11_weep 111 = .ok (.getfield 72, 3) := by decide +kernel
theorem dX11_weep_114 : decode cX11_weep 114 = .ok (.aload_n 0, 1) := by decide +kernel
theorem dX11_weep_115 : decode cX11_weep 115 = .ok (.getfield 296, 3) := by decide +kernel
theorem dX11_weep_118 : decode cX11_weep 118 = .ok (.aload_n 0, 1) := by decide +kernel
theorem dX11_weep_119 : decode cX11_weep 119 = .ok (.getfield 44, 3) := by decide +kernel
theorem dX11_weep_122 : decode cX11_weep 122 = .ok (.iload_n 1, 1) := by decide +kernel
theorem dX11_weep_123 : decode cX11_weep 123 = .ok (.iaload, 1) := by decide +kernel
theorem dX11_weep_124 : decode cX11_weep 124 = .ok (.iastore, 1) := by decide +kernel
theorem dX11_weep_125 : decode cX11_weep 125 = .ok (.aload_n 0, 1) := by decide +kernel
theorem dX11_weep_126 : decode cX11_weep 126 = .ok (.getfield 75, 3) := by decide +kernel
theorem dX11_weep_129 : decode cX11_weep 129 = .ok (.aload_n 0, 1) := by decide +kernel
theorem dX11_weep_130 : decode cX11_weep 130 = .ok (.getfield 296, 3) := by decide +kernel
theorem dX11_weep_133 : decode cX11_weep 133 = .ok (.iload_n 2, 1) := by decide +kernel
theorem dX11_weep_134 : decode cX11_weep 134 = .ok (.iastore, 1) := by decide +kernel
theorem dX11_weep_135 : decode cX11_weep 135 = .ok (.aload_n 0, 1) := by decide +kernel
theorem dX11_weep_136 : decode cX11_weep 136 = .ok (.getfield 78, 3) := by decide +kernel
theorem dX11_weep_139 : decode cX11_weep 139 = .ok (.aload_n 0, 1) := by decide +kernel
theorem dX11_weep_140 : decode cX11_weep 140 = .ok (.getfield 296, 3) := by decide +kernel
theorem dX11_weep_143 : decode cX11_weep 143 = .ok (.iload_n 3, 1) := by decide +kernel
theorem dX11_weep_144 : decode cX11_weep 144 = .ok (.iastore, 1) := by decide +kernel
theorem dX11_weep_145 : decode cX11_weep 145 = .ok (.aload_n 0, 1) := by decide +kernel
theorem dX11_weep_146 : decode cX11_weep 146 = .ok (.getfield 80, 3) := by decide +kernel
theorem dX11_weep_149 : decode cX11_weep 149 = .ok (.aload_n 0, 1) := by decide +kernel
theorem dX11_weep_150 : decode cX11_weep 150 = .ok (.getfield 296, 3) := by decide +kernel
theorem dX11_weep_153 : decode cX11_weep 153 = .ok (.iload 4, 2) := by decide +kernel
theorem dX11_weep_155 : decode cX11_weep 155 = .ok (.iastore, 1) := by decide +kernel
theorem dX11_weep_156 : decode cX11_weep 156 = .ok (.aload_n 0, 1) := by decide +kernel
theorem dX11_weep_157 : decode cX11_weep 157 = .ok (.getfield 83, 3) := by decide +kernel
theorem dX11_weep_160 : decode cX11_weep 160 = .ok (.aload_n 0, 1) := by decide +kernel
theorem dX11_weep_161 : decode cX11_weep 161 = .ok (.getfield 296, 3) := by decide +kernel
theorem dX11_weep_164 : decode cX11_weep 164 = .ok (.aload_n 0, 1) := by decide +kernel
theorem dX11_weep_165 : decode cX11_weep 165 = .ok (.invokevirtual 331, 3) := by decide +kernel
theorem dX11_weep_168 : decode cX11_weep 168 = .ok (.bastore, 1) := by decide +kernel
theorem dX11_weep_169 : decode cX11_weep 169 = .ok (.aload_n 0, 1) := by decide +kernel
theorem dX11_weep_170 : decode cX11_weep 170 = .ok (.dup, 1) := by decide +kernel
theorem dX11_weep_171 : decode cX11_weep 171 = .ok (.getfield 296, 3) := by decide +kernel
theorem dX11_weep_174 : decode cX11_weep 174 = .ok (.iconst 1, 1) := by decide +kernel
theorem dX11_weep_175 : decode cX11_weep 175 = .ok (.iadd, 1) := by decide +kernel
theorem dX11_weep_176 : decode cX11_weep 176 = .ok (.putfield 296, 3) := by decide +kernel
theorem dX11_weep_179 : decode cX11_weep 179 = .ok (.aload_n 0, 1) := by decide +kernel
theorem dX11_weep_180 : decode cX11_weep 180 = .ok (.getfield 296, 3) := by decide +kernel
theorem dX11_weep_183 : decode cX11_weep 183 = .ok (.ireturn, 1) := by decide +kernel
theorem dX11_tears_0 : decode cX11_tears 0 = .ok (.aload_n 0, 1) := by decide +kernel
theorem dX11_tears_1 : decode cX11_tears 1 = .ok (.iconst 0, 1) := by decide +kernel
theorem dX11_tears_2 : decode cX11_tears 2 = .ok (.putfield 160, 3) := by decide +kernel
theorem dX11_tears_5 : decode cX11_tears 5 = .ok (.iload_n 1, 1) := by decide +kernel
theorem dX11_tears_6 : decode cX11_tears 6 = .ok (.iconst 0, 1) := by decide +kernel
theorem dX11_tears_7 : decode cX11_tears 7 = .ok (.aload_n 0, 1) := by decide +kernel
theorem dX11_tears_8 : decode cX11_tears 8 = .ok (.getfield 296, 3) := by decide +kernel
theorem dX11_tears_11 : decode cX11_tears 11 = .ok (.iconst 1, 1) := by decide +kernel
theorem dX11_tears_12 : decode cX11_tears 12 = .ok (.isub, 1) := by decide +kernel
theorem dX11_tears_13 : decode cX11_tears 13 = .ok (.invokestatic 163, 3) := by decide +kernel
theorem dX11_tears_16 : decode cX11_tears 16 = .ok (.ifCond .ne 9, 3) := by decide +kernel
theorem dX11_tears_19 : decode cX11_tears 19 = .ok (.aload_n 0, 1) := by decide +kernel
theorem dX11_tears_20 : decode cX11_tears 20 = .ok (.iconst 1, 1) := by decide +kernel
theorem dX11_tears_21 : decode cX11_tears 21 = .ok (.invokevirtual 286, 3) := by decide +kernel
theorem dX11_tears_24 : decode cX11_tears 24 = .ok (.ireturn, 1) := by decide +kernel
theorem dX11_tears_25 : decode cX11_tears 25 = .ok (.iload_n 2, 1) := by decide +kernel
theorem dX11_tears_26 : decode cX11_tears 26 = .ok (.tableswitch 88 0 5 #[38, 45, 52, 59, 66, 73], 38) := by decide +kernel
theorem dX11_tears_64 : decode cX11_tears 64 = .ok (.aload_n 0, 1) := by decide +kernel
theorem dX11_tears_65 : decode cX11_tears 65 = .ok (.getfield 69, 3) := by decide +kernel
theorem dX11_tears_68 : decode cX11_tears 68 = .ok (.iload_n 1, 1) := by decide +kernel
theorem dX11_tears_69 : decode cX11_tears 69 = .ok (.iaload, 1) := by decide +kernel
theorem dX11_tears_70 : decode cX11_tears 70 = .ok (.ireturn, 1) := by decide +kernel
theorem dX11_tears_71 : decode cX11_tears 71 = .ok (.aload_n 0, 1) := by decide +kernel
theorem dX11_tears_72 : decode cX11_tears 72 = .ok (.getfield 72, 3) := by decide +kernel
theorem dX11_tears_75 : decode cX11_tears 75 = .ok (.iload_n 1, 1) := by decide +kernel
theorem dX11_tears_76 : decode cX11_tears 76 = .ok (.iaload, 1) := by decide +kernel
theorem dX11_tears_77 : decode cX11_tears 77 = .ok (.ireturn, 1) := by decide +kernel
theorem dX11_tears_78 : decode cX11_tears 78 = .ok (.aload_n 0, 1) := by decide +kernel
theorem dX11_tears_79 : decode cX11_tears 79 = .ok (.getfield 75, 3) := by decide +kernel
theorem dX11_tears_82 : decode cX11_tears 82 = .ok (.iload_n 1, 1) := by decide +kernel
theorem dX11_tears_83 : decode cX11_tears 83 = .ok (.iaload, 1) := by decide +kernel
theorem dX11_tears_84 : decode cX11_tears 84 = .ok (.ireturn, 1) := by decide +kernel
theorem dX11_tears_85 : decode cX11_tears 85 = .ok (.aload_n 0, 1) := by decide +kernel
theorem dX11_tears_86 : decode cX11_tears 86 = .ok (.getfield 78, 3) := by decide +kernel
theorem dX11_tears_89 : decode cX11_tears 89 = .ok (.iload_n 1, 1) := by decide +kernel
theorem dX11_tears_90 : decode cX11_tears 90 = .ok (.iaload, 1) := by decide +kernel
theorem dX11_tears_91 : decode cX11_tears 91 = .ok (.ireturn, 1) := by decide +kernel
theorem dX11_tears_92 : decode cX11_tears 92 = .ok (.aload_n 0, 1) := by decide +kernel
theorem dX11_tears_93 : decode cX11_tears 93 = .ok (.getfield 80, 3) := by decide +kernel
theorem dX11_tears_96 : decode cX11_tears 96 = .ok (.iload_n 1, 1) := by decide +kernel
theorem dX11_tears_97 : decode cX11_tears 97 = .ok (.iaload, 1) := by decide +kernel
theorem dX11_tears_98 : decode cX11_tears 98 = .ok (.ireturn, 1) := by decide +kernel
theorem dX11_tears_99 : decode cX11_tears 99 = .ok (.aload_n 0, 1) := by decide +kernel
theorem dX11_tears_100 : decode cX11_tears 100 = .ok (.getfield 83, 3) := by decide +kernel
theorem dX11_tears_103 : decode cX11_tears 103 = .ok (.iload_n 1, 1) := by decide +kernel
theorem dX11_tears_104 : decode cX11_tears 104 = .ok (.baload, 1) := by decide +kernel
theorem dX11_tears_105 : decode cX11_tears 105 = .ok (.ifCond .eq 7, 3) := by decide +kernel
theorem dX11_tears_108 : decode cX11_tears 108 = .ok (.iconst 1, 1) := by decide +kernel
theorem dX11_tears_109 : decode cX11_tears 109 = .ok (.goto 4, 3) := by decide +kernel
theorem dX11_tears_112 : decode cX11_tears 112 = .ok (.iconst 0, 1) := by decide +kernel
theorem dX11_tears_113 : decode cX11_tears 113 = .ok (.ireturn, 1) := by decide +kernel
theorem dX11_tears_114 : decode cX11_tears 114 = .ok (.aload_n 0, 1) := by decide +kernel
theorem dX11_tears_115 : decode cX11_tears 115 = .ok (.iconst 1, 1) := by decide +kernel
theorem dX11_tears_116 : decode cX11_tears 116 = .ok (.invokevirtual 286, 3) := by decide +kernel
theorem dX11_tears_119 : decode cX11_tears 119 = .ok (.ireturn, 1) := by decide +kernel
theorem dX11_calledBy_0 : decode cX11_calledBy 0 = .ok (.aload_n 0, 1) := by decide +kernel
theorem dX11_calledBy_1 : decode cX11_calledBy 1 = .ok (.getfield 296, 3) := by decide +kernel
theorem dX11_calledBy_4 : decode cX11_calledBy 4 = .ok (.iconst 1, 1) := by decide +kernel
theorem dX11_calledBy_5 : decode cX11_calledBy 5 = .ok (.isub, 1) := by decide +kernel
theorem dX11_calledBy_6 : decode cX11_calledBy 6 = .ok (.istore_n 3, 1) := by decide +kernel
theorem dX11_calledBy_7 : decode cX11_calledBy 7 = .ok (.iload_n 3, 1) := by decide +kernel
theorem dX11_calledBy_8 : decode cX11_calledBy 8 = .ok (.ifCond .lt 40, 3) := by decide +kernel
theorem dX11_calledBy_11 : decode cX11_calledBy 11 = .ok (.aload_n 0, 1) := by decide +kernel
theorem dX11_calledBy_12 : decode cX11_calledBy 12 = .ok (.getfield 83, 3) := by decide +kernel
theorem dX11_calledBy_15 : decode cX11_calledBy 15 = .ok (.iload_n 3, 1) := by decide +kernel
theorem dX11_calledBy_16 : decode cX11_calledBy 16 = .ok (.baload, 1) := by decide +kernel
theorem dX11_calledBy_17 : decode cX11_calledBy 17 = .ok (.ifCond .eq 25, 3) := by decide +kernel
theorem dX11_calledBy_20 : decode cX11_calledBy 20 = .ok (.aload_n 0, 1) := by decide +kernel
theorem dX11_calledBy_21 : decode cX11_calledBy 21 = .ok (.getfield 72, 3) := by decide +kernel
theorem dX11_calledBy_24 : decode cX11_calledBy 24 = .ok (.iload_n 3, 1) := by decide +kernel
theorem dX11_calledBy_25 : decode cX11_calledBy 25 = .ok (.iaload, 1) := by decide +kernel
theorem dX11_calledBy_26 : decode cX11_calledBy 26 = .ok (.iload_n 1, 1) := by decide +kernel
theorem dX11_calledBy_27 : decode cX11_calledBy 27 = .ok (.if_icmp .ne 15, 3) := by decide +kernel
theorem dX11_calledBy_30 : decode cX11_calledBy 30 = .ok (.aload_n 0, 1) := by decide +kernel
theorem dX11_calledBy_31 : decode cX11_calledBy 31 = .ok (.getfield 75, 3) := by decide +kernel
theorem dX11_calledBy_34 : decode cX11_calledBy 34 = .ok (.iload_n 3, 1) := by decide +kernel
theorem dX11_calledBy_35 : decode cX11_calledBy 35 = .ok (.iaload, 1) := by decide +kernel
theorem dX11_calledBy_36 : decode cX11_calledBy 36 = .ok (.iload_n 2, 1) := by decide +kernel
theorem dX11_calledBy_37 : decode cX11_calledBy 37 = .ok (.if_icmp .gt 5, 3) := by decide +kernel
theorem dX11_calledBy_40 : decode cX11_calledBy 40 = .ok (.iload_n 3, 1) := by decide +kernel
theorem dX11_calledBy_41 : decode cX11_calledBy 41 = .ok (.ireturn, 1) := by decide +kernel
theorem dX11_calledBy_42 : decode cX11_calledBy 42 = .ok (.iinc 3 (-1), 3) := by decide +kernel
theorem dX11_calledBy_45 : decode cX11_calledBy 45 = .ok (.goto (-38), 3) := by decide +kernel
theorem dX11_calledBy_48 : decode cX11_calledBy 48 = .ok (.iconst (-1), 1) := by decide +kernel
theorem dX11_calledBy_49 : decode cX11_calledBy 49 = .ok (.ireturn, 1) := by decide +kernel
theorem dX11_nameOf_0 : decode cX11_nameOf 0 = .ok (.aload_n 0, 1) := by decide +kernel
theorem dX11_nameOf_1 : decode cX11_nameOf 1 = .ok (.iload_n 1, 1) := by decide +kernel
theorem dX11_nameOf_2 : decode cX11_nameOf 2 = .ok (.iload_n 2, 1) := by decide +kernel
theorem dX11_nameOf_3 : decode cX11_nameOf 3 = .ok (.invokevirtual 335, 3) := by decide +kernel
theorem dX11_nameOf_6 : decode cX11_nameOf 6 = .ok (.istore_n 3, 1) := by decide +kernel
theorem dX11_nameOf_7 : decode cX11_nameOf 7 = .ok (.iload_n 3, 1) := by decide +kernel
theorem dX11_nameOf_8 : decode cX11_nameOf 8 = .ok (.iconst (-1), 1) := by decide +kernel
theorem dX11_nameOf_9 : decode cX11_nameOf 9 = .ok (.if_icmp .ne 7, 3) := by decide +kernel
theorem dX11_nameOf_12 : decode cX11_nameOf 12 = .ok (.iconst (-1), 1) := by decide +kernel
theorem dX11_nameOf_13 : decode cX11_nameOf 13 = .ok (.goto 9, 3) := by decide +kernel
theorem dX11_nameOf_16 : decode cX11_nameOf 16 = .ok (.aload_n 0, 1) := by decide +kernel
theorem dX11_nameOf_17 : decode cX11_nameOf 17 = .ok (.getfield 69, 3) := by decide +kernel
theorem dX11_nameOf_20 : decode cX11_nameOf 20 = .ok (.iload_n 3, 1) := by decide +kernel
theorem dX11_nameOf_21 : decode cX11_nameOf 21 = .ok (.iaload, 1) := by decide +kernel
theorem dX11_nameOf_22 : decode cX11_nameOf 22 = .ok (.ireturn, 1) := by decide +kernel
theorem dX11_name_0 : decode cX11_name 0 = .ok (.aload_n 0, 1) := by decide +kernel
theorem dX11_name_1 : decode cX11_name 1 = .ok (.iconst 0, 1) := by decide +kernel
theorem dX11_name_2 : decode cX11_name 2 = .ok (.putfield 160, 3) := by decide +kernel
theorem dX11_name_5 : decode cX11_name 5 = .ok (.aload_n 0, 1) := by decide +kernel
theorem dX11_name_6 : decode cX11_name 6 = .ok (.iload_n 1, 1) := by decide +kernel
theorem dX11_name_7 : decode cX11_name 7 = .ok (.invokevirtual 315, 3) := by decide +kernel
theorem dX11_name_10 : decode cX11_name 10 = .ok (.ifCond .eq 19, 3) := by decide +kernel
theorem dX11_name_13 : decode cX11_name 13 = .ok (.iload_n 2, 1) := by decide +kernel
theorem dX11_name_14 : decode cX11_name 14 = .ok (.invokestatic 338, 3) := by decide +kernel
theorem dX11_name_17 : decode cX11_name 17 = .ok (.ifCond .eq 12, 3) := by decide +kernel
theorem dX11_name_20 : decode cX11_name 20 = .ok (.aload_n 0, 1) := by decide +kernel
theorem dX11_name_21 : decode cX11_name 21 = .ok (.iload_n 1, 1) := by decide +kernel
theorem dX11_name_22 : decode cX11_name 22 = .ok (.iload_n 2, 1) := by decide +kernel
theorem dX11_name_23 : decode cX11_name 23 = .ok (.invokevirtual 341, 3) := by decide +kernel
theorem dX11_name_26 : decode cX11_name 26 = .ok (.goto 8, 3) := by decide +kernel
theorem dX11_name_29 : decode cX11_name 29 = .ok (.aload_n 0, 1) := by decide +kernel
theorem dX11_name_30 : decode cX11_name 30 = .ok (.iconst 1, 1) := by decide +kernel
theorem dX11_name_31 : decode cX11_name 31 = .ok (.invokevirtual 286, 3) := by decide +kernel
theorem dX11_name_34 : decode cX11_name 34 = .ok (.ireturn, 1) := by decide +kernel
theorem dX11_housesOf_0 : decode cX11_housesOf 0 = .ok (.iconst 0, 1) := by decide +kernel
theorem dX11_housesOf_1 : decode cX11_housesOf 1 = .ok (.istore_n 3, 1) := by decide +kernel
theorem dX11_housesOf_2 : decode cX11_housesOf 2 = .ok (.iconst 0, 1) := by decide +kernel
theorem dX11_housesOf_3 : decode cX11_housesOf 3 = .ok (.istore 4, 2) := by decide +kernel
theorem dX11_housesOf_5 : decode cX11_housesOf 5 = .ok (.iload 4, 2) := by decide +kernel
theorem dX11_housesOf_7 : decode cX11_housesOf 7 = .ok (.aload_n 0, 1) := by decide +kernel
theorem dX11_housesOf_8 : decode cX11_housesOf 8 = .ok (.getfield 40, 3) := by decide +kernel
theorem dX11_housesOf_11 : decode cX11_housesOf 11 = .ok (.iconst 0, 1) := by decide +kernel
theorem dX11_housesOf_12 : decode cX11_housesOf 12 = .ok (.iaload, 1) := by decide +kernel
theorem dX11_housesOf_13 : decode cX11_housesOf 13 = .ok (.if_icmp .ge 31, 3) := by decide +kernel
theorem dX11_housesOf_16 : decode cX11_housesOf 16 = .ok (.iload_n 3, 1) := by decide +kernel
theorem dX11_housesOf_17 : decode cX11_housesOf 17 = .ok (.aload_n 0, 1) := by decide +kernel
theorem dX11_housesOf_18 : decode cX11_housesOf 18 = .ok (.iload 4, 2) := by decide +kernel
theorem dX11_housesOf_20 : decode cX11_housesOf 20 = .ok (.iload_n 2, 1) := by decide +kernel
theorem dX11_housesOf_21 : decode cX11_housesOf 21 = .ok (.invokevirtual 341, 3) := by decide +kernel
theorem dX11_housesOf_24 : decode cX11_housesOf 24 = .ok (.iload_n 1, 1) := by decide +kernel
theorem dX11_housesOf_25 : decode cX11_housesOf 25 = .ok (.if_icmp .ne 10, 3) := by decide +kernel
theorem dX11_housesOf_28 : decode cX11_housesOf 28 = .ok (.iconst 1, 1) := by decide +kernel
theorem dX11_housesOf_29 : decode cX11_housesOf 29 = .ok (.iload 4, 2) := by decide +kernel
theorem dX11_housesOf_31 : decode cX11_housesOf 31 = .ok (.ishl, 1) := by decide +kernel
theorem dX11_housesOf_32 : decode cX11_housesOf 32 = .ok (.goto 4, 3) := by decide +kernel
theorem dX11_housesOf_35 : decode cX11_housesOf 35 = .ok (.iconst 0, 1) := by decide +kernel
theorem dX11_housesOf_36 : decode cX11_housesOf 36 = .ok (.ior, 1) := by decide +kernel
theorem dX11_housesOf_37 : decode cX11_housesOf 37 = .ok (.istore_n 3, 1) := by decide +kernel
theorem dX11_housesOf_38 : decode cX11_housesOf 38 = .ok (.iinc 4 1, 3) := by decide +kernel
theorem dX11_housesOf_41 : decode cX11_housesOf 41 = .ok (.goto (-36), 3) := by decide +kernel
theorem dX11_housesOf_44 : decode cX11_housesOf 44 = .ok (.iload_n 3, 1) := by decide +kernel
theorem dX11_housesOf_45 : decode cX11_housesOf 45 = .ok (.ireturn, 1) := by decide +kernel
theorem dX11_houses_0 : decode cX11_houses 0 = .ok (.aload_n 0, 1) := by decide +kernel
theorem dX11_houses_1 : decode cX11_houses 1 = .ok (.iconst 0, 1) := by decide +kernel
theorem dX11_houses_2 : decode cX11_houses 2 = .ok (.putfield 160, 3) := by decide +kernel
theorem dX11_houses_5 : decode cX11_houses 5 = .ok (.aload_n 0, 1) := by decide +kernel
theorem dX11_houses_6 : decode cX11_houses 6 = .ok (.iload_n 1, 1) := by decide +kernel
theorem dX11_houses_7 : decode cX11_houses 7 = .ok (.invokevirtual 312, 3) := by decide +kernel
theorem dX11_houses_10 : decode cX11_houses 10 = .ok (.ifCond .eq 19, 3) := by decide +kernel
theorem dX11_houses_13 : decode cX11_houses 13 = .ok (.iload_n 2, 1) := by decide +kernel
theorem dX11_houses_14 : decode cX11_houses 14 = .ok (.invokestatic 338, 3) := by decide +kernel
theorem dX11_houses_17 : decode cX11_houses 17 = .ok (.ifCond .eq 12, 3) := by decide +kernel
theorem dX11_houses_20 : decode cX11_houses 20 = .ok (.aload_n 0, 1) := by decide +kernel
theorem dX11_houses_21 : decode cX11_houses 21 = .ok (.iload_n 1, 1) := by decide +kernel
theorem dX11_houses_22 : decode cX11_houses 22 = .ok (.iload_n 2, 1) := by decide +kernel
theorem dX11_houses_23 : decode cX11_houses 23 = .ok (.invokevirtual 344, 3) := by decide +kernel
theorem dX11_houses_26 : decode cX11_houses 26 = .ok (.goto 8, 3) := by decide +kernel
theorem dX11_houses_29 : decode cX11_houses 29 = .ok (.aload_n 0, 1) := by decide +kernel
theorem dX11_houses_30 : decode cX11_houses 30 = .ok (.iconst 1, 1) := by decide +kernel
theorem dX11_houses_31 : decode cX11_houses 31 = .ok (.invokevirtual 286, 3) := by decide +kernel
theorem dX11_houses_34 : decode cX11_houses 34 = .ok (.ireturn, 1) := by decide +kernel
theorem dX11_bitsOf_0 : decode cX11_bitsOf 0 = .ok (.iconst 0, 1) := by decide +kernel
theorem dX11_bitsOf_1 : decode cX11_bitsOf 1 = .ok (.istore_n 1, 1) := by decide +kernel
theorem dX11_bitsOf_2 : decode cX11_bitsOf 2 = .ok (.iload_n 0, 1) := by decide +kernel
theorem dX11_bitsOf_3 : decode cX11_bitsOf 3 = .ok (.istore_n 2, 1) := by decide +kernel
theorem dX11_bitsOf_4 : decode cX11_bitsOf 4 = .ok (.iload_n 2, 1) := by decide +kernel
theorem dX11_bitsOf_5 : decode cX11_bitsOf 5 = .ok (.ifCond .eq 15, 3) := by decide +kernel
theorem dX11_bitsOf_8 : decode cX11_bitsOf 8 = .ok (.iinc 1 1, 3) := by decide +kernel
theorem dX11_bitsOf_11 : decode cX11_bitsOf 11 = .ok (.iload_n 2, 1) := by decide +kernel
theorem dX11_bitsOf_12 : decode cX11_bitsOf 12 = .ok (.iload_n 2, 1) := by decide +kernel
theorem dX11_bitsOf_13 : decode cX11_bitsOf 13 = .ok (.iconst 1, 1) := by decide +kernel
theorem dX11_bitsOf_14 : decode cX11_bitsOf 14 = .ok (.isub, 1) := by decide +kernel
theorem dX11_bitsOf_15 : decode cX11_bitsOf 15 = .ok (.iand, 1) := by decide +kernel
theorem dX11_bitsOf_16 : decode cX11_bitsOf 16 = .ok (.istore_n 2, 1) := by decide +kernel
theorem dX11_bitsOf_17 : decode cX11_bitsOf 17 = .ok (.goto (-13), 3) := by decide +kernel
theorem dX11_bitsOf_20 : decode cX11_bitsOf 20 = .ok (.iload_n 1, 1) := by decide +kernel
theorem dX11_bitsOf_21 : decode cX11_bitsOf 21 = .ok (.ireturn, 1) := by decide +kernel
theorem dX11_firstOf_0 : decode cX11_firstOf 0 = .ok (.iconst 0, 1) := by decide +kernel
theorem dX11_firstOf_1 : decode cX11_firstOf 1 = .ok (.istore_n 1, 1) := by decide +kernel
theorem dX11_firstOf_2 : decode cX11_firstOf 2 = .ok (.iload_n 0, 1) := by decide +kernel
theorem dX11_firstOf_3 : decode cX11_firstOf 3 = .ok (.iload_n 1, 1) := by decide +kernel
theorem dX11_firstOf_4 : decode cX11_firstOf 4 = .ok (.ishr, 1) := by decide +kernel
theorem dX11_firstOf_5 : decode cX11_firstOf 5 = .ok (.iconst 1, 1) := by decide +kernel
theorem dX11_firstOf_6 : decode cX11_firstOf 6 = .ok (.iand, 1) := by decide +kernel
theorem dX11_firstOf_7 : decode cX11_firstOf 7 = .ok (.ifCond .ne 9, 3) := by decide +kernel
theorem dX11_firstOf_10 : decode cX11_firstOf 10 = .ok (.iinc 1 1, 3) := by decide +kernel
theorem dX11_firstOf_13 : decode cX11_firstOf 13 = .ok (.goto (-11), 3) := by decide +kernel
theorem dX11_firstOf_16 : decode cX11_firstOf 16 = .ok (.iload_n 1, 1) := by decide +kernel
theorem dX11_firstOf_17 : decode cX11_firstOf 17 = .ok (.ireturn, 1) := by decide +kernel
theorem dX11_letter_0 : decode cX11_letter 0 = .ok (.aload_n 0, 1) := by decide +kernel
theorem dX11_letter_1 : decode cX11_letter 1 = .ok (.iconst 0, 1) := by decide +kernel
theorem dX11_letter_2 : decode cX11_letter 2 = .ok (.putfield 160, 3) := by decide +kernel
theorem dX11_letter_5 : decode cX11_letter 5 = .ok (.aload_n 0, 1) := by decide +kernel
theorem dX11_letter_6 : decode cX11_letter 6 = .ok (.iload_n 1, 1) := by decide +kernel
theorem dX11_letter_7 : decode cX11_letter 7 = .ok (.invokevirtual 312, 3) := by decide +kernel
theorem dX11_letter_10 : decode cX11_letter 10 = .ok (.ifCond .eq 10, 3) := by decide +kernel
theorem dX11_letter_13 : decode cX11_letter 13 = .ok (.iload_n 2, 1) := by decide +kernel
theorem dX11_letter_14 : decode cX11_letter 14 = .ok (.invokestatic 338, 3) := by decide +kernel
theorem dX11_letter_17 : decode cX11_letter 17 = .ok (.ifCond .ne 9, 3) := by decide +kernel
theorem dX11_letter_20 : decode cX11_letter 20 = .ok (.aload_n 0, 1) := by decide +kernel
theorem dX11_letter_21 : decode cX11_letter 21 = .ok (.iconst 1, 1) := by decide +kernel
theorem dX11_letter_22 : decode cX11_letter 22 = .ok (.invokevirtual 286, 3) := by decide +kernel
theorem dX11_letter_25 : decode cX11_letter 25 = .ok (.ireturn, 1) := by decide +kernel
theorem dX11_letter_26 : decode cX11_letter 26 = .ok (.aload_n 0, 1) := by decide +kernel
theorem dX11_letter_27 : decode cX11_letter 27 = .ok (.getfield 299, 3) := by decide +kernel
theorem dX11_letter_30 : decode cX11_letter 30 = .ok (.bipush 40, 2) := by decide +kernel
theorem dX11_letter_32 : decode cX11_letter 32 = .ok (.if_icmp .ne 15, 3) := by decide +kernel
theorem dX11_letter_35 : decode cX11_letter 35 = .ok (.aload_n 0, 1) := by decide +kernel
theorem dX11_letter_36 : decode cX11_letter 36 = .ok (.getfield 66, 3) := by decide +kernel
theorem dX11_letter_39 : decode cX11_letter 39 = .ok (.iconst 2, 1) := by decide +kernel
theorem dX11_letter_40 : decode cX11_letter 40 = .ok (.dup2, 1) := by decide +kernel
theorem dX11_letter_41 : decode cX11_letter 41 = .ok (.iaload, 1) := by decide +kernel
theorem dX11_letter_42 : decode cX11_letter 42 = .ok (.iconst 1, 1) := by decide +kernel
theorem dX11_letter_43 : decode cX11_letter 43 = .ok (.iadd, 1) := by decide +kernel
theorem dX11_letter_44 : decode cX11_letter 44 = .ok (.iastore, 1) := by decide +kernel
theorem dX11_letter_45 : decode cX11_letter 45 = .ok (.iconst (-1), 1) := by decide +kernel
theorem dX11_letter_46 : decode cX11_letter 46 = .ok (.ireturn, 1) := by decide +kernel
theorem dX11_letter_47 : decode cX11_letter 47 = .ok (.aload_n 0, 1) := by decide +kernel
theorem dX11_letter_48 : decode cX11_letter 48 = .ok (.getfield 86, 3) := by decide +kernel
theorem dX11_letter_51 : decode cX11_letter 51 = .ok (.aload_n 0, 1) := by decide +kernel
theorem dX11_letter_52 : decode cX11_letter 52 = .ok (.getfield 299, 3) := by decide +kernel
theorem dX11_letter_55 : decode cX11_letter 55 = .ok (.iload_n 1, 1) := by decide +kernel
theorem dX11_letter_56 : decode cX11_letter 56 = .ok (.iastore, 1) := by decide +kernel
theorem dX11_letter_57 : decode cX11_letter 57 = .ok (.aload_n 0, 1) := by decide +kernel
theorem dX11_letter_58 : decode cX11_letter 58 = .ok (.getfield 89, 3) := by decide +kernel
theorem dX11_letter_61 : decode cX11_letter 61 = .ok (.aload_n 0, 1) := by decide +kernel
theorem dX11_letter_62 : decode cX11_letter 62 = .ok (.getfield 299, 3) := by decide +kernel
theorem dX11_letter_65 : decode cX11_letter 65 = .ok (.iload_n 2, 1) := by decide +kernel
theorem dX11_letter_66 : decode cX11_letter 66 = .ok (.iastore, 1) := by decide +kernel
theorem dX11_letter_67 : decode cX11_letter 67 = .ok (.aload_n 0, 1) := by decide +kernel
theorem dX11_letter_68 : decode cX11_letter 68 = .ok (.dup, 1) := by decide +kernel
theorem dX11_letter_69 : decode cX11_letter 69 = .ok (.getfield 299, 3) := by decide +kernel
theorem dX11_letter_72 : decode cX11_letter 72 = .ok (.iconst 1, 1) := by decide +kernel
theorem dX11_letter_73 : decode cX11_letter 73 = .ok (.iadd, 1) := by decide +kernel
theorem dX11_letter_74 : decode cX11_letter 74 = .ok (.putfield 299, 3) := by decide +kernel
theorem dX11_letter_77 : decode cX11_letter 77 = .ok (.aload_n 0, 1) := by decide +kernel
theorem dX11_letter_78 : decode cX11_letter 78 = .ok (.getfield 299, 3) := by decide +kernel
theorem dX11_letter_81 : decode cX11_letter 81 = .ok (.iconst 1, 1) := by decide +kernel
theorem dX11_letter_82 : decode cX11_letter 82 = .ok (.isub, 1) := by decide +kernel
theorem dX11_letter_83 : decode cX11_letter 83 = .ok (.ireturn, 1) := by decide +kernel
theorem dX11_meant_0 : decode cX11_meant 0 = .ok (.aload_n 0, 1) := by decide +kernel
theorem dX11_meant_1 : decode cX11_meant 1 = .ok (.aload_n 0, 1) := by decide +kernel
theorem dX11_meant_2 : decode cX11_meant 2 = .ok (.getfield 86, 3) := by decide +kernel
theorem dX11_meant_5 : decode cX11_meant 5 = .ok (.iload_n 1, 1) := by decide +kernel
theorem dX11_meant_6 : decode cX11_meant 6 = .ok (.iaload, 1) := by decide +kernel
theorem dX11_meant_7 : decode cX11_meant 7 = .ok (.aload_n 0, 1) := by decide +kernel
theorem dX11_meant_8 : decode cX11_meant 8 = .ok (.getfield 89, 3) := by decide +kernel
theorem dX11_meant_11 : decode cX11_meant 11 = .ok (.iload_n 1, 1) := by decide +kernel
theorem dX11_meant_12 : decode cX11_meant 12 = .ok (.iaload, 1) := by decide +kernel
theorem dX11_meant_13 : decode cX11_meant 13 = .ok (.invokevirtual 344, 3) := by decide +kernel
theorem dX11_meant_16 : decode cX11_meant 16 = .ok (.istore_n 2, 1) := by decide +kernel
theorem dX11_meant_17 : decode cX11_meant 17 = .ok (.iload_n 2, 1) := by decide +kernel
theorem dX11_meant_18 : decode cX11_meant 18 = .ok (.ifCond .ne 7, 3) := by decide +kernel
theorem dX11_meant_21 : decode cX11_meant 21 = .ok (.iconst (-1), 1) := by decide +kernel
theorem dX11_meant_22 : decode cX11_meant 22 = .ok (.goto 20, 3) := by decide +kernel
theorem dX11_meant_25 : decode cX11_meant 25 = .ok (.iload_n 2, 1) := by decide +kernel
theorem dX11_meant_26 : decode cX11_meant 26 = .ok (.invokestatic 347, 3) := by decide +kernel
theorem dX11_meant_29 : decode cX11_meant 29 = .ok (.iconst 1, 1) := by decide +kernel
theorem dX11_meant_30 : decode cX11_meant 30 = .ok (.if_icmp .le 8, 3) := by decide +kernel
theorem dX11_meant_33 : decode cX11_meant 33 = .ok (.bipush (-2), 2) := by decide +kernel
theorem dX11_meant_35 : decode cX11_meant 35 = .ok (.goto 7, 3) := by decide +kernel
theorem dX11_meant_38 : decode cX11_meant 38 = .ok (.iload_n 2, 1) := by decide +kernel
theorem dX11_meant_39 : decode cX11_meant 39 = .ok (.invokestatic 350, 3) := by decide +kernel
theorem dX11_meant_42 : decode cX11_meant 42 = .ok (.ireturn, 1) := by decide +kernel
theorem dX11_carry_0 : decode cX11_carry 0 = .ok (.aload_n 0, 1) := by decide +kernel
theorem dX11_carry_1 : decode cX11_carry 1 = .ok (.getfield 89, 3) := by decide +kernel
theorem dX11_carry_4 : decode cX11_carry 4 = .ok (.iload_n 1, 1) := by decide +kernel
theorem dX11_carry_5 : decode cX11_carry 5 = .ok (.iaload, 1) := by decide +kernel
theorem dX11_carry_6 : decode cX11_carry 6 = .ok (.bipush 24, 2) := by decide +kernel
theorem dX11_carry_8 : decode cX11_carry 8 = .ok (.idiv, 1) := by decide +kernel
theorem dX11_carry_9 : decode cX11_carry 9 = .ok (.istore_n 2, 1) := by decide +kernel
theorem dX11_carry_10 : decode cX11_carry 10 = .ok (.aload_n 0, 1) := by decide +kernel
theorem dX11_carry_11 : decode cX11_carry 11 = .ok (.getfield 89, 3) := by decide +kernel
theorem dX11_carry_14 : decode cX11_carry 14 = .ok (.iload_n 1, 1) := by decide +kernel
theorem dX11_carry_15 : decode cX11_carry 15 = .ok (.iaload, 1) := by decide +kernel
theorem dX11_carry_16 : decode cX11_carry 16 = .ok (.bipush 24, 2) := by decide +kernel
theorem dX11_carry_18 : decode cX11_carry 18 = .ok (.irem, 1) := by decide +kernel
theorem dX11_carry_19 : decode cX11_carry 19 = .ok (.bipush 6, 2) := by decide +kernel
theorem dX11_carry_21 : decode cX11_carry 21 = .ok (.if_icmp .lt 6, 3) := by decide +kernel
theorem dX11_carry_24 : decode cX11_carry 24 = .ok (.iinc 2 1, 3) := by decide +kernel
theorem dX11_carry_27 : decode cX11_carry 27 = .ok (.iconst 0, 1) := by decide +kernel
theorem dX11_carry_28 : decode cX11_carry 28 = .ok (.istore_n 3, 1) := by decide +kernel
theorem dX11_carry_29 : decode cX11_carry 29 = .ok (.aload_n 0, 1) := by decide +kernel
theorem dX11_carry_30 : decode cX11_carry 30 = .ok (.iconst (-1), 1) := by decide +kernel
theorem dX11_carry_31 : decode cX11_carry 31 = .ok (.putfield 353, 3) := by decide +kernel
theorem dX11_carry_34 : decode cX11_carry 34 = .ok (.aload_n 0, 1) := by decide +kernel
theorem dX11_carry_35 : decode cX11_carry 35 = .ok (.iconst (-1), 1) := by decide +kernel
theorem dX11_carry_36 : decode cX11_carry 36 = .ok (.putfield 356, 3) := by decide +kernel
theorem dX11_carry_39 : decode cX11_carry 39 = .ok (.iconst 0, 1) := by decide +kernel
theorem dX11_carry_40 : decode cX11_carry 40 = .ok (.istore 4, 2) := by decide +kernel
theorem dX11_carry_42 : decode cX11_carry 42 = .ok (.iload 4, 2) := by decide +kernel
theorem dX11_carry_44 : decode cX11_carry 44 = .ok (.bipush 30, 2) := by decide +kernel
theorem dX11_carry_46 : decode cX11_carry 46 = .ok (.if_icmp .ge 88, 3) := by decide +kernel
theorem dX11_carry_49 : decode cX11_carry 49 = .ok (.aload_n 0, 1) := by decide +kernel
theorem dX11_carry_50 : decode cX11_carry 50 = .ok (.aload_n 0, 1) := by decide +kernel
theorem dX11_carry_51 : decode cX11_carry 51 = .ok (.getfield 86, 3) := by decide +kernel
theorem dX11_carry_54 : decode cX11_carry 54 = .ok (.iload_n 1, 1) := by decide +kernel
theorem dX11_carry_55 : decode cX11_carry 55 = .ok (.iaload, 1) := by decide +kernel
theorem dX11_carry_56 : decode cX11_carry 56 = .ok (.bipush 24, 2) := by decide +kernel
theorem dX11_carry_58 : decode cX11_carry 58 = .ok (.iload_n 2, 1) := by decide +kernel
theorem dX11_carry_59 : decode cX11_carry 59 = .ok (.iload 4, 2) := by decide +kernel
theorem dX11_carry_61 : decode cX11_carry 61 = .ok (.iadd, 1) := by decide +kernel
theorem dX11_carry_62 : decode cX11_carry 62 = .ok (.imul, 1) := by decide +kernel
theorem dX11_carry_63 : decode cX11_carry 63 = .ok (.bipush 6, 2) := by decide +kernel
theorem dX11_carry_65 : decode cX11_carry 65 = .ok (.iadd, 1) := by decide +kernel
theorem dX11_carry_66 : decode cX11_carry 66 = .ok (.invokevirtual 344, 3) := by decide +kernel
theorem dX11_carry_69 : decode cX11_carry 69 = .ok (.istore 5, 2) := by decide +kernel
theorem dX11_carry_71 : decode cX11_carry 71 = .ok (.iload_n 3, 1) := by decide +kernel
theorem dX11_carry_72 : decode cX11_carry 72 = .ok (.iload 5, 2) := by decide +kernel
theorem dX11_carry_74 : decode cX11_carry 74 = .ok (.invokestatic 347, 3) := by decide +kernel
theorem dX11_carry_77 : decode cX11_carry 77 = .ok (.iconst 1, 1) := by decide +kernel
theorem dX11_carry_78 : decode cX11_carry 78 = .ok (.if_icmp .le 7, 3) := by decide +kernel
theorem dX11_carry_81 : decode cX11_carry 81 = .ok (.iconst 1, 1) := by decide +kernel
theorem dX11_carry_82 : decode cX11_carry 82 = .ok (.goto 4, 3) := by decide +kernel
theorem dX11_carry_85 : decode cX11_carry 85 = .ok (.iconst 0, 1) := by decide +kernel
theorem dX11_carry_86 : decode cX11_carry 86 = .ok (.iadd, 1) := by decide +kernel
theorem dX11_carry_87 : decode cX11_carry 87 = .ok (.istore_n 3, 1) := by decide +kernel
theorem dX11_carry_88 : decode cX11_carry 88 = .ok (.iload 5, 2) := by decide +kernel
theorem dX11_carry_90 : decode cX11_carry 90 = .ok (.invokestatic 347, 3) := by decide +kernel
theorem dX11_carry_93 : decode cX11_carry 93 = .ok (.iconst 1, 1) := by decide +kernel
theorem dX11_carry_94 : decode cX11_carry 94 = .ok (.if_icmp .eq 16, 3) := by decide +kernel
theorem dX11_carry_97 : decode cX11_carry 97 = .ok (.iload 5, 2) := by decide +kernel
theorem dX11_carry_99 : decode cX11_carry 99 = .ok (.ifCond .eq 29, 3) := by decide +kernel
theorem dX11_carry_102 : decode cX11_carry 102 = .ok (.iload_n 3, 1) := by decide +kernel
theorem dX11_carry_103 : decode cX11_carry 103 = .ok (.iconst 3, 1) := by decide +kernel
theorem dX11_carry_104 : decode cX11_carry 104 = .ok (.if_icmp .ge 6, 3) := by decide +kernel
theorem dX11_carry_107 : decode cX11_carry 107 = .ok (.goto 21, 3) := by decide +kernel
theorem dX11_carry_110 : decode cX11_carry 110 = .ok (.aload_n 0, 1) := by decide +kernel
theorem dX11_carry_111 : decode cX11_carry 111 = .ok (.iload 5, 2) := by decide +kernel
theorem dX11_carry_113 : decode cX11_carry 113 = .ok (.invokestatic 350, 3) := by decide +kernel
theorem dX11_carry_116 : decode cX11_carry 116 = .ok (.putfield 353, 3) := by decide +kernel
theorem dX11_carry_119 : decode cX11_carry 119 = .ok (.aload_n 0, 1) := by decide +kernel
theorem dX11_carry_120 : decode cX11_carry 120 = .ok (.iload_n 2, 1) := by decide +kernel
theorem dX11_carry_121 : decode cX11_carry 121 = .ok (.iload 4, 2) := by decide +kernel
theorem dX11_carry_123 : decode cX11_carry 123 = .ok (.iadd, 1) := by decide +kernel
theorem dX11_carry_124 : decode cX11_carry 124 = .ok (.putfield 356, 3) := by decide +kernel
theorem dX11_carry_127 : decode cX11_carry 127 = .ok (.return_, 1) := by decide +kernel
theorem dX11_carry_128 : decode cX11_carry 128 = .ok (.iinc 4 1, 3) := by decide +kernel
theorem dX11_carry_131 : decode cX11_carry 131 = .ok (.goto (-89), 3) := by decide +kernel
theorem dX11_carry_134 : decode cX11_carry 134 = .ok (.return_, 1) := by decide +kernel
theorem dX11_post_0 : decode cX11_post 0 = .ok (.aload_n 0, 1) := by decide +kernel
theorem dX11_post_1 : decode cX11_post 1 = .ok (.iconst 0, 1) := by decide +kernel
theorem dX11_post_2 : decode cX11_post 2 = .ok (.putfield 160, 3) := by decide +kernel
theorem dX11_post_5 : decode cX11_post 5 = .ok (.iload_n 1, 1) := by decide +kernel
theorem dX11_post_6 : decode cX11_post 6 = .ok (.iconst 0, 1) := by decide +kernel
theorem dX11_post_7 : decode cX11_post 7 = .ok (.aload_n 0, 1) := by decide +kernel
theorem dX11_post_8 : decode cX11_post 8 = .ok (.getfield 299, 3) := by decide +kernel
theorem dX11_post_11 : decode cX11_post 11 = .ok (.iconst 1, 1) := by decide +kernel
theorem dX11_post_12 : decode cX11_post 12 = .ok (.isub, 1) := by decide +kernel
theorem dX11_post_13 : decode cX11_post 13 = .ok (.invokestatic 163, 3) := by decide +kernel
theorem dX11_post_16 : decode cX11_post 16 = .ok (.ifCond .eq 12, 3) := by decide +kernel
theorem dX11_post_19 : decode cX11_post 19 = .ok (.iload_n 2, 1) := by decide +kernel
theorem dX11_post_20 : decode cX11_post 20 = .ok (.iconst 0, 1) := by decide +kernel
theorem dX11_post_21 : decode cX11_post 21 = .ok (.iconst 5, 1) := by decide +kernel
theorem dX11_post_22 : decode cX11_post 22 = .ok (.invokestatic 163, 3) := by decide +kernel
theorem dX11_post_25 : decode cX11_post 25 = .ok (.ifCond .ne 9, 3) := by decide +kernel
theorem dX11_post_28 : decode cX11_post 28 = .ok (.aload_n 0, 1) := by decide +kernel
theorem dX11_post_29 : decode cX11_post 29 = .ok (.iconst 1, 1) := by decide +kernel
theorem dX11_post_30 : decode cX11_post 30 = .ok (.invokevirtual 286, 3) := by decide +kernel
theorem dX11_post_33 : decode cX11_post 33 = .ok (.ireturn, 1) := by decide +kernel
theorem dX11_post_34 : decode cX11_post 34 = .ok (.iload_n 2, 1) := by decide +kernel
theorem dX11_post_35 : decode cX11_post 35 = .ok (.iconst 2, 1) := by decide +kernel
theorem dX11_post_36 : decode cX11_post 36 = .ok (.if_icmp .ge 23, 3) := by decide +kernel
theorem dX11_post_39 : decode cX11_post 39 = .ok (.iload_n 2, 1) := by decide +kernel
theorem dX11_post_40 : decode cX11_post 40 = .ok (.ifCond .ne 12, 3) := by decide +kernel
theorem dX11_post_43 : decode cX11_post 43 = .ok (.aload_n 0, 1) := by decide +kernel
theorem dX11_post_44 : decode cX11_post 44 = .ok (.getfield 86, 3) := by decide +kernel
theorem dX11_post_47 : decode cX11_post 47 = .ok (.iload_n 1, 1) := by decide +kernel
theorem dX11_post_48 : decode cX11_post 48 = .ok (.iaload, 1) := by decide +kernel
theorem dX11_post_49 : decode cX11_post 49 = .ok (.goto 9, 3) := by decide +kernel
theorem dX11_post_52 : decode cX11_post 52 = .ok (.aload_n 0, 1) := by decide +kernel
theorem dX11_post_53 : decode cX11_post 53 = .ok (.getfield 89, 3) := by decide +kernel
theorem dX11_post_56 : decode cX11_post 56 = .ok (.iload_n 1, 1) := by decide +kernel
theorem dX11_post_57 : decode cX11_post 57 = .ok (.iaload, 1) := by decide +kernel
theorem dX11_post_58 : decode cX11_post 58 = .ok (.ireturn, 1) := by decide +kernel
theorem dX11_post_59 : decode cX11_post 59 = .ok (.iload_n 2, 1) := by decide +kernel
theorem dX11_post_60 : decode cX11_post 60 = .ok (.iconst 2, 1) := by decide +kernel
theorem dX11_post_61 : decode cX11_post 61 = .ok (.if_icmp .ne 9, 3) := by decide +kernel
theorem dX11_post_64 : decode cX11_post 64 = .ok (.aload_n 0, 1) := by decide +kernel
theorem dX11_post_65 : decode cX11_post 65 = .ok (.iload_n 1, 1) := by decide +kernel
theorem dX11_post_66 : decode cX11_post 66 = .ok (.invokevirtual 359, 3) := by decide +kernel
theorem dX11_post_69 : decode cX11_post 69 = .ok (.ireturn, 1) := by decide +kernel
theorem dX11_post_70 : decode cX11_post 70 = .ok (.aload_n 0, 1) := by decide +kernel
theorem dX11_post_71 : decode cX11_post 71 = .ok (.iload_n 1, 1) := by decide +kernel
theorem dX11_post_72 : decode cX11_post 72 = .ok (.invokevirtual 362, 3) := by decide +kernel
theorem dX11_post_75 : decode cX11_post 75 = .ok (.iload_n 2, 1) := by decide +kernel
theorem dX11_post_76 : decode cX11_post 76 = .ok (.iconst 3, 1) := by decide +kernel
theorem dX11_post_77 : decode cX11_post 77 = .ok (.if_icmp .ne 10, 3) := by decide +kernel
theorem dX11_post_80 : decode cX11_post 80 = .ok (.aload_n 0, 1) := by decide +kernel
theorem dX11_post_81 : decode cX11_post 81 = .ok (.getfield 353, 3) := by decide +kernel
theorem dX11_post_84 : decode cX11_post 84 = .ok (.goto 40, 3) := by decide +kernel
theorem dX11_post_87 : decode cX11_post 87 = .ok (.iload_n 2, 1) := by decide +kernel
theorem dX11_post_88 : decode cX11_post 88 = .ok (.iconst 4, 1) := by decide +kernel
theorem dX11_post_89 : decode cX11_post 89 = .ok (.if_icmp .ne 10, 3) := by decide +kernel
theorem dX11_post_92 : decode cX11_post 92 = .ok (.aload_n 0, 1) := by decide +kernel
theorem dX11_post_93 : decode cX11_post 93 = .ok (.getfield 356, 3) := by decide +kernel
theorem dX11_post_96 : decode cX11_post 96 = .ok (.goto 28, 3) := by decide +kernel
theorem dX11_post_99 : decode cX11_post 99 = .ok (.aload_n 0, 1) := by decide +kernel
theorem dX11_post_100 : decode cX11_post 100 = .ok (.getfield 353, 3) := by decide +kernel
theorem dX11_post_103 : decode cX11_post 103 = .ok (.iconst (-1), 1) := by decide +kernel
theorem dX11_post_104 : decode cX11_post 104 = .ok (.if_icmp .eq 19, 3) := by decide +kernel
theorem dX11_post_107 : decode cX11_post 107 = .ok (.aload_n 0, 1) := by decide +kernel
theorem dX11_post_108 : decode cX11_post 108 = .ok (.getfield 353, 3) := by decide +kernel
theorem dX11_post_111 : decode cX11_post 111 = .ok (.aload_n 0, 1) := by decide +kernel
theorem dX11_post_112 : decode cX11_post 112 = .ok (.iload_n 1, 1) := by decide +kernel
theorem dX11_post_113 : decode cX11_post 113 = .ok (.invokevirtual 359, 3) := by decide +kernel
theorem dX11_post_116 : decode cX11_post 116 = .ok (.if_icmp .eq 7, 3) := by decide +kernel
theorem dX11_post_119 : decode cX11_post 119 = .ok (.iconst 1, 1) := by decide +kernel
theorem dX11_post_120 : decode cX11_post 120 = .ok (.goto 4, 3) := by decide +kernel
theorem dX11_post_123 : decode cX11_post 123 = .ok (.iconst 0, 1) := by decide +kernel
theorem dX11_post_124 : decode cX11_post 124 = .ok (.ireturn, 1) := by decide +kernel
theorem dX11_walkOn_0 : decode cX11_walkOn 0 = .ok (.iload_n 3, 1) := by decide +kernel
theorem dX11_walkOn_1 : decode cX11_walkOn 1 = .ok (.ifCond .ne 71, 3) := by decide +kernel
theorem dX11_walkOn_4 : decode cX11_walkOn 4 = .ok (.iload 4, 2) := by decide +kernel
theorem dX11_walkOn_6 : decode cX11_walkOn 6 = .ok (.aload_n 0, 1) := by decide +kernel
theorem dX11_walkOn_7 : decode cX11_walkOn 7 = .ok (.getfield 50, 3) := by decide +kernel
theorem dX11_walkOn_10 : decode cX11_walkOn 10 = .ok (.bipush 10, 2) := by decide +kernel
theorem dX11_walkOn_12 : decode cX11_walkOn 12 = .ok (.iload_n 2, 1) := by decide +kernel
theorem dX11_walkOn_13 : decode cX11_walkOn 13 = .ok (.imul, 1) := by decide +kernel
theorem dX11_walkOn_14 : decode cX11_walkOn 14 = .ok (.iaload, 1) := by decide +kernel
theorem dX11_walkOn_15 : decode cX11_walkOn 15 = .ok (.iadd, 1) := by decide +kernel
theorem dX11_walkOn_16 : decode cX11_walkOn 16 = .ok (.istore 5, 2) := by decide +kernel
theorem dX11_walkOn_18 : decode cX11_walkOn 18 = .ok (.aload_n 0, 1) := by decide +kernel
theorem dX11_walkOn_19 : decode cX11_walkOn 19 = .ok (.getfield 365, 3) := by decide +kernel
theorem dX11_walkOn_22 : decode cX11_walkOn 22 = .ok (.iconst (-1), 1) := by decide +kernel
theorem dX11_walkOn_23 : decode cX11_walkOn 23 = .ok (.if_icmp .eq 13, 3) := by decide +kernel
theorem dX11_walkOn_26 : decode cX11_walkOn 26 = .ok (.iload 5, 2) := by decide +kernel
theorem dX11_walkOn_28 : decode cX11_walkOn 28 = .ok (.aload_n 0, 1) := by decide +kernel
theorem dX11_walkOn_29 : decode cX11_walkOn 29 = .ok (.getfield 365, 3) := by decide +kernel
theorem dX11_walkOn_32 : decode cX11_walkOn 32 = .ok (.if_icmp .lt 4, 3) := by decide +kernel
theorem dX11_walkOn_35 : decode cX11_walkOn 35 = .ok (.return_, 1) := by decide +kernel
theorem dX11_walkOn_36 : decode cX11_walkOn 36 = .ok (.aload_n 0, 1) := by decide +kernel
theorem dX11_walkOn_37 : decode cX11_walkOn 37 = .ok (.iload 5, 2) := by decide +kernel
theorem dX11_walkOn_39 : decode cX11_walkOn 39 = .ok (.putfield 365, 3) := by decide +kernel
theorem dX11_walkOn_42 : decode cX11_walkOn 42 = .ok (.iconst 0, 1) := by decide +kernel
theorem dX11_walkOn_43 : decode cX11_walkOn 43 = .ok (.istore 6, 2) := by decide +kernel
theorem dX11_walkOn_45 : decode cX11_walkOn 45 = .ok (.iload 6, 2) := by decide +kernel
theorem dX11_walkOn_47 : decode cX11_walkOn 47 = .ok (.iload_n 1, 1) := by decide +kernel
theorem dX11_walkOn_48 : decode cX11_walkOn 48 = .ok (.if_icmp .ge 23, 3) := by decide +kernel
theorem dX11_walkOn_51 : decode cX11_walkOn 51 = .ok (.aload_n 0, 1) := by decide +kernel
theorem dX11_walkOn_52 : decode cX11_walkOn 52 = .ok (.getfield 108, 3) := by decide +kernel
theorem dX11_walkOn_55 : decode cX11_walkOn 55 = .ok (.iload 6, 2) := by decide +kernel
theorem dX11_walkOn_57 : decode cX11_walkOn 57 = .ok (.aload_n 0, 1) := by decide +kernel
theorem dX11_walkOn_58 : decode cX11_walkOn 58 = .ok (.getfield 111, 3) := by decide +kernel
theorem dX11_walkOn_61 : decode cX11_walkOn 61 = .ok (.iload 6, 2) := by decide +kernel
theorem dX11_walkOn_63 : decode cX11_walkOn 63 = .ok (.iaload, 1) := by decide +kernel
theorem dX11_walkOn_64 : decode cX11_walkOn 64 = .ok (.iastore, 1) := by decide +kernel
theorem dX11_walkOn_65 : decode cX11_walkOn 65 = .ok (.iinc 6 1, 3) := by decide +kernel
theorem dX11_walkOn_68 : decode cX11_walkOn 68 = .ok (.goto (-23), 3) := by decide +kernel
theorem dX11_walkOn_71 : decode cX11_walkOn 71 = .ok (.return_, 1) := by decide +kernel
theorem dX11_walkOn_72 : decode cX11_walkOn 72 = .ok (.iconst 0, 1) := by decide +kernel
theorem dX11_walkOn_73 : decode cX11_walkOn 73 = .ok (.istore 5, 2) := by decide +kernel
theorem dX11_walkOn_75 : decode cX11_walkOn 75 = .ok (.iload 5, 2) := by decide +kernel
theorem dX11_walkOn_77 : decode cX11_walkOn 77 = .ok (.aload_n 0, 1) := by decide +kernel
theorem dX11_walkOn_78 : decode cX11_walkOn 78 = .ok (.getfield 40, 3) := by decide +kernel
theorem dX11_walkOn_81 : decode cX11_walkOn 81 = .ok (.iconst 0, 1) := by decide +kernel
theorem dX11_walkOn_82 : decode cX11_walkOn 82 = .ok (.iaload, 1) := by decide +kernel
theorem dX11_walkOn_83 : decode cX11_walkOn 83 = .ok (.if_icmp .ge 61, 3) := by decide +kernel
theorem dX11_walkOn_86 : decode cX11_walkOn 86 = .ok (.iload_n 3, 1) := by decide +kernel
theorem dX11_walkOn_87 : decode cX11_walkOn 87 = .ok (.iload 5, 2) := by decide +kernel
theorem dX11_walkOn_89 : decode cX11_walkOn 89 = .ok (.ishr, 1) := by decide +kernel
theorem dX11_walkOn_90 : decode cX11_walkOn 90 = .ok (.iconst 1, 1) := by decide +kernel
theorem dX11_walkOn_91 : decode cX11_walkOn 91 = .ok (.iand, 1) := by decide +kernel
theorem dX11_walkOn_92 : decode cX11_walkOn 92 = .ok (.ifCond .ne 6, 3) := by decide +kernel
theorem dX11_walkOn_95 : decode cX11_walkOn 95 = .ok (.goto 43, 3) := by decide +kernel
theorem dX11_walkOn_98 : decode cX11_walkOn 98 = .ok (.aload_n 0, 1) := by decide +kernel
theorem dX11_walkOn_99 : decode cX11_walkOn 99 = .ok (.getfield 111, 3) := by decide +kernel
theorem dX11_walkOn_102 : decode cX11_walkOn 102 = .ok (.iload_n 1, 1) := by decide +kernel
theorem dX11_walkOn_103 : decode cX11_walkOn 103 = .ok (.iload 5, 2) := by decide +kernel
theorem dX11_walkOn_105 : decode cX11_walkOn 105 = .ok (.iastore, 1) := by decide +kernel
theorem dX11_walkOn_106 : decode cX11_walkOn 106 = .ok (.aload_n 0, 1) := by decide +kernel
theorem dX11_walkOn_107 : decode cX11_walkOn 107 = .ok (.iload_n 1, 1) := by decide +kernel
theorem dX11_walkOn_108 : decode cX11_walkOn 108 = .ok (.iconst 1, 1) := by decide +kernel
theorem dX11_walkOn_109 : decode cX11_walkOn 109 = .ok (.iadd, 1) := by decide +kernel
theorem dX11_walkOn_110 : decode cX11_walkOn 110 = .ok (.iload 5, 2) := by decide +kernel
theorem dX11_walkOn_112 : decode cX11_walkOn 112 = .ok (.iload_n 3, 1) := by decide +kernel
theorem dX11_walkOn_113 : decode cX11_walkOn 113 = .ok (.iconst 1, 1) := by decide +kernel
theorem dX11_walkOn_114 : decode cX11_walkOn 114 = .ok (.iload 5, 2) := by decide +kernel
theorem dX11_walkOn_116 : decode cX11_walkOn 116 = .ok (.ishl, 1) := by decide +kernel
theorem dX11_walkOn_117 : decode cX11_walkOn 117 = .ok (.iconst (-1), 1) := by decide +kernel
theorem dX11_walkOn_118 : decode cX11_walkOn 118 = .ok (.ixor, 1) := by decide +kernel
theorem dX11_walkOn_119 : decode cX11_walkOn 119 = .ok (.iand, 1) := by decide +kernel
theorem dX11_walkOn_120 : decode cX11_walkOn 120 = .ok (.iload 4, 2) := by decide +kernel
theorem dX11_walkOn_122 : decode cX11_walkOn 122 = .ok (.aload_n 0, 1) := by decide +kernel
theorem dX11_walkOn_123 : decode cX11_walkOn 123 = .ok (.getfield 50, 3) := by decide +kernel
theorem dX11_walkOn_126 : decode cX11_walkOn 126 = .ok (.bipush 10, 2) := by decide +kernel
theorem dX11_walkOn_128 : decode cX11_walkOn 128 = .ok (.iload_n 2, 1) := by decide +kernel
theorem dX11_walkOn_129 : decode cX11_walkOn 129 = .ok (.imul, 1) := by decide +kernel
theorem dX11_walkOn_130 : decode cX11_walkOn 130 = .ok (.iload 5, 2) := by decide +kernel
theorem dX11_walkOn_132 : decode cX11_walkOn 132 = .ok (.iadd, 1) := by decide +kernel
theorem dX11_walkOn_133 : decode cX11_walkOn 133 = .ok (.iaload, 1) := by decide +kernel
theorem dX11_walkOn_134 : decode cX11_walkOn 134 = .ok (.iadd, 1) := by decide +kernel
theorem dX11_walkOn_135 : decode cX11_walkOn 135 = .ok (.invokevirtual 368, 3) := by decide +kernel
theorem dX11_walkOn_138 : decode cX11_walkOn 138 = .ok (.iinc 5 1, 3) := by decide +kernel
theorem dX11_walkOn_141 : decode cX11_walkOn 141 = .ok (.goto (-66), 3) := by decide +kernel
theorem dX11_walkOn_144 : decode cX11_walkOn 144 = .ok (.return_, 1) := by decide +kernel
theorem dX11_round_0 : decode cX11_round 0 = .ok (.aload_n 0, 1) := by decide +kernel
theorem dX11_round_1 : decode cX11_round 1 = .ok (.iconst 0, 1) := by decide +kernel
theorem dX11_round_2 : decode cX11_round 2 = .ok (.putfield 160, 3) := by decide +kernel
theorem dX11_round_5 : decode cX11_round 5 = .ok (.iload_n 1, 1) := by decide +kernel
theorem dX11_round_6 : decode cX11_round 6 = .ok (.iconst 0, 1) := by decide +kernel
theorem dX11_round_7 : decode cX11_round 7 = .ok (.sipush 130, 3) := by decide +kernel
theorem dX11_round_10 : decode cX11_round 10 = .ok (.invokestatic 163, 3) := by decide +kernel
theorem dX11_round_13 : decode cX11_round 13 = .ok (.ifCond .ne 9, 3) := by decide +kernel
theorem dX11_round_16 : decode cX11_round 16 = .ok (.aload_n 0, 1) := by decide +kernel
theorem dX11_round_17 : decode cX11_round 17 = .ok (.iconst 1, 1) := by decide +kernel
theorem dX11_round_18 : decode cX11_round 18 = .ok (.invokevirtual 286, 3) := by decide +kernel
theorem dX11_round_21 : decode cX11_round 21 = .ok (.ireturn, 1) := by decide +kernel
theorem dX11_round_22 : decode cX11_round 22 = .ok (.aload_n 0, 1) := by decide +kernel
theorem dX11_round_23 : decode cX11_round 23 = .ok (.iconst 0, 1) := by decide +kernel
theorem dX11_round_24 : decode cX11_round 24 = .ok (.putfield 372, 3) := by decide +kernel
theorem dX11_round_27 : decode cX11_round 27 = .ok (.iconst 0, 1) := by decide +kernel
theorem dX11_round_28 : decode cX11_round 28 = .ok (.istore_n 2, 1) := by decide +kernel
theorem dX11_round_29 : decode cX11_round 29 = .ok (.iload_n 2, 1) := by decide +kernel
theorem dX11_round_30 : decode cX11_round 30 = .ok (.aload_n 0, 1) := by decide +kernel
theorem dX11_round_31 : decode cX11_round 31 = .ok (.getfield 299, 3) := by decide +kernel
theorem dX11_round_34 : decode cX11_round 34 = .ok (.if_icmp .ge 44, 3) := by decide +kernel
theorem dX11_round_37 : decode cX11_round 37 = .ok (.aload_n 0, 1) := by decide +kernel
theorem dX11_round_38 : decode cX11_round 38 = .ok (.iload_n 2, 1) := by decide +kernel
theorem dX11_round_39 : decode cX11_round 39 = .ok (.invokevirtual 362, 3) := by decide +kernel
theorem dX11_round_42 : decode cX11_round 42 = .ok (.aload_n 0, 1) := by decide +kernel
theorem dX11_round_43 : decode cX11_round 43 = .ok (.getfield 356, 3) := by decide +kernel
theorem dX11_round_46 : decode cX11_round 46 = .ok (.iload_n 1, 1) := by decide +kernel
theorem dX11_round_47 : decode cX11_round 47 = .ok (.if_icmp .ne 25, 3) := by decide +kernel
theorem dX11_round_50 : decode cX11_round 50 = .ok (.aload_n 0, 1) := by decide +kernel
theorem dX11_round_51 : decode cX11_round 51 = .ok (.getfield 353, 3) := by decide +kernel
theorem dX11_round_54 : decode cX11_round 54 = .ok (.ifCond .le 18, 3) := by decide +kernel
theorem dX11_round_57 : decode cX11_round 57 = .ok (.aload_n 0, 1) := by decide +kernel
theorem dX11_round_58 : decode cX11_round 58 = .ok (.dup, 1) := by decide +kernel
theorem dX11_round_59 : decode cX11_round 59 = .ok (.getfield 372, 3) := by decide +kernel
theorem dX11_round_62 : decode cX11_round 62 = .ok (.iconst 1, 1) := by decide +kernel
theorem dX11_round_63 : decode cX11_round 63 = .ok (.aload_n 0, 1) := by decide +kernel
theorem dX11_round_64 : decode cX11_round 64 = .ok (.getfield 353, 3) := by decide +kernel
theorem dX11_round_67 : decode cX11_round 67 = .ok (.ishl, 1) := by decide +kernel
theorem dX11_round_68 : decode cX11_round 68 = .ok (.ior, 1) := by decide +kernel
theorem dX11_round_69 : decode cX11_round 69 = .ok (.putfield 372, 3) := by decide +kernel
theorem dX11_round_72 : decode cX11_round 72 = .ok (.iinc 2 1, 3) := by decide +kernel
theorem dX11_round_75 : decode cX11_round 75 = .ok (.goto (-46), 3) := by decide +kernel
theorem dX11_round_78 : decode cX11_round 78 = .ok (.aload_n 0, 1) := by decide +kernel
theorem dX11_round_79 : decode cX11_round 79 = .ok (.iconst (-1), 1) := by decide +kernel
theorem dX11_round_80 : decode cX11_round 80 = .ok (.putfield 365, 3) := by decide +kernel
theorem dX11_round_83 : decode cX11_round 83 = .ok (.aload_n 0, 1) := by decide +kernel
theorem dX11_round_84 : decode cX11_round 84 = .ok (.aload_n 0, 1) := by decide +kernel
theorem dX11_round_85 : decode cX11_round 85 = .ok (.getfield 372, 3) := by decide +kernel
theorem dX11_round_88 : decode cX11_round 88 = .ok (.invokestatic 347, 3) := by decide +kernel
theorem dX11_round_91 : decode cX11_round 91 = .ok (.putfield 114, 3) := by decide +kernel
theorem dX11_round_94 : decode cX11_round 94 = .ok (.aload_n 0, 1) := by decide +kernel
theorem dX11_round_95 : decode cX11_round 95 = .ok (.iconst 0, 1) := by decide +kernel
theorem dX11_round_96 : decode cX11_round 96 = .ok (.iconst 0, 1) := by decide +kernel
theorem dX11_round_97 : decode cX11_round 97 = .ok (.aload_n 0, 1) := by decide +kernel
theorem dX11_round_98 : decode cX11_round 98 = .ok (.getfield 372, 3) := by decide +kernel
theorem dX11_round_101 : decode cX11_round 101 = .ok (.iconst 0, 1) := by decide +kernel
theorem dX11_round_102 : decode cX11_round 102 = .ok (.invokevirtual 368, 3) := by decide +kernel
theorem dX11_round_105 : decode cX11_round 105 = .ok (.aload_n 0, 1) := by decide +kernel
theorem dX11_round_106 : decode cX11_round 106 = .ok (.getfield 365, 3) := by decide +kernel
theorem dX11_round_109 : decode cX11_round 109 = .ok (.ireturn, 1) := by decide +kernel
theorem dX11_rounded_0 : decode cX11_rounded 0 = .ok (.aload_n 0, 1) := by decide +kernel
theorem dX11_rounded_1 : decode cX11_rounded 1 = .ok (.iconst 0, 1) := by decide +kernel
theorem dX11_rounded_2 : decode cX11_rounded 2 = .ok (.putfield 160, 3) := by decide +kernel
theorem dX11_rounded_5 : decode cX11_rounded 5 = .ok (.iload_n 1, 1) := by decide +kernel
theorem dX11_rounded_6 : decode cX11_rounded 6 = .ok (.iconst 0, 1) := by decide +kernel
theorem dX11_rounded_7 : decode cX11_rounded 7 = .ok (.aload_n 0, 1) := by decide +kernel
theorem dX11_rounded_8 : decode cX11_rounded 8 = .ok (.getfield 114, 3) := by decide +kernel
theorem dX11_rounded_11 : decode cX11_rounded 11 = .ok (.iconst 1, 1) := by decide +kernel
theorem dX11_rounded_12 : decode cX11_rounded 12 = .ok (.isub, 1) := by decide +kernel
theorem dX11_rounded_13 : decode cX11_rounded 13 = .ok (.invokestatic 163, 3) := by decide +kernel
theorem dX11_rounded_16 : decode cX11_rounded 16 = .ok (.ifCond .eq 12, 3) := by decide +kernel
theorem dX11_rounded_19 : decode cX11_rounded 19 = .ok (.aload_n 0, 1) := by decide +kernel
theorem dX11_rounded_20 : decode cX11_rounded 20 = .ok (.getfield 108, 3) := by decide +kernel
theorem dX11_rounded_23 : decode cX11_rounded 23 = .ok (.iload_n 1, 1) := by decide +kernel
theorem dX11_rounded_24 : decode cX11_rounded 24 = .ok (.iaload, 1) := by decide +kernel
theorem dX11_rounded_25 : decode cX11_rounded 25 = .ok (.goto 8, 3) := by decide +kernel
theorem dX11_rounded_28 : decode cX11_rounded 28 = .ok (.aload_n 0, 1) := by decide +kernel
theorem dX11_rounded_29 : decode cX11_rounded 29 = .ok (.iconst 1, 1) := by decide +kernel
theorem dX11_rounded_30 : decode cX11_rounded 30 = .ok (.invokevirtual 286, 3) := by decide +kernel
theorem dX11_rounded_33 : decode cX11_rounded 33 = .ok (.ireturn, 1) := by decide +kernel
theorem dX11_holdsOf_0 : decode cX11_holdsOf 0 = .ok (.aload_n 0, 1) := by decide +kernel
theorem dX11_holdsOf_1 : decode cX11_holdsOf 1 = .ok (.iload_n 2, 1) := by decide +kernel
theorem dX11_holdsOf_2 : decode cX11_holdsOf 2 = .ok (.aload_n 0, 1) := by decide +kernel
theorem dX11_holdsOf_3 : decode cX11_holdsOf 3 = .ok (.invokevirtual 309, 3) := by decide +kernel
theorem dX11_holdsOf_6 : decode cX11_holdsOf 6 = .ok (.invokevirtual 335, 3) := by decide +kernel
theorem dX11_holdsOf_9 : decode cX11_holdsOf 9 = .ok (.istore_n 3, 1) := by decide +kernel
theorem dX11_holdsOf_10 : decode cX11_holdsOf 10 = .ok (.iload_n 3, 1) := by decide +kernel
theorem dX11_holdsOf_11 : decode cX11_holdsOf 11 = .ok (.iconst (-1), 1) := by decide +kernel
theorem dX11_holdsOf_12 : decode cX11_holdsOf 12 = .ok (.if_icmp .ne 17, 3) := by decide +kernel
theorem dX11_holdsOf_15 : decode cX11_holdsOf 15 = .ok (.aload_n 0, 1) := by decide +kernel
theorem dX11_holdsOf_16 : decode cX11_holdsOf 16 = .ok (.iload_n 2, 1) := by decide +kernel
theorem dX11_holdsOf_17 : decode cX11_holdsOf 17 = .ok (.bipush 99, 2) := by decide +kernel
theorem dX11_holdsOf_19 : decode cX11_holdsOf 19 = .ok (.iconst 0, 1) := by decide +kernel
theorem dX11_holdsOf_20 : decode cX11_holdsOf 20 = .ok (.iconst 0, 1) := by decide +kernel
theorem dX11_holdsOf_21 : decode cX11_holdsOf 21 = .ok (.iconst 0, 1) := by decide +kernel
theorem dX11_holdsOf_22 : decode cX11_holdsOf 22 = .ok (.iconst 0, 1) := by decide +kernel
theorem dX11_holdsOf_23 : decode cX11_holdsOf 23 = .ok (.invokevirtual 328, 3) := by decide +kernel
theorem dX11_holdsOf_26 : decode cX11_holdsOf 26 = .ok (.goto 43, 3) := by decide +kernel
theorem dX11_holdsOf_29 : decode cX11_holdsOf 29 = .ok (.aload_n 0, 1) := by decide +kernel
theorem dX11_holdsOf_30 : decode cX11_holdsOf 30 = .ok (.iload_n 2, 1) := by decide +kernel
theorem dX11_holdsOf_31 : decode cX11_holdsOf 31 = .ok (.aload_n 0, 1) := by decide +kernel
theorem dX11_holdsOf_32 : decode cX11_holdsOf 32 = .ok (.getfield 69, 3) := by decide +kernel
theorem dX11_holdsOf_35 : decode cX11_holdsOf 35 = .ok (.iload_n 3, 1) := by decide +kernel
theorem dX11_holdsOf_36 : decode cX11_holdsOf 36 = .ok (.iaload, 1) := by decide +kernel
theorem dX11_holdsOf_37 : decode cX11_holdsOf 37 = .ok (.aload_n 0, 1) := by decide +kernel
theorem dX11_holdsOf_38 : decode cX11_holdsOf 38 = .ok (.getfield 78, 3) := by decide +kernel
theorem dX11_holdsOf_41 : decode cX11_holdsOf 41 = .ok (.iload_n 3, 1) := by decide +kernel
theorem dX11_holdsOf_42 : decode cX11_holdsOf 42 = .ok (.iaload, 1) := by decide +kernel
theorem dX11_holdsOf_43 : decode cX11_holdsOf 43 = .ok (.aload_n 0, 1) := by decide +kernel
theorem dX11_holdsOf_44 : decode cX11_holdsOf 44 = .ok (.getfield 53, 3) := by decide +kernel
theorem dX11_holdsOf_47 : decode cX11_holdsOf 47 = .ok (.aload_n 0, 1) := by decide +kernel
theorem dX11_holdsOf_48 : decode cX11_holdsOf 48 = .ok (.getfield 69, 3) := by decide +kernel
theorem dX11_holdsOf_51 : decode cX11_holdsOf 51 = .ok (.iload_n 3, 1) := by decide +kernel
theorem dX11_holdsOf_52 : decode cX11_holdsOf 52 = .ok (.iaload, 1) := by decide +kernel
theorem dX11_holdsOf_53 : decode cX11_holdsOf 53 = .ok (.baload, 1) := by decide +kernel
theorem dX11_holdsOf_54 : decode cX11_holdsOf 54 = .ok (.aload_n 0, 1) := by decide +kernel
theorem dX11_holdsOf_55 : decode cX11_holdsOf 55 = .ok (.getfield 75, 3) := by decide +kernel
theorem dX11_holdsOf_58 : decode cX11_holdsOf 58 = .ok (.iload_n 3, 1) := by decide +kernel
theorem dX11_holdsOf_59 : decode cX11_holdsOf 59 = .ok (.iaload, 1) := by decide +kernel
theorem dX11_holdsOf_60 : decode cX11_holdsOf 60 = .ok (.aload_n 0, 1) := by decide +kernel
theorem dX11_holdsOf_61 : decode cX11_holdsOf 61 = .ok (.getfield 80, 3) := by decide +kernel
theorem dX11_holdsOf_64 : decode cX11_holdsOf 64 = .ok (.iload_n 3, 1) := by decide +kernel
theorem dX11_holdsOf_65 : decode cX11_holdsOf 65 = .ok (.iaload, 1) := by decide +kernel
theorem dX11_holdsOf_66 : decode cX11_holdsOf 66 = .ok (.invokevirtual 328, 3) := by decide +kernel
theorem dX11_holdsOf_69 : decode cX11_holdsOf 69 = .ok (.aload_n 0, 1) := by decide +kernel
theorem dX11_holdsOf_70 : decode cX11_holdsOf 70 = .ok (.iconst 4, 1) := by decide +kernel
theorem dX11_holdsOf_71 : decode cX11_holdsOf 71 = .ok (.iload_n 1, 1) := by decide +kernel
theorem dX11_holdsOf_72 : decode cX11_holdsOf 72 = .ok (.iadd, 1) := by decide +kernel
theorem dX11_holdsOf_73 : decode cX11_holdsOf 73 = .ok (.invokevirtual 322, 3) := by decide +kernel
theorem dX11_holdsOf_76 : decode cX11_holdsOf 76 = .ok (.ireturn, 1) := by decide +kernel
theorem dX11_holds_0 : decode cX11_holds 0 = .ok (.aload_n 0, 1) := by decide +kernel
theorem dX11_holds_1 : decode cX11_holds 1 = .ok (.iconst 0, 1) := by decide +kernel
theorem dX11_holds_2 : decode cX11_holds 2 = .ok (.putfield 160, 3) := by decide +kernel
theorem dX11_holds_5 : decode cX11_holds 5 = .ok (.iload_n 1, 1) := by decide +kernel
theorem dX11_holds_6 : decode cX11_holds 6 = .ok (.iconst 0, 1) := by decide +kernel
theorem dX11_holds_7 : decode cX11_holds 7 = .ok (.aload_n 0, 1) := by decide +kernel
theorem dX11_holds_8 : decode cX11_holds 8 = .ok (.getfield 40, 3) := by decide +kernel
theorem dX11_holds_11 : decode cX11_holds 11 = .ok (.iconst 3, 1) := by decide +kernel
theorem dX11_holds_12 : decode cX11_holds 12 = .ok (.iaload, 1) := by decide +kernel
theorem dX11_holds_13 : decode cX11_holds 13 = .ok (.iconst 1, 1) := by decide +kernel
theorem dX11_holds_14 : decode cX11_holds 14 = .ok (.isub, 1) := by decide +kernel
theorem dX11_holds_15 : decode cX11_holds 15 = .ok (.invokestatic 163, 3) := by decide +kernel
theorem dX11_holds_18 : decode cX11_holds 18 = .ok (.ifCond .eq 11, 3) := by decide +kernel
theorem dX11_holds_21 : decode cX11_holds 21 = .ok (.aload_n 0, 1) := by decide +kernel
theorem dX11_holds_22 : decode cX11_holds 22 = .ok (.iload_n 2, 1) := by decide +kernel
theorem dX11_holds_23 : decode cX11_holds 23 = .ok (.invokevirtual 315, 3) := by decide +kernel
theorem dX11_holds_26 : decode cX11_holds 26 = .ok (.ifCond .ne 10, 3) := by decide +kernel
theorem dX11_holds_29 : decode cX11_holds 29 = .ok (.aload_n 0, 1) := by decide +kernel
theorem dX11_holds_30 : decode cX11_holds 30 = .ok (.iconst 1, 1) := by decide +kernel
theorem dX11_holds_31 : decode cX11_holds 31 = .ok (.putfield 160, 3) := by decide +kernel
theorem dX11_holds_34 : decode cX11_holds 34 = .ok (.iconst 0, 1) := by decide +kernel
theorem dX11_holds_35 : decode cX11_holds 35 = .ok (.ireturn, 1) := by decide +kernel
theorem dX11_holds_36 : decode cX11_holds 36 = .ok (.aload_n 0, 1) := by decide +kernel
theorem dX11_holds_37 : decode cX11_holds 37 = .ok (.iload_n 1, 1) := by decide +kernel
theorem dX11_holds_38 : decode cX11_holds 38 = .ok (.iload_n 2, 1) := by decide +kernel
theorem dX11_holds_39 : decode cX11_holds 39 = .ok (.invokevirtual 375, 3) := by decide +kernel
theorem dX11_holds_42 : decode cX11_holds 42 = .ok (.ireturn, 1) := by decide +kernel
theorem dX11_most_0 : decode cX11_most 0 = .ok (.iload_n 0, 1) := by decide +kernel
theorem dX11_most_1 : decode cX11_most 1 = .ok (.iconst (-1), 1) := by decide +kernel
theorem dX11_most_2 : decode cX11_most 2 = .ok (.if_icmp .eq 8, 3) := by decide +kernel
theorem dX11_most_5 : decode cX11_most 5 = .ok (.iload_n 1, 1) := by decide +kernel
theorem dX11_most_6 : decode cX11_most 6 = .ok (.iconst (-1), 1) := by decide +kernel
theorem dX11_most_7 : decode cX11_most 7 = .ok (.if_icmp .ne 7, 3) := by decide +kernel
theorem dX11_most_10 : decode cX11_most 10 = .ok (.iconst (-1), 1) := by decide +kernel
theorem dX11_most_11 : decode cX11_most 11 = .ok (.goto 8, 3) := by decide +kernel
theorem dX11_most_14 : decode cX11_most 14 = .ok (.iload_n 0, 1) := by decide +kernel
theorem dX11_most_15 : decode cX11_most 15 = .ok (.iload_n 1, 1) := by decide +kernel
theorem dX11_most_16 : decode cX11_most 16 = .ok (.invokestatic 379, 3) := by decide +kernel
theorem dX11_most_19 : decode cX11_most 19 = .ok (.ireturn, 1) := by decide +kernel
theorem dX11_tellAsks_0 : decode cX11_tellAsks 0 = .ok (.iconst 0, 1) := by decide +kernel
theorem dX11_tellAsks_1 : decode cX11_tellAsks 1 = .ok (.istore_n 1, 1) := by decide +kernel
theorem dX11_tellAsks_2 : decode cX11_tellAsks 2 = .ok (.iload_n 1, 1) := by decide +kernel
theorem dX11_tellAsks_3 : decode cX11_tellAsks 3 = .ok (.aload_n 0, 1) := by decide +kernel
theorem dX11_tellAsks_4 : decode cX11_tellAsks 4 = .ok (.getfield 40, 3) := by decide +kernel
theorem dX11_tellAsks_7 : decode cX11_tellAsks 7 = .ok (.iconst 3, 1) := by decide +kernel
theorem dX11_tellAsks_8 : decode cX11_tellAsks 8 = .ok (.iaload, 1) := by decide +kernel
theorem dX11_tellAsks_9 : decode cX11_tellAsks 9 = .ok (.if_icmp .ge 59, 3) := by decide +kernel
theorem dX11_tellAsks_12 : decode cX11_tellAsks 12 = .ok (.aload_n 0, 1) := by decide +kernel
theorem dX11_tellAsks_13 : decode cX11_tellAsks 13 = .ok (.getfield 117, 3) := by decide +kernel
theorem dX11_tellAsks_16 : decode cX11_tellAsks 16 = .ok (.iload_n 1, 1) := by decide +kernel
theorem dX11_tellAsks_17 : decode cX11_tellAsks 17 = .ok (.iconst 0, 1) := by decide +kernel
theorem dX11_tellAsks_18 : decode cX11_tellAsks 18 = .ok (.iastore, 1) := by decide +kernel
theorem dX11_tellAsks_19 : decode cX11_tellAsks 19 = .ok (.iconst 0, 1) := by decide +kernel
theorem dX11_tellAsks_20 : decode cX11_tellAsks 20 = .ok (.istore_n 2, 1) := by decide +kernel
theorem dX11_tellAsks_21 : decode cX11_tellAsks 21 = .ok (.iload_n 2, 1) := by decide +kernel
theorem dX11_tellAsks_22 : decode cX11_tellAsks 22 = .ok (.aload_n 0, 1) := by decide +kernel
theorem dX11_tellAsks_23 : decode cX11_tellAsks 23 = .ok (.getfield 40, 3) := by decide +kernel
theorem dX11_tellAsks_26 : decode cX11_tellAsks 26 = .ok (.iconst 0, 1) := by decide +kernel
theorem dX11_tellAsks_27 : decode cX11_tellAsks 27 = .ok (.iaload, 1) := by decide +kernel
theorem dX11_tellAsks_28 : decode cX11_tellAsks 28 = .ok (.if_icmp .ge 34, 3) := by decide +kernel
theorem dX11_tellAsks_31 : decode cX11_tellAsks 31 = .ok (.aload_n 0, 1) := by decide +kernel
theorem dX11_tellAsks_32 : decode cX11_tellAsks 32 = .ok (.getfield 117, 3) := by decide +kernel
theorem dX11_tellAsks_35 : decode cX11_tellAsks 35 = .ok (.iload_n 1, 1) := by decide +kernel
theorem dX11_tellAsks_36 : decode cX11_tellAsks 36 = .ok (.dup2, 1) := by decide +kernel
theorem dX11_tellAsks_37 : decode cX11_tellAsks 37 = .ok (.iaload, 1) := by decide +kernel
theorem dX11_tellAsks_38 : decode cX11_tellAsks 38 = .ok (.aload_n 0, 1) := by decide +kernel
theorem dX11_tellAsks_39 : decode cX11_tellAsks 39 = .ok (.iload_n 1, 1) := by decide +kernel
theorem dX11_tellAsks_40 : decode cX11_tellAsks 40 = .ok (.iload_n 2, 1) := by decide +kernel
theorem dX11_tellAsks_41 : decode cX11_tellAsks 41 = .ok (.invokevirtual 375, 3) := by decide +kernel
theorem dX11_tellAsks_44 : decode cX11_tellAsks 44 = .ok (.ifCond .eq 9, 3) := by decide +kernel
theorem dX11_tellAsks_47 : decode cX11_tellAsks 47 = .ok (.iconst 1, 1) := by decide +kernel
theorem dX11_tellAsks_48 : decode cX11_tellAsks 48 = .ok (.iload_n 2, 1) := by decide +kernel
theorem dX11_tellAsks_49 : decode cX11_tellAsks 49 = .ok (.ishl, 1) := by decide +kernel
theorem dX11_tellAsks_50 : decode cX11_tellAsks 50 = .ok (.goto 4, 3) := by decide +kernel
theorem dX11_tellAsks_53 : decode cX11_tellAsks 53 = .ok (.iconst 0, 1) := by decide +kernel
theorem dX11_tellAsks_54 : decode cX11_tellAsks 54 = .ok (.ior, 1) := by decide +kernel
theorem dX11_tellAsks_55 : decode cX11_tellAsks 55 = .ok (.iastore, 1) := by decide +kernel
theorem dX11_tellAsks_56 : decode cX11_tellAsks 56 = .ok (.iinc 2 1, 3) := by decide +kernel
theorem dX11_tellAsks_59 : decode cX11_tellAsks 59 = .ok (.goto (-38), 3) := by decide +kernel
theorem dX11_tellAsks_62 : decode cX11_tellAsks 62 = .ok (.iinc 1 1, 3) := by decide +kernel
theorem dX11_tellAsks_65 : decode cX11_tellAsks 65 = .ok (.goto (-63), 3) := by decide +kernel
theorem dX11_tellAsks_68 : decode cX11_tellAsks 68 = .ok (.iconst 0, 1) := by decide +kernel
theorem dX11_tellAsks_69 : decode cX11_tellAsks 69 = .ok (.istore_n 1, 1) := by decide +kernel
theorem dX11_tellAsks_70 : decode cX11_tellAsks 70 = .ok (.iload_n 1, 1) := by decide +kernel
theorem dX11_tellAsks_71 : decode cX11_tellAsks 71 = .ok (.iconst 1, 1) := by decide +kernel
theorem dX11_tellAsks_72 : decode cX11_tellAsks 72 = .ok (.aload_n 0, 1) := by decide +kernel
theorem dX11_tellAsks_73 : decode cX11_tellAsks 73 = .ok (.getfield 40, 3) := by decide +kernel
theorem dX11_tellAsks_76 : decode cX11_tellAsks 76 = .ok (.iconst 0, 1) := by decide +kernel
theorem dX11_tellAsks_77 : decode cX11_tellAsks 77 = .ok (.iaload, 1) := by decide +kernel
theorem dX11_tellAsks_78 : decode cX11_tellAsks 78 = .ok (.ishl, 1) := by decide +kernel
theorem dX11_tellAsks_79 : decode cX11_tellAsks 79 = .ok (.if_icmp .ge 93, 3) := by decide +kernel
theorem dX11_tellAsks_82 : decode cX11_tellAsks 82 = .ok (.aload_n 0, 1) := by decide +kernel
theorem dX11_tellAsks_83 : decode cX11_tellAsks 83 = .ok (.getfield 120, 3) := by decide +kernel
theorem dX11_tellAsks_86 : decode cX11_tellAsks 86 = .ok (.iload_n 1, 1) := by decide +kernel
theorem dX11_tellAsks_87 : decode cX11_tellAsks 87 = .ok (.iload_n 1, 1) := by decide +kernel
theorem dX11_tellAsks_88 : decode cX11_tellAsks 88 = .ok (.invokestatic 347, 3) := by decide +kernel
theorem dX11_tellAsks_91 : decode cX11_tellAsks 91 = .ok (.iconst 2, 1) := by decide +kernel
theorem dX11_tellAsks_92 : decode cX11_tellAsks 92 = .ok (.if_icmp .ge 7, 3) := by decide +kernel
theorem dX11_tellAsks_95 : decode cX11_tellAsks 95 = .ok (.iconst 0, 1) := by decide +kernel
theorem dX11_tellAsks_96 : decode cX11_tellAsks 96 = .ok (.goto 4, 3) := by decide +kernel
theorem dX11_tellAsks_99 : decode cX11_tellAsks 99 = .ok (.iconst (-1), 1) := by decide +kernel
theorem dX11_tellAsks_100 : decode cX11_tellAsks 100 = .ok (.iastore, 1) := by decide +kernel
theorem dX11_tellAsks_101 : decode cX11_tellAsks 101 = .ok (.iconst 0, 1) := by decide +kernel
theorem dX11_tellAsks_102 : decode cX11_tellAsks 102 = .ok (.istore_n 2, 1) := by decide +kernel
theorem dX11_tellAsks_103 : decode cX11_tellAsks 103 = .ok (.iload_n 2, 1) := by decide +kernel
theorem dX11_tellAsks_104 : decode cX11_tellAsks 104 = .ok (.aload_n 0, 1) := by decide +kernel
theorem dX11_tellAsks_105 : decode cX11_tellAsks 105 = .ok (.getfield 40, 3) := by decide +kernel
theorem dX11_tellAsks_108 : decode cX11_tellAsks 108 = .ok (.iconst 3, 1) := by decide +kernel
theorem dX11_tellAsks_109 : decode cX11_tellAsks 109 = .ok (.iaload, 1) := by decide +kernel
theorem dX11_tellAsks_110 : decode cX11_tellAsks 110 = .ok (.if_icmp .ge 56, 3) := by decide +kernel
theorem dX11_tellAsks_113 : decode cX11_tellAsks 113 = .ok (.iload_n 1, 1) := by decide +kernel
theorem dX11_tellAsks_114 : decode cX11_tellAsks 114 = .ok (.invokestatic 347, 3) := by decide +kernel
theorem dX11_tellAsks_117 : decode cX11_tellAsks 117 = .ok (.iconst 1, 1) := by decide +kernel
theorem dX11_tellAsks_118 : decode cX11_tellAsks 118 = .ok (.if_icmp .le 48, 3) := by decide +kernel
theorem dX11_tellAsks_121 : decode cX11_tellAsks 121 = .ok (.aload_n 0, 1) := by decide +kernel
theorem dX11_tellAsks_122 : decode cX11_tellAsks 122 = .ok (.iload_n 1, 1) := by decide +kernel
theorem dX11_tellAsks_123 : decode cX11_tellAsks 123 = .ok (.iload_n 2, 1) := by decide +kernel
theorem dX11_tellAsks_124 : decode cX11_tellAsks 124 = .ok (.invokevirtual 382, 3) := by decide +kernel
theorem dX11_tellAsks_127 : decode cX11_tellAsks 127 = .ok (.istore_n 3, 1) := by decide +kernel
theorem dX11_tellAsks_128 : decode cX11_tellAsks 128 = .ok (.iload_n 3, 1) := by decide +kernel
theorem dX11_tellAsks_129 : decode cX11_tellAsks 129 = .ok (.iconst (-1), 1) := by decide +kernel
theorem dX11_tellAsks_130 : decode cX11_tellAsks 130 = .ok (.if_icmp .eq 30, 3) := by decide +kernel
theorem dX11_tellAsks_133 : decode cX11_tellAsks 133 = .ok (.aload_n 0, 1) := by decide +kernel
theorem dX11_tellAsks_134 : decode cX11_tellAsks 134 = .ok (.getfield 120, 3) := by decide +kernel
theorem dX11_tellAsks_137 : decode cX11_tellAsks 137 = .ok (.iload_n 1, 1) := by decide +kernel
theorem dX11_tellAsks_138 : decode cX11_tellAsks 138 = .ok (.iaload, 1) := by decide +kernel
theorem dX11_tellAsks_139 : decode cX11_tellAsks 139 = .ok (.iconst (-1), 1) := by decide +kernel
theorem dX11_tellAsks_140 : decode cX11_tellAsks 140 = .ok (.if_icmp .eq 13, 3) := by decide +kernel
theorem dX11_tellAsks_143 : decode cX11_tellAsks 143 = .ok (.iload_n 3, 1) := by decide +kernel
theorem dX11_tellAsks_144 : decode cX11_tellAsks 144 = .ok (.aload_n 0, 1) := by decide +kernel
theorem dX11_tellAsks_145 : decode cX11_tellAsks 145 = .ok (.getfield 120, 3) := by decide +kernel
theorem dX11_tellAsks_148 : decode cX11_tellAsks 148 = .ok (.iload_n 1, 1) := by decide +kernel
theorem dX11_tellAsks_149 : decode cX11_tellAsks 149 = .ok (.iaload, 1) := by decide +kernel
theorem dX11_tellAsks_150 : decode cX11_tellAsks 150 = .ok (.if_icmp .ge 10, 3) := by decide +kernel
theorem dX11_tellAsks_153 : decode cX11_tellAsks 153 = .ok (.aload_n 0, 1) := by decide +kernel
theorem dX11_tellAsks_154 : decode cX11_tellAsks 154 = .ok (.getfield 120, 3) := by decide +kernel
theorem dX11_tellAsks_157 : decode cX11_tellAsks 157 = .ok (.iload_n 1, 1) := by decide +kernel
theorem dX11_tellAsks_158 : decode cX11_tellAsks 158 = .ok (.iload_n 3, 1) := by decide +kernel
theorem dX11_tellAsks_159 : decode cX11_tellAsks 159 = .ok (.iastore, 1) := by decide +kernel
theorem dX11_tellAsks_160 : decode cX11_tellAsks 160 = .ok (.iinc 2 1, 3) := by decide +kernel
theorem dX11_tellAsks_163 : decode cX11_tellAsks 163 = .ok (.goto (-60), 3) := by decide +kernel
theorem dX11_tellAsks_166 : decode cX11_tellAsks 166 = .ok (.iinc 1 1, 3) := by decide +kernel
theorem dX11_tellAsks_169 : decode cX11_tellAsks 169 = .ok (.goto (-99), 3) := by decide +kernel
theorem dX11_tellAsks_172 : decode cX11_tellAsks 172 = .ok (.return_, 1) := by decide +kernel
theorem dX11_askBy_0 : decode cX11_askBy 0 = .ok (.iload_n 1, 1) := by decide +kernel
theorem dX11_askBy_1 : decode cX11_askBy 1 = .ok (.aload_n 0, 1) := by decide +kernel
theorem dX11_askBy_2 : decode cX11_askBy 2 = .ok (.getfield 117, 3) := by decide +kernel
theorem dX11_askBy_5 : decode cX11_askBy 5 = .ok (.iload_n 2, 1) := by decide +kernel
theorem dX11_askBy_6 : decode cX11_askBy 6 = .ok (.iaload, 1) := by decide +kernel
theorem dX11_askBy_7 : decode cX11_askBy 7 = .ok (.iand, 1) := by decide +kernel
theorem dX11_askBy_8 : decode cX11_askBy 8 = .ok (.istore_n 3, 1) := by decide +kernel
theorem dX11_askBy_9 : decode cX11_askBy 9 = .ok (.iload_n 3, 1) := by decide +kernel
theorem dX11_askBy_10 : decode cX11_askBy 10 = .ok (.ifCond .eq 8, 3) := by decide +kernel
theorem dX11_askBy_13 : decode cX11_askBy 13 = .ok (.iload_n 3, 1) := by decide +kernel
theorem dX11_askBy_14 : decode cX11_askBy 14 = .ok (.iload_n 1, 1) := by decide +kernel
theorem dX11_askBy_15 : decode cX11_askBy 15 = .ok (.if_icmp .ne 5, 3) := by decide +kernel
theorem dX11_askBy_18 : decode cX11_askBy 18 = .ok (.iconst (-1), 1) := by decide +kernel
theorem dX11_askBy_19 : decode cX11_askBy 19 = .ok (.ireturn, 1) := by decide +kernel
theorem dX11_askBy_20 : decode cX11_askBy 20 = .ok (.aload_n 0, 1) := by decide +kernel
theorem dX11_askBy_21 : decode cX11_askBy 21 = .ok (.getfield 120, 3) := by decide +kernel
theorem dX11_askBy_24 : decode cX11_askBy 24 = .ok (.iload_n 3, 1) := by decide +kernel
theorem dX11_askBy_25 : decode cX11_askBy 25 = .ok (.iaload, 1) := by decide +kernel
theorem dX11_askBy_26 : decode cX11_askBy 26 = .ok (.aload_n 0, 1) := by decide +kernel
theorem dX11_askBy_27 : decode cX11_askBy 27 = .ok (.getfield 120, 3) := by decide +kernel
theorem dX11_askBy_30 : decode cX11_askBy 30 = .ok (.iload_n 1, 1) := by decide +kernel
theorem dX11_askBy_31 : decode cX11_askBy 31 = .ok (.iload_n 3, 1) := by decide +kernel
theorem dX11_askBy_32 : decode cX11_askBy 32 = .ok (.iconst (-1), 1) := by decide +kernel
theorem dX11_askBy_33 : decode cX11_askBy 33 = .ok (.ixor, 1) := by decide +kernel
theorem dX11_askBy_34 : decode cX11_askBy 34 = .ok (.iand, 1) := by decide +kernel
theorem dX11_askBy_35 : decode cX11_askBy 35 = .ok (.iaload, 1) := by decide +kernel
theorem dX11_askBy_36 : decode cX11_askBy 36 = .ok (.invokestatic 385, 3) := by decide +kernel
theorem dX11_askBy_39 : decode cX11_askBy 39 = .ok (.istore 4, 2) := by decide +kernel
theorem dX11_askBy_41 : decode cX11_askBy 41 = .ok (.iload 4, 2) := by decide +kernel
theorem dX11_askBy_43 : decode cX11_askBy 43 = .ok (.iconst (-1), 1) := by decide +kernel
theorem dX11_askBy_44 : decode cX11_askBy 44 = .ok (.if_icmp .ne 7, 3) := by decide +kernel
theorem dX11_askBy_47 : decode cX11_askBy 47 = .ok (.iconst (-1), 1) := by decide +kernel
theorem dX11_askBy_48 : decode cX11_askBy 48 = .ok (.goto 7, 3) := by decide +kernel
theorem dX11_askBy_51 : decode cX11_askBy 51 = .ok (.iload 4, 2) := by decide +kernel
theorem dX11_askBy_53 : decode cX11_askBy 53 = .ok (.iconst 1, 1) := by decide +kernel
theorem dX11_askBy_54 : decode cX11_askBy 54 = .ok (.iadd, 1) := by decide +kernel
theorem dX11_askBy_55 : decode cX11_askBy 55 = .ok (.ireturn, 1) := by decide +kernel
theorem dX11_stranger_0 : decode cX11_stranger 0 = .ok (.aload_n 0, 1) := by decide +kernel
theorem dX11_stranger_1 : decode cX11_stranger 1 = .ok (.iconst 0, 1) := by decide +kernel
theorem dX11_stranger_2 : decode cX11_stranger 2 = .ok (.putfield 160, 3) := by decide +kernel
theorem dX11_stranger_5 : decode cX11_stranger 5 = .ok (.iload_n 2, 1) := by decide +kernel
theorem dX11_stranger_6 : decode cX11_stranger 6 = .ok (.ifCond .lt 8, 3) := by decide +kernel
theorem dX11_stranger_9 : decode cX11_stranger 9 = .ok (.iload_n 2, 1) := by decide +kernel
theorem dX11_stranger_10 : decode cX11_stranger 10 = .ok (.iconst 1, 1) := by decide +kernel
theorem dX11_stranger_11 : decode cX11_stranger 11 = .ok (.if_icmp .le 9, 3) := by decide +kernel
theorem dX11_stranger_14 : decode cX11_stranger 14 = .ok (.aload_n 0, 1) := by decide +kernel
theorem dX11_stranger_15 : decode cX11_stranger 15 = .ok (.iconst 1, 1) := by decide +kernel
theorem dX11_stranger_16 : decode cX11_stranger 16 = .ok (.invokevirtual 286, 3) := by decide +kernel
theorem dX11_stranger_19 : decode cX11_stranger 19 = .ok (.ireturn, 1) := by decide +kernel
theorem dX11_stranger_20 : decode cX11_stranger 20 = .ok (.iload_n 1, 1) := by decide +kernel
theorem dX11_stranger_21 : decode cX11_stranger 21 = .ok (.ifCond .lt 15, 3) := by decide +kernel
theorem dX11_stranger_24 : decode cX11_stranger 24 = .ok (.iload_n 1, 1) := by decide +kernel
theorem dX11_stranger_25 : decode cX11_stranger 25 = .ok (.iconst 1, 1) := by decide +kernel
theorem dX11_stranger_26 : decode cX11_stranger 26 = .ok (.aload_n 0, 1) := by decide +kernel
theorem dX11_stranger_27 : decode cX11_stranger 27 = .ok (.getfield 40, 3) := by decide +kernel
theorem dX11_stranger_30 : decode cX11_stranger 30 = .ok (.iconst 0, 1) := by decide +kernel
theorem dX11_stranger_31 : decode cX11_stranger 31 = .ok (.iaload, 1) := by decide +kernel
theorem dX11_stranger_32 : decode cX11_stranger 32 = .ok (.ishl, 1) := by decide +kernel
theorem dX11_stranger_33 : decode cX11_stranger 33 = .ok (.if_icmp .lt 9, 3) := by decide +kernel
theorem dX11_stranger_36 : decode cX11_stranger 36 = .ok (.aload_n 0, 1) := by decide +kernel
theorem dX11_stranger_37 : decode cX11_stranger 37 = .ok (.iconst 2, 1) := by decide +kernel
theorem dX11_stranger_38 : decode cX11_stranger 38 = .ok (.invokevirtual 286, 3) := by decide +kernel
theorem dX11_stranger_41 : decode cX11_stranger 41 = .ok (.ireturn, 1) := by decide +kernel
theorem dX11_stranger_42 : decode cX11_stranger 42 = .ok (.aload_n 0, 1) := by decide +kernel
theorem dX11_stranger_43 : decode cX11_stranger 43 = .ok (.invokevirtual 388, 3) := by decide +kernel
theorem dX11_stranger_46 : decode cX11_stranger 46 = .ok (.iload_n 2, 1) := by decide +kernel
theorem dX11_stranger_47 : decode cX11_stranger 47 = .ok (.ifCond .ne 10, 3) := by decide +kernel
theorem dX11_stranger_50 : decode cX11_stranger 50 = .ok (.aload_n 0, 1) := by decide +kernel
theorem dX11_stranger_51 : decode cX11_stranger 51 = .ok (.getfield 120, 3) := by decide +kernel
theorem dX11_stranger_54 : decode cX11_stranger 54 = .ok (.iload_n 1, 1) := by decide +kernel
theorem dX11_stranger_55 : decode cX11_stranger 55 = .ok (.iaload, 1) := by decide +kernel
theorem dX11_stranger_56 : decode cX11_stranger 56 = .ok (.ireturn, 1) := by decide +kernel
theorem dX11_stranger_57 : decode cX11_stranger 57 = .ok (.iconst 0, 1) := by decide +kernel
theorem dX11_stranger_58 : decode cX11_stranger 58 = .ok (.istore_n 3, 1) := by decide +kernel
theorem dX11_stranger_59 : decode cX11_stranger 59 = .ok (.iload_n 3, 1) := by decide +kernel
theorem dX11_stranger_60 : decode cX11_stranger 60 = .ok (.aload_n 0, 1) := by decide +kernel
theorem dX11_stranger_61 : decode cX11_stranger 61 = .ok (.getfield 40, 3) := by decide +kernel
theorem dX11_stranger_64 : decode cX11_stranger 64 = .ok (.iconst 3, 1) := by decide +kernel
theorem dX11_stranger_65 : decode cX11_stranger 65 = .ok (.iaload, 1) := by decide +kernel
theorem dX11_stranger_66 : decode cX11_stranger 66 = .ok (.if_icmp .ge 35, 3) := by decide +kernel
theorem dX11_stranger_69 : decode cX11_stranger 69 = .ok (.aload_n 0, 1) := by decide +kernel
theorem dX11_stranger_70 : decode cX11_stranger 70 = .ok (.getfield 120, 3) := by decide +kernel
theorem dX11_stranger_73 : decode cX11_stranger 73 = .ok (.iload_n 1, 1) := by decide +kernel
theorem dX11_stranger_74 : decode cX11_stranger 74 = .ok (.iaload, 1) := by decide +kernel
theorem dX11_stranger_75 : decode cX11_stranger 75 = .ok (.ifCond .le 26, 3) := by decide +kernel
theorem dX11_stranger_78 : decode cX11_stranger 78 = .ok (.aload_n 0, 1) := by decide +kernel
theorem dX11_stranger_79 : decode cX11_stranger 79 = .ok (.iload_n 1, 1) := by decide +kernel
theorem dX11_stranger_80 : decode cX11_stranger 80 = .ok (.iload_n 3, 1) := by decide +kernel
theorem dX11_stranger_81 : decode cX11_stranger 81 = .ok (.invokevirtual 382, 3) := by decide +kernel
theorem dX11_stranger_84 : decode cX11_stranger 84 = .ok (.aload_n 0, 1) := by decide +kernel
theorem dX11_stranger_85 : decode cX11_stranger 85 = .ok (.getfield 120, 3) := by decide +kernel
theorem dX11_stranger_88 : decode cX11_stranger 88 = .ok (.iload_n 1, 1) := by decide +kernel
theorem dX11_stranger_89 : decode cX11_stranger 89 = .ok (.iaload, 1) := by decide +kernel
theorem dX11_stranger_90 : decode cX11_stranger 90 = .ok (.if_icmp .ne 5, 3) := by decide +kernel
theorem dX11_stranger_93 : decode cX11_stranger 93 = .ok (.iload_n 3, 1) := by decide +kernel
theorem dX11_stranger_94 : decode cX11_stranger 94 = .ok (.ireturn, 1) := by decide +kernel
theorem dX11_stranger_95 : decode cX11_stranger 95 = .ok (.iinc 3 1, 3) := by decide +kernel
theorem dX11_stranger_98 : decode cX11_stranger 98 = .ok (.goto (-39), 3) := by decide +kernel
theorem dX11_stranger_101 : decode cX11_stranger 101 = .ok (.iconst (-1), 1) := by decide +kernel
theorem dX11_stranger_102 : decode cX11_stranger 102 = .ok (.ireturn, 1) := by decide +kernel
theorem dX11_write_0 : decode cX11_write 0 = .ok (.aload_n 0, 1) := by decide +kernel
theorem dX11_write_1 : decode cX11_write 1 = .ok (.iconst 0, 1) := by decide +kernel
theorem dX11_write_2 : decode cX11_write 2 = .ok (.putfield 160, 3) := by decide +kernel
theorem dX11_write_5 : decode cX11_write 5 = .ok (.aload_n 0, 1) := by decide +kernel
theorem dX11_write_6 : decode cX11_write 6 = .ok (.iload_n 1, 1) := by decide +kernel
theorem dX11_write_7 : decode cX11_write 7 = .ok (.invokevirtual 312, 3) := by decide +kernel
theorem dX11_write_10 : decode cX11_write 10 = .ok (.ifCond .ne 9, 3) := by decide +kernel
theorem dX11_write_13 : decode cX11_write 13 = .ok (.aload_n 0, 1) := by decide +kernel
theorem dX11_write_14 : decode cX11_write 14 = .ok (.iconst 1, 1) := by decide +kernel
theorem dX11_write_15 : decode cX11_write 15 = .ok (.invokevirtual 286, 3) := by decide +kernel
theorem dX11_write_18 : decode cX11_write 18 = .ok (.ireturn, 1) := by decide +kernel
theorem dX11_write_19 : decode cX11_write 19 = .ok (.aload_n 0, 1) := by decide +kernel
theorem dX11_write_20 : decode cX11_write 20 = .ok (.getfield 302, 3) := by decide +kernel
theorem dX11_write_23 : decode cX11_write 23 = .ok (.bipush 40, 2) := by decide +kernel
theorem dX11_write_25 : decode cX11_write 25 = .ok (.if_icmp .ne 15, 3) := by decide +kernel
theorem dX11_write_28 : decode cX11_write 28 = .ok (.aload_n 0, 1) := by decide +kernel
theorem dX11_write_29 : decode cX11_write 29 = .ok (.getfield 66, 3) := by decide +kernel
theorem dX11_write_32 : decode cX11_write 32 = .ok (.iconst 3, 1) := by decide +kernel
theorem dX11_write_33 : decode cX11_write 33 = .ok (.dup2, 1) := by decide +kernel
theorem dX11_write_34 : decode cX11_write 34 = .ok (.iaload, 1) := by decide +kernel
theorem dX11_write_35 : decode cX11_write 35 = .ok (.iconst 1, 1) := by decide +kernel
theorem dX11_write_36 : decode cX11_write 36 = .ok (.iadd, 1) := by decide +kernel
theorem dX11_write_37 : decode cX11_write 37 = .ok (.iastore, 1) := by decide +kernel
theorem dX11_write_38 : decode cX11_write 38 = .ok (.iconst (-1), 1) := by decide +kernel
theorem dX11_write_39 : decode cX11_write 39 = .ok (.ireturn, 1) := by decide +kernel
theorem dX11_write_40 : decode cX11_write 40 = .ok (.aload_n 0, 1) := by decide +kernel
theorem dX11_write_41 : decode cX11_write 41 = .ok (.getfield 92, 3) := by decide +kernel
theorem dX11_write_44 : decode cX11_write 44 = .ok (.aload_n 0, 1) := by decide +kernel
theorem dX11_write_45 : decode cX11_write 45 = .ok (.getfield 302, 3) := by decide +kernel
theorem dX11_write_48 : decode cX11_write 48 = .ok (.iload_n 1, 1) := by decide +kernel
theorem dX11_write_49 : decode cX11_write 49 = .ok (.iastore, 1) := by decide +kernel
theorem dX11_write_50 : decode cX11_write 50 = .ok (.aload_n 0, 1) := by decide +kernel
theorem dX11_write_51 : decode cX11_write 51 = .ok (.dup, 1) := by decide +kernel
theorem dX11_write_52 : decode cX11_write 52 = .ok (.getfield 302, 3) := by decide +kernel
theorem dX11_write_55 : decode cX11_write 55 = .ok (.iconst 1, 1) := by decide +kernel
theorem dX11_write_56 : decode cX11_write 56 = .ok (.iadd, 1) := by decide +kernel
theorem dX11_write_57 : decode cX11_write 57 = .ok (.putfield 302, 3) := by decide +kernel
theorem dX11_write_60 : decode cX11_write 60 = .ok (.aload_n 0, 1) := by decide +kernel
theorem dX11_write_61 : decode cX11_write 61 = .ok (.getfield 302, 3) := by decide +kernel
theorem dX11_write_64 : decode cX11_write 64 = .ok (.ireturn, 1) := by decide +kernel
theorem dX11_clear_0 : decode cX11_clear 0 = .ok (.aload_n 0, 1) := by decide +kernel
theorem dX11_clear_1 : decode cX11_clear 1 = .ok (.iconst 0, 1) := by decide +kernel
theorem dX11_clear_2 : decode cX11_clear 2 = .ok (.putfield 160, 3) := by decide +kernel
theorem dX11_clear_5 : decode cX11_clear 5 = .ok (.aload_n 0, 1) := by decide +kernel
theorem dX11_clear_6 : decode cX11_clear 6 = .ok (.getfield 302, 3) := by decide +kernel
theorem dX11_clear_9 : decode cX11_clear 9 = .ok (.istore_n 1, 1) := by decide +kernel
theorem dX11_clear_10 : decode cX11_clear 10 = .ok (.aload_n 0, 1) := by decide +kernel
theorem dX11_clear_11 : decode cX11_clear 11 = .ok (.iconst 0, 1) := by decide +kernel
theorem dX11_clear_12 : decode cX11_clear 12 = .ok (.putfield 302, 3) := by decide +kernel
theorem dX11_clear_15 : decode cX11_clear 15 = .ok (.iload_n 1, 1) := by decide +kernel
theorem dX11_clear_16 : decode cX11_clear 16 = .ok (.ireturn, 1) := by decide +kernel
theorem dX11_offer_0 : decode cX11_offer 0 = .ok (.aload_n 0, 1) := by decide +kernel
theorem dX11_offer_1 : decode cX11_offer 1 = .ok (.getfield 126, 3) := by decide +kernel
theorem dX11_offer_4 : decode cX11_offer 4 = .ok (.iload_n 1, 1) := by decide +kernel
theorem dX11_offer_5 : decode cX11_offer 5 = .ok (.iaload, 1) := by decide +kernel
theorem dX11_offer_6 : decode cX11_offer 6 = .ok (.iconst (-1), 1) := by decide +kernel
theorem dX11_offer_7 : decode cX11_offer 7 = .ok (.if_icmp .eq 34, 3) := by decide +kernel
theorem dX11_offer_10 : decode cX11_offer 10 = .ok (.iload_n 2, 1) := by decide +kernel
theorem dX11_offer_11 : decode cX11_offer 11 = .ok (.aload_n 0, 1) := by decide +kernel
theorem dX11_offer_12 : decode cX11_offer 12 = .ok (.getfield 126, 3) := by decide +kernel
theorem dX11_offer_15 : decode cX11_offer 15 = .ok (.iload_n 1, 1) := by decide +kernel
theorem dX11_offer_16 : decode cX11_offer 16 = .ok (.iaload, 1) := by decide +kernel
theorem dX11_offer_17 : decode cX11_offer 17 = .ok (.if_icmp .gt 23, 3) := by decide +kernel
theorem dX11_offer_20 : decode cX11_offer 20 = .ok (.iload_n 2, 1) := by decide +kernel
theorem dX11_offer_21 : decode cX11_offer 21 = .ok (.aload_n 0, 1) := by decide +kernel
theorem dX11_offer_22 : decode cX11_offer 22 = .ok (.getfield 126, 3) := by decide +kernel
theorem dX11_offer_25 : decode cX11_offer 25 = .ok (.iload_n 1, 1) := by decide +kernel
theorem dX11_offer_26 : decode cX11_offer 26 = .ok (.iaload, 1) := by decide +kernel
theorem dX11_offer_27 : decode cX11_offer 27 = .ok (.if_icmp .ne 14, 3) := by decide +kernel
theorem dX11_offer_30 : decode cX11_offer 30 = .ok (.iload_n 3, 1) := by decide +kernel
theorem dX11_offer_31 : decode cX11_offer 31 = .ok (.aload_n 0, 1) := by decide +kernel
theorem dX11_offer_32 : decode cX11_offer 32 = .ok (.getfield 129, 3) := by decide +kernel
theorem dX11_offer_35 : decode cX11_offer 35 = .ok (.iload_n 1, 1) := by decide +kernel
theorem dX11_offer_36 : decode cX11_offer 36 = .ok (.iaload, 1) := by decide +kernel
theorem dX11_offer_37 : decode cX11_offer 37 = .ok (.if_icmp .gt 4, 3) := by decide +kernel
theorem dX11_offer_40 : decode cX11_offer 40 = .ok (.return_, 1) := by decide +kernel
theorem dX11_offer_41 : decode cX11_offer 41 = .ok (.aload_n 0, 1) := by decide +kernel
theorem dX11_offer_42 : decode cX11_offer 42 = .ok (.getfield 126, 3) := by decide +kernel
theorem dX11_offer_45 : decode cX11_offer 45 = .ok (.iload_n 1, 1) := by decide +kernel
theorem dX11_offer_46 : decode cX11_offer 46 = .ok (.iload_n 2, 1) := by decide +kernel
theorem dX11_offer_47 : decode cX11_offer 47 = .ok (.iastore, 1) := by decide +kernel
theorem dX11_offer_48 : decode cX11_offer 48 = .ok (.aload_n 0, 1) := by decide +kernel
theorem dX11_offer_49 : decode cX11_offer 49 = .ok (.getfield 129, 3) := by decide +kernel
theorem dX11_offer_52 : decode cX11_offer 52 = .ok (.iload_n 1, 1) := by decide +kernel
theorem dX11_offer_53 : decode cX11_offer 53 = .ok (.iload_n 3, 1) := by decide +kernel
theorem dX11_offer_54 : decode cX11_offer 54 = .ok (.iastore, 1) := by decide +kernel
theorem dX11_offer_55 : decode cX11_offer 55 = .ok (.return_, 1) := by decide +kernel
theorem dX11_register_0 : decode cX11_register 0 = .ok (.aload_n 0, 1) := by decide +kernel
theorem dX11_register_1 : decode cX11_register 1 = .ok (.iconst 0, 1) := by decide +kernel
theorem dX11_register_2 : decode cX11_register 2 = .ok (.putfield 160, 3) := by decide +kernel
theorem dX11_register_5 : decode cX11_register 5 = .ok (.iload_n 1, 1) := by decide +kernel
theorem dX11_register_6 : decode cX11_register 6 = .ok (.iconst 0, 1) := by decide +kernel
theorem dX11_register_7 : decode cX11_register 7 = .ok (.bipush 99, 2) := by decide +kernel
theorem dX11_register_9 : decode cX11_register 9 = .ok (.invokestatic 163, 3) := by decide +kernel
theorem dX11_register_12 : decode cX11_register 12 = .ok (.ifCond .eq 12, 3) := by decide +kernel
theorem dX11_register_15 : decode cX11_register 15 = .ok (.iload_n 2, 1) := by decide +kernel
theorem dX11_register_16 : decode cX11_register 16 = .ok (.iconst 0, 1) := by decide +kernel
theorem dX11_register_17 : decode cX11_register 17 = .ok (.iconst 2, 1) := by decide +kernel
theorem dX11_register_18 : decode cX11_register 18 = .ok (.invokestatic 163, 3) := by decide +kernel
theorem dX11_register_21 : decode cX11_register 21 = .ok (.ifCond .ne 9, 3) := by decide +kernel
theorem dX11_register_24 : decode cX11_register 24 = .ok (.aload_n 0, 1) := by decide +kernel
theorem dX11_register_25 : decode cX11_register 25 = .ok (.iconst 1, 1) := by decide +kernel
theorem dX11_register_26 : decode cX11_register 26 = .ok (.invokevirtual 286, 3) := by decide +kernel
theorem dX11_register_29 : decode cX11_register 29 = .ok (.ireturn, 1) := by decide +kernel
theorem dX11_register_30 : decode cX11_register 30 = .ok (.iconst 0, 1) := by decide +kernel
theorem dX11_register_31 : decode cX11_register 31 = .ok (.istore_n 3, 1) := by decide +kernel
theorem dX11_register_32 : decode cX11_register 32 = .ok (.iconst 0, 1) := by decide +kernel
theorem dX11_register_33 : decode cX11_register 33 = .ok (.istore 4, 2) := by decide +kernel
theorem dX11_register_35 : decode cX11_register 35 = .ok (.iload 4, 2) := by decide +kernel
theorem dX11_register_37 : decode cX11_register 37 = .ok (.aload_n 0, 1) := by decide +kernel
theorem dX11_register_38 : decode cX11_register 38 = .ok (.getfield 296, 3) := by decide +kernel
theorem dX11_register_41 : decode cX11_register 41 = .ok (.if_icmp .ge 42, 3) := by decide +kernel
theorem dX11_register_44 : decode cX11_register 44 = .ok (.aload_n 0, 1) := by decide +kernel
theorem dX11_register_45 : decode cX11_register 45 = .ok (.getfield 75, 3) := by decide +kernel
theorem dX11_register_48 : decode cX11_register 48 = .ok (.iload 4, 2) := by decide +kernel
theorem dX11_register_50 : decode cX11_register 50 = .ok (.iaload, 1) := by decide +kernel
theorem dX11_register_51 : decode cX11_register 51 = .ok (.bipush 24, 2) := by decide +kernel
theorem dX11_register_53 : decode cX11_register 53 = .ok (.idiv, 1) := by decide +kernel
theorem dX11_register_54 : decode cX11_register 54 = .ok (.iload_n 1, 1) := by decide +kernel
theorem dX11_register_55 : decode cX11_register 55 = .ok (.if_icmp .eq 6, 3) := by decide +kernel
theorem dX11_register_58 : decode cX11_register 58 = .ok (.goto 19, 3) := by decide +kernel
theorem dX11_register_61 : decode cX11_register 61 = .ok (.aload_n 0, 1) := by decide +kernel
theorem dX11_register_62 : decode cX11_register 62 = .ok (.getfield 123, 3) := by decide +kernel
theorem dX11_register_65 : decode cX11_register 65 = .ok (.iload_n 3, 1) := by decide +kernel
theorem dX11_register_66 : decode cX11_register 66 = .ok (.aload_n 0, 1) := by decide +kernel
theorem dX11_register_67 : decode cX11_register 67 = .ok (.getfield 69, 3) := by decide +kernel
theorem dX11_register_70 : decode cX11_register 70 = .ok (.iload 4, 2) := by decide +kernel
theorem dX11_register_72 : decode cX11_register 72 = .ok (.iaload, 1) := by decide +kernel
theorem dX11_register_73 : decode cX11_register 73 = .ok (.iastore, 1) := by decide +kernel
theorem dX11_register_74 : decode cX11_register 74 = .ok (.iinc 3 1, 3) := by decide +kernel
theorem dX11_register_77 : decode cX11_register 77 = .ok (.iinc 4 1, 3) := by decide +kernel
theorem dX11_register_80 : decode cX11_register 80 = .ok (.goto (-45), 3) := by decide +kernel
theorem dX11_register_83 : decode cX11_register 83 = .ok (.iload_n 2, 1) := by decide +kernel
theorem dX11_register_84 : decode cX11_register 84 = .ok (.iconst 2, 1) := by decide +kernel
theorem dX11_register_85 : decode cX11_register 85 = .ok (.if_icmp .ne 5, 3) := by decide +kernel
theorem dX11_register_88 : decode cX11_register 88 = .ok (.iload_n 3, 1) := by decide +kernel
theorem dX11_register_89 : decode cX11_register 89 = .ok (.ireturn, 1) := by decide +kernel
theorem dX11_register_90 : decode cX11_register 90 = .ok (.iload_n 3, 1) := by decide +kernel
theorem dX11_register_91 : decode cX11_register 91 = .ok (.iconst 1, 1) := by decide +kernel
theorem dX11_register_92 : decode cX11_register 92 = .ok (.iadd, 1) := by decide +kernel
theorem dX11_register_93 : decode cX11_register 93 = .ok (.istore 4, 2) := by decide +kernel
theorem dX11_register_95 : decode cX11_register 95 = .ok (.iconst 0, 1) := by decide +kernel
theorem dX11_register_96 : decode cX11_register 96 = .ok (.istore 5, 2) := by decide +kernel
theorem dX11_register_98 : decode cX11_register 98 = .ok (.iload 5, 2) := by decide +kernel
theorem dX11_register_100 : decode cX11_register 100 = .ok (.aload_n 0, 1) := by decide +kernel
theorem dX11_register_101 : decode cX11_register 101 = .ok (.getfield 302, 3) := by decide +kernel
theorem dX11_register_104 : decode cX11_register 104 = .ok (.if_icmp .gt 197, 3) := by decide +kernel
theorem dX11_register_107 : decode cX11_register 107 = .ok (.iconst 0, 1) := by decide +kernel
theorem dX11_register_108 : decode cX11_register 108 = .ok (.istore 6, 2) := by decide +kernel
theorem dX11_register_110 : decode cX11_register 110 = .ok (.iload 6, 2) := by decide +kernel
theorem dX11_register_112 : decode cX11_register 112 = .ok (.iload_n 3, 1) := by decide +kernel
theorem dX11_register_113 : decode cX11_register 113 = .ok (.if_icmp .gt 182, 3) := by decide +kernel
theorem dX11_register_116 : decode cX11_register 116 = .ok (.iload 4, 2) := by decide +kernel
theorem dX11_register_118 : decode cX11_register 118 = .ok (.iload 5, 2) := by decide +kernel
theorem dX11_register_120 : decode cX11_register 120 = .ok (.imul, 1) := by decide +kernel
theorem dX11_register_121 : decode cX11_register 121 = .ok (.iload 6, 2) := by decide +kernel
theorem dX11_register_123 : decode cX11_register 123 = .ok (.iadd, 1) := by decide +kernel
theorem dX11_register_124 : decode cX11_register 124 = .ok (.istore 7, 2) := by decide +kernel
theorem dX11_register_126 : decode cX11_register 126 = .ok (.aload_n 0, 1) := by decide +kernel
theorem dX11_register_127 : decode cX11_register 127 = .ok (.getfield 126, 3) := by decide +kernel
theorem dX11_register_130 : decode cX11_register 130 = .ok (.iload 7, 2) := by decide +kernel
theorem dX11_register_132 : decode cX11_register 132 = .ok (.iload 5, 2) := by decide +kernel
theorem dX11_register_134 : decode cX11_register 134 = .ok (.ifCond .ne 12, 3) := by decide +kernel
theorem dX11_register_137 : decode cX11_register 137 = .ok (.iload 6, 2) := by decide +kernel
theorem dX11_register_139 : decode cX11_register 139 = .ok (.ifCond .ne 7, 3) := by decide +kernel
theorem dX11_register_142 : decode cX11_register 142 = .ok (.iconst 0, 1) := by decide +kernel
theorem dX11_register_143 : decode cX11_register 143 = .ok (.goto 4, 3) := by decide +kernel
theorem dX11_register_146 : decode cX11_register 146 = .ok (.iconst (-1), 1) := by decide +kernel
theorem dX11_register_147 : decode cX11_register 147 = .ok (.iastore, 1) := by decide +kernel
theorem dX11_register_148 : decode cX11_register 148 = .ok (.aload_n 0, 1) := by decide +kernel
theorem dX11_register_149 : decode cX11_register 149 = .ok (.getfield 129, 3) := by decide +kernel
theorem dX11_register_152 : decode cX11_register 152 = .ok (.iload 7, 2) := by decide +kernel
theorem dX11_register_154 : decode cX11_register 154 = .ok (.iconst 0, 1) := by decide +kernel
theorem dX11_register_155 : decode cX11_register 155 = .ok (.iastore, 1) := by decide +kernel
theorem dX11_register_156 : decode cX11_register 156 = .ok (.iload 5, 2) := by decide +kernel
theorem dX11_register_158 : decode cX11_register 158 = .ok (.ifCond .le 31, 3) := by decide +kernel
theorem dX11_register_161 : decode cX11_register 161 = .ok (.aload_n 0, 1) := by decide +kernel
theorem dX11_register_162 : decode cX11_register 162 = .ok (.iload 7, 2) := by decide +kernel
theorem dX11_register_164 : decode cX11_register 164 = .ok (.aload_n 0, 1) := by decide +kernel
theorem dX11_register_165 : decode cX11_register 165 = .ok (.getfield 126, 3) := by decide +kernel
theorem dX11_register_168 : decode cX11_register 168 = .ok (.iload 7, 2) := by decide +kernel
theorem dX11_register_170 : decode cX11_register 170 = .ok (.iload 4, 2) := by decide +kernel
theorem dX11_register_172 : decode cX11_register 172 = .ok (.isub, 1) := by decide +kernel
theorem dX11_register_173 : decode cX11_register 173 = .ok (.iaload, 1) := by decide +kernel
theorem dX11_register_174 : decode cX11_register 174 = .ok (.iconst 1, 1) := by decide +kernel
theorem dX11_register_175 : decode cX11_register 175 = .ok (.iadd, 1) := by decide +kernel
theorem dX11_register_176 : decode cX11_register 176 = .ok (.aload_n 0, 1) := by decide +kernel
theorem dX11_register_177 : decode cX11_register 177 = .ok (.getfield 129, 3) := by decide +kernel
theorem dX11_register_180 : decode cX11_register 180 = .ok (.iload 7, 2) := by decide +kernel
theorem dX11_register_182 : decode cX11_register 182 = .ok (.iload 4, 2) := by decide +kernel
theorem dX11_register_184 : decode cX11_register 184 = .ok (.isub, 1) := by decide +kernel
theorem dX11_register_185 : decode cX11_register 185 = .ok (.iaload, 1) := by decide +kernel
theorem dX11_register_186 : decode cX11_register 186 = .ok (.invokevirtual 391, 3) := by decide +kernel
theorem dX11_register_189 : decode cX11_register 189 = .ok (.iload 6, 2) := by decide +kernel
theorem dX11_register_191 : decode cX11_register 191 = .ok (.ifCond .le 31, 3) := by decide +kernel
theorem dX11_register_194 : decode cX11_register 194 = .ok (.aload_n 0, 1) := by decide +kernel
theorem dX11_register_195 : decode cX11_register 195 = .ok (.iload 7, 2) := by decide +kernel
theorem dX11_register_197 : decode cX11_register 197 = .ok (.aload_n 0, 1) := by decide +kernel
theorem dX11_register_198 : decode cX11_register 198 = .ok (.getfield 126, 3) := by decide +kernel
theorem dX11_register_201 : decode cX11_register 201 = .ok (.iload 7, 2) := by decide +kernel
theorem dX11_register_203 : decode cX11_register 203 = .ok (.iconst 1, 1) := by decide +kernel
theorem dX11_register_204 : decode cX11_register 204 = .ok (.isub, 1) := by decide +kernel
theorem dX11_register_205 : decode cX11_register 205 = .ok (.iaload, 1) := by decide +kernel
theorem dX11_register_206 : decode cX11_register 206 = .ok (.iconst 1, 1) := by decide +kernel
theorem dX11_register_207 : decode cX11_register 207 = .ok (.iadd, 1) := by decide +kernel
theorem dX11_register_208 : decode cX11_register 208 = .ok (.aload_n 0, 1) := by decide +kernel
theorem dX11_register_209 : decode cX11_register 209 = .ok (.getfield 129, 3) := by decide +kernel
theorem dX11_register_212 : decode cX11_register 212 = .ok (.iload 7, 2) := by decide +kernel
theorem dX11_register_214 : decode cX11_register 214 = .ok (.iconst 1, 1) := by decide +kernel
theorem dX11_register_215 : decode cX11_register 215 = .ok (.isub, 1) := by decide +kernel
theorem dX11_register_216 : decode cX11_register 216 = .ok (.iaload, 1) := by decide +kernel
theorem dX11_register_217 : decode cX11_register 217 = .ok (.iconst 1, 1) := by decide +kernel
theorem dX11_register_218 : decode cX11_register 218 = .ok (.iadd, 1) := by decide +kernel
theorem dX11_register_219 : decode cX11_register 219 = .ok (.invokevirtual 391, 3) := by decide +kernel
theorem dX11_register_222 : decode cX11_register 222 = .ok (.iload 5, 2) := by decide +kernel
theorem dX11_register_224 : decode cX11_register 224 = .ok (.ifCond .le 65, 3) := by decide +kernel
theorem dX11_register_227 : decode cX11_register 227 = .ok (.iload 6, 2) := by decide +kernel
theorem dX11_register_229 : decode cX11_register 229 = .ok (.ifCond .le 60, 3) := by decide +kernel
theorem dX11_register_232 : decode cX11_register 232 = .ok (.aload_n 0, 1) := by decide +kernel
theorem dX11_register_233 : decode cX11_register 233 = .ok (.iload 7, 2) := by decide +kernel
theorem dX11_register_235 : decode cX11_register 235 = .ok (.aload_n 0, 1) := by decide +kernel
theorem dX11_register_236 : decode cX11_register 236 = .ok (.getfield 126, 3) := by decide +kernel
theorem dX11_register_239 : decode cX11_register 239 = .ok (.iload 7, 2) := by decide +kernel
theorem dX11_register_241 : decode cX11_register 241 = .ok (.iload 4, 2) := by decide +kernel
theorem dX11_register_243 : decode cX11_register 243 = .ok (.isub, 1) := by decide +kernel
theorem dX11_register_244 : decode cX11_register 244 = .ok (.iconst 1, 1) := by decide +kernel
theorem dX11_register_245 : decode cX11_register 245 = .ok (.isub, 1) := by decide +kernel
theorem dX11_register_246 : decode cX11_register 246 = .ok (.iaload, 1) := by decide +kernel
theorem dX11_register_247 : decode cX11_register 247 = .ok (.aload_n 0, 1) := by decide +kernel
theorem dX11_register_248 : decode cX11_register 248 = .ok (.getfield 92, 3) := by decide +kernel
theorem dX11_register_251 : decode cX11_register 251 = .ok (.iload 5, 2) := by decide +kernel
theorem dX11_register_253 : decode cX11_register 253 = .ok (.iconst 1, 1) := by decide +kernel
theorem dX11_register_254 : decode cX11_register 254 = .ok (.isub, 1) := by decide +kernel
theorem dX11_register_255 : decode cX11_register 255 = .ok (.iaload, 1) := by decide +kernel
theorem dX11_register_256 : decode cX11_register 256 = .ok (.aload_n 0, 1) := by decide +kernel
theorem dX11_register_257 : decode cX11_register 257 = .ok (.getfield 123, 3) := by decide +kernel
theorem dX11_register_260 : decode cX11_register 260 = .ok (.iload 6, 2) := by decide +kernel
theorem dX11_register_262 : decode cX11_register 262 = .ok (.iconst 1, 1) := by decide +kernel
theorem dX11_register_263 : decode cX11_register 263 = .ok (.isub, 1) := by decide +kernel
theorem dX11_register_264 : decode cX11_register 264 = .ok (.iaload, 1) := by decide +kernel
theorem dX11_register_265 : decode cX11_register 265 = .ok (.if_icmp .ne 7, 3) := by decide +kernel
theorem dX11_register_268 : decode cX11_register 268 = .ok (.iconst 0, 1) := by decide +kernel
theorem dX11_register_269 : decode cX11_register 269 = .ok (.goto 4, 3) := by decide +kernel
theorem dX11_register_272 : decode cX11_register 272 = .ok (.iconst 1, 1) := by decide +kernel
theorem dX11_register_273 : decode cX11_register 273 = .ok (.iadd, 1) := by decide +kernel
theorem dX11_register_274 : decode cX11_register 274 = .ok (.aload_n 0, 1) := by decide +kernel
theorem dX11_register_275 : decode cX11_register 275 = .ok (.getfield 129, 3) := by decide +kernel
theorem dX11_register_278 : decode cX11_register 278 = .ok (.iload 7, 2) := by decide +kernel
theorem dX11_register_280 : decode cX11_register 280 = .ok (.iload 4, 2) := by decide +kernel
theorem dX11_register_282 : decode cX11_register 282 = .ok (.isub, 1) := by decide +kernel
theorem dX11_register_283 : decode cX11_register 283 = .ok (.iconst 1, 1) := by decide +kernel
theorem dX11_register_284 : decode cX11_register 284 = .ok (.isub, 1) := by decide +kernel
theorem dX11_register_285 : decode cX11_register 285 = .ok (.iaload, 1) := by decide +kernel
theorem dX11_register_286 : decode cX11_register 286 = .ok (.invokevirtual 391, 3) := by decide +kernel
theorem dX11_register_289 : decode cX11_register 289 = .ok (.iinc 6 1, 3) := by decide +kernel
theorem dX11_register_292 : decode cX11_register 292 = .ok (.goto (-182), 3) := by decide +kernel
theorem dX11_register_295 : decode cX11_register 295 = .ok (.iinc 5 1, 3) := by decide +kernel
theorem dX11_register_298 : decode cX11_register 298 = .ok (.goto (-200), 3) := by decide +kernel
theorem dX11_register_301 : decode cX11_register 301 = .ok (.iload 4, 2) := by decide +kernel
theorem dX11_register_303 : decode cX11_register 303 = .ok (.aload_n 0, 1) := by decide +kernel
theorem dX11_register_304 : decode cX11_register 304 = .ok (.getfield 302, 3) := by decide +kernel
theorem dX11_register_307 : decode cX11_register 307 = .ok (.imul, 1) := by decide +kernel
theorem dX11_register_308 : decode cX11_register 308 = .ok (.iload_n 3, 1) := by decide +kernel
theorem dX11_register_309 : decode cX11_register 309 = .ok (.iadd, 1) := by decide +kernel
theorem dX11_register_310 : decode cX11_register 310 = .ok (.istore 5, 2) := by decide +kernel
theorem dX11_register_312 : decode cX11_register 312 = .ok (.iload_n 2, 1) := by decide +kernel
theorem dX11_register_313 : decode cX11_register 313 = .ok (.ifCond .ne 13, 3) := by decide +kernel
theorem dX11_register_316 : decode cX11_register 316 = .ok (.aload_n 0, 1) := by decide +kernel
theorem dX11_register_317 : decode cX11_register 317 = .ok (.getfield 126, 3) := by decide +kernel
theorem dX11_register_320 : decode cX11_register 320 = .ok (.iload 5, 2) := by decide +kernel
theorem dX11_register_322 : decode cX11_register 322 = .ok (.iaload, 1) := by decide +kernel
theorem dX11_register_323 : decode cX11_register 323 = .ok (.goto 10, 3) := by decide +kernel
theorem dX11_register_326 : decode cX11_register 326 = .ok (.aload_n 0, 1) := by decide +kernel
theorem dX11_register_327 : decode cX11_register 327 = .ok (.getfield 129, 3) := by decide +kernel
theorem dX11_register_330 : decode cX11_register 330 = .ok (.iload 5, 2) := by decide +kernel
theorem dX11_register_332 : decode cX11_register 332 = .ok (.iaload, 1) := by decide +kernel
theorem dX11_register_333 : decode cX11_register 333 = .ok (.ireturn, 1) := by decide +kernel
theorem dX11_hoursOf_0 : decode cX11_hoursOf 0 = .ok (.iconst 0, 1) := by decide +kernel
theorem dX11_hoursOf_1 : decode cX11_hoursOf 1 = .ok (.istore 5, 2) := by decide +kernel
theorem dX11_hoursOf_3 : decode cX11_hoursOf 3 = .ok (.iload_n 3, 1) := by decide +kernel
theorem dX11_hoursOf_4 : decode cX11_hoursOf 4 = .ok (.istore 6, 2) := by decide +kernel
theorem dX11_hoursOf_6 : decode cX11_hoursOf 6 = .ok (.iload 6, 2) := by decide +kernel
theorem dX11_hoursOf_8 : decode cX11_hoursOf 8 = .ok (.iload 4, 2) := by decide +kernel
theorem dX11_hoursOf_10 : decode cX11_hoursOf 10 = .ok (.if_icmp .gt 30, 3) := by decide +kernel
theorem dX11_hoursOf_13 : decode cX11_hoursOf 13 = .ok (.iload 5, 2) := by decide +kernel
theorem dX11_hoursOf_15 : decode cX11_hoursOf 15 = .ok (.aload_n 0, 1) := by decide +kernel
theorem dX11_hoursOf_16 : decode cX11_hoursOf 16 = .ok (.iload_n 2, 1) := by decide +kernel
theorem dX11_hoursOf_17 : decode cX11_hoursOf 17 = .ok (.iload 6, 2) := by decide +kernel
theorem dX11_hoursOf_19 : decode cX11_hoursOf 19 = .ok (.invokevirtual 341, 3) := by decide +kernel
theorem dX11_hoursOf_22 : decode cX11_hoursOf 22 = .ok (.iload_n 1, 1) := by decide +kernel
theorem dX11_hoursOf_23 : decode cX11_hoursOf 23 = .ok (.if_icmp .ne 7, 3) := by decide +kernel
theorem dX11_hoursOf_26 : decode cX11_hoursOf 26 = .ok (.iconst 1, 1) := by decide +kernel
theorem dX11_hoursOf_27 : decode cX11_hoursOf 27 = .ok (.goto 4, 3) := by decide +kernel
theorem dX11_hoursOf_30 : decode cX11_hoursOf 30 = .ok (.iconst 0, 1) := by decide +kernel
theorem dX11_hoursOf_31 : decode cX11_hoursOf 31 = .ok (.iadd, 1) := by decide +kernel
theorem dX11_hoursOf_32 : decode cX11_hoursOf 32 = .ok (.istore 5, 2) := by decide +kernel
theorem dX11_hoursOf_34 : decode cX11_hoursOf 34 = .ok (.iinc 6 1, 3) := by decide +kernel
theorem dX11_hoursOf_37 : decode cX11_hoursOf 37 = .ok (.goto (-31), 3) := by decide +kernel
theorem dX11_hoursOf_40 : decode cX11_hoursOf 40 = .ok (.iload 5, 2) := by decide +kernel
theorem dX11_hoursOf_42 : decode cX11_hoursOf 42 = .ok (.ireturn, 1) := by decide +kernel
theorem dX11_will_0 : decode cX11_will 0 = .ok (.aload_n 0, 1) := by decide +kernel
theorem dX11_will_1 : decode cX11_will 1 = .ok (.iconst 0, 1) := by decide +kernel
theorem dX11_will_2 : decode cX11_will 2 = .ok (.putfield 160, 3) := by decide +kernel
theorem dX11_will_5 : decode cX11_will 5 = .ok (.aload_n 0, 1) := by decide +kernel
theorem dX11_will_6 : decode cX11_will 6 = .ok (.iload_n 1, 1) := by decide +kernel
theorem dX11_will_7 : decode cX11_will 7 = .ok (.invokevirtual 312, 3) := by decide +kernel
theorem dX11_will_10 : decode cX11_will 10 = .ok (.ifCond .eq 37, 3) := by decide +kernel
theorem dX11_will_13 : decode cX11_will 13 = .ok (.aload_n 0, 1) := by decide +kernel
theorem dX11_will_14 : decode cX11_will 14 = .ok (.iload_n 2, 1) := by decide +kernel
theorem dX11_will_15 : decode cX11_will 15 = .ok (.invokevirtual 315, 3) := by decide +kernel
theorem dX11_will_18 : decode cX11_will 18 = .ok (.ifCond .eq 29, 3) := by decide +kernel
theorem dX11_will_21 : decode cX11_will 21 = .ok (.iload_n 3, 1) := by decide +kernel
theorem dX11_will_22 : decode cX11_will 22 = .ok (.invokestatic 338, 3) := by decide +kernel
theorem dX11_will_25 : decode cX11_will 25 = .ok (.ifCond .eq 22, 3) := by decide +kernel
theorem dX11_will_28 : decode cX11_will 28 = .ok (.iload 4, 2) := by decide +kernel
theorem dX11_will_30 : decode cX11_will 30 = .ok (.invokestatic 338, 3) := by decide +kernel
theorem dX11_will_33 : decode cX11_will 33 = .ok (.ifCond .eq 14, 3) := by decide +kernel
theorem dX11_will_36 : decode cX11_will 36 = .ok (.iload 5, 2) := by decide +kernel
theorem dX11_will_38 : decode cX11_will 38 = .ok (.ifCond .lt 9, 3) := by decide +kernel
theorem dX11_will_41 : decode cX11_will 41 = .ok (.iload 5, 2) := by decide +kernel
theorem dX11_will_43 : decode cX11_will 43 = .ok (.iconst 1, 1) := by decide +kernel
theorem dX11_will_44 : decode cX11_will 44 = .ok (.if_icmp .le 9, 3) := by decide +kernel
theorem dX11_will_47 : decode cX11_will 47 = .ok (.aload_n 0, 1) := by decide +kernel
theorem dX11_will_48 : decode cX11_will 48 = .ok (.iconst 1, 1) := by decide +kernel
theorem dX11_will_49 : decode cX11_will 49 = .ok (.invokevirtual 286, 3) := by decide +kernel
theorem dX11_will_52 : decode cX11_will 52 = .ok (.ireturn, 1) := by decide +kernel
theorem dX11_will_53 : decode cX11_will 53 = .ok (.iload_n 3, 1) := by decide +kernel
theorem dX11_will_54 : decode cX11_will 54 = .ok (.iload 4, 2) := by decide +kernel
theorem dX11_will_56 : decode cX11_will 56 = .ok (.if_icmp .le 9, 3) := by decide +kernel
theorem dX11_will_59 : decode cX11_will 59 = .ok (.aload_n 0, 1) := by decide +kernel
theorem dX11_will_60 : decode cX11_will 60 = .ok (.iconst 2, 1) := by decide +kernel
theorem dX11_will_61 : decode cX11_will 61 = .ok (.invokevirtual 286, 3) := by decide +kernel
theorem dX11_will_64 : decode cX11_will 64 = .ok (.ireturn, 1) := by decide +kernel
theorem dX11_will_65 : decode cX11_will 65 = .ok (.aload_n 0, 1) := by decide +kernel
theorem dX11_will_66 : decode cX11_will 66 = .ok (.iload_n 1, 1) := by decide +kernel
theorem dX11_will_67 : decode cX11_will 67 = .ok (.iload_n 2, 1) := by decide +kernel
theorem dX11_will_68 : decode cX11_will 68 = .ok (.iload_n 3, 1) := by decide +kernel
theorem dX11_will_69 : decode cX11_will 69 = .ok (.iload 4, 2) := by decide +kernel
theorem dX11_will_71 : decode cX11_will 71 = .ok (.invokevirtual 395, 3) := by decide +kernel
theorem dX11_will_74 : decode cX11_will 74 = .ok (.istore 6, 2) := by decide +kernel
theorem dX11_will_76 : decode cX11_will 76 = .ok (.iload 5, 2) := by decide +kernel
theorem dX11_will_78 : decode cX11_will 78 = .ok (.ifCond .ne 6, 3) := by decide +kernel
theorem dX11_will_81 : decode cX11_will 81 = .ok (.iload 6, 2) := by decide +kernel
theorem dX11_will_83 : decode cX11_will 83 = .ok (.ireturn, 1) := by decide +kernel
theorem dX11_will_84 : decode cX11_will 84 = .ok (.iconst 0, 1) := by decide +kernel
theorem dX11_will_85 : decode cX11_will 85 = .ok (.istore 7, 2) := by decide +kernel
theorem dX11_will_87 : decode cX11_will 87 = .ok (.iconst 0, 1) := by decide +kernel
theorem dX11_will_88 : decode cX11_will 88 = .ok (.istore 8, 2) := by decide +kernel
theorem dX11_will_90 : decode cX11_will 90 = .ok (.iload 8, 2) := by decide +kernel
theorem dX11_will_92 : decode cX11_will 92 = .ok (.aload_n 0, 1) := by decide +kernel
theorem dX11_will_93 : decode cX11_will 93 = .ok (.getfield 40, 3) := by decide +kernel
theorem dX11_will_96 : decode cX11_will 96 = .ok (.iconst 0, 1) := by decide +kernel
theorem dX11_will_97 : decode cX11_will 97 = .ok (.iaload, 1) := by decide +kernel
theorem dX11_will_98 : decode cX11_will 98 = .ok (.if_icmp .ge 24, 3) := by decide +kernel
theorem dX11_will_101 : decode cX11_will 101 = .ok (.iload 7, 2) := by decide +kernel
theorem dX11_will_103 : decode cX11_will 103 = .ok (.aload_n 0, 1) := by decide +kernel
theorem dX11_will_104 : decode cX11_will 104 = .ok (.iload_n 1, 1) := by decide +kernel
theorem dX11_will_105 : decode cX11_will 105 = .ok (.iload 8, 2) := by decide +kernel
theorem dX11_will_107 : decode cX11_will 107 = .ok (.iload_n 3, 1) := by decide +kernel
theorem dX11_will_108 : decode cX11_will 108 = .ok (.iload 4, 2) := by decide +kernel
theorem dX11_will_110 : decode cX11_will 110 = .ok (.invokevirtual 395, 3) := by decide +kernel
theorem dX11_will_113 : decode cX11_will 113 = .ok (.iadd, 1) := by decide +kernel
theorem dX11_will_114 : decode cX11_will 114 = .ok (.istore 7, 2) := by decide +kernel
theorem dX11_will_116 : decode cX11_will 116 = .ok (.iinc 8 1, 3) := by decide +kernel
theorem dX11_will_119 : decode cX11_will 119 = .ok (.goto (-29), 3) := by decide +kernel
theorem dX11_will_122 : decode cX11_will 122 = .ok (.iload 7, 2) := by decide +kernel
theorem dX11_will_124 : decode cX11_will 124 = .ok (.ifCond .ne 7, 3) := by decide +kernel
theorem dX11_will_127 : decode cX11_will 127 = .ok (.iconst 0, 1) := by decide +kernel
theorem dX11_will_128 : decode cX11_will 128 = .ok (.goto 12, 3) := by decide +kernel
theorem dX11_will_131 : decode cX11_will 131 = .ok (.sipush 1000, 3) := by decide +kernel
theorem dX11_will_134 : decode cX11_will 134 = .ok (.iload 6, 2) := by decide +kernel
theorem dX11_will_136 : decode cX11_will 136 = .ok (.imul, 1) := by decide +kernel
theorem dX11_will_137 : decode cX11_will 137 = .ok (.iload 7, 2) := by decide +kernel
theorem dX11_will_139 : decode cX11_will 139 = .ok (.idiv, 1) := by decide +kernel
theorem dX11_will_140 : decode cX11_will 140 = .ok (.ireturn, 1) := by decide +kernel
theorem dX11_lastOf_0 : decode cX11_lastOf 0 = .ok (.iconst 0, 1) := by decide +kernel
theorem dX11_lastOf_1 : decode cX11_lastOf 1 = .ok (.istore_n 2, 1) := by decide +kernel
theorem dX11_lastOf_2 : decode cX11_lastOf 2 = .ok (.iload_n 2, 1) := by decide +kernel
theorem dX11_lastOf_3 : decode cX11_lastOf 3 = .ok (.bipush 16, 2) := by decide +kernel
theorem dX11_lastOf_5 : decode cX11_lastOf 5 = .ok (.if_icmp .gt 26, 3) := by decide +kernel
theorem dX11_lastOf_8 : decode cX11_lastOf 8 = .ok (.aload_n 0, 1) := by decide +kernel
theorem dX11_lastOf_9 : decode cX11_lastOf 9 = .ok (.getfield 132, 3) := by decide +kernel
theorem dX11_lastOf_12 : decode cX11_lastOf 12 = .ok (.iload_n 2, 1) := by decide +kernel
theorem dX11_lastOf_13 : decode cX11_lastOf 13 = .ok (.iload_n 2, 1) := by decide +kernel
theorem dX11_lastOf_14 : decode cX11_lastOf 14 = .ok (.ifCond .ne 9, 3) := by decide +kernel
theorem dX11_lastOf_17 : decode cX11_lastOf 17 = .ok (.ldc_w 399, 3) := by decide +kernel
theorem dX11_lastOf_20 : decode cX11_lastOf 20 = .ok (.goto 4, 3) := by decide +kernel
theorem dX11_lastOf_23 : decode cX11_lastOf 23 = .ok (.iconst 0, 1) := by decide +kernel
theorem dX11_lastOf_24 : decode cX11_lastOf 24 = .ok (.iastore, 1) := by decide +kernel
theorem dX11_lastOf_25 : decode cX11_lastOf 25 = .ok (.iinc 2 1, 3) := by decide +kernel
theorem dX11_lastOf_28 : decode cX11_lastOf 28 = .ok (.goto (-26), 3) := by decide +kernel
theorem dX11_lastOf_31 : decode cX11_lastOf 31 = .ok (.iconst 0, 1) := by decide +kernel
theorem dX11_lastOf_32 : decode cX11_lastOf 32 = .ok (.istore_n 2, 1) := by decide +kernel
theorem dX11_lastOf_33 : decode cX11_lastOf 33 = .ok (.iconst 0, 1) := by decide +kernel
theorem dX11_lastOf_34 : decode cX11_lastOf 34 = .ok (.istore_n 3, 1) := by decide +kernel
theorem dX11_lastOf_35 : decode cX11_lastOf 35 = .ok (.iload_n 3, 1) := by decide +kernel
theorem dX11_lastOf_36 : decode cX11_lastOf 36 = .ok (.aload_n 0, 1) := by decide +kernel
theorem dX11_lastOf_37 : decode cX11_lastOf 37 = .ok (.getfield 40, 3) := by decide +kernel
theorem dX11_lastOf_40 : decode cX11_lastOf 40 = .ok (.iconst 1, 1) := by decide +kernel
theorem dX11_lastOf_41 : decode cX11_lastOf 41 = .ok (.iaload, 1) := by decide +kernel
theorem dX11_lastOf_42 : decode cX11_lastOf 42 = .ok (.if_icmp .ge 104, 3) := by decide +kernel
theorem dX11_lastOf_45 : decode cX11_lastOf 45 = .ok (.iload_n 3, 1) := by decide +kernel
theorem dX11_lastOf_46 : decode cX11_lastOf 46 = .ok (.iload_n 1, 1) := by decide +kernel
theorem dX11_lastOf_47 : decode cX11_lastOf 47 = .ok (.if_icmp .eq 93, 3) := by decide +kernel
theorem dX11_lastOf_50 : decode cX11_lastOf 50 = .ok (.aload_n 0, 1) := by decide +kernel
theorem dX11_lastOf_51 : decode cX11_lastOf 51 = .ok (.getfield 44, 3) := by decide +kernel
theorem dX11_lastOf_54 : decode cX11_lastOf 54 = .ok (.iload_n 3, 1) := by decide +kernel
theorem dX11_lastOf_55 : decode cX11_lastOf 55 = .ok (.iaload, 1) := by decide +kernel
theorem dX11_lastOf_56 : decode cX11_lastOf 56 = .ok (.aload_n 0, 1) := by decide +kernel
theorem dX11_lastOf_57 : decode cX11_lastOf 57 = .ok (.getfield 44, 3) := by decide +kernel
theorem dX11_lastOf_60 : decode cX11_lastOf 60 = .ok (.iload_n 1, 1) := by decide +kernel
theorem dX11_lastOf_61 : decode cX11_lastOf 61 = .ok (.iaload, 1) := by decide +kernel
theorem dX11_lastOf_62 : decode cX11_lastOf 62 = .ok (.if_icmp .eq 6, 3) := by decide +kernel
theorem dX11_lastOf_65 : decode cX11_lastOf 65 = .ok (.goto 75, 3) := by decide +kernel
theorem dX11_lastOf_68 : decode cX11_lastOf 68 = .ok (.iinc 2 1, 3) := by decide +kernel
theorem dX11_lastOf_71 : decode cX11_lastOf 71 = .ok (.iload_n 2, 1) := by decide +kernel
theorem dX11_lastOf_72 : decode cX11_lastOf 72 = .ok (.istore 4, 2) := by decide +kernel
theorem dX11_lastOf_74 : decode cX11_lastOf 74 = .ok (.iload 4, 2) := by decide +kernel
theorem dX11_lastOf_76 : decode cX11_lastOf 76 = .ok (.ifCond .lt 64, 3) := by decide +kernel
theorem dX11_lastOf_79 : decode cX11_lastOf 79 = .ok (.aload_n 0, 1) := by decide +kernel
theorem dX11_lastOf_80 : decode cX11_lastOf 80 = .ok (.getfield 132, 3) := by decide +kernel
theorem dX11_lastOf_83 : decode cX11_lastOf 83 = .ok (.iload 4, 2) := by decide +kernel
theorem dX11_lastOf_85 : decode cX11_lastOf 85 = .ok (.aload_n 0, 1) := by decide +kernel
theorem dX11_lastOf_86 : decode cX11_lastOf 86 = .ok (.getfield 132, 3) := by decide +kernel
theorem dX11_lastOf_89 : decode cX11_lastOf 89 = .ok (.iload 4, 2) := by decide +kernel
theorem dX11_lastOf_91 : decode cX11_lastOf 91 = .ok (.iaload, 1) := by decide +kernel
theorem dX11_lastOf_92 : decode cX11_lastOf 92 = .ok (.sipush 1000, 3) := by decide +kernel
theorem dX11_lastOf_95 : decode cX11_lastOf 95 = .ok (.aload_n 0, 1) := by decide +kernel
theorem dX11_lastOf_96 : decode cX11_lastOf 96 = .ok (.getfield 47, 3) := by decide +kernel
theorem dX11_lastOf_99 : decode cX11_lastOf 99 = .ok (.iload_n 3, 1) := by decide +kernel
theorem dX11_lastOf_100 : decode cX11_lastOf 100 = .ok (.iaload, 1) := by decide +kernel
theorem dX11_lastOf_101 : decode cX11_lastOf 101 = .ok (.isub, 1) := by decide +kernel
theorem dX11_lastOf_102 : decode cX11_lastOf 102 = .ok (.imul, 1) := by decide +kernel
theorem dX11_lastOf_103 : decode cX11_lastOf 103 = .ok (.iload 4, 2) := by decide +kernel
theorem dX11_lastOf_105 : decode cX11_lastOf 105 = .ok (.ifCond .le 22, 3) := by decide +kernel
theorem dX11_lastOf_108 : decode cX11_lastOf 108 = .ok (.aload_n 0, 1) := by decide +kernel
theorem dX11_lastOf_109 : decode cX11_lastOf 109 = .ok (.getfield 132, 3) := by decide +kernel
theorem dX11_lastOf_112 : decode cX11_lastOf 112 = .ok (.iload 4, 2) := by decide +kernel
theorem dX11_lastOf_114 : decode cX11_lastOf 114 = .ok (.iconst 1, 1) := by decide +kernel
theorem dX11_lastOf_115 : decode cX11_lastOf 115 = .ok (.isub, 1) := by decide +kernel
theorem dX11_lastOf_116 : decode cX11_lastOf 116 = .ok (.iaload, 1) := by decide +kernel
theorem dX11_lastOf_117 : decode cX11_lastOf 117 = .ok (.aload_n 0, 1) := by decide +kernel
theorem dX11_lastOf_118 : decode cX11_lastOf 118 = .ok (.getfield 47, 3) := by decide +kernel
theorem dX11_lastOf_121 : decode cX11_lastOf 121 = .ok (.iload_n 3, 1) := by decide +kernel
theorem dX11_lastOf_122 : decode cX11_lastOf 122 = .ok (.iaload, 1) := by decide +kernel
theorem dX11_lastOf_123 : decode cX11_lastOf 123 = .ok (.imul, 1) := by decide +kernel
theorem dX11_lastOf_124 : decode cX11_lastOf 124 = .ok (.goto 4, 3) := by decide +kernel
theorem dX11_lastOf_127 : decode cX11_lastOf 127 = .ok (.iconst 0, 1) := by decide +kernel
theorem dX11_lastOf_128 : decode cX11_lastOf 128 = .ok (.iadd, 1) := by decide +kernel
theorem dX11_lastOf_129 : decode cX11_lastOf 129 = .ok (.sipush 1000, 3) := by decide +kernel
theorem dX11_lastOf_132 : decode cX11_lastOf 132 = .ok (.idiv, 1) := by decide +kernel
theorem dX11_lastOf_133 : decode cX11_lastOf 133 = .ok (.iastore, 1) := by decide +kernel
theorem dX11_lastOf_134 : decode cX11_lastOf 134 = .ok (.iinc 4 (-1), 3) := by decide +kernel
theorem dX11_lastOf_137 : decode cX11_lastOf 137 = .ok (.goto (-63), 3) := by decide +kernel
theorem dX11_lastOf_140 : decode cX11_lastOf 140 = .ok (.iinc 3 1, 3) := by decide +kernel
theorem dX11_lastOf_143 : decode cX11_lastOf 143 = .ok (.goto (-108), 3) := by decide +kernel
theorem dX11_lastOf_146 : decode cX11_lastOf 146 = .ok (.iconst 0, 1) := by decide +kernel
theorem dX11_lastOf_147 : decode cX11_lastOf 147 = .ok (.istore_n 3, 1) := by decide +kernel
theorem dX11_lastOf_148 : decode cX11_lastOf 148 = .ok (.iconst 0, 1) := by decide +kernel
theorem dX11_lastOf_149 : decode cX11_lastOf 149 = .ok (.istore 4, 2) := by decide +kernel
theorem dX11_lastOf_151 : decode cX11_lastOf 151 = .ok (.iload 4, 2) := by decide +kernel
theorem dX11_lastOf_153 : decode cX11_lastOf 153 = .ok (.iload_n 2, 1) := by decide +kernel
theorem dX11_lastOf_154 : decode cX11_lastOf 154 = .ok (.if_icmp .gt 35, 3) := by decide +kernel
theorem dX11_lastOf_157 : decode cX11_lastOf 157 = .ok (.iload_n 3, 1) := by decide +kernel
theorem dX11_lastOf_158 : decode cX11_lastOf 158 = .ok (.aload_n 0, 1) := by decide +kernel
theorem dX11_lastOf_159 : decode cX11_lastOf 159 = .ok (.getfield 132, 3) := by decide +kernel
theorem dX11_lastOf_162 : decode cX11_lastOf 162 = .ok (.iload 4, 2) := by decide +kernel
theorem dX11_lastOf_164 : decode cX11_lastOf 164 = .ok (.iaload, 1) := by decide +kernel
theorem dX11_lastOf_165 : decode cX11_lastOf 165 = .ok (.aload_n 0, 1) := by decide +kernel
theorem dX11_lastOf_166 : decode cX11_lastOf 166 = .ok (.getfield 47, 3) := by decide +kernel
theorem dX11_lastOf_169 : decode cX11_lastOf 169 = .ok (.iload_n 1, 1) := by decide +kernel
theorem dX11_lastOf_170 : decode cX11_lastOf 170 = .ok (.iaload, 1) := by decide +kernel
theorem dX11_lastOf_171 : decode cX11_lastOf 171 = .ok (.imul, 1) := by decide +kernel
theorem dX11_lastOf_172 : decode cX11_lastOf 172 = .ok (.sipush 1000, 3) := by decide +kernel
theorem dX11_lastOf_175 : decode cX11_lastOf 175 = .ok (.idiv, 1) := by decide +kernel
theorem dX11_lastOf_176 : decode cX11_lastOf 176 = .ok (.iload 4, 2) := by decide +kernel
theorem dX11_lastOf_178 : decode cX11_lastOf 178 = .ok (.iconst 1, 1) := by decide +kernel
theorem dX11_lastOf_179 : decode cX11_lastOf 179 = .ok (.iadd, 1) := by decide +kernel
theorem dX11_lastOf_180 : decode cX11_lastOf 180 = .ok (.idiv, 1) := by decide +kernel
theorem dX11_lastOf_181 : decode cX11_lastOf 181 = .ok (.iadd, 1) := by decide +kernel
theorem dX11_lastOf_182 : decode cX11_lastOf 182 = .ok (.istore_n 3, 1) := by decide +kernel
theorem dX11_lastOf_183 : decode cX11_lastOf 183 = .ok (.iinc 4 1, 3) := by decide +kernel
theorem dX11_lastOf_186 : decode cX11_lastOf 186 = .ok (.goto (-35), 3) := by decide +kernel
theorem dX11_lastOf_189 : decode cX11_lastOf 189 = .ok (.iload_n 3, 1) := by decide +kernel
theorem dX11_lastOf_190 : decode cX11_lastOf 190 = .ok (.ireturn, 1) := by decide +kernel
theorem dX11_last_0 : decode cX11_last 0 = .ok (.aload_n 0, 1) := by decide +kernel
theorem dX11_last_1 : decode cX11_last 1 = .ok (.iconst 0, 1) := by decide +kernel
theorem dX11_last_2 : decode cX11_last 2 = .ok (.putfield 160, 3) := by decide +kernel
theorem dX11_last_5 : decode cX11_last 5 = .ok (.aload_n 0, 1) := by decide +kernel
theorem dX11_last_6 : decode cX11_last 6 = .ok (.iload_n 1, 1) := by decide +kernel
theorem dX11_last_7 : decode cX11_last 7 = .ok (.invokevirtual 312, 3) := by decide +kernel
theorem dX11_last_10 : decode cX11_last 10 = .ok (.ifCond .eq 11, 3) := by decide +kernel
theorem dX11_last_13 : decode cX11_last 13 = .ok (.aload_n 0, 1) := by decide +kernel
theorem dX11_last_14 : decode cX11_last 14 = .ok (.iload_n 1, 1) := by decide +kernel
theorem dX11_last_15 : decode cX11_last 15 = .ok (.invokevirtual 400, 3) := by decide +kernel
theorem dX11_last_18 : decode cX11_last 18 = .ok (.goto 8, 3) := by decide +kernel
theorem dX11_last_21 : decode cX11_last 21 = .ok (.aload_n 0, 1) := by decide +kernel
theorem dX11_last_22 : decode cX11_last 22 = .ok (.iconst 1, 1) := by decide +kernel
theorem dX11_last_23 : decode cX11_last 23 = .ok (.invokevirtual 286, 3) := by decide +kernel
theorem dX11_last_26 : decode cX11_last 26 = .ok (.ireturn, 1) := by decide +kernel
theorem dX11_nobodyOf_0 : decode cX11_nobodyOf 0 = .ok (.ldc_w 399, 3) := by decide +kernel
theorem dX11_nobodyOf_3 : decode cX11_nobodyOf 3 = .ok (.istore_n 2, 1) := by decide +kernel
theorem dX11_nobodyOf_4 : decode cX11_nobodyOf 4 = .ok (.iconst 0, 1) := by decide +kernel
theorem dX11_nobodyOf_5 : decode cX11_nobodyOf 5 = .ok (.istore_n 3, 1) := by decide +kernel
theorem dX11_nobodyOf_6 : decode cX11_nobodyOf 6 = .ok (.iload_n 3, 1) := by decide +kernel
theorem dX11_nobodyOf_7 : decode cX11_nobodyOf 7 = .ok (.aload_n 0, 1) := by decide +kernel
theorem dX11_nobodyOf_8 : decode cX11_nobodyOf 8 = .ok (.getfield 40, 3) := by decide +kernel
theorem dX11_nobodyOf_11 : decode cX11_nobodyOf 11 = .ok (.iconst 1, 1) := by decide +kernel
theorem dX11_nobodyOf_12 : decode cX11_nobodyOf 12 = .ok (.iaload, 1) := by decide +kernel
theorem dX11_nobodyOf_13 : decode cX11_nobodyOf 13 = .ok (.if_icmp .ge 36, 3) := by decide +kernel
theorem dX11_nobodyOf_16 : decode cX11_nobodyOf 16 = .ok (.aload_n 0, 1) := by decide +kernel
theorem dX11_nobodyOf_17 : decode cX11_nobodyOf 17 = .ok (.getfield 44, 3) := by decide +kernel
theorem dX11_nobodyOf_20 : decode cX11_nobodyOf 20 = .ok (.iload_n 3, 1) := by decide +kernel
theorem dX11_nobodyOf_21 : decode cX11_nobodyOf 21 = .ok (.iaload, 1) := by decide +kernel
theorem dX11_nobodyOf_22 : decode cX11_nobodyOf 22 = .ok (.iload_n 1, 1) := by decide +kernel
theorem dX11_nobodyOf_23 : decode cX11_nobodyOf 23 = .ok (.if_icmp .ne 20, 3) := by decide +kernel
theorem dX11_nobodyOf_26 : decode cX11_nobodyOf 26 = .ok (.iload_n 2, 1) := by decide +kernel
theorem dX11_nobodyOf_27 : decode cX11_nobodyOf 27 = .ok (.sipush 1000, 3) := by decide +kernel
theorem dX11_nobodyOf_30 : decode cX11_nobodyOf 30 = .ok (.aload_n 0, 1) := by decide +kernel
theorem dX11_nobodyOf_31 : decode cX11_nobodyOf 31 = .ok (.getfield 47, 3) := by decide +kernel
theorem dX11_nobodyOf_34 : decode cX11_nobodyOf 34 = .ok (.iload_n 3, 1) := by decide +kernel
theorem dX11_nobodyOf_35 : decode cX11_nobodyOf 35 = .ok (.iaload, 1) := by decide +kernel
theorem dX11_nobodyOf_36 : decode cX11_nobodyOf 36 = .ok (.isub, 1) := by decide +kernel
theorem dX11_nobodyOf_37 : decode cX11_nobodyOf 37 = .ok (.imul, 1) := by decide +kernel
theorem dX11_nobodyOf_38 : decode cX11_nobodyOf 38 = .ok (.sipush 1000, 3) := by decide +kernel
theorem dX11_nobodyOf_41 : decode cX11_nobodyOf 41 = .ok (.idiv, 1) := by decide +kernel
theorem dX11_nobodyOf_42 : decode cX11_nobodyOf 42 = .ok (.istore_n 2, 1) := by decide +kernel
theorem dX11_nobodyOf_43 : decode cX11_nobodyOf 43 = .ok (.iinc 3 1, 3) := by decide +kernel
theorem dX11_nobodyOf_46 : decode cX11_nobodyOf 46 = .ok (.goto (-40), 3) := by decide +kernel
theorem dX11_nobodyOf_49 : decode cX11_nobodyOf 49 = .ok (.iload_n 2, 1) := by decide +kernel
theorem dX11_nobodyOf_50 : decode cX11_nobodyOf 50 = .ok (.ireturn, 1) := by decide +kernel
theorem dX11_nobody_0 : decode cX11_nobody 0 = .ok (.aload_n 0, 1) := by decide +kernel
theorem dX11_nobody_1 : decode cX11_nobody 1 = .ok (.iconst 0, 1) := by decide +kernel
theorem dX11_nobody_2 : decode cX11_nobody 2 = .ok (.putfield 160, 3) := by decide +kernel
theorem dX11_nobody_5 : decode cX11_nobody 5 = .ok (.aload_n 0, 1) := by decide +kernel
theorem dX11_nobody_6 : decode cX11_nobody 6 = .ok (.iload_n 1, 1) := by decide +kernel
theorem dX11_nobody_7 : decode cX11_nobody 7 = .ok (.invokevirtual 315, 3) := by decide +kernel
theorem dX11_nobody_10 : decode cX11_nobody 10 = .ok (.ifCond .eq 11, 3) := by decide +kernel
theorem dX11_nobody_13 : decode cX11_nobody 13 = .ok (.aload_n 0, 1) := by decide +kernel
theorem dX11_nobody_14 : decode cX11_nobody 14 = .ok (.iload_n 1, 1) := by decide +kernel
theorem dX11_nobody_15 : decode cX11_nobody 15 = .ok (.invokevirtual 403, 3) := by decide +kernel
theorem dX11_nobody_18 : decode cX11_nobody 18 = .ok (.goto 8, 3) := by decide +kernel
theorem dX11_nobody_21 : decode cX11_nobody 21 = .ok (.aload_n 0, 1) := by decide +kernel
theorem dX11_nobody_22 : decode cX11_nobody 22 = .ok (.iconst 1, 1) := by decide +kernel
theorem dX11_nobody_23 : decode cX11_nobody 23 = .ok (.invokevirtual 286, 3) := by decide +kernel
theorem dX11_nobody_26 : decode cX11_nobody 26 = .ok (.ireturn, 1) := by decide +kernel
theorem dX11_behind_0 : decode cX11_behind 0 = .ok (.aload_n 0, 1) := by decide +kernel
theorem dX11_behind_1 : decode cX11_behind 1 = .ok (.iconst 0, 1) := by decide +kernel
theorem dX11_behind_2 : decode cX11_behind 2 = .ok (.putfield 160, 3) := by decide +kernel
theorem dX11_behind_5 : decode cX11_behind 5 = .ok (.aload_n 0, 1) := by decide +kernel
theorem dX11_behind_6 : decode cX11_behind 6 = .ok (.iload_n 1, 1) := by decide +kernel
theorem dX11_behind_7 : decode cX11_behind 7 = .ok (.invokevirtual 315, 3) := by decide +kernel
theorem dX11_behind_10 : decode cX11_behind 10 = .ok (.ifCond .eq 16, 3) := by decide +kernel
theorem dX11_behind_13 : decode cX11_behind 13 = .ok (.iload_n 2, 1) := by decide +kernel
theorem dX11_behind_14 : decode cX11_behind 14 = .ok (.iconst (-1), 1) := by decide +kernel
theorem dX11_behind_15 : decode cX11_behind 15 = .ok (.if_icmp .eq 17, 3) := by decide +kernel
theorem dX11_behind_18 : decode cX11_behind 18 = .ok (.aload_n 0, 1) := by decide +kernel
theorem dX11_behind_19 : decode cX11_behind 19 = .ok (.iload_n 2, 1) := by decide +kernel
theorem dX11_behind_20 : decode cX11_behind 20 = .ok (.invokevirtual 312, 3) := by decide +kernel
theorem dX11_behind_23 : decode cX11_behind 23 = .ok (.ifCond .ne 9, 3) := by decide +kernel
theorem dX11_behind_26 : decode cX11_behind 26 = .ok (.aload_n 0, 1) := by decide +kernel
theorem dX11_behind_27 : decode cX11_behind 27 = .ok (.iconst 1, 1) := by decide +kernel
theorem dX11_behind_28 : decode cX11_behind 28 = .ok (.invokevirtual 286, 3) := by decide +kernel
theorem dX11_behind_31 : decode cX11_behind 31 = .ok (.ireturn, 1) := by decide +kernel
theorem dX11_behind_32 : decode cX11_behind 32 = .ok (.iload_n 3, 1) := by decide +kernel
theorem dX11_behind_33 : decode cX11_behind 33 = .ok (.iconst 0, 1) := by decide +kernel
theorem dX11_behind_34 : decode cX11_behind 34 = .ok (.bipush 100, 2) := by decide +kernel
theorem dX11_behind_36 : decode cX11_behind 36 = .ok (.invokestatic 163, 3) := by decide +kernel
theorem dX11_behind_39 : decode cX11_behind 39 = .ok (.ifCond .ne 9, 3) := by decide +kernel
theorem dX11_behind_42 : decode cX11_behind 42 = .ok (.aload_n 0, 1) := by decide +kernel
theorem dX11_behind_43 : decode cX11_behind 43 = .ok (.iconst 2, 1) := by decide +kernel
theorem dX11_behind_44 : decode cX11_behind 44 = .ok (.invokevirtual 286, 3) := by decide +kernel
theorem dX11_behind_47 : decode cX11_behind 47 = .ok (.ireturn, 1) := by decide +kernel
theorem dX11_behind_48 : decode cX11_behind 48 = .ok (.aload_n 0, 1) := by decide +kernel
theorem dX11_behind_49 : decode cX11_behind 49 = .ok (.iload_n 1, 1) := by decide +kernel
theorem dX11_behind_50 : decode cX11_behind 50 = .ok (.aload_n 0, 1) := by decide +kernel
theorem dX11_behind_51 : decode cX11_behind 51 = .ok (.invokevirtual 309, 3) := by decide +kernel
theorem dX11_behind_54 : decode cX11_behind 54 = .ok (.invokevirtual 341, 3) := by decide +kernel
theorem dX11_behind_57 : decode cX11_behind 57 = .ok (.iload_n 2, 1) := by decide +kernel
theorem dX11_behind_58 : decode cX11_behind 58 = .ok (.if_icmp .ne 9, 3) := by decide +kernel
theorem dX11_behind_61 : decode cX11_behind 61 = .ok (.ldc2_w 406, 3) := by decide +kernel
theorem dX11_behind_64 : decode cX11_behind 64 = .ok (.goto 4, 3) := by decide +kernel
theorem dX11_behind_67 : decode cX11_behind 67 = .ok (.lconst 0, 1) := by decide +kernel
theorem dX11_behind_68 : decode cX11_behind 68 = .ok (.lstore 4, 2) := by decide +kernel
theorem dX11_behind_70 : decode cX11_behind 70 = .ok (.aload_n 0, 1) := by decide +kernel
theorem dX11_behind_71 : decode cX11_behind 71 = .ok (.iload_n 1, 1) := by decide +kernel
theorem dX11_behind_72 : decode cX11_behind 72 = .ok (.invokevirtual 403, 3) := by decide +kernel
theorem dX11_behind_75 : decode cX11_behind 75 = .ok (.i2l, 1) := by decide +kernel
theorem dX11_behind_76 : decode cX11_behind 76 = .ok (.lstore 6, 2) := by decide +kernel
theorem dX11_behind_78 : decode cX11_behind 78 = .ok (.iload_n 2, 1) := by decide +kernel
theorem dX11_behind_79 : decode cX11_behind 79 = .ok (.iconst (-1), 1) := by decide +kernel
theorem dX11_behind_80 : decode cX11_behind 80 = .ok (.if_icmp .eq 22, 3) := by decide +kernel
theorem dX11_behind_83 : decode cX11_behind 83 = .ok (.aload_n 0, 1) := by decide +kernel
theorem dX11_behind_84 : decode cX11_behind 84 = .ok (.getfield 44, 3) := by decide +kernel
theorem dX11_behind_87 : decode cX11_behind 87 = .ok (.iload_n 2, 1) := by decide +kernel
theorem dX11_behind_88 : decode cX11_behind 88 = .ok (.iaload, 1) := by decide +kernel
theorem dX11_behind_89 : decode cX11_behind 89 = .ok (.iload_n 1, 1) := by decide +kernel
theorem dX11_behind_90 : decode cX11_behind 90 = .ok (.if_icmp .ne 12, 3) := by decide +kernel
theorem dX11_behind_93 : decode cX11_behind 93 = .ok (.aload_n 0, 1) := by decide +kernel
theorem dX11_behind_94 : decode cX11_behind 94 = .ok (.iload_n 2, 1) := by decide +kernel
theorem dX11_behind_95 : decode cX11_behind 95 = .ok (.invokevirtual 400, 3) := by decide +kernel
theorem dX11_behind_98 : decode cX11_behind 98 = .ok (.i2l, 1) := by decide +kernel
theorem dX11_behind_99 : decode cX11_behind 99 = .ok (.goto 4, 3) := by decide +kernel
theorem dX11_behind_102 : decode cX11_behind 102 = .ok (.lconst 0, 1) := by decide +kernel
theorem dX11_behind_103 : decode cX11_behind 103 = .ok (.lstore 8, 2) := by decide +kernel
theorem dX11_behind_105 : decode cX11_behind 105 = .ok (.iconst 0, 1) := by decide +kernel
theorem dX11_behind_106 : decode cX11_behind 106 = .ok (.istore 10, 2) := by decide +kernel
theorem dX11_behind_108 : decode cX11_behind 108 = .ok (.iload 10, 2) := by decide +kernel
theorem dX11_behind_110 : decode cX11_behind 110 = .ok (.iload_n 3, 1) := by decide +kernel
theorem dX11_behind_111 : decode cX11_behind 111 = .ok (.if_icmp .ge 23, 3) := by decide +kernel
theorem dX11_behind_114 : decode cX11_behind 114 = .ok (.lload 4, 2) := by decide +kernel
theorem dX11_behind_116 : decode cX11_behind 116 = .ok (.lload 6, 2) := by decide +kernel
theorem dX11_behind_118 : decode cX11_behind 118 = .ok (.lmul, 1) := by decide +kernel
theorem dX11_behind_119 : decode cX11_behind 119 = .ok (.ldc2_w 406, 3) := by decide +kernel
theorem dX11_behind_122 : decode cX11_behind 122 = .ok (.ldiv, 1) := by decide +kernel
theorem dX11_behind_123 : decode cX11_behind 123 = .ok (.lload 8, 2) := by decide +kernel
theorem dX11_behind_125 : decode cX11_behind 125 = .ok (.ladd, 1) := by decide +kernel
theorem dX11_behind_126 : decode cX11_behind 126 = .ok (.lstore 4, 2) := by decide +kernel
theorem dX11_behind_128 : decode cX11_behind 128 = .ok (.iinc 10 1, 3) := by decide +kernel
theorem dX11_behind_131 : decode cX11_behind 131 = .ok (.goto (-23), 3) := by decide +kernel
theorem dX11_behind_134 : decode cX11_behind 134 = .ok (.lload 4, 2) := by decide +kernel
theorem dX11_behind_136 : decode cX11_behind 136 = .ok (.l2i, 1) := by decide +kernel
theorem dX11_behind_137 : decode cX11_behind 137 = .ok (.ireturn, 1) := by decide +kernel
theorem dX11_dry_0 : decode cX11_dry 0 = .ok (.aload_n 0, 1) := by decide +kernel
theorem dX11_dry_1 : decode cX11_dry 1 = .ok (.iconst 0, 1) := by decide +kernel
theorem dX11_dry_2 : decode cX11_dry 2 = .ok (.putfield 160, 3) := by decide +kernel
theorem dX11_dry_5 : decode cX11_dry 5 = .ok (.iload_n 1, 1) := by decide +kernel
theorem dX11_dry_6 : decode cX11_dry 6 = .ok (.iconst 1, 1) := by decide +kernel
theorem dX11_dry_7 : decode cX11_dry 7 = .ok (.bipush 99, 2) := by decide +kernel
theorem dX11_dry_9 : decode cX11_dry 9 = .ok (.invokestatic 163, 3) := by decide +kernel
theorem dX11_dry_12 : decode cX11_dry 12 = .ok (.ifCond .ne 9, 3) := by decide +kernel
theorem dX11_dry_15 : decode cX11_dry 15 = .ok (.aload_n 0, 1) := by decide +kernel
theorem dX11_dry_16 : decode cX11_dry 16 = .ok (.iconst 1, 1) := by decide +kernel
theorem dX11_dry_17 : decode cX11_dry 17 = .ok (.invokevirtual 286, 3) := by decide +kernel
theorem dX11_dry_20 : decode cX11_dry 20 = .ok (.ireturn, 1) := by decide +kernel
theorem dX11_dry_21 : decode cX11_dry 21 = .ok (.iconst 1, 1) := by decide +kernel
theorem dX11_dry_22 : decode cX11_dry 22 = .ok (.aload_n 0, 1) := by decide +kernel
theorem dX11_dry_23 : decode cX11_dry 23 = .ok (.getfield 40, 3) := by decide +kernel
theorem dX11_dry_26 : decode cX11_dry 26 = .ok (.iconst 0, 1) := by decide +kernel
theorem dX11_dry_27 : decode cX11_dry 27 = .ok (.iaload, 1) := by decide +kernel
theorem dX11_dry_28 : decode cX11_dry 28 = .ok (.ishl, 1) := by decide +kernel
theorem dX11_dry_29 : decode cX11_dry 29 = .ok (.iconst 1, 1) := by decide +kernel
theorem dX11_dry_30 : decode cX11_dry 30 = .ok (.isub, 1) := by decide +kernel
theorem dX11_dry_31 : decode cX11_dry 31 = .ok (.istore_n 2, 1) := by decide +kernel
theorem dX11_dry_32 : decode cX11_dry 32 = .ok (.iconst 0, 1) := by decide +kernel
theorem dX11_dry_33 : decode cX11_dry 33 = .ok (.istore_n 3, 1) := by decide +kernel
theorem dX11_dry_34 : decode cX11_dry 34 = .ok (.iload_n 3, 1) := by decide +kernel
theorem dX11_dry_35 : decode cX11_dry 35 = .ok (.aload_n 0, 1) := by decide +kernel
theorem dX11_dry_36 : decode cX11_dry 36 = .ok (.getfield 296, 3) := by decide +kernel
theorem dX11_dry_39 : decode cX11_dry 39 = .ok (.if_icmp .ge 49, 3) := by decide +kernel
theorem dX11_dry_42 : decode cX11_dry 42 = .ok (.aload_n 0, 1) := by decide +kernel
theorem dX11_dry_43 : decode cX11_dry 43 = .ok (.getfield 83, 3) := by decide +kernel
theorem dX11_dry_46 : decode cX11_dry 46 = .ok (.iload_n 3, 1) := by decide +kernel
theorem dX11_dry_47 : decode cX11_dry 47 = .ok (.baload, 1) := by decide +kernel
theorem dX11_dry_48 : decode cX11_dry 48 = .ok (.ifCond .eq 34, 3) := by decide +kernel
theorem dX11_dry_51 : decode cX11_dry 51 = .ok (.aload_n 0, 1) := by decide +kernel
theorem dX11_dry_52 : decode cX11_dry 52 = .ok (.getfield 75, 3) := by decide +kernel
theorem dX11_dry_55 : decode cX11_dry 55 = .ok (.iload_n 3, 1) := by decide +kernel
theorem dX11_dry_56 : decode cX11_dry 56 = .ok (.iaload, 1) := by decide +kernel
theorem dX11_dry_57 : decode cX11_dry 57 = .ok (.aload_n 0, 1) := by decide +kernel
theorem dX11_dry_58 : decode cX11_dry 58 = .ok (.invokevirtual 309, 3) := by decide +kernel
theorem dX11_dry_61 : decode cX11_dry 61 = .ok (.bipush 24, 2) := by decide +kernel
theorem dX11_dry_63 : decode cX11_dry 63 = .ok (.iload_n 1, 1) := by decide +kernel
theorem dX11_dry_64 : decode cX11_dry 64 = .ok (.imul, 1) := by decide +kernel
theorem dX11_dry_65 : decode cX11_dry 65 = .ok (.isub, 1) := by decide +kernel
theorem dX11_dry_66 : decode cX11_dry 66 = .ok (.if_icmp .le 16, 3) := by decide +kernel
theorem dX11_dry_69 : decode cX11_dry 69 = .ok (.iload_n 2, 1) := by decide +kernel
theorem dX11_dry_70 : decode cX11_dry 70 = .ok (.iconst 1, 1) := by decide +kernel
theorem dX11_dry_71 : decode cX11_dry 71 = .ok (.aload_n 0, 1) := by decide +kernel
theorem dX11_dry_72 : decode cX11_dry 72 = .ok (.getfield 72, 3) := by decide +kernel
theorem dX11_dry_75 : decode cX11_dry 75 = .ok (.iload_n 3, 1) := by decide +kernel
theorem dX11_dry_76 : decode cX11_dry 76 = .ok (.iaload, 1) := by decide +kernel
theorem dX11_dry_77 : decode cX11_dry 77 = .ok (.ishl, 1) := by decide +kernel
theorem dX11_dry_78 : decode cX11_dry 78 = .ok (.iconst (-1), 1) := by decide +kernel
theorem dX11_dry_79 : decode cX11_dry 79 = .ok (.ixor, 1) := by decide +kernel
theorem dX11_dry_80 : decode cX11_dry 80 = .ok (.iand, 1) := by decide +kernel
theorem dX11_dry_81 : decode cX11_dry 81 = .ok (.istore_n 2, 1) := by decide +kernel
theorem dX11_dry_82 : decode cX11_dry 82 = .ok (.iinc 3 1, 3) := by decide +kernel
theorem dX11_dry_85 : decode cX11_dry 85 = .ok (.goto (-51), 3) := by decide +kernel
theorem dX11_dry_88 : decode cX11_dry 88 = .ok (.iload_n 2, 1) := by decide +kernel
theorem dX11_dry_89 : decode cX11_dry 89 = .ok (.ireturn, 1) := by decide +kernel
theorem dX11_plainNames_0 : decode cX11_plainNames 0 = .ok (.iconst 0, 1) := by decide +kernel
theorem dX11_plainNames_1 : decode cX11_plainNames 1 = .ok (.istore_n 2, 1) := by decide +kernel
theorem dX11_plainNames_2 : decode cX11_plainNames 2 = .ok (.iconst 0, 1) := by decide +kernel
theorem dX11_plainNames_3 : decode cX11_plainNames 3 = .ok (.istore_n 3, 1) := by decide +kernel
theorem dX11_plainNames_4 : decode cX11_plainNames 4 = .ok (.iload_n 3, 1) := by decide +kernel
theorem dX11_plainNames_5 : decode cX11_plainNames 5 = .ok (.aload_n 0, 1) := by decide +kernel
theorem dX11_plainNames_6 : decode cX11_plainNames 6 = .ok (.getfield 40, 3) := by decide +kernel
theorem dX11_plainNames_9 : decode cX11_plainNames 9 = .ok (.iconst 1, 1) := by decide +kernel
theorem dX11_plainNames_10 : decode cX11_plainNames 10 = .ok (.iaload, 1) := by decide +kernel
theorem dX11_plainNames_11 : decode cX11_plainNames 11 = .ok (.if_icmp .ge 52, 3) := by decide +kernel
theorem dX11_plainNames_14 : decode cX11_plainNames 14 = .ok (.aload_n 0, 1) := by decide +kernel
theorem dX11_plainNames_15 : decode cX11_plainNames 15 = .ok (.iload_n 3, 1) := by decide +kernel
theorem dX11_plainNames_16 : decode cX11_plainNames 16 = .ok (.aload_n 0, 1) := by decide +kernel
theorem dX11_plainNames_17 : decode cX11_plainNames 17 = .ok (.invokevirtual 309, 3) := by decide +kernel
theorem dX11_plainNames_20 : decode cX11_plainNames 20 = .ok (.invokevirtual 344, 3) := by decide +kernel
theorem dX11_plainNames_23 : decode cX11_plainNames 23 = .ok (.istore 4, 2) := by decide +kernel
theorem dX11_plainNames_25 : decode cX11_plainNames 25 = .ok (.iload_n 1, 1) := by decide +kernel
theorem dX11_plainNames_26 : decode cX11_plainNames 26 = .ok (.iconst (-1), 1) := by decide +kernel
theorem dX11_plainNames_27 : decode cX11_plainNames 27 = .ok (.if_icmp .eq 13, 3) := by decide +kernel
theorem dX11_plainNames_30 : decode cX11_plainNames 30 = .ok (.iload 4, 2) := by decide +kernel
theorem dX11_plainNames_32 : decode cX11_plainNames 32 = .ok (.iconst 1, 1) := by decide +kernel
theorem dX11_plainNames_33 : decode cX11_plainNames 33 = .ok (.iload_n 1, 1) := by decide +kernel
theorem dX11_plainNames_34 : decode cX11_plainNames 34 = .ok (.ishl, 1) := by decide +kernel
theorem dX11_plainNames_35 : decode cX11_plainNames 35 = .ok (.iconst (-1), 1) := by decide +kernel
theorem dX11_plainNames_36 : decode cX11_plainNames 36 = .ok (.ixor, 1) := by decide +kernel
theorem dX11_plainNames_37 : decode cX11_plainNames 37 = .ok (.iand, 1) := by decide +kernel
theorem dX11_plainNames_38 : decode cX11_plainNames 38 = .ok (.istore 4, 2) := by decide +kernel
theorem dX11_plainNames_40 : decode cX11_plainNames 40 = .ok (.iload_n 2, 1) := by decide +kernel
theorem dX11_plainNames_41 : decode cX11_plainNames 41 = .ok (.iload 4, 2) := by decide +kernel
theorem dX11_plainNames_43 : decode cX11_plainNames 43 = .ok (.invokestatic 347, 3) := by decide +kernel
theorem dX11_plainNames_46 : decode cX11_plainNames 46 = .ok (.iconst 1, 1) := by decide +kernel
theorem dX11_plainNames_47 : decode cX11_plainNames 47 = .ok (.if_icmp .ne 7, 3) := by decide +kernel
theorem dX11_plainNames_50 : decode cX11_plainNames 50 = .ok (.iconst 1, 1) := by decide +kernel
theorem dX11_plainNames_51 : decode cX11_plainNames 51 = .ok (.goto 4, 3) := by decide +kernel
theorem dX11_plainNames_54 : decode cX11_plainNames 54 = .ok (.iconst 0, 1) := by decide +kernel
theorem dX11_plainNames_55 : decode cX11_plainNames 55 = .ok (.iadd, 1) := by decide +kernel
theorem dX11_plainNames_56 : decode cX11_plainNames 56 = .ok (.istore_n 2, 1) := by decide +kernel
theorem dX11_plainNames_57 : decode cX11_plainNames 57 = .ok (.iinc 3 1, 3) := by decide +kernel
theorem dX11_plainNames_60 : decode cX11_plainNames 60 = .ok (.goto (-56), 3) := by decide +kernel
theorem dX11_plainNames_63 : decode cX11_plainNames 63 = .ok (.iload_n 2, 1) := by decide +kernel
theorem dX11_plainNames_64 : decode cX11_plainNames 64 = .ok (.ireturn, 1) := by decide +kernel
theorem dX11_mourner_0 : decode cX11_mourner 0 = .ok (.aload_n 0, 1) := by decide +kernel
theorem dX11_mourner_1 : decode cX11_mourner 1 = .ok (.iconst 0, 1) := by decide +kernel
theorem dX11_mourner_2 : decode cX11_mourner 2 = .ok (.putfield 160, 3) := by decide +kernel
theorem dX11_mourner_5 : decode cX11_mourner 5 = .ok (.aload_n 0, 1) := by decide +kernel
theorem dX11_mourner_6 : decode cX11_mourner 6 = .ok (.iload_n 1, 1) := by decide +kernel
theorem dX11_mourner_7 : decode cX11_mourner 7 = .ok (.invokevirtual 315, 3) := by decide +kernel
theorem dX11_mourner_10 : decode cX11_mourner 10 = .ok (.ifCond .ne 9, 3) := by decide +kernel
theorem dX11_mourner_13 : decode cX11_mourner 13 = .ok (.aload_n 0, 1) := by decide +kernel
theorem dX11_mourner_14 : decode cX11_mourner 14 = .ok (.iconst 1, 1) := by decide +kernel
theorem dX11_mourner_15 : decode cX11_mourner 15 = .ok (.invokevirtual 286, 3) := by decide +kernel
theorem dX11_mourner_18 : decode cX11_mourner 18 = .ok (.ireturn, 1) := by decide +kernel
theorem dX11_mourner_19 : decode cX11_mourner 19 = .ok (.aload_n 0, 1) := by decide +kernel
theorem dX11_mourner_20 : decode cX11_mourner 20 = .ok (.iload_n 1, 1) := by decide +kernel
theorem dX11_mourner_21 : decode cX11_mourner 21 = .ok (.bipush 99, 2) := by decide +kernel
theorem dX11_mourner_23 : decode cX11_mourner 23 = .ok (.iconst 0, 1) := by decide +kernel
theorem dX11_mourner_24 : decode cX11_mourner 24 = .ok (.iconst 1, 1) := by decide +kernel
theorem dX11_mourner_25 : decode cX11_mourner 25 = .ok (.aload_n 0, 1) := by decide +kernel
theorem dX11_mourner_26 : decode cX11_mourner 26 = .ok (.invokevirtual 309, 3) := by decide +kernel
theorem dX11_mourner_29 : decode cX11_mourner 29 = .ok (.aload_n 0, 1) := by decide +kernel
theorem dX11_mourner_30 : decode cX11_mourner 30 = .ok (.iload_n 1, 1) := by decide +kernel
theorem dX11_mourner_31 : decode cX11_mourner 31 = .ok (.aload_n 0, 1) := by decide +kernel
theorem dX11_mourner_32 : decode cX11_mourner 32 = .ok (.invokevirtual 309, 3) := by decide +kernel
theorem dX11_mourner_35 : decode cX11_mourner 35 = .ok (.invokevirtual 325, 3) := by decide +kernel
theorem dX11_mourner_38 : decode cX11_mourner 38 = .ok (.invokevirtual 328, 3) := by decide +kernel
theorem dX11_mourner_41 : decode cX11_mourner 41 = .ok (.aload_n 0, 1) := by decide +kernel
theorem dX11_mourner_42 : decode cX11_mourner 42 = .ok (.invokevirtual 331, 3) := by decide +kernel
theorem dX11_mourner_45 : decode cX11_mourner 45 = .ok (.ifCond .eq 17, 3) := by decide +kernel
theorem dX11_mourner_48 : decode cX11_mourner 48 = .ok (.aload_n 0, 1) := by decide +kernel
theorem dX11_mourner_49 : decode cX11_mourner 49 = .ok (.iload_n 1, 1) := by decide +kernel
theorem dX11_mourner_50 : decode cX11_mourner 50 = .ok (.invokevirtual 408, 3) := by decide +kernel
theorem dX11_mourner_53 : decode cX11_mourner 53 = .ok (.aload_n 0, 1) := by decide +kernel
theorem dX11_mourner_54 : decode cX11_mourner 54 = .ok (.iconst (-1), 1) := by decide +kernel
theorem dX11_mourner_55 : decode cX11_mourner 55 = .ok (.invokevirtual 408, 3) := by decide +kernel
theorem dX11_mourner_58 : decode cX11_mourner 58 = .ok (.isub, 1) := by decide +kernel
theorem dX11_mourner_59 : decode cX11_mourner 59 = .ok (.goto 4, 3) := by decide +kernel
theorem dX11_mourner_62 : decode cX11_mourner 62 = .ok (.iconst 0, 1) := by decide +kernel
theorem dX11_mourner_63 : decode cX11_mourner 63 = .ok (.ireturn, 1) := by decide +kernel
theorem dX11_be_0 : decode cX11_be 0 = .ok (.iconst 0, 1) := by decide +kernel
theorem dX11_be_1 : decode cX11_be 1 = .ok (.istore_n 2, 1) := by decide +kernel
theorem dX11_be_2 : decode cX11_be 2 = .ok (.iload_n 2, 1) := by decide +kernel
theorem dX11_be_3 : decode cX11_be 3 = .ok (.aload_n 0, 1) := by decide +kernel
theorem dX11_be_4 : decode cX11_be 4 = .ok (.arraylength, 1) := by decide +kernel
theorem dX11_be_5 : decode cX11_be 5 = .ok (.if_icmp .ge 15, 3) := by decide +kernel
theorem dX11_be_8 : decode cX11_be 8 = .ok (.aload_n 0, 1) := by decide +kernel
theorem dX11_be_9 : decode cX11_be 9 = .ok (.iload_n 2, 1) := by decide +kernel
theorem dX11_be_10 : decode cX11_be 10 = .ok (.aload_n 1, 1) := by decide +kernel
theorem dX11_be_11 : decode cX11_be 11 = .ok (.iload_n 2, 1) := by decide +kernel
theorem dX11_be_12 : decode cX11_be 12 = .ok (.iaload, 1) := by decide +kernel
theorem dX11_be_13 : decode cX11_be 13 = .ok (.iastore, 1) := by decide +kernel
theorem dX11_be_14 : decode cX11_be 14 = .ok (.iinc 2 1, 3) := by decide +kernel
theorem dX11_be_17 : decode cX11_be 17 = .ok (.goto (-15), 3) := by decide +kernel
theorem dX11_be_20 : decode cX11_be 20 = .ok (.return_, 1) := by decide +kernel
theorem dX11_image_0 : decode cX11_image 0 = .ok (.aload_n 0, 1) := by decide +kernel
theorem dX11_image_1 : decode cX11_image 1 = .ok (.iconst 0, 1) := by decide +kernel
theorem dX11_image_2 : decode cX11_image 2 = .ok (.putfield 160, 3) := by decide +kernel
theorem dX11_image_5 : decode cX11_image 5 = .ok (.aload_n 0, 1) := by decide +kernel
theorem dX11_image_6 : decode cX11_image 6 = .ok (.iconst 1, 1) := by decide +kernel
theorem dX11_image_7 : decode cX11_image 7 = .ok (.putfield 305, 3) := by decide +kernel
theorem dX11_image_10 : decode cX11_image 10 = .ok (.aload_n 0, 1) := by decide +kernel
theorem dX11_image_11 : decode cX11_image 11 = .ok (.getfield 135, 3) := by decide +kernel
theorem dX11_image_14 : decode cX11_image 14 = .ok (.iconst 0, 1) := by decide +kernel
theorem dX11_image_15 : decode cX11_image 15 = .ok (.aload_n 0, 1) := by decide +kernel
theorem dX11_image_16 : decode cX11_image 16 = .ok (.getfield 296, 3) := by decide +kernel
theorem dX11_image_19 : decode cX11_image 19 = .ok (.iastore, 1) := by decide +kernel
theorem dX11_image_20 : decode cX11_image 20 = .ok (.aload_n 0, 1) := by decide +kernel
theorem dX11_image_21 : decode cX11_image 21 = .ok (.getfield 135, 3) := by decide +kernel
theorem dX11_image_24 : decode cX11_image 24 = .ok (.iconst 1, 1) := by decide +kernel
theorem dX11_image_25 : decode cX11_image 25 = .ok (.aload_n 0, 1) := by decide +kernel
theorem dX11_image_26 : decode cX11_image 26 = .ok (.getfield 299, 3) := by decide +kernel
theorem dX11_image_29 : decode cX11_image 29 = .ok (.iastore, 1) := by decide +kernel
theorem dX11_image_30 : decode cX11_image 30 = .ok (.aload_n 0, 1) := by decide +kernel
theorem dX11_image_31 : decode cX11_image 31 = .ok (.getfield 135, 3) := by decide +kernel
theorem dX11_image_34 : decode cX11_image 34 = .ok (.iconst 2, 1) := by decide +kernel
theorem dX11_image_35 : decode cX11_image 35 = .ok (.aload_n 0, 1) := by decide +kernel
theorem dX11_image_36 : decode cX11_image 36 = .ok (.getfield 302, 3) := by decide +kernel
theorem dX11_image_39 : decode cX11_image 39 = .ok (.iastore, 1) := by decide +kernel
theorem dX11_image_40 : decode cX11_image 40 = .ok (.aload_n 0, 1) := by decide +kernel
theorem dX11_image_41 : decode cX11_image 41 = .ok (.getfield 138, 3) := by decide +kernel
theorem dX11_image_44 : decode cX11_image 44 = .ok (.aload_n 0, 1) := by decide +kernel
theorem dX11_image_45 : decode cX11_image 45 = .ok (.getfield 44, 3) := by decide +kernel
theorem dX11_image_48 : decode cX11_image 48 = .ok (.invokestatic 411, 3) := by decide +kernel
theorem dX11_image_51 : decode cX11_image 51 = .ok (.iconst 0, 1) := by decide +kernel
theorem dX11_image_52 : decode cX11_image 52 = .ok (.istore_n 1, 1) := by decide +kernel
theorem dX11_image_53 : decode cX11_image 53 = .ok (.iload_n 1, 1) := by decide +kernel
theorem dX11_image_54 : decode cX11_image 54 = .ok (.aload_n 0, 1) := by decide +kernel
theorem dX11_image_55 : decode cX11_image 55 = .ok (.getfield 296, 3) := by decide +kernel
theorem dX11_image_58 : decode cX11_image 58 = .ok (.if_icmp .ge 117, 3) := by decide +kernel
theorem dX11_image_61 : decode cX11_image 61 = .ok (.aload_n 0, 1) := by decide +kernel
theorem dX11_image_62 : decode cX11_image 62 = .ok (.getfield 141, 3) := by decide +kernel
theorem dX11_image_65 : decode cX11_image 65 = .ok (.bipush 6, 2) := by decide +kernel
theorem dX11_image_67 : decode cX11_image 67 = .ok (.iload_n 1, 1) := by decide +kernel
theorem dX11_image_68 : decode cX11_image 68 = .ok (.imul, 1) := by decide +kernel
theorem dX11_image_69 : decode cX11_image 69 = .ok (.aload_n 0, 1) := by decide +kernel
theorem dX11_image_70 : decode cX11_image 70 = .ok (.getfield 69, 3) := by decide +kernel
theorem dX11_image_73 : decode cX11_image 73 = .ok (.iload_n 1, 1) := by decide +kernel
theorem dX11_image_74 : decode cX11_image 74 = .ok (.iaload, 1) := by decide +kernel
theorem dX11_image_75 : decode cX11_image 75 = .ok (.iastore, 1) := by decide +kernel
theorem dX11_image_76 : decode cX11_image 76 = .ok (.aload_n 0, 1) := by decide +kernel
theorem dX11_image_77 : decode cX11_image 77 = .ok (.getfield 141, 3) := by decide +kernel
theorem dX11_image_80 : decode cX11_image 80 = .ok (.bipush 6, 2) := by decide +kernel
theorem dX11_image_82 : decode cX11_image 82 = .ok (.iload_n 1, 1) := by decide +kernel
theorem dX11_image_83 : decode cX11_image 83 = .ok (.imul, 1) := by decide +kernel
theorem dX11_image_84 : decode cX11_image 84 = .ok (.iconst 1, 1) := by decide +kernel
theorem dX11_image_85 : decode cX11_image 85 = .ok (.iadd, 1) := by decide +kernel
theorem dX11_image_86 : decode cX11_image 86 = .ok (.aload_n 0, 1) := by decide +kernel
theorem dX11_image_87 : decode cX11_image 87 = .ok (.getfield 72, 3) := by decide +kernel
theorem dX11_image_90 : decode cX11_image 90 = .ok (.iload_n 1, 1) := by decide +kernel
theorem dX11_image_91 : decode cX11_image 91 = .ok (.iaload, 1) := by decide +kernel
theorem dX11_image_92 : decode cX11_image 92 = .ok (.iastore, 1) := by decide +kernel
theorem dX11_image_93 : decode cX11_image 93 = .ok (.aload_n 0, 1) := by decide +kernel
theorem dX11_image_94 : decode cX11_image 94 = .ok (.getfield 141, 3) := by decide +kernel
theorem dX11_image_97 : decode cX11_image 97 = .ok (.bipush 6, 2) := by decide +kernel
theorem dX11_image_99 : decode cX11_image 99 = .ok (.iload_n 1, 1) := by decide +kernel
theorem dX11_image_100 : decode cX11_image 100 = .ok (.imul, 1) := by decide +kernel
theorem dX11_image_101 : decode cX11_image 101 = .ok (.iconst 2, 1) := by decide +kernel
theorem dX11_image_102 : decode cX11_image 102 = .ok (.iadd, 1) := by decide +kernel
theorem dX11_image_103 : decode cX11_image 103 = .ok (.aload_n 0, 1) := by decide +kernel
theorem dX11_image_104 : decode cX11_image 104 = .ok (.getfield 75, 3) := by decide +kernel
theorem dX11_image_107 : decode cX11_image 107 = .ok (.iload_n 1, 1) := by decide +kernel
theorem dX11_image_108 : decode cX11_image 108 = .ok (.iaload, 1) := by decide +kernel
theorem dX11_image_109 : decode cX11_image 109 = .ok (.iastore, 1) := by decide +kernel
theorem dX11_image_110 : decode cX11_image 110 = .ok (.aload_n 0, 1) := by decide +kernel
theorem dX11_image_111 : decode cX11_image 111 = .ok (.getfield 141, 3) := by decide +kernel
theorem dX11_image_114 : decode cX11_image 114 = .ok (.bipush 6, 2) := by decide +kernel
theorem dX11_image_116 : decode cX11_image 116 = .ok (.iload_n 1, 1) := by decide +kernel
theorem dX11_image_117 : decode cX11_image 117 = .ok (.imul, 1) := by decide +kernel
theorem dX11_image_118 : decode cX11_image 118 = .ok (.iconst 3, 1) := by decide +kernel
theorem dX11_image_119 : decode cX11_image 119 = .ok (.iadd, 1) := by decide +kernel
theorem dX11_image_120 : decode cX11_image 120 = .ok (.aload_n 0, 1) := by decide +kernel
theorem dX11_image_121 : decode cX11_image 121 = .ok (.getfield 78, 3) := by decide +kernel
theorem dX11_image_124 : decode cX11_image 124 = .ok (.iload_n 1, 1) := by decide +kernel
theorem dX11_image_125 : decode cX11_image 125 = .ok (.iaload, 1) := by decide +kernel
theorem dX11_image_126 : decode cX11_image 126 = .ok (.iastore, 1) := by decide +kernel
theorem dX11_image_127 : decode cX11_image 127 = .ok (.aload_n 0, 1) := by decide +kernel
theorem dX11_image_128 : decode cX11_image 128 = .ok (.getfield 141, 3) := by decide +kernel
theorem dX11_image_131 : decode cX11_image 131 = .ok (.bipush 6, 2) := by decide +kernel
theorem dX11_image_133 : decode cX11_image 133 = .ok (.iload_n 1, 1) := by decide +kernel
theorem dX11_image_134 : decode cX11_image 134 = .ok (.imul, 1) := by decide +kernel
theorem dX11_image_135 : decode cX11_image 135 = .ok (.iconst 4, 1) := by decide +kernel
theorem dX11_image_136 : decode cX11_image 136 = .ok (.iadd, 1) := by decide +kernel
theorem dX11_image_137 : decode cX11_image 137 = .ok (.aload_n 0, 1) := by decide +kernel
theorem dX11_image_138 : decode cX11_image 138 = .ok (.getfield 80, 3) := by decide +kernel
theorem dX11_image_141 : decode cX11_image 141 = .ok (.iload_n 1, 1) := by decide +kernel
theorem dX11_image_142 : decode cX11_image 142 = .ok (.iaload, 1) := by decide +kernel
theorem dX11_image_143 : decode cX11_image 143 = .ok (.iastore, 1) := by decide +kernel
theorem dX11_image_144 : decode cX11_image 144 = .ok (.aload_n 0, 1) := by decide +kernel
theorem dX11_image_145 : decode cX11_image 145 = .ok (.getfield 141, 3) := by decide +kernel
theorem dX11_image_148 : decode cX11_image 148 = .ok (.bipush 6, 2) := by decide +kernel
theorem dX11_image_150 : decode cX11_image 150 = .ok (.iload_n 1, 1) := by decide +kernel
theorem dX11_image_151 : decode cX11_image 151 = .ok (.imul, 1) := by decide +kernel
theorem dX11_image_152 : decode cX11_image 152 = .ok (.iconst 5, 1) := by decide +kernel
theorem dX11_image_153 : decode cX11_image 153 = .ok (.iadd, 1) := by decide +kernel
theorem dX11_image_154 : decode cX11_image 154 = .ok (.aload_n 0, 1) := by decide +kernel
theorem dX11_image_155 : decode cX11_image 155 = .ok (.getfield 83, 3) := by decide +kernel
theorem dX11_image_158 : decode cX11_image 158 = .ok (.iload_n 1, 1) := by decide +kernel
theorem dX11_image_159 : decode cX11_image 159 = .ok (.baload, 1) := by decide +kernel
theorem dX11_image_160 : decode cX11_image 160 = .ok (.ifCond .eq 7, 3) := by decide +kernel
theorem dX11_image_163 : decode cX11_image 163 = .ok (.iconst 1, 1) := by decide +kernel
theorem dX11_image_164 : decode cX11_image 164 = .ok (.goto 4, 3) := by decide +kernel
theorem dX11_image_167 : decode cX11_image 167 = .ok (.iconst 0, 1) := by decide +kernel
theorem dX11_image_168 : decode cX11_image 168 = .ok (.iastore, 1) := by decide +kernel
theorem dX11_image_169 : decode cX11_image 169 = .ok (.iinc 1 1, 3) := by decide +kernel
theorem dX11_image_172 : decode cX11_image 172 = .ok (.goto (-119), 3) := by decide +kernel
theorem dX11_image_175 : decode cX11_image 175 = .ok (.aload_n 0, 1) := by decide +kernel
theorem dX11_image_176 : decode cX11_image 176 = .ok (.getfield 144, 3) := by decide +kernel
theorem dX11_image_179 : decode cX11_image 179 = .ok (.aload_n 0, 1) := by decide +kernel
theorem dX11_image_180 : decode cX11_image 180 = .ok (.getfield 86, 3) := by decide +kernel
theorem dX11_image_183 : decode cX11_image 183 = .ok (.invokestatic 411, 3) := by decide +kernel
theorem dX11_image_186 : decode cX11_image 186 = .ok (.aload_n 0, 1) := by decide +kernel
theorem dX11_image_187 : decode cX11_image 187 = .ok (.getfield 147, 3) := by decide +kernel
theorem dX11_image_190 : decode cX11_image 190 = .ok (.aload_n 0, 1) := by decide +kernel
theorem dX11_image_191 : decode cX11_image 191 = .ok (.getfield 89, 3) := by decide +kernel
theorem dX11_image_194 : decode cX11_image 194 = .ok (.invokestatic 411, 3) := by decide +kernel
theorem dX11_image_197 : decode cX11_image 197 = .ok (.aload_n 0, 1) := by decide +kernel
theorem dX11_image_198 : decode cX11_image 198 = .ok (.getfield 150, 3) := by decide +kernel
theorem dX11_image_201 : decode cX11_image 201 = .ok (.aload_n 0, 1) := by decide +kernel
theorem dX11_image_202 : decode cX11_image 202 = .ok (.getfield 92, 3) := by decide +kernel
theorem dX11_image_205 : decode cX11_image 205 = .ok (.invokestatic 411, 3) := by decide +kernel
theorem dX11_image_208 : decode cX11_image 208 = .ok (.aload_n 0, 1) := by decide +kernel
theorem dX11_image_209 : decode cX11_image 209 = .ok (.getfield 153, 3) := by decide +kernel
theorem dX11_image_212 : decode cX11_image 212 = .ok (.aload_n 0, 1) := by decide +kernel
theorem dX11_image_213 : decode cX11_image 213 = .ok (.getfield 66, 3) := by decide +kernel
theorem dX11_image_216 : decode cX11_image 216 = .ok (.invokestatic 411, 3) := by decide +kernel
theorem dX11_image_219 : decode cX11_image 219 = .ok (.return_, 1) := by decide +kernel
theorem dX11_restore_0 : decode cX11_restore 0 = .ok (.aload_n 0, 1) := by decide +kernel
theorem dX11_restore_1 : decode cX11_restore 1 = .ok (.iconst 0, 1) := by decide +kernel
theorem dX11_restore_2 : decode cX11_restore 2 = .ok (.putfield 160, 3) := by decide +kernel
theorem dX11_restore_5 : decode cX11_restore 5 = .ok (.aload_n 0, 1) := by decide +kernel
theorem dX11_restore_6 : decode cX11_restore 6 = .ok (.getfield 305, 3) := by decide +kernel
theorem dX11_restore_9 : decode cX11_restore 9 = .ok (.ifCond .ne 5, 3) := by decide +kernel
theorem dX11_restore_12 : decode cX11_restore 12 = .ok (.iconst 0, 1) := by decide +kernel
theorem dX11_restore_13 : decode cX11_restore 13 = .ok (.ireturn, 1) := by decide +kernel
theorem dX11_restore_14 : decode cX11_restore 14 = .ok (.aload_n 0, 1) := by decide +kernel
theorem dX11_restore_15 : decode cX11_restore 15 = .ok (.aload_n 0, 1) := by decide +kernel
theorem dX11_restore_16 : decode cX11_restore 16 = .ok (.getfield 135, 3) := by decide +kernel
theorem dX11_restore_19 : decode cX11_restore 19 = .ok (.iconst 0, 1) := by decide +kernel
theorem dX11_restore_20 : decode cX11_restore 20 = .ok (.iaload, 1) := by decide +kernel
theorem dX11_restore_21 : decode cX11_restore 21 = .ok (.putfield 296, 3) := by decide +kernel
theorem dX11_restore_24 : decode cX11_restore 24 = .ok (.aload_n 0, 1) := by decide +kernel
theorem dX11_restore_25 : decode cX11_restore 25 = .ok (.aload_n 0, 1) := by decide +kernel
theorem dX11_restore_26 : decode cX11_restore 26 = .ok (.getfield 135, 3) := by decide +kernel
theorem dX11_restore_29 : decode cX11_restore 29 = .ok (.iconst 1, 1) := by decide +kernel
theorem dX11_restore_30 : decode cX11_restore 30 = .ok (.iaload, 1) := by decide +kernel
theorem dX11_restore_31 : decode cX11_restore 31 = .ok (.putfield 299, 3) := by decide +kernel
theorem dX11_restore_34 : decode cX11_restore 34 = .ok (.aload_n 0, 1) := by decide +kernel
theorem dX11_restore_35 : decode cX11_restore 35 = .ok (.aload_n 0, 1) := by decide +kernel
theorem dX11_restore_36 : decode cX11_restore 36 = .ok (.getfield 135, 3) := by decide +kernel
theorem dX11_restore_39 : decode cX11_restore 39 = .ok (.iconst 2, 1) := by decide +kernel
theorem dX11_restore_40 : decode cX11_restore 40 = .ok (.iaload, 1) := by decide +kernel
theorem dX11_restore_41 : decode cX11_restore 41 = .ok (.putfield 302, 3) := by decide +kernel
theorem dX11_restore_44 : decode cX11_restore 44 = .ok (.aload_n 0, 1) := by decide +kernel
theorem dX11_restore_45 : decode cX11_restore 45 = .ok (.getfield 44, 3) := by decide +kernel
theorem dX11_restore_48 : decode cX11_restore 48 = .ok (.aload_n 0, 1) := by decide +kernel
theorem dX11_restore_49 : decode cX11_restore 49 = .ok (.getfield 138, 3) := by decide +kernel
theorem dX11_restore_52 : decode cX11_restore 52 = .ok (.invokestatic 411, 3) := by decide +kernel
theorem dX11_restore_55 : decode cX11_restore 55 = .ok (.iconst 0, 1) := by decide +kernel
theorem dX11_restore_56 : decode cX11_restore 56 = .ok (.istore_n 1, 1) := by decide +kernel
theorem dX11_restore_57 : decode cX11_restore 57 = .ok (.iload_n 1, 1) := by decide +kernel
theorem dX11_restore_58 : decode cX11_restore 58 = .ok (.aload_n 0, 1) := by decide +kernel
theorem dX11_restore_59 : decode cX11_restore 59 = .ok (.getfield 296, 3) := by decide +kernel
theorem dX11_restore_62 : decode cX11_restore 62 = .ok (.if_icmp .ge 118, 3) := by decide +kernel
theorem dX11_restore_65 : decode cX11_restore 65 = .ok (.aload_n 0, 1) := by decide +kernel
theorem dX11_restore_66 : decode cX11_restore 66 = .ok (.getfield 69, 3) := by decide +kernel
theorem dX11_restore_69 : decode cX11_restore 69 = .ok (.iload_n 1, 1) := by decide +kernel
theorem dX11_restore_70 : decode cX11_restore 70 = .ok (.aload_n 0, 1) := by decide +kernel
theorem dX11_restore_71 : decode cX11_restore 71 = .ok (.getfield 141, 3) := by decide +kernel
theorem dX11_restore_74 : decode cX11_restore 74 = .ok (.bipush 6, 2) := by decide +kernel
theorem dX11_restore_76 : decode cX11_restore 76 = .ok (.iload_n 1, 1) := by decide +kernel
theorem dX11_restore_77 : decode cX11_restore 77 = .ok (.imul, 1) := by decide +kernel
theorem dX11_restore_78 : decode cX11_restore 78 = .ok (.iaload, 1) := by decide +kernel
theorem dX11_restore_79 : decode cX11_restore 79 = .ok (.iastore, 1) := by decide +kernel
theorem dX11_restore_80 : decode cX11_restore 80 = .ok (.aload_n 0, 1) := by decide +kernel
theorem dX11_restore_81 : decode cX11_restore 81 = .ok (.getfield 72, 3) := by decide +kernel
theorem dX11_restore_84 : decode cX11_restore 84 = .ok (.iload_n 1, 1) := by decide +kernel
theorem dX11_restore_85 : decode cX11_restore 85 = .ok (.aload_n 0, 1) := by decide +kernel
theorem dX11_restore_86 : decode cX11_restore 86 = .ok (.getfield 141, 3) := by decide +kernel
theorem dX11_restore_89 : decode cX11_restore 89 = .ok (.bipush 6, 2) := by decide +kernel
theorem dX11_restore_91 : decode cX11_restore 91 = .ok (.iload_n 1, 1) := by decide +kernel
theorem dX11_restore_92 : decode cX11_restore 92 = .ok (.imul, 1) := by decide +kernel
theorem dX11_restore_93 : decode cX11_restore 93 = .ok (.iconst 1, 1) := by decide +kernel
theorem dX11_restore_94 : decode cX11_restore 94 = .ok (.iadd, 1) := by decide +kernel
theorem dX11_restore_95 : decode cX11_restore 95 = .ok (.iaload, 1) := by decide +kernel
theorem dX11_restore_96 : decode cX11_restore 96 = .ok (.iastore, 1) := by decide +kernel
theorem dX11_restore_97 : decode cX11_restore 97 = .ok (.aload_n 0, 1) := by decide +kernel
theorem dX11_restore_98 : decode cX11_restore 98 = .ok (.getfield 75, 3) := by decide +kernel
theorem dX11_restore_101 : decode cX11_restore 101 = .ok (.iload_n 1, 1) := by decide +kernel
theorem dX11_restore_102 : decode cX11_restore 102 = .ok (.aload_n 0, 1) := by decide +kernel
theorem dX11_restore_103 : decode cX11_restore 103 = .ok (.getfield 141, 3) := by decide +kernel
theorem dX11_restore_106 : decode cX11_restore 106 = .ok (.bipush 6, 2) := by decide +kernel
theorem dX11_restore_108 : decode cX11_restore 108 = .ok (.iload_n 1, 1) := by decide +kernel
theorem dX11_restore_109 : decode cX11_restore 109 = .ok (.imul, 1) := by decide +kernel
theorem dX11_restore_110 : decode cX11_restore 110 = .ok (.iconst 2, 1) := by decide +kernel
theorem dX11_restore_111 : decode cX11_restore 111 = .ok (.iadd, 1) := by decide +kernel
theorem dX11_restore_112 : decode cX11_restore 112 = .ok (.iaload, 1) := by decide +kernel
theorem dX11_restore_113 : decode cX11_restore 113 = .ok (.iastore, 1) := by decide +kernel
theorem dX11_restore_114 : decode cX11_restore 114 = .ok (.aload_n 0, 1) := by decide +kernel
theorem dX11_restore_115 : decode cX11_restore 115 = .ok (.getfield 78, 3) := by decide +kernel
theorem dX11_restore_118 : decode cX11_restore 118 = .ok (.iload_n 1, 1) := by decide +kernel
theorem dX11_restore_119 : decode cX11_restore 119 = .ok (.aload_n 0, 1) := by decide +kernel
theorem dX11_restore_120 : decode cX11_restore 120 = .ok (.getfield 141, 3) := by decide +kernel
theorem dX11_restore_123 : decode cX11_restore 123 = .ok (.bipush 6, 2) := by decide +kernel
theorem dX11_restore_125 : decode cX11_restore 125 = .ok (.iload_n 1, 1) := by decide +kernel
theorem dX11_restore_126 : decode cX11_restore 126 = .ok (.imul, 1) := by decide +kernel
theorem dX11_restore_127 : decode cX11_restore 127 = .ok (.iconst 3, 1) := by decide +kernel
theorem dX11_restore_128 : decode cX11_restore 128 = .ok (.iadd, 1) := by decide +kernel
theorem dX11_restore_129 : decode cX11_restore 129 = .ok (.iaload, 1) := by decide +kernel
theorem dX11_restore_130 : decode cX11_restore 130 = .ok (.iastore, 1) := by decide +kernel
theorem dX11_restore_131 : decode cX11_restore 131 = .ok (.aload_n 0, 1) := by decide +kernel
theorem dX11_restore_132 : decode cX11_restore 132 = .ok (.getfield 80, 3) := by decide +kernel
theorem dX11_restore_135 : decode cX11_restore 135 = .ok (.iload_n 1, 1) := by decide +kernel
theorem dX11_restore_136 : decode cX11_restore 136 = .ok (.aload_n 0, 1) := by decide +kernel
theorem dX11_restore_137 : decode cX11_restore 137 = .ok (.getfield 141, 3) := by decide +kernel
theorem dX11_restore_140 : decode cX11_restore 140 = .ok (.bipush 6, 2) := by decide +kernel
theorem dX11_restore_142 : decode cX11_restore 142 = .ok (.iload_n 1, 1) := by decide +kernel
theorem dX11_restore_143 : decode cX11_restore 143 = .ok (.imul, 1) := by decide +kernel
theorem dX11_restore_144 : decode cX11_restore 144 = .ok (.iconst 4, 1) := by decide +kernel
theorem dX11_restore_145 : decode cX11_restore 145 = .ok (.iadd, 1) := by decide +kernel
theorem dX11_restore_146 : decode cX11_restore 146 = .ok (.iaload, 1) := by decide +kernel
theorem dX11_restore_147 : decode cX11_restore 147 = .ok (.iastore, 1) := by decide +kernel
theorem dX11_restore_148 : decode cX11_restore 148 = .ok (.aload_n 0, 1) := by decide +kernel
theorem dX11_restore_149 : decode cX11_restore 149 = .ok (.getfield 83, 3) := by decide +kernel
theorem dX11_restore_152 : decode cX11_restore 152 = .ok (.iload_n 1, 1) := by decide +kernel
theorem dX11_restore_153 : decode cX11_restore 153 = .ok (.aload_n 0, 1) := by decide +kernel
theorem dX11_restore_154 : decode cX11_restore 154 = .ok (.getfield 141, 3) := by decide +kernel
theorem dX11_restore_157 : decode cX11_restore 157 = .ok (.bipush 6, 2) := by decide +kernel
theorem dX11_restore_159 : decode cX11_restore 159 = .ok (.iload_n 1, 1) := by decide +kernel
theorem dX11_restore_160 : decode cX11_restore 160 = .ok (.imul, 1) := by decide +kernel
theorem dX11_restore_161 : decode cX11_restore 161 = .ok (.iconst 5, 1) := by decide +kernel
theorem dX11_restore_162 : decode cX11_restore 162 = .ok (.iadd, 1) := by decide +kernel
theorem dX11_restore_163 : decode cX11_restore 163 = .ok (.iaload, 1) := by decide +kernel
theorem dX11_restore_164 : decode cX11_restore 164 = .ok (.iconst 1, 1) := by decide +kernel
theorem dX11_restore_165 : decode cX11_restore 165 = .ok (.if_icmp .ne 7, 3) := by decide +kernel
theorem dX11_restore_168 : decode cX11_restore 168 = .ok (.iconst 1, 1) := by decide +kernel
theorem dX11_restore_169 : decode cX11_restore 169 = .ok (.goto 4, 3) := by decide +kernel
theorem dX11_restore_172 : decode cX11_restore 172 = .ok (.iconst 0, 1) := by decide +kernel
theorem dX11_restore_173 : decode cX11_restore 173 = .ok (.bastore, 1) := by decide +kernel
theorem dX11_restore_174 : decode cX11_restore 174 = .ok (.iinc 1 1, 3) := by decide +kernel
theorem dX11_restore_177 : decode cX11_restore 177 = .ok (.goto (-120), 3) := by decide +kernel
theorem dX11_restore_180 : decode cX11_restore 180 = .ok (.aload_n 0, 1) := by decide +kernel
theorem dX11_restore_181 : decode cX11_restore 181 = .ok (.getfield 86, 3) := by decide +kernel
theorem dX11_restore_184 : decode cX11_restore 184 = .ok (.aload_n 0, 1) := by decide +kernel
theorem dX11_restore_185 : decode cX11_restore 185 = .ok (.getfield 144, 3) := by decide +kernel
theorem dX11_restore_188 : decode cX11_restore 188 = .ok (.invokestatic 411, 3) := by decide +kernel
theorem dX11_restore_191 : decode cX11_restore 191 = .ok (.aload_n 0, 1) := by decide +kernel
theorem dX11_restore_192 : decode cX11_restore 192 = .ok (.getfield 89, 3) := by decide +kernel
theorem dX11_restore_195 : decode cX11_restore 195 = .ok (.aload_n 0, 1) := by decide +kernel
theorem dX11_restore_196 : decode cX11_restore 196 = .ok (.getfield 147, 3) := by decide +kernel
theorem dX11_restore_199 : decode cX11_restore 199 = .ok (.invokestatic 411, 3) := by decide +kernel
theorem dX11_restore_202 : decode cX11_restore 202 = .ok (.aload_n 0, 1) := by decide +kernel
theorem dX11_restore_203 : decode cX11_restore 203 = .ok (.getfield 92, 3) := by decide +kernel
theorem dX11_restore_206 : decode cX11_restore 206 = .ok (.aload_n 0, 1) := by decide +kernel
theorem dX11_restore_207 : decode cX11_restore 207 = .ok (.getfield 150, 3) := by decide +kernel
theorem dX11_restore_210 : decode cX11_restore 210 = .ok (.invokestatic 411, 3) := by decide +kernel
theorem dX11_restore_213 : decode cX11_restore 213 = .ok (.aload_n 0, 1) := by decide +kernel
theorem dX11_restore_214 : decode cX11_restore 214 = .ok (.getfield 66, 3) := by decide +kernel
theorem dX11_restore_217 : decode cX11_restore 217 = .ok (.aload_n 0, 1) := by decide +kernel
theorem dX11_restore_218 : decode cX11_restore 218 = .ok (.getfield 153, 3) := by decide +kernel
theorem dX11_restore_221 : decode cX11_restore 221 = .ok (.invokestatic 411, 3) := by decide +kernel
theorem dX11_restore_224 : decode cX11_restore 224 = .ok (.iconst 1, 1) := by decide +kernel
theorem dX11_restore_225 : decode cX11_restore 225 = .ok (.ireturn, 1) := by decide +kernel
