theorem dX5_wordFrom_0 : decode cX5_wordFrom 0 = .ok (.aload_n 0, 1) := by decide +kernel
theorem dX5_wordFrom_1 : decode cX5_wordFrom 1 = .ok (.ldc 94, 2) := by decide +kernel
theorem dX5_wordFrom_3 : decode cX5_wordFrom 3 = .ok (.iload_n 1, 1) := by decide +kernel
theorem dX5_wordFrom_4 : decode cX5_wordFrom 4 = .ok (.iload_n 2, 1) := by decide +kernel
theorem dX5_wordFrom_5 : decode cX5_wordFrom 5 = .ok (.invokevirtual 96, 3) := by decide +kernel
theorem dX5_wordFrom_8 : decode cX5_wordFrom 8 = .ok (.ifCond .eq 9, 3) := by decide +kernel
theorem dX5_wordFrom_11 : decode cX5_wordFrom 11 = .ok (.sipush 301, 3) := by decide +kernel
theorem dX5_wordFrom_14 : decode cX5_wordFrom 14 = .ok (.goto 448, 3) := by decide +kernel
theorem dX5_wordFrom_17 : decode cX5_wordFrom 17 = .ok (.aload_n 0, 1) := by decide +kernel
theorem dX5_wordFrom_18 : decode cX5_wordFrom 18 = .ok (.ldc 100, 2) := by decide +kernel
theorem dX5_wordFrom_20 : decode cX5_wordFrom 20 = .ok (.iload_n 1, 1) := by decide +kernel
theorem dX5_wordFrom_21 : decode cX5_wordFrom 21 = .ok (.iload_n 2, 1) := by decide +kernel
theorem dX5_wordFrom_22 : decode cX5_wordFrom 22 = .ok (.invokevirtual 96, 3) := by decide +kernel
theorem dX5_wordFrom_25 : decode cX5_wordFrom 25 = .ok (.ifCond .eq 9, 3) := by decide +kernel
theorem dX5_wordFrom_28 : decode cX5_wordFrom 28 = .ok (.sipush 302, 3) := by decide +kernel
theorem dX5_wordFrom_31 : decode cX5_wordFrom 31 = .ok (.goto 431, 3) := by decide +kernel
theorem dX5_wordFrom_34 : decode cX5_wordFrom 34 = .ok (.aload_n 0, 1) := by decide +kernel
theorem dX5_wordFrom_35 : decode cX5_wordFrom 35 = .ok (.ldc 102, 2) := by decide +kernel
theorem dX5_wordFrom_37 : decode cX5_wordFrom 37 = .ok (.iload_n 1, 1) := by decide +kernel
theorem dX5_wordFrom_38 : decode cX5_wordFrom 38 = .ok (.iload_n 2, 1) := by decide +kernel
theorem dX5_wordFrom_39 : decode cX5_wordFrom 39 = .ok (.invokevirtual 96, 3) := by decide +kernel
theorem dX5_wordFrom_42 : decode cX5_wordFrom 42 = .ok (.ifCond .eq 9, 3) := by decide +kernel
theorem dX5_wordFrom_45 : decode cX5_wordFrom 45 = .ok (.sipush 303, 3) := by decide +kernel
theorem dX5_wordFrom_48 : decode cX5_wordFrom 48 = .ok (.goto 414, 3) := by decide +kernel
theorem dX5_wordFrom_51 : decode cX5_wordFrom 51 = .ok (.aload_n 0, 1) := by decide +kernel
theorem dX5_wordFrom_52 : decode cX5_wordFrom 52 = .ok (.ldc 104, 2) := by decide +kernel
theorem dX5_wordFrom_54 : decode cX5_wordFrom 54 = .ok (.iload_n 1, 1) := by decide +kernel
theorem dX5_wordFrom_55 : decode cX5_wordFrom 55 = .ok (.iload_n 2, 1) := by decide +kernel
theorem dX5_wordFrom_56 : decode cX5_wordFrom 56 = .ok (.invokevirtual 96, 3) := by decide +kernel
theorem dX5_wordFrom_59 : decode cX5_wordFrom 59 = .ok (.ifCond .eq 9, 3) := by decide +kernel
theorem dX5_wordFrom_62 : decode cX5_wordFrom 62 = .ok (.sipush 304, 3) := by decide +kernel
theorem dX5_wordFrom_65 : decode cX5_wordFrom 65 = .ok (.goto 397, 3) := by decide +kernel
theorem dX5_wordFrom_68 : decode cX5_wordFrom 68 = .ok (.aload_n 0, 1) := by decide +kernel
theorem dX5_wordFrom_69 : decode cX5_wordFrom 69 = .ok (.ldc 106, 2) := by decide +kernel
theorem dX5_wordFrom_71 : decode cX5_wordFrom 71 = .ok (.iload_n 1, 1) := by decide +kernel
theorem dX5_wordFrom_72 : decode cX5_wordFrom 72 = .ok (.iload_n 2, 1) := by decide +kernel
theorem dX5_wordFrom_73 : decode cX5_wordFrom 73 = .ok (.invokevirtual 96, 3) := by decide +kernel
theorem dX5_wordFrom_76 : decode cX5_wordFrom 76 = .ok (.ifCond .eq 9, 3) := by decide +kernel
theorem dX5_wordFrom_79 : decode cX5_wordFrom 79 = .ok (.sipush 305, 3) := by decide +kernel
theorem dX5_wordFrom_82 : decode cX5_wordFrom 82 = .ok (.goto 380, 3) := by decide +kernel
theorem dX5_wordFrom_85 : decode cX5_wordFrom 85 = .ok (.aload_n 0, 1) := by decide +kernel
theorem dX5_wordFrom_86 : decode cX5_wordFrom 86 = .ok (.ldc 108, 2) := by decide +kernel
theorem dX5_wordFrom_88 : decode cX5_wordFrom 88 = .ok (.iload_n 1, 1) := by decide +kernel
theorem dX5_wordFrom_89 : decode cX5_wordFrom 89 = .ok (.iload_n 2, 1) := by decide +kernel
theorem dX5_wordFrom_90 : decode cX5_wordFrom 90 = .ok (.invokevirtual 96, 3) := by decide +kernel
theorem dX5_wordFrom_93 : decode cX5_wordFrom 93 = .ok (.ifCond .eq 9, 3) := by decide +kernel
theorem dX5_wordFrom_96 : decode cX5_wordFrom 96 = .ok (.sipush 306, 3) := by decide +kernel
theorem dX5_wordFrom_99 : decode cX5_wordFrom 99 = .ok (.goto 363, 3) := by decide +kernel
theorem dX5_wordFrom_102 : decode cX5_wordFrom 102 = .ok (.aload_n 0, 1) := by decide +kernel
theorem dX5_wordFrom_103 : decode cX5_wordFrom 103 = .ok (.ldc 110, 2) := by decide +kernel
theorem dX5_wordFrom_105 : decode cX5_wordFrom 105 = .ok (.iload_n 1, 1) := by decide +kernel
theorem dX5_wordFrom_106 : decode cX5_wordFrom 106 = .ok (.iload_n 2, 1) := by decide +kernel
theorem dX5_wordFrom_107 : decode cX5_wordFrom 107 = .ok (.invokevirtual 96, 3) := by decide +kernel
theorem dX5_wordFrom_110 : decode cX5_wordFrom 110 = .ok (.ifCond .eq 9, 3) := by decide +kernel
theorem dX5_wordFrom_113 : decode cX5_wordFrom 113 = .ok (.sipush 307, 3) := by decide +kernel
theorem dX5_wordFrom_116 : decode cX5_wordFrom 116 = .ok (.goto 346, 3) := by decide +kernel
theorem dX5_wordFrom_119 : decode cX5_wordFrom 119 = .ok (.aload_n 0, 1) := by decide +kernel
theorem dX5_wordFrom_120 : decode cX5_wordFrom 120 = .ok (.ldc 112, 2) := by decide +kernel
theorem dX5_wordFrom_122 : decode cX5_wordFrom 122 = .ok (.iload_n 1, 1) := by decide +kernel
theorem dX5_wordFrom_123 : decode cX5_wordFrom 123 = .ok (.iload_n 2, 1) := by decide +kernel
theorem dX5_wordFrom_124 : decode cX5_wordFrom 124 = .ok (.invokevirtual 96, 3) := by decide +kernel
theorem dX5_wordFrom_127 : decode cX5_wordFrom 127 = .ok (.ifCond .eq 9, 3) := by decide +kernel
theorem dX5_wordFrom_130 : decode cX5_wordFrom 130 = .ok (.sipush 308, 3) := by decide +kernel
theorem dX5_wordFrom_133 : decode cX5_wordFrom 133 = .ok (.goto 329, 3) := by decide +kernel
theorem dX5_wordFrom_136 : decode cX5_wordFrom 136 = .ok (.aload_n 0, 1) := by decide +kernel
theorem dX5_wordFrom_137 : decode cX5_wordFrom 137 = .ok (.ldc 114, 2) := by decide +kernel
theorem dX5_wordFrom_139 : decode cX5_wordFrom 139 = .ok (.iload_n 1, 1) := by decide +kernel
theorem dX5_wordFrom_140 : decode cX5_wordFrom 140 = .ok (.iload_n 2, 1) := by decide +kernel
theorem dX5_wordFrom_141 : decode cX5_wordFrom 141 = .ok (.invokevirtual 96, 3) := by decide +kernel
theorem dX5_wordFrom_144 : decode cX5_wordFrom 144 = .ok (.ifCond .eq 9, 3) := by decide +kernel
theorem dX5_wordFrom_147 : decode cX5_wordFrom 147 = .ok (.sipush 309, 3) := by decide +kernel
theorem dX5_wordFrom_150 : decode cX5_wordFrom 150 = .ok (.goto 312, 3) := by decide +kernel
theorem dX5_wordFrom_153 : decode cX5_wordFrom 153 = .ok (.aload_n 0, 1) := by decide +kernel
theorem dX5_wordFrom_154 : decode cX5_wordFrom 154 = .ok (.ldc 116, 2) := by decide +kernel
theorem dX5_wordFrom_156 : decode cX5_wordFrom 156 = .ok (.iload_n 1, 1) := by decide +kernel
theorem dX5_wordFrom_157 : decode cX5_wordFrom 157 = .ok (.iload_n 2, 1) := by decide +kernel
theorem dX5_wordFrom_158 : decode cX5_wordFrom 158 = .ok (.invokevirtual 96, 3) := by decide +kernel
theorem dX5_wordFrom_161 : decode cX5_wordFrom 161 = .ok (.ifCond .eq 9, 3) := by decide +kernel
theorem dX5_wordFrom_164 : decode cX5_wordFrom 164 = .ok (.sipush 310, 3) := by decide +kernel
theorem dX5_wordFrom_167 : decode cX5_wordFrom 167 = .ok (.goto 295, 3) := by decide +kernel
theorem dX5_wordFrom_170 : decode cX5_wordFrom 170 = .ok (.aload_n 0, 1) := by decide +kernel
theorem dX5_wordFrom_171 : decode cX5_wordFrom 171 = .ok (.ldc 117, 2) := by decide +kernel
theorem dX5_wordFrom_173 : decode cX5_wordFrom 173 = .ok (.iload_n 1, 1) := by decide +kernel
theorem dX5_wordFrom_174 : decode cX5_wordFrom 174 = .ok (.iload_n 2, 1) := by decide +kernel
theorem dX5_wordFrom_175 : decode cX5_wordFrom 175 = .ok (.invokevirtual 96, 3) := by decide +kernel
theorem dX5_wordFrom_178 : decode cX5_wordFrom 178 = .ok (.ifCond .eq 9, 3) := by decide +kernel
theorem dX5_wordFrom_181 : decode cX5_wordFrom 181 = .ok (.sipush 311, 3) := by decide +kernel
theorem dX5_wordFrom_184 : decode cX5_wordFrom 184 = .ok (.goto 278, 3) := by decide +kernel
theorem dX5_wordFrom_187 : decode cX5_wordFrom 187 = .ok (.aload_n 0, 1) := by decide +kernel
theorem dX5_wordFrom_188 : decode cX5_wordFrom 188 = .ok (.ldc 119, 2) := by decide +kernel
theorem dX5_wordFrom_190 : decode cX5_wordFrom 190 = .ok (.iload_n 1, 1) := by decide +kernel
theorem dX5_wordFrom_191 : decode cX5_wordFrom 191 = .ok (.iload_n 2, 1) := by decide +kernel
theorem dX5_wordFrom_192 : decode cX5_wordFrom 192 = .ok (.invokevirtual 96, 3) := by decide +kernel
theorem dX5_wordFrom_195 : decode cX5_wordFrom 195 = .ok (.ifCond .eq 9, 3) := by decide +kernel
theorem dX5_wordFrom_198 : decode cX5_wordFrom 198 = .ok (.sipush 312, 3) := by decide +kernel
theorem dX5_wordFrom_201 : decode cX5_wordFrom 201 = .ok (.goto 261, 3) := by decide +kernel
theorem dX5_wordFrom_204 : decode cX5_wordFrom 204 = .ok (.aload_n 0, 1) := by decide +kernel
theorem dX5_wordFrom_205 : decode cX5_wordFrom 205 = .ok (.ldc 121, 2) := by decide +kernel
theorem dX5_wordFrom_207 : decode cX5_wordFrom 207 = .ok (.iload_n 1, 1) := by decide +kernel
theorem dX5_wordFrom_208 : decode cX5_wordFrom 208 = .ok (.iload_n 2, 1) := by decide +kernel
theorem dX5_wordFrom_209 : decode cX5_wordFrom 209 = .ok (.invokevirtual 96, 3) := by decide +kernel
theorem dX5_wordFrom_212 : decode cX5_wordFrom 212 = .ok (.ifCond .eq 9, 3) := by decide +kernel
theorem dX5_wordFrom_215 : decode cX5_wordFrom 215 = .ok (.sipush 313, 3) := by decide +kernel
theorem dX5_wordFrom_218 : decode cX5_wordFrom 218 = .ok (.goto 244, 3) := by decide +kernel
theorem dX5_wordFrom_221 : decode cX5_wordFrom 221 = .ok (.aload_n 0, 1) := by decide +kernel
theorem dX5_wordFrom_222 : decode cX5_wordFrom 222 = .ok (.ldc 123, 2) := by decide +kernel
theorem dX5_wordFrom_224 : decode cX5_wordFrom 224 = .ok (.iload_n 1, 1) := by decide +kernel
theorem dX5_wordFrom_225 : decode cX5_wordFrom 225 = .ok (.iload_n 2, 1) := by decide +kernel
theorem dX5_wordFrom_226 : decode cX5_wordFrom 226 = .ok (.invokevirtual 96, 3) := by decide +kernel
theorem dX5_wordFrom_229 : decode cX5_wordFrom 229 = .ok (.ifCond .eq 9, 3) := by decide +kernel
theorem dX5_wordFrom_232 : decode cX5_wordFrom 232 = .ok (.sipush 314, 3) := by decide +kernel
theorem dX5_wordFrom_235 : decode cX5_wordFrom 235 = .ok (.goto 227, 3) := by decide +kernel
theorem dX5_wordFrom_238 : decode cX5_wordFrom 238 = .ok (.aload_n 0, 1) := by decide +kernel
theorem dX5_wordFrom_239 : decode cX5_wordFrom 239 = .ok (.ldc 125, 2) := by decide +kernel
theorem dX5_wordFrom_241 : decode cX5_wordFrom 241 = .ok (.iload_n 1, 1) := by decide +kernel
theorem dX5_wordFrom_242 : decode cX5_wordFrom 242 = .ok (.iload_n 2, 1) := by decide +kernel
theorem dX5_wordFrom_243 : decode cX5_wordFrom 243 = .ok (.invokevirtual 96, 3) := by decide +kernel
theorem dX5_wordFrom_246 : decode cX5_wordFrom 246 = .ok (.ifCond .eq 9, 3) := by decide +kernel
theorem dX5_wordFrom_249 : decode cX5_wordFrom 249 = .ok (.sipush 315, 3) := by decide +kernel
theorem dX5_wordFrom_252 : decode cX5_wordFrom 252 = .ok (.goto 210, 3) := by decide +kernel
theorem dX5_wordFrom_255 : decode cX5_wordFrom 255 = .ok (.aload_n 0, 1) := by decide +kernel
theorem dX5_wordFrom_256 : decode cX5_wordFrom 256 = .ok (.ldc 127, 2) := by decide +kernel
theorem dX5_wordFrom_258 : decode cX5_wordFrom 258 = .ok (.iload_n 1, 1) := by decide +kernel
theorem dX5_wordFrom_259 : decode cX5_wordFrom 259 = .ok (.iload_n 2, 1) := by decide +kernel
theorem dX5_wordFrom_260 : decode cX5_wordFrom 260 = .ok (.invokevirtual 96, 3) := by decide +kernel
theorem dX5_wordFrom_263 : decode cX5_wordFrom 263 = .ok (.ifCond .eq 9, 3) := by decide +kernel
theorem dX5_wordFrom_266 : decode cX5_wordFrom 266 = .ok (.sipush 316, 3) := by decide +kernel
theorem dX5_wordFrom_269 : decode cX5_wordFrom 269 = .ok (.goto 193, 3) := by decide +kernel
theorem dX5_wordFrom_272 : decode cX5_wordFrom 272 = .ok (.aload_n 0, 1) := by decide +kernel
theorem dX5_wordFrom_273 : decode cX5_wordFrom 273 = .ok (.ldc 129, 2) := by decide +kernel
theorem dX5_wordFrom_275 : decode cX5_wordFrom 275 = .ok (.iload_n 1, 1) := by decide +kernel
theorem dX5_wordFrom_276 : decode cX5_wordFrom 276 = .ok (.iload_n 2, 1) := by decide +kernel
theorem dX5_wordFrom_277 : decode cX5_wordFrom 277 = .ok (.invokevirtual 96, 3) := by decide +kernel
theorem dX5_wordFrom_280 : decode cX5_wordFrom 280 = .ok (.ifCond .eq 9, 3) := by decide +kernel
theorem dX5_wordFrom_283 : decode cX5_wordFrom 283 = .ok (.sipush 317, 3) := by decide +kernel
theorem dX5_wordFrom_286 : decode cX5_wordFrom 286 = .ok (.goto 176, 3) := by decide +kernel
theorem dX5_wordFrom_289 : decode cX5_wordFrom 289 = .ok (.aload_n 0, 1) := by decide +kernel
theorem dX5_wordFrom_290 : decode cX5_wordFrom 290 = .ok (.ldc 131, 2) := by decide +kernel
theorem dX5_wordFrom_292 : decode cX5_wordFrom 292 = .ok (.iload_n 1, 1) := by decide +kernel
theorem dX5_wordFrom_293 : decode cX5_wordFrom 293 = .ok (.iload_n 2, 1) := by decide +kernel
theorem dX5_wordFrom_294 : decode cX5_wordFrom 294 = .ok (.invokevirtual 96, 3) := by decide +kernel
theorem dX5_wordFrom_297 : decode cX5_wordFrom 297 = .ok (.ifCond .eq 9, 3) := by decide +kernel
theorem dX5_wordFrom_300 : decode cX5_wordFrom 300 = .ok (.sipush 318, 3) := by decide +kernel
theorem dX5_wordFrom_303 : decode cX5_wordFrom 303 = .ok (.goto 159, 3) := by decide +kernel
theorem dX5_wordFrom_306 : decode cX5_wordFrom 306 = .ok (.aload_n 0, 1) := by decide +kernel
theorem dX5_wordFrom_307 : decode cX5_wordFrom 307 = .ok (.ldc 133, 2) := by decide +kernel
theorem dX5_wordFrom_309 : decode cX5_wordFrom 309 = .ok (.iload_n 1, 1) := by decide +kernel
theorem dX5_wordFrom_310 : decode cX5_wordFrom 310 = .ok (.iload_n 2, 1) := by decide +kernel
theorem dX5_wordFrom_311 : decode cX5_wordFrom 311 = .ok (.invokevirtual 96, 3) := by decide +kernel
theorem dX5_wordFrom_314 : decode cX5_wordFrom 314 = .ok (.ifCond .eq 9, 3) := by decide +kernel
theorem dX5_wordFrom_317 : decode cX5_wordFrom 317 = .ok (.sipush 319, 3) := by decide +kernel
theorem dX5_wordFrom_320 : decode cX5_wordFrom 320 = .ok (.goto 142, 3) := by decide +kernel
theorem dX5_wordFrom_323 : decode cX5_wordFrom 323 = .ok (.aload_n 0, 1) := by decide +kernel
theorem dX5_wordFrom_324 : decode cX5_wordFrom 324 = .ok (.ldc 135, 2) := by decide +kernel
theorem dX5_wordFrom_326 : decode cX5_wordFrom 326 = .ok (.iload_n 1, 1) := by decide +kernel
theorem dX5_wordFrom_327 : decode cX5_wordFrom 327 = .ok (.iload_n 2, 1) := by decide +kernel
theorem dX5_wordFrom_328 : decode cX5_wordFrom 328 = .ok (.invokevirtual 96, 3) := by decide +kernel
theorem dX5_wordFrom_331 : decode cX5_wordFrom 331 = .ok (.ifCond .eq 9, 3) := by decide +kernel
theorem dX5_wordFrom_334 : decode cX5_wordFrom 334 = .ok (.sipush 320, 3) := by decide +kernel
theorem dX5_wordFrom_337 : decode cX5_wordFrom 337 = .ok (.goto 125, 3) := by decide +kernel
theorem dX5_wordFrom_340 : decode cX5_wordFrom 340 = .ok (.aload_n 0, 1) := by decide +kernel
theorem dX5_wordFrom_341 : decode cX5_wordFrom 341 = .ok (.ldc 137, 2) := by decide +kernel
theorem dX5_wordFrom_343 : decode cX5_wordFrom 343 = .ok (.iload_n 1, 1) := by decide +kernel
theorem dX5_wordFrom_344 : decode cX5_wordFrom 344 = .ok (.iload_n 2, 1) := by decide +kernel
theorem dX5_wordFrom_345 : decode cX5_wordFrom 345 = .ok (.invokevirtual 96, 3) := by decide +kernel
theorem dX5_wordFrom_348 : decode cX5_wordFrom 348 = .ok (.ifCond .eq 9, 3) := by decide +kernel
theorem dX5_wordFrom_351 : decode cX5_wordFrom 351 = .ok (.sipush 321, 3) := by decide +kernel
theorem dX5_wordFrom_354 : decode cX5_wordFrom 354 = .ok (.goto 108, 3) := by decide +kernel
theorem dX5_wordFrom_357 : decode cX5_wordFrom 357 = .ok (.aload_n 0, 1) := by decide +kernel
theorem dX5_wordFrom_358 : decode cX5_wordFrom 358 = .ok (.ldc 139, 2) := by decide +kernel
theorem dX5_wordFrom_360 : decode cX5_wordFrom 360 = .ok (.iload_n 1, 1) := by decide +kernel
theorem dX5_wordFrom_361 : decode cX5_wordFrom 361 = .ok (.iload_n 2, 1) := by decide +kernel
theorem dX5_wordFrom_362 : decode cX5_wordFrom 362 = .ok (.invokevirtual 96, 3) := by decide +kernel
theorem dX5_wordFrom_365 : decode cX5_wordFrom 365 = .ok (.ifCond .eq 9, 3) := by decide +kernel
theorem dX5_wordFrom_368 : decode cX5_wordFrom 368 = .ok (.sipush 322, 3) := by decide +kernel
theorem dX5_wordFrom_371 : decode cX5_wordFrom 371 = .ok (.goto 91, 3) := by decide +kernel
theorem dX5_wordFrom_374 : decode cX5_wordFrom 374 = .ok (.aload_n 0, 1) := by decide +kernel
theorem dX5_wordFrom_375 : decode cX5_wordFrom 375 = .ok (.ldc 141, 2) := by decide +kernel
theorem dX5_wordFrom_377 : decode cX5_wordFrom 377 = .ok (.iload_n 1, 1) := by decide +kernel
theorem dX5_wordFrom_378 : decode cX5_wordFrom 378 = .ok (.iload_n 2, 1) := by decide +kernel
theorem dX5_wordFrom_379 : decode cX5_wordFrom 379 = .ok (.invokevirtual 96, 3) := by decide +kernel
theorem dX5_wordFrom_382 : decode cX5_wordFrom 382 = .ok (.ifCond .eq 9, 3) := by decide +kernel
theorem dX5_wordFrom_385 : decode cX5_wordFrom 385 = .ok (.sipush 323, 3) := by decide +kernel
theorem dX5_wordFrom_388 : decode cX5_wordFrom 388 = .ok (.goto 74, 3) := by decide +kernel
theorem dX5_wordFrom_391 : decode cX5_wordFrom 391 = .ok (.aload_n 0, 1) := by decide +kernel
theorem dX5_wordFrom_392 : decode cX5_wordFrom 392 = .ok (.ldc 143, 2) := by decide +kernel
theorem dX5_wordFrom_394 : decode cX5_wordFrom 394 = .ok (.iload_n 1, 1) := by decide +kernel
theorem dX5_wordFrom_395 : decode cX5_wordFrom 395 = .ok (.iload_n 2, 1) := by decide +kernel
theorem dX5_wordFrom_396 : decode cX5_wordFrom 396 = .ok (.invokevirtual 96, 3) := by decide +kernel
theorem dX5_wordFrom_399 : decode cX5_wordFrom 399 = .ok (.ifCond .eq 9, 3) := by decide +kernel
theorem dX5_wordFrom_402 : decode cX5_wordFrom 402 = .ok (.sipush 324, 3) := by decide +kernel
theorem dX5_wordFrom_405 : decode cX5_wordFrom 405 = .ok (.goto 57, 3) := by decide +kernel
theorem dX5_wordFrom_408 : decode cX5_wordFrom 408 = .ok (.aload_n 0, 1) := by decide +kernel
theorem dX5_wordFrom_409 : decode cX5_wordFrom 409 = .ok (.ldc 145, 2) := by decide +kernel
theorem dX5_wordFrom_411 : decode cX5_wordFrom 411 = .ok (.iload_n 1, 1) := by decide +kernel
theorem dX5_wordFrom_412 : decode cX5_wordFrom 412 = .ok (.iload_n 2, 1) := by decide +kernel
theorem dX5_wordFrom_413 : decode cX5_wordFrom 413 = .ok (.invokevirtual 96, 3) := by decide +kernel
theorem dX5_wordFrom_416 : decode cX5_wordFrom 416 = .ok (.ifCond .eq 9, 3) := by decide +kernel
theorem dX5_wordFrom_419 : decode cX5_wordFrom 419 = .ok (.sipush 325, 3) := by decide +kernel
theorem dX5_wordFrom_422 : decode cX5_wordFrom 422 = .ok (.goto 40, 3) := by decide +kernel
theorem dX5_wordFrom_425 : decode cX5_wordFrom 425 = .ok (.aload_n 0, 1) := by decide +kernel
theorem dX5_wordFrom_426 : decode cX5_wordFrom 426 = .ok (.ldc 147, 2) := by decide +kernel
theorem dX5_wordFrom_428 : decode cX5_wordFrom 428 = .ok (.iload_n 1, 1) := by decide +kernel
theorem dX5_wordFrom_429 : decode cX5_wordFrom 429 = .ok (.iload_n 2, 1) := by decide +kernel
theorem dX5_wordFrom_430 : decode cX5_wordFrom 430 = .ok (.invokevirtual 96, 3) := by decide +kernel
theorem dX5_wordFrom_433 : decode cX5_wordFrom 433 = .ok (.ifCond .eq 9, 3) := by decide +kernel
theorem dX5_wordFrom_436 : decode cX5_wordFrom 436 = .ok (.sipush 326, 3) := by decide +kernel
theorem dX5_wordFrom_439 : decode cX5_wordFrom 439 = .ok (.goto 23, 3) := by decide +kernel
theorem dX5_wordFrom_442 : decode cX5_wordFrom 442 = .ok (.aload_n 0, 1) := by decide +kernel
theorem dX5_wordFrom_443 : decode cX5_wordFrom 443 = .ok (.ldc 149, 2) := by decide +kernel
theorem dX5_wordFrom_445 : decode cX5_wordFrom 445 = .ok (.iload_n 1, 1) := by decide +kernel
theorem dX5_wordFrom_446 : decode cX5_wordFrom 446 = .ok (.iload_n 2, 1) := by decide +kernel
theorem dX5_wordFrom_447 : decode cX5_wordFrom 447 = .ok (.invokevirtual 96, 3) := by decide +kernel
theorem dX5_wordFrom_450 : decode cX5_wordFrom 450 = .ok (.ifCond .eq 9, 3) := by decide +kernel
theorem dX5_wordFrom_453 : decode cX5_wordFrom 453 = .ok (.sipush 327, 3) := by decide +kernel
theorem dX5_wordFrom_456 : decode cX5_wordFrom 456 = .ok (.goto 6, 3) := by decide +kernel
theorem dX5_wordFrom_459 : decode cX5_wordFrom 459 = .ok (.sipush 300, 3) := by decide +kernel
theorem dX5_wordFrom_462 : decode cX5_wordFrom 462 = .ok (.ireturn, 1) := by decide +kernel
theorem dX5_is_0 : decode cX5_is 0 = .ok (.iload_n 3, 1) := by decide +kernel
theorem dX5_is_1 : decode cX5_is 1 = .ok (.iload_n 2, 1) := by decide +kernel
theorem dX5_is_2 : decode cX5_is 2 = .ok (.isub, 1) := by decide +kernel
theorem dX5_is_3 : decode cX5_is 3 = .ok (.aload_n 1, 1) := by decide +kernel
theorem dX5_is_4 : decode cX5_is 4 = .ok (.invokevirtual 151, 3) := by decide +kernel
theorem dX5_is_7 : decode cX5_is 7 = .ok (.if_icmp .eq 5, 3) := by decide +kernel
theorem dX5_is_10 : decode cX5_is 10 = .ok (.iconst 0, 1) := by decide +kernel
theorem dX5_is_11 : decode cX5_is 11 = .ok (.ireturn, 1) := by decide +kernel
theorem dX5_is_12 : decode cX5_is 12 = .ok (.iload_n 2, 1) := by decide +kernel
theorem dX5_is_13 : decode cX5_is 13 = .ok (.istore 4, 2) := by decide +kernel
theorem dX5_is_15 : decode cX5_is 15 = .ok (.iload 4, 2) := by decide +kernel
theorem dX5_is_17 : decode cX5_is 17 = .ok (.iload_n 3, 1) := by decide +kernel
theorem dX5_is_18 : decode cX5_is 18 = .ok (.if_icmp .ge 32, 3) := by decide +kernel
theorem dX5_is_21 : decode cX5_is 21 = .ok (.aload_n 0, 1) := by decide +kernel
theorem dX5_is_22 : decode cX5_is 22 = .ok (.getfield 18, 3) := by decide +kernel
theorem dX5_is_25 : decode cX5_is 25 = .ok (.getfield 66, 3) := by decide +kernel
theorem dX5_is_28 : decode cX5_is 28 = .ok (.iload 4, 2) := by decide +kernel
theorem dX5_is_30 : decode cX5_is 30 = .ok (.iaload, 1) := by decide +kernel
theorem dX5_is_31 : decode cX5_is 31 = .ok (.aload_n 1, 1) := by decide +kernel
theorem dX5_is_32 : decode cX5_is 32 = .ok (.iload 4, 2) := by decide +kernel
theorem dX5_is_34 : decode cX5_is 34 = .ok (.iload_n 2, 1) := by decide +kernel
theorem dX5_is_35 : decode cX5_is 35 = .ok (.isub, 1) := by decide +kernel
theorem dX5_is_36 : decode cX5_is 36 = .ok (.invokevirtual 156, 3) := by decide +kernel
theorem dX5_is_39 : decode cX5_is 39 = .ok (.if_icmp .eq 5, 3) := by decide +kernel
theorem dX5_is_42 : decode cX5_is 42 = .ok (.iconst 0, 1) := by decide +kernel
theorem dX5_is_43 : decode cX5_is 43 = .ok (.ireturn, 1) := by decide +kernel
theorem dX5_is_44 : decode cX5_is 44 = .ok (.iinc 4 1, 3) := by decide +kernel
theorem dX5_is_47 : decode cX5_is 47 = .ok (.goto (-32), 3) := by decide +kernel
theorem dX5_is_50 : decode cX5_is 50 = .ok (.iconst 1, 1) := by decide +kernel
theorem dX5_is_51 : decode cX5_is 51 = .ok (.ireturn, 1) := by decide +kernel
theorem dX5_fail_0 : decode cX5_fail 0 = .ok (.aload_n 0, 1) := by decide +kernel
theorem dX5_fail_1 : decode cX5_fail 1 = .ok (.getfield 40, 3) := by decide +kernel
theorem dX5_fail_4 : decode cX5_fail 4 = .ok (.iconst (-1), 1) := by decide +kernel
theorem dX5_fail_5 : decode cX5_fail 5 = .ok (.if_icmp .ne 16, 3) := by decide +kernel
theorem dX5_fail_8 : decode cX5_fail 8 = .ok (.aload_n 0, 1) := by decide +kernel
theorem dX5_fail_9 : decode cX5_fail 9 = .ok (.aload_n 0, 1) := by decide +kernel
theorem dX5_fail_10 : decode cX5_fail 10 = .ok (.getfield 15, 3) := by decide +kernel
theorem dX5_fail_13 : decode cX5_fail 13 = .ok (.aload_n 0, 1) := by decide +kernel
theorem dX5_fail_14 : decode cX5_fail 14 = .ok (.getfield 30, 3) := by decide +kernel
theorem dX5_fail_17 : decode cX5_fail 17 = .ok (.iaload, 1) := by decide +kernel
theorem dX5_fail_18 : decode cX5_fail 18 = .ok (.putfield 40, 3) := by decide +kernel
theorem dX5_fail_21 : decode cX5_fail 21 = .ok (.return_, 1) := by decide +kernel
theorem dX5_take_0 : decode cX5_take 0 = .ok (.aload_n 0, 1) := by decide +kernel
theorem dX5_take_1 : decode cX5_take 1 = .ok (.getfield 40, 3) := by decide +kernel
theorem dX5_take_4 : decode cX5_take 4 = .ok (.iconst (-1), 1) := by decide +kernel
theorem dX5_take_5 : decode cX5_take 5 = .ok (.if_icmp .ne 16, 3) := by decide +kernel
theorem dX5_take_8 : decode cX5_take 8 = .ok (.aload_n 0, 1) := by decide +kernel
theorem dX5_take_9 : decode cX5_take 9 = .ok (.getfield 11, 3) := by decide +kernel
theorem dX5_take_12 : decode cX5_take 12 = .ok (.aload_n 0, 1) := by decide +kernel
theorem dX5_take_13 : decode cX5_take 13 = .ok (.getfield 30, 3) := by decide +kernel
theorem dX5_take_16 : decode cX5_take 16 = .ok (.iaload, 1) := by decide +kernel
theorem dX5_take_17 : decode cX5_take 17 = .ok (.iload_n 1, 1) := by decide +kernel
theorem dX5_take_18 : decode cX5_take 18 = .ok (.if_icmp .eq 5, 3) := by decide +kernel
theorem dX5_take_21 : decode cX5_take 21 = .ok (.iconst 0, 1) := by decide +kernel
theorem dX5_take_22 : decode cX5_take 22 = .ok (.ireturn, 1) := by decide +kernel
theorem dX5_take_23 : decode cX5_take 23 = .ok (.aload_n 0, 1) := by decide +kernel
theorem dX5_take_24 : decode cX5_take 24 = .ok (.dup, 1) := by decide +kernel
theorem dX5_take_25 : decode cX5_take 25 = .ok (.getfield 30, 3) := by decide +kernel
theorem dX5_take_28 : decode cX5_take 28 = .ok (.iconst 1, 1) := by decide +kernel
theorem dX5_take_29 : decode cX5_take 29 = .ok (.iadd, 1) := by decide +kernel
theorem dX5_take_30 : decode cX5_take 30 = .ok (.putfield 30, 3) := by decide +kernel
theorem dX5_take_33 : decode cX5_take 33 = .ok (.iconst 1, 1) := by decide +kernel
theorem dX5_take_34 : decode cX5_take 34 = .ok (.ireturn, 1) := by decide +kernel
theorem dX5_seenToken_0 : decode cX5_seenToken 0 = .ok (.aload_n 0, 1) := by decide +kernel
theorem dX5_seenToken_1 : decode cX5_seenToken 1 = .ok (.getfield 40, 3) := by decide +kernel
theorem dX5_seenToken_4 : decode cX5_seenToken 4 = .ok (.iconst (-1), 1) := by decide +kernel
theorem dX5_seenToken_5 : decode cX5_seenToken 5 = .ok (.if_icmp .ne 15, 3) := by decide +kernel
theorem dX5_seenToken_8 : decode cX5_seenToken 8 = .ok (.aload_n 0, 1) := by decide +kernel
theorem dX5_seenToken_9 : decode cX5_seenToken 9 = .ok (.getfield 11, 3) := by decide +kernel
theorem dX5_seenToken_12 : decode cX5_seenToken 12 = .ok (.aload_n 0, 1) := by decide +kernel
theorem dX5_seenToken_13 : decode cX5_seenToken 13 = .ok (.getfield 30, 3) := by decide +kernel
theorem dX5_seenToken_16 : decode cX5_seenToken 16 = .ok (.iaload, 1) := by decide +kernel
theorem dX5_seenToken_17 : decode cX5_seenToken 17 = .ok (.goto 4, 3) := by decide +kernel
theorem dX5_seenToken_20 : decode cX5_seenToken 20 = .ok (.iconst (-1), 1) := by decide +kernel
theorem dX5_seenToken_21 : decode cX5_seenToken 21 = .ok (.ireturn, 1) := by decide +kernel
theorem dX5_takeNumber_0 : decode cX5_takeNumber 0 = .ok (.aload_n 0, 1) := by decide +kernel
theorem dX5_takeNumber_1 : decode cX5_takeNumber 1 = .ok (.getfield 11, 3) := by decide +kernel
theorem dX5_takeNumber_4 : decode cX5_takeNumber 4 = .ok (.aload_n 0, 1) := by decide +kernel
theorem dX5_takeNumber_5 : decode cX5_takeNumber 5 = .ok (.getfield 30, 3) := by decide +kernel
theorem dX5_takeNumber_8 : decode cX5_takeNumber 8 = .ok (.iaload, 1) := by decide +kernel
theorem dX5_takeNumber_9 : decode cX5_takeNumber 9 = .ok (.sipush 400, 3) := by decide +kernel
theorem dX5_takeNumber_12 : decode cX5_takeNumber 12 = .ok (.isub, 1) := by decide +kernel
theorem dX5_takeNumber_13 : decode cX5_takeNumber 13 = .ok (.istore_n 3, 1) := by decide +kernel
theorem dX5_takeNumber_14 : decode cX5_takeNumber 14 = .ok (.aload_n 0, 1) := by decide +kernel
theorem dX5_takeNumber_15 : decode cX5_takeNumber 15 = .ok (.getfield 40, 3) := by decide +kernel
theorem dX5_takeNumber_18 : decode cX5_takeNumber 18 = .ok (.iconst (-1), 1) := by decide +kernel
theorem dX5_takeNumber_19 : decode cX5_takeNumber 19 = .ok (.if_icmp .ne 13, 3) := by decide +kernel
theorem dX5_takeNumber_22 : decode cX5_takeNumber 22 = .ok (.iload_n 3, 1) := by decide +kernel
theorem dX5_takeNumber_23 : decode cX5_takeNumber 23 = .ok (.iload_n 1, 1) := by decide +kernel
theorem dX5_takeNumber_24 : decode cX5_takeNumber 24 = .ok (.if_icmp .lt 8, 3) := by decide +kernel
theorem dX5_takeNumber_27 : decode cX5_takeNumber 27 = .ok (.iload_n 3, 1) := by decide +kernel
theorem dX5_takeNumber_28 : decode cX5_takeNumber 28 = .ok (.iload_n 2, 1) := by decide +kernel
theorem dX5_takeNumber_29 : decode cX5_takeNumber 29 = .ok (.if_icmp .le 5, 3) := by decide +kernel
theorem dX5_takeNumber_32 : decode cX5_takeNumber 32 = .ok (.iconst (-1), 1) := by decide +kernel
theorem dX5_takeNumber_33 : decode cX5_takeNumber 33 = .ok (.ireturn, 1) := by decide +kernel
theorem dX5_takeNumber_34 : decode cX5_takeNumber 34 = .ok (.aload_n 0, 1) := by decide +kernel
theorem dX5_takeNumber_35 : decode cX5_takeNumber 35 = .ok (.dup, 1) := by decide +kernel
theorem dX5_takeNumber_36 : decode cX5_takeNumber 36 = .ok (.getfield 30, 3) := by decide +kernel
theorem dX5_takeNumber_39 : decode cX5_takeNumber 39 = .ok (.iconst 1, 1) := by decide +kernel
theorem dX5_takeNumber_40 : decode cX5_takeNumber 40 = .ok (.iadd, 1) := by decide +kernel
theorem dX5_takeNumber_41 : decode cX5_takeNumber 41 = .ok (.putfield 30, 3) := by decide +kernel
theorem dX5_takeNumber_44 : decode cX5_takeNumber 44 = .ok (.iload_n 3, 1) := by decide +kernel
theorem dX5_takeNumber_45 : decode cX5_takeNumber 45 = .ok (.ireturn, 1) := by decide +kernel
theorem dX5_readClause_0 : decode cX5_readClause 0 = .ok (.aload_n 0, 1) := by decide +kernel
theorem dX5_readClause_1 : decode cX5_readClause 1 = .ok (.getfield 11, 3) := by decide +kernel
theorem dX5_readClause_4 : decode cX5_readClause 4 = .ok (.aload_n 0, 1) := by decide +kernel
theorem dX5_readClause_5 : decode cX5_readClause 5 = .ok (.getfield 30, 3) := by decide +kernel
theorem dX5_readClause_8 : decode cX5_readClause 8 = .ok (.iaload, 1) := by decide +kernel
theorem dX5_readClause_9 : decode cX5_readClause 9 = .ok (.aload_n 0, 1) := by decide +kernel
theorem dX5_readClause_10 : decode cX5_readClause 10 = .ok (.getfield 26, 3) := by decide +kernel
theorem dX5_readClause_13 : decode cX5_readClause 13 = .ok (.ifCond .eq 9, 3) := by decide +kernel
theorem dX5_readClause_16 : decode cX5_readClause 16 = .ok (.sipush 304, 3) := by decide +kernel
theorem dX5_readClause_19 : decode cX5_readClause 19 = .ok (.goto 6, 3) := by decide +kernel
theorem dX5_readClause_22 : decode cX5_readClause 22 = .ok (.sipush 301, 3) := by decide +kernel
theorem dX5_readClause_25 : decode cX5_readClause 25 = .ok (.isub, 1) := by decide +kernel
theorem dX5_readClause_26 : decode cX5_readClause 26 = .ok (.istore_n 1, 1) := by decide +kernel
theorem dX5_readClause_27 : decode cX5_readClause 27 = .ok (.iload_n 1, 1) := by decide +kernel
theorem dX5_readClause_28 : decode cX5_readClause 28 = .ok (.ifCond .lt 19, 3) := by decide +kernel
theorem dX5_readClause_31 : decode cX5_readClause 31 = .ok (.iload_n 1, 1) := by decide +kernel
theorem dX5_readClause_32 : decode cX5_readClause 32 = .ok (.aload_n 0, 1) := by decide +kernel
theorem dX5_readClause_33 : decode cX5_readClause 33 = .ok (.getfield 26, 3) := by decide +kernel
theorem dX5_readClause_36 : decode cX5_readClause 36 = .ok (.ifCond .eq 7, 3) := by decide +kernel
theorem dX5_readClause_39 : decode cX5_readClause 39 = .ok (.iconst 3, 1) := by decide +kernel
theorem dX5_readClause_40 : decode cX5_readClause 40 = .ok (.goto 4, 3) := by decide +kernel
theorem dX5_readClause_43 : decode cX5_readClause 43 = .ok (.iconst 2, 1) := by decide +kernel
theorem dX5_readClause_44 : decode cX5_readClause 44 = .ok (.if_icmp .le 8, 3) := by decide +kernel
theorem dX5_readClause_47 : decode cX5_readClause 47 = .ok (.aload_n 0, 1) := by decide +kernel
theorem dX5_readClause_48 : decode cX5_readClause 48 = .ok (.invokevirtual 58, 3) := by decide +kernel
theorem dX5_readClause_51 : decode cX5_readClause 51 = .ok (.return_, 1) := by decide +kernel
theorem dX5_readClause_52 : decode cX5_readClause 52 = .ok (.aload_n 0, 1) := by decide +kernel
theorem dX5_readClause_53 : decode cX5_readClause 53 = .ok (.dup, 1) := by decide +kernel
theorem dX5_readClause_54 : decode cX5_readClause 54 = .ok (.getfield 30, 3) := by decide +kernel
theorem dX5_readClause_57 : decode cX5_readClause 57 = .ok (.iconst 1, 1) := by decide +kernel
theorem dX5_readClause_58 : decode cX5_readClause 58 = .ok (.iadd, 1) := by decide +kernel
theorem dX5_readClause_59 : decode cX5_readClause 59 = .ok (.putfield 30, 3) := by decide +kernel
theorem dX5_readClause_62 : decode cX5_readClause 62 = .ok (.aload_n 0, 1) := by decide +kernel
theorem dX5_readClause_63 : decode cX5_readClause 63 = .ok (.getfield 22, 3) := by decide +kernel
theorem dX5_readClause_66 : decode cX5_readClause 66 = .ok (.iload_n 1, 1) := by decide +kernel
theorem dX5_readClause_67 : decode cX5_readClause 67 = .ok (.invokevirtual 160, 3) := by decide +kernel
theorem dX5_readClause_70 : decode cX5_readClause 70 = .ok (.aload_n 0, 1) := by decide +kernel
theorem dX5_readClause_71 : decode cX5_readClause 71 = .ok (.aload_n 0, 1) := by decide +kernel
theorem dX5_readClause_72 : decode cX5_readClause 72 = .ok (.getfield 26, 3) := by decide +kernel
theorem dX5_readClause_75 : decode cX5_readClause 75 = .ok (.ifCond .eq 24, 3) := by decide +kernel
theorem dX5_readClause_78 : decode cX5_readClause 78 = .ok (.iload_n 1, 1) := by decide +kernel
theorem dX5_readClause_79 : decode cX5_readClause 79 = .ok (.ifCond .ne 7, 3) := by decide +kernel
theorem dX5_readClause_82 : decode cX5_readClause 82 = .ok (.iconst 3, 1) := by decide +kernel
theorem dX5_readClause_83 : decode cX5_readClause 83 = .ok (.goto 26, 3) := by decide +kernel
theorem dX5_readClause_86 : decode cX5_readClause 86 = .ok (.iload_n 1, 1) := by decide +kernel
theorem dX5_readClause_87 : decode cX5_readClause 87 = .ok (.iconst 1, 1) := by decide +kernel
theorem dX5_readClause_88 : decode cX5_readClause 88 = .ok (.if_icmp .ne 7, 3) := by decide +kernel
theorem dX5_readClause_91 : decode cX5_readClause 91 = .ok (.iconst 1, 1) := by decide +kernel
theorem dX5_readClause_92 : decode cX5_readClause 92 = .ok (.goto 17, 3) := by decide +kernel
theorem dX5_readClause_95 : decode cX5_readClause 95 = .ok (.iconst 0, 1) := by decide +kernel
theorem dX5_readClause_96 : decode cX5_readClause 96 = .ok (.goto 13, 3) := by decide +kernel
theorem dX5_readClause_99 : decode cX5_readClause 99 = .ok (.iload_n 1, 1) := by decide +kernel
theorem dX5_readClause_100 : decode cX5_readClause 100 = .ok (.iconst 2, 1) := by decide +kernel
theorem dX5_readClause_101 : decode cX5_readClause 101 = .ok (.if_icmp .ne 7, 3) := by decide +kernel
theorem dX5_readClause_104 : decode cX5_readClause 104 = .ok (.iconst 0, 1) := by decide +kernel
theorem dX5_readClause_105 : decode cX5_readClause 105 = .ok (.goto 4, 3) := by decide +kernel
theorem dX5_readClause_108 : decode cX5_readClause 108 = .ok (.iconst 1, 1) := by decide +kernel
theorem dX5_readClause_109 : decode cX5_readClause 109 = .ok (.invokevirtual 164, 3) := by decide +kernel
theorem dX5_readClause_112 : decode cX5_readClause 112 = .ok (.aload_n 0, 1) := by decide +kernel
theorem dX5_readClause_113 : decode cX5_readClause 113 = .ok (.getfield 26, 3) := by decide +kernel
theorem dX5_readClause_116 : decode cX5_readClause 116 = .ok (.ifCond .eq 39, 3) := by decide +kernel
theorem dX5_readClause_119 : decode cX5_readClause 119 = .ok (.aload_n 0, 1) := by decide +kernel
theorem dX5_readClause_120 : decode cX5_readClause 120 = .ok (.sipush 309, 3) := by decide +kernel
theorem dX5_readClause_123 : decode cX5_readClause 123 = .ok (.invokevirtual 54, 3) := by decide +kernel
theorem dX5_readClause_126 : decode cX5_readClause 126 = .ok (.ifCond .eq 29, 3) := by decide +kernel
theorem dX5_readClause_129 : decode cX5_readClause 129 = .ok (.aload_n 0, 1) := by decide +kernel
theorem dX5_readClause_130 : decode cX5_readClause 130 = .ok (.iconst 1, 1) := by decide +kernel
theorem dX5_readClause_131 : decode cX5_readClause 131 = .ok (.bipush 20, 2) := by decide +kernel
theorem dX5_readClause_133 : decode cX5_readClause 133 = .ok (.invokevirtual 167, 3) := by decide +kernel
theorem dX5_readClause_136 : decode cX5_readClause 136 = .ok (.istore_n 2, 1) := by decide +kernel
theorem dX5_readClause_137 : decode cX5_readClause 137 = .ok (.aload_n 0, 1) := by decide +kernel
theorem dX5_readClause_138 : decode cX5_readClause 138 = .ok (.getfield 22, 3) := by decide +kernel
theorem dX5_readClause_141 : decode cX5_readClause 141 = .ok (.iconst 1, 1) := by decide +kernel
theorem dX5_readClause_142 : decode cX5_readClause 142 = .ok (.iload_n 2, 1) := by decide +kernel
theorem dX5_readClause_143 : decode cX5_readClause 143 = .ok (.invokevirtual 170, 3) := by decide +kernel
theorem dX5_readClause_146 : decode cX5_readClause 146 = .ok (.iload_n 2, 1) := by decide +kernel
theorem dX5_readClause_147 : decode cX5_readClause 147 = .ok (.iconst (-1), 1) := by decide +kernel
theorem dX5_readClause_148 : decode cX5_readClause 148 = .ok (.if_icmp .ne 7, 3) := by decide +kernel
theorem dX5_readClause_151 : decode cX5_readClause 151 = .ok (.aload_n 0, 1) := by decide +kernel
theorem dX5_readClause_152 : decode cX5_readClause 152 = .ok (.invokevirtual 58, 3) := by decide +kernel
theorem dX5_readClause_155 : decode cX5_readClause 155 = .ok (.aload_n 0, 1) := by decide +kernel
theorem dX5_readClause_156 : decode cX5_readClause 156 = .ok (.getfield 22, 3) := by decide +kernel
theorem dX5_readClause_159 : decode cX5_readClause 159 = .ok (.bipush 6, 2) := by decide +kernel
theorem dX5_readClause_161 : decode cX5_readClause 161 = .ok (.aload_n 0, 1) := by decide +kernel
theorem dX5_readClause_162 : decode cX5_readClause 162 = .ok (.getfield 22, 3) := by decide +kernel
theorem dX5_readClause_165 : decode cX5_readClause 165 = .ok (.getfield 174, 3) := by decide +kernel
theorem dX5_readClause_168 : decode cX5_readClause 168 = .ok (.invokevirtual 170, 3) := by decide +kernel
theorem dX5_readClause_171 : decode cX5_readClause 171 = .ok (.aload_n 0, 1) := by decide +kernel
theorem dX5_readClause_172 : decode cX5_readClause 172 = .ok (.sipush 308, 3) := by decide +kernel
theorem dX5_readClause_175 : decode cX5_readClause 175 = .ok (.invokevirtual 54, 3) := by decide +kernel
theorem dX5_readClause_178 : decode cX5_readClause 178 = .ok (.ifCond .eq 7, 3) := by decide +kernel
theorem dX5_readClause_181 : decode cX5_readClause 181 = .ok (.aload_n 0, 1) := by decide +kernel
theorem dX5_readClause_182 : decode cX5_readClause 182 = .ok (.invokevirtual 177, 3) := by decide +kernel
theorem dX5_readClause_185 : decode cX5_readClause 185 = .ok (.aload_n 0, 1) := by decide +kernel
theorem dX5_readClause_186 : decode cX5_readClause 186 = .ok (.getfield 22, 3) := by decide +kernel
theorem dX5_readClause_189 : decode cX5_readClause 189 = .ok (.bipush 7, 2) := by decide +kernel
theorem dX5_readClause_191 : decode cX5_readClause 191 = .ok (.aload_n 0, 1) := by decide +kernel
theorem dX5_readClause_192 : decode cX5_readClause 192 = .ok (.getfield 22, 3) := by decide +kernel
theorem dX5_readClause_195 : decode cX5_readClause 195 = .ok (.getfield 174, 3) := by decide +kernel
theorem dX5_readClause_198 : decode cX5_readClause 198 = .ok (.invokevirtual 170, 3) := by decide +kernel
theorem dX5_readClause_201 : decode cX5_readClause 201 = .ok (.return_, 1) := by decide +kernel
theorem dX5_readSums_0 : decode cX5_readSums 0 = .ok (.aload_n 0, 1) := by decide +kernel
theorem dX5_readSums_1 : decode cX5_readSums 1 = .ok (.getfield 22, 3) := by decide +kernel
theorem dX5_readSums_4 : decode cX5_readSums 4 = .ok (.iconst 2, 1) := by decide +kernel
theorem dX5_readSums_5 : decode cX5_readSums 5 = .ok (.aload_n 0, 1) := by decide +kernel
theorem dX5_readSums_6 : decode cX5_readSums 6 = .ok (.getfield 22, 3) := by decide +kernel
theorem dX5_readSums_9 : decode cX5_readSums 9 = .ok (.getfield 174, 3) := by decide +kernel
theorem dX5_readSums_12 : decode cX5_readSums 12 = .ok (.invokevirtual 170, 3) := by decide +kernel
theorem dX5_readSums_15 : decode cX5_readSums 15 = .ok (.iconst 0, 1) := by decide +kernel
theorem dX5_readSums_16 : decode cX5_readSums 16 = .ok (.istore_n 2, 1) := by decide +kernel
theorem dX5_readSums_17 : decode cX5_readSums 17 = .ok (.iload_n 2, 1) := by decide +kernel
theorem dX5_readSums_18 : decode cX5_readSums 18 = .ok (.iconst 3, 1) := by decide +kernel
theorem dX5_readSums_19 : decode cX5_readSums 19 = .ok (.if_icmp .ge 69, 3) := by decide +kernel
theorem dX5_readSums_22 : decode cX5_readSums 22 = .ok (.iload_n 2, 1) := by decide +kernel
theorem dX5_readSums_23 : decode cX5_readSums 23 = .ok (.ifCond .le 33, 3) := by decide +kernel
theorem dX5_readSums_26 : decode cX5_readSums 26 = .ok (.iload_n 2, 1) := by decide +kernel
theorem dX5_readSums_27 : decode cX5_readSums 27 = .ok (.iload_n 1, 1) := by decide +kernel
theorem dX5_readSums_28 : decode cX5_readSums 28 = .ok (.if_icmp .ge 28, 3) := by decide +kernel
theorem dX5_readSums_31 : decode cX5_readSums 31 = .ok (.aload_n 0, 1) := by decide +kernel
theorem dX5_readSums_32 : decode cX5_readSums 32 = .ok (.iload_n 2, 1) := by decide +kernel
theorem dX5_readSums_33 : decode cX5_readSums 33 = .ok (.iconst 1, 1) := by decide +kernel
theorem dX5_readSums_34 : decode cX5_readSums 34 = .ok (.if_icmp .ne 9, 3) := by decide +kernel
theorem dX5_readSums_37 : decode cX5_readSums 37 = .ok (.sipush 310, 3) := by decide +kernel
theorem dX5_readSums_40 : decode cX5_readSums 40 = .ok (.goto 6, 3) := by decide +kernel
theorem dX5_readSums_43 : decode cX5_readSums 43 = .ok (.sipush 311, 3) := by decide +kernel
theorem dX5_readSums_46 : decode cX5_readSums 46 = .ok (.invokevirtual 54, 3) := by decide +kernel
theorem dX5_readSums_49 : decode cX5_readSums 49 = .ok (.ifCond .ne 7, 3) := by decide +kernel
theorem dX5_readSums_52 : decode cX5_readSums 52 = .ok (.aload_n 0, 1) := by decide +kernel
theorem dX5_readSums_53 : decode cX5_readSums 53 = .ok (.invokevirtual 58, 3) := by decide +kernel
theorem dX5_readSums_56 : decode cX5_readSums 56 = .ok (.iload_n 2, 1) := by decide +kernel
theorem dX5_readSums_57 : decode cX5_readSums 57 = .ok (.iload_n 1, 1) := by decide +kernel
theorem dX5_readSums_58 : decode cX5_readSums 58 = .ok (.if_icmp .ge 7, 3) := by decide +kernel
theorem dX5_readSums_61 : decode cX5_readSums 61 = .ok (.aload_n 0, 1) := by decide +kernel
theorem dX5_readSums_62 : decode cX5_readSums 62 = .ok (.invokevirtual 180, 3) := by decide +kernel
theorem dX5_readSums_65 : decode cX5_readSums 65 = .ok (.aload_n 0, 1) := by decide +kernel
theorem dX5_readSums_66 : decode cX5_readSums 66 = .ok (.getfield 22, 3) := by decide +kernel
theorem dX5_readSums_69 : decode cX5_readSums 69 = .ok (.iconst 3, 1) := by decide +kernel
theorem dX5_readSums_70 : decode cX5_readSums 70 = .ok (.iload_n 2, 1) := by decide +kernel
theorem dX5_readSums_71 : decode cX5_readSums 71 = .ok (.iadd, 1) := by decide +kernel
theorem dX5_readSums_72 : decode cX5_readSums 72 = .ok (.aload_n 0, 1) := by decide +kernel
theorem dX5_readSums_73 : decode cX5_readSums 73 = .ok (.getfield 22, 3) := by decide +kernel
theorem dX5_readSums_76 : decode cX5_readSums 76 = .ok (.getfield 174, 3) := by decide +kernel
theorem dX5_readSums_79 : decode cX5_readSums 79 = .ok (.invokevirtual 170, 3) := by decide +kernel
theorem dX5_readSums_82 : decode cX5_readSums 82 = .ok (.iinc 2 1, 3) := by decide +kernel
theorem dX5_readSums_85 : decode cX5_readSums 85 = .ok (.goto (-68), 3) := by decide +kernel
theorem dX5_readSums_88 : decode cX5_readSums 88 = .ok (.return_, 1) := by decide +kernel
theorem dX5_readTest_0 : decode cX5_readTest 0 = .ok (.aload_n 0, 1) := by decide +kernel
theorem dX5_readTest_1 : decode cX5_readTest 1 = .ok (.invokevirtual 183, 3) := by decide +kernel
theorem dX5_readTest_4 : decode cX5_readTest 4 = .ok (.iconst (-1), 1) := by decide +kernel
theorem dX5_readTest_5 : decode cX5_readTest 5 = .ok (.istore_n 1, 1) := by decide +kernel
theorem dX5_readTest_6 : decode cX5_readTest 6 = .ok (.iconst 0, 1) := by decide +kernel
theorem dX5_readTest_7 : decode cX5_readTest 7 = .ok (.istore_n 2, 1) := by decide +kernel
theorem dX5_readTest_8 : decode cX5_readTest 8 = .ok (.iload_n 2, 1) := by decide +kernel
theorem dX5_readTest_9 : decode cX5_readTest 9 = .ok (.sipush 400, 3) := by decide +kernel
theorem dX5_readTest_12 : decode cX5_readTest 12 = .ok (.if_icmp .ge 116, 3) := by decide +kernel
theorem dX5_readTest_15 : decode cX5_readTest 15 = .ok (.aload_n 0, 1) := by decide +kernel
theorem dX5_readTest_16 : decode cX5_readTest 16 = .ok (.invokevirtual 186, 3) := by decide +kernel
theorem dX5_readTest_19 : decode cX5_readTest 19 = .ok (.sipush 312, 3) := by decide +kernel
theorem dX5_readTest_22 : decode cX5_readTest 22 = .ok (.if_icmp .eq 13, 3) := by decide +kernel
theorem dX5_readTest_25 : decode cX5_readTest 25 = .ok (.aload_n 0, 1) := by decide +kernel
theorem dX5_readTest_26 : decode cX5_readTest 26 = .ok (.invokevirtual 186, 3) := by decide +kernel
theorem dX5_readTest_29 : decode cX5_readTest 29 = .ok (.sipush 313, 3) := by decide +kernel
theorem dX5_readTest_32 : decode cX5_readTest 32 = .ok (.if_icmp .ne 96, 3) := by decide +kernel
theorem dX5_readTest_35 : decode cX5_readTest 35 = .ok (.aload_n 0, 1) := by decide +kernel
theorem dX5_readTest_36 : decode cX5_readTest 36 = .ok (.sipush 312, 3) := by decide +kernel
theorem dX5_readTest_39 : decode cX5_readTest 39 = .ok (.invokevirtual 54, 3) := by decide +kernel
theorem dX5_readTest_42 : decode cX5_readTest 42 = .ok (.istore_n 3, 1) := by decide +kernel
theorem dX5_readTest_43 : decode cX5_readTest 43 = .ok (.iload_n 3, 1) := by decide +kernel
theorem dX5_readTest_44 : decode cX5_readTest 44 = .ok (.ifCond .eq 36, 3) := by decide +kernel
theorem dX5_readTest_47 : decode cX5_readTest 47 = .ok (.aload_n 0, 1) := by decide +kernel
theorem dX5_readTest_48 : decode cX5_readTest 48 = .ok (.getfield 22, 3) := by decide +kernel
theorem dX5_readTest_51 : decode cX5_readTest 51 = .ok (.iload_n 1, 1) := by decide +kernel
theorem dX5_readTest_52 : decode cX5_readTest 52 = .ok (.aload_n 0, 1) := by decide +kernel
theorem dX5_readTest_53 : decode cX5_readTest 53 = .ok (.getfield 22, 3) := by decide +kernel
theorem dX5_readTest_56 : decode cX5_readTest 56 = .ok (.getfield 174, 3) := by decide +kernel
theorem dX5_readTest_59 : decode cX5_readTest 59 = .ok (.invokevirtual 189, 3) := by decide +kernel
theorem dX5_readTest_62 : decode cX5_readTest 62 = .ok (.aload_n 0, 1) := by decide +kernel
theorem dX5_readTest_63 : decode cX5_readTest 63 = .ok (.getfield 22, 3) := by decide +kernel
theorem dX5_readTest_66 : decode cX5_readTest 66 = .ok (.sipush 3010, 3) := by decide +kernel
theorem dX5_readTest_69 : decode cX5_readTest 69 = .ok (.invokevirtual 192, 3) := by decide +kernel
theorem dX5_readTest_72 : decode cX5_readTest 72 = .ok (.istore_n 1, 1) := by decide +kernel
theorem dX5_readTest_73 : decode cX5_readTest 73 = .ok (.aload_n 0, 1) := by decide +kernel
theorem dX5_readTest_74 : decode cX5_readTest 74 = .ok (.invokevirtual 183, 3) := by decide +kernel
theorem dX5_readTest_77 : decode cX5_readTest 77 = .ok (.goto 45, 3) := by decide +kernel
theorem dX5_readTest_80 : decode cX5_readTest 80 = .ok (.aload_n 0, 1) := by decide +kernel
theorem dX5_readTest_81 : decode cX5_readTest 81 = .ok (.dup, 1) := by decide +kernel
theorem dX5_readTest_82 : decode cX5_readTest 82 = .ok (.getfield 30, 3) := by decide +kernel
theorem dX5_readTest_85 : decode cX5_readTest 85 = .ok (.iconst 1, 1) := by decide +kernel
theorem dX5_readTest_86 : decode cX5_readTest 86 = .ok (.iadd, 1) := by decide +kernel
theorem dX5_readTest_87 : decode cX5_readTest 87 = .ok (.putfield 30, 3) := by decide +kernel
theorem dX5_readTest_90 : decode cX5_readTest 90 = .ok (.aload_n 0, 1) := by decide +kernel
theorem dX5_readTest_91 : decode cX5_readTest 91 = .ok (.getfield 22, 3) := by decide +kernel
theorem dX5_readTest_94 : decode cX5_readTest 94 = .ok (.sipush 3009, 3) := by decide +kernel
theorem dX5_readTest_97 : decode cX5_readTest 97 = .ok (.invokevirtual 192, 3) := by decide +kernel
theorem dX5_readTest_100 : decode cX5_readTest 100 = .ok (.istore 4, 2) := by decide +kernel
theorem dX5_readTest_102 : decode cX5_readTest 102 = .ok (.aload_n 0, 1) := by decide +kernel
theorem dX5_readTest_103 : decode cX5_readTest 103 = .ok (.invokevirtual 183, 3) := by decide +kernel
theorem dX5_readTest_106 : decode cX5_readTest 106 = .ok (.aload_n 0, 1) := by decide +kernel
theorem dX5_readTest_107 : decode cX5_readTest 107 = .ok (.getfield 22, 3) := by decide +kernel
theorem dX5_readTest_110 : decode cX5_readTest 110 = .ok (.iload 4, 2) := by decide +kernel
theorem dX5_readTest_112 : decode cX5_readTest 112 = .ok (.aload_n 0, 1) := by decide +kernel
theorem dX5_readTest_113 : decode cX5_readTest 113 = .ok (.getfield 22, 3) := by decide +kernel
theorem dX5_readTest_116 : decode cX5_readTest 116 = .ok (.getfield 174, 3) := by decide +kernel
theorem dX5_readTest_119 : decode cX5_readTest 119 = .ok (.invokevirtual 189, 3) := by decide +kernel
theorem dX5_readTest_122 : decode cX5_readTest 122 = .ok (.iinc 2 1, 3) := by decide +kernel
theorem dX5_readTest_125 : decode cX5_readTest 125 = .ok (.goto (-117), 3) := by decide +kernel
theorem dX5_readTest_128 : decode cX5_readTest 128 = .ok (.aload_n 0, 1) := by decide +kernel
theorem dX5_readTest_129 : decode cX5_readTest 129 = .ok (.getfield 22, 3) := by decide +kernel
theorem dX5_readTest_132 : decode cX5_readTest 132 = .ok (.iload_n 1, 1) := by decide +kernel
theorem dX5_readTest_133 : decode cX5_readTest 133 = .ok (.aload_n 0, 1) := by decide +kernel
theorem dX5_readTest_134 : decode cX5_readTest 134 = .ok (.getfield 22, 3) := by decide +kernel
theorem dX5_readTest_137 : decode cX5_readTest 137 = .ok (.getfield 174, 3) := by decide +kernel
theorem dX5_readTest_140 : decode cX5_readTest 140 = .ok (.invokevirtual 189, 3) := by decide +kernel
theorem dX5_readTest_143 : decode cX5_readTest 143 = .ok (.return_, 1) := by decide +kernel
theorem dX5_readPlain_0 : decode cX5_readPlain 0 = .ok (.iconst 0, 1) := by decide +kernel
theorem dX5_readPlain_1 : decode cX5_readPlain 1 = .ok (.istore_n 1, 1) := by decide +kernel
theorem dX5_readPlain_2 : decode cX5_readPlain 2 = .ok (.iconst 0, 1) := by decide +kernel
theorem dX5_readPlain_3 : decode cX5_readPlain 3 = .ok (.istore_n 2, 1) := by decide +kernel
theorem dX5_readPlain_4 : decode cX5_readPlain 4 = .ok (.iload_n 2, 1) := by decide +kernel
theorem dX5_readPlain_5 : decode cX5_readPlain 5 = .ok (.sipush 400, 3) := by decide +kernel
theorem dX5_readPlain_8 : decode cX5_readPlain 8 = .ok (.if_icmp .ge 29, 3) := by decide +kernel
theorem dX5_readPlain_11 : decode cX5_readPlain 11 = .ok (.aload_n 0, 1) := by decide +kernel
theorem dX5_readPlain_12 : decode cX5_readPlain 12 = .ok (.sipush 314, 3) := by decide +kernel
theorem dX5_readPlain_15 : decode cX5_readPlain 15 = .ok (.invokevirtual 54, 3) := by decide +kernel
theorem dX5_readPlain_18 : decode cX5_readPlain 18 = .ok (.ifCond .eq 19, 3) := by decide +kernel
theorem dX5_readPlain_21 : decode cX5_readPlain 21 = .ok (.iload_n 1, 1) := by decide +kernel
theorem dX5_readPlain_22 : decode cX5_readPlain 22 = .ok (.ifCond .ne 7, 3) := by decide +kernel
theorem dX5_readPlain_25 : decode cX5_readPlain 25 = .ok (.iconst 1, 1) := by decide +kernel
theorem dX5_readPlain_26 : decode cX5_readPlain 26 = .ok (.goto 4, 3) := by decide +kernel
theorem dX5_readPlain_29 : decode cX5_readPlain 29 = .ok (.iconst 0, 1) := by decide +kernel
theorem dX5_readPlain_30 : decode cX5_readPlain 30 = .ok (.istore_n 1, 1) := by decide +kernel
theorem dX5_readPlain_31 : decode cX5_readPlain 31 = .ok (.iinc 2 1, 3) := by decide +kernel
theorem dX5_readPlain_34 : decode cX5_readPlain 34 = .ok (.goto (-30), 3) := by decide +kernel
theorem dX5_readPlain_37 : decode cX5_readPlain 37 = .ok (.aload_n 0, 1) := by decide +kernel
theorem dX5_readPlain_38 : decode cX5_readPlain 38 = .ok (.invokevirtual 186, 3) := by decide +kernel
theorem dX5_readPlain_41 : decode cX5_readPlain 41 = .ok (.bipush 40, 2) := by decide +kernel
theorem dX5_readPlain_43 : decode cX5_readPlain 43 = .ok (.if_icmp .ne 40, 3) := by decide +kernel
theorem dX5_readPlain_46 : decode cX5_readPlain 46 = .ok (.aload_n 0, 1) := by decide +kernel
theorem dX5_readPlain_47 : decode cX5_readPlain 47 = .ok (.invokevirtual 195, 3) := by decide +kernel
theorem dX5_readPlain_50 : decode cX5_readPlain 50 = .ok (.ifCond .eq 17, 3) := by decide +kernel
theorem dX5_readPlain_53 : decode cX5_readPlain 53 = .ok (.aload_n 0, 1) := by decide +kernel
theorem dX5_readPlain_54 : decode cX5_readPlain 54 = .ok (.invokevirtual 177, 3) := by decide +kernel
theorem dX5_readPlain_57 : decode cX5_readPlain 57 = .ok (.aload_n 0, 1) := by decide +kernel
theorem dX5_readPlain_58 : decode cX5_readPlain 58 = .ok (.dup, 1) := by decide +kernel
theorem dX5_readPlain_59 : decode cX5_readPlain 59 = .ok (.getfield 37, 3) := by decide +kernel
theorem dX5_readPlain_62 : decode cX5_readPlain 62 = .ok (.iconst 1, 1) := by decide +kernel
theorem dX5_readPlain_63 : decode cX5_readPlain 63 = .ok (.isub, 1) := by decide +kernel
theorem dX5_readPlain_64 : decode cX5_readPlain 64 = .ok (.putfield 37, 3) := by decide +kernel
theorem dX5_readPlain_67 : decode cX5_readPlain 67 = .ok (.aload_n 0, 1) := by decide +kernel
theorem dX5_readPlain_68 : decode cX5_readPlain 68 = .ok (.bipush 41, 2) := by decide +kernel
theorem dX5_readPlain_70 : decode cX5_readPlain 70 = .ok (.invokevirtual 54, 3) := by decide +kernel
theorem dX5_readPlain_73 : decode cX5_readPlain 73 = .ok (.ifCond .ne 83, 3) := by decide +kernel
theorem dX5_readPlain_76 : decode cX5_readPlain 76 = .ok (.aload_n 0, 1) := by decide +kernel
theorem dX5_readPlain_77 : decode cX5_readPlain 77 = .ok (.invokevirtual 58, 3) := by decide +kernel
theorem dX5_readPlain_80 : decode cX5_readPlain 80 = .ok (.goto 76, 3) := by decide +kernel
theorem dX5_readPlain_83 : decode cX5_readPlain 83 = .ok (.aload_n 0, 1) := by decide +kernel
theorem dX5_readPlain_84 : decode cX5_readPlain 84 = .ok (.invokevirtual 180, 3) := by decide +kernel
theorem dX5_readPlain_87 : decode cX5_readPlain 87 = .ok (.aload_n 0, 1) := by decide +kernel
theorem dX5_readPlain_88 : decode cX5_readPlain 88 = .ok (.bipush 60, 2) := by decide +kernel
theorem dX5_readPlain_90 : decode cX5_readPlain 90 = .ok (.invokevirtual 54, 3) := by decide +kernel
theorem dX5_readPlain_93 : decode cX5_readPlain 93 = .ok (.ifCond .eq 9, 3) := by decide +kernel
theorem dX5_readPlain_96 : decode cX5_readPlain 96 = .ok (.sipush 3005, 3) := by decide +kernel
theorem dX5_readPlain_99 : decode cX5_readPlain 99 = .ok (.goto 34, 3) := by decide +kernel
theorem dX5_readPlain_102 : decode cX5_readPlain 102 = .ok (.aload_n 0, 1) := by decide +kernel
theorem dX5_readPlain_103 : decode cX5_readPlain 103 = .ok (.bipush 62, 2) := by decide +kernel
theorem dX5_readPlain_105 : decode cX5_readPlain 105 = .ok (.invokevirtual 54, 3) := by decide +kernel
theorem dX5_readPlain_108 : decode cX5_readPlain 108 = .ok (.ifCond .eq 9, 3) := by decide +kernel
theorem dX5_readPlain_111 : decode cX5_readPlain 111 = .ok (.sipush 3006, 3) := by decide +kernel
theorem dX5_readPlain_114 : decode cX5_readPlain 114 = .ok (.goto 19, 3) := by decide +kernel
theorem dX5_readPlain_117 : decode cX5_readPlain 117 = .ok (.aload_n 0, 1) := by decide +kernel
theorem dX5_readPlain_118 : decode cX5_readPlain 118 = .ok (.bipush 61, 2) := by decide +kernel
theorem dX5_readPlain_120 : decode cX5_readPlain 120 = .ok (.invokevirtual 54, 3) := by decide +kernel
theorem dX5_readPlain_123 : decode cX5_readPlain 123 = .ok (.ifCond .eq 9, 3) := by decide +kernel
theorem dX5_readPlain_126 : decode cX5_readPlain 126 = .ok (.sipush 3007, 3) := by decide +kernel
theorem dX5_readPlain_129 : decode cX5_readPlain 129 = .ok (.goto 4, 3) := by decide +kernel
theorem dX5_readPlain_132 : decode cX5_readPlain 132 = .ok (.iconst (-1), 1) := by decide +kernel
theorem dX5_readPlain_133 : decode cX5_readPlain 133 = .ok (.istore_n 2, 1) := by decide +kernel
theorem dX5_readPlain_134 : decode cX5_readPlain 134 = .ok (.iload_n 2, 1) := by decide +kernel
theorem dX5_readPlain_135 : decode cX5_readPlain 135 = .ok (.iconst (-1), 1) := by decide +kernel
theorem dX5_readPlain_136 : decode cX5_readPlain 136 = .ok (.if_icmp .ne 8, 3) := by decide +kernel
theorem dX5_readPlain_139 : decode cX5_readPlain 139 = .ok (.aload_n 0, 1) := by decide +kernel
theorem dX5_readPlain_140 : decode cX5_readPlain 140 = .ok (.invokevirtual 58, 3) := by decide +kernel
theorem dX5_readPlain_143 : decode cX5_readPlain 143 = .ok (.return_, 1) := by decide +kernel
theorem dX5_readPlain_144 : decode cX5_readPlain 144 = .ok (.aload_n 0, 1) := by decide +kernel
theorem dX5_readPlain_145 : decode cX5_readPlain 145 = .ok (.invokevirtual 180, 3) := by decide +kernel
theorem dX5_readPlain_148 : decode cX5_readPlain 148 = .ok (.aload_n 0, 1) := by decide +kernel
theorem dX5_readPlain_149 : decode cX5_readPlain 149 = .ok (.getfield 22, 3) := by decide +kernel
theorem dX5_readPlain_152 : decode cX5_readPlain 152 = .ok (.iload_n 2, 1) := by decide +kernel
theorem dX5_readPlain_153 : decode cX5_readPlain 153 = .ok (.invokevirtual 199, 3) := by decide +kernel
theorem dX5_readPlain_156 : decode cX5_readPlain 156 = .ok (.iload_n 1, 1) := by decide +kernel
theorem dX5_readPlain_157 : decode cX5_readPlain 157 = .ok (.ifCond .eq 13, 3) := by decide +kernel
theorem dX5_readPlain_160 : decode cX5_readPlain 160 = .ok (.aload_n 0, 1) := by decide +kernel
theorem dX5_readPlain_161 : decode cX5_readPlain 161 = .ok (.getfield 22, 3) := by decide +kernel
theorem dX5_readPlain_164 : decode cX5_readPlain 164 = .ok (.sipush 3008, 3) := by decide +kernel
theorem dX5_readPlain_167 : decode cX5_readPlain 167 = .ok (.invokevirtual 199, 3) := by decide +kernel
theorem dX5_readPlain_170 : decode cX5_readPlain 170 = .ok (.return_, 1) := by decide +kernel
theorem dX5_openBracket_0 : decode cX5_openBracket 0 = .ok (.aload_n 0, 1) := by decide +kernel
theorem dX5_openBracket_1 : decode cX5_openBracket 1 = .ok (.getfield 37, 3) := by decide +kernel
theorem dX5_openBracket_4 : decode cX5_openBracket 4 = .ok (.bipush 8, 2) := by decide +kernel
theorem dX5_openBracket_6 : decode cX5_openBracket 6 = .ok (.if_icmp .lt 5, 3) := by decide +kernel
theorem dX5_openBracket_9 : decode cX5_openBracket 9 = .ok (.iconst 0, 1) := by decide +kernel
theorem dX5_openBracket_10 : decode cX5_openBracket 10 = .ok (.ireturn, 1) := by decide +kernel
theorem dX5_openBracket_11 : decode cX5_openBracket 11 = .ok (.aload_n 0, 1) := by decide +kernel
theorem dX5_openBracket_12 : decode cX5_openBracket 12 = .ok (.dup, 1) := by decide +kernel
theorem dX5_openBracket_13 : decode cX5_openBracket 13 = .ok (.getfield 37, 3) := by decide +kernel
theorem dX5_openBracket_16 : decode cX5_openBracket 16 = .ok (.iconst 1, 1) := by decide +kernel
theorem dX5_openBracket_17 : decode cX5_openBracket 17 = .ok (.iadd, 1) := by decide +kernel
theorem dX5_openBracket_18 : decode cX5_openBracket 18 = .ok (.putfield 37, 3) := by decide +kernel
theorem dX5_openBracket_21 : decode cX5_openBracket 21 = .ok (.aload_n 0, 1) := by decide +kernel
theorem dX5_openBracket_22 : decode cX5_openBracket 22 = .ok (.dup, 1) := by decide +kernel
theorem dX5_openBracket_23 : decode cX5_openBracket 23 = .ok (.getfield 30, 3) := by decide +kernel
theorem dX5_openBracket_26 : decode cX5_openBracket 26 = .ok (.iconst 1, 1) := by decide +kernel
theorem dX5_openBracket_27 : decode cX5_openBracket 27 = .ok (.iadd, 1) := by decide +kernel
theorem dX5_openBracket_28 : decode cX5_openBracket 28 = .ok (.putfield 30, 3) := by decide +kernel
theorem dX5_openBracket_31 : decode cX5_openBracket 31 = .ok (.iconst 1, 1) := by decide +kernel
theorem dX5_openBracket_32 : decode cX5_openBracket 32 = .ok (.ireturn, 1) := by decide +kernel
theorem dX5_readSum_0 : decode cX5_readSum 0 = .ok (.aload_n 0, 1) := by decide +kernel
theorem dX5_readSum_1 : decode cX5_readSum 1 = .ok (.invokevirtual 202, 3) := by decide +kernel
theorem dX5_readSum_4 : decode cX5_readSum 4 = .ok (.iconst (-1), 1) := by decide +kernel
theorem dX5_readSum_5 : decode cX5_readSum 5 = .ok (.istore_n 1, 1) := by decide +kernel
theorem dX5_readSum_6 : decode cX5_readSum 6 = .ok (.iconst 0, 1) := by decide +kernel
theorem dX5_readSum_7 : decode cX5_readSum 7 = .ok (.istore_n 2, 1) := by decide +kernel
theorem dX5_readSum_8 : decode cX5_readSum 8 = .ok (.iload_n 2, 1) := by decide +kernel
theorem dX5_readSum_9 : decode cX5_readSum 9 = .ok (.sipush 400, 3) := by decide +kernel
theorem dX5_readSum_12 : decode cX5_readSum 12 = .ok (.if_icmp .ge 78, 3) := by decide +kernel
theorem dX5_readSum_15 : decode cX5_readSum 15 = .ok (.aload_n 0, 1) := by decide +kernel
theorem dX5_readSum_16 : decode cX5_readSum 16 = .ok (.invokevirtual 186, 3) := by decide +kernel
theorem dX5_readSum_19 : decode cX5_readSum 19 = .ok (.invokestatic 205, 3) := by decide +kernel
theorem dX5_readSum_22 : decode cX5_readSum 22 = .ok (.istore_n 3, 1) := by decide +kernel
theorem dX5_readSum_23 : decode cX5_readSum 23 = .ok (.iload_n 3, 1) := by decide +kernel
theorem dX5_readSum_24 : decode cX5_readSum 24 = .ok (.iconst (-1), 1) := by decide +kernel
theorem dX5_readSum_25 : decode cX5_readSum 25 = .ok (.if_icmp .ne 6, 3) := by decide +kernel
theorem dX5_readSum_28 : decode cX5_readSum 28 = .ok (.goto 62, 3) := by decide +kernel
theorem dX5_readSum_31 : decode cX5_readSum 31 = .ok (.aload_n 0, 1) := by decide +kernel
theorem dX5_readSum_32 : decode cX5_readSum 32 = .ok (.dup, 1) := by decide +kernel
theorem dX5_readSum_33 : decode cX5_readSum 33 = .ok (.getfield 30, 3) := by decide +kernel
theorem dX5_readSum_36 : decode cX5_readSum 36 = .ok (.iconst 1, 1) := by decide +kernel
theorem dX5_readSum_37 : decode cX5_readSum 37 = .ok (.iadd, 1) := by decide +kernel
theorem dX5_readSum_38 : decode cX5_readSum 38 = .ok (.putfield 30, 3) := by decide +kernel
theorem dX5_readSum_41 : decode cX5_readSum 41 = .ok (.iload_n 3, 1) := by decide +kernel
theorem dX5_readSum_42 : decode cX5_readSum 42 = .ok (.sipush 3000, 3) := by decide +kernel
theorem dX5_readSum_45 : decode cX5_readSum 45 = .ok (.if_icmp .eq 10, 3) := by decide +kernel
theorem dX5_readSum_48 : decode cX5_readSum 48 = .ok (.iload_n 3, 1) := by decide +kernel
theorem dX5_readSum_49 : decode cX5_readSum 49 = .ok (.sipush 3001, 3) := by decide +kernel
theorem dX5_readSum_52 : decode cX5_readSum 52 = .ok (.if_icmp .ne 20, 3) := by decide +kernel
theorem dX5_readSum_55 : decode cX5_readSum 55 = .ok (.aload_n 0, 1) := by decide +kernel
theorem dX5_readSum_56 : decode cX5_readSum 56 = .ok (.getfield 22, 3) := by decide +kernel
theorem dX5_readSum_59 : decode cX5_readSum 59 = .ok (.iload_n 1, 1) := by decide +kernel
theorem dX5_readSum_60 : decode cX5_readSum 60 = .ok (.invokevirtual 199, 3) := by decide +kernel
theorem dX5_readSum_63 : decode cX5_readSum 63 = .ok (.iload_n 3, 1) := by decide +kernel
theorem dX5_readSum_64 : decode cX5_readSum 64 = .ok (.istore_n 1, 1) := by decide +kernel
theorem dX5_readSum_65 : decode cX5_readSum 65 = .ok (.aload_n 0, 1) := by decide +kernel
theorem dX5_readSum_66 : decode cX5_readSum 66 = .ok (.invokevirtual 202, 3) := by decide +kernel
theorem dX5_readSum_69 : decode cX5_readSum 69 = .ok (.goto 15, 3) := by decide +kernel
theorem dX5_readSum_72 : decode cX5_readSum 72 = .ok (.aload_n 0, 1) := by decide +kernel
theorem dX5_readSum_73 : decode cX5_readSum 73 = .ok (.invokevirtual 202, 3) := by decide +kernel
theorem dX5_readSum_76 : decode cX5_readSum 76 = .ok (.aload_n 0, 1) := by decide +kernel
theorem dX5_readSum_77 : decode cX5_readSum 77 = .ok (.getfield 22, 3) := by decide +kernel
theorem dX5_readSum_80 : decode cX5_readSum 80 = .ok (.iload_n 3, 1) := by decide +kernel
theorem dX5_readSum_81 : decode cX5_readSum 81 = .ok (.invokevirtual 199, 3) := by decide +kernel
theorem dX5_readSum_84 : decode cX5_readSum 84 = .ok (.iinc 2 1, 3) := by decide +kernel
theorem dX5_readSum_87 : decode cX5_readSum 87 = .ok (.goto (-79), 3) := by decide +kernel
theorem dX5_readSum_90 : decode cX5_readSum 90 = .ok (.aload_n 0, 1) := by decide +kernel
theorem dX5_readSum_91 : decode cX5_readSum 91 = .ok (.getfield 22, 3) := by decide +kernel
theorem dX5_readSum_94 : decode cX5_readSum 94 = .ok (.iload_n 1, 1) := by decide +kernel
theorem dX5_readSum_95 : decode cX5_readSum 95 = .ok (.invokevirtual 199, 3) := by decide +kernel
theorem dX5_readSum_98 : decode cX5_readSum 98 = .ok (.return_, 1) := by decide +kernel
theorem dX5_codeOf_0 : decode cX5_codeOf 0 = .ok (.iload_n 0, 1) := by decide +kernel
theorem dX5_codeOf_1 : decode cX5_codeOf 1 = .ok (.tableswitch 79 37 47 #[75, 79, 79, 79, 79, 67, 59, 79, 63, 79, 71], 59) := by decide +kernel
theorem dX5_codeOf_60 : decode cX5_codeOf 60 = .ok (.sipush 3000, 3) := by decide +kernel
theorem dX5_codeOf_63 : decode cX5_codeOf 63 = .ok (.ireturn, 1) := by decide +kernel
theorem dX5_codeOf_64 : decode cX5_codeOf 64 = .ok (.sipush 3001, 3) := by decide +kernel
theorem dX5_codeOf_67 : decode cX5_codeOf 67 = .ok (.ireturn, 1) := by decide +kernel
theorem dX5_codeOf_68 : decode cX5_codeOf 68 = .ok (.sipush 3002, 3) := by decide +kernel
theorem dX5_codeOf_71 : decode cX5_codeOf 71 = .ok (.ireturn, 1) := by decide +kernel
theorem dX5_codeOf_72 : decode cX5_codeOf 72 = .ok (.sipush 3003, 3) := by decide +kernel
theorem dX5_codeOf_75 : decode cX5_codeOf 75 = .ok (.ireturn, 1) := by decide +kernel
theorem dX5_codeOf_76 : decode cX5_codeOf 76 = .ok (.sipush 3004, 3) := by decide +kernel
theorem dX5_codeOf_79 : decode cX5_codeOf 79 = .ok (.ireturn, 1) := by decide +kernel
theorem dX5_codeOf_80 : decode cX5_codeOf 80 = .ok (.iconst (-1), 1) := by decide +kernel
theorem dX5_codeOf_81 : decode cX5_codeOf 81 = .ok (.ireturn, 1) := by decide +kernel
theorem dX5_readPart_0 : decode cX5_readPart 0 = .ok (.aload_n 0, 1) := by decide +kernel
theorem dX5_readPart_1 : decode cX5_readPart 1 = .ok (.invokevirtual 186, 3) := by decide +kernel
theorem dX5_readPart_4 : decode cX5_readPart 4 = .ok (.istore_n 1, 1) := by decide +kernel
theorem dX5_readPart_5 : decode cX5_readPart 5 = .ok (.iload_n 1, 1) := by decide +kernel
theorem dX5_readPart_6 : decode cX5_readPart 6 = .ok (.bipush 91, 2) := by decide +kernel
theorem dX5_readPart_8 : decode cX5_readPart 8 = .ok (.if_icmp .ne 38, 3) := by decide +kernel
theorem dX5_readPart_11 : decode cX5_readPart 11 = .ok (.aload_n 0, 1) := by decide +kernel
theorem dX5_readPart_12 : decode cX5_readPart 12 = .ok (.invokevirtual 195, 3) := by decide +kernel
theorem dX5_readPart_15 : decode cX5_readPart 15 = .ok (.ifCond .eq 17, 3) := by decide +kernel
theorem dX5_readPart_18 : decode cX5_readPart 18 = .ok (.aload_n 0, 1) := by decide +kernel
theorem dX5_readPart_19 : decode cX5_readPart 19 = .ok (.invokevirtual 180, 3) := by decide +kernel
theorem dX5_readPart_22 : decode cX5_readPart 22 = .ok (.aload_n 0, 1) := by decide +kernel
theorem dX5_readPart_23 : decode cX5_readPart 23 = .ok (.dup, 1) := by decide +kernel
theorem dX5_readPart_24 : decode cX5_readPart 24 = .ok (.getfield 37, 3) := by decide +kernel
theorem dX5_readPart_27 : decode cX5_readPart 27 = .ok (.iconst 1, 1) := by decide +kernel
theorem dX5_readPart_28 : decode cX5_readPart 28 = .ok (.isub, 1) := by decide +kernel
theorem dX5_readPart_29 : decode cX5_readPart 29 = .ok (.putfield 37, 3) := by decide +kernel
theorem dX5_readPart_32 : decode cX5_readPart 32 = .ok (.aload_n 0, 1) := by decide +kernel
theorem dX5_readPart_33 : decode cX5_readPart 33 = .ok (.bipush 93, 2) := by decide +kernel
theorem dX5_readPart_35 : decode cX5_readPart 35 = .ok (.invokevirtual 54, 3) := by decide +kernel
theorem dX5_readPart_38 : decode cX5_readPart 38 = .ok (.ifCond .ne 7, 3) := by decide +kernel
theorem dX5_readPart_41 : decode cX5_readPart 41 = .ok (.aload_n 0, 1) := by decide +kernel
theorem dX5_readPart_42 : decode cX5_readPart 42 = .ok (.invokevirtual 58, 3) := by decide +kernel
theorem dX5_readPart_45 : decode cX5_readPart 45 = .ok (.return_, 1) := by decide +kernel
theorem dX5_readPart_46 : decode cX5_readPart 46 = .ok (.aload_n 0, 1) := by decide +kernel
theorem dX5_readPart_47 : decode cX5_readPart 47 = .ok (.getfield 34, 3) := by decide +kernel
theorem dX5_readPart_50 : decode cX5_readPart 50 = .ok (.bipush 50, 2) := by decide +kernel
theorem dX5_readPart_52 : decode cX5_readPart 52 = .ok (.if_icmp .lt 8, 3) := by decide +kernel
theorem dX5_readPart_55 : decode cX5_readPart 55 = .ok (.aload_n 0, 1) := by decide +kernel
theorem dX5_readPart_56 : decode cX5_readPart 56 = .ok (.invokevirtual 58, 3) := by decide +kernel
theorem dX5_readPart_59 : decode cX5_readPart 59 = .ok (.return_, 1) := by decide +kernel
theorem dX5_readPart_60 : decode cX5_readPart 60 = .ok (.aload_n 0, 1) := by decide +kernel
theorem dX5_readPart_61 : decode cX5_readPart 61 = .ok (.dup, 1) := by decide +kernel
theorem dX5_readPart_62 : decode cX5_readPart 62 = .ok (.getfield 34, 3) := by decide +kernel
theorem dX5_readPart_65 : decode cX5_readPart 65 = .ok (.iconst 1, 1) := by decide +kernel
theorem dX5_readPart_66 : decode cX5_readPart 66 = .ok (.iadd, 1) := by decide +kernel
theorem dX5_readPart_67 : decode cX5_readPart 67 = .ok (.putfield 34, 3) := by decide +kernel
theorem dX5_readPart_70 : decode cX5_readPart 70 = .ok (.iload_n 1, 1) := by decide +kernel
theorem dX5_readPart_71 : decode cX5_readPart 71 = .ok (.sipush 400, 3) := by decide +kernel
theorem dX5_readPart_74 : decode cX5_readPart 74 = .ok (.if_icmp .lt 14, 3) := by decide +kernel
theorem dX5_readPart_77 : decode cX5_readPart 77 = .ok (.aload_n 0, 1) := by decide +kernel
theorem dX5_readPart_78 : decode cX5_readPart 78 = .ok (.iconst 0, 1) := by decide +kernel
theorem dX5_readPart_79 : decode cX5_readPart 79 = .ok (.sipush 1000, 3) := by decide +kernel
theorem dX5_readPart_82 : decode cX5_readPart 82 = .ok (.invokevirtual 167, 3) := by decide +kernel
theorem dX5_readPart_85 : decode cX5_readPart 85 = .ok (.goto 21, 3) := by decide +kernel
theorem dX5_readPart_88 : decode cX5_readPart 88 = .ok (.aload_n 0, 1) := by decide +kernel
theorem dX5_readPart_89 : decode cX5_readPart 89 = .ok (.getfield 26, 3) := by decide +kernel
theorem dX5_readPart_92 : decode cX5_readPart 92 = .ok (.ifCond .eq 10, 3) := by decide +kernel
theorem dX5_readPart_95 : decode cX5_readPart 95 = .ok (.iload_n 1, 1) := by decide +kernel
theorem dX5_readPart_96 : decode cX5_readPart 96 = .ok (.invokestatic 208, 3) := by decide +kernel
theorem dX5_readPart_99 : decode cX5_readPart 99 = .ok (.goto 7, 3) := by decide +kernel
theorem dX5_readPart_102 : decode cX5_readPart 102 = .ok (.iload_n 1, 1) := by decide +kernel
theorem dX5_readPart_103 : decode cX5_readPart 103 = .ok (.invokestatic 211, 3) := by decide +kernel
theorem dX5_readPart_106 : decode cX5_readPart 106 = .ok (.istore_n 2, 1) := by decide +kernel
theorem dX5_readPart_107 : decode cX5_readPart 107 = .ok (.aload_n 0, 1) := by decide +kernel
theorem dX5_readPart_108 : decode cX5_readPart 108 = .ok (.dup, 1) := by decide +kernel
theorem dX5_readPart_109 : decode cX5_readPart 109 = .ok (.getfield 30, 3) := by decide +kernel
theorem dX5_readPart_112 : decode cX5_readPart 112 = .ok (.iload_n 2, 1) := by decide +kernel
theorem dX5_readPart_113 : decode cX5_readPart 113 = .ok (.iconst (-1), 1) := by decide +kernel
theorem dX5_readPart_114 : decode cX5_readPart 114 = .ok (.if_icmp .eq 14, 3) := by decide +kernel
theorem dX5_readPart_117 : decode cX5_readPart 117 = .ok (.iload_n 1, 1) := by decide +kernel
theorem dX5_readPart_118 : decode cX5_readPart 118 = .ok (.sipush 400, 3) := by decide +kernel
theorem dX5_readPart_121 : decode cX5_readPart 121 = .ok (.if_icmp .ge 7, 3) := by decide +kernel
theorem dX5_readPart_124 : decode cX5_readPart 124 = .ok (.iconst 1, 1) := by decide +kernel
theorem dX5_readPart_125 : decode cX5_readPart 125 = .ok (.goto 4, 3) := by decide +kernel
theorem dX5_readPart_128 : decode cX5_readPart 128 = .ok (.iconst 0, 1) := by decide +kernel
theorem dX5_readPart_129 : decode cX5_readPart 129 = .ok (.iadd, 1) := by decide +kernel
theorem dX5_readPart_130 : decode cX5_readPart 130 = .ok (.putfield 30, 3) := by decide +kernel
theorem dX5_readPart_133 : decode cX5_readPart 133 = .ok (.aload_n 0, 1) := by decide +kernel
theorem dX5_readPart_134 : decode cX5_readPart 134 = .ok (.getfield 26, 3) := by decide +kernel
theorem dX5_readPart_137 : decode cX5_readPart 137 = .ok (.ifCond .eq 38, 3) := by decide +kernel
theorem dX5_readPart_140 : decode cX5_readPart 140 = .ok (.iload_n 1, 1) := by decide +kernel
theorem dX5_readPart_141 : decode cX5_readPart 141 = .ok (.sipush 318, 3) := by decide +kernel
theorem dX5_readPart_144 : decode cX5_readPart 144 = .ok (.if_icmp .eq 10, 3) := by decide +kernel
theorem dX5_readPart_147 : decode cX5_readPart 147 = .ok (.iload_n 1, 1) := by decide +kernel
theorem dX5_readPart_148 : decode cX5_readPart 148 = .ok (.sipush 327, 3) := by decide +kernel
theorem dX5_readPart_151 : decode cX5_readPart 151 = .ok (.if_icmp .ne 24, 3) := by decide +kernel
theorem dX5_readPart_154 : decode cX5_readPart 154 = .ok (.aload_n 0, 1) := by decide +kernel
theorem dX5_readPart_155 : decode cX5_readPart 155 = .ok (.iconst 0, 1) := by decide +kernel
theorem dX5_readPart_156 : decode cX5_readPart 156 = .ok (.bipush 8, 2) := by decide +kernel
theorem dX5_readPart_158 : decode cX5_readPart 158 = .ok (.invokevirtual 167, 3) := by decide +kernel
theorem dX5_readPart_161 : decode cX5_readPart 161 = .ok (.istore_n 3, 1) := by decide +kernel
theorem dX5_readPart_162 : decode cX5_readPart 162 = .ok (.iload_n 3, 1) := by decide +kernel
theorem dX5_readPart_163 : decode cX5_readPart 163 = .ok (.iconst (-1), 1) := by decide +kernel
theorem dX5_readPart_164 : decode cX5_readPart 164 = .ok (.if_icmp .ne 7, 3) := by decide +kernel
theorem dX5_readPart_167 : decode cX5_readPart 167 = .ok (.iconst (-1), 1) := by decide +kernel
theorem dX5_readPart_168 : decode cX5_readPart 168 = .ok (.goto 6, 3) := by decide +kernel
theorem dX5_readPart_171 : decode cX5_readPart 171 = .ok (.iload_n 2, 1) := by decide +kernel
theorem dX5_readPart_172 : decode cX5_readPart 172 = .ok (.iload_n 3, 1) := by decide +kernel
theorem dX5_readPart_173 : decode cX5_readPart 173 = .ok (.iadd, 1) := by decide +kernel
theorem dX5_readPart_174 : decode cX5_readPart 174 = .ok (.istore_n 2, 1) := by decide +kernel
theorem dX5_readPart_175 : decode cX5_readPart 175 = .ok (.iload_n 2, 1) := by decide +kernel
theorem dX5_readPart_176 : decode cX5_readPart 176 = .ok (.iconst (-1), 1) := by decide +kernel
theorem dX5_readPart_177 : decode cX5_readPart 177 = .ok (.if_icmp .ne 7, 3) := by decide +kernel
theorem dX5_readPart_180 : decode cX5_readPart 180 = .ok (.aload_n 0, 1) := by decide +kernel
theorem dX5_readPart_181 : decode cX5_readPart 181 = .ok (.invokevirtual 58, 3) := by decide +kernel
theorem dX5_readPart_184 : decode cX5_readPart 184 = .ok (.aload_n 0, 1) := by decide +kernel
theorem dX5_readPart_185 : decode cX5_readPart 185 = .ok (.getfield 22, 3) := by decide +kernel
theorem dX5_readPart_188 : decode cX5_readPart 188 = .ok (.iload_n 2, 1) := by decide +kernel
theorem dX5_readPart_189 : decode cX5_readPart 189 = .ok (.invokevirtual 199, 3) := by decide +kernel
theorem dX5_readPart_192 : decode cX5_readPart 192 = .ok (.return_, 1) := by decide +kernel
theorem dX5_orderCode_0 : decode cX5_orderCode 0 = .ok (.iload_n 0, 1) := by decide +kernel
theorem dX5_orderCode_1 : decode cX5_orderCode 1 = .ok (.sipush 323, 3) := by decide +kernel
theorem dX5_orderCode_4 : decode cX5_orderCode 4 = .ok (.if_icmp .lt 20, 3) := by decide +kernel
theorem dX5_orderCode_7 : decode cX5_orderCode 7 = .ok (.iload_n 0, 1) := by decide +kernel
theorem dX5_orderCode_8 : decode cX5_orderCode 8 = .ok (.sipush 326, 3) := by decide +kernel
theorem dX5_orderCode_11 : decode cX5_orderCode 11 = .ok (.if_icmp .gt 13, 3) := by decide +kernel
theorem dX5_orderCode_14 : decode cX5_orderCode 14 = .ok (.sipush 2001, 3) := by decide +kernel
theorem dX5_orderCode_17 : decode cX5_orderCode 17 = .ok (.iload_n 0, 1) := by decide +kernel
theorem dX5_orderCode_18 : decode cX5_orderCode 18 = .ok (.iadd, 1) := by decide +kernel
theorem dX5_orderCode_19 : decode cX5_orderCode 19 = .ok (.sipush 323, 3) := by decide +kernel
theorem dX5_orderCode_22 : decode cX5_orderCode 22 = .ok (.isub, 1) := by decide +kernel
theorem dX5_orderCode_23 : decode cX5_orderCode 23 = .ok (.ireturn, 1) := by decide +kernel
theorem dX5_orderCode_24 : decode cX5_orderCode 24 = .ok (.iload_n 0, 1) := by decide +kernel
theorem dX5_orderCode_25 : decode cX5_orderCode 25 = .ok (.sipush 321, 3) := by decide +kernel
theorem dX5_orderCode_28 : decode cX5_orderCode 28 = .ok (.if_icmp .ne 9, 3) := by decide +kernel
theorem dX5_orderCode_31 : decode cX5_orderCode 31 = .ok (.sipush 2000, 3) := by decide +kernel
theorem dX5_orderCode_34 : decode cX5_orderCode 34 = .ok (.goto 30, 3) := by decide +kernel
theorem dX5_orderCode_37 : decode cX5_orderCode 37 = .ok (.iload_n 0, 1) := by decide +kernel
theorem dX5_orderCode_38 : decode cX5_orderCode 38 = .ok (.sipush 318, 3) := by decide +kernel
theorem dX5_orderCode_41 : decode cX5_orderCode 41 = .ok (.if_icmp .ne 9, 3) := by decide +kernel
theorem dX5_orderCode_44 : decode cX5_orderCode 44 = .ok (.sipush 2005, 3) := by decide +kernel
theorem dX5_orderCode_47 : decode cX5_orderCode 47 = .ok (.goto 17, 3) := by decide +kernel
theorem dX5_orderCode_50 : decode cX5_orderCode 50 = .ok (.iload_n 0, 1) := by decide +kernel
theorem dX5_orderCode_51 : decode cX5_orderCode 51 = .ok (.sipush 327, 3) := by decide +kernel
theorem dX5_orderCode_54 : decode cX5_orderCode 54 = .ok (.if_icmp .ne 9, 3) := by decide +kernel
theorem dX5_orderCode_57 : decode cX5_orderCode 57 = .ok (.sipush 2014, 3) := by decide +kernel
theorem dX5_orderCode_60 : decode cX5_orderCode 60 = .ok (.goto 4, 3) := by decide +kernel
theorem dX5_orderCode_63 : decode cX5_orderCode 63 = .ok (.iconst (-1), 1) := by decide +kernel
theorem dX5_orderCode_64 : decode cX5_orderCode 64 = .ok (.ireturn, 1) := by decide +kernel
theorem dX5_lawCode_0 : decode cX5_lawCode 0 = .ok (.iload_n 0, 1) := by decide +kernel
theorem dX5_lawCode_1 : decode cX5_lawCode 1 = .ok (.sipush 315, 3) := by decide +kernel
theorem dX5_lawCode_4 : decode cX5_lawCode 4 = .ok (.if_icmp .lt 22, 3) := by decide +kernel
theorem dX5_lawCode_7 : decode cX5_lawCode 7 = .ok (.iload_n 0, 1) := by decide +kernel
theorem dX5_lawCode_8 : decode cX5_lawCode 8 = .ok (.sipush 322, 3) := by decide +kernel
theorem dX5_lawCode_11 : decode cX5_lawCode 11 = .ok (.if_icmp .gt 15, 3) := by decide +kernel
theorem dX5_lawCode_14 : decode cX5_lawCode 14 = .ok (.sipush 2000, 3) := by decide +kernel
theorem dX5_lawCode_17 : decode cX5_lawCode 17 = .ok (.iload_n 0, 1) := by decide +kernel
theorem dX5_lawCode_18 : decode cX5_lawCode 18 = .ok (.iadd, 1) := by decide +kernel
theorem dX5_lawCode_19 : decode cX5_lawCode 19 = .ok (.sipush 315, 3) := by decide +kernel
theorem dX5_lawCode_22 : decode cX5_lawCode 22 = .ok (.isub, 1) := by decide +kernel
theorem dX5_lawCode_23 : decode cX5_lawCode 23 = .ok (.goto 4, 3) := by decide +kernel
theorem dX5_lawCode_26 : decode cX5_lawCode 26 = .ok (.iconst (-1), 1) := by decide +kernel
theorem dX5_lawCode_27 : decode cX5_lawCode 27 = .ok (.ireturn, 1) := by decide +kernel
theorem dX6_init_0 : decode cX6_init 0 = .ok (.aload_n 0, 1) := by decide +kernel
theorem dX6_init_1 : decode cX6_init 1 = .ok (.invokespecial 3, 3) := by decide +kernel
theorem dX6_init_4 : decode cX6_init 4 = .ok (.aload_n 0, 1) := by decide +kernel
theorem dX6_init_5 : decode cX6_init 5 = .ok (.bipush 64, 2) := by decide +kernel
theorem dX6_init_7 : decode cX6_init 7 = .ok (.newarray .long, 2) := by decide +kernel
theorem dX6_init_9 : decode cX6_init 9 = .ok (.putfield 9, 3) := by decide +kernel
theorem dX6_init_12 : decode cX6_init 12 = .ok (.aload_n 0, 1) := by decide +kernel
theorem dX6_init_13 : decode cX6_init 13 = .ok (.bipush 23, 2) := by decide +kernel
theorem dX6_init_15 : decode cX6_init 15 = .ok (.newarray .int, 2) := by decide +kernel
theorem dX6_init_17 : decode cX6_init 17 = .ok (.putfield 17, 3) := by decide +kernel
theorem dX6_init_20 : decode cX6_init 20 = .ok (.aload_n 0, 1) := by decide +kernel
theorem dX6_init_21 : decode cX6_init 21 = .ok (.iconst 3, 1) := by decide +kernel
theorem dX6_init_22 : decode cX6_init 22 = .ok (.newarray .int, 2) := by decide +kernel
theorem dX6_init_24 : decode cX6_init 24 = .ok (.putfield 23, 3) := by decide +kernel
theorem dX6_init_27 : decode cX6_init 27 = .ok (.aload_n 0, 1) := by decide +kernel
theorem dX6_init_28 : decode cX6_init 28 = .ok (.iconst 0, 1) := by decide +kernel
theorem dX6_init_29 : decode cX6_init 29 = .ok (.putfield 26, 3) := by decide +kernel
theorem dX6_init_32 : decode cX6_init 32 = .ok (.return_, 1) := by decide +kernel
theorem dX6_setLawWords_0 : decode cX6_setLawWords 0 = .ok (.aload_n 0, 1) := by decide +kernel
theorem dX6_setLawWords_1 : decode cX6_setLawWords 1 = .ok (.getfield 17, 3) := by decide +kernel
theorem dX6_setLawWords_4 : decode cX6_setLawWords 4 = .ok (.iconst 0, 1) := by decide +kernel
theorem dX6_setLawWords_5 : decode cX6_setLawWords 5 = .ok (.iload_n 2, 1) := by decide +kernel
theorem dX6_setLawWords_6 : decode cX6_setLawWords 6 = .ok (.iastore, 1) := by decide +kernel
theorem dX6_setLawWords_7 : decode cX6_setLawWords 7 = .ok (.aload_n 0, 1) := by decide +kernel
theorem dX6_setLawWords_8 : decode cX6_setLawWords 8 = .ok (.getfield 17, 3) := by decide +kernel
theorem dX6_setLawWords_11 : decode cX6_setLawWords 11 = .ok (.iconst 1, 1) := by decide +kernel
theorem dX6_setLawWords_12 : decode cX6_setLawWords 12 = .ok (.aload_n 1, 1) := by decide +kernel
theorem dX6_setLawWords_13 : decode cX6_setLawWords 13 = .ok (.getfield 30, 3) := by decide +kernel
theorem dX6_setLawWords_16 : decode cX6_setLawWords 16 = .ok (.iload_n 2, 1) := by decide +kernel
theorem dX6_setLawWords_17 : decode cX6_setLawWords 17 = .ok (.iaload, 1) := by decide +kernel
theorem dX6_setLawWords_18 : decode cX6_setLawWords 18 = .ok (.iastore, 1) := by decide +kernel
theorem dX6_setLawWords_19 : decode cX6_setLawWords 19 = .ok (.aload_n 0, 1) := by decide +kernel
theorem dX6_setLawWords_20 : decode cX6_setLawWords 20 = .ok (.getfield 17, 3) := by decide +kernel
theorem dX6_setLawWords_23 : decode cX6_setLawWords 23 = .ok (.iconst 2, 1) := by decide +kernel
theorem dX6_setLawWords_24 : decode cX6_setLawWords 24 = .ok (.aload_n 1, 1) := by decide +kernel
theorem dX6_setLawWords_25 : decode cX6_setLawWords 25 = .ok (.getfield 35, 3) := by decide +kernel
theorem dX6_setLawWords_28 : decode cX6_setLawWords 28 = .ok (.iload_n 2, 1) := by decide +kernel
theorem dX6_setLawWords_29 : decode cX6_setLawWords 29 = .ok (.iaload, 1) := by decide +kernel
theorem dX6_setLawWords_30 : decode cX6_setLawWords 30 = .ok (.iastore, 1) := by decide +kernel
theorem dX6_setLawWords_31 : decode cX6_setLawWords 31 = .ok (.aload_n 0, 1) := by decide +kernel
theorem dX6_setLawWords_32 : decode cX6_setLawWords 32 = .ok (.getfield 17, 3) := by decide +kernel
theorem dX6_setLawWords_35 : decode cX6_setLawWords 35 = .ok (.iconst 3, 1) := by decide +kernel
theorem dX6_setLawWords_36 : decode cX6_setLawWords 36 = .ok (.aload_n 1, 1) := by decide +kernel
theorem dX6_setLawWords_37 : decode cX6_setLawWords 37 = .ok (.getfield 38, 3) := by decide +kernel
theorem dX6_setLawWords_40 : decode cX6_setLawWords 40 = .ok (.iload_n 2, 1) := by decide +kernel
theorem dX6_setLawWords_41 : decode cX6_setLawWords 41 = .ok (.iaload, 1) := by decide +kernel
theorem dX6_setLawWords_42 : decode cX6_setLawWords 42 = .ok (.iastore, 1) := by decide +kernel
theorem dX6_setLawWords_43 : decode cX6_setLawWords 43 = .ok (.aload_n 0, 1) := by decide +kernel
theorem dX6_setLawWords_44 : decode cX6_setLawWords 44 = .ok (.getfield 17, 3) := by decide +kernel
theorem dX6_setLawWords_47 : decode cX6_setLawWords 47 = .ok (.iconst 4, 1) := by decide +kernel
theorem dX6_setLawWords_48 : decode cX6_setLawWords 48 = .ok (.iload_n 3, 1) := by decide +kernel
theorem dX6_setLawWords_49 : decode cX6_setLawWords 49 = .ok (.iastore, 1) := by decide +kernel
theorem dX6_setLawWords_50 : decode cX6_setLawWords 50 = .ok (.aload_n 0, 1) := by decide +kernel
theorem dX6_setLawWords_51 : decode cX6_setLawWords 51 = .ok (.getfield 17, 3) := by decide +kernel
theorem dX6_setLawWords_54 : decode cX6_setLawWords 54 = .ok (.iconst 5, 1) := by decide +kernel
theorem dX6_setLawWords_55 : decode cX6_setLawWords 55 = .ok (.iload 4, 2) := by decide +kernel
theorem dX6_setLawWords_57 : decode cX6_setLawWords 57 = .ok (.iastore, 1) := by decide +kernel
theorem dX6_setLawWords_58 : decode cX6_setLawWords 58 = .ok (.aload_n 0, 1) := by decide +kernel
theorem dX6_setLawWords_59 : decode cX6_setLawWords 59 = .ok (.getfield 17, 3) := by decide +kernel
theorem dX6_setLawWords_62 : decode cX6_setLawWords 62 = .ok (.bipush 6, 2) := by decide +kernel
theorem dX6_setLawWords_64 : decode cX6_setLawWords 64 = .ok (.aload_n 1, 1) := by decide +kernel
theorem dX6_setLawWords_65 : decode cX6_setLawWords 65 = .ok (.getfield 41, 3) := by decide +kernel
theorem dX6_setLawWords_68 : decode cX6_setLawWords 68 = .ok (.iconst 0, 1) := by decide +kernel
theorem dX6_setLawWords_69 : decode cX6_setLawWords 69 = .ok (.iaload, 1) := by decide +kernel
theorem dX6_setLawWords_70 : decode cX6_setLawWords 70 = .ok (.iastore, 1) := by decide +kernel
theorem dX6_setLawWords_71 : decode cX6_setLawWords 71 = .ok (.aload_n 0, 1) := by decide +kernel
theorem dX6_setLawWords_72 : decode cX6_setLawWords 72 = .ok (.getfield 17, 3) := by decide +kernel
theorem dX6_setLawWords_75 : decode cX6_setLawWords 75 = .ok (.bipush 7, 2) := by decide +kernel
theorem dX6_setLawWords_77 : decode cX6_setLawWords 77 = .ok (.aload_n 1, 1) := by decide +kernel
theorem dX6_setLawWords_78 : decode cX6_setLawWords 78 = .ok (.getfield 41, 3) := by decide +kernel
theorem dX6_setLawWords_81 : decode cX6_setLawWords 81 = .ok (.iconst 2, 1) := by decide +kernel
theorem dX6_setLawWords_82 : decode cX6_setLawWords 82 = .ok (.iaload, 1) := by decide +kernel
theorem dX6_setLawWords_83 : decode cX6_setLawWords 83 = .ok (.iastore, 1) := by decide +kernel
theorem dX6_setLawWords_84 : decode cX6_setLawWords 84 = .ok (.return_, 1) := by decide +kernel
theorem dX6_setOrderWords_0 : decode cX6_setOrderWords 0 = .ok (.aload_n 0, 1) := by decide +kernel
theorem dX6_setOrderWords_1 : decode cX6_setOrderWords 1 = .ok (.getfield 17, 3) := by decide +kernel
theorem dX6_setOrderWords_4 : decode cX6_setOrderWords 4 = .ok (.iconst 0, 1) := by decide +kernel
theorem dX6_setOrderWords_5 : decode cX6_setOrderWords 5 = .ok (.aload_n 1, 1) := by decide +kernel
theorem dX6_setOrderWords_6 : decode cX6_setOrderWords 6 = .ok (.getfield 41, 3) := by decide +kernel
theorem dX6_setOrderWords_9 : decode cX6_setOrderWords 9 = .ok (.iconst 0, 1) := by decide +kernel
theorem dX6_setOrderWords_10 : decode cX6_setOrderWords 10 = .ok (.iaload, 1) := by decide +kernel
theorem dX6_setOrderWords_11 : decode cX6_setOrderWords 11 = .ok (.iastore, 1) := by decide +kernel
theorem dX6_setOrderWords_12 : decode cX6_setOrderWords 12 = .ok (.aload_n 0, 1) := by decide +kernel
theorem dX6_setOrderWords_13 : decode cX6_setOrderWords 13 = .ok (.getfield 17, 3) := by decide +kernel
theorem dX6_setOrderWords_16 : decode cX6_setOrderWords 16 = .ok (.iconst 3, 1) := by decide +kernel
theorem dX6_setOrderWords_17 : decode cX6_setOrderWords 17 = .ok (.aload_n 1, 1) := by decide +kernel
theorem dX6_setOrderWords_18 : decode cX6_setOrderWords 18 = .ok (.invokevirtual 44, 3) := by decide +kernel
theorem dX6_setOrderWords_21 : decode cX6_setOrderWords 21 = .ok (.iastore, 1) := by decide +kernel
theorem dX6_setOrderWords_22 : decode cX6_setOrderWords 22 = .ok (.aload_n 0, 1) := by decide +kernel
theorem dX6_setOrderWords_23 : decode cX6_setOrderWords 23 = .ok (.getfield 17, 3) := by decide +kernel
theorem dX6_setOrderWords_26 : decode cX6_setOrderWords 26 = .ok (.iconst 4, 1) := by decide +kernel
theorem dX6_setOrderWords_27 : decode cX6_setOrderWords 27 = .ok (.aload_n 1, 1) := by decide +kernel
theorem dX6_setOrderWords_28 : decode cX6_setOrderWords 28 = .ok (.getfield 48, 3) := by decide +kernel
theorem dX6_setOrderWords_31 : decode cX6_setOrderWords 31 = .ok (.iastore, 1) := by decide +kernel
theorem dX6_setOrderWords_32 : decode cX6_setOrderWords 32 = .ok (.iconst 0, 1) := by decide +kernel
theorem dX6_setOrderWords_33 : decode cX6_setOrderWords 33 = .ok (.istore_n 2, 1) := by decide +kernel
theorem dX6_setOrderWords_34 : decode cX6_setOrderWords 34 = .ok (.iload_n 2, 1) := by decide +kernel
theorem dX6_setOrderWords_35 : decode cX6_setOrderWords 35 = .ok (.bipush 9, 2) := by decide +kernel
theorem dX6_setOrderWords_37 : decode cX6_setOrderWords 37 = .ok (.if_icmp .ge 69, 3) := by decide +kernel
theorem dX6_setOrderWords_40 : decode cX6_setOrderWords 40 = .ok (.aload_n 0, 1) := by decide +kernel
theorem dX6_setOrderWords_41 : decode cX6_setOrderWords 41 = .ok (.getfield 17, 3) := by decide +kernel
theorem dX6_setOrderWords_44 : decode cX6_setOrderWords 44 = .ok (.iconst 5, 1) := by decide +kernel
theorem dX6_setOrderWords_45 : decode cX6_setOrderWords 45 = .ok (.iload_n 2, 1) := by decide +kernel
theorem dX6_setOrderWords_46 : decode cX6_setOrderWords 46 = .ok (.iadd, 1) := by decide +kernel
theorem dX6_setOrderWords_47 : decode cX6_setOrderWords 47 = .ok (.aload_n 1, 1) := by decide +kernel
theorem dX6_setOrderWords_48 : decode cX6_setOrderWords 48 = .ok (.iload_n 2, 1) := by decide +kernel
theorem dX6_setOrderWords_49 : decode cX6_setOrderWords 49 = .ok (.invokevirtual 52, 3) := by decide +kernel
theorem dX6_setOrderWords_52 : decode cX6_setOrderWords 52 = .ok (.ifCond .eq 12, 3) := by decide +kernel
theorem dX6_setOrderWords_55 : decode cX6_setOrderWords 55 = .ok (.aload_n 1, 1) := by decide +kernel
theorem dX6_setOrderWords_56 : decode cX6_setOrderWords 56 = .ok (.getfield 38, 3) := by decide +kernel
theorem dX6_setOrderWords_59 : decode cX6_setOrderWords 59 = .ok (.iload_n 2, 1) := by decide +kernel
theorem dX6_setOrderWords_60 : decode cX6_setOrderWords 60 = .ok (.iaload, 1) := by decide +kernel
theorem dX6_setOrderWords_61 : decode cX6_setOrderWords 61 = .ok (.goto 4, 3) := by decide +kernel
theorem dX6_setOrderWords_64 : decode cX6_setOrderWords 64 = .ok (.iconst (-1), 1) := by decide +kernel
theorem dX6_setOrderWords_65 : decode cX6_setOrderWords 65 = .ok (.iastore, 1) := by decide +kernel
theorem dX6_setOrderWords_66 : decode cX6_setOrderWords 66 = .ok (.aload_n 0, 1) := by decide +kernel
theorem dX6_setOrderWords_67 : decode cX6_setOrderWords 67 = .ok (.getfield 17, 3) := by decide +kernel
theorem dX6_setOrderWords_70 : decode cX6_setOrderWords 70 = .ok (.bipush 14, 2) := by decide +kernel
theorem dX6_setOrderWords_72 : decode cX6_setOrderWords 72 = .ok (.iload_n 2, 1) := by decide +kernel
theorem dX6_setOrderWords_73 : decode cX6_setOrderWords 73 = .ok (.iadd, 1) := by decide +kernel
theorem dX6_setOrderWords_74 : decode cX6_setOrderWords 74 = .ok (.aload_n 1, 1) := by decide +kernel
theorem dX6_setOrderWords_75 : decode cX6_setOrderWords 75 = .ok (.iload_n 2, 1) := by decide +kernel
theorem dX6_setOrderWords_76 : decode cX6_setOrderWords 76 = .ok (.invokevirtual 52, 3) := by decide +kernel
theorem dX6_setOrderWords_79 : decode cX6_setOrderWords 79 = .ok (.ifCond .ne 7, 3) := by decide +kernel
theorem dX6_setOrderWords_82 : decode cX6_setOrderWords 82 = .ok (.iconst (-1), 1) := by decide +kernel
theorem dX6_setOrderWords_83 : decode cX6_setOrderWords 83 = .ok (.goto 16, 3) := by decide +kernel
theorem dX6_setOrderWords_86 : decode cX6_setOrderWords 86 = .ok (.aload_n 1, 1) := by decide +kernel
theorem dX6_setOrderWords_87 : decode cX6_setOrderWords 87 = .ok (.iload_n 2, 1) := by decide +kernel
theorem dX6_setOrderWords_88 : decode cX6_setOrderWords 88 = .ok (.invokevirtual 56, 3) := by decide +kernel
theorem dX6_setOrderWords_91 : decode cX6_setOrderWords 91 = .ok (.ifCond .eq 7, 3) := by decide +kernel
theorem dX6_setOrderWords_94 : decode cX6_setOrderWords 94 = .ok (.iconst 1, 1) := by decide +kernel
theorem dX6_setOrderWords_95 : decode cX6_setOrderWords 95 = .ok (.goto 4, 3) := by decide +kernel
theorem dX6_setOrderWords_98 : decode cX6_setOrderWords 98 = .ok (.iconst 0, 1) := by decide +kernel
theorem dX6_setOrderWords_99 : decode cX6_setOrderWords 99 = .ok (.iastore, 1) := by decide +kernel
theorem dX6_setOrderWords_100 : decode cX6_setOrderWords 100 = .ok (.iinc 2 1, 3) := by decide +kernel
theorem dX6_setOrderWords_103 : decode cX6_setOrderWords 103 = .ok (.goto (-69), 3) := by decide +kernel
theorem dX6_setOrderWords_106 : decode cX6_setOrderWords 106 = .ok (.return_, 1) := by decide +kernel
theorem dX6_isSo_0 : decode cX6_isSo 0 = .ok (.aload_n 1, 1) := by decide +kernel
theorem dX6_isSo_1 : decode cX6_isSo 1 = .ok (.iload_n 2, 1) := by decide +kernel
theorem dX6_isSo_2 : decode cX6_isSo 2 = .ok (.bipush 6, 2) := by decide +kernel
theorem dX6_isSo_4 : decode cX6_isSo 4 = .ok (.invokevirtual 59, 3) := by decide +kernel
theorem dX6_isSo_7 : decode cX6_isSo 7 = .ok (.istore_n 3, 1) := by decide +kernel
theorem dX6_isSo_8 : decode cX6_isSo 8 = .ok (.aload_n 1, 1) := by decide +kernel
theorem dX6_isSo_9 : decode cX6_isSo 9 = .ok (.iload_n 2, 1) := by decide +kernel
theorem dX6_isSo_10 : decode cX6_isSo 10 = .ok (.bipush 7, 2) := by decide +kernel
theorem dX6_isSo_12 : decode cX6_isSo 12 = .ok (.invokevirtual 59, 3) := by decide +kernel
theorem dX6_isSo_15 : decode cX6_isSo 15 = .ok (.istore 4, 2) := by decide +kernel
theorem dX6_isSo_17 : decode cX6_isSo 17 = .ok (.iload_n 3, 1) := by decide +kernel
theorem dX6_isSo_18 : decode cX6_isSo 18 = .ok (.iload 4, 2) := by decide +kernel
theorem dX6_isSo_20 : decode cX6_isSo 20 = .ok (.if_icmp .eq 23, 3) := by decide +kernel
theorem dX6_isSo_23 : decode cX6_isSo 23 = .ok (.aload_n 0, 1) := by decide +kernel
theorem dX6_isSo_24 : decode cX6_isSo 24 = .ok (.aload_n 1, 1) := by decide +kernel
theorem dX6_isSo_25 : decode cX6_isSo 25 = .ok (.iload_n 3, 1) := by decide +kernel
theorem dX6_isSo_26 : decode cX6_isSo 26 = .ok (.iload 4, 2) := by decide +kernel
theorem dX6_isSo_28 : decode cX6_isSo 28 = .ok (.invokevirtual 63, 3) := by decide +kernel
theorem dX6_isSo_31 : decode cX6_isSo 31 = .ok (.lconst 0, 1) := by decide +kernel
theorem dX6_isSo_32 : decode cX6_isSo 32 = .ok (.lcmp, 1) := by decide +kernel
theorem dX6_isSo_33 : decode cX6_isSo 33 = .ok (.ifCond .eq 14, 3) := by decide +kernel
theorem dX6_isSo_36 : decode cX6_isSo 36 = .ok (.aload_n 0, 1) := by decide +kernel
theorem dX6_isSo_37 : decode cX6_isSo 37 = .ok (.getfield 26, 3) := by decide +kernel
theorem dX6_isSo_40 : decode cX6_isSo 40 = .ok (.ifCond .ne 7, 3) := by decide +kernel
theorem dX6_isSo_43 : decode cX6_isSo 43 = .ok (.iconst 1, 1) := by decide +kernel
theorem dX6_isSo_44 : decode cX6_isSo 44 = .ok (.goto 4, 3) := by decide +kernel
theorem dX6_isSo_47 : decode cX6_isSo 47 = .ok (.iconst 0, 1) := by decide +kernel
theorem dX6_isSo_48 : decode cX6_isSo 48 = .ok (.ireturn, 1) := by decide +kernel
theorem dX6_reckonSums_0 : decode cX6_reckonSums 0 = .ok (.iconst 0, 1) := by decide +kernel
theorem dX6_reckonSums_1 : decode cX6_reckonSums 1 = .ok (.istore_n 3, 1) := by decide +kernel
theorem dX6_reckonSums_2 : decode cX6_reckonSums 2 = .ok (.iload_n 3, 1) := by decide +kernel
theorem dX6_reckonSums_3 : decode cX6_reckonSums 3 = .ok (.iconst 3, 1) := by decide +kernel
theorem dX6_reckonSums_4 : decode cX6_reckonSums 4 = .ok (.if_icmp .ge 74, 3) := by decide +kernel
theorem dX6_reckonSums_7 : decode cX6_reckonSums 7 = .ok (.aload_n 1, 1) := by decide +kernel
theorem dX6_reckonSums_8 : decode cX6_reckonSums 8 = .ok (.iload_n 2, 1) := by decide +kernel
theorem dX6_reckonSums_9 : decode cX6_reckonSums 9 = .ok (.iconst 2, 1) := by decide +kernel
theorem dX6_reckonSums_10 : decode cX6_reckonSums 10 = .ok (.iload_n 3, 1) := by decide +kernel
theorem dX6_reckonSums_11 : decode cX6_reckonSums 11 = .ok (.iadd, 1) := by decide +kernel
theorem dX6_reckonSums_12 : decode cX6_reckonSums 12 = .ok (.invokevirtual 59, 3) := by decide +kernel
theorem dX6_reckonSums_15 : decode cX6_reckonSums 15 = .ok (.istore 4, 2) := by decide +kernel
theorem dX6_reckonSums_17 : decode cX6_reckonSums 17 = .ok (.aload_n 1, 1) := by decide +kernel
theorem dX6_reckonSums_18 : decode cX6_reckonSums 18 = .ok (.iload_n 2, 1) := by decide +kernel
theorem dX6_reckonSums_19 : decode cX6_reckonSums 19 = .ok (.iconst 2, 1) := by decide +kernel
theorem dX6_reckonSums_20 : decode cX6_reckonSums 20 = .ok (.iload_n 3, 1) := by decide +kernel
theorem dX6_reckonSums_21 : decode cX6_reckonSums 21 = .ok (.iadd, 1) := by decide +kernel
theorem dX6_reckonSums_22 : decode cX6_reckonSums 22 = .ok (.iconst 1, 1) := by decide +kernel
theorem dX6_reckonSums_23 : decode cX6_reckonSums 23 = .ok (.iadd, 1) := by decide +kernel
theorem dX6_reckonSums_24 : decode cX6_reckonSums 24 = .ok (.invokevirtual 59, 3) := by decide +kernel
theorem dX6_reckonSums_27 : decode cX6_reckonSums 27 = .ok (.istore 5, 2) := by decide +kernel
theorem dX6_reckonSums_29 : decode cX6_reckonSums 29 = .ok (.aload_n 0, 1) := by decide +kernel
theorem dX6_reckonSums_30 : decode cX6_reckonSums 30 = .ok (.getfield 23, 3) := by decide +kernel
theorem dX6_reckonSums_33 : decode cX6_reckonSums 33 = .ok (.iload_n 3, 1) := by decide +kernel
theorem dX6_reckonSums_34 : decode cX6_reckonSums 34 = .ok (.iload 4, 2) := by decide +kernel
theorem dX6_reckonSums_36 : decode cX6_reckonSums 36 = .ok (.iload 5, 2) := by decide +kernel
theorem dX6_reckonSums_38 : decode cX6_reckonSums 38 = .ok (.if_icmp .ne 7, 3) := by decide +kernel
theorem dX6_reckonSums_41 : decode cX6_reckonSums 41 = .ok (.iconst 0, 1) := by decide +kernel
theorem dX6_reckonSums_42 : decode cX6_reckonSums 42 = .ok (.goto 13, 3) := by decide +kernel
theorem dX6_reckonSums_45 : decode cX6_reckonSums 45 = .ok (.aload_n 0, 1) := by decide +kernel
theorem dX6_reckonSums_46 : decode cX6_reckonSums 46 = .ok (.aload_n 1, 1) := by decide +kernel
theorem dX6_reckonSums_47 : decode cX6_reckonSums 47 = .ok (.iload 4, 2) := by decide +kernel
theorem dX6_reckonSums_49 : decode cX6_reckonSums 49 = .ok (.iload 5, 2) := by decide +kernel
theorem dX6_reckonSums_51 : decode cX6_reckonSums 51 = .ok (.invokevirtual 63, 3) := by decide +kernel
theorem dX6_reckonSums_54 : decode cX6_reckonSums 54 = .ok (.l2i, 1) := by decide +kernel
theorem dX6_reckonSums_55 : decode cX6_reckonSums 55 = .ok (.iastore, 1) := by decide +kernel
theorem dX6_reckonSums_56 : decode cX6_reckonSums 56 = .ok (.iload 4, 2) := by decide +kernel
theorem dX6_reckonSums_58 : decode cX6_reckonSums 58 = .ok (.iload 5, 2) := by decide +kernel
theorem dX6_reckonSums_60 : decode cX6_reckonSums 60 = .ok (.if_icmp .eq 12, 3) := by decide +kernel
theorem dX6_reckonSums_63 : decode cX6_reckonSums 63 = .ok (.aload_n 0, 1) := by decide +kernel
theorem dX6_reckonSums_64 : decode cX6_reckonSums 64 = .ok (.getfield 26, 3) := by decide +kernel
theorem dX6_reckonSums_67 : decode cX6_reckonSums 67 = .ok (.ifCond .eq 5, 3) := by decide +kernel
theorem dX6_reckonSums_70 : decode cX6_reckonSums 70 = .ok (.iconst 0, 1) := by decide +kernel
theorem dX6_reckonSums_71 : decode cX6_reckonSums 71 = .ok (.ireturn, 1) := by decide +kernel
theorem dX6_reckonSums_72 : decode cX6_reckonSums 72 = .ok (.iinc 3 1, 3) := by decide +kernel
theorem dX6_reckonSums_75 : decode cX6_reckonSums 75 = .ok (.goto (-73), 3) := by decide +kernel
theorem dX6_reckonSums_78 : decode cX6_reckonSums 78 = .ok (.iconst 1, 1) := by decide +kernel
theorem dX6_reckonSums_79 : decode cX6_reckonSums 79 = .ok (.ireturn, 1) := by decide +kernel
theorem dX6_reckon_0 : decode cX6_reckon 0 = .ok (.iconst 0, 1) := by decide +kernel
theorem dX6_reckon_1 : decode cX6_reckon 1 = .ok (.istore 4, 2) := by decide +kernel
theorem dX6_reckon_3 : decode cX6_reckon 3 = .ok (.aload_n 0, 1) := by decide +kernel
theorem dX6_reckon_4 : decode cX6_reckon 4 = .ok (.iconst 0, 1) := by decide +kernel
theorem dX6_reckon_5 : decode cX6_reckon 5 = .ok (.putfield 26, 3) := by decide +kernel
theorem dX6_reckon_8 : decode cX6_reckon 8 = .ok (.iload_n 2, 1) := by decide +kernel
theorem dX6_reckon_9 : decode cX6_reckon 9 = .ok (.istore 5, 2) := by decide +kernel
theorem dX6_reckon_11 : decode cX6_reckon 11 = .ok (.iload 5, 2) := by decide +kernel
theorem dX6_reckon_13 : decode cX6_reckon 13 = .ok (.iload_n 3, 1) := by decide +kernel
theorem dX6_reckon_14 : decode cX6_reckon 14 = .ok (.if_icmp .ge 530, 3) := by decide +kernel
theorem dX6_reckon_17 : decode cX6_reckon 17 = .ok (.iload 5, 2) := by decide +kernel
theorem dX6_reckon_19 : decode cX6_reckon 19 = .ok (.aload_n 1, 1) := by decide +kernel
theorem dX6_reckon_20 : decode cX6_reckon 20 = .ok (.getfield 67, 3) := by decide +kernel
theorem dX6_reckon_23 : decode cX6_reckon 23 = .ok (.if_icmp .ge 521, 3) := by decide +kernel
theorem dX6_reckon_26 : decode cX6_reckon 26 = .ok (.aload_n 0, 1) := by decide +kernel
theorem dX6_reckon_27 : decode cX6_reckon 27 = .ok (.getfield 26, 3) := by decide +kernel
theorem dX6_reckon_30 : decode cX6_reckon 30 = .ok (.ifCond .ne 514, 3) := by decide +kernel
theorem dX6_reckon_33 : decode cX6_reckon 33 = .ok (.aload_n 1, 1) := by decide +kernel
theorem dX6_reckon_34 : decode cX6_reckon 34 = .ok (.getfield 70, 3) := by decide +kernel
theorem dX6_reckon_37 : decode cX6_reckon 37 = .ok (.iload 5, 2) := by decide +kernel
theorem dX6_reckon_39 : decode cX6_reckon 39 = .ok (.iaload, 1) := by decide +kernel
theorem dX6_reckon_40 : decode cX6_reckon 40 = .ok (.istore 6, 2) := by decide +kernel
theorem dX6_reckon_42 : decode cX6_reckon 42 = .ok (.iload 6, 2) := by decide +kernel
theorem dX6_reckon_44 : decode cX6_reckon 44 = .ok (.sipush 3000, 3) := by decide +kernel
theorem dX6_reckon_47 : decode cX6_reckon 47 = .ok (.if_icmp .ge 81, 3) := by decide +kernel
theorem dX6_reckon_50 : decode cX6_reckon 50 = .ok (.iload 6, 2) := by decide +kernel
theorem dX6_reckon_52 : decode cX6_reckon 52 = .ok (.sipush 2000, 3) := by decide +kernel
theorem dX6_reckon_55 : decode cX6_reckon 55 = .ok (.isub, 1) := by decide +kernel
theorem dX6_reckon_56 : decode cX6_reckon 56 = .ok (.istore 7, 2) := by decide +kernel
theorem dX6_reckon_58 : decode cX6_reckon 58 = .ok (.aload_n 0, 1) := by decide +kernel
theorem dX6_reckon_59 : decode cX6_reckon 59 = .ok (.iload 4, 2) := by decide +kernel
theorem dX6_reckon_61 : decode cX6_reckon 61 = .ok (.iconst 1, 1) := by decide +kernel
theorem dX6_reckon_62 : decode cX6_reckon 62 = .ok (.iadd, 1) := by decide +kernel
theorem dX6_reckon_63 : decode cX6_reckon 63 = .ok (.aload_n 0, 1) := by decide +kernel
theorem dX6_reckon_64 : decode cX6_reckon 64 = .ok (.getfield 9, 3) := by decide +kernel
theorem dX6_reckon_67 : decode cX6_reckon 67 = .ok (.arraylength, 1) := by decide +kernel
theorem dX6_reckon_68 : decode cX6_reckon 68 = .ok (.if_icmp .ge 13, 3) := by decide +kernel
theorem dX6_reckon_71 : decode cX6_reckon 71 = .ok (.iload 7, 2) := by decide +kernel
theorem dX6_reckon_73 : decode cX6_reckon 73 = .ok (.aload_n 0, 1) := by decide +kernel
theorem dX6_reckon_74 : decode cX6_reckon 74 = .ok (.getfield 17, 3) := by decide +kernel
theorem dX6_reckon_77 : decode cX6_reckon 77 = .ok (.arraylength, 1) := by decide +kernel
theorem dX6_reckon_78 : decode cX6_reckon 78 = .ok (.if_icmp .lt 7, 3) := by decide +kernel
theorem dX6_reckon_81 : decode cX6_reckon 81 = .ok (.iconst 1, 1) := by decide +kernel
theorem dX6_reckon_82 : decode cX6_reckon 82 = .ok (.goto 4, 3) := by decide +kernel
theorem dX6_reckon_85 : decode cX6_reckon 85 = .ok (.iconst 0, 1) := by decide +kernel
theorem dX6_reckon_86 : decode cX6_reckon 86 = .ok (.putfield 26, 3) := by decide +kernel
theorem dX6_reckon_89 : decode cX6_reckon 89 = .ok (.aload_n 0, 1) := by decide +kernel
theorem dX6_reckon_90 : decode cX6_reckon 90 = .ok (.getfield 26, 3) := by decide +kernel
theorem dX6_reckon_93 : decode cX6_reckon 93 = .ok (.ifCond .ne 445, 3) := by decide +kernel
theorem dX6_reckon_96 : decode cX6_reckon 96 = .ok (.aload_n 0, 1) := by decide +kernel
theorem dX6_reckon_97 : decode cX6_reckon 97 = .ok (.getfield 9, 3) := by decide +kernel
theorem dX6_reckon_100 : decode cX6_reckon 100 = .ok (.iload 4, 2) := by decide +kernel
theorem dX6_reckon_102 : decode cX6_reckon 102 = .ok (.iload 7, 2) := by decide +kernel
theorem dX6_reckon_104 : decode cX6_reckon 104 = .ok (.ifCond .ge 9, 3) := by decide +kernel
theorem dX6_reckon_107 : decode cX6_reckon 107 = .ok (.iload 6, 2) := by decide +kernel
theorem dX6_reckon_109 : decode cX6_reckon 109 = .ok (.i2l, 1) := by decide +kernel
theorem dX6_reckon_110 : decode cX6_reckon 110 = .ok (.goto 11, 3) := by decide +kernel
theorem dX6_reckon_113 : decode cX6_reckon 113 = .ok (.aload_n 0, 1) := by decide +kernel
theorem dX6_reckon_114 : decode cX6_reckon 114 = .ok (.getfield 17, 3) := by decide +kernel
theorem dX6_reckon_117 : decode cX6_reckon 117 = .ok (.iload 7, 2) := by decide +kernel
theorem dX6_reckon_119 : decode cX6_reckon 119 = .ok (.iaload, 1) := by decide +kernel
theorem dX6_reckon_120 : decode cX6_reckon 120 = .ok (.i2l, 1) := by decide +kernel
theorem dX6_reckon_121 : decode cX6_reckon 121 = .ok (.lastore, 1) := by decide +kernel
theorem dX6_reckon_122 : decode cX6_reckon 122 = .ok (.iinc 4 1, 3) := by decide +kernel
theorem dX6_reckon_125 : decode cX6_reckon 125 = .ok (.goto 413, 3) := by decide +kernel
theorem dX6_reckon_128 : decode cX6_reckon 128 = .ok (.iload 4, 2) := by decide +kernel
theorem dX6_reckon_130 : decode cX6_reckon 130 = .ok (.iconst 1, 1) := by decide +kernel
theorem dX6_reckon_131 : decode cX6_reckon 131 = .ok (.if_icmp .lt 17, 3) := by decide +kernel
theorem dX6_reckon_134 : decode cX6_reckon 134 = .ok (.iload 4, 2) := by decide +kernel
theorem dX6_reckon_136 : decode cX6_reckon 136 = .ok (.iconst 2, 1) := by decide +kernel
theorem dX6_reckon_137 : decode cX6_reckon 137 = .ok (.if_icmp .ge 19, 3) := by decide +kernel
theorem dX6_reckon_140 : decode cX6_reckon 140 = .ok (.iload 6, 2) := by decide +kernel
theorem dX6_reckon_142 : decode cX6_reckon 142 = .ok (.sipush 3008, 3) := by decide +kernel
theorem dX6_reckon_145 : decode cX6_reckon 145 = .ok (.if_icmp .ge 11, 3) := by decide +kernel
theorem dX6_reckon_148 : decode cX6_reckon 148 = .ok (.aload_n 0, 1) := by decide +kernel
theorem dX6_reckon_149 : decode cX6_reckon 149 = .ok (.iconst 1, 1) := by decide +kernel
theorem dX6_reckon_150 : decode cX6_reckon 150 = .ok (.putfield 26, 3) := by decide +kernel
theorem dX6_reckon_153 : decode cX6_reckon 153 = .ok (.goto 385, 3) := by decide +kernel
theorem dX6_reckon_156 : decode cX6_reckon 156 = .ok (.iload 6, 2) := by decide +kernel
theorem dX6_reckon_158 : decode cX6_reckon 158 = .ok (.sipush 3009, 3) := by decide +kernel
theorem dX6_reckon_161 : decode cX6_reckon 161 = .ok (.if_icmp .eq 11, 3) := by decide +kernel
theorem dX6_reckon_164 : decode cX6_reckon 164 = .ok (.iload 6, 2) := by decide +kernel
theorem dX6_reckon_166 : decode cX6_reckon 166 = .ok (.sipush 3010, 3) := by decide +kernel
theorem dX6_reckon_169 : decode cX6_reckon 169 = .ok (.if_icmp .ne 105, 3) := by decide +kernel
theorem dX6_reckon_172 : decode cX6_reckon 172 = .ok (.iinc 5 1, 3) := by decide +kernel
theorem dX6_reckon_175 : decode cX6_reckon 175 = .ok (.aload_n 0, 1) := by decide +kernel
theorem dX6_reckon_176 : decode cX6_reckon 176 = .ok (.getfield 9, 3) := by decide +kernel
theorem dX6_reckon_179 : decode cX6_reckon 179 = .ok (.iload 4, 2) := by decide +kernel
theorem dX6_reckon_181 : decode cX6_reckon 181 = .ok (.iconst 1, 1) := by decide +kernel
theorem dX6_reckon_182 : decode cX6_reckon 182 = .ok (.isub, 1) := by decide +kernel
theorem dX6_reckon_183 : decode cX6_reckon 183 = .ok (.laload, 1) := by decide +kernel
theorem dX6_reckon_184 : decode cX6_reckon 184 = .ok (.lconst 0, 1) := by decide +kernel
theorem dX6_reckon_185 : decode cX6_reckon 185 = .ok (.lcmp, 1) := by decide +kernel
theorem dX6_reckon_186 : decode cX6_reckon 186 = .ok (.ifCond .eq 7, 3) := by decide +kernel
theorem dX6_reckon_189 : decode cX6_reckon 189 = .ok (.iconst 1, 1) := by decide +kernel
theorem dX6_reckon_190 : decode cX6_reckon 190 = .ok (.goto 4, 3) := by decide +kernel
theorem dX6_reckon_193 : decode cX6_reckon 193 = .ok (.iconst 0, 1) := by decide +kernel
theorem dX6_reckon_194 : decode cX6_reckon 194 = .ok (.iload 6, 2) := by decide +kernel
theorem dX6_reckon_196 : decode cX6_reckon 196 = .ok (.sipush 3010, 3) := by decide +kernel
theorem dX6_reckon_199 : decode cX6_reckon 199 = .ok (.if_icmp .ne 7, 3) := by decide +kernel
theorem dX6_reckon_202 : decode cX6_reckon 202 = .ok (.iconst 1, 1) := by decide +kernel
theorem dX6_reckon_203 : decode cX6_reckon 203 = .ok (.goto 4, 3) := by decide +kernel
theorem dX6_reckon_206 : decode cX6_reckon 206 = .ok (.iconst 0, 1) := by decide +kernel
theorem dX6_reckon_207 : decode cX6_reckon 207 = .ok (.if_icmp .ne 7, 3) := by decide +kernel
theorem dX6_reckon_210 : decode cX6_reckon 210 = .ok (.iconst 1, 1) := by decide +kernel
theorem dX6_reckon_211 : decode cX6_reckon 211 = .ok (.goto 4, 3) := by decide +kernel
theorem dX6_reckon_214 : decode cX6_reckon 214 = .ok (.iconst 0, 1) := by decide +kernel
theorem dX6_reckon_215 : decode cX6_reckon 215 = .ok (.istore 7, 2) := by decide +kernel
theorem dX6_reckon_217 : decode cX6_reckon 217 = .ok (.iload 7, 2) := by decide +kernel
theorem dX6_reckon_219 : decode cX6_reckon 219 = .ok (.ifCond .eq 37, 3) := by decide +kernel
theorem dX6_reckon_222 : decode cX6_reckon 222 = .ok (.iload 5, 2) := by decide +kernel
theorem dX6_reckon_224 : decode cX6_reckon 224 = .ok (.aload_n 1, 1) := by decide +kernel
theorem dX6_reckon_225 : decode cX6_reckon 225 = .ok (.getfield 67, 3) := by decide +kernel
theorem dX6_reckon_228 : decode cX6_reckon 228 = .ok (.if_icmp .ge 28, 3) := by decide +kernel
theorem dX6_reckon_231 : decode cX6_reckon 231 = .ok (.aload_n 1, 1) := by decide +kernel
theorem dX6_reckon_232 : decode cX6_reckon 232 = .ok (.getfield 70, 3) := by decide +kernel
theorem dX6_reckon_235 : decode cX6_reckon 235 = .ok (.iload 5, 2) := by decide +kernel
theorem dX6_reckon_237 : decode cX6_reckon 237 = .ok (.iaload, 1) := by decide +kernel
theorem dX6_reckon_238 : decode cX6_reckon 238 = .ok (.iconst 1, 1) := by decide +kernel
theorem dX6_reckon_239 : decode cX6_reckon 239 = .ok (.isub, 1) := by decide +kernel
theorem dX6_reckon_240 : decode cX6_reckon 240 = .ok (.iload 5, 2) := by decide +kernel
theorem dX6_reckon_242 : decode cX6_reckon 242 = .ok (.if_icmp .le 14, 3) := by decide +kernel
theorem dX6_reckon_245 : decode cX6_reckon 245 = .ok (.aload_n 1, 1) := by decide +kernel
theorem dX6_reckon_246 : decode cX6_reckon 246 = .ok (.getfield 70, 3) := by decide +kernel
theorem dX6_reckon_249 : decode cX6_reckon 249 = .ok (.iload 5, 2) := by decide +kernel
theorem dX6_reckon_251 : decode cX6_reckon 251 = .ok (.iaload, 1) := by decide +kernel
theorem dX6_reckon_252 : decode cX6_reckon 252 = .ok (.iconst 1, 1) := by decide +kernel
theorem dX6_reckon_253 : decode cX6_reckon 253 = .ok (.isub, 1) := by decide +kernel
theorem dX6_reckon_254 : decode cX6_reckon 254 = .ok (.istore 5, 2) := by decide +kernel
theorem dX6_reckon_256 : decode cX6_reckon 256 = .ok (.iload 4, 2) := by decide +kernel
theorem dX6_reckon_258 : decode cX6_reckon 258 = .ok (.iload 7, 2) := by decide +kernel
theorem dX6_reckon_260 : decode cX6_reckon 260 = .ok (.ifCond .eq 7, 3) := by decide +kernel
theorem dX6_reckon_263 : decode cX6_reckon 263 = .ok (.iconst 0, 1) := by decide +kernel
theorem dX6_reckon_264 : decode cX6_reckon 264 = .ok (.goto 4, 3) := by decide +kernel
theorem dX6_reckon_267 : decode cX6_reckon 267 = .ok (.iconst 1, 1) := by decide +kernel
theorem dX6_reckon_268 : decode cX6_reckon 268 = .ok (.isub, 1) := by decide +kernel
theorem dX6_reckon_269 : decode cX6_reckon 269 = .ok (.istore 4, 2) := by decide +kernel
theorem dX6_reckon_271 : decode cX6_reckon 271 = .ok (.goto 267, 3) := by decide +kernel
theorem dX6_reckon_274 : decode cX6_reckon 274 = .ok (.iload 4, 2) := by decide +kernel
theorem dX6_reckon_276 : decode cX6_reckon 276 = .ok (.iload 6, 2) := by decide +kernel
theorem dX6_reckon_278 : decode cX6_reckon 278 = .ok (.sipush 3008, 3) := by decide +kernel
theorem dX6_reckon_281 : decode cX6_reckon 281 = .ok (.if_icmp .ge 7, 3) := by decide +kernel
theorem dX6_reckon_284 : decode cX6_reckon 284 = .ok (.iconst 1, 1) := by decide +kernel
theorem dX6_reckon_285 : decode cX6_reckon 285 = .ok (.goto 4, 3) := by decide +kernel
theorem dX6_reckon_288 : decode cX6_reckon 288 = .ok (.iconst 0, 1) := by decide +kernel
theorem dX6_reckon_289 : decode cX6_reckon 289 = .ok (.isub, 1) := by decide +kernel
theorem dX6_reckon_290 : decode cX6_reckon 290 = .ok (.istore 4, 2) := by decide +kernel
theorem dX6_reckon_292 : decode cX6_reckon 292 = .ok (.aload_n 0, 1) := by decide +kernel
theorem dX6_reckon_293 : decode cX6_reckon 293 = .ok (.getfield 9, 3) := by decide +kernel
theorem dX6_reckon_296 : decode cX6_reckon 296 = .ok (.iload 4, 2) := by decide +kernel
theorem dX6_reckon_298 : decode cX6_reckon 298 = .ok (.iconst 1, 1) := by decide +kernel
theorem dX6_reckon_299 : decode cX6_reckon 299 = .ok (.isub, 1) := by decide +kernel
theorem dX6_reckon_300 : decode cX6_reckon 300 = .ok (.laload, 1) := by decide +kernel
theorem dX6_reckon_301 : decode cX6_reckon 301 = .ok (.lstore 7, 2) := by decide +kernel
theorem dX6_reckon_303 : decode cX6_reckon 303 = .ok (.aload_n 0, 1) := by decide +kernel
theorem dX6_reckon_304 : decode cX6_reckon 304 = .ok (.getfield 9, 3) := by decide +kernel
theorem dX6_reckon_307 : decode cX6_reckon 307 = .ok (.iload 4, 2) := by decide +kernel
theorem dX6_reckon_309 : decode cX6_reckon 309 = .ok (.laload, 1) := by decide +kernel
theorem dX6_reckon_310 : decode cX6_reckon 310 = .ok (.lstore 9, 2) := by decide +kernel
theorem dX6_reckon_312 : decode cX6_reckon 312 = .ok (.lconst 0, 1) := by decide +kernel
theorem dX6_reckon_313 : decode cX6_reckon 313 = .ok (.lstore 11, 2) := by decide +kernel
theorem dX6_reckon_315 : decode cX6_reckon 315 = .ok (.iload 6, 2) := by decide +kernel
theorem dX6_reckon_317 : decode cX6_reckon 317 = .ok (.tableswitch 177 3000 3007 #[47, 57, 67, 77, 100, 123, 141, 159], 47) := by decide +kernel
theorem dX6_reckon_364 : decode cX6_reckon 364 = .ok (.lload 7, 2) := by decide +kernel
theorem dX6_reckon_366 : decode cX6_reckon 366 = .ok (.lload 9, 2) := by decide +kernel
theorem dX6_reckon_368 : decode cX6_reckon 368 = .ok (.ladd, 1) := by decide +kernel
theorem dX6_reckon_369 : decode cX6_reckon 369 = .ok (.lstore 11, 2) := by decide +kernel
theorem dX6_reckon_371 : decode cX6_reckon 371 = .ok (.goto 129, 3) := by decide +kernel
theorem dX6_reckon_374 : decode cX6_reckon 374 = .ok (.lload 7, 2) := by decide +kernel
theorem dX6_reckon_376 : decode cX6_reckon 376 = .ok (.lload 9, 2) := by decide +kernel
theorem dX6_reckon_378 : decode cX6_reckon 378 = .ok (.lsub, 1) := by decide +kernel
theorem dX6_reckon_379 : decode cX6_reckon 379 = .ok (.lstore 11, 2) := by decide +kernel
theorem dX6_reckon_381 : decode cX6_reckon 381 = .ok (.goto 119, 3) := by decide +kernel
theorem dX6_reckon_384 : decode cX6_reckon 384 = .ok (.lload 7, 2) := by decide +kernel
theorem dX6_reckon_386 : decode cX6_reckon 386 = .ok (.lload 9, 2) := by decide +kernel
theorem dX6_reckon_388 : decode cX6_reckon 388 = .ok (.lmul, 1) := by decide +kernel
theorem dX6_reckon_389 : decode cX6_reckon 389 = .ok (.lstore 11, 2) := by decide +kernel
theorem dX6_reckon_391 : decode cX6_reckon 391 = .ok (.goto 109, 3) := by decide +kernel
theorem dX6_reckon_394 : decode cX6_reckon 394 = .ok (.lload 9, 2) := by decide +kernel
theorem dX6_reckon_396 : decode cX6_reckon 396 = .ok (.lconst 0, 1) := by decide +kernel
theorem dX6_reckon_397 : decode cX6_reckon 397 = .ok (.lcmp, 1) := by decide +kernel
theorem dX6_reckon_398 : decode cX6_reckon 398 = .ok (.ifCond .ne 9, 3) := by decide +kernel
theorem dX6_reckon_401 : decode cX6_reckon 401 = .ok (.ldc2_w 73, 3) := by decide +kernel
theorem dX6_reckon_404 : decode cX6_reckon 404 = .ok (.goto 8, 3) := by decide +kernel
theorem dX6_reckon_407 : decode cX6_reckon 407 = .ok (.lload 7, 2) := by decide +kernel
theorem dX6_reckon_409 : decode cX6_reckon 409 = .ok (.lload 9, 2) := by decide +kernel
theorem dX6_reckon_411 : decode cX6_reckon 411 = .ok (.ldiv, 1) := by decide +kernel
theorem dX6_reckon_412 : decode cX6_reckon 412 = .ok (.lstore 11, 2) := by decide +kernel
theorem dX6_reckon_414 : decode cX6_reckon 414 = .ok (.goto 86, 3) := by decide +kernel
theorem dX6_reckon_417 : decode cX6_reckon 417 = .ok (.lload 9, 2) := by decide +kernel
theorem dX6_reckon_419 : decode cX6_reckon 419 = .ok (.lconst 0, 1) := by decide +kernel
theorem dX6_reckon_420 : decode cX6_reckon 420 = .ok (.lcmp, 1) := by decide +kernel
theorem dX6_reckon_421 : decode cX6_reckon 421 = .ok (.ifCond .ne 9, 3) := by decide +kernel
theorem dX6_reckon_424 : decode cX6_reckon 424 = .ok (.ldc2_w 73, 3) := by decide +kernel
theorem dX6_reckon_427 : decode cX6_reckon 427 = .ok (.goto 8, 3) := by decide +kernel
theorem dX6_reckon_430 : decode cX6_reckon 430 = .ok (.lload 7, 2) := by decide +kernel
theorem dX6_reckon_432 : decode cX6_reckon 432 = .ok (.lload 9, 2) := by decide +kernel
theorem dX6_reckon_434 : decode cX6_reckon 434 = .ok (.lrem, 1) := by decide +kernel
theorem dX6_reckon_435 : decode cX6_reckon 435 = .ok (.lstore 11, 2) := by decide +kernel
theorem dX6_reckon_437 : decode cX6_reckon 437 = .ok (.goto 63, 3) := by decide +kernel
theorem dX6_reckon_440 : decode cX6_reckon 440 = .ok (.lload 7, 2) := by decide +kernel
theorem dX6_reckon_442 : decode cX6_reckon 442 = .ok (.lload 9, 2) := by decide +kernel
theorem dX6_reckon_444 : decode cX6_reckon 444 = .ok (.lcmp, 1) := by decide +kernel
theorem dX6_reckon_445 : decode cX6_reckon 445 = .ok (.ifCond .ge 7, 3) := by decide +kernel
theorem dX6_reckon_448 : decode cX6_reckon 448 = .ok (.lconst 1, 1) := by decide +kernel
theorem dX6_reckon_449 : decode cX6_reckon 449 = .ok (.goto 4, 3) := by decide +kernel
theorem dX6_reckon_452 : decode cX6_reckon 452 = .ok (.lconst 0, 1) := by decide +kernel
theorem dX6_reckon_453 : decode cX6_reckon 453 = .ok (.lstore 11, 2) := by decide +kernel
theorem dX6_reckon_455 : decode cX6_reckon 455 = .ok (.goto 45, 3) := by decide +kernel
theorem dX6_reckon_458 : decode cX6_reckon 458 = .ok (.lload 7, 2) := by decide +kernel
theorem dX6_reckon_460 : decode cX6_reckon 460 = .ok (.lload 9, 2) := by decide +kernel
theorem dX6_reckon_462 : decode cX6_reckon 462 = .ok (.lcmp, 1) := by decide +kernel
theorem dX6_reckon_463 : decode cX6_reckon 463 = .ok (.ifCond .le 7, 3) := by decide +kernel
theorem dX6_reckon_466 : decode cX6_reckon 466 = .ok (.lconst 1, 1) := by decide +kernel
theorem dX6_reckon_467 : decode cX6_reckon 467 = .ok (.goto 4, 3) := by decide +kernel
theorem dX6_reckon_470 : decode cX6_reckon 470 = .ok (.lconst 0, 1) := by decide +kernel
theorem dX6_reckon_471 : decode cX6_reckon 471 = .ok (.lstore 11, 2) := by decide +kernel
theorem dX6_reckon_473 : decode cX6_reckon 473 = .ok (.goto 27, 3) := by decide +kernel
theorem dX6_reckon_476 : decode cX6_reckon 476 = .ok (.lload 7, 2) := by decide +kernel
theorem dX6_reckon_478 : decode cX6_reckon 478 = .ok (.lload 9, 2) := by decide +kernel
theorem dX6_reckon_480 : decode cX6_reckon 480 = .ok (.lcmp, 1) := by decide +kernel
theorem dX6_reckon_481 : decode cX6_reckon 481 = .ok (.ifCond .ne 7, 3) := by decide +kernel
theorem dX6_reckon_484 : decode cX6_reckon 484 = .ok (.lconst 1, 1) := by decide +kernel
theorem dX6_reckon_485 : decode cX6_reckon 485 = .ok (.goto 4, 3) := by decide +kernel
theorem dX6_reckon_488 : decode cX6_reckon 488 = .ok (.lconst 0, 1) := by decide +kernel
theorem dX6_reckon_489 : decode cX6_reckon 489 = .ok (.lstore 11, 2) := by decide +kernel
theorem dX6_reckon_491 : decode cX6_reckon 491 = .ok (.goto 9, 3) := by decide +kernel
theorem dX6_reckon_494 : decode cX6_reckon 494 = .ok (.lconst 1, 1) := by decide +kernel
theorem dX6_reckon_495 : decode cX6_reckon 495 = .ok (.lload 7, 2) := by decide +kernel
theorem dX6_reckon_497 : decode cX6_reckon 497 = .ok (.lsub, 1) := by decide +kernel
theorem dX6_reckon_498 : decode cX6_reckon 498 = .ok (.lstore 11, 2) := by decide +kernel
theorem dX6_reckon_500 : decode cX6_reckon 500 = .ok (.aload_n 0, 1) := by decide +kernel
theorem dX6_reckon_501 : decode cX6_reckon 501 = .ok (.lload 11, 2) := by decide +kernel
theorem dX6_reckon_503 : decode cX6_reckon 503 = .ok (.ldc2_w 75, 3) := by decide +kernel
theorem dX6_reckon_506 : decode cX6_reckon 506 = .ok (.lcmp, 1) := by decide +kernel
theorem dX6_reckon_507 : decode cX6_reckon 507 = .ok (.ifCond .gt 12, 3) := by decide +kernel
theorem dX6_reckon_510 : decode cX6_reckon 510 = .ok (.lload 11, 2) := by decide +kernel
theorem dX6_reckon_512 : decode cX6_reckon 512 = .ok (.ldc2_w 77, 3) := by decide +kernel
theorem dX6_reckon_515 : decode cX6_reckon 515 = .ok (.lcmp, 1) := by decide +kernel
theorem dX6_reckon_516 : decode cX6_reckon 516 = .ok (.ifCond .ge 7, 3) := by decide +kernel
theorem dX6_reckon_519 : decode cX6_reckon 519 = .ok (.iconst 1, 1) := by decide +kernel
theorem dX6_reckon_520 : decode cX6_reckon 520 = .ok (.goto 4, 3) := by decide +kernel
theorem dX6_reckon_523 : decode cX6_reckon 523 = .ok (.iconst 0, 1) := by decide +kernel
theorem dX6_reckon_524 : decode cX6_reckon 524 = .ok (.putfield 26, 3) := by decide +kernel
theorem dX6_reckon_527 : decode cX6_reckon 527 = .ok (.aload_n 0, 1) := by decide +kernel
theorem dX6_reckon_528 : decode cX6_reckon 528 = .ok (.getfield 9, 3) := by decide +kernel
theorem dX6_reckon_531 : decode cX6_reckon 531 = .ok (.iload 4, 2) := by decide +kernel
theorem dX6_reckon_533 : decode cX6_reckon 533 = .ok (.iconst 1, 1) := by decide +kernel
theorem dX6_reckon_534 : decode cX6_reckon 534 = .ok (.isub, 1) := by decide +kernel
theorem dX6_reckon_535 : decode cX6_reckon 535 = .ok (.lload 11, 2) := by decide +kernel
theorem dX6_reckon_537 : decode cX6_reckon 537 = .ok (.lastore, 1) := by decide +kernel
theorem dX6_reckon_538 : decode cX6_reckon 538 = .ok (.iinc 5 1, 3) := by decide +kernel
theorem dX6_reckon_541 : decode cX6_reckon 541 = .ok (.goto (-530), 3) := by decide +kernel
theorem dX6_reckon_544 : decode cX6_reckon 544 = .ok (.aload_n 0, 1) := by decide +kernel
theorem dX6_reckon_545 : decode cX6_reckon 545 = .ok (.getfield 9, 3) := by decide +kernel
theorem dX6_reckon_548 : decode cX6_reckon 548 = .ok (.iconst 0, 1) := by decide +kernel
theorem dX6_reckon_549 : decode cX6_reckon 549 = .ok (.laload, 1) := by decide +kernel
theorem dX6_reckon_550 : decode cX6_reckon 550 = .ok (.lreturn, 1) := by decide +kernel
theorem dX7_init_0 : decode cX7_init 0 = .ok (.aload_n 0, 1) := by decide +kernel
theorem dX7_init_1 : decode cX7_init 1 = .ok (.invokespecial 3, 3) := by decide +kernel
theorem dX7_init_4 : decode cX7_init 4 = .ok (.aload_n 0, 1) := by decide +kernel
theorem dX7_init_5 : decode cX7_init 5 = .ok (.new 9, 3) := by decide +kernel
theorem dX7_init_8 : decode cX7_init 8 = .ok (.dup, 1) := by decide +kernel
theorem dX7_init_9 : decode cX7_init 9 = .ok (.invokespecial 11, 3) := by decide +kernel
theorem dX7_init_12 : decode cX7_init 12 = .ok (.putfield 12, 3) := by decide +kernel
theorem dX7_init_15 : decode cX7_init 15 = .ok (.aload_n 0, 1) := by decide +kernel
theorem dX7_init_16 : decode cX7_init 16 = .ok (.sipush 1296, 3) := by decide +kernel
theorem dX7_init_19 : decode cX7_init 19 = .ok (.newarray .int, 2) := by decide +kernel
theorem dX7_init_21 : decode cX7_init 21 = .ok (.putfield 18, 3) := by decide +kernel
theorem dX7_init_24 : decode cX7_init 24 = .ok (.aload_n 0, 1) := by decide +kernel
theorem dX7_init_25 : decode cX7_init 25 = .ok (.sipush 1296, 3) := by decide +kernel
theorem dX7_init_28 : decode cX7_init 28 = .ok (.newarray .int, 2) := by decide +kernel
theorem dX7_init_30 : decode cX7_init 30 = .ok (.putfield 22, 3) := by decide +kernel
theorem dX7_init_33 : decode cX7_init 33 = .ok (.aload_n 0, 1) := by decide +kernel
theorem dX7_init_34 : decode cX7_init 34 = .ok (.sipush 1296, 3) := by decide +kernel
theorem dX7_init_37 : decode cX7_init 37 = .ok (.newarray .int, 2) := by decide +kernel
theorem dX7_init_39 : decode cX7_init 39 = .ok (.putfield 25, 3) := by decide +kernel
theorem dX7_init_42 : decode cX7_init 42 = .ok (.aload_n 0, 1) := by decide +kernel
theorem dX7_init_43 : decode cX7_init 43 = .ok (.bipush 9, 2) := by decide +kernel
theorem dX7_init_45 : decode cX7_init 45 = .ok (.newarray .int, 2) := by decide +kernel
theorem dX7_init_47 : decode cX7_init 47 = .ok (.putfield 28, 3) := by decide +kernel
theorem dX7_init_50 : decode cX7_init 50 = .ok (.aload_n 0, 1) := by decide +kernel
theorem dX7_init_51 : decode cX7_init 51 = .ok (.iconst 0, 1) := by decide +kernel
theorem dX7_init_52 : decode cX7_init 52 = .ok (.putfield 31, 3) := by decide +kernel
theorem dX7_init_55 : decode cX7_init 55 = .ok (.aload_n 0, 1) := by decide +kernel
theorem dX7_init_56 : decode cX7_init 56 = .ok (.iconst 0, 1) := by decide +kernel
theorem dX7_init_57 : decode cX7_init 57 = .ok (.putfield 35, 3) := by decide +kernel
theorem dX7_init_60 : decode cX7_init 60 = .ok (.return_, 1) := by decide +kernel
theorem dX7_prepare_0 : decode cX7_prepare 0 = .ok (.aload_n 0, 1) := by decide +kernel
theorem dX7_prepare_1 : decode cX7_prepare 1 = .ok (.aload_n 1, 1) := by decide +kernel
theorem dX7_prepare_2 : decode cX7_prepare 2 = .ok (.putfield 38, 3) := by decide +kernel
theorem dX7_prepare_5 : decode cX7_prepare 5 = .ok (.aload_n 0, 1) := by decide +kernel
theorem dX7_prepare_6 : decode cX7_prepare 6 = .ok (.aload_n 2, 1) := by decide +kernel
theorem dX7_prepare_7 : decode cX7_prepare 7 = .ok (.putfield 42, 3) := by decide +kernel
theorem dX7_prepare_10 : decode cX7_prepare 10 = .ok (.aload_n 0, 1) := by decide +kernel
theorem dX7_prepare_11 : decode cX7_prepare 11 = .ok (.aload_n 3, 1) := by decide +kernel
theorem dX7_prepare_12 : decode cX7_prepare 12 = .ok (.putfield 46, 3) := by decide +kernel
theorem dX7_prepare_15 : decode cX7_prepare 15 = .ok (.aload_n 0, 1) := by decide +kernel
theorem dX7_prepare_16 : decode cX7_prepare 16 = .ok (.aconst_null, 1) := by decide +kernel
theorem dX7_prepare_17 : decode cX7_prepare 17 = .ok (.putfield 50, 3) := by decide +kernel
theorem dX7_prepare_20 : decode cX7_prepare 20 = .ok (.aload_n 0, 1) := by decide +kernel
theorem dX7_prepare_21 : decode cX7_prepare 21 = .ok (.getfield 38, 3) := by decide +kernel
theorem dX7_prepare_24 : decode cX7_prepare 24 = .ok (.invokevirtual 54, 3) := by decide +kernel
theorem dX7_prepare_27 : decode cX7_prepare 27 = .ok (.aload_n 0, 1) := by decide +kernel
theorem dX7_prepare_28 : decode cX7_prepare 28 = .ok (.aload_n 0, 1) := by decide +kernel
theorem dX7_prepare_29 : decode cX7_prepare 29 = .ok (.getfield 38, 3) := by decide +kernel
theorem dX7_prepare_32 : decode cX7_prepare 32 = .ok (.invokevirtual 59, 3) := by decide +kernel
theorem dX7_prepare_35 : decode cX7_prepare 35 = .ok (.putfield 63, 3) := by decide +kernel
theorem dX7_prepare_38 : decode cX7_prepare 38 = .ok (.return_, 1) := by decide +kernel
theorem dX7_heed_0 : decode cX7_heed 0 = .ok (.aload_n 0, 1) := by decide +kernel
theorem dX7_heed_1 : decode cX7_heed 1 = .ok (.aload_n 1, 1) := by decide +kernel
theorem dX7_heed_2 : decode cX7_heed 2 = .ok (.putfield 50, 3) := by decide +kernel
theorem dX7_heed_5 : decode cX7_heed 5 = .ok (.iconst 0, 1) := by decide +kernel
theorem dX7_heed_6 : decode cX7_heed 6 = .ok (.istore_n 2, 1) := by decide +kernel
theorem dX7_heed_7 : decode cX7_heed 7 = .ok (.iload_n 2, 1) := by decide +kernel
theorem dX7_heed_8 : decode cX7_heed 8 = .ok (.aload_n 1, 1) := by decide +kernel
theorem dX7_heed_9 : decode cX7_heed 9 = .ok (.getfield 66, 3) := by decide +kernel
theorem dX7_heed_12 : decode cX7_heed 12 = .ok (.if_icmp .ge 88, 3) := by decide +kernel
theorem dX7_heed_15 : decode cX7_heed 15 = .ok (.aload_n 1, 1) := by decide +kernel
theorem dX7_heed_16 : decode cX7_heed 16 = .ok (.getfield 71, 3) := by decide +kernel
theorem dX7_heed_19 : decode cX7_heed 19 = .ok (.iload_n 2, 1) := by decide +kernel
theorem dX7_heed_20 : decode cX7_heed 20 = .ok (.iaload, 1) := by decide +kernel
theorem dX7_heed_21 : decode cX7_heed 21 = .ok (.aload_n 0, 1) := by decide +kernel
theorem dX7_heed_22 : decode cX7_heed 22 = .ok (.getfield 38, 3) := by decide +kernel
theorem dX7_heed_25 : decode cX7_heed 25 = .ok (.getfield 74, 3) := by decide +kernel
theorem dX7_heed_28 : decode cX7_heed 28 = .ok (.if_icmp .ge 19, 3) := by decide +kernel
theorem dX7_heed_31 : decode cX7_heed 31 = .ok (.aload_n 1, 1) := by decide +kernel
theorem dX7_heed_32 : decode cX7_heed 32 = .ok (.getfield 77, 3) := by decide +kernel
theorem dX7_heed_35 : decode cX7_heed 35 = .ok (.iload_n 2, 1) := by decide +kernel
theorem dX7_heed_36 : decode cX7_heed 36 = .ok (.iaload, 1) := by decide +kernel
theorem dX7_heed_37 : decode cX7_heed 37 = .ok (.aload_n 0, 1) := by decide +kernel
theorem dX7_heed_38 : decode cX7_heed 38 = .ok (.getfield 38, 3) := by decide +kernel
theorem dX7_heed_41 : decode cX7_heed 41 = .ok (.getfield 80, 3) := by decide +kernel
theorem dX7_heed_44 : decode cX7_heed 44 = .ok (.if_icmp .lt 5, 3) := by decide +kernel
theorem dX7_heed_47 : decode cX7_heed 47 = .ok (.iconst 0, 1) := by decide +kernel
theorem dX7_heed_48 : decode cX7_heed 48 = .ok (.ireturn, 1) := by decide +kernel
theorem dX7_heed_49 : decode cX7_heed 49 = .ok (.aload_n 0, 1) := by decide +kernel
theorem dX7_heed_50 : decode cX7_heed 50 = .ok (.getfield 38, 3) := by decide +kernel
theorem dX7_heed_53 : decode cX7_heed 53 = .ok (.aload_n 1, 1) := by decide +kernel
theorem dX7_heed_54 : decode cX7_heed 54 = .ok (.getfield 71, 3) := by decide +kernel
theorem dX7_heed_57 : decode cX7_heed 57 = .ok (.iload_n 2, 1) := by decide +kernel
theorem dX7_heed_58 : decode cX7_heed 58 = .ok (.iaload, 1) := by decide +kernel
theorem dX7_heed_59 : decode cX7_heed 59 = .ok (.aload_n 1, 1) := by decide +kernel
theorem dX7_heed_60 : decode cX7_heed 60 = .ok (.getfield 77, 3) := by decide +kernel
theorem dX7_heed_63 : decode cX7_heed 63 = .ok (.iload_n 2, 1) := by decide +kernel
theorem dX7_heed_64 : decode cX7_heed 64 = .ok (.iaload, 1) := by decide +kernel
theorem dX7_heed_65 : decode cX7_heed 65 = .ok (.invokevirtual 83, 3) := by decide +kernel
theorem dX7_heed_68 : decode cX7_heed 68 = .ok (.istore_n 3, 1) := by decide +kernel
theorem dX7_heed_69 : decode cX7_heed 69 = .ok (.iload_n 3, 1) := by decide +kernel
theorem dX7_heed_70 : decode cX7_heed 70 = .ok (.iconst (-1), 1) := by decide +kernel
theorem dX7_heed_71 : decode cX7_heed 71 = .ok (.if_icmp .eq 23, 3) := by decide +kernel
theorem dX7_heed_74 : decode cX7_heed 74 = .ok (.aload_n 0, 1) := by decide +kernel
theorem dX7_heed_75 : decode cX7_heed 75 = .ok (.getfield 38, 3) := by decide +kernel
theorem dX7_heed_78 : decode cX7_heed 78 = .ok (.getfield 87, 3) := by decide +kernel
theorem dX7_heed_81 : decode cX7_heed 81 = .ok (.iload_n 3, 1) := by decide +kernel
theorem dX7_heed_82 : decode cX7_heed 82 = .ok (.iaload, 1) := by decide +kernel
theorem dX7_heed_83 : decode cX7_heed 83 = .ok (.aload_n 1, 1) := by decide +kernel
theorem dX7_heed_84 : decode cX7_heed 84 = .ok (.getfield 90, 3) := by decide +kernel
theorem dX7_heed_87 : decode cX7_heed 87 = .ok (.iload_n 2, 1) := by decide +kernel
theorem dX7_heed_88 : decode cX7_heed 88 = .ok (.iaload, 1) := by decide +kernel
theorem dX7_heed_89 : decode cX7_heed 89 = .ok (.if_icmp .eq 5, 3) := by decide +kernel
theorem dX7_heed_92 : decode cX7_heed 92 = .ok (.iconst 0, 1) := by decide +kernel
theorem dX7_heed_93 : decode cX7_heed 93 = .ok (.ireturn, 1) := by decide +kernel
theorem dX7_heed_94 : decode cX7_heed 94 = .ok (.iinc 2 1, 3) := by decide +kernel
theorem dX7_heed_97 : decode cX7_heed 97 = .ok (.goto (-90), 3) := by decide +kernel
theorem dX7_heed_100 : decode cX7_heed 100 = .ok (.iconst 1, 1) := by decide +kernel
theorem dX7_heed_101 : decode cX7_heed 101 = .ok (.ireturn, 1) := by decide +kernel
theorem dX7_number_0 : decode cX7_number 0 = .ok (.aload_n 0, 1) := by decide +kernel
theorem dX7_number_1 : decode cX7_number 1 = .ok (.iconst 0, 1) := by decide +kernel
theorem dX7_number_2 : decode cX7_number 2 = .ok (.iload_n 1, 1) := by decide +kernel
theorem dX7_number_3 : decode cX7_number 3 = .ok (.invokevirtual 93, 3) := by decide +kernel
theorem dX7_number_6 : decode cX7_number 6 = .ok (.aload_n 0, 1) := by decide +kernel
theorem dX7_number_7 : decode cX7_number 7 = .ok (.invokevirtual 97, 3) := by decide +kernel
theorem dX7_number_10 : decode cX7_number 10 = .ok (.aload_n 0, 1) := by decide +kernel
theorem dX7_number_11 : decode cX7_number 11 = .ok (.getfield 63, 3) := by decide +kernel
theorem dX7_number_14 : decode cX7_number 14 = .ok (.if_icmp .ge 7, 3) := by decide +kernel
theorem dX7_number_17 : decode cX7_number 17 = .ok (.iconst 0, 1) := by decide +kernel
theorem dX7_number_18 : decode cX7_number 18 = .ok (.goto 14, 3) := by decide +kernel
theorem dX7_number_21 : decode cX7_number 21 = .ok (.aload_n 0, 1) := by decide +kernel
theorem dX7_number_22 : decode cX7_number 22 = .ok (.lconst 0, 1) := by decide +kernel
theorem dX7_number_23 : decode cX7_number 23 = .ok (.aload_n 0, 1) := by decide +kernel
theorem dX7_number_24 : decode cX7_number 24 = .ok (.getfield 63, 3) := by decide +kernel
theorem dX7_number_27 : decode cX7_number 27 = .ok (.iconst 0, 1) := by decide +kernel
theorem dX7_number_28 : decode cX7_number 28 = .ok (.iconst 0, 1) := by decide +kernel
theorem dX7_number_29 : decode cX7_number 29 = .ok (.invokevirtual 100, 3) := by decide +kernel
theorem dX7_number_32 : decode cX7_number 32 = .ok (.ireturn, 1) := by decide +kernel
theorem dX7_leastCost_0 : decode cX7_leastCost 0 = .ok (.aload_n 0, 1) := by decide +kernel
theorem dX7_leastCost_1 : decode cX7_leastCost 1 = .ok (.iconst 1, 1) := by decide +kernel
theorem dX7_leastCost_2 : decode cX7_leastCost 2 = .ok (.iconst 1, 1) := by decide +kernel
theorem dX7_leastCost_3 : decode cX7_leastCost 3 = .ok (.invokevirtual 93, 3) := by decide +kernel
theorem dX7_leastCost_6 : decode cX7_leastCost 6 = .ok (.aload_n 0, 1) := by decide +kernel
theorem dX7_leastCost_7 : decode cX7_leastCost 7 = .ok (.invokevirtual 97, 3) := by decide +kernel
theorem dX7_leastCost_10 : decode cX7_leastCost 10 = .ok (.aload_n 0, 1) := by decide +kernel
theorem dX7_leastCost_11 : decode cX7_leastCost 11 = .ok (.getfield 63, 3) := by decide +kernel
theorem dX7_leastCost_14 : decode cX7_leastCost 14 = .ok (.if_icmp .ge 7, 3) := by decide +kernel
theorem dX7_leastCost_17 : decode cX7_leastCost 17 = .ok (.iconst (-1), 1) := by decide +kernel
theorem dX7_leastCost_18 : decode cX7_leastCost 18 = .ok (.goto 14, 3) := by decide +kernel
theorem dX7_leastCost_21 : decode cX7_leastCost 21 = .ok (.aload_n 0, 1) := by decide +kernel
theorem dX7_leastCost_22 : decode cX7_leastCost 22 = .ok (.lconst 0, 1) := by decide +kernel
theorem dX7_leastCost_23 : decode cX7_leastCost 23 = .ok (.aload_n 0, 1) := by decide +kernel
theorem dX7_leastCost_24 : decode cX7_leastCost 24 = .ok (.getfield 63, 3) := by decide +kernel
theorem dX7_leastCost_27 : decode cX7_leastCost 27 = .ok (.iconst 0, 1) := by decide +kernel
theorem dX7_leastCost_28 : decode cX7_leastCost 28 = .ok (.iconst 0, 1) := by decide +kernel
theorem dX7_leastCost_29 : decode cX7_leastCost 29 = .ok (.invokevirtual 100, 3) := by decide +kernel
theorem dX7_leastCost_32 : decode cX7_leastCost 32 = .ok (.ireturn, 1) := by decide +kernel
theorem dX7_rowLength_0 : decode cX7_rowLength 0 = .ok (.aload_n 0, 1) := by decide +kernel
theorem dX7_rowLength_1 : decode cX7_rowLength 1 = .ok (.getfield 31, 3) := by decide +kernel
theorem dX7_rowLength_4 : decode cX7_rowLength 4 = .ok (.ireturn, 1) := by decide +kernel
theorem dX7_rowCarpet_0 : decode cX7_rowCarpet 0 = .ok (.iload_n 1, 1) := by decide +kernel
theorem dX7_rowCarpet_1 : decode cX7_rowCarpet 1 = .ok (.ifCond .lt 29, 3) := by decide +kernel
theorem dX7_rowCarpet_4 : decode cX7_rowCarpet 4 = .ok (.iload_n 1, 1) := by decide +kernel
theorem dX7_rowCarpet_5 : decode cX7_rowCarpet 5 = .ok (.aload_n 0, 1) := by decide +kernel
theorem dX7_rowCarpet_6 : decode cX7_rowCarpet 6 = .ok (.getfield 31, 3) := by decide +kernel
theorem dX7_rowCarpet_9 : decode cX7_rowCarpet 9 = .ok (.if_icmp .ge 21, 3) := by decide +kernel
theorem dX7_rowCarpet_12 : decode cX7_rowCarpet 12 = .ok (.iload_n 1, 1) := by decide +kernel
theorem dX7_rowCarpet_13 : decode cX7_rowCarpet 13 = .ok (.aload_n 0, 1) := by decide +kernel
theorem dX7_rowCarpet_14 : decode cX7_rowCarpet 14 = .ok (.getfield 28, 3) := by decide +kernel
theorem dX7_rowCarpet_17 : decode cX7_rowCarpet 17 = .ok (.arraylength, 1) := by decide +kernel
theorem dX7_rowCarpet_18 : decode cX7_rowCarpet 18 = .ok (.if_icmp .ge 12, 3) := by decide +kernel
theorem dX7_rowCarpet_21 : decode cX7_rowCarpet 21 = .ok (.aload_n 0, 1) := by decide +kernel
theorem dX7_rowCarpet_22 : decode cX7_rowCarpet 22 = .ok (.getfield 28, 3) := by decide +kernel
theorem dX7_rowCarpet_25 : decode cX7_rowCarpet 25 = .ok (.iload_n 1, 1) := by decide +kernel
theorem dX7_rowCarpet_26 : decode cX7_rowCarpet 26 = .ok (.iaload, 1) := by decide +kernel
theorem dX7_rowCarpet_27 : decode cX7_rowCarpet 27 = .ok (.goto 4, 3) := by decide +kernel
theorem dX7_rowCarpet_30 : decode cX7_rowCarpet 30 = .ok (.iconst (-1), 1) := by decide +kernel
theorem dX7_rowCarpet_31 : decode cX7_rowCarpet 31 = .ok (.ireturn, 1) := by decide +kernel
theorem dX7_fillsAlone_0 : decode cX7_fillsAlone 0 = .ok (.aload_n 0, 1) := by decide +kernel
theorem dX7_fillsAlone_1 : decode cX7_fillsAlone 1 = .ok (.lconst 0, 1) := by decide +kernel
theorem dX7_fillsAlone_2 : decode cX7_fillsAlone 2 = .ok (.iconst 0, 1) := by decide +kernel
theorem dX7_fillsAlone_3 : decode cX7_fillsAlone 3 = .ok (.invokevirtual 104, 3) := by decide +kernel
theorem dX7_fillsAlone_6 : decode cX7_fillsAlone 6 = .ok (.istore_n 2, 1) := by decide +kernel
theorem dX7_fillsAlone_7 : decode cX7_fillsAlone 7 = .ok (.aload_n 0, 1) := by decide +kernel
theorem dX7_fillsAlone_8 : decode cX7_fillsAlone 8 = .ok (.getfield 38, 3) := by decide +kernel
theorem dX7_fillsAlone_11 : decode cX7_fillsAlone 11 = .ok (.getfield 87, 3) := by decide +kernel
theorem dX7_fillsAlone_14 : decode cX7_fillsAlone 14 = .ok (.iload_n 1, 1) := by decide +kernel
theorem dX7_fillsAlone_15 : decode cX7_fillsAlone 15 = .ok (.iaload, 1) := by decide +kernel
theorem dX7_fillsAlone_16 : decode cX7_fillsAlone 16 = .ok (.aload_n 0, 1) := by decide +kernel
theorem dX7_fillsAlone_17 : decode cX7_fillsAlone 17 = .ok (.getfield 38, 3) := by decide +kernel
theorem dX7_fillsAlone_20 : decode cX7_fillsAlone 20 = .ok (.getfield 87, 3) := by decide +kernel
theorem dX7_fillsAlone_23 : decode cX7_fillsAlone 23 = .ok (.iload_n 1, 1) := by decide +kernel
theorem dX7_fillsAlone_24 : decode cX7_fillsAlone 24 = .ok (.iaload, 1) := by decide +kernel
theorem dX7_fillsAlone_25 : decode cX7_fillsAlone 25 = .ok (.imul, 1) := by decide +kernel
theorem dX7_fillsAlone_26 : decode cX7_fillsAlone 26 = .ok (.aload_n 0, 1) := by decide +kernel
theorem dX7_fillsAlone_27 : decode cX7_fillsAlone 27 = .ok (.getfield 63, 3) := by decide +kernel
theorem dX7_fillsAlone_30 : decode cX7_fillsAlone 30 = .ok (.if_icmp .ne 27, 3) := by decide +kernel
theorem dX7_fillsAlone_33 : decode cX7_fillsAlone 33 = .ok (.aload_n 0, 1) := by decide +kernel
theorem dX7_fillsAlone_34 : decode cX7_fillsAlone 34 = .ok (.lconst 0, 1) := by decide +kernel
theorem dX7_fillsAlone_35 : decode cX7_fillsAlone 35 = .ok (.iload_n 1, 1) := by decide +kernel
theorem dX7_fillsAlone_36 : decode cX7_fillsAlone 36 = .ok (.iload_n 2, 1) := by decide +kernel
theorem dX7_fillsAlone_37 : decode cX7_fillsAlone 37 = .ok (.invokevirtual 108, 3) := by decide +kernel
theorem dX7_fillsAlone_40 : decode cX7_fillsAlone 40 = .ok (.ifCond .eq 17, 3) := by decide +kernel
theorem dX7_fillsAlone_43 : decode cX7_fillsAlone 43 = .ok (.aload_n 0, 1) := by decide +kernel
theorem dX7_fillsAlone_44 : decode cX7_fillsAlone 44 = .ok (.iload_n 1, 1) := by decide +kernel
theorem dX7_fillsAlone_45 : decode cX7_fillsAlone 45 = .ok (.iload_n 2, 1) := by decide +kernel
theorem dX7_fillsAlone_46 : decode cX7_fillsAlone 46 = .ok (.invokevirtual 112, 3) := by decide +kernel
theorem dX7_fillsAlone_49 : decode cX7_fillsAlone 49 = .ok (.iconst (-1), 1) := by decide +kernel
theorem dX7_fillsAlone_50 : decode cX7_fillsAlone 50 = .ok (.if_icmp .eq 7, 3) := by decide +kernel
theorem dX7_fillsAlone_53 : decode cX7_fillsAlone 53 = .ok (.iconst 1, 1) := by decide +kernel
theorem dX7_fillsAlone_54 : decode cX7_fillsAlone 54 = .ok (.goto 4, 3) := by decide +kernel
theorem dX7_fillsAlone_57 : decode cX7_fillsAlone 57 = .ok (.iconst 0, 1) := by decide +kernel
theorem dX7_fillsAlone_58 : decode cX7_fillsAlone 58 = .ok (.ireturn, 1) := by decide +kernel
theorem dX7_bestLook_0 : decode cX7_bestLook 0 = .ok (.iconst (-1), 1) := by decide +kernel
theorem dX7_bestLook_1 : decode cX7_bestLook 1 = .ok (.istore_n 1, 1) := by decide +kernel
theorem dX7_bestLook_2 : decode cX7_bestLook 2 = .ok (.iconst 0, 1) := by decide +kernel
theorem dX7_bestLook_3 : decode cX7_bestLook 3 = .ok (.istore_n 2, 1) := by decide +kernel
theorem dX7_bestLook_4 : decode cX7_bestLook 4 = .ok (.iload_n 2, 1) := by decide +kernel
theorem dX7_bestLook_5 : decode cX7_bestLook 5 = .ok (.sipush 144, 3) := by decide +kernel
theorem dX7_bestLook_8 : decode cX7_bestLook 8 = .ok (.if_icmp .ge 38, 3) := by decide +kernel
theorem dX7_bestLook_11 : decode cX7_bestLook 11 = .ok (.aload_n 0, 1) := by decide +kernel
theorem dX7_bestLook_12 : decode cX7_bestLook 12 = .ok (.lconst 0, 1) := by decide +kernel
theorem dX7_bestLook_13 : decode cX7_bestLook 13 = .ok (.iload_n 2, 1) := by decide +kernel
theorem dX7_bestLook_14 : decode cX7_bestLook 14 = .ok (.invokevirtual 115, 3) := by decide +kernel
theorem dX7_bestLook_17 : decode cX7_bestLook 17 = .ok (.ifCond .eq 23, 3) := by decide +kernel
theorem dX7_bestLook_20 : decode cX7_bestLook 20 = .ok (.iload_n 1, 1) := by decide +kernel
theorem dX7_bestLook_21 : decode cX7_bestLook 21 = .ok (.iconst (-1), 1) := by decide +kernel
theorem dX7_bestLook_22 : decode cX7_bestLook 22 = .ok (.if_icmp .eq 16, 3) := by decide +kernel
theorem dX7_bestLook_25 : decode cX7_bestLook 25 = .ok (.aload_n 0, 1) := by decide +kernel
theorem dX7_bestLook_26 : decode cX7_bestLook 26 = .ok (.iload_n 2, 1) := by decide +kernel
theorem dX7_bestLook_27 : decode cX7_bestLook 27 = .ok (.invokevirtual 119, 3) := by decide +kernel
theorem dX7_bestLook_30 : decode cX7_bestLook 30 = .ok (.aload_n 0, 1) := by decide +kernel
theorem dX7_bestLook_31 : decode cX7_bestLook 31 = .ok (.iload_n 1, 1) := by decide +kernel
theorem dX7_bestLook_32 : decode cX7_bestLook 32 = .ok (.invokevirtual 119, 3) := by decide +kernel
theorem dX7_bestLook_35 : decode cX7_bestLook 35 = .ok (.if_icmp .ge 5, 3) := by decide +kernel
theorem dX7_bestLook_38 : decode cX7_bestLook 38 = .ok (.iload_n 2, 1) := by decide +kernel
theorem dX7_bestLook_39 : decode cX7_bestLook 39 = .ok (.istore_n 1, 1) := by decide +kernel
theorem dX7_bestLook_40 : decode cX7_bestLook 40 = .ok (.iinc 2 1, 3) := by decide +kernel
theorem dX7_bestLook_43 : decode cX7_bestLook 43 = .ok (.goto (-39), 3) := by decide +kernel
theorem dX7_bestLook_46 : decode cX7_bestLook 46 = .ok (.iload_n 1, 1) := by decide +kernel
theorem dX7_bestLook_47 : decode cX7_bestLook 47 = .ok (.ireturn, 1) := by decide +kernel
theorem dX7_mostAt_0 : decode cX7_mostAt 0 = .ok (.iconst 0, 1) := by decide +kernel
theorem dX7_mostAt_1 : decode cX7_mostAt 1 = .ok (.istore_n 2, 1) := by decide +kernel
theorem dX7_mostAt_2 : decode cX7_mostAt 2 = .ok (.iconst 0, 1) := by decide +kernel
theorem dX7_mostAt_3 : decode cX7_mostAt 3 = .ok (.istore_n 3, 1) := by decide +kernel
theorem dX7_mostAt_4 : decode cX7_mostAt 4 = .ok (.iload_n 3, 1) := by decide +kernel
theorem dX7_mostAt_5 : decode cX7_mostAt 5 = .ok (.aload_n 0, 1) := by decide +kernel
theorem dX7_mostAt_6 : decode cX7_mostAt 6 = .ok (.getfield 38, 3) := by decide +kernel
theorem dX7_mostAt_9 : decode cX7_mostAt 9 = .ok (.getfield 123, 3) := by decide +kernel
theorem dX7_mostAt_12 : decode cX7_mostAt 12 = .ok (.if_icmp .ge 37, 3) := by decide +kernel
theorem dX7_mostAt_15 : decode cX7_mostAt 15 = .ok (.iload_n 1, 1) := by decide +kernel
theorem dX7_mostAt_16 : decode cX7_mostAt 16 = .ok (.ifCond .lt 33, 3) := by decide +kernel
theorem dX7_mostAt_19 : decode cX7_mostAt 19 = .ok (.iload_n 1, 1) := by decide +kernel
theorem dX7_mostAt_20 : decode cX7_mostAt 20 = .ok (.sipush 144, 3) := by decide +kernel
theorem dX7_mostAt_23 : decode cX7_mostAt 23 = .ok (.if_icmp .ge 26, 3) := by decide +kernel
theorem dX7_mostAt_26 : decode cX7_mostAt 26 = .ok (.iload_n 2, 1) := by decide +kernel
theorem dX7_mostAt_27 : decode cX7_mostAt 27 = .ok (.aload_n 0, 1) := by decide +kernel
theorem dX7_mostAt_28 : decode cX7_mostAt 28 = .ok (.getfield 25, 3) := by decide +kernel
theorem dX7_mostAt_31 : decode cX7_mostAt 31 = .ok (.iload_n 3, 1) := by decide +kernel
theorem dX7_mostAt_32 : decode cX7_mostAt 32 = .ok (.sipush 144, 3) := by decide +kernel
theorem dX7_mostAt_35 : decode cX7_mostAt 35 = .ok (.imul, 1) := by decide +kernel
theorem dX7_mostAt_36 : decode cX7_mostAt 36 = .ok (.iload_n 1, 1) := by decide +kernel
theorem dX7_mostAt_37 : decode cX7_mostAt 37 = .ok (.iadd, 1) := by decide +kernel
theorem dX7_mostAt_38 : decode cX7_mostAt 38 = .ok (.iaload, 1) := by decide +kernel
theorem dX7_mostAt_39 : decode cX7_mostAt 39 = .ok (.invokestatic 126, 3) := by decide +kernel
theorem dX7_mostAt_42 : decode cX7_mostAt 42 = .ok (.istore_n 2, 1) := by decide +kernel
theorem dX7_mostAt_43 : decode cX7_mostAt 43 = .ok (.iinc 3 1, 3) := by decide +kernel
theorem dX7_mostAt_46 : decode cX7_mostAt 46 = .ok (.goto (-42), 3) := by decide +kernel
theorem dX7_mostAt_49 : decode cX7_mostAt 49 = .ok (.iload_n 2, 1) := by decide +kernel
theorem dX7_mostAt_50 : decode cX7_mostAt 50 = .ok (.ireturn, 1) := by decide +kernel
theorem dX7_begin_0 : decode cX7_begin 0 = .ok (.aload_n 0, 1) := by decide +kernel
theorem dX7_begin_1 : decode cX7_begin 1 = .ok (.iload_n 1, 1) := by decide +kernel
theorem dX7_begin_2 : decode cX7_begin 2 = .ok (.putfield 131, 3) := by decide +kernel
theorem dX7_begin_5 : decode cX7_begin 5 = .ok (.aload_n 0, 1) := by decide +kernel
theorem dX7_begin_6 : decode cX7_begin 6 = .ok (.iload_n 2, 1) := by decide +kernel
theorem dX7_begin_7 : decode cX7_begin 7 = .ok (.putfield 135, 3) := by decide +kernel
theorem dX7_begin_10 : decode cX7_begin 10 = .ok (.aload_n 0, 1) := by decide +kernel
theorem dX7_begin_11 : decode cX7_begin 11 = .ok (.getfield 12, 3) := by decide +kernel
theorem dX7_begin_14 : decode cX7_begin 14 = .ok (.invokevirtual 138, 3) := by decide +kernel
theorem dX7_begin_17 : decode cX7_begin 17 = .ok (.aload_n 0, 1) := by decide +kernel
theorem dX7_begin_18 : decode cX7_begin 18 = .ok (.dup, 1) := by decide +kernel
theorem dX7_begin_19 : decode cX7_begin 19 = .ok (.getfield 35, 3) := by decide +kernel
theorem dX7_begin_22 : decode cX7_begin 22 = .ok (.iconst 1, 1) := by decide +kernel
theorem dX7_begin_23 : decode cX7_begin 23 = .ok (.iadd, 1) := by decide +kernel
theorem dX7_begin_24 : decode cX7_begin 24 = .ok (.putfield 35, 3) := by decide +kernel
theorem dX7_begin_27 : decode cX7_begin 27 = .ok (.aload_n 0, 1) := by decide +kernel
theorem dX7_begin_28 : decode cX7_begin 28 = .ok (.iconst 0, 1) := by decide +kernel
theorem dX7_begin_29 : decode cX7_begin 29 = .ok (.putfield 31, 3) := by decide +kernel
theorem dX7_begin_32 : decode cX7_begin 32 = .ok (.return_, 1) := by decide +kernel
theorem dX7_areaReady_0 : decode cX7_areaReady 0 = .ok (.iconst 0, 1) := by decide +kernel
theorem dX7_areaReady_1 : decode cX7_areaReady 1 = .ok (.istore_n 1, 1) := by decide +kernel
theorem dX7_areaReady_2 : decode cX7_areaReady 2 = .ok (.iconst 0, 1) := by decide +kernel
theorem dX7_areaReady_3 : decode cX7_areaReady 3 = .ok (.istore_n 2, 1) := by decide +kernel
theorem dX7_areaReady_4 : decode cX7_areaReady 4 = .ok (.iload_n 2, 1) := by decide +kernel
theorem dX7_areaReady_5 : decode cX7_areaReady 5 = .ok (.aload_n 0, 1) := by decide +kernel
theorem dX7_areaReady_6 : decode cX7_areaReady 6 = .ok (.getfield 38, 3) := by decide +kernel
theorem dX7_areaReady_9 : decode cX7_areaReady 9 = .ok (.getfield 123, 3) := by decide +kernel
theorem dX7_areaReady_12 : decode cX7_areaReady 12 = .ok (.if_icmp .ge 46, 3) := by decide +kernel
theorem dX7_areaReady_15 : decode cX7_areaReady 15 = .ok (.iload_n 1, 1) := by decide +kernel
theorem dX7_areaReady_16 : decode cX7_areaReady 16 = .ok (.aload_n 0, 1) := by decide +kernel
theorem dX7_areaReady_17 : decode cX7_areaReady 17 = .ok (.getfield 38, 3) := by decide +kernel
theorem dX7_areaReady_20 : decode cX7_areaReady 20 = .ok (.iload_n 2, 1) := by decide +kernel
theorem dX7_areaReady_21 : decode cX7_areaReady 21 = .ok (.invokevirtual 141, 3) := by decide +kernel
theorem dX7_areaReady_24 : decode cX7_areaReady 24 = .ok (.ifCond .eq 25, 3) := by decide +kernel
theorem dX7_areaReady_27 : decode cX7_areaReady 27 = .ok (.aload_n 0, 1) := by decide +kernel
theorem dX7_areaReady_28 : decode cX7_areaReady 28 = .ok (.getfield 38, 3) := by decide +kernel
theorem dX7_areaReady_31 : decode cX7_areaReady 31 = .ok (.getfield 87, 3) := by decide +kernel
theorem dX7_areaReady_34 : decode cX7_areaReady 34 = .ok (.iload_n 2, 1) := by decide +kernel
theorem dX7_areaReady_35 : decode cX7_areaReady 35 = .ok (.iaload, 1) := by decide +kernel
theorem dX7_areaReady_36 : decode cX7_areaReady 36 = .ok (.aload_n 0, 1) := by decide +kernel
theorem dX7_areaReady_37 : decode cX7_areaReady 37 = .ok (.getfield 38, 3) := by decide +kernel
theorem dX7_areaReady_40 : decode cX7_areaReady 40 = .ok (.getfield 87, 3) := by decide +kernel
theorem dX7_areaReady_43 : decode cX7_areaReady 43 = .ok (.iload_n 2, 1) := by decide +kernel
theorem dX7_areaReady_44 : decode cX7_areaReady 44 = .ok (.iaload, 1) := by decide +kernel
theorem dX7_areaReady_45 : decode cX7_areaReady 45 = .ok (.imul, 1) := by decide +kernel
theorem dX7_areaReady_46 : decode cX7_areaReady 46 = .ok (.goto 4, 3) := by decide +kernel
theorem dX7_areaReady_49 : decode cX7_areaReady 49 = .ok (.iconst 0, 1) := by decide +kernel
theorem dX7_areaReady_50 : decode cX7_areaReady 50 = .ok (.iadd, 1) := by decide +kernel
theorem dX7_areaReady_51 : decode cX7_areaReady 51 = .ok (.istore_n 1, 1) := by decide +kernel
theorem dX7_areaReady_52 : decode cX7_areaReady 52 = .ok (.iinc 2 1, 3) := by decide +kernel
theorem dX7_areaReady_55 : decode cX7_areaReady 55 = .ok (.goto (-51), 3) := by decide +kernel
theorem dX7_areaReady_58 : decode cX7_areaReady 58 = .ok (.iload_n 1, 1) := by decide +kernel
theorem dX7_areaReady_59 : decode cX7_areaReady 59 = .ok (.ireturn, 1) := by decide +kernel
theorem dX7_solve_0 : decode cX7_solve 0 = .ok (.iload_n 3, 1) := by decide +kernel
theorem dX7_solve_1 : decode cX7_solve 1 = .ok (.ifCond .ne 22, 3) := by decide +kernel
theorem dX7_solve_4 : decode cX7_solve 4 = .ok (.aload_n 0, 1) := by decide +kernel
theorem dX7_solve_5 : decode cX7_solve 5 = .ok (.iload 5, 2) := by decide +kernel
theorem dX7_solve_7 : decode cX7_solve 7 = .ok (.putfield 31, 3) := by decide +kernel
theorem dX7_solve_10 : decode cX7_solve 10 = .ok (.aload_n 0, 1) := by decide +kernel
theorem dX7_solve_11 : decode cX7_solve 11 = .ok (.getfield 131, 3) := by decide +kernel
theorem dX7_solve_14 : decode cX7_solve 14 = .ok (.ifCond .eq 7, 3) := by decide +kernel
theorem dX7_solve_17 : decode cX7_solve 17 = .ok (.iconst 0, 1) := by decide +kernel
theorem dX7_solve_18 : decode cX7_solve 18 = .ok (.goto 4, 3) := by decide +kernel
theorem dX7_solve_21 : decode cX7_solve 21 = .ok (.iconst 1, 1) := by decide +kernel
theorem dX7_solve_22 : decode cX7_solve 22 = .ok (.ireturn, 1) := by decide +kernel
theorem dX7_solve_23 : decode cX7_solve 23 = .ok (.aload_n 0, 1) := by decide +kernel
theorem dX7_solve_24 : decode cX7_solve 24 = .ok (.getfield 12, 3) := by decide +kernel
theorem dX7_solve_27 : decode cX7_solve 27 = .ok (.lload_n 1, 1) := by decide +kernel
theorem dX7_solve_28 : decode cX7_solve 28 = .ok (.invokevirtual 145, 3) := by decide +kernel
theorem dX7_solve_31 : decode cX7_solve 31 = .ok (.istore 6, 2) := by decide +kernel
theorem dX7_solve_33 : decode cX7_solve 33 = .ok (.iload 6, 2) := by decide +kernel
theorem dX7_solve_35 : decode cX7_solve 35 = .ok (.iconst (-1), 1) := by decide +kernel
theorem dX7_solve_36 : decode cX7_solve 36 = .ok (.if_icmp .eq 13, 3) := by decide +kernel
theorem dX7_solve_39 : decode cX7_solve 39 = .ok (.aload_n 0, 1) := by decide +kernel
theorem dX7_solve_40 : decode cX7_solve 40 = .ok (.getfield 12, 3) := by decide +kernel
theorem dX7_solve_43 : decode cX7_solve 43 = .ok (.iload 6, 2) := by decide +kernel
theorem dX7_solve_45 : decode cX7_solve 45 = .ok (.invokevirtual 149, 3) := by decide +kernel
theorem dX7_solve_48 : decode cX7_solve 48 = .ok (.ireturn, 1) := by decide +kernel
theorem dX7_solve_49 : decode cX7_solve 49 = .ok (.aload_n 0, 1) := by decide +kernel
theorem dX7_solve_50 : decode cX7_solve 50 = .ok (.lload_n 1, 1) := by decide +kernel
theorem dX7_solve_51 : decode cX7_solve 51 = .ok (.iload 4, 2) := by decide +kernel
theorem dX7_solve_53 : decode cX7_solve 53 = .ok (.invokevirtual 104, 3) := by decide +kernel
theorem dX7_solve_56 : decode cX7_solve 56 = .ok (.istore 7, 2) := by decide +kernel
theorem dX7_solve_58 : decode cX7_solve 58 = .ok (.aload_n 0, 1) := by decide +kernel
theorem dX7_solve_59 : decode cX7_solve 59 = .ok (.getfield 131, 3) := by decide +kernel
theorem dX7_solve_62 : decode cX7_solve 62 = .ok (.ifCond .eq 7, 3) := by decide +kernel
theorem dX7_solve_65 : decode cX7_solve 65 = .ok (.iconst (-1), 1) := by decide +kernel
theorem dX7_solve_66 : decode cX7_solve 66 = .ok (.goto 4, 3) := by decide +kernel
theorem dX7_solve_69 : decode cX7_solve 69 = .ok (.iconst 0, 1) := by decide +kernel
theorem dX7_solve_70 : decode cX7_solve 70 = .ok (.istore 8, 2) := by decide +kernel
theorem dX7_solve_72 : decode cX7_solve 72 = .ok (.iconst 0, 1) := by decide +kernel
theorem dX7_solve_73 : decode cX7_solve 73 = .ok (.istore 9, 2) := by decide +kernel
theorem dX7_solve_75 : decode cX7_solve 75 = .ok (.iload 9, 2) := by decide +kernel
theorem dX7_solve_77 : decode cX7_solve 77 = .ok (.aload_n 0, 1) := by decide +kernel
theorem dX7_solve_78 : decode cX7_solve 78 = .ok (.getfield 38, 3) := by decide +kernel
theorem dX7_solve_81 : decode cX7_solve 81 = .ok (.getfield 123, 3) := by decide +kernel
theorem dX7_solve_84 : decode cX7_solve 84 = .ok (.if_icmp .ge 144, 3) := by decide +kernel
theorem dX7_solve_87 : decode cX7_solve 87 = .ok (.iload 5, 2) := by decide +kernel
theorem dX7_solve_89 : decode cX7_solve 89 = .ok (.bipush 9, 2) := by decide +kernel
theorem dX7_solve_91 : decode cX7_solve 91 = .ok (.if_icmp .ge 137, 3) := by decide +kernel
theorem dX7_solve_94 : decode cX7_solve 94 = .ok (.aload_n 0, 1) := by decide +kernel
theorem dX7_solve_95 : decode cX7_solve 95 = .ok (.getfield 131, 3) := by decide +kernel
theorem dX7_solve_98 : decode cX7_solve 98 = .ok (.ifCond .ne 12, 3) := by decide +kernel
theorem dX7_solve_101 : decode cX7_solve 101 = .ok (.iload 8, 2) := by decide +kernel
theorem dX7_solve_103 : decode cX7_solve 103 = .ok (.aload_n 0, 1) := by decide +kernel
theorem dX7_solve_104 : decode cX7_solve 104 = .ok (.getfield 135, 3) := by decide +kernel
theorem dX7_solve_107 : decode cX7_solve 107 = .ok (.if_icmp .ge 121, 3) := by decide +kernel
theorem dX7_solve_110 : decode cX7_solve 110 = .ok (.aload_n 0, 1) := by decide +kernel
theorem dX7_solve_111 : decode cX7_solve 111 = .ok (.lload_n 1, 1) := by decide +kernel
theorem dX7_solve_112 : decode cX7_solve 112 = .ok (.iload 9, 2) := by decide +kernel
theorem dX7_solve_114 : decode cX7_solve 114 = .ok (.iload 7, 2) := by decide +kernel
theorem dX7_solve_116 : decode cX7_solve 116 = .ok (.invokevirtual 108, 3) := by decide +kernel
theorem dX7_solve_119 : decode cX7_solve 119 = .ok (.ifCond .eq 103, 3) := by decide +kernel
theorem dX7_solve_122 : decode cX7_solve 122 = .ok (.aload_n 0, 1) := by decide +kernel
theorem dX7_solve_123 : decode cX7_solve 123 = .ok (.iload 9, 2) := by decide +kernel
theorem dX7_solve_125 : decode cX7_solve 125 = .ok (.iload 7, 2) := by decide +kernel
theorem dX7_solve_127 : decode cX7_solve 127 = .ok (.invokevirtual 112, 3) := by decide +kernel
theorem dX7_solve_130 : decode cX7_solve 130 = .ok (.iconst (-1), 1) := by decide +kernel
theorem dX7_solve_131 : decode cX7_solve 131 = .ok (.if_icmp .ne 6, 3) := by decide +kernel
theorem dX7_solve_134 : decode cX7_solve 134 = .ok (.goto 88, 3) := by decide +kernel
theorem dX7_solve_137 : decode cX7_solve 137 = .ok (.aload_n 0, 1) := by decide +kernel
theorem dX7_solve_138 : decode cX7_solve 138 = .ok (.getfield 28, 3) := by decide +kernel
theorem dX7_solve_141 : decode cX7_solve 141 = .ok (.iload 5, 2) := by decide +kernel
theorem dX7_solve_143 : decode cX7_solve 143 = .ok (.iload 9, 2) := by decide +kernel
theorem dX7_solve_145 : decode cX7_solve 145 = .ok (.iastore, 1) := by decide +kernel
theorem dX7_solve_146 : decode cX7_solve 146 = .ok (.aload_n 0, 1) := by decide +kernel
theorem dX7_solve_147 : decode cX7_solve 147 = .ok (.aload_n 0, 1) := by decide +kernel
theorem dX7_solve_148 : decode cX7_solve 148 = .ok (.lload_n 1, 1) := by decide +kernel
theorem dX7_solve_149 : decode cX7_solve 149 = .ok (.iload 9, 2) := by decide +kernel
theorem dX7_solve_151 : decode cX7_solve 151 = .ok (.iload 7, 2) := by decide +kernel
theorem dX7_solve_153 : decode cX7_solve 153 = .ok (.invokevirtual 152, 3) := by decide +kernel
theorem dX7_solve_156 : decode cX7_solve 156 = .ok (.iload_n 3, 1) := by decide +kernel
theorem dX7_solve_157 : decode cX7_solve 157 = .ok (.aload_n 0, 1) := by decide +kernel
theorem dX7_solve_158 : decode cX7_solve 158 = .ok (.getfield 38, 3) := by decide +kernel
theorem dX7_solve_161 : decode cX7_solve 161 = .ok (.getfield 87, 3) := by decide +kernel
theorem dX7_solve_164 : decode cX7_solve 164 = .ok (.iload 9, 2) := by decide +kernel
theorem dX7_solve_166 : decode cX7_solve 166 = .ok (.iaload, 1) := by decide +kernel
theorem dX7_solve_167 : decode cX7_solve 167 = .ok (.aload_n 0, 1) := by decide +kernel
theorem dX7_solve_168 : decode cX7_solve 168 = .ok (.getfield 38, 3) := by decide +kernel
theorem dX7_solve_171 : decode cX7_solve 171 = .ok (.getfield 87, 3) := by decide +kernel
theorem dX7_solve_174 : decode cX7_solve 174 = .ok (.iload 9, 2) := by decide +kernel
theorem dX7_solve_176 : decode cX7_solve 176 = .ok (.iaload, 1) := by decide +kernel
theorem dX7_solve_177 : decode cX7_solve 177 = .ok (.imul, 1) := by decide +kernel
theorem dX7_solve_178 : decode cX7_solve 178 = .ok (.isub, 1) := by decide +kernel
theorem dX7_solve_179 : decode cX7_solve 179 = .ok (.iload 7, 2) := by decide +kernel
theorem dX7_solve_181 : decode cX7_solve 181 = .ok (.iload 5, 2) := by decide +kernel
theorem dX7_solve_183 : decode cX7_solve 183 = .ok (.iconst 1, 1) := by decide +kernel
theorem dX7_solve_184 : decode cX7_solve 184 = .ok (.iadd, 1) := by decide +kernel
theorem dX7_solve_185 : decode cX7_solve 185 = .ok (.invokevirtual 100, 3) := by decide +kernel
theorem dX7_solve_188 : decode cX7_solve 188 = .ok (.istore 10, 2) := by decide +kernel
theorem dX7_solve_190 : decode cX7_solve 190 = .ok (.aload_n 0, 1) := by decide +kernel
theorem dX7_solve_191 : decode cX7_solve 191 = .ok (.getfield 131, 3) := by decide +kernel
theorem dX7_solve_194 : decode cX7_solve 194 = .ok (.ifCond .eq 21, 3) := by decide +kernel
theorem dX7_solve_197 : decode cX7_solve 197 = .ok (.iload 8, 2) := by decide +kernel
theorem dX7_solve_199 : decode cX7_solve 199 = .ok (.iload 10, 2) := by decide +kernel
theorem dX7_solve_201 : decode cX7_solve 201 = .ok (.aload_n 0, 1) := by decide +kernel
theorem dX7_solve_202 : decode cX7_solve 202 = .ok (.iload 9, 2) := by decide +kernel
theorem dX7_solve_204 : decode cX7_solve 204 = .ok (.iload 7, 2) := by decide +kernel
theorem dX7_solve_206 : decode cX7_solve 206 = .ok (.invokevirtual 112, 3) := by decide +kernel
theorem dX7_solve_209 : decode cX7_solve 209 = .ok (.invokestatic 156, 3) := by decide +kernel
theorem dX7_solve_212 : decode cX7_solve 212 = .ok (.goto 8, 3) := by decide +kernel
theorem dX7_solve_215 : decode cX7_solve 215 = .ok (.iload 8, 2) := by decide +kernel
theorem dX7_solve_217 : decode cX7_solve 217 = .ok (.iload 10, 2) := by decide +kernel
theorem dX7_solve_219 : decode cX7_solve 219 = .ok (.iadd, 1) := by decide +kernel
theorem dX7_solve_220 : decode cX7_solve 220 = .ok (.istore 8, 2) := by decide +kernel
theorem dX7_solve_222 : decode cX7_solve 222 = .ok (.iinc 9 1, 3) := by decide +kernel
theorem dX7_solve_225 : decode cX7_solve 225 = .ok (.goto (-150), 3) := by decide +kernel
theorem dX7_solve_228 : decode cX7_solve 228 = .ok (.aload_n 0, 1) := by decide +kernel
theorem dX7_solve_229 : decode cX7_solve 229 = .ok (.getfield 12, 3) := by decide +kernel
theorem dX7_solve_232 : decode cX7_solve 232 = .ok (.lload_n 1, 1) := by decide +kernel
theorem dX7_solve_233 : decode cX7_solve 233 = .ok (.iload 8, 2) := by decide +kernel
theorem dX7_solve_235 : decode cX7_solve 235 = .ok (.invokevirtual 160, 3) := by decide +kernel
theorem dX7_solve_238 : decode cX7_solve 238 = .ok (.iload 8, 2) := by decide +kernel
theorem dX7_solve_240 : decode cX7_solve 240 = .ok (.ireturn, 1) := by decide +kernel
theorem dX7_cheaper_0 : decode cX7_cheaper 0 = .ok (.iload_n 1, 1) := by decide +kernel
theorem dX7_cheaper_1 : decode cX7_cheaper 1 = .ok (.iconst (-1), 1) := by decide +kernel
theorem dX7_cheaper_2 : decode cX7_cheaper 2 = .ok (.if_icmp .ne 5, 3) := by decide +kernel
theorem dX7_cheaper_5 : decode cX7_cheaper 5 = .ok (.iload_n 0, 1) := by decide +kernel
theorem dX7_cheaper_6 : decode cX7_cheaper 6 = .ok (.ireturn, 1) := by decide +kernel
theorem dX7_cheaper_7 : decode cX7_cheaper 7 = .ok (.iload_n 0, 1) := by decide +kernel
theorem dX7_cheaper_8 : decode cX7_cheaper 8 = .ok (.iconst (-1), 1) := by decide +kernel
theorem dX7_cheaper_9 : decode cX7_cheaper 9 = .ok (.if_icmp .ne 9, 3) := by decide +kernel
theorem dX7_cheaper_12 : decode cX7_cheaper 12 = .ok (.iload_n 1, 1) := by decide +kernel
theorem dX7_cheaper_13 : decode cX7_cheaper 13 = .ok (.iload_n 2, 1) := by decide +kernel
theorem dX7_cheaper_14 : decode cX7_cheaper 14 = .ok (.iadd, 1) := by decide +kernel
theorem dX7_cheaper_15 : decode cX7_cheaper 15 = .ok (.goto 10, 3) := by decide +kernel
theorem dX7_cheaper_18 : decode cX7_cheaper 18 = .ok (.iload_n 0, 1) := by decide +kernel
theorem dX7_cheaper_19 : decode cX7_cheaper 19 = .ok (.iload_n 1, 1) := by decide +kernel
theorem dX7_cheaper_20 : decode cX7_cheaper 20 = .ok (.iload_n 2, 1) := by decide +kernel
theorem dX7_cheaper_21 : decode cX7_cheaper 21 = .ok (.iadd, 1) := by decide +kernel
theorem dX7_cheaper_22 : decode cX7_cheaper 22 = .ok (.invokestatic 164, 3) := by decide +kernel
theorem dX7_cheaper_25 : decode cX7_cheaper 25 = .ok (.ireturn, 1) := by decide +kernel
theorem dX7_isBare_0 : decode cX7_isBare 0 = .ok (.iload_n 3, 1) := by decide +kernel
theorem dX7_isBare_1 : decode cX7_isBare 1 = .ok (.bipush 12, 2) := by decide +kernel
theorem dX7_isBare_3 : decode cX7_isBare 3 = .ok (.irem, 1) := by decide +kernel
theorem dX7_isBare_4 : decode cX7_isBare 4 = .ok (.istore 4, 2) := by decide +kernel
theorem dX7_isBare_6 : decode cX7_isBare 6 = .ok (.iload_n 3, 1) := by decide +kernel
theorem dX7_isBare_7 : decode cX7_isBare 7 = .ok (.bipush 12, 2) := by decide +kernel
theorem dX7_isBare_9 : decode cX7_isBare 9 = .ok (.idiv, 1) := by decide +kernel
theorem dX7_isBare_10 : decode cX7_isBare 10 = .ok (.istore 5, 2) := by decide +kernel
theorem dX7_isBare_12 : decode cX7_isBare 12 = .ok (.iload 4, 2) := by decide +kernel
theorem dX7_isBare_14 : decode cX7_isBare 14 = .ok (.aload_n 0, 1) := by decide +kernel
theorem dX7_isBare_15 : decode cX7_isBare 15 = .ok (.getfield 38, 3) := by decide +kernel
theorem dX7_isBare_18 : decode cX7_isBare 18 = .ok (.getfield 74, 3) := by decide +kernel
theorem dX7_isBare_21 : decode cX7_isBare 21 = .ok (.if_icmp .ge 54, 3) := by decide +kernel
theorem dX7_isBare_24 : decode cX7_isBare 24 = .ok (.iload 5, 2) := by decide +kernel
theorem dX7_isBare_26 : decode cX7_isBare 26 = .ok (.aload_n 0, 1) := by decide +kernel
theorem dX7_isBare_27 : decode cX7_isBare 27 = .ok (.getfield 38, 3) := by decide +kernel
theorem dX7_isBare_30 : decode cX7_isBare 30 = .ok (.getfield 80, 3) := by decide +kernel
theorem dX7_isBare_33 : decode cX7_isBare 33 = .ok (.if_icmp .ge 42, 3) := by decide +kernel
theorem dX7_isBare_36 : decode cX7_isBare 36 = .ok (.aload_n 0, 1) := by decide +kernel
theorem dX7_isBare_37 : decode cX7_isBare 37 = .ok (.getfield 38, 3) := by decide +kernel
theorem dX7_isBare_40 : decode cX7_isBare 40 = .ok (.getfield 167, 3) := by decide +kernel
theorem dX7_isBare_43 : decode cX7_isBare 43 = .ok (.iload 5, 2) := by decide +kernel
theorem dX7_isBare_45 : decode cX7_isBare 45 = .ok (.iaload, 1) := by decide +kernel
theorem dX7_isBare_46 : decode cX7_isBare 46 = .ok (.iload 4, 2) := by decide +kernel
theorem dX7_isBare_48 : decode cX7_isBare 48 = .ok (.ishr, 1) := by decide +kernel
theorem dX7_isBare_49 : decode cX7_isBare 49 = .ok (.iconst 1, 1) := by decide +kernel
theorem dX7_isBare_50 : decode cX7_isBare 50 = .ok (.iand, 1) := by decide +kernel
theorem dX7_isBare_51 : decode cX7_isBare 51 = .ok (.ifCond .ne 24, 3) := by decide +kernel
theorem dX7_isBare_54 : decode cX7_isBare 54 = .ok (.lload_n 1, 1) := by decide +kernel
theorem dX7_isBare_55 : decode cX7_isBare 55 = .ok (.iconst 4, 1) := by decide +kernel
theorem dX7_isBare_56 : decode cX7_isBare 56 = .ok (.iload 4, 2) := by decide +kernel
theorem dX7_isBare_58 : decode cX7_isBare 58 = .ok (.imul, 1) := by decide +kernel
theorem dX7_isBare_59 : decode cX7_isBare 59 = .ok (.lushr, 1) := by decide +kernel
theorem dX7_isBare_60 : decode cX7_isBare 60 = .ok (.ldc2_w 170, 3) := by decide +kernel
theorem dX7_isBare_63 : decode cX7_isBare 63 = .ok (.land, 1) := by decide +kernel
theorem dX7_isBare_64 : decode cX7_isBare 64 = .ok (.iload 5, 2) := by decide +kernel
theorem dX7_isBare_66 : decode cX7_isBare 66 = .ok (.i2l, 1) := by decide +kernel
theorem dX7_isBare_67 : decode cX7_isBare 67 = .ok (.lcmp, 1) := by decide +kernel
theorem dX7_isBare_68 : decode cX7_isBare 68 = .ok (.ifCond .gt 7, 3) := by decide +kernel
theorem dX7_isBare_71 : decode cX7_isBare 71 = .ok (.iconst 1, 1) := by decide +kernel
theorem dX7_isBare_72 : decode cX7_isBare 72 = .ok (.goto 4, 3) := by decide +kernel
theorem dX7_isBare_75 : decode cX7_isBare 75 = .ok (.iconst 0, 1) := by decide +kernel
theorem dX7_isBare_76 : decode cX7_isBare 76 = .ok (.ireturn, 1) := by decide +kernel
theorem dX7_firstBare_0 : decode cX7_firstBare 0 = .ok (.iload_n 3, 1) := by decide +kernel
theorem dX7_firstBare_1 : decode cX7_firstBare 1 = .ok (.istore 4, 2) := by decide +kernel
theorem dX7_firstBare_3 : decode cX7_firstBare 3 = .ok (.iload 4, 2) := by decide +kernel
theorem dX7_firstBare_5 : decode cX7_firstBare 5 = .ok (.sipush 144, 3) := by decide +kernel
theorem dX7_firstBare_8 : decode cX7_firstBare 8 = .ok (.if_icmp .ge 22, 3) := by decide +kernel
theorem dX7_firstBare_11 : decode cX7_firstBare 11 = .ok (.aload_n 0, 1) := by decide +kernel
theorem dX7_firstBare_12 : decode cX7_firstBare 12 = .ok (.lload_n 1, 1) := by decide +kernel
theorem dX7_firstBare_13 : decode cX7_firstBare 13 = .ok (.iload 4, 2) := by decide +kernel
theorem dX7_firstBare_15 : decode cX7_firstBare 15 = .ok (.invokevirtual 115, 3) := by decide +kernel
theorem dX7_firstBare_18 : decode cX7_firstBare 18 = .ok (.ifCond .eq 6, 3) := by decide +kernel
theorem dX7_firstBare_21 : decode cX7_firstBare 21 = .ok (.iload 4, 2) := by decide +kernel
theorem dX7_firstBare_23 : decode cX7_firstBare 23 = .ok (.ireturn, 1) := by decide +kernel
theorem dX7_firstBare_24 : decode cX7_firstBare 24 = .ok (.iinc 4 1, 3) := by decide +kernel
theorem dX7_firstBare_27 : decode cX7_firstBare 27 = .ok (.goto (-24), 3) := by decide +kernel
theorem dX7_firstBare_30 : decode cX7_firstBare 30 = .ok (.iconst (-1), 1) := by decide +kernel
theorem dX7_firstBare_31 : decode cX7_firstBare 31 = .ok (.ireturn, 1) := by decide +kernel
theorem dX7_fits_0 : decode cX7_fits 0 = .ok (.iload 4, 2) := by decide +kernel
theorem dX7_fits_2 : decode cX7_fits 2 = .ok (.ifCond .lt 27, 3) := by decide +kernel
theorem dX7_fits_5 : decode cX7_fits 5 = .ok (.aload_n 0, 1) := by decide +kernel
theorem dX7_fits_6 : decode cX7_fits 6 = .ok (.getfield 38, 3) := by decide +kernel
theorem dX7_fits_9 : decode cX7_fits 9 = .ok (.iload_n 3, 1) := by decide +kernel
theorem dX7_fits_10 : decode cX7_fits 10 = .ok (.invokevirtual 141, 3) := by decide +kernel
theorem dX7_fits_13 : decode cX7_fits 13 = .ok (.ifCond .eq 16, 3) := by decide +kernel
theorem dX7_fits_16 : decode cX7_fits 16 = .ok (.lload_n 1, 1) := by decide +kernel
theorem dX7_fits_17 : decode cX7_fits 17 = .ok (.bipush 48, 2) := by decide +kernel
theorem dX7_fits_19 : decode cX7_fits 19 = .ok (.iload_n 3, 1) := by decide +kernel
theorem dX7_fits_20 : decode cX7_fits 20 = .ok (.iadd, 1) := by decide +kernel
theorem dX7_fits_21 : decode cX7_fits 21 = .ok (.lushr, 1) := by decide +kernel
theorem dX7_fits_22 : decode cX7_fits 22 = .ok (.lconst 1, 1) := by decide +kernel
theorem dX7_fits_23 : decode cX7_fits 23 = .ok (.land, 1) := by decide +kernel
theorem dX7_fits_24 : decode cX7_fits 24 = .ok (.lconst 0, 1) := by decide +kernel
theorem dX7_fits_25 : decode cX7_fits 25 = .ok (.lcmp, 1) := by decide +kernel
theorem dX7_fits_26 : decode cX7_fits 26 = .ok (.ifCond .eq 5, 3) := by decide +kernel
theorem dX7_fits_29 : decode cX7_fits 29 = .ok (.iconst 0, 1) := by decide +kernel
theorem dX7_fits_30 : decode cX7_fits 30 = .ok (.ireturn, 1) := by decide +kernel
theorem dX7_fits_31 : decode cX7_fits 31 = .ok (.aload_n 0, 1) := by decide +kernel
theorem dX7_fits_32 : decode cX7_fits 32 = .ok (.getfield 38, 3) := by decide +kernel
theorem dX7_fits_35 : decode cX7_fits 35 = .ok (.getfield 87, 3) := by decide +kernel
theorem dX7_fits_38 : decode cX7_fits 38 = .ok (.iload_n 3, 1) := by decide +kernel
theorem dX7_fits_39 : decode cX7_fits 39 = .ok (.iaload, 1) := by decide +kernel
theorem dX7_fits_40 : decode cX7_fits 40 = .ok (.istore 5, 2) := by decide +kernel
theorem dX7_fits_42 : decode cX7_fits 42 = .ok (.iload 4, 2) := by decide +kernel
theorem dX7_fits_44 : decode cX7_fits 44 = .ok (.bipush 12, 2) := by decide +kernel
theorem dX7_fits_46 : decode cX7_fits 46 = .ok (.irem, 1) := by decide +kernel
theorem dX7_fits_47 : decode cX7_fits 47 = .ok (.istore 6, 2) := by decide +kernel
theorem dX7_fits_49 : decode cX7_fits 49 = .ok (.iload 4, 2) := by decide +kernel
theorem dX7_fits_51 : decode cX7_fits 51 = .ok (.bipush 12, 2) := by decide +kernel
theorem dX7_fits_53 : decode cX7_fits 53 = .ok (.idiv, 1) := by decide +kernel
theorem dX7_fits_54 : decode cX7_fits 54 = .ok (.istore 7, 2) := by decide +kernel
theorem dX7_fits_56 : decode cX7_fits 56 = .ok (.iload 6, 2) := by decide +kernel
theorem dX7_fits_58 : decode cX7_fits 58 = .ok (.iload 5, 2) := by decide +kernel
theorem dX7_fits_60 : decode cX7_fits 60 = .ok (.iadd, 1) := by decide +kernel
theorem dX7_fits_61 : decode cX7_fits 61 = .ok (.aload_n 0, 1) := by decide +kernel
theorem dX7_fits_62 : decode cX7_fits 62 = .ok (.getfield 38, 3) := by decide +kernel
theorem dX7_fits_65 : decode cX7_fits 65 = .ok (.getfield 74, 3) := by decide +kernel
theorem dX7_fits_68 : decode cX7_fits 68 = .ok (.if_icmp .gt 18, 3) := by decide +kernel
theorem dX7_fits_71 : decode cX7_fits 71 = .ok (.iload 7, 2) := by decide +kernel
theorem dX7_fits_73 : decode cX7_fits 73 = .ok (.iload 5, 2) := by decide +kernel
theorem dX7_fits_75 : decode cX7_fits 75 = .ok (.iadd, 1) := by decide +kernel
theorem dX7_fits_76 : decode cX7_fits 76 = .ok (.aload_n 0, 1) := by decide +kernel
theorem dX7_fits_77 : decode cX7_fits 77 = .ok (.getfield 38, 3) := by decide +kernel
theorem dX7_fits_80 : decode cX7_fits 80 = .ok (.getfield 80, 3) := by decide +kernel
theorem dX7_fits_83 : decode cX7_fits 83 = .ok (.if_icmp .le 5, 3) := by decide +kernel
theorem dX7_fits_86 : decode cX7_fits 86 = .ok (.iconst 0, 1) := by decide +kernel
theorem dX7_fits_87 : decode cX7_fits 87 = .ok (.ireturn, 1) := by decide +kernel
theorem dX7_fits_88 : decode cX7_fits 88 = .ok (.iconst 1, 1) := by decide +kernel
theorem dX7_fits_89 : decode cX7_fits 89 = .ok (.iload 5, 2) := by decide +kernel
theorem dX7_fits_91 : decode cX7_fits 91 = .ok (.ishl, 1) := by decide +kernel
theorem dX7_fits_92 : decode cX7_fits 92 = .ok (.iconst 1, 1) := by decide +kernel
theorem dX7_fits_93 : decode cX7_fits 93 = .ok (.isub, 1) := by decide +kernel
theorem dX7_fits_94 : decode cX7_fits 94 = .ok (.istore 8, 2) := by decide +kernel
theorem dX7_fits_96 : decode cX7_fits 96 = .ok (.iconst 0, 1) := by decide +kernel
theorem dX7_fits_97 : decode cX7_fits 97 = .ok (.istore 9, 2) := by decide +kernel
theorem dX7_fits_99 : decode cX7_fits 99 = .ok (.iload 9, 2) := by decide +kernel
theorem dX7_fits_101 : decode cX7_fits 101 = .ok (.iload 5, 2) := by decide +kernel
theorem dX7_fits_103 : decode cX7_fits 103 = .ok (.if_icmp .ge 53, 3) := by decide +kernel
theorem dX7_fits_106 : decode cX7_fits 106 = .ok (.lload_n 1, 1) := by decide +kernel
theorem dX7_fits_107 : decode cX7_fits 107 = .ok (.iconst 4, 1) := by decide +kernel
theorem dX7_fits_108 : decode cX7_fits 108 = .ok (.iload 6, 2) := by decide +kernel
theorem dX7_fits_110 : decode cX7_fits 110 = .ok (.iload 9, 2) := by decide +kernel
theorem dX7_fits_112 : decode cX7_fits 112 = .ok (.iadd, 1) := by decide +kernel
theorem dX7_fits_113 : decode cX7_fits 113 = .ok (.imul, 1) := by decide +kernel
theorem dX7_fits_114 : decode cX7_fits 114 = .ok (.lushr, 1) := by decide +kernel
theorem dX7_fits_115 : decode cX7_fits 115 = .ok (.ldc2_w 170, 3) := by decide +kernel
theorem dX7_fits_118 : decode cX7_fits 118 = .ok (.land, 1) := by decide +kernel
theorem dX7_fits_119 : decode cX7_fits 119 = .ok (.iload 7, 2) := by decide +kernel
theorem dX7_fits_121 : decode cX7_fits 121 = .ok (.i2l, 1) := by decide +kernel
theorem dX7_fits_122 : decode cX7_fits 122 = .ok (.lcmp, 1) := by decide +kernel
theorem dX7_fits_123 : decode cX7_fits 123 = .ok (.ifCond .gt 25, 3) := by decide +kernel
theorem dX7_fits_126 : decode cX7_fits 126 = .ok (.aload_n 0, 1) := by decide +kernel
theorem dX7_fits_127 : decode cX7_fits 127 = .ok (.getfield 38, 3) := by decide +kernel
theorem dX7_fits_130 : decode cX7_fits 130 = .ok (.getfield 167, 3) := by decide +kernel
theorem dX7_fits_133 : decode cX7_fits 133 = .ok (.iload 7, 2) := by decide +kernel
theorem dX7_fits_135 : decode cX7_fits 135 = .ok (.iload 9, 2) := by decide +kernel
theorem dX7_fits_137 : decode cX7_fits 137 = .ok (.iadd, 1) := by decide +kernel
theorem dX7_fits_138 : decode cX7_fits 138 = .ok (.iaload, 1) := by decide +kernel
theorem dX7_fits_139 : decode cX7_fits 139 = .ok (.iload 6, 2) := by decide +kernel
theorem dX7_fits_141 : decode cX7_fits 141 = .ok (.ishr, 1) := by decide +kernel
theorem dX7_fits_142 : decode cX7_fits 142 = .ok (.iload 8, 2) := by decide +kernel
theorem dX7_fits_144 : decode cX7_fits 144 = .ok (.iand, 1) := by decide +kernel
theorem dX7_fits_145 : decode cX7_fits 145 = .ok (.ifCond .eq 5, 3) := by decide +kernel
theorem dX7_fits_148 : decode cX7_fits 148 = .ok (.iconst 0, 1) := by decide +kernel
theorem dX7_fits_149 : decode cX7_fits 149 = .ok (.ireturn, 1) := by decide +kernel
theorem dX7_fits_150 : decode cX7_fits 150 = .ok (.iinc 9 1, 3) := by decide +kernel
theorem dX7_fits_153 : decode cX7_fits 153 = .ok (.goto (-54), 3) := by decide +kernel
theorem dX7_fits_156 : decode cX7_fits 156 = .ok (.aload_n 0, 1) := by decide +kernel
theorem dX7_fits_157 : decode cX7_fits 157 = .ok (.iload 5, 2) := by decide +kernel
theorem dX7_fits_159 : decode cX7_fits 159 = .ok (.iload 6, 2) := by decide +kernel
theorem dX7_fits_161 : decode cX7_fits 161 = .ok (.iload 7, 2) := by decide +kernel
theorem dX7_fits_163 : decode cX7_fits 163 = .ok (.invokevirtual 172, 3) := by decide +kernel
theorem dX7_fits_166 : decode cX7_fits 166 = .ok (.ireturn, 1) := by decide +kernel
theorem dX7_agreesWithSeen_0 : decode cX7_agreesWithSeen 0 = .ok (.iconst 0, 1) := by decide +kernel
theorem dX7_agreesWithSeen_1 : decode cX7_agreesWithSeen 1 = .ok (.istore 4, 2) := by decide +kernel
theorem dX7_agreesWithSeen_3 : decode cX7_agreesWithSeen 3 = .ok (.aload_n 0, 1) := by decide +kernel
theorem dX7_agreesWithSeen_4 : decode cX7_agreesWithSeen 4 = .ok (.getfield 50, 3) := by decide +kernel
theorem dX7_agreesWithSeen_7 : decode cX7_agreesWithSeen 7 = .ok (.ifnull 87, 3) := by decide +kernel
theorem dX7_agreesWithSeen_10 : decode cX7_agreesWithSeen 10 = .ok (.iload 4, 2) := by decide +kernel
theorem dX7_agreesWithSeen_12 : decode cX7_agreesWithSeen 12 = .ok (.aload_n 0, 1) := by decide +kernel
theorem dX7_agreesWithSeen_13 : decode cX7_agreesWithSeen 13 = .ok (.getfield 50, 3) := by decide +kernel
theorem dX7_agreesWithSeen_16 : decode cX7_agreesWithSeen 16 = .ok (.getfield 66, 3) := by decide +kernel
theorem dX7_agreesWithSeen_19 : decode cX7_agreesWithSeen 19 = .ok (.if_icmp .ge 75, 3) := by decide +kernel
theorem dX7_agreesWithSeen_22 : decode cX7_agreesWithSeen 22 = .ok (.aload_n 0, 1) := by decide +kernel
theorem dX7_agreesWithSeen_23 : decode cX7_agreesWithSeen 23 = .ok (.getfield 50, 3) := by decide +kernel
theorem dX7_agreesWithSeen_26 : decode cX7_agreesWithSeen 26 = .ok (.getfield 71, 3) := by decide +kernel
theorem dX7_agreesWithSeen_29 : decode cX7_agreesWithSeen 29 = .ok (.iload 4, 2) := by decide +kernel
theorem dX7_agreesWithSeen_31 : decode cX7_agreesWithSeen 31 = .ok (.iaload, 1) := by decide +kernel
theorem dX7_agreesWithSeen_32 : decode cX7_agreesWithSeen 32 = .ok (.iload_n 2, 1) := by decide +kernel
theorem dX7_agreesWithSeen_33 : decode cX7_agreesWithSeen 33 = .ok (.isub, 1) := by decide +kernel
theorem dX7_agreesWithSeen_34 : decode cX7_agreesWithSeen 34 = .ok (.istore 5, 2) := by decide +kernel
theorem dX7_agreesWithSeen_36 : decode cX7_agreesWithSeen 36 = .ok (.aload_n 0, 1) := by decide +kernel
theorem dX7_agreesWithSeen_37 : decode cX7_agreesWithSeen 37 = .ok (.getfield 50, 3) := by decide +kernel
theorem dX7_agreesWithSeen_40 : decode cX7_agreesWithSeen 40 = .ok (.getfield 77, 3) := by decide +kernel
theorem dX7_agreesWithSeen_43 : decode cX7_agreesWithSeen 43 = .ok (.iload 4, 2) := by decide +kernel
theorem dX7_agreesWithSeen_45 : decode cX7_agreesWithSeen 45 = .ok (.iaload, 1) := by decide +kernel
theorem dX7_agreesWithSeen_46 : decode cX7_agreesWithSeen 46 = .ok (.iload_n 3, 1) := by decide +kernel
theorem dX7_agreesWithSeen_47 : decode cX7_agreesWithSeen 47 = .ok (.isub, 1) := by decide +kernel
theorem dX7_agreesWithSeen_48 : decode cX7_agreesWithSeen 48 = .ok (.istore 6, 2) := by decide +kernel
theorem dX7_agreesWithSeen_50 : decode cX7_agreesWithSeen 50 = .ok (.iload 5, 2) := by decide +kernel
theorem dX7_agreesWithSeen_52 : decode cX7_agreesWithSeen 52 = .ok (.ifCond .lt 36, 3) := by decide +kernel
theorem dX7_agreesWithSeen_55 : decode cX7_agreesWithSeen 55 = .ok (.iload 5, 2) := by decide +kernel
theorem dX7_agreesWithSeen_57 : decode cX7_agreesWithSeen 57 = .ok (.iload_n 1, 1) := by decide +kernel
theorem dX7_agreesWithSeen_58 : decode cX7_agreesWithSeen 58 = .ok (.if_icmp .ge 30, 3) := by decide +kernel
theorem dX7_agreesWithSeen_61 : decode cX7_agreesWithSeen 61 = .ok (.iload 6, 2) := by decide +kernel
theorem dX7_agreesWithSeen_63 : decode cX7_agreesWithSeen 63 = .ok (.ifCond .lt 25, 3) := by decide +kernel
theorem dX7_agreesWithSeen_66 : decode cX7_agreesWithSeen 66 = .ok (.iload 6, 2) := by decide +kernel
theorem dX7_agreesWithSeen_68 : decode cX7_agreesWithSeen 68 = .ok (.iload_n 1, 1) := by decide +kernel
theorem dX7_agreesWithSeen_69 : decode cX7_agreesWithSeen 69 = .ok (.if_icmp .ge 19, 3) := by decide +kernel
theorem dX7_agreesWithSeen_72 : decode cX7_agreesWithSeen 72 = .ok (.aload_n 0, 1) := by decide +kernel
theorem dX7_agreesWithSeen_73 : decode cX7_agreesWithSeen 73 = .ok (.getfield 50, 3) := by decide +kernel
theorem dX7_agreesWithSeen_76 : decode cX7_agreesWithSeen 76 = .ok (.getfield 90, 3) := by decide +kernel
theorem dX7_agreesWithSeen_79 : decode cX7_agreesWithSeen 79 = .ok (.iload 4, 2) := by decide +kernel
theorem dX7_agreesWithSeen_81 : decode cX7_agreesWithSeen 81 = .ok (.iaload, 1) := by decide +kernel
theorem dX7_agreesWithSeen_82 : decode cX7_agreesWithSeen 82 = .ok (.iload_n 1, 1) := by decide +kernel
theorem dX7_agreesWithSeen_83 : decode cX7_agreesWithSeen 83 = .ok (.if_icmp .eq 5, 3) := by decide +kernel
theorem dX7_agreesWithSeen_86 : decode cX7_agreesWithSeen 86 = .ok (.iconst 0, 1) := by decide +kernel
theorem dX7_agreesWithSeen_87 : decode cX7_agreesWithSeen 87 = .ok (.ireturn, 1) := by decide +kernel
theorem dX7_agreesWithSeen_88 : decode cX7_agreesWithSeen 88 = .ok (.iinc 4 1, 3) := by decide +kernel
theorem dX7_agreesWithSeen_91 : decode cX7_agreesWithSeen 91 = .ok (.goto (-88), 3) := by decide +kernel
theorem dX7_agreesWithSeen_94 : decode cX7_agreesWithSeen 94 = .ok (.iconst 1, 1) := by decide +kernel
theorem dX7_agreesWithSeen_95 : decode cX7_agreesWithSeen 95 = .ok (.ireturn, 1) := by decide +kernel
theorem dX7_priceAt_0 : decode cX7_priceAt 0 = .ok (.aload_n 0, 1) := by decide +kernel
theorem dX7_priceAt_1 : decode cX7_priceAt 1 = .ok (.getfield 42, 3) := by decide +kernel
theorem dX7_priceAt_4 : decode cX7_priceAt 4 = .ok (.ifnonnull 13, 3) := by decide +kernel
theorem dX7_priceAt_7 : decode cX7_priceAt 7 = .ok (.aload_n 0, 1) := by decide +kernel
theorem dX7_priceAt_8 : decode cX7_priceAt 8 = .ok (.getfield 38, 3) := by decide +kernel
theorem dX7_priceAt_11 : decode cX7_priceAt 11 = .ok (.getfield 87, 3) := by decide +kernel
theorem dX7_priceAt_14 : decode cX7_priceAt 14 = .ok (.iload_n 1, 1) := by decide +kernel
theorem dX7_priceAt_15 : decode cX7_priceAt 15 = .ok (.iaload, 1) := by decide +kernel
theorem dX7_priceAt_16 : decode cX7_priceAt 16 = .ok (.ireturn, 1) := by decide +kernel
theorem dX7_priceAt_17 : decode cX7_priceAt 17 = .ok (.iload_n 1, 1) := by decide +kernel
theorem dX7_priceAt_18 : decode cX7_priceAt 18 = .ok (.sipush 144, 3) := by decide +kernel
theorem dX7_priceAt_21 : decode cX7_priceAt 21 = .ok (.imul, 1) := by decide +kernel
theorem dX7_priceAt_22 : decode cX7_priceAt 22 = .ok (.iload_n 2, 1) := by decide +kernel
theorem dX7_priceAt_23 : decode cX7_priceAt 23 = .ok (.iadd, 1) := by decide +kernel
theorem dX7_priceAt_24 : decode cX7_priceAt 24 = .ok (.istore_n 3, 1) := by decide +kernel
theorem dX7_priceAt_25 : decode cX7_priceAt 25 = .ok (.aload_n 0, 1) := by decide +kernel
theorem dX7_priceAt_26 : decode cX7_priceAt 26 = .ok (.getfield 22, 3) := by decide +kernel
theorem dX7_priceAt_29 : decode cX7_priceAt 29 = .ok (.iload_n 3, 1) := by decide +kernel
theorem dX7_priceAt_30 : decode cX7_priceAt 30 = .ok (.iaload, 1) := by decide +kernel
theorem dX7_priceAt_31 : decode cX7_priceAt 31 = .ok (.aload_n 0, 1) := by decide +kernel
theorem dX7_priceAt_32 : decode cX7_priceAt 32 = .ok (.getfield 35, 3) := by decide +kernel
theorem dX7_priceAt_35 : decode cX7_priceAt 35 = .ok (.if_icmp .eq 89, 3) := by decide +kernel
theorem dX7_priceAt_38 : decode cX7_priceAt 38 = .ok (.iload_n 2, 1) := by decide +kernel
theorem dX7_priceAt_39 : decode cX7_priceAt 39 = .ok (.bipush 12, 2) := by decide +kernel
theorem dX7_priceAt_41 : decode cX7_priceAt 41 = .ok (.irem, 1) := by decide +kernel
theorem dX7_priceAt_42 : decode cX7_priceAt 42 = .ok (.istore 4, 2) := by decide +kernel
theorem dX7_priceAt_44 : decode cX7_priceAt 44 = .ok (.iload_n 2, 1) := by decide +kernel
theorem dX7_priceAt_45 : decode cX7_priceAt 45 = .ok (.bipush 12, 2) := by decide +kernel
theorem dX7_priceAt_47 : decode cX7_priceAt 47 = .ok (.idiv, 1) := by decide +kernel
theorem dX7_priceAt_48 : decode cX7_priceAt 48 = .ok (.istore 5, 2) := by decide +kernel
theorem dX7_priceAt_50 : decode cX7_priceAt 50 = .ok (.aload_n 0, 1) := by decide +kernel
theorem dX7_priceAt_51 : decode cX7_priceAt 51 = .ok (.getfield 22, 3) := by decide +kernel
theorem dX7_priceAt_54 : decode cX7_priceAt 54 = .ok (.iload_n 3, 1) := by decide +kernel
theorem dX7_priceAt_55 : decode cX7_priceAt 55 = .ok (.aload_n 0, 1) := by decide +kernel
theorem dX7_priceAt_56 : decode cX7_priceAt 56 = .ok (.getfield 35, 3) := by decide +kernel
theorem dX7_priceAt_59 : decode cX7_priceAt 59 = .ok (.iastore, 1) := by decide +kernel
theorem dX7_priceAt_60 : decode cX7_priceAt 60 = .ok (.aload_n 0, 1) := by decide +kernel
theorem dX7_priceAt_61 : decode cX7_priceAt 61 = .ok (.getfield 18, 3) := by decide +kernel
theorem dX7_priceAt_64 : decode cX7_priceAt 64 = .ok (.iload_n 3, 1) := by decide +kernel
theorem dX7_priceAt_65 : decode cX7_priceAt 65 = .ok (.aload_n 0, 1) := by decide +kernel
theorem dX7_priceAt_66 : decode cX7_priceAt 66 = .ok (.getfield 46, 3) := by decide +kernel
theorem dX7_priceAt_69 : decode cX7_priceAt 69 = .ok (.aload_n 0, 1) := by decide +kernel
theorem dX7_priceAt_70 : decode cX7_priceAt 70 = .ok (.getfield 42, 3) := by decide +kernel
theorem dX7_priceAt_73 : decode cX7_priceAt 73 = .ok (.aload_n 0, 1) := by decide +kernel
theorem dX7_priceAt_74 : decode cX7_priceAt 74 = .ok (.getfield 38, 3) := by decide +kernel
theorem dX7_priceAt_77 : decode cX7_priceAt 77 = .ok (.iload_n 1, 1) := by decide +kernel
theorem dX7_priceAt_78 : decode cX7_priceAt 78 = .ok (.iload 4, 2) := by decide +kernel
theorem dX7_priceAt_80 : decode cX7_priceAt 80 = .ok (.iload 5, 2) := by decide +kernel
theorem dX7_priceAt_82 : decode cX7_priceAt 82 = .ok (.invokevirtual 176, 3) := by decide +kernel
theorem dX7_priceAt_85 : decode cX7_priceAt 85 = .ok (.ifCond .eq 7, 3) := by decide +kernel
theorem dX7_priceAt_88 : decode cX7_priceAt 88 = .ok (.iconst (-1), 1) := by decide +kernel
theorem dX7_priceAt_89 : decode cX7_priceAt 89 = .ok (.goto 34, 3) := by decide +kernel
theorem dX7_priceAt_92 : decode cX7_priceAt 92 = .ok (.aload_n 0, 1) := by decide +kernel
theorem dX7_priceAt_93 : decode cX7_priceAt 93 = .ok (.getfield 131, 3) := by decide +kernel
theorem dX7_priceAt_96 : decode cX7_priceAt 96 = .ok (.ifCond .eq 26, 3) := by decide +kernel
theorem dX7_priceAt_99 : decode cX7_priceAt 99 = .ok (.aload_n 0, 1) := by decide +kernel
theorem dX7_priceAt_100 : decode cX7_priceAt 100 = .ok (.getfield 46, 3) := by decide +kernel
theorem dX7_priceAt_103 : decode cX7_priceAt 103 = .ok (.aload_n 0, 1) := by decide +kernel
theorem dX7_priceAt_104 : decode cX7_priceAt 104 = .ok (.getfield 42, 3) := by decide +kernel
theorem dX7_priceAt_107 : decode cX7_priceAt 107 = .ok (.aload_n 0, 1) := by decide +kernel
theorem dX7_priceAt_108 : decode cX7_priceAt 108 = .ok (.getfield 38, 3) := by decide +kernel
theorem dX7_priceAt_111 : decode cX7_priceAt 111 = .ok (.iload_n 1, 1) := by decide +kernel
theorem dX7_priceAt_112 : decode cX7_priceAt 112 = .ok (.iload 4, 2) := by decide +kernel
theorem dX7_priceAt_114 : decode cX7_priceAt 114 = .ok (.iload 5, 2) := by decide +kernel
theorem dX7_priceAt_116 : decode cX7_priceAt 116 = .ok (.invokevirtual 182, 3) := by decide +kernel
theorem dX7_priceAt_119 : decode cX7_priceAt 119 = .ok (.goto 4, 3) := by decide +kernel
theorem dX7_priceAt_122 : decode cX7_priceAt 122 = .ok (.iconst 0, 1) := by decide +kernel
theorem dX7_priceAt_123 : decode cX7_priceAt 123 = .ok (.iastore, 1) := by decide +kernel
theorem dX7_priceAt_124 : decode cX7_priceAt 124 = .ok (.aload_n 0, 1) := by decide +kernel
theorem dX7_priceAt_125 : decode cX7_priceAt 125 = .ok (.getfield 18, 3) := by decide +kernel
theorem dX7_priceAt_128 : decode cX7_priceAt 128 = .ok (.iload_n 3, 1) := by decide +kernel
theorem dX7_priceAt_129 : decode cX7_priceAt 129 = .ok (.iaload, 1) := by decide +kernel
theorem dX7_priceAt_130 : decode cX7_priceAt 130 = .ok (.ireturn, 1) := by decide +kernel
theorem dX7_keyWith_0 : decode cX7_keyWith 0 = .ok (.iload 4, 2) := by decide +kernel
theorem dX7_keyWith_2 : decode cX7_keyWith 2 = .ok (.bipush 12, 2) := by decide +kernel
theorem dX7_keyWith_4 : decode cX7_keyWith 4 = .ok (.irem, 1) := by decide +kernel
theorem dX7_keyWith_5 : decode cX7_keyWith 5 = .ok (.istore 5, 2) := by decide +kernel
theorem dX7_keyWith_7 : decode cX7_keyWith 7 = .ok (.iload 4, 2) := by decide +kernel
theorem dX7_keyWith_9 : decode cX7_keyWith 9 = .ok (.bipush 12, 2) := by decide +kernel
theorem dX7_keyWith_11 : decode cX7_keyWith 11 = .ok (.idiv, 1) := by decide +kernel
theorem dX7_keyWith_12 : decode cX7_keyWith 12 = .ok (.aload_n 0, 1) := by decide +kernel
theorem dX7_keyWith_13 : decode cX7_keyWith 13 = .ok (.getfield 38, 3) := by decide +kernel
theorem dX7_keyWith_16 : decode cX7_keyWith 16 = .ok (.getfield 87, 3) := by decide +kernel
theorem dX7_keyWith_19 : decode cX7_keyWith 19 = .ok (.iload_n 3, 1) := by decide +kernel
theorem dX7_keyWith_20 : decode cX7_keyWith 20 = .ok (.iaload, 1) := by decide +kernel
theorem dX7_keyWith_21 : decode cX7_keyWith 21 = .ok (.iadd, 1) := by decide +kernel
theorem dX7_keyWith_22 : decode cX7_keyWith 22 = .ok (.i2l, 1) := by decide +kernel
theorem dX7_keyWith_23 : decode cX7_keyWith 23 = .ok (.lstore 6, 2) := by decide +kernel
theorem dX7_keyWith_25 : decode cX7_keyWith 25 = .ok (.lconst 1, 1) := by decide +kernel
theorem dX7_keyWith_26 : decode cX7_keyWith 26 = .ok (.iconst 4, 1) := by decide +kernel
theorem dX7_keyWith_27 : decode cX7_keyWith 27 = .ok (.aload_n 0, 1) := by decide +kernel
theorem dX7_keyWith_28 : decode cX7_keyWith 28 = .ok (.getfield 38, 3) := by decide +kernel
theorem dX7_keyWith_31 : decode cX7_keyWith 31 = .ok (.getfield 87, 3) := by decide +kernel
theorem dX7_keyWith_34 : decode cX7_keyWith 34 = .ok (.iload_n 3, 1) := by decide +kernel
theorem dX7_keyWith_35 : decode cX7_keyWith 35 = .ok (.iaload, 1) := by decide +kernel
theorem dX7_keyWith_36 : decode cX7_keyWith 36 = .ok (.imul, 1) := by decide +kernel
theorem dX7_keyWith_37 : decode cX7_keyWith 37 = .ok (.lshl, 1) := by decide +kernel
theorem dX7_keyWith_38 : decode cX7_keyWith 38 = .ok (.lconst 1, 1) := by decide +kernel
theorem dX7_keyWith_39 : decode cX7_keyWith 39 = .ok (.lsub, 1) := by decide +kernel
theorem dX7_keyWith_40 : decode cX7_keyWith 40 = .ok (.iconst 4, 1) := by decide +kernel
theorem dX7_keyWith_41 : decode cX7_keyWith 41 = .ok (.iload 5, 2) := by decide +kernel
theorem dX7_keyWith_43 : decode cX7_keyWith 43 = .ok (.imul, 1) := by decide +kernel
theorem dX7_keyWith_44 : decode cX7_keyWith 44 = .ok (.lshl, 1) := by decide +kernel
theorem dX7_keyWith_45 : decode cX7_keyWith 45 = .ok (.lstore 8, 2) := by decide +kernel
theorem dX7_keyWith_47 : decode cX7_keyWith 47 = .ok (.lload_n 1, 1) := by decide +kernel
theorem dX7_keyWith_48 : decode cX7_keyWith 48 = .ok (.lload 8, 2) := by decide +kernel
theorem dX7_keyWith_50 : decode cX7_keyWith 50 = .ok (.ldc2_w 186, 3) := by decide +kernel
theorem dX7_keyWith_53 : decode cX7_keyWith 53 = .ok (.lxor, 1) := by decide +kernel
theorem dX7_keyWith_54 : decode cX7_keyWith 54 = .ok (.land, 1) := by decide +kernel
theorem dX7_keyWith_55 : decode cX7_keyWith 55 = .ok (.lload 6, 2) := by decide +kernel
theorem dX7_keyWith_57 : decode cX7_keyWith 57 = .ok (.ldc2_w 188, 3) := by decide +kernel
theorem dX7_keyWith_60 : decode cX7_keyWith 60 = .ok (.lmul, 1) := by decide +kernel
theorem dX7_keyWith_61 : decode cX7_keyWith 61 = .ok (.iconst 4, 1) := by decide +kernel
theorem dX7_keyWith_62 : decode cX7_keyWith 62 = .ok (.iload 5, 2) := by decide +kernel
theorem dX7_keyWith_64 : decode cX7_keyWith 64 = .ok (.imul, 1) := by decide +kernel
theorem dX7_keyWith_65 : decode cX7_keyWith 65 = .ok (.lshl, 1) := by decide +kernel
theorem dX7_keyWith_66 : decode cX7_keyWith 66 = .ok (.lload 8, 2) := by decide +kernel
theorem dX7_keyWith_68 : decode cX7_keyWith 68 = .ok (.land, 1) := by decide +kernel
theorem dX7_keyWith_69 : decode cX7_keyWith 69 = .ok (.lor, 1) := by decide +kernel
theorem dX7_keyWith_70 : decode cX7_keyWith 70 = .ok (.lconst 1, 1) := by decide +kernel
theorem dX7_keyWith_71 : decode cX7_keyWith 71 = .ok (.bipush 48, 2) := by decide +kernel
theorem dX7_keyWith_73 : decode cX7_keyWith 73 = .ok (.iload_n 3, 1) := by decide +kernel
theorem dX7_keyWith_74 : decode cX7_keyWith 74 = .ok (.iadd, 1) := by decide +kernel
theorem dX7_keyWith_75 : decode cX7_keyWith 75 = .ok (.lshl, 1) := by decide +kernel
theorem dX7_keyWith_76 : decode cX7_keyWith 76 = .ok (.lor, 1) := by decide +kernel
theorem dX7_keyWith_77 : decode cX7_keyWith 77 = .ok (.lreturn, 1) := by decide +kernel
theorem dX7_tallyFills_0 : decode cX7_tallyFills 0 = .ok (.aload_n 0, 1) := by decide +kernel
theorem dX7_tallyFills_1 : decode cX7_tallyFills 1 = .ok (.getfield 25, 3) := by decide +kernel
theorem dX7_tallyFills_4 : decode cX7_tallyFills 4 = .ok (.iconst 0, 1) := by decide +kernel
theorem dX7_tallyFills_5 : decode cX7_tallyFills 5 = .ok (.invokestatic 190, 3) := by decide +kernel
theorem dX7_tallyFills_8 : decode cX7_tallyFills 8 = .ok (.aload_n 0, 1) := by decide +kernel
theorem dX7_tallyFills_9 : decode cX7_tallyFills 9 = .ok (.getfield 12, 3) := by decide +kernel
theorem dX7_tallyFills_12 : decode cX7_tallyFills 12 = .ok (.getfield 196, 3) := by decide +kernel
theorem dX7_tallyFills_15 : decode cX7_tallyFills 15 = .ok (.ifCond .eq 16, 3) := by decide +kernel
theorem dX7_tallyFills_18 : decode cX7_tallyFills 18 = .ok (.aload_n 0, 1) := by decide +kernel
theorem dX7_tallyFills_19 : decode cX7_tallyFills 19 = .ok (.lconst 0, 1) := by decide +kernel
theorem dX7_tallyFills_20 : decode cX7_tallyFills 20 = .ok (.aload_n 0, 1) := by decide +kernel
theorem dX7_tallyFills_21 : decode cX7_tallyFills 21 = .ok (.getfield 63, 3) := by decide +kernel
theorem dX7_tallyFills_24 : decode cX7_tallyFills 24 = .ok (.iconst 0, 1) := by decide +kernel
theorem dX7_tallyFills_25 : decode cX7_tallyFills 25 = .ok (.iconst 0, 1) := by decide +kernel
theorem dX7_tallyFills_26 : decode cX7_tallyFills 26 = .ok (.invokevirtual 199, 3) := by decide +kernel
theorem dX7_tallyFills_29 : decode cX7_tallyFills 29 = .ok (.pop, 1) := by decide +kernel
theorem dX7_tallyFills_30 : decode cX7_tallyFills 30 = .ok (.return_, 1) := by decide +kernel
theorem dX7_tallyFills_31 : decode cX7_tallyFills 31 = .ok (.aload_n 0, 1) := by decide +kernel
theorem dX7_tallyFills_32 : decode cX7_tallyFills 32 = .ok (.getfield 12, 3) := by decide +kernel
theorem dX7_tallyFills_35 : decode cX7_tallyFills 35 = .ok (.aload_n 0, 1) := by decide +kernel
theorem dX7_tallyFills_36 : decode cX7_tallyFills 36 = .ok (.getfield 12, 3) := by decide +kernel
theorem dX7_tallyFills_39 : decode cX7_tallyFills 39 = .ok (.lconst 0, 1) := by decide +kernel
theorem dX7_tallyFills_40 : decode cX7_tallyFills 40 = .ok (.invokevirtual 145, 3) := by decide +kernel
theorem dX7_tallyFills_43 : decode cX7_tallyFills 43 = .ok (.iconst 1, 1) := by decide +kernel
theorem dX7_tallyFills_44 : decode cX7_tallyFills 44 = .ok (.invokevirtual 202, 3) := by decide +kernel
theorem dX7_tallyFills_47 : decode cX7_tallyFills 47 = .ok (.aload_n 0, 1) := by decide +kernel
theorem dX7_tallyFills_48 : decode cX7_tallyFills 48 = .ok (.getfield 12, 3) := by decide +kernel
theorem dX7_tallyFills_51 : decode cX7_tallyFills 51 = .ok (.getfield 206, 3) := by decide +kernel
theorem dX7_tallyFills_54 : decode cX7_tallyFills 54 = .ok (.iconst 1, 1) := by decide +kernel
theorem dX7_tallyFills_55 : decode cX7_tallyFills 55 = .ok (.isub, 1) := by decide +kernel
theorem dX7_tallyFills_56 : decode cX7_tallyFills 56 = .ok (.istore_n 1, 1) := by decide +kernel
theorem dX7_tallyFills_57 : decode cX7_tallyFills 57 = .ok (.iload_n 1, 1) := by decide +kernel
theorem dX7_tallyFills_58 : decode cX7_tallyFills 58 = .ok (.ifCond .lt 60, 3) := by decide +kernel
theorem dX7_tallyFills_61 : decode cX7_tallyFills 61 = .ok (.aload_n 0, 1) := by decide +kernel
theorem dX7_tallyFills_62 : decode cX7_tallyFills 62 = .ok (.getfield 12, 3) := by decide +kernel
theorem dX7_tallyFills_65 : decode cX7_tallyFills 65 = .ok (.iload_n 1, 1) := by decide +kernel
theorem dX7_tallyFills_66 : decode cX7_tallyFills 66 = .ok (.invokevirtual 209, 3) := by decide +kernel
theorem dX7_tallyFills_69 : decode cX7_tallyFills 69 = .ok (.istore_n 2, 1) := by decide +kernel
theorem dX7_tallyFills_70 : decode cX7_tallyFills 70 = .ok (.aload_n 0, 1) := by decide +kernel
theorem dX7_tallyFills_71 : decode cX7_tallyFills 71 = .ok (.getfield 12, 3) := by decide +kernel
theorem dX7_tallyFills_74 : decode cX7_tallyFills 74 = .ok (.iload_n 2, 1) := by decide +kernel
theorem dX7_tallyFills_75 : decode cX7_tallyFills 75 = .ok (.invokevirtual 212, 3) := by decide +kernel
theorem dX7_tallyFills_78 : decode cX7_tallyFills 78 = .ok (.ifCond .le 34, 3) := by decide +kernel
theorem dX7_tallyFills_81 : decode cX7_tallyFills 81 = .ok (.aload_n 0, 1) := by decide +kernel
theorem dX7_tallyFills_82 : decode cX7_tallyFills 82 = .ok (.getfield 12, 3) := by decide +kernel
theorem dX7_tallyFills_85 : decode cX7_tallyFills 85 = .ok (.iload_n 2, 1) := by decide +kernel
theorem dX7_tallyFills_86 : decode cX7_tallyFills 86 = .ok (.invokevirtual 149, 3) := by decide +kernel
theorem dX7_tallyFills_89 : decode cX7_tallyFills 89 = .ok (.ifCond .le 23, 3) := by decide +kernel
theorem dX7_tallyFills_92 : decode cX7_tallyFills 92 = .ok (.aload_n 0, 1) := by decide +kernel
theorem dX7_tallyFills_93 : decode cX7_tallyFills 93 = .ok (.aload_n 0, 1) := by decide +kernel
theorem dX7_tallyFills_94 : decode cX7_tallyFills 94 = .ok (.getfield 12, 3) := by decide +kernel
theorem dX7_tallyFills_97 : decode cX7_tallyFills 97 = .ok (.iload_n 2, 1) := by decide +kernel
theorem dX7_tallyFills_98 : decode cX7_tallyFills 98 = .ok (.invokevirtual 215, 3) := by decide +kernel
theorem dX7_tallyFills_101 : decode cX7_tallyFills 101 = .ok (.aload_n 0, 1) := by decide +kernel
theorem dX7_tallyFills_102 : decode cX7_tallyFills 102 = .ok (.getfield 12, 3) := by decide +kernel
theorem dX7_tallyFills_105 : decode cX7_tallyFills 105 = .ok (.iload_n 2, 1) := by decide +kernel
theorem dX7_tallyFills_106 : decode cX7_tallyFills 106 = .ok (.invokevirtual 212, 3) := by decide +kernel
theorem dX7_tallyFills_109 : decode cX7_tallyFills 109 = .ok (.invokevirtual 219, 3) := by decide +kernel
theorem dX7_tallyFills_112 : decode cX7_tallyFills 112 = .ok (.iinc 1 (-1), 3) := by decide +kernel
theorem dX7_tallyFills_115 : decode cX7_tallyFills 115 = .ok (.goto (-58), 3) := by decide +kernel
theorem dX7_tallyFills_118 : decode cX7_tallyFills 118 = .ok (.return_, 1) := by decide +kernel
