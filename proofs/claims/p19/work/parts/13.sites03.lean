/-! places of the pools (by program) -/
theorem v_13_269 : VirtAt 13 269 191 13 := ⟨mo_191, gw8 49 rfl rfl, gw8 51 rfl rfl, gwp 57 (q := (⟨"HotThroughModel", "readsThing", "()Z"⟩, 72)) rfl, rfl, kr9_13.1, kr9_13.2, pm9_191, rfl⟩
theorem v_13_272 : VirtAt 13 272 192 13 := ⟨mo_192, gw8 53 rfl rfl, gw8 55 rfl rfl, gwp 58 (q := (⟨"HotThroughModel", "codes", "(I)V"⟩, 72)) rfl, rfl, kr9_13.1, kr9_13.2, pm9_192, rfl⟩
theorem v_13_278 : VirtAt 13 278 190 13 := ⟨mo_190, gw8 45 rfl rfl, gw8 47 rfl rfl, gwp 56 (q := (⟨"HotThroughModel", "readsRank", "(I)Z"⟩, 72)) rfl, rfl, kr9_13.1, kr9_13.2, pm9_190, rfl⟩
theorem v_13_297 : VirtAt 13 297 208 13 := ⟨mo_208, gw8 123 rfl rfl, gw8 125 rfl rfl, gwp 69 (q := (⟨"HotThroughModel", "through", "()I"⟩, 72)) rfl, rfl, kr9_13.1, kr9_13.2, pm9_208, rfl⟩
theorem v_13_300 : VirtAt 13 300 207 13 := ⟨mo_207, gw8 119 rfl rfl, gw8 121 rfl rfl, gwp 68 (q := (⟨"HotThroughModel", "throughBy", "(IIIIIII)I"⟩, 72)) rfl, rfl, kr9_13.1, kr9_13.2, pm9_207, rfl⟩
theorem v_13_313 : VirtAt 13 313 206 13 := ⟨mo_206, gw8 115 rfl rfl, gw8 117 rfl rfl, gwp 67 (q := (⟨"HotThroughModel", "throughOf", "([II)I"⟩, 72)) rfl, rfl, kr9_13.1, kr9_13.2, pm9_206, rfl⟩
theorem v_13_317 : VirtAt 13 317 194 13 := ⟨mo_194, gw8 65 rfl rfl, gw8 67 rfl rfl, gwp 59 (q := (⟨"HotThroughModel", "isPlace", "(I)Z"⟩, 72)) rfl, rfl, kr9_13.1, kr9_13.2, pm9_194, rfl⟩
theorem v_13_322 : VirtAt 13 322 195 13 := ⟨mo_195, gw8 70 rfl rfl, gw8 72 rfl rfl, gwp 60 (q := (⟨"HotThroughModel", "refuse", "()I"⟩, 72)) rfl, rfl, kr9_13.1, kr9_13.2, pm9_195, rfl⟩
theorem v_13_325 : VirtAt 13 325 197 13 := ⟨mo_197, gw8 78 rfl rfl, gw8 80 rfl rfl, gwp 61 (q := (⟨"HotThroughModel", "isWay", "(I)Z"⟩, 72)) rfl, rfl, kr9_13.1, kr9_13.2, pm9_197, rfl⟩
theorem v_13_328 : VirtAt 13 328 198 13 := ⟨mo_198, gw8 82 rfl rfl, gw8 84 rfl rfl, gwp 62 (q := (⟨"HotThroughModel", "isOpen", "(I)Z"⟩, 72)) rfl, rfl, kr9_13.1, kr9_13.2, pm9_198, rfl⟩
theorem v_13_331 : VirtAt 13 331 201 13 := ⟨mo_201, gw8 93 rfl rfl, gw8 95 rfl rfl, gwp 63 (q := (⟨"HotThroughModel", "isPot", "(I)Z"⟩, 72)) rfl, rfl, kr9_13.1, kr9_13.2, pm9_201, rfl⟩
theorem v_13_336 : VirtAt 13 336 202 13 := ⟨mo_202, gw8 98 rfl rfl, gw8 100 rfl rfl, gwp 64 (q := (⟨"HotThroughModel", "holder", "(I)I"⟩, 72)) rfl, rfl, kr9_13.1, kr9_13.2, pm9_202, rfl⟩
theorem v_13_339 : VirtAt 13 339 205 13 := ⟨mo_205, gw8 110 rfl rfl, gw8 112 rfl rfl, gwp 66 (q := (⟨"HotThroughModel", "isPerson", "(I)Z"⟩, 72)) rfl, rfl, kr9_13.1, kr9_13.2, pm9_205, rfl⟩
theorem v_13_344 : VirtAt 13 344 211 13 := ⟨mo_211, gw8 135 rfl rfl, gw8 137 rfl rfl, gwp 70 (q := (⟨"HotThroughModel", "isThere", "(I)Z"⟩, 72)) rfl, rfl, kr9_13.1, kr9_13.2, pm9_211, rfl⟩
theorem v_13_349 : VirtAt 13 349 218 13 := ⟨mo_218, gw8 164 rfl rfl, gw8 166 rfl rfl, gwp 74 (q := (⟨"HotThroughModel", "adds", "(I)I"⟩, 72)) rfl, rfl, kr9_13.1, kr9_13.2, pm9_218, rfl⟩
theorem v_13_352 : VirtAt 13 352 224 13 := ⟨mo_224, gw8 188 rfl rfl, gw8 190 rfl rfl, gwp 78 (q := (⟨"HotThroughModel", "secondGoes", "([I)V"⟩, 72)) rfl, rfl, kr9_13.1, kr9_13.2, pm9_224, rfl⟩
theorem v_13_363 : VirtAt 13 363 215 13 := ⟨mo_215, gw8 152 rfl rfl, gw8 154 rfl rfl, gwp 71 (q := (⟨"HotThroughModel", "putsBy", "()V"⟩, 72)) rfl, rfl, kr9_13.1, kr9_13.2, pm9_215, rfl⟩
theorem v_13_366 : VirtAt 13 366 216 13 := ⟨mo_216, gw8 156 rfl rfl, gw8 158 rfl rfl, gwp 72 (q := (⟨"HotThroughModel", "takesPot", "(II)I"⟩, 72)) rfl, rfl, kr9_13.1, kr9_13.2, pm9_216, rfl⟩
theorem v_13_369 : VirtAt 13 369 217 13 := ⟨mo_217, gw8 160 rfl rfl, gw8 162 rfl rfl, gwp 73 (q := (⟨"HotThroughModel", "counts", "(I)I"⟩, 72)) rfl, rfl, kr9_13.1, kr9_13.2, pm9_217, rfl⟩
theorem v_13_372 : VirtAt 13 372 220 13 := ⟨mo_220, gw8 172 rfl rfl, gw8 174 rfl rfl, gwp 75 (q := (⟨"HotThroughModel", "setsDown", "(I)I"⟩, 72)) rfl, rfl, kr9_13.1, kr9_13.2, pm9_220, rfl⟩
theorem v_13_375 : VirtAt 13 375 222 13 := ⟨mo_222, gw8 180 rfl rfl, gw8 182 rfl rfl, gwp 76 (q := (⟨"HotThroughModel", "startsCounting", "()V"⟩, 72)) rfl, rfl, kr9_13.1, kr9_13.2, pm9_222, rfl⟩
theorem v_13_378 : VirtAt 13 378 223 13 := ⟨mo_223, gw8 184 rfl rfl, gw8 186 rfl rfl, gwp 77 (q := (⟨"HotThroughModel", "walks", "(II)I"⟩, 72)) rfl, rfl, kr9_13.1, kr9_13.2, pm9_223, rfl⟩
theorem v_13_381 : VirtAt 13 381 225 13 := ⟨mo_225, gw8 192 rfl rfl, gw8 194 rfl rfl, gwp 79 (q := (⟨"HotThroughModel", "enters", "(J)V"⟩, 72)) rfl, rfl, kr9_13.1, kr9_13.2, pm9_225, rfl⟩
theorem v_13_385 : VirtAt 13 385 227 13 := ⟨mo_227, gw8 200 rfl rfl, gw8 202 rfl rfl, gwp 80 (q := (⟨"HotThroughModel", "passes", "(I)I"⟩, 72)) rfl, rfl, kr9_13.1, kr9_13.2, pm9_227, rfl⟩
theorem v_13_388 : VirtAt 13 388 229 13 := ⟨mo_229, gw8 209 rfl rfl, gw8 211 rfl rfl, gwp 81 (q := (⟨"HotThroughModel", "changesHand", "(I)I"⟩, 72)) rfl, rfl, kr9_13.1, kr9_13.2, pm9_229, rfl⟩
theorem v_13_391 : VirtAt 13 391 231 13 := ⟨mo_231, gw8 217 rfl rfl, gw8 219 rfl rfl, gwp 82 (q := (⟨"HotThroughModel", "gives", "(II)I"⟩, 72)) rfl, rfl, kr9_13.1, kr9_13.2, pm9_231, rfl⟩
theorem v_13_396 : VirtAt 13 396 234 13 := ⟨mo_234, gw8 230 rfl rfl, gw8 232 rfl rfl, gwp 83 (q := (⟨"HotThroughModel", "opens", "(II)I"⟩, 72)) rfl, rfl, kr9_13.1, kr9_13.2, pm9_234, rfl⟩
theorem v_13_404 : VirtAt 13 404 236 13 := ⟨mo_236, gw8 239 rfl rfl, gw9 1 rfl rfl, gwp 84 (q := (⟨"HotThroughModel", "readsAct", "()Z"⟩, 72)) rfl, rfl, kr9_13.1, kr9_13.2, pm9_236, rfl⟩
theorem v_13_407 : VirtAt 13 407 237 13 := ⟨mo_237, gw9 4 rfl rfl, gw9 6 rfl rfl, gwp 85 (q := (⟨"HotThroughModel", "does", "(I)Z"⟩, 72)) rfl, rfl, kr9_13.1, kr9_13.2, pm9_237, rfl⟩
theorem v_13_420 : VirtAt 13 420 239 13 := ⟨mo_239, gw9 12 rfl rfl, gw9 14 rfl rfl, gwp 86 (q := (⟨"HotThroughModel", "canHold", "(I)Z"⟩, 72)) rfl, rfl, kr9_13.1, kr9_13.2, pm9_239, rfl⟩
theorem v_13_423 : VirtAt 13 423 240 13 := ⟨mo_240, gw9 16 rfl rfl, gw9 18 rfl rfl, gwp 87 (q := (⟨"HotThroughModel", "holdsOut", "(II)I"⟩, 72)) rfl, rfl, kr9_13.1, kr9_13.2, pm9_240, rfl⟩
theorem v_13_437 : VirtAt 13 437 245 13 := ⟨mo_245, gw9 36 rfl rfl, gw9 38 rfl rfl, gwp 88 (q := (⟨"HotThroughModel", "canThink", "(III)Z"⟩, 72)) rfl, rfl, kr9_13.1, kr9_13.2, pm9_245, rfl⟩
theorem v_13_441 : VirtAt 13 441 246 13 := ⟨mo_246, gw9 40 rfl rfl, gw9 42 rfl rfl, gwp 89 (q := (⟨"HotThroughModel", "soloBegins", "(II)V"⟩, 72)) rfl, rfl, kr9_13.1, kr9_13.2, pm9_246, rfl⟩
theorem v_13_445 : VirtAt 13 445 247 13 := ⟨mo_247, gw9 44 rfl rfl, gw9 46 rfl rfl, gwp 90 (q := (⟨"HotThroughModel", "soloHolds", "(IIII)I"⟩, 72)) rfl, rfl, kr9_13.1, kr9_13.2, pm9_247, rfl⟩
theorem v_13_450 : VirtAt 13 450 251 13 := ⟨mo_251, gw9 60 rfl rfl, gw9 62 rfl rfl, gwp 92 (q := (⟨"HotThroughModel", "laysApart", "(I)V"⟩, 72)) rfl, rfl, kr9_13.1, kr9_13.2, pm9_251, rfl⟩
theorem v_13_456 : VirtAt 13 456 250 13 := ⟨mo_250, gw9 56 rfl rfl, gw9 58 rfl rfl, gwp 91 (q := (⟨"HotThroughModel", "laysWay", "(II)Z"⟩, 72)) rfl, rfl, kr9_13.1, kr9_13.2, pm9_250, rfl⟩
theorem v_13_459 : VirtAt 13 459 252 13 := ⟨mo_252, gw9 65 rfl rfl, gw9 67 rfl rfl, gwp 93 (q := (⟨"HotThroughModel", "stepsOfWay", "()I"⟩, 72)) rfl, rfl, kr9_13.1, kr9_13.2, pm9_252, rfl⟩
theorem v_13_462 : VirtAt 13 462 255 13 := ⟨mo_255, gw9 77 rfl rfl, gw9 79 rfl rfl, gwp 94 (q := (⟨"HotThroughModel", "legOf", "(I)I"⟩, 72)) rfl, rfl, kr9_13.1, kr9_13.2, pm9_255, rfl⟩
theorem v_13_465 : VirtAt 13 465 262 13 := ⟨mo_262, gw9 106 rfl rfl, gw9 108 rfl rfl, gwp 99 (q := (⟨"HotThroughModel", "soloRests", "(II)V"⟩, 72)) rfl, rfl, kr9_13.1, kr9_13.2, pm9_262, rfl⟩
theorem v_13_471 : VirtAt 13 471 258 13 := ⟨mo_258, gw9 90 rfl rfl, gw9 92 rfl rfl, gwp 96 (q := (⟨"HotThroughModel", "isAhead", "(II)Z"⟩, 72)) rfl, rfl, kr9_13.1, kr9_13.2, pm9_258, rfl⟩
theorem v_13_474 : VirtAt 13 474 260 13 := ⟨mo_260, gw9 98 rfl rfl, gw9 100 rfl rfl, gwp 97 (q := (⟨"HotThroughModel", "canRest", "(I)Z"⟩, 72)) rfl, rfl, kr9_13.1, kr9_13.2, pm9_260, rfl⟩
theorem v_13_477 : VirtAt 13 477 261 13 := ⟨mo_261, gw9 102 rfl rfl, gw9 104 rfl rfl, gwp 98 (q := (⟨"HotThroughModel", "carries", "(III)Z"⟩, 72)) rfl, rfl, kr9_13.1, kr9_13.2, pm9_261, rfl⟩
theorem v_13_482 : VirtAt 13 482 257 13 := ⟨mo_257, gw9 86 rfl rfl, gw9 88 rfl rfl, gwp 95 (q := (⟨"HotThroughModel", "fewestRests", "(II)I"⟩, 72)) rfl, rfl, kr9_13.1, kr9_13.2, pm9_257, rfl⟩
theorem v_13_488 : VirtAt 13 488 265 13 := ⟨mo_265, gw9 118 rfl rfl, gw9 120 rfl rfl, gwp 100 (q := (⟨"HotThroughModel", "carriesOn", "(IIIIIII)V"⟩, 72)) rfl, rfl, kr9_13.1, kr9_13.2, pm9_265, rfl⟩
theorem v_13_498 : VirtAt 13 498 268 13 := ⟨mo_268, gw9 130 rfl rfl, gw9 132 rfl rfl, gwp 102 (q := (⟨"HotThroughModel", "coolsAll", "(II)V"⟩, 72)) rfl, rfl, kr9_13.1, kr9_13.2, pm9_268, rfl⟩
theorem v_13_501 : VirtAt 13 501 267 13 := ⟨mo_267, gw9 126 rfl rfl, gw9 128 rfl rfl, gwp 101 (q := (⟨"HotThroughModel", "brings", "(IIIIIIII)V"⟩, 72)) rfl, rfl, kr9_13.1, kr9_13.2, pm9_267, rfl⟩
theorem v_13_513 : VirtAt 13 513 273 13 := ⟨mo_273, gw9 151 rfl rfl, gw9 153 rfl rfl, gwp 104 (q := (⟨"HotThroughModel", "marksAt", "(II)I"⟩, 72)) rfl, rfl, kr9_13.1, kr9_13.2, pm9_273, rfl⟩
theorem v_13_519 : VirtAt 13 519 274 13 := ⟨mo_274, gw9 155 rfl rfl, gw9 157 rfl rfl, gwp 105 (q := (⟨"HotThroughModel", "isLess", "(I)Z"⟩, 72)) rfl, rfl, kr9_13.1, kr9_13.2, pm9_274, rfl⟩
theorem v_13_522 : VirtAt 13 522 272 13 := ⟨mo_272, gw9 147 rfl rfl, gw9 149 rfl rfl, gwp 103 (q := (⟨"HotThroughModel", "walksOn", "(IIIII)V"⟩, 72)) rfl, rfl, kr9_13.1, kr9_13.2, pm9_272, rfl⟩
theorem v_13_531 : VirtAt 13 531 279 13 := ⟨mo_279, gw9 178 rfl rfl, gw9 180 rfl rfl, gwp 106 (q := (⟨"HotThroughModel", "dropped", "()I"⟩, 72)) rfl, rfl, kr9_13.1, kr9_13.2, pm9_279, rfl⟩
theorem v_13_534 : VirtAt 13 534 280 13 := ⟨mo_280, gw9 182 rfl rfl, gw9 184 rfl rfl, gwp 107 (q := (⟨"HotThroughModel", "burntAll", "()I"⟩, 72)) rfl, rfl, kr9_13.1, kr9_13.2, pm9_280, rfl⟩
theorem v_1_104 : VirtAt 1 104 13 2 := ⟨mo_13, gw3 126 rfl rfl, gw3 127 rfl rfl, gw3 128 rfl rfl, rfl, kr9_2.1, kr9_2.2, pm9_13, rfl⟩
theorem v_1_108 : VirtAt 1 108 15 2 := ⟨mo_15, gw3 134 rfl rfl, gw3 135 rfl rfl, gw3 136 rfl rfl, rfl, kr9_2.1, kr9_2.2, pm9_15, rfl⟩
theorem v_1_116 : VirtAt 1 116 17 4 := ⟨mo_17, gw3 142 rfl rfl, gw3 143 rfl rfl, gw3 144 rfl rfl, rfl, kr9_4.1, kr9_4.2, pm9_17, rfl⟩
theorem v_1_120 : VirtAt 1 120 40 7 := ⟨mo_40, gw3 236 rfl rfl, gw3 237 rfl rfl, gw3 238 rfl rfl, rfl, kr9_7.1, kr9_7.2, pm9_40, rfl⟩
theorem v_1_126 : VirtAt 1 126 42 3 := ⟨mo_42, gw4 4 rfl rfl, gw4 5 rfl rfl, gw4 6 rfl rfl, rfl, kr9_3.1, kr9_3.2, pm9_42, rfl⟩
theorem v_1_129 : VirtAt 1 129 33 4 := ⟨mo_33, gw5 96 rfl rfl, gw3 209 rfl rfl, gw3 210 rfl rfl, rfl, kr9_4.1, kr9_4.2, pm9_33, rfl⟩
theorem v_1_142 : VirtAt 1 142 157 5 := ⟨mo_157, gw6 118 rfl rfl, gw6 119 rfl rfl, gw6 120 rfl rfl, rfl, kr9_5.1, kr9_5.2, pm9_157, rfl⟩
theorem v_1_149 : VirtAt 1 149 158 5 := ⟨mo_158, gw6 122 rfl rfl, gw6 123 rfl rfl, gw6 124 rfl rfl, rfl, kr9_5.1, kr9_5.2, pm9_158, rfl⟩
theorem v_1_152 : VirtAt 1 152 159 4 := ⟨mo_159, gw6 126 rfl rfl, gw6 127 rfl rfl, gw6 128 rfl rfl, rfl, kr9_4.1, kr9_4.2, pm9_159, rfl⟩
theorem v_1_155 : VirtAt 1 155 70 4 := ⟨mo_70, gw6 137 rfl rfl, gw4 129 rfl rfl, gw4 130 rfl rfl, rfl, kr9_4.1, kr9_4.2, pm9_70, rfl⟩
theorem v_1_167 : VirtAt 1 167 72 4 := ⟨mo_72, gw6 138 rfl rfl, gw4 137 rfl rfl, gw4 138 rfl rfl, rfl, kr9_4.1, kr9_4.2, pm9_72, rfl⟩
theorem v_1_173 : VirtAt 1 173 52 4 := ⟨mo_52, gw4 55 rfl rfl, gw4 56 rfl rfl, gw4 57 rfl rfl, rfl, kr9_4.1, kr9_4.2, pm9_52, rfl⟩
theorem v_1_191 : VirtAt 1 191 63 4 := ⟨mo_63, gw4 185 rfl rfl, gw4 99 rfl rfl, gw4 100 rfl rfl, rfl, kr9_4.1, kr9_4.2, pm9_63, rfl⟩
theorem v_1_215 : VirtAt 1 215 163 1 := ⟨mo_163, gw6 153 rfl rfl, gw6 155 rfl rfl, gwp 41 (q := (⟨"HotThrough", "throughNext", "(I)I"⟩, 15)) rfl, rfl, kr9_1.1, kr9_1.2, pm9_163, rfl⟩
theorem v_1_218 : VirtAt 1 218 75 6 := ⟨mo_75, gw5 53 rfl rfl, gw4 149 rfl rfl, gw4 150 rfl rfl, rfl, kr9_6.1, kr9_6.2, pm9_75, rfl⟩
theorem v_1_222 : VirtAt 1 222 78 3 := ⟨mo_78, gw6 157 rfl rfl, gw4 164 rfl rfl, gw4 165 rfl rfl, rfl, kr9_3.1, kr9_3.2, pm9_78, rfl⟩
theorem v_1_226 : VirtAt 1 226 53 5 := ⟨mo_53, gw4 59 rfl rfl, gw4 60 rfl rfl, gw4 61 rfl rfl, rfl, kr9_5.1, kr9_5.2, pm9_53, rfl⟩
theorem v_1_240 : VirtAt 1 240 58 7 := ⟨mo_58, gw4 78 rfl rfl, gw4 79 rfl rfl, gw4 80 rfl rfl, rfl, kr9_7.1, kr9_7.2, pm9_58, rfl⟩
theorem v_1_243 : VirtAt 1 243 62 7 := ⟨mo_62, gw4 94 rfl rfl, gw4 95 rfl rfl, gw4 96 rfl rfl, rfl, kr9_7.1, kr9_7.2, pm9_62, rfl⟩
theorem v_1_246 : VirtAt 1 246 64 7 := ⟨mo_64, gw4 103 rfl rfl, gw4 104 rfl rfl, gw4 105 rfl rfl, rfl, kr9_7.1, kr9_7.2, pm9_64, rfl⟩
theorem v_1_249 : VirtAt 1 249 66 7 := ⟨mo_66, gw4 111 rfl rfl, gw4 112 rfl rfl, gw4 113 rfl rfl, rfl, kr9_7.1, kr9_7.2, pm9_66, rfl⟩
theorem v_1_252 : VirtAt 1 252 68 7 := ⟨mo_68, gw4 120 rfl rfl, gw4 121 rfl rfl, gw4 122 rfl rfl, rfl, kr9_7.1, kr9_7.2, pm9_68, rfl⟩
theorem v_1_255 : VirtAt 1 255 83 1 := ⟨mo_83, gw4 186 rfl rfl, gw4 188 rfl rfl, gwp 16 (q := (⟨"HotThrough", "startRow", "()V"⟩, 15)) rfl, rfl, kr9_1.1, kr9_1.2, pm9_83, rfl⟩
theorem v_1_261 : VirtAt 1 261 84 1 := ⟨mo_84, gw4 190 rfl rfl, gw4 192 rfl rfl, gwp 17 (q := (⟨"HotThrough", "tell", "(J)V"⟩, 15)) rfl, rfl, kr9_1.1, kr9_1.2, pm9_84, rfl⟩
theorem v_1_265 : VirtAt 1 265 86 7 := ⟨mo_86, gw4 198 rfl rfl, gw4 199 rfl rfl, gw4 200 rfl rfl, rfl, kr9_7.1, kr9_7.2, pm9_86, rfl⟩
theorem v_1_274 : VirtAt 1 274 88 7 := ⟨mo_88, gw4 206 rfl rfl, gw4 207 rfl rfl, gw4 208 rfl rfl, rfl, kr9_7.1, kr9_7.2, pm9_88, rfl⟩
theorem v_1_277 : VirtAt 1 277 90 7 := ⟨mo_90, gw4 214 rfl rfl, gw4 215 rfl rfl, gw4 216 rfl rfl, rfl, kr9_7.1, kr9_7.2, pm9_90, rfl⟩
theorem v_1_280 : VirtAt 1 280 92 7 := ⟨mo_92, gw4 222 rfl rfl, gw4 223 rfl rfl, gw4 224 rfl rfl, rfl, kr9_7.1, kr9_7.2, pm9_92, rfl⟩
theorem v_1_283 : VirtAt 1 283 94 7 := ⟨mo_94, gw4 230 rfl rfl, gw4 231 rfl rfl, gw4 232 rfl rfl, rfl, kr9_7.1, kr9_7.2, pm9_94, rfl⟩
theorem v_1_286 : VirtAt 1 286 97 7 := ⟨mo_97, gw5 6 rfl rfl, gw5 7 rfl rfl, gw5 8 rfl rfl, rfl, kr9_7.1, kr9_7.2, pm9_97, rfl⟩
theorem v_1_287 : VirtAt 1 287 100 7 := ⟨mo_100, gw5 26 rfl rfl, gw5 27 rfl rfl, gw5 28 rfl rfl, rfl, kr9_7.1, kr9_7.2, pm9_100, rfl⟩
theorem v_1_290 : VirtAt 1 290 102 7 := ⟨mo_102, gw5 41 rfl rfl, gw5 42 rfl rfl, gw5 43 rfl rfl, rfl, kr9_7.1, kr9_7.2, pm9_102, rfl⟩
theorem v_1_294 : VirtAt 1 294 104 1 := ⟨mo_104, gw5 49 rfl rfl, gw5 51 rfl rfl, gwp 19 (q := (⟨"HotThrough", "holds", "(I)Z"⟩, 15)) rfl, rfl, kr9_1.1, kr9_1.2, pm9_104, rfl⟩
theorem v_1_297 : VirtAt 1 297 105 6 := ⟨mo_105, gw5 54 rfl rfl, gw5 55 rfl rfl, gw5 56 rfl rfl, rfl, kr9_6.1, kr9_6.2, pm9_105, rfl⟩
theorem v_1_304 : VirtAt 1 304 111 1 := ⟨mo_111, gw5 80 rfl rfl, gw5 82 rfl rfl, gwp 21 (q := (⟨"HotThrough", "mayHold", "(III)Z"⟩, 15)) rfl, rfl, kr9_1.1, kr9_1.2, pm9_111, rfl⟩
theorem v_1_310 : VirtAt 1 310 112 6 := ⟨mo_112, gw5 84 rfl rfl, gw5 85 rfl rfl, gw5 86 rfl rfl, rfl, kr9_6.1, kr9_6.2, pm9_112, rfl⟩
theorem v_1_313 : VirtAt 1 313 115 8 := ⟨mo_115, gw5 97 rfl rfl, gw5 98 rfl rfl, gw5 99 rfl rfl, rfl, kr9_8.1, kr9_8.2, pm9_115, rfl⟩
theorem v_1_324 : VirtAt 1 324 121 8 := ⟨mo_121, gw5 125 rfl rfl, gw5 126 rfl rfl, gw5 127 rfl rfl, rfl, kr9_8.1, kr9_8.2, pm9_121, rfl⟩
theorem v_1_338 : VirtAt 1 338 124 9 := ⟨mo_124, gw5 139 rfl rfl, gw5 140 rfl rfl, gw5 141 rfl rfl, rfl, kr9_9.1, kr9_9.2, pm9_124, rfl⟩
theorem v_1_345 : VirtAt 1 345 132 1 := ⟨mo_132, gw5 174 rfl rfl, gw5 176 rfl rfl, gwp 30 (q := (⟨"HotThrough", "areFree", "(I)Z"⟩, 15)) rfl, rfl, kr9_1.1, kr9_1.2, pm9_132, rfl⟩
theorem v_1_348 : VirtAt 1 348 133 10 := ⟨mo_133, gw5 178 rfl rfl, gw5 179 rfl rfl, gw5 180 rfl rfl, rfl, kr9_10.1, kr9_10.2, pm9_133, rfl⟩
theorem v_1_353 : VirtAt 1 353 137 1 := ⟨mo_137, gw5 197 rfl rfl, gw5 199 rfl rfl, gwp 33 (q := (⟨"HotThrough", "areOnPlaces", "(I)Z"⟩, 15)) rfl, rfl, kr9_1.1, kr9_1.2, pm9_137, rfl⟩
theorem v_1_356 : VirtAt 1 356 138 11 := ⟨mo_138, gw5 201 rfl rfl, gw5 202 rfl rfl, gw5 203 rfl rfl, rfl, kr9_11.1, kr9_11.2, pm9_138, rfl⟩
theorem v_1_361 : VirtAt 1 361 142 11 := ⟨mo_142, gw5 230 rfl rfl, gw5 221 rfl rfl, gw5 222 rfl rfl, rfl, kr9_11.1, kr9_11.2, pm9_142, rfl⟩
theorem v_1_364 : VirtAt 1 364 144 12 := ⟨mo_144, gw5 235 rfl rfl, gw5 236 rfl rfl, gw5 237 rfl rfl, rfl, kr9_12.1, kr9_12.2, pm9_144, rfl⟩
theorem v_1_368 : VirtAt 1 368 147 12 := ⟨mo_147, gw6 7 rfl rfl, gw6 8 rfl rfl, gw6 9 rfl rfl, rfl, kr9_12.1, kr9_12.2, pm9_147, rfl⟩
theorem v_1_378 : VirtAt 1 378 61 5 := ⟨mo_61, gw6 36 rfl rfl, gw4 90 rfl rfl, gw4 91 rfl rfl, rfl, kr9_5.1, kr9_5.2, pm9_61, rfl⟩
theorem v_1_390 : VirtAt 1 390 155 5 := ⟨mo_155, gw6 45 rfl rfl, gw6 46 rfl rfl, gw6 47 rfl rfl, rfl, kr9_5.1, kr9_5.2, pm9_155, rfl⟩
theorem v_2_38 : VirtAt 2 38 21 2 := ⟨mo_21, gw3 181 rfl rfl, gw3 158 rfl rfl, gw3 159 rfl rfl, rfl, kr9_2.1, kr9_2.2, pm9_21, rfl⟩
theorem v_2_42 : VirtAt 2 42 28 2 := ⟨mo_28, gw3 207 rfl rfl, gw3 187 rfl rfl, gw3 188 rfl rfl, rfl, kr9_2.1, kr9_2.2, pm9_28, rfl⟩
theorem v_2_46 : VirtAt 2 46 27 2 := ⟨mo_27, gw3 198 rfl rfl, gw3 183 rfl rfl, gw3 184 rfl rfl, rfl, kr9_2.1, kr9_2.2, pm9_27, rfl⟩
theorem v_2_50 : VirtAt 2 50 31 2 := ⟨mo_31, gw3 199 rfl rfl, gw3 200 rfl rfl, gw3 201 rfl rfl, rfl, kr9_2.1, kr9_2.2, pm9_31, rfl⟩
theorem v_3_110 : VirtAt 3 110 81 6 := ⟨mo_81, gw4 175 rfl rfl, gw4 176 rfl rfl, gw4 177 rfl rfl, rfl, kr9_6.1, kr9_6.2, pm9_81, rfl⟩
theorem v_3_21 : VirtAt 3 21 18 2 := ⟨mo_18, gw4 8 rfl rfl, gw3 147 rfl rfl, gw3 148 rfl rfl, rfl, kr9_2.1, kr9_2.2, pm9_18, rfl⟩
theorem v_3_31 : VirtAt 3 31 43 2 := ⟨mo_43, gw4 9 rfl rfl, gw4 10 rfl rfl, gw4 11 rfl rfl, rfl, kr9_2.1, kr9_2.2, pm9_43, rfl⟩
theorem v_3_35 : VirtAt 3 35 44 3 := ⟨mo_44, gw4 13 rfl rfl, gw4 15 rfl rfl, gwp 6 (q := (⟨"HotThrough$Rule", "expression", "(LHotThrough$Text;I)V"⟩, 5)) rfl, rfl, kr9_3.1, kr9_3.2, pm9_44, rfl⟩
theorem v_3_39 : VirtAt 3 39 39 2 := ⟨mo_39, gw4 47 rfl rfl, gw3 233 rfl rfl, gw3 234 rfl rfl, rfl, kr9_2.1, kr9_2.2, pm9_39, rfl⟩
theorem v_3_52 : VirtAt 3 52 45 3 := ⟨mo_45, gw4 17 rfl rfl, gw4 19 rfl rfl, gwp 7 (q := (⟨"HotThrough$Rule", "sum", "(LHotThrough$Text;I)V"⟩, 5)) rfl, rfl, kr9_3.1, kr9_3.2, pm9_45, rfl⟩
theorem v_3_55 : VirtAt 3 55 21 2 := ⟨mo_21, gw4 34 rfl rfl, gw3 158 rfl rfl, gw3 159 rfl rfl, rfl, kr9_2.1, kr9_2.2, pm9_21, rfl⟩
theorem v_3_58 : VirtAt 3 58 24 2 := ⟨mo_24, gw4 35 rfl rfl, gw3 170 rfl rfl, gw3 171 rfl rfl, rfl, kr9_2.1, kr9_2.2, pm9_24, rfl⟩
theorem v_3_61 : VirtAt 3 61 49 3 := ⟨mo_49, gw4 39 rfl rfl, gw4 41 rfl rfl, gwp 11 (q := (⟨"HotThrough$Rule", "emit", "(I)V"⟩, 5)) rfl, rfl, kr9_3.1, kr9_3.2, pm9_49, rfl⟩
theorem v_3_64 : VirtAt 3 64 46 3 := ⟨mo_46, gw4 21 rfl rfl, gw4 23 rfl rfl, gwp 8 (q := (⟨"HotThrough$Rule", "product", "(LHotThrough$Text;I)V"⟩, 5)) rfl, rfl, kr9_3.1, kr9_3.2, pm9_46, rfl⟩
theorem v_3_67 : VirtAt 3 67 47 3 := ⟨mo_47, gw4 25 rfl rfl, gw4 27 rfl rfl, gwp 9 (q := (⟨"HotThrough$Rule", "factor", "(LHotThrough$Text;I)V"⟩, 5)) rfl, rfl, kr9_3.1, kr9_3.2, pm9_47, rfl⟩
theorem v_3_70 : VirtAt 3 70 28 2 := ⟨mo_28, gw4 29 rfl rfl, gw3 187 rfl rfl, gw3 188 rfl rfl, rfl, kr9_2.1, kr9_2.2, pm9_28, rfl⟩
theorem v_3_74 : VirtAt 3 74 48 3 := ⟨mo_48, gw4 30 rfl rfl, gw4 32 rfl rfl, gwp 10 (q := (⟨"HotThrough$Rule", "thing", "(LHotThrough$Text;I)V"⟩, 5)) rfl, rfl, kr9_3.1, kr9_3.2, pm9_48, rfl⟩
theorem v_3_77 : VirtAt 3 77 32 2 := ⟨mo_32, gw4 36 rfl rfl, gw3 204 rfl rfl, gw3 205 rfl rfl, rfl, kr9_2.1, kr9_2.2, pm9_32, rfl⟩
theorem v_3_81 : VirtAt 3 81 31 2 := ⟨mo_31, gw4 37 rfl rfl, gw3 200 rfl rfl, gw3 201 rfl rfl, rfl, kr9_2.1, kr9_2.2, pm9_31, rfl⟩
theorem v_3_84 : VirtAt 3 84 30 2 := ⟨mo_30, gw4 38 rfl rfl, gw3 195 rfl rfl, gw3 196 rfl rfl, rfl, kr9_2.1, kr9_2.2, pm9_30, rfl⟩
theorem v_3_92 : VirtAt 3 92 23 2 := ⟨mo_23, gw4 46 rfl rfl, gw3 166 rfl rfl, gw3 167 rfl rfl, rfl, kr9_2.1, kr9_2.2, pm9_23, rfl⟩
theorem v_4_111 : VirtAt 4 111 30 2 := ⟨mo_30, gw3 194 rfl rfl, gw3 195 rfl rfl, gw3 196 rfl rfl, rfl, kr9_2.1, kr9_2.2, pm9_30, rfl⟩
theorem v_4_114 : VirtAt 4 114 32 2 := ⟨mo_32, gw3 203 rfl rfl, gw3 204 rfl rfl, gw3 205 rfl rfl, rfl, kr9_2.1, kr9_2.2, pm9_32, rfl⟩
theorem v_4_121 : VirtAt 4 121 33 4 := ⟨mo_33, gw3 208 rfl rfl, gw3 209 rfl rfl, gw3 210 rfl rfl, rfl, kr9_4.1, kr9_4.2, pm9_33, rfl⟩
theorem v_4_124 : VirtAt 4 124 34 2 := ⟨mo_34, gw3 212 rfl rfl, gw3 213 rfl rfl, gw3 214 rfl rfl, rfl, kr9_2.1, kr9_2.2, pm9_34, rfl⟩
theorem v_4_127 : VirtAt 4 127 35 5 := ⟨mo_35, gw3 216 rfl rfl, gw3 217 rfl rfl, gw3 218 rfl rfl, rfl, kr9_5.1, kr9_5.2, pm9_35, rfl⟩
theorem v_4_137 : VirtAt 4 137 37 5 := ⟨mo_37, gw3 224 rfl rfl, gw3 225 rfl rfl, gw3 226 rfl rfl, rfl, kr9_5.1, kr9_5.2, pm9_37, rfl⟩
theorem v_4_46 : VirtAt 4 46 72 4 := ⟨mo_72, gw4 136 rfl rfl, gw4 137 rfl rfl, gw4 138 rfl rfl, rfl, kr9_4.1, kr9_4.2, pm9_72, rfl⟩
theorem v_4_50 : VirtAt 4 50 70 4 := ⟨mo_70, gw4 128 rfl rfl, gw4 129 rfl rfl, gw4 130 rfl rfl, rfl, kr9_4.1, kr9_4.2, pm9_70, rfl⟩
theorem v_4_53 : VirtAt 4 53 18 2 := ⟨mo_18, gw3 146 rfl rfl, gw3 147 rfl rfl, gw3 148 rfl rfl, rfl, kr9_2.1, kr9_2.2, pm9_18, rfl⟩
theorem v_4_59 : VirtAt 4 59 20 4 := ⟨mo_20, gw3 153 rfl rfl, gw3 155 rfl rfl, gwp 0 (q := (⟨"HotThrough$Kitchen", "readLine", "(LHotThrough$Text;LHotThrough$State;)V"⟩, 11)) rfl, rfl, kr9_4.1, kr9_4.2, pm9_20, rfl⟩
theorem v_4_63 : VirtAt 4 63 28 2 := ⟨mo_28, gw3 186 rfl rfl, gw3 187 rfl rfl, gw3 188 rfl rfl, rfl, kr9_2.1, kr9_2.2, pm9_28, rfl⟩
theorem v_4_67 : VirtAt 4 67 39 2 := ⟨mo_39, gw3 232 rfl rfl, gw3 233 rfl rfl, gw3 234 rfl rfl, rfl, kr9_2.1, kr9_2.2, pm9_39, rfl⟩
theorem v_4_71 : VirtAt 4 71 21 2 := ⟨mo_21, gw3 157 rfl rfl, gw3 158 rfl rfl, gw3 159 rfl rfl, rfl, kr9_2.1, kr9_2.2, pm9_21, rfl⟩
theorem v_4_74 : VirtAt 4 74 22 4 := ⟨mo_22, gw3 161 rfl rfl, gw3 163 rfl rfl, gwp 1 (q := (⟨"HotThrough$Kitchen", "hasRoom", "(I)Z"⟩, 11)) rfl, rfl, kr9_4.1, kr9_4.2, pm9_22, rfl⟩
theorem v_4_77 : VirtAt 4 77 23 2 := ⟨mo_23, gw3 165 rfl rfl, gw3 166 rfl rfl, gw3 167 rfl rfl, rfl, kr9_2.1, kr9_2.2, pm9_23, rfl⟩
theorem v_4_80 : VirtAt 4 80 24 2 := ⟨mo_24, gw3 169 rfl rfl, gw3 170 rfl rfl, gw3 171 rfl rfl, rfl, kr9_2.1, kr9_2.2, pm9_24, rfl⟩
theorem v_4_83 : VirtAt 4 83 25 4 := ⟨mo_25, gw3 173 rfl rfl, gw3 175 rfl rfl, gwp 2 (q := (⟨"HotThrough$Kitchen", "readWay", "(LHotThrough$Text;LHotThrough$State;)V"⟩, 11)) rfl, rfl, kr9_4.1, kr9_4.2, pm9_25, rfl⟩
theorem v_4_86 : VirtAt 4 86 29 4 := ⟨mo_29, gw3 190 rfl rfl, gw3 192 rfl rfl, gwp 3 (q := (⟨"HotThrough$Kitchen", "readPot", "(LHotThrough$Text;LHotThrough$State;)V"⟩, 11)) rfl, rfl, kr9_4.1, kr9_4.2, pm9_29, rfl⟩
theorem v_4_89 : VirtAt 4 89 36 4 := ⟨mo_36, gw3 220 rfl rfl, gw3 222 rfl rfl, gwp 4 (q := (⟨"HotThrough$Kitchen", "readPerson", "(LHotThrough$Text;LHotThrough$State;)V"⟩, 11)) rfl, rfl, kr9_4.1, kr9_4.2, pm9_36, rfl⟩
theorem v_4_92 : VirtAt 4 92 38 4 := ⟨mo_38, gw3 228 rfl rfl, gw3 230 rfl rfl, gwp 5 (q := (⟨"HotThrough$Kitchen", "addPlace", "(I)V"⟩, 11)) rfl, rfl, kr9_4.1, kr9_4.2, pm9_38, rfl⟩
theorem v_4_95 : VirtAt 4 95 26 2 := ⟨mo_26, gw3 177 rfl rfl, gw3 178 rfl rfl, gw3 179 rfl rfl, rfl, kr9_2.1, kr9_2.2, pm9_26, rfl⟩
theorem v_4_99 : VirtAt 4 99 27 2 := ⟨mo_27, gw3 182 rfl rfl, gw3 183 rfl rfl, gw3 184 rfl rfl, rfl, kr9_2.1, kr9_2.2, pm9_27, rfl⟩
theorem v_6_100 : VirtAt 6 100 107 6 := ⟨mo_107, gw5 62 rfl rfl, gw5 63 rfl rfl, gw5 64 rfl rfl, rfl, kr9_6.1, kr9_6.2, pm9_107, rfl⟩
theorem v_6_104 : VirtAt 6 104 106 6 := ⟨mo_106, gw5 58 rfl rfl, gw5 60 rfl rfl, gwp 20 (q := (⟨"HotThrough$Carrier", "changeHands", "()V"⟩, 13)) rfl, rfl, kr9_6.1, kr9_6.2, pm9_106, rfl⟩
theorem v_6_23 : VirtAt 6 23 63 4 := ⟨mo_63, gw4 156 rfl rfl, gw4 99 rfl rfl, gw4 100 rfl rfl, rfl, kr9_4.1, kr9_4.2, pm9_63, rfl⟩
theorem v_6_63 : VirtAt 6 63 52 4 := ⟨mo_52, gw4 161 rfl rfl, gw4 56 rfl rfl, gw4 57 rfl rfl, rfl, kr9_4.1, kr9_4.2, pm9_52, rfl⟩
theorem v_6_85 : VirtAt 6 85 76 6 := ⟨mo_76, gw4 152 rfl rfl, gw4 153 rfl rfl, gw4 154 rfl rfl, rfl, kr9_6.1, kr9_6.2, pm9_76, rfl⟩
theorem v_6_88 : VirtAt 6 88 77 6 := ⟨mo_77, gw4 157 rfl rfl, gw4 158 rfl rfl, gw4 159 rfl rfl, rfl, kr9_6.1, kr9_6.2, pm9_77, rfl⟩
theorem v_6_91 : VirtAt 6 91 78 3 := ⟨mo_78, gw5 66 rfl rfl, gw4 164 rfl rfl, gw4 165 rfl rfl, rfl, kr9_3.1, kr9_3.2, pm9_78, rfl⟩
theorem v_7_104 : VirtAt 7 104 69 4 := ⟨mo_69, gw4 124 rfl rfl, gw4 125 rfl rfl, gw4 126 rfl rfl, rfl, kr9_4.1, kr9_4.2, pm9_69, rfl⟩
theorem v_7_110 : VirtAt 7 110 71 4 := ⟨mo_71, gw4 132 rfl rfl, gw4 133 rfl rfl, gw4 134 rfl rfl, rfl, kr9_4.1, kr9_4.2, pm9_71, rfl⟩
theorem v_7_117 : VirtAt 7 117 73 7 := ⟨mo_73, gw4 140 rfl rfl, gw4 142 rfl rfl, gwp 13 (q := (⟨"HotThrough$Acts", "second", "()V"⟩, 13)) rfl, rfl, kr9_7.1, kr9_7.2, pm9_73, rfl⟩
theorem v_7_123 : VirtAt 7 123 74 7 := ⟨mo_74, gw4 144 rfl rfl, gw4 146 rfl rfl, gwp 14 (q := (⟨"HotThrough$Acts", "hold", "(I)V"⟩, 13)) rfl, rfl, kr9_7.1, kr9_7.2, pm9_74, rfl⟩
theorem v_7_130 : VirtAt 7 130 82 7 := ⟨mo_82, gw4 180 rfl rfl, gw4 182 rfl rfl, gwp 15 (q := (⟨"HotThrough$Acts", "coolHand", "(I)V"⟩, 13)) rfl, rfl, kr9_7.1, kr9_7.2, pm9_82, rfl⟩
theorem v_7_148 : VirtAt 7 148 75 6 := ⟨mo_75, gw4 148 rfl rfl, gw4 149 rfl rfl, gw4 150 rfl rfl, rfl, kr9_6.1, kr9_6.2, pm9_75, rfl⟩
theorem v_7_155 : VirtAt 7 155 78 3 := ⟨mo_78, gw4 163 rfl rfl, gw4 164 rfl rfl, gw4 165 rfl rfl, rfl, kr9_3.1, kr9_3.2, pm9_78, rfl⟩
theorem v_7_178 : VirtAt 7 178 70 4 := ⟨mo_70, gw4 234 rfl rfl, gw4 129 rfl rfl, gw4 130 rfl rfl, rfl, kr9_4.1, kr9_4.2, pm9_70, rfl⟩
theorem v_7_181 : VirtAt 7 181 72 4 := ⟨mo_72, gw4 235 rfl rfl, gw4 137 rfl rfl, gw4 138 rfl rfl, rfl, kr9_4.1, kr9_4.2, pm9_72, rfl⟩
theorem v_7_189 : VirtAt 7 189 18 2 := ⟨mo_18, gw5 10 rfl rfl, gw3 147 rfl rfl, gw3 148 rfl rfl, rfl, kr9_2.1, kr9_2.2, pm9_18, rfl⟩
theorem v_7_193 : VirtAt 7 193 43 2 := ⟨mo_43, gw5 11 rfl rfl, gw4 10 rfl rfl, gw4 11 rfl rfl, rfl, kr9_2.1, kr9_2.2, pm9_43, rfl⟩
theorem v_7_197 : VirtAt 7 197 98 7 := ⟨mo_98, gw5 12 rfl rfl, gw5 14 rfl rfl, gwp 18 (q := (⟨"HotThrough$Acts", "readAct", "(LHotThrough$Text;I)V"⟩, 13)) rfl, rfl, kr9_7.1, kr9_7.2, pm9_98, rfl⟩
theorem v_7_201 : VirtAt 7 201 28 2 := ⟨mo_28, gw5 24 rfl rfl, gw3 187 rfl rfl, gw3 188 rfl rfl, rfl, kr9_2.1, kr9_2.2, pm9_28, rfl⟩
theorem v_7_205 : VirtAt 7 205 39 2 := ⟨mo_39, gw5 25 rfl rfl, gw3 233 rfl rfl, gw3 234 rfl rfl, rfl, kr9_2.1, kr9_2.2, pm9_39, rfl⟩
theorem v_7_209 : VirtAt 7 209 21 2 := ⟨mo_21, gw5 16 rfl rfl, gw3 158 rfl rfl, gw3 159 rfl rfl, rfl, kr9_2.1, kr9_2.2, pm9_21, rfl⟩
theorem v_7_215 : VirtAt 7 215 23 2 := ⟨mo_23, gw5 20 rfl rfl, gw3 166 rfl rfl, gw3 167 rfl rfl, rfl, kr9_2.1, kr9_2.2, pm9_23, rfl⟩
theorem v_7_218 : VirtAt 7 218 24 2 := ⟨mo_24, gw5 21 rfl rfl, gw3 170 rfl rfl, gw3 171 rfl rfl, rfl, kr9_2.1, kr9_2.2, pm9_24, rfl⟩
theorem v_7_221 : VirtAt 7 221 27 2 := ⟨mo_27, gw5 22 rfl rfl, gw3 183 rfl rfl, gw3 184 rfl rfl, rfl, kr9_2.1, kr9_2.2, pm9_27, rfl⟩
theorem v_7_224 : VirtAt 7 224 30 2 := ⟨mo_30, gw5 23 rfl rfl, gw3 195 rfl rfl, gw3 196 rfl rfl, rfl, kr9_2.1, kr9_2.2, pm9_30, rfl⟩
theorem v_7_227 : VirtAt 7 227 62 7 := ⟨mo_62, gw5 30 rfl rfl, gw4 95 rfl rfl, gw4 96 rfl rfl, rfl, kr9_7.1, kr9_7.2, pm9_62, rfl⟩
theorem v_7_230 : VirtAt 7 230 66 7 := ⟨mo_66, gw5 31 rfl rfl, gw4 112 rfl rfl, gw4 113 rfl rfl, rfl, kr9_7.1, kr9_7.2, pm9_66, rfl⟩
theorem v_7_233 : VirtAt 7 233 68 7 := ⟨mo_68, gw5 32 rfl rfl, gw4 121 rfl rfl, gw4 122 rfl rfl, rfl, kr9_7.1, kr9_7.2, pm9_68, rfl⟩
theorem v_7_236 : VirtAt 7 236 86 7 := ⟨mo_86, gw5 33 rfl rfl, gw4 199 rfl rfl, gw4 200 rfl rfl, rfl, kr9_7.1, kr9_7.2, pm9_86, rfl⟩
theorem v_7_239 : VirtAt 7 239 88 7 := ⟨mo_88, gw5 34 rfl rfl, gw4 207 rfl rfl, gw4 208 rfl rfl, rfl, kr9_7.1, kr9_7.2, pm9_88, rfl⟩
theorem v_7_242 : VirtAt 7 242 90 7 := ⟨mo_90, gw5 35 rfl rfl, gw4 215 rfl rfl, gw4 216 rfl rfl, rfl, kr9_7.1, kr9_7.2, pm9_90, rfl⟩
theorem v_7_245 : VirtAt 7 245 94 7 := ⟨mo_94, gw5 36 rfl rfl, gw4 231 rfl rfl, gw4 232 rfl rfl, rfl, kr9_7.1, kr9_7.2, pm9_94, rfl⟩
theorem v_7_57 : VirtAt 7 57 59 7 := ⟨mo_59, gw4 82 rfl rfl, gw4 84 rfl rfl, gwp 12 (q := (⟨"HotThrough$Acts", "slot", "(I)I"⟩, 13)) rfl, rfl, kr9_7.1, kr9_7.2, pm9_59, rfl⟩
theorem v_7_61 : VirtAt 7 61 61 5 := ⟨mo_61, gw4 89 rfl rfl, gw4 90 rfl rfl, gw4 91 rfl rfl, rfl, kr9_5.1, kr9_5.2, pm9_61, rfl⟩
theorem v_7_74 : VirtAt 7 74 63 4 := ⟨mo_63, gw4 98 rfl rfl, gw4 99 rfl rfl, gw4 100 rfl rfl, rfl, kr9_4.1, kr9_4.2, pm9_63, rfl⟩
theorem v_7_83 : VirtAt 7 83 52 4 := ⟨mo_52, gw4 102 rfl rfl, gw4 56 rfl rfl, gw4 57 rfl rfl, rfl, kr9_4.1, kr9_4.2, pm9_52, rfl⟩
theorem v_7_98 : VirtAt 7 98 33 4 := ⟨mo_33, gw4 115 rfl rfl, gw3 209 rfl rfl, gw3 210 rfl rfl, rfl, kr9_4.1, kr9_4.2, pm9_33, rfl⟩
theorem v_8_43 : VirtAt 8 43 71 4 := ⟨mo_71, gw5 101 rfl rfl, gw4 133 rfl rfl, gw4 134 rfl rfl, rfl, kr9_4.1, kr9_4.2, pm9_71, rfl⟩
theorem v_8_53 : VirtAt 8 53 116 8 := ⟨mo_116, gw5 102 rfl rfl, gw5 104 rfl rfl, gwp 22 (q := (⟨"HotThrough$Paths", "spread", "(II)Z"⟩, 9)) rfl, rfl, kr9_8.1, kr9_8.2, pm9_116, rfl⟩
theorem v_8_58 : VirtAt 8 58 118 8 := ⟨mo_118, gw5 112 rfl rfl, gw5 114 rfl rfl, gwp 24 (q := (⟨"HotThrough$Paths", "trace", "(II)V"⟩, 9)) rfl, rfl, kr9_8.1, kr9_8.2, pm9_118, rfl⟩
theorem v_8_66 : VirtAt 8 66 33 4 := ⟨mo_33, gw5 106 rfl rfl, gw3 209 rfl rfl, gw3 210 rfl rfl, rfl, kr9_4.1, kr9_4.2, pm9_33, rfl⟩
theorem v_8_79 : VirtAt 8 79 117 8 := ⟨mo_117, gw5 108 rfl rfl, gw5 110 rfl rfl, gwp 23 (q := (⟨"HotThrough$Paths", "relax", "(III)V"⟩, 9)) rfl, rfl, kr9_8.1, kr9_8.2, pm9_117, rfl⟩
theorem v_8_83 : VirtAt 8 83 119 8 := ⟨mo_119, gw5 116 rfl rfl, gw5 118 rfl rfl, gwp 25 (q := (⟨"HotThrough$Paths", "nextFrom", "(I)I"⟩, 9)) rfl, rfl, kr9_8.1, kr9_8.2, pm9_119, rfl⟩
theorem v_8_87 : VirtAt 8 87 69 4 := ⟨mo_69, gw5 120 rfl rfl, gw4 125 rfl rfl, gw4 126 rfl rfl, rfl, kr9_4.1, kr9_4.2, pm9_69, rfl⟩
theorem v_9_49 : VirtAt 9 49 75 6 := ⟨mo_75, gw5 143 rfl rfl, gw4 149 rfl rfl, gw4 150 rfl rfl, rfl, kr9_6.1, kr9_6.2, pm9_75, rfl⟩
theorem v_9_55 : VirtAt 9 55 125 9 := ⟨mo_125, gw5 144 rfl rfl, gw5 146 rfl rfl, gwp 26 (q := (⟨"HotThrough$Rester", "stop", "(II)V"⟩, 11)) rfl, rfl, kr9_9.1, kr9_9.2, pm9_125, rfl⟩
theorem v_9_64 : VirtAt 9 64 126 9 := ⟨mo_126, gw5 148 rfl rfl, gw5 150 rfl rfl, gwp 27 (q := (⟨"HotThrough$Rester", "arrived", "(I)V"⟩, 11)) rfl, rfl, kr9_9.1, kr9_9.2, pm9_126, rfl⟩
theorem v_9_74 : VirtAt 9 74 128 9 := ⟨mo_128, gw5 157 rfl rfl, gw5 159 rfl rfl, gwp 29 (q := (⟨"HotThrough$Rester", "goOn", "(II)V"⟩, 11)) rfl, rfl, kr9_9.1, kr9_9.2, pm9_128, rfl⟩
theorem v_9_85 : VirtAt 9 85 129 6 := ⟨mo_129, gw5 162 rfl rfl, gw5 163 rfl rfl, gw5 164 rfl rfl, rfl, kr9_6.1, kr9_6.2, pm9_129, rfl⟩
theorem v_9_91 : VirtAt 9 91 112 6 := ⟨mo_112, gw5 161 rfl rfl, gw5 85 rfl rfl, gw5 86 rfl rfl, rfl, kr9_6.1, kr9_6.2, pm9_112, rfl⟩
theorem v_9_95 : VirtAt 9 95 127 9 := ⟨mo_127, gw5 152 rfl rfl, gw5 154 rfl rfl, gwp 28 (q := (⟨"HotThrough$Rester", "isLess", "(I)Z"⟩, 11)) rfl, rfl, kr9_9.1, kr9_9.2, pm9_127, rfl⟩
theorem a_14 : ArrAt9 14 := ⟨by decide, by decide, gw1 86 rfl rfl⟩
theorem a_15 : ArrAt9 15 := ⟨by decide, by decide, gw3 121 rfl rfl⟩
theorem a_16 : ArrAt9 16 := ⟨by decide, by decide, gw7 148 rfl rfl⟩
theorem a_17 : ArrAt9 17 := ⟨by decide, by decide, gw1 63 rfl rfl⟩
theorem c_13_186 : StrAt 13 186 174 := ⟨mo_174, gw7 178 rfl rfl, gw7 179 rfl rfl, gw7 180 rfl rfl, by decide +kernel, by decide +kernel, by decide +kernel⟩
theorem c_13_192 : StrAt 13 192 175 := ⟨mo_175, gw7 188 rfl rfl, gw7 189 rfl rfl, gw7 190 rfl rfl, by decide +kernel, by decide +kernel, by decide +kernel⟩
theorem i_101_18 : SpecAt 101 18 2 := ⟨mo_2, Or.inr ⟨_, gwn 66 (w := Cond.methodLinkNest "HotThrough" (18) ({ cls := "HotThrough$Rule", name := "<init>", desc := "()V" }) "HotThrough") (by decide +kernel) rfl⟩, gw1 67 rfl rfl, by decide +kernel, by decide +kernel, by decide +kernel, by decide +kernel, by decide +kernel⟩
theorem i_101_25 : SpecAt 101 25 3 := ⟨mo_3, Or.inr ⟨_, gwn 89 (w := Cond.methodLinkNest "HotThrough" (25) ({ cls := "HotThrough$Kitchen", name := "<init>", desc := "()V" }) "HotThrough") (by decide +kernel) rfl⟩, gw1 90 rfl rfl, by decide +kernel, by decide +kernel, by decide +kernel, by decide +kernel, by decide +kernel⟩
theorem i_101_32 : SpecAt 101 32 4 := ⟨mo_4, Or.inr ⟨_, gwn 159 (w := Cond.methodLinkNest "HotThrough" (32) ({ cls := "HotThrough$State", name := "<init>", desc := "()V" }) "HotThrough") (by decide +kernel) rfl⟩, gw1 160 rfl rfl, by decide +kernel, by decide +kernel, by decide +kernel, by decide +kernel, by decide +kernel⟩
theorem i_101_39 : SpecAt 101 39 5 := ⟨mo_5, Or.inl (gw1 239 rfl rfl), gw2 0 rfl rfl, by decide +kernel, by decide +kernel, by decide +kernel, by decide +kernel, by decide +kernel⟩
theorem i_101_48 : SpecAt 101 48 6 := ⟨mo_6, Or.inl (gw2 58 rfl rfl), gw2 59 rfl rfl, by decide +kernel, by decide +kernel, by decide +kernel, by decide +kernel, by decide +kernel⟩
theorem i_101_57 : SpecAt 101 57 7 := ⟨mo_7, Or.inl (gw2 111 rfl rfl), gw2 112 rfl rfl, by decide +kernel, by decide +kernel, by decide +kernel, by decide +kernel, by decide +kernel⟩
theorem i_101_66 : SpecAt 101 66 8 := ⟨mo_8, Or.inl (gw2 156 rfl rfl), gw2 157 rfl rfl, by decide +kernel, by decide +kernel, by decide +kernel, by decide +kernel, by decide +kernel⟩
theorem i_101_75 : SpecAt 101 75 9 := ⟨mo_9, Or.inl (gw2 197 rfl rfl), gw2 198 rfl rfl, by decide +kernel, by decide +kernel, by decide +kernel, by decide +kernel, by decide +kernel⟩
theorem i_101_84 : SpecAt 101 84 10 := ⟨mo_10, Or.inl (gw2 226 rfl rfl), gw2 227 rfl rfl, by decide +kernel, by decide +kernel, by decide +kernel, by decide +kernel, by decide +kernel⟩
theorem i_101_9 : SpecAt 101 9 1 := ⟨mo_1, Or.inr ⟨_, gwn 35 (w := Cond.methodLinkNest "HotThrough" (9) ({ cls := "HotThrough$Text", name := "<init>", desc := "()V" }) "HotThrough") (by decide +kernel) rfl⟩, gw1 36 rfl rfl, by decide +kernel, by decide +kernel, by decide +kernel, by decide +kernel, by decide +kernel⟩
theorem i_101_91 : SpecAt 101 91 11 := ⟨mo_11, Or.inl (gw3 34 rfl rfl), gw3 35 rfl rfl, by decide +kernel, by decide +kernel, by decide +kernel, by decide +kernel, by decide +kernel⟩
theorem i_107_43 : SpecAt 107 43 4 := ⟨mo_4, Or.inr ⟨_, gwn 304 (w := Cond.methodLinkNest "HotThrough$Acts" (43) ({ cls := "HotThrough$State", name := "<init>", desc := "()V" }) "HotThrough") (by decide +kernel) rfl⟩, gw1 160 rfl rfl, by decide +kernel, by decide +kernel, by decide +kernel, by decide +kernel, by decide +kernel⟩
theorem kl_3 : KlsAt 3 := ⟨(List.forall_mem_cons.mpr ⟨ly_3_0, (List.forall_mem_cons.mpr ⟨ly_3_1, (List.forall_mem_cons.mpr ⟨ly_3_2, (List.forall_mem_cons.mpr ⟨ly_3_3, (List.forall_mem_cons.mpr ⟨ly_3_4, (fun _ h => nomatch h)⟩)⟩)⟩)⟩)⟩), pq9_3, by decide +kernel⟩
theorem n_101_16 : NewAt 101 16 3 := ⟨gw1 64 rfl rfl, gw1 65 rfl rfl, gw1 3 rfl rfl, by decide, by decide, kl_3⟩
theorem kl_4 : KlsAt 4 := ⟨(List.forall_mem_cons.mpr ⟨ly_4_0, (List.forall_mem_cons.mpr ⟨ly_4_1, (List.forall_mem_cons.mpr ⟨ly_4_2, (List.forall_mem_cons.mpr ⟨ly_4_3, (List.forall_mem_cons.mpr ⟨ly_4_4, (List.forall_mem_cons.mpr ⟨ly_4_5, (List.forall_mem_cons.mpr ⟨ly_4_6, (List.forall_mem_cons.mpr ⟨ly_4_7, (List.forall_mem_cons.mpr ⟨ly_4_8, (List.forall_mem_cons.mpr ⟨ly_4_9, (List.forall_mem_cons.mpr ⟨ly_4_10, (fun _ h => nomatch h)⟩)⟩)⟩)⟩)⟩)⟩)⟩)⟩)⟩)⟩)⟩), pq9_4, by decide +kernel⟩
theorem n_101_23 : NewAt 101 23 4 := ⟨gw1 87 rfl rfl, gw1 88 rfl rfl, gw1 4 rfl rfl, by decide, by decide, kl_4⟩
theorem kl_5 : KlsAt 5 := ⟨(List.forall_mem_cons.mpr ⟨ly_5_0, (List.forall_mem_cons.mpr ⟨ly_5_1, (List.forall_mem_cons.mpr ⟨ly_5_2, (List.forall_mem_cons.mpr ⟨ly_5_3, (List.forall_mem_cons.mpr ⟨ly_5_4, (List.forall_mem_cons.mpr ⟨ly_5_5, (List.forall_mem_cons.mpr ⟨ly_5_6, (List.forall_mem_cons.mpr ⟨ly_5_7, (List.forall_mem_cons.mpr ⟨ly_5_8, (List.forall_mem_cons.mpr ⟨ly_5_9, (List.forall_mem_cons.mpr ⟨ly_5_10, (List.forall_mem_cons.mpr ⟨ly_5_11, (fun _ h => nomatch h)⟩)⟩)⟩)⟩)⟩)⟩)⟩)⟩)⟩)⟩)⟩)⟩), pq9_5, by decide +kernel⟩
theorem n_101_30 : NewAt 101 30 5 := ⟨gw1 157 rfl rfl, gw1 158 rfl rfl, gw1 5 rfl rfl, by decide, by decide, kl_5⟩
theorem kl_6 : KlsAt 6 := ⟨(List.forall_mem_cons.mpr ⟨ly_6_0, (List.forall_mem_cons.mpr ⟨ly_6_1, (List.forall_mem_cons.mpr ⟨ly_6_2, (List.forall_mem_cons.mpr ⟨ly_6_3, (List.forall_mem_cons.mpr ⟨ly_6_4, (List.forall_mem_cons.mpr ⟨ly_6_5, (List.forall_mem_cons.mpr ⟨ly_6_6, (List.forall_mem_cons.mpr ⟨ly_6_7, (List.forall_mem_cons.mpr ⟨ly_6_8, (List.forall_mem_cons.mpr ⟨ly_6_9, (List.forall_mem_cons.mpr ⟨ly_6_10, (List.forall_mem_cons.mpr ⟨ly_6_11, (List.forall_mem_cons.mpr ⟨ly_6_12, (fun _ h => nomatch h)⟩)⟩)⟩)⟩)⟩)⟩)⟩)⟩)⟩)⟩)⟩)⟩)⟩), pq9_6, by decide +kernel⟩
theorem n_101_37 : NewAt 101 37 6 := ⟨gw1 237 rfl rfl, gw1 238 rfl rfl, gw1 6 rfl rfl, by decide, by decide, kl_6⟩
theorem kl_7 : KlsAt 7 := ⟨(List.forall_mem_cons.mpr ⟨ly_7_0, (List.forall_mem_cons.mpr ⟨ly_7_1, (List.forall_mem_cons.mpr ⟨ly_7_2, (List.forall_mem_cons.mpr ⟨ly_7_3, (List.forall_mem_cons.mpr ⟨ly_7_4, (List.forall_mem_cons.mpr ⟨ly_7_5, (List.forall_mem_cons.mpr ⟨ly_7_6, (List.forall_mem_cons.mpr ⟨ly_7_7, (List.forall_mem_cons.mpr ⟨ly_7_8, (List.forall_mem_cons.mpr ⟨ly_7_9, (List.forall_mem_cons.mpr ⟨ly_7_10, (List.forall_mem_cons.mpr ⟨ly_7_11, (List.forall_mem_cons.mpr ⟨ly_7_12, (fun _ h => nomatch h)⟩)⟩)⟩)⟩)⟩)⟩)⟩)⟩)⟩)⟩)⟩)⟩)⟩), pq9_7, by decide +kernel⟩
theorem n_101_46 : NewAt 101 46 7 := ⟨gw2 56 rfl rfl, gw2 57 rfl rfl, gw1 7 rfl rfl, by decide, by decide, kl_7⟩
theorem kl_8 : KlsAt 8 := ⟨(List.forall_mem_cons.mpr ⟨ly_8_0, (List.forall_mem_cons.mpr ⟨ly_8_1, (List.forall_mem_cons.mpr ⟨ly_8_2, (List.forall_mem_cons.mpr ⟨ly_8_3, (List.forall_mem_cons.mpr ⟨ly_8_4, (List.forall_mem_cons.mpr ⟨ly_8_5, (List.forall_mem_cons.mpr ⟨ly_8_6, (List.forall_mem_cons.mpr ⟨ly_8_7, (List.forall_mem_cons.mpr ⟨ly_8_8, (fun _ h => nomatch h)⟩)⟩)⟩)⟩)⟩)⟩)⟩)⟩)⟩), pq9_8, by decide +kernel⟩
theorem n_101_55 : NewAt 101 55 8 := ⟨gw2 109 rfl rfl, gw2 110 rfl rfl, gw1 8 rfl rfl, by decide, by decide, kl_8⟩
theorem kl_9 : KlsAt 9 := ⟨(List.forall_mem_cons.mpr ⟨ly_9_0, (List.forall_mem_cons.mpr ⟨ly_9_1, (List.forall_mem_cons.mpr ⟨ly_9_2, (List.forall_mem_cons.mpr ⟨ly_9_3, (List.forall_mem_cons.mpr ⟨ly_9_4, (List.forall_mem_cons.mpr ⟨ly_9_5, (List.forall_mem_cons.mpr ⟨ly_9_6, (List.forall_mem_cons.mpr ⟨ly_9_7, (List.forall_mem_cons.mpr ⟨ly_9_8, (List.forall_mem_cons.mpr ⟨ly_9_9, (List.forall_mem_cons.mpr ⟨ly_9_10, (fun _ h => nomatch h)⟩)⟩)⟩)⟩)⟩)⟩)⟩)⟩)⟩)⟩)⟩), pq9_9, by decide +kernel⟩
theorem n_101_64 : NewAt 101 64 9 := ⟨gw2 154 rfl rfl, gw2 155 rfl rfl, gw1 9 rfl rfl, by decide, by decide, kl_9⟩
theorem kl_2 : KlsAt 2 := ⟨(List.forall_mem_cons.mpr ⟨ly_2_0, (List.forall_mem_cons.mpr ⟨ly_2_1, (List.forall_mem_cons.mpr ⟨ly_2_2, (List.forall_mem_cons.mpr ⟨ly_2_3, (List.forall_mem_cons.mpr ⟨ly_2_4, (List.forall_mem_cons.mpr ⟨ly_2_5, (fun _ h => nomatch h)⟩)⟩)⟩)⟩)⟩)⟩), pq9_2, by decide +kernel⟩
theorem n_101_7 : NewAt 101 7 2 := ⟨gw1 33 rfl rfl, gw1 34 rfl rfl, gw1 2 rfl rfl, by decide, by decide, kl_2⟩
theorem kl_10 : KlsAt 10 := ⟨(List.forall_mem_cons.mpr ⟨ly_10_0, (List.forall_mem_cons.mpr ⟨ly_10_1, (List.forall_mem_cons.mpr ⟨ly_10_2, (List.forall_mem_cons.mpr ⟨ly_10_3, (List.forall_mem_cons.mpr ⟨ly_10_4, (List.forall_mem_cons.mpr ⟨ly_10_5, (List.forall_mem_cons.mpr ⟨ly_10_6, (fun _ h => nomatch h)⟩)⟩)⟩)⟩)⟩)⟩)⟩), pq9_10, by decide +kernel⟩
theorem n_101_73 : NewAt 101 73 10 := ⟨gw2 195 rfl rfl, gw2 196 rfl rfl, gw1 10 rfl rfl, by decide, by decide, kl_10⟩
theorem kl_11 : KlsAt 11 := ⟨(List.forall_mem_cons.mpr ⟨ly_11_0, (List.forall_mem_cons.mpr ⟨ly_11_1, (List.forall_mem_cons.mpr ⟨ly_11_2, (List.forall_mem_cons.mpr ⟨ly_11_3, (List.forall_mem_cons.mpr ⟨ly_11_4, (List.forall_mem_cons.mpr ⟨ly_11_5, (List.forall_mem_cons.mpr ⟨ly_11_6, (List.forall_mem_cons.mpr ⟨ly_11_7, (List.forall_mem_cons.mpr ⟨ly_11_8, (List.forall_mem_cons.mpr ⟨ly_11_9, (List.forall_mem_cons.mpr ⟨ly_11_10, (List.forall_mem_cons.mpr ⟨ly_11_11, (List.forall_mem_cons.mpr ⟨ly_11_12, (fun _ h => nomatch h)⟩)⟩)⟩)⟩)⟩)⟩)⟩)⟩)⟩)⟩)⟩)⟩)⟩), pq9_11, by decide +kernel⟩
theorem n_101_82 : NewAt 101 82 11 := ⟨gw2 224 rfl rfl, gw2 225 rfl rfl, gw1 11 rfl rfl, by decide, by decide, kl_11⟩
theorem kl_12 : KlsAt 12 := ⟨(List.forall_mem_cons.mpr ⟨ly_12_0, (List.forall_mem_cons.mpr ⟨ly_12_1, (List.forall_mem_cons.mpr ⟨ly_12_2, (List.forall_mem_cons.mpr ⟨ly_12_3, (List.forall_mem_cons.mpr ⟨ly_12_4, (List.forall_mem_cons.mpr ⟨ly_12_5, (List.forall_mem_cons.mpr ⟨ly_12_6, (List.forall_mem_cons.mpr ⟨ly_12_7, (List.forall_mem_cons.mpr ⟨ly_12_8, (List.forall_mem_cons.mpr ⟨ly_12_9, (List.forall_mem_cons.mpr ⟨ly_12_10, (fun _ h => nomatch h)⟩)⟩)⟩)⟩)⟩)⟩)⟩)⟩)⟩)⟩)⟩), pq9_12, by decide +kernel⟩
theorem n_101_89 : NewAt 101 89 12 := ⟨gw3 32 rfl rfl, gw3 33 rfl rfl, gw1 12 rfl rfl, by decide, by decide, kl_12⟩
theorem n_107_9 : NewAt 107 9 5 := ⟨gw2 62 rfl rfl, gw1 158 rfl rfl, gw1 5 rfl rfl, by decide, by decide, kl_5⟩
theorem o_101_1 : ObjAt 101 1 := ⟨gw1 30 rfl rfl, gw1 31 rfl rfl, gw1 32 rfl rfl⟩
theorem o_102_3 : ObjAt 102 3 := ⟨gw1 38 rfl rfl, gw1 31 rfl rfl, gw1 32 rfl rfl⟩
theorem o_103_3 : ObjAt 103 3 := ⟨gw1 69 rfl rfl, gw1 31 rfl rfl, gw1 32 rfl rfl⟩
theorem o_104_3 : ObjAt 104 3 := ⟨gw1 92 rfl rfl, gw1 31 rfl rfl, gw1 32 rfl rfl⟩
theorem o_105_3 : ObjAt 105 3 := ⟨gw1 162 rfl rfl, gw1 31 rfl rfl, gw1 32 rfl rfl⟩
theorem o_106_3 : ObjAt 106 3 := ⟨gw2 2 rfl rfl, gw1 31 rfl rfl, gw1 32 rfl rfl⟩
theorem o_107_3 : ObjAt 107 3 := ⟨gw2 61 rfl rfl, gw1 31 rfl rfl, gw1 32 rfl rfl⟩
theorem o_108_5 : ObjAt 108 5 := ⟨gw2 114 rfl rfl, gw1 31 rfl rfl, gw1 32 rfl rfl⟩
theorem o_109_3 : ObjAt 109 3 := ⟨gw2 159 rfl rfl, gw1 31 rfl rfl, gw1 32 rfl rfl⟩
theorem o_110_3 : ObjAt 110 3 := ⟨gw2 200 rfl rfl, gw1 31 rfl rfl, gw1 32 rfl rfl⟩
theorem o_111_3 : ObjAt 111 3 := ⟨gw2 229 rfl rfl, gw1 31 rfl rfl, gw1 32 rfl rfl⟩
theorem o_112_3 : ObjAt 112 3 := ⟨gw3 37 rfl rfl, gw1 31 rfl rfl, gw1 32 rfl rfl⟩
theorem o_113_3 : ObjAt 113 3 := ⟨gw6 170 rfl rfl, gw1 31 rfl rfl, gw1 32 rfl rfl⟩
theorem q_101_30 : QarAt 101 30 := ⟨gw1 157 rfl rfl, gwn 303 (w := Cond.arrayOver (.object "HotThrough$State")) (by decide +kernel) rfl⟩
theorem q_107_9 : QarAt 107 9 := ⟨gw2 62 rfl rfl, gwn 303 (w := Cond.arrayOver (.object "HotThrough$State")) (by decide +kernel) rfl⟩
theorem t_13_207 : TexAt 13 207 1 := ⟨rfl, by decide, rfl⟩
theorem t_13_218 : TexAt 13 218 2 := ⟨rfl, by decide, rfl⟩
theorem t_13_236 : TexAt 13 236 0 := ⟨rfl, by decide, rfl⟩
theorem t_13_276 : TexAt 13 276 3 := ⟨rfl, by decide, rfl⟩
theorem t_13_281 : TexAt 13 281 4 := ⟨rfl, by decide, rfl⟩
theorem t_13_283 : TexAt 13 283 5 := ⟨rfl, by decide, rfl⟩
theorem t_13_285 : TexAt 13 285 6 := ⟨rfl, by decide, rfl⟩
theorem t_13_402 : TexAt 13 402 7 := ⟨rfl, by decide, rfl⟩
theorem y_11_120 : CpyAt 11 120 := ⟨gw5 226 rfl rfl, gw4 50 rfl rfl, gw4 49 rfl rfl, gw1 19 rfl rfl⟩
theorem y_12_86 : CpyAt 12 86 := ⟨gw6 20 rfl rfl, gw4 50 rfl rfl, gw4 49 rfl rfl, gw1 19 rfl rfl⟩
theorem y_3_43 : CpyAt 3 43 := ⟨gw4 48 rfl rfl, gw4 50 rfl rfl, gw4 49 rfl rfl, gw1 19 rfl rfl⟩
theorem y_5_39 : CpyAt 5 39 := ⟨gw4 93 rfl rfl, gw4 50 rfl rfl, gw4 49 rfl rfl, gw1 19 rfl rfl⟩
theorem y_9_99 : CpyAt 9 99 := ⟨gw5 156 rfl rfl, gw4 50 rfl rfl, gw4 49 rfl rfl, gw1 19 rfl rfl⟩
theorem zf_101_10 : FldFin 101 10 1 0 := ⟨f_101_10, by decide +kernel, by decide +kernel⟩
theorem zf_101_100 : FldFin 101 100 1 13 := ⟨f_101_100, by decide +kernel, by decide +kernel⟩
theorem zf_101_19 : FldFin 101 19 1 1 := ⟨f_101_19, by decide +kernel, by decide +kernel⟩
theorem zf_101_26 : FldFin 101 26 1 2 := ⟨f_101_26, by decide +kernel, by decide +kernel⟩
theorem zf_101_33 : FldFin 101 33 1 3 := ⟨f_101_33, by decide +kernel, by decide +kernel⟩
theorem zf_101_42 : FldFin 101 42 1 4 := ⟨f_101_42, by decide +kernel, by decide +kernel⟩
theorem zf_101_51 : FldFin 101 51 1 5 := ⟨f_101_51, by decide +kernel, by decide +kernel⟩
theorem zf_101_60 : FldFin 101 60 1 6 := ⟨f_101_60, by decide +kernel, by decide +kernel⟩
theorem zf_101_69 : FldFin 101 69 1 7 := ⟨f_101_69, by decide +kernel, by decide +kernel⟩
theorem zf_101_78 : FldFin 101 78 1 8 := ⟨f_101_78, by decide +kernel, by decide +kernel⟩
theorem zf_101_85 : FldFin 101 85 1 9 := ⟨f_101_85, by decide +kernel, by decide +kernel⟩
theorem zf_101_92 : FldFin 101 92 1 10 := ⟨f_101_92, by decide +kernel, by decide +kernel⟩
theorem zf_101_96 : FldFin 101 96 1 11 := ⟨f_101_96, by decide +kernel, by decide +kernel⟩
theorem zf_102_9 : FldFin 102 9 2 0 := ⟨f_102_9, by decide +kernel, by decide +kernel⟩
theorem zf_103_15 : FldFin 103 15 3 2 := ⟨f_103_15, by decide +kernel, by decide +kernel⟩
theorem zf_103_18 : FldFin 103 18 3 4 := ⟨f_103_18, by decide +kernel, by decide +kernel⟩
theorem zf_103_9 : FldFin 103 9 3 0 := ⟨f_103_9, by decide +kernel, by decide +kernel⟩
theorem zf_104_15 : FldFin 104 15 4 5 := ⟨f_104_15, by decide +kernel, by decide +kernel⟩
theorem zf_104_18 : FldFin 104 18 4 6 := ⟨f_104_18, by decide +kernel, by decide +kernel⟩
theorem zf_104_21 : FldFin 104 21 4 7 := ⟨f_104_21, by decide +kernel, by decide +kernel⟩
theorem zf_104_24 : FldFin 104 24 4 9 := ⟨f_104_24, by decide +kernel, by decide +kernel⟩
theorem zf_104_27 : FldFin 104 27 4 10 := ⟨f_104_27, by decide +kernel, by decide +kernel⟩
theorem zf_104_9 : FldFin 104 9 4 4 := ⟨f_104_9, by decide +kernel, by decide +kernel⟩
theorem zf_105_15 : FldFin 105 15 5 1 := ⟨f_105_15, by decide +kernel, by decide +kernel⟩
theorem zf_105_18 : FldFin 105 18 5 2 := ⟨f_105_18, by decide +kernel, by decide +kernel⟩
theorem zf_105_21 : FldFin 105 21 5 4 := ⟨f_105_21, by decide +kernel, by decide +kernel⟩
theorem zf_105_24 : FldFin 105 24 5 5 := ⟨f_105_24, by decide +kernel, by decide +kernel⟩
theorem zf_105_27 : FldFin 105 27 5 6 := ⟨f_105_27, by decide +kernel, by decide +kernel⟩
theorem zf_105_30 : FldFin 105 30 5 7 := ⟨f_105_30, by decide +kernel, by decide +kernel⟩
theorem zf_105_33 : FldFin 105 33 5 8 := ⟨f_105_33, by decide +kernel, by decide +kernel⟩
theorem zf_105_36 : FldFin 105 36 5 9 := ⟨f_105_36, by decide +kernel, by decide +kernel⟩
theorem zf_105_9 : FldFin 105 9 5 0 := ⟨f_105_9, by decide +kernel, by decide +kernel⟩
theorem zf_106_15 : FldFin 106 15 6 1 := ⟨f_106_15, by decide +kernel, by decide +kernel⟩
theorem zf_106_19 : FldFin 106 19 6 2 := ⟨f_106_19, by decide +kernel, by decide +kernel⟩
theorem zf_106_9 : FldFin 106 9 6 0 := ⟨f_106_9, by decide +kernel, by decide +kernel⟩
theorem zf_107_11 : FldFin 107 11 7 7 := ⟨f_107_11, by decide +kernel, by decide +kernel⟩
theorem zf_107_17 : FldFin 107 17 7 10 := ⟨f_107_17, by decide +kernel, by decide +kernel⟩
theorem zf_107_21 : FldFin 107 21 7 11 := ⟨f_107_21, by decide +kernel, by decide +kernel⟩
theorem zf_107_24 : FldFin 107 24 7 12 := ⟨f_107_24, by decide +kernel, by decide +kernel⟩
theorem zf_107_27 : FldFin 107 27 7 0 := ⟨f_107_27, by decide +kernel, by decide +kernel⟩
theorem zf_107_31 : FldFin 107 31 7 1 := ⟨f_107_31, by decide +kernel, by decide +kernel⟩
theorem zf_107_35 : FldFin 107 35 7 2 := ⟨f_107_35, by decide +kernel, by decide +kernel⟩
theorem zf_107_39 : FldFin 107 39 7 3 := ⟨f_107_39, by decide +kernel, by decide +kernel⟩
theorem zf_108_11 : FldFin 108 11 8 2 := ⟨f_108_11, by decide +kernel, by decide +kernel⟩
theorem zf_108_15 : FldFin 108 15 8 3 := ⟨f_108_15, by decide +kernel, by decide +kernel⟩
theorem zf_108_18 : FldFin 108 18 8 4 := ⟨f_108_18, by decide +kernel, by decide +kernel⟩
theorem zf_108_21 : FldFin 108 21 8 5 := ⟨f_108_21, by decide +kernel, by decide +kernel⟩
theorem zf_108_24 : FldFin 108 24 8 0 := ⟨f_108_24, by decide +kernel, by decide +kernel⟩
theorem zf_108_28 : FldFin 108 28 8 1 := ⟨f_108_28, by decide +kernel, by decide +kernel⟩
theorem zf_109_15 : FldFin 109 15 9 4 := ⟨f_109_15, by decide +kernel, by decide +kernel⟩
theorem zf_109_18 : FldFin 109 18 9 5 := ⟨f_109_18, by decide +kernel, by decide +kernel⟩
theorem zf_109_21 : FldFin 109 21 9 6 := ⟨f_109_21, by decide +kernel, by decide +kernel⟩
theorem zf_109_24 : FldFin 109 24 9 7 := ⟨f_109_24, by decide +kernel, by decide +kernel⟩
theorem zf_109_27 : FldFin 109 27 9 0 := ⟨f_109_27, by decide +kernel, by decide +kernel⟩
theorem zf_109_31 : FldFin 109 31 9 1 := ⟨f_109_31, by decide +kernel, by decide +kernel⟩
theorem zf_109_35 : FldFin 109 35 9 2 := ⟨f_109_35, by decide +kernel, by decide +kernel⟩
theorem zf_109_9 : FldFin 109 9 9 3 := ⟨f_109_9, by decide +kernel, by decide +kernel⟩
theorem zf_110_15 : FldFin 110 15 10 5 := ⟨f_110_15, by decide +kernel, by decide +kernel⟩
theorem zf_110_18 : FldFin 110 18 10 0 := ⟨f_110_18, by decide +kernel, by decide +kernel⟩
theorem zf_110_22 : FldFin 110 22 10 1 := ⟨f_110_22, by decide +kernel, by decide +kernel⟩
theorem zf_110_26 : FldFin 110 26 10 2 := ⟨f_110_26, by decide +kernel, by decide +kernel⟩
theorem zf_110_30 : FldFin 110 30 10 3 := ⟨f_110_30, by decide +kernel, by decide +kernel⟩
theorem zf_110_9 : FldFin 110 9 10 4 := ⟨f_110_9, by decide +kernel, by decide +kernel⟩
theorem zf_111_15 : FldFin 111 15 11 5 := ⟨f_111_15, by decide +kernel, by decide +kernel⟩
theorem zf_111_18 : FldFin 111 18 11 6 := ⟨f_111_18, by decide +kernel, by decide +kernel⟩
theorem zf_111_21 : FldFin 111 21 11 7 := ⟨f_111_21, by decide +kernel, by decide +kernel⟩
theorem zf_111_24 : FldFin 111 24 11 8 := ⟨f_111_24, by decide +kernel, by decide +kernel⟩
theorem zf_111_27 : FldFin 111 27 11 0 := ⟨f_111_27, by decide +kernel, by decide +kernel⟩
theorem zf_111_31 : FldFin 111 31 11 1 := ⟨f_111_31, by decide +kernel, by decide +kernel⟩
theorem zf_111_35 : FldFin 111 35 11 2 := ⟨f_111_35, by decide +kernel, by decide +kernel⟩
theorem zf_111_39 : FldFin 111 39 11 3 := ⟨f_111_39, by decide +kernel, by decide +kernel⟩
theorem zf_111_9 : FldFin 111 9 11 4 := ⟨f_111_9, by decide +kernel, by decide +kernel⟩
theorem zf_112_15 : FldFin 112 15 12 3 := ⟨f_112_15, by decide +kernel, by decide +kernel⟩
theorem zf_112_18 : FldFin 112 18 12 5 := ⟨f_112_18, by decide +kernel, by decide +kernel⟩
theorem zf_112_21 : FldFin 112 21 12 6 := ⟨f_112_21, by decide +kernel, by decide +kernel⟩
theorem zf_112_24 : FldFin 112 24 12 7 := ⟨f_112_24, by decide +kernel, by decide +kernel⟩
theorem zf_112_27 : FldFin 112 27 12 0 := ⟨f_112_27, by decide +kernel, by decide +kernel⟩
theorem zf_112_31 : FldFin 112 31 12 1 := ⟨f_112_31, by decide +kernel, by decide +kernel⟩
theorem zf_112_9 : FldFin 112 9 12 2 := ⟨f_112_9, by decide +kernel, by decide +kernel⟩
theorem zf_113_102 : FldFin 113 102 13 61 := ⟨f_113_102, by decide +kernel, by decide +kernel⟩
theorem zf_113_105 : FldFin 113 105 13 63 := ⟨f_113_105, by decide +kernel, by decide +kernel⟩
theorem zf_113_108 : FldFin 113 108 13 64 := ⟨f_113_108, by decide +kernel, by decide +kernel⟩
theorem zf_113_111 : FldFin 113 111 13 67 := ⟨f_113_111, by decide +kernel, by decide +kernel⟩
theorem zf_113_114 : FldFin 113 114 13 68 := ⟨f_113_114, by decide +kernel, by decide +kernel⟩
theorem zf_113_117 : FldFin 113 117 13 69 := ⟨f_113_117, by decide +kernel, by decide +kernel⟩
theorem zf_113_120 : FldFin 113 120 13 70 := ⟨f_113_120, by decide +kernel, by decide +kernel⟩
theorem zf_113_123 : FldFin 113 123 13 71 := ⟨f_113_123, by decide +kernel, by decide +kernel⟩
theorem zf_113_13 : FldFin 113 13 13 8 := ⟨f_113_13, by decide +kernel, by decide +kernel⟩
theorem zf_113_17 : FldFin 113 17 13 9 := ⟨f_113_17, by decide +kernel, by decide +kernel⟩
theorem zf_113_20 : FldFin 113 20 13 10 := ⟨f_113_20, by decide +kernel, by decide +kernel⟩
theorem zf_113_23 : FldFin 113 23 13 11 := ⟨f_113_23, by decide +kernel, by decide +kernel⟩
theorem zf_113_26 : FldFin 113 26 13 12 := ⟨f_113_26, by decide +kernel, by decide +kernel⟩
theorem zf_113_30 : FldFin 113 30 13 13 := ⟨f_113_30, by decide +kernel, by decide +kernel⟩
theorem zf_113_33 : FldFin 113 33 13 14 := ⟨f_113_33, by decide +kernel, by decide +kernel⟩
theorem zf_113_36 : FldFin 113 36 13 15 := ⟨f_113_36, by decide +kernel, by decide +kernel⟩
theorem zf_113_39 : FldFin 113 39 13 16 := ⟨f_113_39, by decide +kernel, by decide +kernel⟩
theorem zf_113_42 : FldFin 113 42 13 17 := ⟨f_113_42, by decide +kernel, by decide +kernel⟩
theorem zf_113_45 : FldFin 113 45 13 22 := ⟨f_113_45, by decide +kernel, by decide +kernel⟩
theorem zf_113_48 : FldFin 113 48 13 23 := ⟨f_113_48, by decide +kernel, by decide +kernel⟩
theorem zf_113_51 : FldFin 113 51 13 24 := ⟨f_113_51, by decide +kernel, by decide +kernel⟩
theorem zf_113_54 : FldFin 113 54 13 25 := ⟨f_113_54, by decide +kernel, by decide +kernel⟩
theorem zf_113_57 : FldFin 113 57 13 30 := ⟨f_113_57, by decide +kernel, by decide +kernel⟩
theorem zf_113_60 : FldFin 113 60 13 31 := ⟨f_113_60, by decide +kernel, by decide +kernel⟩
theorem zf_113_63 : FldFin 113 63 13 34 := ⟨f_113_63, by decide +kernel, by decide +kernel⟩
theorem zf_113_66 : FldFin 113 66 13 35 := ⟨f_113_66, by decide +kernel, by decide +kernel⟩
theorem zf_113_69 : FldFin 113 69 13 40 := ⟨f_113_69, by decide +kernel, by decide +kernel⟩
theorem zf_113_72 : FldFin 113 72 13 41 := ⟨f_113_72, by decide +kernel, by decide +kernel⟩
theorem zf_113_75 : FldFin 113 75 13 42 := ⟨f_113_75, by decide +kernel, by decide +kernel⟩
theorem zf_113_78 : FldFin 113 78 13 43 := ⟨f_113_78, by decide +kernel, by decide +kernel⟩
theorem zf_113_81 : FldFin 113 81 13 50 := ⟨f_113_81, by decide +kernel, by decide +kernel⟩
theorem zf_113_84 : FldFin 113 84 13 51 := ⟨f_113_84, by decide +kernel, by decide +kernel⟩
theorem zf_113_87 : FldFin 113 87 13 52 := ⟨f_113_87, by decide +kernel, by decide +kernel⟩
theorem zf_113_9 : FldFin 113 9 13 2 := ⟨f_113_9, by decide +kernel, by decide +kernel⟩
theorem zf_113_90 : FldFin 113 90 13 54 := ⟨f_113_90, by decide +kernel, by decide +kernel⟩
theorem zf_113_93 : FldFin 113 93 13 55 := ⟨f_113_93, by decide +kernel, by decide +kernel⟩
theorem zf_113_96 : FldFin 113 96 13 57 := ⟨f_113_96, by decide +kernel, by decide +kernel⟩
theorem zf_113_99 : FldFin 113 99 13 58 := ⟨f_113_99, by decide +kernel, by decide +kernel⟩
theorem pf_10_34 : FldPut 10 34 10 6 := ⟨f_10_34, by decide +kernel⟩
theorem pf_10_67 : FldPut 10 67 6 12 := ⟨f_10_67, by decide +kernel⟩
theorem pf_11_101 : FldPut 11 101 6 8 := ⟨f_11_101, by decide +kernel⟩
theorem pf_11_106 : FldPut 11 106 6 12 := ⟨f_11_106, by decide +kernel⟩
theorem pf_11_43 : FldPut 11 43 11 11 := ⟨f_11_43, by decide +kernel⟩
theorem pf_11_47 : FldPut 11 47 11 12 := ⟨f_11_47, by decide +kernel⟩
theorem pf_11_56 : FldPut 11 56 11 9 := ⟨f_11_56, by decide +kernel⟩
theorem pf_11_59 : FldPut 11 59 11 10 := ⟨f_11_59, by decide +kernel⟩
theorem pf_12_35 : FldPut 12 35 12 4 := ⟨f_12_35, by decide +kernel⟩
theorem pf_12_39 : FldPut 12 39 12 9 := ⟨f_12_39, by decide +kernel⟩
theorem pf_12_42 : FldPut 12 42 12 10 := ⟨f_12_42, by decide +kernel⟩
theorem pf_12_45 : FldPut 12 45 12 8 := ⟨f_12_45, by decide +kernel⟩
theorem pf_13_126 : FldPut 13 126 13 0 := ⟨f_13_126, by decide +kernel⟩
theorem pf_13_130 : FldPut 13 130 13 1 := ⟨f_13_130, by decide +kernel⟩
theorem pf_13_133 : FldPut 13 133 13 3 := ⟨f_13_133, by decide +kernel⟩
theorem pf_13_140 : FldPut 13 140 13 5 := ⟨f_13_140, by decide +kernel⟩
theorem pf_13_143 : FldPut 13 143 13 6 := ⟨f_13_143, by decide +kernel⟩
theorem pf_13_146 : FldPut 13 146 13 4 := ⟨f_13_146, by decide +kernel⟩
theorem pf_13_160 : FldPut 13 160 13 18 := ⟨f_13_160, by decide +kernel⟩
theorem pf_13_163 : FldPut 13 163 13 19 := ⟨f_13_163, by decide +kernel⟩
