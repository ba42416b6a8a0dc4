/-! places of the pools (by program) -/
theorem mt_9_225 : mT 225 = (⟨"HotThroughModel", "enters", "(J)V"⟩, prog_14_method_7_code, 3, none, [2, 1], 9, 0, 0) := (mt9_5 25 (by decide)).trans rfl
theorem mo_225 : MthOK 225 := mo9 mt_9_225 (gw8 195 rfl rfl) ini9_14 ncl_14
theorem mt_9_226 : mT 226 = (⟨"HotThroughModel", "pass", "(I)I"⟩, prog_14_method_65_code, 3, (some .int), [2, 0], 0, 0, 0) := (mt9_5 26 (by decide)).trans rfl
theorem mo_226 : MthOK 226 := mo9 mt_9_226 (gw8 199 rfl rfl) ini9_14 ncl_14
theorem mt_9_227 : mT 227 = (⟨"HotThroughModel", "passes", "(I)I"⟩, prog_14_method_58_code, 4, (some .int), [2, 0], 0, 0, 0) := (mt9_5 27 (by decide)).trans rfl
theorem mo_227 : MthOK 227 := mo9 mt_9_227 (gw8 203 rfl rfl) ini9_14 ncl_14
theorem mt_9_228 : mT 228 = (⟨"HotThroughModel", "change", "(I)I"⟩, prog_14_method_66_code, 2, (some .int), [2, 0], 0, 0, 0) := (mt9_5 28 (by decide)).trans rfl
theorem mo_228 : MthOK 228 := mo9 mt_9_228 (gw8 208 rfl rfl) ini9_14 ncl_14
theorem mt_9_229 : mT 229 = (⟨"HotThroughModel", "changesHand", "(I)I"⟩, prog_14_method_59_code, 2, (some .int), [2, 0], 0, 0, 0) := (mt9_5 29 (by decide)).trans rfl
theorem mo_229 : MthOK 229 := mo9 mt_9_229 (gw8 212 rfl rfl) ini9_14 ncl_14
theorem mt_9_230 : mT 230 = (⟨"HotThroughModel", "give", "(II)I"⟩, prog_14_method_67_code, 3, (some .int), [2, 0, 0], 0, 0, 0) := (mt9_5 30 (by decide)).trans rfl
theorem mo_230 : MthOK 230 := mo9 mt_9_230 (gw8 216 rfl rfl) ini9_14 ncl_14
theorem mt_9_231 : mT 231 = (⟨"HotThroughModel", "gives", "(II)I"⟩, prog_14_method_60_code, 4, (some .int), [2, 0, 0], 0, 0, 0) := (mt9_5 31 (by decide)).trans rfl
theorem mo_231 : MthOK 231 := mo9 mt_9_231 (gw8 220 rfl rfl) ini9_14 ncl_14
theorem mt_9_232 : mT 232 = (⟨"HotThroughModel", "fold", "(II)I"⟩, prog_14_method_68_code, 4, (some .int), [2, 0, 0], 0, 0, 0) := (mt9_5 32 (by decide)).trans rfl
theorem mo_232 : MthOK 232 := mo9 mt_9_232 (gw8 224 rfl rfl) ini9_14 ncl_14
theorem mt_9_233 : mT 233 = (⟨"HotThroughModel", "door", "(II)I"⟩, prog_14_method_69_code, 3, (some .int), [2, 0, 0], 0, 0, 0) := (mt9_5 33 (by decide)).trans rfl
theorem mo_233 : MthOK 233 := mo9 mt_9_233 (gw8 229 rfl rfl) ini9_14 ncl_14
theorem mt_9_234 : mT 234 = (⟨"HotThroughModel", "opens", "(II)I"⟩, prog_14_method_61_code, 3, (some .int), [2, 0, 0], 0, 0, 0) := (mt9_5 34 (by decide)).trans rfl
theorem mo_234 : MthOK 234 := mo9 mt_9_234 (gw8 233 rfl rfl) ini9_14 ncl_14
theorem mt_9_235 : mT 235 = (⟨"HotThroughModel", "dinner", "()I"⟩, prog_14_method_72_code, 6, (some .int), [2], 0, 0, 0) := (mt9_5 35 (by decide)).trans rfl
theorem mo_235 : MthOK 235 := mo9 mt_9_235 (gw8 238 rfl rfl) ini9_14 ncl_14
theorem mt_9_236 : mT 236 = (⟨"HotThroughModel", "readsAct", "()Z"⟩, prog_14_method_70_code, 2, (some .boolean), [2], 3, 0, 0) := (mt9_5 36 (by decide)).trans rfl
theorem mo_236 : MthOK 236 := mo9 mt_9_236 (gw9 2 rfl rfl) ini9_14 ncl_14
theorem mt_9_237 : mT 237 = (⟨"HotThroughModel", "does", "(I)Z"⟩, prog_14_method_71_code, 3, (some .boolean), [2, 0], 3, 0, 0) := (mt9_5 37 (by decide)).trans rfl
theorem mo_237 : MthOK 237 := mo9 mt_9_237 (gw9 7 rfl rfl) ini9_14 ncl_14
theorem mt_9_238 : mT 238 = (⟨"HotThroughModel", "lasts", "(I)I"⟩, prog_14_method_75_code, 3, (some .int), [2, 0], 0, 0, 0) := (mt9_5 38 (by decide)).trans rfl
theorem mo_238 : MthOK 238 := mo9 mt_9_238 (gw9 11 rfl rfl) ini9_14 ncl_14
theorem mt_9_239 : mT 239 = (⟨"HotThroughModel", "canHold", "(I)Z"⟩, prog_14_method_74_code, 2, (some .boolean), [2, 0], 3, 0, 0) := (mt9_5 39 (by decide)).trans rfl
theorem mo_239 : MthOK 239 := mo9 mt_9_239 (gw9 15 rfl rfl) ini9_14 ncl_14
theorem mt_9_240 : mT 240 = (⟨"HotThroughModel", "holdsOut", "(II)I"⟩, prog_14_method_73_code, 5, (some .int), [2, 0, 0], 0, 0, 0) := (mt9_6 0 (by decide)).trans rfl
theorem mo_240 : MthOK 240 := mo9 mt_9_240 (gw9 19 rfl rfl) ini9_14 ncl_14
theorem mt_9_241 : mT 241 = (⟨"HotThroughModel", "puts", "([I[I)V"⟩, prog_14_method_50_code, 3, none, [2, 2], 9, 0, 0) := (mt9_6 1 (by decide)).trans rfl
theorem mo_241 : MthOK 241 := mo9 mt_9_241 (gw9 22 rfl rfl) ini9_14 ncl_14
theorem mt_9_242 : mT 242 = (⟨"HotThroughModel", "swaps", "(II)I"⟩, prog_14_method_76_code, 4, (some .int), [2, 0, 0], 0, 0, 0) := (mt9_6 2 (by decide)).trans rfl
theorem mo_242 : MthOK 242 := mo9 mt_9_242 (gw9 26 rfl rfl) ini9_14 ncl_14
theorem mt_9_243 : mT 243 = (⟨"HotThroughModel", "often", "(I)I"⟩, prog_14_method_77_code, 7, (some .int), [2, 0], 0, 0, 0) := (mt9_6 3 (by decide)).trans rfl
theorem mo_243 : MthOK 243 := mo9 mt_9_243 (gw9 30 rfl rfl) ini9_14 ncl_14
theorem mt_9_244 : mT 244 = (⟨"HotThroughModel", "layers", "(III)I"⟩, prog_14_method_82_code, 5, (some .int), [2, 0, 0, 0], 0, 0, 0) := (mt9_6 4 (by decide)).trans rfl
theorem mo_244 : MthOK 244 := mo9 mt_9_244 (gw9 35 rfl rfl) ini9_14 ncl_14
theorem mt_9_245 : mT 245 = (⟨"HotThroughModel", "canThink", "(III)Z"⟩, prog_14_method_81_code, 4, (some .boolean), [2, 0, 0, 0], 3, 0, 0) := (mt9_6 5 (by decide)).trans rfl
theorem mo_245 : MthOK 245 := mo9 mt_9_245 (gw9 39 rfl rfl) ini9_14 ncl_14
theorem mt_9_246 : mT 246 = (⟨"HotThroughModel", "soloBegins", "(II)V"⟩, prog_14_method_80_code, 3, none, [2, 0, 0], 9, 0, 0) := (mt9_6 6 (by decide)).trans rfl
theorem mo_246 : MthOK 246 := mo9 mt_9_246 (gw9 43 rfl rfl) ini9_14 ncl_14
theorem mt_9_247 : mT 247 = (⟨"HotThroughModel", "soloHolds", "(IIII)I"⟩, prog_14_method_78_code, 6, (some .int), [2, 0, 0, 0, 0], 0, 0, 0) := (mt9_6 7 (by decide)).trans rfl
theorem mo_247 : MthOK 247 := mo9 mt_9_247 (gw9 47 rfl rfl) ini9_14 ncl_14
theorem mt_9_248 : mT 248 = (⟨"HotThroughModel", "hottest", "(III)I"⟩, prog_14_method_83_code, 7, (some .int), [2, 0, 0, 0], 0, 0, 0) := (mt9_6 8 (by decide)).trans rfl
theorem mo_248 : MthOK 248 := mo9 mt_9_248 (gw9 51 rfl rfl) ini9_14 ncl_14
theorem mt_9_249 : mT 249 = (⟨"HotThroughModel", "path", "(II)I"⟩, prog_14_method_88_code, 4, (some .int), [2, 0, 0], 0, 0, 0) := (mt9_6 9 (by decide)).trans rfl
theorem mo_249 : MthOK 249 := mo9 mt_9_249 (gw9 55 rfl rfl) ini9_14 ncl_14
theorem mt_9_250 : mT 250 = (⟨"HotThroughModel", "laysWay", "(II)Z"⟩, prog_14_method_85_code, 5, (some .boolean), [2, 0, 0], 3, 0, 0) := (mt9_6 10 (by decide)).trans rfl
theorem mo_250 : MthOK 250 := mo9 mt_9_250 (gw9 59 rfl rfl) ini9_14 ncl_14
theorem mt_9_251 : mT 251 = (⟨"HotThroughModel", "laysApart", "(I)V"⟩, prog_14_method_84_code, 6, none, [2, 0], 9, 0, 0) := (mt9_6 11 (by decide)).trans rfl
theorem mo_251 : MthOK 251 := mo9 mt_9_251 (gw9 63 rfl rfl) ini9_14 ncl_14
theorem mt_9_252 : mT 252 = (⟨"HotThroughModel", "stepsOfWay", "()I"⟩, prog_14_method_87_code, 1, (some .int), [2], 0, 0, 0) := (mt9_6 12 (by decide)).trans rfl
theorem mo_252 : MthOK 252 := mo9 mt_9_252 (gw9 68 rfl rfl) ini9_14 ncl_14
theorem mt_9_253 : mT 253 = (⟨"HotThroughModel", "clear", "(II)I"⟩, prog_14_method_89_code, 8, (some .int), [2, 0, 0], 0, 0, 0) := (mt9_6 13 (by decide)).trans rfl
theorem mo_253 : MthOK 253 := mo9 mt_9_253 (gw9 72 rfl rfl) ini9_14 ncl_14
theorem mt_9_254 : mT 254 = (⟨"HotThroughModel", "far", "(II)I"⟩, prog_14_method_90_code, 7, (some .int), [2, 0, 0], 0, 0, 0) := (mt9_6 14 (by decide)).trans rfl
theorem mo_254 : MthOK 254 := mo9 mt_9_254 (gw9 76 rfl rfl) ini9_14 ncl_14
theorem mt_9_255 : mT 255 = (⟨"HotThroughModel", "legOf", "(I)I"⟩, prog_14_method_86_code, 2, (some .int), [2, 0], 0, 0, 0) := (mt9_6 15 (by decide)).trans rfl
theorem mo_255 : MthOK 255 := mo9 mt_9_255 (gw9 80 rfl rfl) ini9_14 ncl_14
theorem mt_9_256 : mT 256 = (⟨"HotThroughModel", "rests", "(III)I"⟩, prog_14_method_95_code, 6, (some .int), [2, 0, 0, 0], 0, 0, 0) := (mt9_6 16 (by decide)).trans rfl
theorem mo_256 : MthOK 256 := mo9 mt_9_256 (gw9 84 rfl rfl) ini9_14 ncl_14
theorem mt_9_257 : mT 257 = (⟨"HotThroughModel", "fewestRests", "(II)I"⟩, prog_14_method_94_code, 6, (some .int), [2, 0, 0], 0, 0, 0) := (mt9_6 17 (by decide)).trans rfl
theorem mo_257 : MthOK 257 := mo9 mt_9_257 (gw9 89 rfl rfl) ini9_14 ncl_14
theorem mt_9_258 : mT 258 = (⟨"HotThroughModel", "isAhead", "(II)Z"⟩, prog_14_method_93_code, 7, (some .boolean), [2, 0, 0], 3, 0, 0) := (mt9_6 18 (by decide)).trans rfl
theorem mo_258 : MthOK 258 := mo9 mt_9_258 (gw9 93 rfl rfl) ini9_14 ncl_14
theorem mt_9_259 : mT 259 = (⟨"java/lang/Integer", "numberOfTrailingZeros", "(I)I"⟩, prog_19_method_48_code, 2, (some .int), [0], 0, 0, 0) := (mt9_6 19 (by decide)).trans rfl
theorem mo_259 : MthOK 259 := mo9 mt_9_259 (gw9 96 rfl rfl) ini9_13 ncl_13
theorem mt_9_260 : mT 260 = (⟨"HotThroughModel", "canRest", "(I)Z"⟩, prog_14_method_92_code, 4, (some .boolean), [2, 0], 3, 0, 0) := (mt9_6 20 (by decide)).trans rfl
theorem mo_260 : MthOK 260 := mo9 mt_9_260 (gw9 101 rfl rfl) ini9_14 ncl_14
theorem mt_9_261 : mT 261 = (⟨"HotThroughModel", "carries", "(III)Z"⟩, prog_14_method_91_code, 6, (some .boolean), [2, 0, 0, 0], 3, 0, 0) := (mt9_6 21 (by decide)).trans rfl
theorem mo_261 : MthOK 261 := mo9 mt_9_261 (gw9 105 rfl rfl) ini9_14 ncl_14
theorem mt_9_262 : mT 262 = (⟨"HotThroughModel", "soloRests", "(II)V"⟩, prog_14_method_79_code, 4, none, [2, 0, 0], 9, 0, 0) := (mt9_6 22 (by decide)).trans rfl
theorem mo_262 : MthOK 262 := mo9 mt_9_262 (gw9 109 rfl rfl) ini9_14 ncl_14
theorem mt_9_263 : mT 263 = (⟨"HotThroughModel", "soonest", "(II)I"⟩, prog_14_method_96_code, 9, (some .int), [2, 0, 0], 0, 0, 0) := (mt9_6 23 (by decide)).trans rfl
theorem mo_263 : MthOK 263 := mo9 mt_9_263 (gw9 113 rfl rfl) ini9_14 ncl_14
theorem mt_9_264 : mT 264 = (⟨"HotThroughModel", "chain", "(III)I"⟩, prog_14_method_98_code, 5, (some .int), [2, 0, 0, 0], 0, 0, 0) := (mt9_6 24 (by decide)).trans rfl
theorem mo_264 : MthOK 264 := mo9 mt_9_264 (gw9 117 rfl rfl) ini9_14 ncl_14
theorem mt_9_265 : mT 265 = (⟨"HotThroughModel", "carriesOn", "(IIIIIII)V"⟩, prog_14_method_97_code, 10, none, [2, 0, 0, 0, 0, 0, 0, 0], 9, 0, 0) := (mt9_6 25 (by decide)).trans rfl
theorem mo_265 : MthOK 265 := mo9 mt_9_265 (gw9 121 rfl rfl) ini9_14 ncl_14
theorem mt_9_266 : mT 266 = (⟨"HotThroughModel", "serve", "(IIII)I"⟩, prog_14_method_101_code, 6, (some .int), [2, 0, 0, 0, 0], 0, 0, 0) := (mt9_6 26 (by decide)).trans rfl
theorem mo_266 : MthOK 266 := mo9 mt_9_266 (gw9 125 rfl rfl) ini9_14 ncl_14
theorem mt_9_267 : mT 267 = (⟨"HotThroughModel", "brings", "(IIIIIIII)V"⟩, prog_14_method_100_code, 15, none, [2, 0, 0, 0, 0, 0, 0, 0, 0], 9, 0, 0) := (mt9_6 27 (by decide)).trans rfl
theorem mo_267 : MthOK 267 := mo9 mt_9_267 (gw9 129 rfl rfl) ini9_14 ncl_14
theorem mt_9_268 : mT 268 = (⟨"HotThroughModel", "coolsAll", "(II)V"⟩, prog_14_method_99_code, 5, none, [2, 0, 0], 9, 0, 0) := (mt9_6 28 (by decide)).trans rfl
theorem mo_268 : MthOK 268 := mo9 mt_9_268 (gw9 133 rfl rfl) ini9_14 ncl_14
theorem mt_9_269 : mT 269 = (⟨"HotThroughModel", "mark", "(II)I"⟩, prog_14_method_102_code, 3, (some .int), [2, 0, 0], 0, 0, 0) := (mt9_6 29 (by decide)).trans rfl
theorem mo_269 : MthOK 269 := mo9 mt_9_269 (gw9 137 rfl rfl) ini9_14 ncl_14
theorem mt_9_270 : mT 270 = (⟨"HotThroughModel", "wipe", "()I"⟩, prog_14_method_103_code, 2, (some .int), [2], 0, 0, 0) := (mt9_6 30 (by decide)).trans rfl
theorem mo_270 : MthOK 270 := mo9 mt_9_270 (gw9 142 rfl rfl) ini9_14 ncl_14
theorem mt_9_271 : mT 271 = (⟨"HotThroughModel", "fits", "(II)I"⟩, prog_14_method_107_code, 4, (some .int), [2, 0, 0], 0, 0, 0) := (mt9_6 31 (by decide)).trans rfl
theorem mo_271 : MthOK 271 := mo9 mt_9_271 (gw9 146 rfl rfl) ini9_14 ncl_14
theorem mt_9_272 : mT 272 = (⟨"HotThroughModel", "walksOn", "(IIIII)V"⟩, prog_14_method_106_code, 11, none, [2, 0, 0, 0, 0, 0], 9, 0, 0) := (mt9_6 32 (by decide)).trans rfl
theorem mo_272 : MthOK 272 := mo9 mt_9_272 (gw9 150 rfl rfl) ini9_14 ncl_14
theorem mt_9_273 : mT 273 = (⟨"HotThroughModel", "marksAt", "(II)I"⟩, prog_14_method_104_code, 5, (some .int), [2, 0, 0], 0, 0, 0) := (mt9_6 33 (by decide)).trans rfl
theorem mo_273 : MthOK 273 := mo9 mt_9_273 (gw9 154 rfl rfl) ini9_14 ncl_14
theorem mt_9_274 : mT 274 = (⟨"HotThroughModel", "isLess", "(I)Z"⟩, prog_14_method_105_code, 3, (some .boolean), [2, 0], 3, 0, 0) := (mt9_6 34 (by decide)).trans rfl
theorem mo_274 : MthOK 274 := mo9 mt_9_274 (gw9 158 rfl rfl) ini9_14 ncl_14
theorem mt_9_275 : mT 275 = (⟨"HotThroughModel", "dinners", "(IIII)I"⟩, prog_14_method_108_code, 13, (some .int), [2, 0, 0, 0, 0], 0, 0, 0) := (mt9_6 35 (by decide)).trans rfl
theorem mo_275 : MthOK 275 := mo9 mt_9_275 (gw9 162 rfl rfl) ini9_14 ncl_14
theorem mt_9_276 : mT 276 = (⟨"HotThroughModel", "keep", "(I)Z"⟩, prog_14_method_109_code, 3, (some .boolean), [2, 0], 3, 0, 0) := (mt9_6 36 (by decide)).trans rfl
theorem mo_276 : MthOK 276 := mo9 mt_9_276 (gw9 168 rfl rfl) ini9_14 ncl_14
theorem mt_9_277 : mT 277 = (⟨"HotThroughModel", "again", "(I)Z"⟩, prog_14_method_110_code, 3, (some .boolean), [2, 0], 3, 0, 0) := (mt9_6 37 (by decide)).trans rfl
theorem mo_277 : MthOK 277 := mo9 mt_9_277 (gw9 173 rfl rfl) ini9_14 ncl_14
theorem mt_9_278 : mT 278 = (⟨"HotThroughModel", "count", "(I)I"⟩, prog_14_method_113_code, 2, (some .int), [2, 0], 0, 0, 0) := (mt9_6 38 (by decide)).trans rfl
theorem mo_278 : MthOK 278 := mo9 mt_9_278 (gw9 177 rfl rfl) ini9_14 ncl_14
theorem mt_9_279 : mT 279 = (⟨"HotThroughModel", "dropped", "()I"⟩, prog_14_method_111_code, 3, (some .int), [2], 0, 0, 0) := (mt9_6 39 (by decide)).trans rfl
theorem mo_279 : MthOK 279 := mo9 mt_9_279 (gw9 181 rfl rfl) ini9_14 ncl_14
theorem mt_9_280 : mT 280 = (⟨"HotThroughModel", "burntAll", "()I"⟩, prog_14_method_112_code, 3, (some .int), [2], 0, 0, 0) := (mt9_7 0 (by decide)).trans rfl
theorem mo_280 : MthOK 280 := mo9 mt_9_280 (gw9 185 rfl rfl) ini9_14 ncl_14
theorem mt_9_281 : mT 281 = (⟨"HotThroughModel", "row", "(I)J"⟩, prog_14_method_114_code, 2, (some .long), [2, 0], 1, 0, 0) := (mt9_7 1 (by decide)).trans rfl
theorem mo_281 : MthOK 281 := mo9 mt_9_281 (gw9 189 rfl rfl) ini9_14 ncl_14
theorem kf9_1_0 : kF 1 0 = ("HotThrough", "text", "LHotThrough$Text;", true) := rfl
theorem ly_1_0 : u_lay (kC 1) (kF 1) 0 ∈ gTbl := ulT9 kf9_1_0 (gw3 90 rfl rfl)
theorem kf9_1_1 : kF 1 1 = ("HotThrough", "rule", "LHotThrough$Rule;", true) := rfl
theorem ly_1_1 : u_lay (kC 1) (kF 1) 1 ∈ gTbl := ulT9 kf9_1_1 (gw3 92 rfl rfl)
theorem kf9_1_2 : kF 1 2 = ("HotThrough", "kitchen", "LHotThrough$Kitchen;", true) := rfl
theorem ly_1_2 : u_lay (kC 1) (kF 1) 2 ∈ gTbl := ulT9 kf9_1_2 (gw3 94 rfl rfl)
theorem kf9_1_3 : kF 1 3 = ("HotThrough", "state", "LHotThrough$State;", true) := rfl
theorem ly_1_3 : u_lay (kC 1) (kF 1) 3 ∈ gTbl := ulT9 kf9_1_3 (gw3 96 rfl rfl)
theorem kf9_1_4 : kF 1 4 = ("HotThrough", "carrier", "LHotThrough$Carrier;", true) := rfl
theorem ly_1_4 : u_lay (kC 1) (kF 1) 4 ∈ gTbl := ulT9 kf9_1_4 (gw3 98 rfl rfl)
theorem kf9_1_5 : kF 1 5 = ("HotThrough", "acts", "LHotThrough$Acts;", true) := rfl
theorem ly_1_5 : u_lay (kC 1) (kF 1) 5 ∈ gTbl := ulT9 kf9_1_5 (gw3 100 rfl rfl)
theorem kf9_1_6 : kF 1 6 = ("HotThrough", "paths", "LHotThrough$Paths;", true) := rfl
theorem ly_1_6 : u_lay (kC 1) (kF 1) 6 ∈ gTbl := ulT9 kf9_1_6 (gw3 102 rfl rfl)
theorem kf9_1_7 : kF 1 7 = ("HotThrough", "rester", "LHotThrough$Rester;", true) := rfl
theorem ly_1_7 : u_lay (kC 1) (kF 1) 7 ∈ gTbl := ulT9 kf9_1_7 (gw3 104 rfl rfl)
theorem kf9_1_8 : kF 1 8 = ("HotThrough", "line", "LHotThrough$Line;", true) := rfl
theorem ly_1_8 : u_lay (kC 1) (kF 1) 8 ∈ gTbl := ulT9 kf9_1_8 (gw3 106 rfl rfl)
theorem kf9_1_9 : kF 1 9 = ("HotThrough", "dishes", "LHotThrough$Dishes;", true) := rfl
theorem ly_1_9 : u_lay (kC 1) (kF 1) 9 ∈ gTbl := ulT9 kf9_1_9 (gw3 108 rfl rfl)
theorem kf9_1_10 : kF 1 10 = ("HotThrough", "marks", "LHotThrough$Marks;", true) := rfl
theorem ly_1_10 : u_lay (kC 1) (kF 1) 10 ∈ gTbl := ulT9 kf9_1_10 (gw3 110 rfl rfl)
theorem kf9_1_11 : kF 1 11 = ("HotThrough", "kept", "[LHotThrough$State;", true) := rfl
theorem ly_1_11 : u_lay (kC 1) (kF 1) 11 ∈ gTbl := ulT9 kf9_1_11 (gw3 112 rfl rfl)
theorem kf9_1_12 : kF 1 12 = ("HotThrough", "keptBits", "I", false) := rfl
theorem ly_1_12 : u_lay (kC 1) (kF 1) 12 ∈ gTbl := ulF9 kf9_1_12 (gw3 114 rfl rfl)
theorem kf9_1_13 : kF 1 13 = ("HotThrough", "numbers", "[J", true) := rfl
theorem ly_1_13 : u_lay (kC 1) (kF 1) 13 ∈ gTbl := ulT9 kf9_1_13 (gw3 116 rfl rfl)
theorem kf9_1_14 : kF 1 14 = ("HotThrough", "told", "I", false) := rfl
theorem ly_1_14 : u_lay (kC 1) (kF 1) 14 ∈ gTbl := ulF9 kf9_1_14 (gw3 118 rfl rfl)
theorem kf9_2_0 : kF 2 0 = ("HotThrough$Text", "signs", "[C", true) := rfl
theorem ly_2_0 : u_lay (kC 2) (kF 2) 0 ∈ gTbl := ulT9 kf9_2_0 (gw1 50 rfl rfl)
theorem kf9_2_1 : kF 2 1 = ("HotThrough$Text", "length", "I", false) := rfl
theorem ly_2_1 : u_lay (kC 2) (kF 2) 1 ∈ gTbl := ulF9 kf9_2_1 (gw1 52 rfl rfl)
theorem kf9_2_2 : kF 2 2 = ("HotThrough$Text", "limit", "I", false) := rfl
theorem ly_2_2 : u_lay (kC 2) (kF 2) 2 ∈ gTbl := ulF9 kf9_2_2 (gw1 54 rfl rfl)
theorem kf9_2_3 : kF 2 3 = ("HotThrough$Text", "over", "Z", false) := rfl
theorem ly_2_3 : u_lay (kC 2) (kF 2) 3 ∈ gTbl := ulF9 kf9_2_3 (gw1 56 rfl rfl)
theorem kf9_2_4 : kF 2 4 = ("HotThrough$Text", "at", "I", false) := rfl
theorem ly_2_4 : u_lay (kC 2) (kF 2) 4 ∈ gTbl := ulF9 kf9_2_4 (gw1 58 rfl rfl)
theorem kf9_2_5 : kF 2 5 = ("HotThrough$Text", "failed", "Z", false) := rfl
theorem ly_2_5 : u_lay (kC 2) (kF 2) 5 ∈ gTbl := ulF9 kf9_2_5 (gw1 60 rfl rfl)
theorem kf9_3_0 : kF 3 0 = ("HotThrough$Rule", "code", "[I", true) := rfl
theorem ly_3_0 : u_lay (kC 3) (kF 3) 0 ∈ gTbl := ulT9 kf9_3_0 (gw1 75 rfl rfl)
theorem kf9_3_1 : kF 3 1 = ("HotThrough$Rule", "size", "I", false) := rfl
theorem ly_3_1 : u_lay (kC 3) (kF 3) 1 ∈ gTbl := ulF9 kf9_3_1 (gw1 77 rfl rfl)
theorem kf9_3_2 : kF 3 2 = ("HotThrough$Rule", "draft", "[I", true) := rfl
theorem ly_3_2 : u_lay (kC 3) (kF 3) 2 ∈ gTbl := ulT9 kf9_3_2 (gw1 79 rfl rfl)
theorem kf9_3_3 : kF 3 3 = ("HotThrough$Rule", "drafted", "I", false) := rfl
theorem ly_3_3 : u_lay (kC 3) (kF 3) 3 ∈ gTbl := ulF9 kf9_3_3 (gw1 81 rfl rfl)
theorem kf9_3_4 : kF 3 4 = ("HotThrough$Rule", "stack", "[I", true) := rfl
theorem ly_3_4 : u_lay (kC 3) (kF 3) 4 ∈ gTbl := ulT9 kf9_3_4 (gw1 83 rfl rfl)
theorem kf9_4_0 : kF 4 0 = ("HotThrough$Kitchen", "places", "I", false) := rfl
theorem ly_4_0 : u_lay (kC 4) (kF 4) 0 ∈ gTbl := ulF9 kf9_4_0 (gw1 134 rfl rfl)
theorem kf9_4_1 : kF 4 1 = ("HotThrough$Kitchen", "ways", "I", false) := rfl
theorem ly_4_1 : u_lay (kC 4) (kF 4) 1 ∈ gTbl := ulF9 kf9_4_1 (gw1 136 rfl rfl)
theorem kf9_4_2 : kF 4 2 = ("HotThrough$Kitchen", "pots", "I", false) := rfl
theorem ly_4_2 : u_lay (kC 4) (kF 4) 2 ∈ gTbl := ulF9 kf9_4_2 (gw1 138 rfl rfl)
theorem kf9_4_3 : kF 4 3 = ("HotThrough$Kitchen", "people", "I", false) := rfl
theorem ly_4_3 : u_lay (kC 4) (kF 4) 3 ∈ gTbl := ulF9 kf9_4_3 (gw1 140 rfl rfl)
theorem kf9_4_4 : kF 4 4 = ("HotThrough$Kitchen", "kinds", "[I", true) := rfl
theorem ly_4_4 : u_lay (kC 4) (kF 4) 4 ∈ gTbl := ulT9 kf9_4_4 (gw1 142 rfl rfl)
theorem kf9_4_5 : kF 4 5 = ("HotThrough$Kitchen", "ones", "[I", true) := rfl
theorem ly_4_5 : u_lay (kC 4) (kF 4) 5 ∈ gTbl := ulT9 kf9_4_5 (gw1 144 rfl rfl)
theorem kf9_4_6 : kF 4 6 = ("HotThrough$Kitchen", "others", "[I", true) := rfl
theorem ly_4_6 : u_lay (kC 4) (kF 4) 6 ∈ gTbl := ulT9 kf9_4_6 (gw1 146 rfl rfl)
theorem kf9_4_7 : kF 4 7 = ("HotThrough$Kitchen", "steps", "[I", true) := rfl
theorem ly_4_7 : u_lay (kC 4) (kF 4) 7 ∈ gTbl := ulT9 kf9_4_7 (gw1 148 rfl rfl)
theorem kf9_4_8 : kF 4 8 = ("HotThrough$Kitchen", "doored", "I", false) := rfl
theorem ly_4_8 : u_lay (kC 4) (kF 4) 8 ∈ gTbl := ulF9 kf9_4_8 (gw1 150 rfl rfl)
theorem kf9_4_9 : kF 4 9 = ("HotThrough$Kitchen", "cools", "[I", true) := rfl
theorem ly_4_9 : u_lay (kC 4) (kF 4) 9 ∈ gTbl := ulT9 kf9_4_9 (gw1 152 rfl rfl)
theorem kf9_4_10 : kF 4 10 = ("HotThrough$Kitchen", "bears", "[I", true) := rfl
theorem ly_4_10 : u_lay (kC 4) (kF 4) 10 ∈ gTbl := ulT9 kf9_4_10 (gw1 154 rfl rfl)
theorem kf9_5_0 : kF 5 0 = ("HotThrough$State", "heat", "[I", true) := rfl
theorem ly_5_0 : u_lay (kC 5) (kF 5) 0 ∈ gTbl := ulT9 kf9_5_0 (gw1 212 rfl rfl)
theorem kf9_5_1 : kF 5 1 = ("HotThrough$State", "lies", "[I", true) := rfl
theorem ly_5_1 : u_lay (kC 5) (kF 5) 1 ∈ gTbl := ulT9 kf9_5_1 (gw1 214 rfl rfl)
theorem kf9_5_2 : kF 5 2 = ("HotThrough$State", "holder", "[I", true) := rfl
theorem ly_5_2 : u_lay (kC 5) (kF 5) 2 ∈ gTbl := ulT9 kf9_5_2 (gw1 216 rfl rfl)
theorem kf9_5_3 : kF 5 3 = ("HotThrough$State", "dropped", "I", false) := rfl
theorem ly_5_3 : u_lay (kC 5) (kF 5) 3 ∈ gTbl := ulF9 kf9_5_3 (gw1 218 rfl rfl)
theorem kf9_5_4 : kF 5 4 = ("HotThrough$State", "at", "[I", true) := rfl
theorem ly_5_4 : u_lay (kC 5) (kF 5) 4 ∈ gTbl := ulT9 kf9_5_4 (gw1 220 rfl rfl)
theorem kf9_5_5 : kF 5 5 = ("HotThrough$State", "warm", "[I", true) := rfl
theorem ly_5_5 : u_lay (kC 5) (kF 5) 5 ∈ gTbl := ulT9 kf9_5_5 (gw1 222 rfl rfl)
theorem kf9_5_6 : kF 5 6 = ("HotThrough$State", "hand", "[I", true) := rfl
theorem ly_5_6 : u_lay (kC 5) (kF 5) 6 ∈ gTbl := ulT9 kf9_5_6 (gw1 224 rfl rfl)
theorem kf9_5_7 : kF 5 7 = ("HotThrough$State", "fold", "[I", true) := rfl
theorem ly_5_7 : u_lay (kC 5) (kF 5) 7 ∈ gTbl := ulT9 kf9_5_7 (gw1 226 rfl rfl)
theorem kf9_5_8 : kF 5 8 = ("HotThrough$State", "load", "[I", true) := rfl
theorem ly_5_8 : u_lay (kC 5) (kF 5) 8 ∈ gTbl := ulT9 kf9_5_8 (gw1 228 rfl rfl)
theorem kf9_5_9 : kF 5 9 = ("HotThrough$State", "burnt", "[I", true) := rfl
theorem ly_5_9 : u_lay (kC 5) (kF 5) 9 ∈ gTbl := ulT9 kf9_5_9 (gw1 230 rfl rfl)
theorem kf9_5_10 : kF 5 10 = ("HotThrough$State", "open", "I", false) := rfl
theorem ly_5_10 : u_lay (kC 5) (kF 5) 10 ∈ gTbl := ulF9 kf9_5_10 (gw1 232 rfl rfl)
theorem kf9_5_11 : kF 5 11 = ("HotThrough$State", "now", "I", false) := rfl
theorem ly_5_11 : u_lay (kC 5) (kF 5) 11 ∈ gTbl := ulF9 kf9_5_11 (gw1 234 rfl rfl)
theorem kf9_6_0 : kF 6 0 = ("HotThrough$Carrier", "kitchen", "LHotThrough$Kitchen;", true) := rfl
theorem ly_6_0 : u_lay (kC 6) (kF 6) 0 ∈ gTbl := ulT9 kf9_6_0 (gw2 29 rfl rfl)
theorem kf9_6_1 : kF 6 1 = ("HotThrough$Carrier", "state", "LHotThrough$State;", true) := rfl
theorem ly_6_1 : u_lay (kC 6) (kF 6) 1 ∈ gTbl := ulT9 kf9_6_1 (gw2 31 rfl rfl)
theorem kf9_6_2 : kF 6 2 = ("HotThrough$Carrier", "rule", "LHotThrough$Rule;", true) := rfl
theorem ly_6_2 : u_lay (kC 6) (kF 6) 2 ∈ gTbl := ulT9 kf9_6_2 (gw2 33 rfl rfl)
theorem kf9_6_3 : kF 6 3 = ("HotThrough$Carrier", "person", "I", false) := rfl
theorem ly_6_3 : u_lay (kC 6) (kF 6) 3 ∈ gTbl := ulF9 kf9_6_3 (gw2 35 rfl rfl)
theorem kf9_6_4 : kF 6 4 = ("HotThrough$Carrier", "pot", "I", false) := rfl
theorem ly_6_4 : u_lay (kC 6) (kF 6) 4 ∈ gTbl := ulF9 kf9_6_4 (gw2 37 rfl rfl)
theorem kf9_6_5 : kF 6 5 = ("HotThrough$Carrier", "bears", "I", false) := rfl
theorem ly_6_5 : u_lay (kC 6) (kF 6) 5 ∈ gTbl := ulF9 kf9_6_5 (gw2 39 rfl rfl)
theorem kf9_6_6 : kF 6 6 = ("HotThrough$Carrier", "fold", "I", false) := rfl
theorem ly_6_6 : u_lay (kC 6) (kF 6) 6 ∈ gTbl := ulF9 kf9_6_6 (gw2 41 rfl rfl)
theorem kf9_6_7 : kF 6 7 = ("HotThrough$Carrier", "hand", "I", false) := rfl
theorem ly_6_7 : u_lay (kC 6) (kF 6) 7 ∈ gTbl := ulF9 kf9_6_7 (gw2 43 rfl rfl)
theorem kf9_6_8 : kF 6 8 = ("HotThrough$Carrier", "warm", "I", false) := rfl
theorem ly_6_8 : u_lay (kC 6) (kF 6) 8 ∈ gTbl := ulF9 kf9_6_8 (gw2 45 rfl rfl)
theorem kf9_6_9 : kF 6 9 = ("HotThrough$Carrier", "other", "I", false) := rfl
theorem ly_6_9 : u_lay (kC 6) (kF 6) 9 ∈ gTbl := ulF9 kf9_6_9 (gw2 47 rfl rfl)
theorem kf9_6_10 : kF 6 10 = ("HotThrough$Carrier", "heat", "I", false) := rfl
theorem ly_6_10 : u_lay (kC 6) (kF 6) 10 ∈ gTbl := ulF9 kf9_6_10 (gw2 49 rfl rfl)
theorem kf9_6_11 : kF 6 11 = ("HotThrough$Carrier", "cools", "I", false) := rfl
theorem ly_6_11 : u_lay (kC 6) (kF 6) 11 ∈ gTbl := ulF9 kf9_6_11 (gw2 51 rfl rfl)
theorem kf9_6_12 : kF 6 12 = ("HotThrough$Carrier", "now", "I", false) := rfl
theorem ly_6_12 : u_lay (kC 6) (kF 6) 12 ∈ gTbl := ulF9 kf9_6_12 (gw2 53 rfl rfl)
theorem kf9_7_0 : kF 7 0 = ("HotThrough$Acts", "kitchen", "LHotThrough$Kitchen;", true) := rfl
theorem ly_7_0 : u_lay (kC 7) (kF 7) 0 ∈ gTbl := ulT9 kf9_7_0 (gw2 82 rfl rfl)
theorem kf9_7_1 : kF 7 1 = ("HotThrough$Acts", "state", "LHotThrough$State;", true) := rfl
theorem ly_7_1 : u_lay (kC 7) (kF 7) 1 ∈ gTbl := ulT9 kf9_7_1 (gw2 84 rfl rfl)
theorem kf9_7_2 : kF 7 2 = ("HotThrough$Acts", "rule", "LHotThrough$Rule;", true) := rfl
theorem ly_7_2 : u_lay (kC 7) (kF 7) 2 ∈ gTbl := ulT9 kf9_7_2 (gw2 86 rfl rfl)
theorem kf9_7_3 : kF 7 3 = ("HotThrough$Acts", "carrier", "LHotThrough$Carrier;", true) := rfl
theorem ly_7_3 : u_lay (kC 7) (kF 7) 3 ∈ gTbl := ulT9 kf9_7_3 (gw2 88 rfl rfl)
theorem kf9_7_4 : kF 7 4 = ("HotThrough$Acts", "burnings", "I", false) := rfl
theorem ly_7_4 : u_lay (kC 7) (kF 7) 4 ∈ gTbl := ulF9 kf9_7_4 (gw2 90 rfl rfl)
theorem kf9_7_5 : kF 7 5 = ("HotThrough$Acts", "who", "I", false) := rfl
theorem ly_7_5 : u_lay (kC 7) (kF 7) 5 ∈ gTbl := ulF9 kf9_7_5 (gw2 92 rfl rfl)
theorem kf9_7_6 : kF 7 6 = ("HotThrough$Acts", "fallen", "I", false) := rfl
theorem ly_7_6 : u_lay (kC 7) (kF 7) 6 ∈ gTbl := ulF9 kf9_7_6 (gw2 94 rfl rfl)
theorem kf9_7_7 : kF 7 7 = ("HotThrough$Acts", "before", "[LHotThrough$State;", true) := rfl
theorem ly_7_7 : u_lay (kC 7) (kF 7) 7 ∈ gTbl := ulT9 kf9_7_7 (gw2 96 rfl rfl)
theorem kf9_7_8 : kF 7 8 = ("HotThrough$Acts", "oldest", "I", false) := rfl
theorem ly_7_8 : u_lay (kC 7) (kF 7) 8 ∈ gTbl := ulF9 kf9_7_8 (gw2 98 rfl rfl)
theorem kf9_7_9 : kF 7 9 = ("HotThrough$Acts", "undoable", "I", false) := rfl
theorem ly_7_9 : u_lay (kC 7) (kF 7) 9 ∈ gTbl := ulF9 kf9_7_9 (gw2 100 rfl rfl)
theorem kf9_7_10 : kF 7 10 = ("HotThrough$Acts", "letters", "[I", true) := rfl
theorem ly_7_10 : u_lay (kC 7) (kF 7) 10 ∈ gTbl := ulT9 kf9_7_10 (gw2 102 rfl rfl)
theorem kf9_7_11 : kF 7 11 = ("HotThrough$Acts", "firsts", "[I", true) := rfl
theorem ly_7_11 : u_lay (kC 7) (kF 7) 11 ∈ gTbl := ulT9 kf9_7_11 (gw2 104 rfl rfl)
theorem kf9_7_12 : kF 7 12 = ("HotThrough$Acts", "others", "[I", true) := rfl
theorem ly_7_12 : u_lay (kC 7) (kF 7) 12 ∈ gTbl := ulT9 kf9_7_12 (gw2 106 rfl rfl)
theorem kf9_8_0 : kF 8 0 = ("HotThrough$Paths", "kitchen", "LHotThrough$Kitchen;", true) := rfl
theorem ly_8_0 : u_lay (kC 8) (kF 8) 0 ∈ gTbl := ulT9 kf9_8_0 (gw2 135 rfl rfl)
theorem kf9_8_1 : kF 8 1 = ("HotThrough$Paths", "state", "LHotThrough$State;", true) := rfl
theorem ly_8_1 : u_lay (kC 8) (kF 8) 1 ∈ gTbl := ulT9 kf9_8_1 (gw2 137 rfl rfl)
theorem kf9_8_2 : kF 8 2 = ("HotThrough$Paths", "price", "[I", true) := rfl
theorem ly_8_2 : u_lay (kC 8) (kF 8) 2 ∈ gTbl := ulT9 kf9_8_2 (gw2 139 rfl rfl)
theorem kf9_8_3 : kF 8 3 = ("HotThrough$Paths", "left", "[I", true) := rfl
theorem ly_8_3 : u_lay (kC 8) (kF 8) 3 ∈ gTbl := ulT9 kf9_8_3 (gw2 141 rfl rfl)
theorem kf9_8_4 : kF 8 4 = ("HotThrough$Paths", "places", "[I", true) := rfl
theorem ly_8_4 : u_lay (kC 8) (kF 8) 4 ∈ gTbl := ulT9 kf9_8_4 (gw2 143 rfl rfl)
theorem kf9_8_5 : kF 8 5 = ("HotThrough$Paths", "legs", "[I", true) := rfl
theorem ly_8_5 : u_lay (kC 8) (kF 8) 5 ∈ gTbl := ulT9 kf9_8_5 (gw2 145 rfl rfl)
theorem kf9_8_6 : kF 8 6 = ("HotThrough$Paths", "size", "I", false) := rfl
theorem ly_8_6 : u_lay (kC 8) (kF 8) 6 ∈ gTbl := ulF9 kf9_8_6 (gw2 147 rfl rfl)
theorem kf9_8_7 : kF 8 7 = ("HotThrough$Paths", "steps", "I", false) := rfl
theorem ly_8_7 : u_lay (kC 8) (kF 8) 7 ∈ gTbl := ulF9 kf9_8_7 (gw2 149 rfl rfl)
theorem kf9_8_8 : kF 8 8 = ("HotThrough$Paths", "doors", "I", false) := rfl
theorem ly_8_8 : u_lay (kC 8) (kF 8) 8 ∈ gTbl := ulF9 kf9_8_8 (gw2 151 rfl rfl)
theorem kf9_9_0 : kF 9 0 = ("HotThrough$Rester", "kitchen", "LHotThrough$Kitchen;", true) := rfl
theorem ly_9_0 : u_lay (kC 9) (kF 9) 0 ∈ gTbl := ulT9 kf9_9_0 (gw2 172 rfl rfl)
theorem kf9_9_1 : kF 9 1 = ("HotThrough$Rester", "paths", "LHotThrough$Paths;", true) := rfl
theorem ly_9_1 : u_lay (kC 9) (kF 9) 1 ∈ gTbl := ulT9 kf9_9_1 (gw2 174 rfl rfl)
theorem kf9_9_2 : kF 9 2 = ("HotThrough$Rester", "carrier", "LHotThrough$Carrier;", true) := rfl
theorem ly_9_2 : u_lay (kC 9) (kF 9) 2 ∈ gTbl := ulT9 kf9_9_2 (gw2 176 rfl rfl)
theorem kf9_9_3 : kF 9 3 = ("HotThrough$Rester", "warm", "[I", true) := rfl
theorem ly_9_3 : u_lay (kC 9) (kF 9) 3 ∈ gTbl := ulT9 kf9_9_3 (gw2 178 rfl rfl)
theorem kf9_9_4 : kF 9 4 = ("HotThrough$Rester", "heat", "[I", true) := rfl
theorem ly_9_4 : u_lay (kC 9) (kF 9) 4 ∈ gTbl := ulT9 kf9_9_4 (gw2 180 rfl rfl)
theorem kf9_9_5 : kF 9 5 = ("HotThrough$Rester", "now", "[I", true) := rfl
theorem ly_9_5 : u_lay (kC 9) (kF 9) 5 ∈ gTbl := ulT9 kf9_9_5 (gw2 182 rfl rfl)
theorem kf9_9_6 : kF 9 6 = ("HotThrough$Rester", "chosen", "[I", true) := rfl
theorem ly_9_6 : u_lay (kC 9) (kF 9) 6 ∈ gTbl := ulT9 kf9_9_6 (gw2 184 rfl rfl)
theorem kf9_9_7 : kF 9 7 = ("HotThrough$Rester", "best", "[I", true) := rfl
theorem ly_9_7 : u_lay (kC 9) (kF 9) 7 ∈ gTbl := ulT9 kf9_9_7 (gw2 186 rfl rfl)
theorem kf9_9_8 : kF 9 8 = ("HotThrough$Rester", "bestSize", "I", false) := rfl
theorem ly_9_8 : u_lay (kC 9) (kF 9) 8 ∈ gTbl := ulF9 kf9_9_8 (gw2 188 rfl rfl)
theorem kf9_9_9 : kF 9 9 = ("HotThrough$Rester", "most", "I", false) := rfl
theorem ly_9_9 : u_lay (kC 9) (kF 9) 9 ∈ gTbl := ulF9 kf9_9_9 (gw2 190 rfl rfl)
theorem kf9_9_10 : kF 9 10 = ("HotThrough$Rester", "seconds", "I", false) := rfl
theorem ly_9_10 : u_lay (kC 9) (kF 9) 10 ∈ gTbl := ulF9 kf9_9_10 (gw2 192 rfl rfl)
theorem kf9_10_0 : kF 10 0 = ("HotThrough$Line", "kitchen", "LHotThrough$Kitchen;", true) := rfl
theorem ly_10_0 : u_lay (kC 10) (kF 10) 0 ∈ gTbl := ulT9 kf9_10_0 (gw2 209 rfl rfl)
theorem kf9_10_1 : kF 10 1 = ("HotThrough$Line", "state", "LHotThrough$State;", true) := rfl
theorem ly_10_1 : u_lay (kC 10) (kF 10) 1 ∈ gTbl := ulT9 kf9_10_1 (gw2 211 rfl rfl)
theorem kf9_10_2 : kF 10 2 = ("HotThrough$Line", "paths", "LHotThrough$Paths;", true) := rfl
theorem ly_10_2 : u_lay (kC 10) (kF 10) 2 ∈ gTbl := ulT9 kf9_10_2 (gw2 213 rfl rfl)
theorem kf9_10_3 : kF 10 3 = ("HotThrough$Line", "carrier", "LHotThrough$Carrier;", true) := rfl
theorem ly_10_3 : u_lay (kC 10) (kF 10) 3 ∈ gTbl := ulT9 kf9_10_3 (gw2 215 rfl rfl)
theorem kf9_10_4 : kF 10 4 = ("HotThrough$Line", "reach", "[I", true) := rfl
theorem ly_10_4 : u_lay (kC 10) (kF 10) 4 ∈ gTbl := ulT9 kf9_10_4 (gw2 217 rfl rfl)
theorem kf9_10_5 : kF 10 5 = ("HotThrough$Line", "carries", "[I", true) := rfl
theorem ly_10_5 : u_lay (kC 10) (kF 10) 5 ∈ gTbl := ulT9 kf9_10_5 (gw2 219 rfl rfl)
theorem kf9_10_6 : kF 10 6 = ("HotThrough$Line", "those", "I", false) := rfl
theorem ly_10_6 : u_lay (kC 10) (kF 10) 6 ∈ gTbl := ulF9 kf9_10_6 (gw2 221 rfl rfl)
theorem kf9_11_0 : kF 11 0 = ("HotThrough$Dishes", "kitchen", "LHotThrough$Kitchen;", true) := rfl
theorem ly_11_0 : u_lay (kC 11) (kF 11) 0 ∈ gTbl := ulT9 kf9_11_0 (gw3 5 rfl rfl)
theorem kf9_11_1 : kF 11 1 = ("HotThrough$Dishes", "state", "LHotThrough$State;", true) := rfl
theorem ly_11_1 : u_lay (kC 11) (kF 11) 1 ∈ gTbl := ulT9 kf9_11_1 (gw3 7 rfl rfl)
theorem kf9_11_2 : kF 11 2 = ("HotThrough$Dishes", "paths", "LHotThrough$Paths;", true) := rfl
theorem ly_11_2 : u_lay (kC 11) (kF 11) 2 ∈ gTbl := ulT9 kf9_11_2 (gw3 9 rfl rfl)
theorem kf9_11_3 : kF 11 3 = ("HotThrough$Dishes", "carrier", "LHotThrough$Carrier;", true) := rfl
theorem ly_11_3 : u_lay (kC 11) (kF 11) 3 ∈ gTbl := ulT9 kf9_11_3 (gw3 11 rfl rfl)
theorem kf9_11_4 : kF 11 4 = ("HotThrough$Dishes", "first", "[I", true) := rfl
theorem ly_11_4 : u_lay (kC 11) (kF 11) 4 ∈ gTbl := ulT9 kf9_11_4 (gw3 13 rfl rfl)
theorem kf9_11_5 : kF 11 5 = ("HotThrough$Dishes", "haul", "[I", true) := rfl
theorem ly_11_5 : u_lay (kC 11) (kF 11) 5 ∈ gTbl := ulT9 kf9_11_5 (gw3 15 rfl rfl)
theorem kf9_11_6 : kF 11 6 = ("HotThrough$Dishes", "warm", "[I", true) := rfl
theorem ly_11_6 : u_lay (kC 11) (kF 11) 6 ∈ gTbl := ulT9 kf9_11_6 (gw3 17 rfl rfl)
theorem kf9_11_7 : kF 11 7 = ("HotThrough$Dishes", "order", "[I", true) := rfl
theorem ly_11_7 : u_lay (kC 11) (kF 11) 7 ∈ gTbl := ulT9 kf9_11_7 (gw3 19 rfl rfl)
theorem kf9_11_8 : kF 11 8 = ("HotThrough$Dishes", "best", "[I", true) := rfl
theorem ly_11_8 : u_lay (kC 11) (kF 11) 8 ∈ gTbl := ulT9 kf9_11_8 (gw3 21 rfl rfl)
theorem kf9_11_9 : kF 11 9 = ("HotThrough$Dishes", "size", "I", false) := rfl
theorem ly_11_9 : u_lay (kC 11) (kF 11) 9 ∈ gTbl := ulF9 kf9_11_9 (gw3 23 rfl rfl)
theorem kf9_11_10 : kF 11 10 = ("HotThrough$Dishes", "bestSeconds", "I", false) := rfl
theorem ly_11_10 : u_lay (kC 11) (kF 11) 10 ∈ gTbl := ulF9 kf9_11_10 (gw3 25 rfl rfl)
theorem kf9_11_11 : kF 11 11 = ("HotThrough$Dishes", "those", "I", false) := rfl
theorem ly_11_11 : u_lay (kC 11) (kF 11) 11 ∈ gTbl := ulF9 kf9_11_11 (gw3 27 rfl rfl)
theorem kf9_11_12 : kF 11 12 = ("HotThrough$Dishes", "hotEnough", "I", false) := rfl
theorem ly_11_12 : u_lay (kC 11) (kF 11) 12 ∈ gTbl := ulF9 kf9_11_12 (gw3 29 rfl rfl)
theorem kf9_12_0 : kF 12 0 = ("HotThrough$Marks", "kitchen", "LHotThrough$Kitchen;", true) := rfl
theorem ly_12_0 : u_lay (kC 12) (kF 12) 0 ∈ gTbl := ulT9 kf9_12_0 (gw3 52 rfl rfl)
theorem kf9_12_1 : kF 12 1 = ("HotThrough$Marks", "state", "LHotThrough$State;", true) := rfl
theorem ly_12_1 : u_lay (kC 12) (kF 12) 1 ∈ gTbl := ulT9 kf9_12_1 (gw3 54 rfl rfl)
theorem kf9_12_2 : kF 12 2 = ("HotThrough$Marks", "places", "[I", true) := rfl
theorem ly_12_2 : u_lay (kC 12) (kF 12) 2 ∈ gTbl := ulT9 kf9_12_2 (gw3 56 rfl rfl)
theorem kf9_12_3 : kF 12 3 = ("HotThrough$Marks", "times", "[I", true) := rfl
theorem ly_12_3 : u_lay (kC 12) (kF 12) 3 ∈ gTbl := ulT9 kf9_12_3 (gw3 58 rfl rfl)
theorem kf9_12_4 : kF 12 4 = ("HotThrough$Marks", "size", "I", false) := rfl
theorem ly_12_4 : u_lay (kC 12) (kF 12) 4 ∈ gTbl := ulF9 kf9_12_4 (gw3 60 rfl rfl)
theorem kf9_12_5 : kF 12 5 = ("HotThrough$Marks", "came", "[I", true) := rfl
theorem ly_12_5 : u_lay (kC 12) (kF 12) 5 ∈ gTbl := ulT9 kf9_12_5 (gw3 62 rfl rfl)
theorem kf9_12_6 : kF 12 6 = ("HotThrough$Marks", "trail", "[I", true) := rfl
theorem ly_12_6 : u_lay (kC 12) (kF 12) 6 ∈ gTbl := ulT9 kf9_12_6 (gw3 64 rfl rfl)
theorem kf9_12_7 : kF 12 7 = ("HotThrough$Marks", "least", "[I", true) := rfl
theorem ly_12_7 : u_lay (kC 12) (kF 12) 7 ∈ gTbl := ulT9 kf9_12_7 (gw3 66 rfl rfl)
theorem kf9_12_8 : kF 12 8 = ("HotThrough$Marks", "leastSize", "I", false) := rfl
theorem ly_12_8 : u_lay (kC 12) (kF 12) 8 ∈ gTbl := ulF9 kf9_12_8 (gw3 68 rfl rfl)
theorem kf9_12_9 : kF 12 9 = ("HotThrough$Marks", "goal", "I", false) := rfl
theorem ly_12_9 : u_lay (kC 12) (kF 12) 9 ∈ gTbl := ulF9 kf9_12_9 (gw3 70 rfl rfl)
theorem kf9_12_10 : kF 12 10 = ("HotThrough$Marks", "found", "I", false) := rfl
theorem ly_12_10 : u_lay (kC 12) (kF 12) 10 ∈ gTbl := ulF9 kf9_12_10 (gw3 72 rfl rfl)
theorem kf9_13_0 : kF 13 0 = ("HotThroughModel", "thrown", "I", false) := rfl
theorem ly_13_0 : u_lay (kC 13) (kF 13) 0 ∈ gTbl := ulF9 kf9_13_0 (gw7 3 rfl rfl)
theorem kf9_13_1 : kF 13 1 = ("HotThroughModel", "rows", "I", false) := rfl
theorem ly_13_1 : u_lay (kC 13) (kF 13) 1 ∈ gTbl := ulF9 kf9_13_1 (gw7 5 rfl rfl)
theorem kf9_13_2 : kF 13 2 = ("HotThroughModel", "row", "[J", true) := rfl
theorem ly_13_2 : u_lay (kC 13) (kF 13) 2 ∈ gTbl := ulT9 kf9_13_2 (gw7 7 rfl rfl)
theorem kf9_13_3 : kF 13 3 = ("HotThroughModel", "places", "I", false) := rfl
theorem ly_13_3 : u_lay (kC 13) (kF 13) 3 ∈ gTbl := ulF9 kf9_13_3 (gw7 9 rfl rfl)
theorem kf9_13_4 : kF 13 4 = ("HotThroughModel", "ways", "I", false) := rfl
theorem ly_13_4 : u_lay (kC 13) (kF 13) 4 ∈ gTbl := ulF9 kf9_13_4 (gw7 11 rfl rfl)
theorem kf9_13_5 : kF 13 5 = ("HotThroughModel", "pots", "I", false) := rfl
theorem ly_13_5 : u_lay (kC 13) (kF 13) 5 ∈ gTbl := ulF9 kf9_13_5 (gw7 13 rfl rfl)
theorem kf9_13_6 : kF 13 6 = ("HotThroughModel", "people", "I", false) := rfl
theorem ly_13_6 : u_lay (kC 13) (kF 13) 6 ∈ gTbl := ulF9 kf9_13_6 (gw7 15 rfl rfl)
theorem kf9_13_7 : kF 13 7 = ("HotThroughModel", "changes", "I", false) := rfl
theorem ly_13_7 : u_lay (kC 13) (kF 13) 7 ∈ gTbl := ulF9 kf9_13_7 (gw7 17 rfl rfl)
theorem kf9_13_8 : kF 13 8 = ("HotThroughModel", "kind", "[I", true) := rfl
theorem ly_13_8 : u_lay (kC 13) (kF 13) 8 ∈ gTbl := ulT9 kf9_13_8 (gw7 19 rfl rfl)
theorem kf9_13_9 : kF 13 9 = ("HotThroughModel", "wayFrom", "[I", true) := rfl
theorem ly_13_9 : u_lay (kC 13) (kF 13) 9 ∈ gTbl := ulT9 kf9_13_9 (gw7 21 rfl rfl)
theorem kf9_13_10 : kF 13 10 = ("HotThroughModel", "wayTo", "[I", true) := rfl
theorem ly_13_10 : u_lay (kC 13) (kF 13) 10 ∈ gTbl := ulT9 kf9_13_10 (gw7 23 rfl rfl)
theorem kf9_13_11 : kF 13 11 = ("HotThroughModel", "steps", "[I", true) := rfl
theorem ly_13_11 : u_lay (kC 13) (kF 13) 11 ∈ gTbl := ulT9 kf9_13_11 (gw7 25 rfl rfl)
theorem kf9_13_12 : kF 13 12 = ("HotThroughModel", "hasDoor", "[Z", true) := rfl
theorem ly_13_12 : u_lay (kC 13) (kF 13) 12 ∈ gTbl := ulT9 kf9_13_12 (gw7 27 rfl rfl)
theorem kf9_13_13 : kF 13 13 = ("HotThroughModel", "cools", "[I", true) := rfl
theorem ly_13_13 : u_lay (kC 13) (kF 13) 13 ∈ gTbl := ulT9 kf9_13_13 (gw7 29 rfl rfl)
theorem kf9_13_14 : kF 13 14 = ("HotThroughModel", "bears", "[I", true) := rfl
theorem ly_13_14 : u_lay (kC 13) (kF 13) 14 ∈ gTbl := ulT9 kf9_13_14 (gw7 31 rfl rfl)
theorem kf9_13_15 : kF 13 15 = ("HotThroughModel", "now", "[I", true) := rfl
theorem ly_13_15 : u_lay (kC 13) (kF 13) 15 ∈ gTbl := ulT9 kf9_13_15 (gw7 33 rfl rfl)
theorem kf9_13_16 : kF 13 16 = ("HotThroughModel", "then", "[I", true) := rfl
theorem ly_13_16 : u_lay (kC 13) (kF 13) 16 ∈ gTbl := ulT9 kf9_13_16 (gw7 35 rfl rfl)
theorem kf9_13_17 : kF 13 17 = ("HotThroughModel", "tape", "[I", true) := rfl
theorem ly_13_17 : u_lay (kC 13) (kF 13) 17 ∈ gTbl := ulT9 kf9_13_17 (gw7 37 rfl rfl)
theorem kf9_13_18 : kF 13 18 = ("HotThroughModel", "taped", "I", false) := rfl
theorem ly_13_18 : u_lay (kC 13) (kF 13) 18 ∈ gTbl := ulF9 kf9_13_18 (gw7 39 rfl rfl)
theorem kf9_13_19 : kF 13 19 = ("HotThroughModel", "at", "I", false) := rfl
theorem ly_13_19 : u_lay (kC 13) (kF 13) 19 ∈ gTbl := ulF9 kf9_13_19 (gw7 41 rfl rfl)
theorem kf9_13_20 : kF 13 20 = ("HotThroughModel", "to", "I", false) := rfl
theorem ly_13_20 : u_lay (kC 13) (kF 13) 20 ∈ gTbl := ulF9 kf9_13_20 (gw7 43 rfl rfl)
theorem kf9_13_21 : kF 13 21 = ("HotThroughModel", "nest", "I", false) := rfl
theorem ly_13_21 : u_lay (kC 13) (kF 13) 21 ∈ gTbl := ulF9 kf9_13_21 (gw7 45 rfl rfl)
theorem kf9_13_22 : kF 13 22 = ("HotThroughModel", "readKind", "[I", true) := rfl
theorem ly_13_22 : u_lay (kC 13) (kF 13) 22 ∈ gTbl := ulT9 kf9_13_22 (gw7 47 rfl rfl)
theorem kf9_13_23 : kF 13 23 = ("HotThroughModel", "readWay", "[I", true) := rfl
theorem ly_13_23 : u_lay (kC 13) (kF 13) 23 ∈ gTbl := ulT9 kf9_13_23 (gw7 49 rfl rfl)
theorem kf9_13_24 : kF 13 24 = ("HotThroughModel", "readPot", "[I", true) := rfl
theorem ly_13_24 : u_lay (kC 13) (kF 13) 24 ∈ gTbl := ulT9 kf9_13_24 (gw7 51 rfl rfl)
theorem kf9_13_25 : kF 13 25 = ("HotThroughModel", "readOne", "[I", true) := rfl
theorem ly_13_25 : u_lay (kC 13) (kF 13) 25 ∈ gTbl := ulT9 kf9_13_25 (gw7 53 rfl rfl)
theorem kf9_13_26 : kF 13 26 = ("HotThroughModel", "readPlaces", "I", false) := rfl
theorem ly_13_26 : u_lay (kC 13) (kF 13) 26 ∈ gTbl := ulF9 kf9_13_26 (gw7 55 rfl rfl)
theorem kf9_13_27 : kF 13 27 = ("HotThroughModel", "readWays", "I", false) := rfl
theorem ly_13_27 : u_lay (kC 13) (kF 13) 27 ∈ gTbl := ulF9 kf9_13_27 (gw7 57 rfl rfl)
theorem kf9_13_28 : kF 13 28 = ("HotThroughModel", "readPots", "I", false) := rfl
theorem ly_13_28 : u_lay (kC 13) (kF 13) 28 ∈ gTbl := ulF9 kf9_13_28 (gw7 59 rfl rfl)
theorem kf9_13_29 : kF 13 29 = ("HotThroughModel", "readPeople", "I", false) := rfl
theorem ly_13_29 : u_lay (kC 13) (kF 13) 29 ∈ gTbl := ulF9 kf9_13_29 (gw7 61 rfl rfl)
theorem kf9_13_30 : kF 13 30 = ("HotThroughModel", "code", "[I", true) := rfl
theorem ly_13_30 : u_lay (kC 13) (kF 13) 30 ∈ gTbl := ulT9 kf9_13_30 (gw7 63 rfl rfl)
theorem kf9_13_31 : kF 13 31 = ("HotThroughModel", "readCode", "[I", true) := rfl
theorem ly_13_31 : u_lay (kC 13) (kF 13) 31 ∈ gTbl := ulT9 kf9_13_31 (gw7 65 rfl rfl)
theorem kf9_13_32 : kF 13 32 = ("HotThroughModel", "codeLong", "I", false) := rfl
theorem ly_13_32 : u_lay (kC 13) (kF 13) 32 ∈ gTbl := ulF9 kf9_13_32 (gw7 67 rfl rfl)
theorem kf9_13_33 : kF 13 33 = ("HotThroughModel", "readLong", "I", false) := rfl
theorem ly_13_33 : u_lay (kC 13) (kF 13) 33 ∈ gTbl := ulF9 kf9_13_33 (gw7 69 rfl rfl)
theorem kf9_13_34 : kF 13 34 = ("HotThroughModel", "stack", "[I", true) := rfl
theorem ly_13_34 : u_lay (kC 13) (kF 13) 34 ∈ gTbl := ulT9 kf9_13_34 (gw7 71 rfl rfl)
theorem kf9_13_35 : kF 13 35 = ("HotThroughModel", "asked", "[I", true) := rfl
theorem ly_13_35 : u_lay (kC 13) (kF 13) 35 ∈ gTbl := ulT9 kf9_13_35 (gw7 73 rfl rfl)
theorem kf9_13_36 : kF 13 36 = ("HotThroughModel", "burntMany", "I", false) := rfl
theorem ly_13_36 : u_lay (kC 13) (kF 13) 36 ∈ gTbl := ulF9 kf9_13_36 (gw7 75 rfl rfl)
theorem kf9_13_37 : kF 13 37 = ("HotThroughModel", "burntBits", "I", false) := rfl
theorem ly_13_37 : u_lay (kC 13) (kF 13) 37 ∈ gTbl := ulF9 kf9_13_37 (gw7 77 rfl rfl)
theorem kf9_13_38 : kF 13 38 = ("HotThroughModel", "droppedBits", "I", false) := rfl
theorem ly_13_38 : u_lay (kC 13) (kF 13) 38 ∈ gTbl := ulF9 kf9_13_38 (gw7 79 rfl rfl)
theorem kf9_13_39 : kF 13 39 = ("HotThroughModel", "undos", "I", false) := rfl
theorem ly_13_39 : u_lay (kC 13) (kF 13) 39 ∈ gTbl := ulF9 kf9_13_39 (gw7 81 rfl rfl)
theorem kf9_13_40 : kF 13 40 = ("HotThroughModel", "undone", "[I", true) := rfl
theorem ly_13_40 : u_lay (kC 13) (kF 13) 40 ∈ gTbl := ulT9 kf9_13_40 (gw7 83 rfl rfl)
theorem kf9_13_41 : kF 13 41 = ("HotThroughModel", "actSign", "[I", true) := rfl
theorem ly_13_41 : u_lay (kC 13) (kF 13) 41 ∈ gTbl := ulT9 kf9_13_41 (gw7 85 rfl rfl)
theorem kf9_13_42 : kF 13 42 = ("HotThroughModel", "actOne", "[I", true) := rfl
theorem ly_13_42 : u_lay (kC 13) (kF 13) 42 ∈ gTbl := ulT9 kf9_13_42 (gw7 87 rfl rfl)
theorem kf9_13_43 : kF 13 43 = ("HotThroughModel", "actTwo", "[I", true) := rfl
theorem ly_13_43 : u_lay (kC 13) (kF 13) 43 ∈ gTbl := ulT9 kf9_13_43 (gw7 89 rfl rfl)
theorem kf9_13_44 : kF 13 44 = ("HotThroughModel", "acts", "I", false) := rfl
theorem ly_13_44 : u_lay (kC 13) (kF 13) 44 ∈ gTbl := ulF9 kf9_13_44 (gw7 91 rfl rfl)
theorem kf9_13_45 : kF 13 45 = ("HotThroughModel", "changed", "I", false) := rfl
theorem ly_13_45 : u_lay (kC 13) (kF 13) 45 ∈ gTbl := ulF9 kf9_13_45 (gw7 93 rfl rfl)
theorem kf9_13_46 : kF 13 46 = ("HotThroughModel", "heatAhead", "I", false) := rfl
theorem ly_13_46 : u_lay (kC 13) (kF 13) 46 ∈ gTbl := ulF9 kf9_13_46 (gw7 95 rfl rfl)
theorem kf9_13_47 : kF 13 47 = ("HotThroughModel", "soloHeat", "I", false) := rfl
theorem ly_13_47 : u_lay (kC 13) (kF 13) 47 ∈ gTbl := ulF9 kf9_13_47 (gw7 97 rfl rfl)
theorem kf9_13_48 : kF 13 48 = ("HotThroughModel", "soloWarm", "I", false) := rfl
theorem ly_13_48 : u_lay (kC 13) (kF 13) 48 ∈ gTbl := ulF9 kf9_13_48 (gw7 99 rfl rfl)
theorem kf9_13_49 : kF 13 49 = ("HotThroughModel", "soloSecond", "I", false) := rfl
theorem ly_13_49 : u_lay (kC 13) (kF 13) 49 ∈ gTbl := ulF9 kf9_13_49 (gw7 101 rfl rfl)
theorem kf9_13_50 : kF 13 50 = ("HotThroughModel", "apart", "[I", true) := rfl
theorem ly_13_50 : u_lay (kC 13) (kF 13) 50 ∈ gTbl := ulT9 kf9_13_50 (gw7 103 rfl rfl)
theorem kf9_13_51 : kF 13 51 = ("HotThroughModel", "step", "[I", true) := rfl
theorem ly_13_51 : u_lay (kC 13) (kF 13) 51 ∈ gTbl := ulT9 kf9_13_51 (gw7 105 rfl rfl)
theorem kf9_13_52 : kF 13 52 = ("HotThroughModel", "way", "[I", true) := rfl
theorem ly_13_52 : u_lay (kC 13) (kF 13) 52 ∈ gTbl := ulT9 kf9_13_52 (gw7 107 rfl rfl)
theorem kf9_13_53 : kF 13 53 = ("HotThroughModel", "wayLong", "I", false) := rfl
theorem ly_13_53 : u_lay (kC 13) (kF 13) 53 ∈ gTbl := ulF9 kf9_13_53 (gw7 109 rfl rfl)
theorem kf9_13_54 : kF 13 54 = ("HotThroughModel", "carrier", "[I", true) := rfl
theorem ly_13_54 : u_lay (kC 13) (kF 13) 54 ∈ gTbl := ulT9 kf9_13_54 (gw7 111 rfl rfl)
theorem kf9_13_55 : kF 13 55 = ("HotThroughModel", "bestCarrier", "[I", true) := rfl
theorem ly_13_55 : u_lay (kC 13) (kF 13) 55 ∈ gTbl := ulT9 kf9_13_55 (gw7 113 rfl rfl)
theorem kf9_13_56 : kF 13 56 = ("HotThroughModel", "bestMany", "I", false) := rfl
theorem ly_13_56 : u_lay (kC 13) (kF 13) 56 ∈ gTbl := ulF9 kf9_13_56 (gw7 115 rfl rfl)
theorem kf9_13_57 : kF 13 57 = ("HotThroughModel", "order", "[I", true) := rfl
theorem ly_13_57 : u_lay (kC 13) (kF 13) 57 ∈ gTbl := ulT9 kf9_13_57 (gw7 117 rfl rfl)
theorem kf9_13_58 : kF 13 58 = ("HotThroughModel", "bestOrder", "[I", true) := rfl
theorem ly_13_58 : u_lay (kC 13) (kF 13) 58 ∈ gTbl := ulT9 kf9_13_58 (gw7 119 rfl rfl)
theorem kf9_13_59 : kF 13 59 = ("HotThroughModel", "bestTime", "I", false) := rfl
theorem ly_13_59 : u_lay (kC 13) (kF 13) 59 ∈ gTbl := ulF9 kf9_13_59 (gw7 121 rfl rfl)
theorem kf9_13_60 : kF 13 60 = ("HotThroughModel", "bestHeat", "I", false) := rfl
theorem ly_13_60 : u_lay (kC 13) (kF 13) 60 ∈ gTbl := ulF9 kf9_13_60 (gw7 123 rfl rfl)
theorem kf9_13_61 : kF 13 61 = ("HotThroughModel", "heats", "[I", true) := rfl
theorem ly_13_61 : u_lay (kC 13) (kF 13) 61 ∈ gTbl := ulT9 kf9_13_61 (gw7 125 rfl rfl)
theorem kf9_13_62 : kF 13 62 = ("HotThroughModel", "marks", "I", false) := rfl
theorem ly_13_62 : u_lay (kC 13) (kF 13) 62 ∈ gTbl := ulF9 kf9_13_62 (gw7 127 rfl rfl)
theorem kf9_13_63 : kF 13 63 = ("HotThroughModel", "markAt", "[I", true) := rfl
theorem ly_13_63 : u_lay (kC 13) (kF 13) 63 ∈ gTbl := ulT9 kf9_13_63 (gw7 129 rfl rfl)
theorem kf9_13_64 : kF 13 64 = ("HotThroughModel", "markWhen", "[I", true) := rfl
theorem ly_13_64 : u_lay (kC 13) (kF 13) 64 ∈ gTbl := ulT9 kf9_13_64 (gw7 131 rfl rfl)
theorem kf9_13_65 : kF 13 65 = ("HotThroughModel", "fitMany", "I", false) := rfl
theorem ly_13_65 : u_lay (kC 13) (kF 13) 65 ∈ gTbl := ulF9 kf9_13_65 (gw7 133 rfl rfl)
theorem kf9_13_66 : kF 13 66 = ("HotThroughModel", "fitLong", "I", false) := rfl
theorem ly_13_66 : u_lay (kC 13) (kF 13) 66 ∈ gTbl := ulF9 kf9_13_66 (gw7 135 rfl rfl)
theorem kf9_13_67 : kF 13 67 = ("HotThroughModel", "fitRow", "[I", true) := rfl
theorem ly_13_67 : u_lay (kC 13) (kF 13) 67 ∈ gTbl := ulT9 kf9_13_67 (gw7 137 rfl rfl)
theorem kf9_13_68 : kF 13 68 = ("HotThroughModel", "walked", "[I", true) := rfl
theorem ly_13_68 : u_lay (kC 13) (kF 13) 68 ∈ gTbl := ulT9 kf9_13_68 (gw7 139 rfl rfl)
theorem kf9_13_69 : kF 13 69 = ("HotThroughModel", "isKept", "[Z", true) := rfl
theorem ly_13_69 : u_lay (kC 13) (kF 13) 69 ∈ gTbl := ulT9 kf9_13_69 (gw7 141 rfl rfl)
theorem kf9_13_70 : kF 13 70 = ("HotThroughModel", "keptChanges", "[I", true) := rfl
theorem ly_13_70 : u_lay (kC 13) (kF 13) 70 ∈ gTbl := ulT9 kf9_13_70 (gw7 143 rfl rfl)
theorem kf9_13_71 : kF 13 71 = ("HotThroughModel", "kept", "[I", true) := rfl
theorem ly_13_71 : u_lay (kC 13) (kF 13) 71 ∈ gTbl := ulT9 kf9_13_71 (gw7 145 rfl rfl)
theorem kr9_1 : 1 ≤ 1 ∧ 1 ≤ 13 := by decide
theorem pq9_1 : ∀ j, j < kN 1 → parseFieldDescriptor (kF 1 j).2.2.1 = some (kT 1 j) := by decide +kernel
theorem kr9_2 : 1 ≤ 2 ∧ 2 ≤ 13 := by decide
theorem pq9_2 : ∀ j, j < kN 2 → parseFieldDescriptor (kF 2 j).2.2.1 = some (kT 2 j) := by decide +kernel
theorem kr9_3 : 1 ≤ 3 ∧ 3 ≤ 13 := by decide
theorem pq9_3 : ∀ j, j < kN 3 → parseFieldDescriptor (kF 3 j).2.2.1 = some (kT 3 j) := by decide +kernel
theorem kr9_4 : 1 ≤ 4 ∧ 4 ≤ 13 := by decide
theorem pq9_4 : ∀ j, j < kN 4 → parseFieldDescriptor (kF 4 j).2.2.1 = some (kT 4 j) := by decide +kernel
theorem kr9_5 : 1 ≤ 5 ∧ 5 ≤ 13 := by decide
theorem pq9_5 : ∀ j, j < kN 5 → parseFieldDescriptor (kF 5 j).2.2.1 = some (kT 5 j) := by decide +kernel
theorem kr9_6 : 1 ≤ 6 ∧ 6 ≤ 13 := by decide
theorem pq9_6 : ∀ j, j < kN 6 → parseFieldDescriptor (kF 6 j).2.2.1 = some (kT 6 j) := by decide +kernel
theorem kr9_7 : 1 ≤ 7 ∧ 7 ≤ 13 := by decide
theorem pq9_7 : ∀ j, j < kN 7 → parseFieldDescriptor (kF 7 j).2.2.1 = some (kT 7 j) := by decide +kernel
theorem kr9_8 : 1 ≤ 8 ∧ 8 ≤ 13 := by decide
theorem pq9_8 : ∀ j, j < kN 8 → parseFieldDescriptor (kF 8 j).2.2.1 = some (kT 8 j) := by decide +kernel
theorem kr9_9 : 1 ≤ 9 ∧ 9 ≤ 13 := by decide
theorem pq9_9 : ∀ j, j < kN 9 → parseFieldDescriptor (kF 9 j).2.2.1 = some (kT 9 j) := by decide +kernel
theorem kr9_10 : 1 ≤ 10 ∧ 10 ≤ 13 := by decide
theorem pq9_10 : ∀ j, j < kN 10 → parseFieldDescriptor (kF 10 j).2.2.1 = some (kT 10 j) := by decide +kernel
theorem kr9_11 : 1 ≤ 11 ∧ 11 ≤ 13 := by decide
theorem pq9_11 : ∀ j, j < kN 11 → parseFieldDescriptor (kF 11 j).2.2.1 = some (kT 11 j) := by decide +kernel
theorem kr9_12 : 1 ≤ 12 ∧ 12 ≤ 13 := by decide
theorem pq9_12 : ∀ j, j < kN 12 → parseFieldDescriptor (kF 12 j).2.2.1 = some (kT 12 j) := by decide +kernel
theorem kr9_13 : 1 ≤ 13 ∧ 13 ≤ 13 := by decide
theorem pq9_13 : ∀ j, j < kN 13 → parseFieldDescriptor (kF 13 j).2.2.1 = some (kT 13 j) := by decide +kernel
theorem pd9_0 : (parseMethodDescriptor "(I)I").map (fun d => d.parameters.length + 1) = some 2 := by decide +kernel
theorem vk9_13_2 : VK9 13 2 := vk9 mt_9_13 (gw3 127 rfl rfl) (gw3 128 rfl rfl) rfl kr9_2 pd9_0 rfl
theorem pd9_1 : (parseMethodDescriptor "(I)Z").map (fun d => d.parameters.length + 1) = some 2 := by decide +kernel
theorem vk9_15_2 : VK9 15 2 := vk9 mt_9_15 (gw3 135 rfl rfl) (gw3 136 rfl rfl) rfl kr9_2 pd9_1 rfl
theorem pd9_2 : (parseMethodDescriptor "(LHotThrough$Text;LHotThrough$State;)I").map (fun d => d.parameters.length + 1) = some 3 := by decide +kernel
theorem vk9_17_4 : VK9 17 4 := vk9 mt_9_17 (gw3 143 rfl rfl) (gw3 144 rfl rfl) rfl kr9_4 pd9_2 rfl
theorem pd9_3 : (parseMethodDescriptor "(I)V").map (fun d => d.parameters.length + 1) = some 2 := by decide +kernel
theorem vk9_18_2 : VK9 18 2 := vk9 mt_9_18 (gw3 147 rfl rfl) (gw3 148 rfl rfl) rfl kr9_2 pd9_3 rfl
theorem pd9_4 : (parseMethodDescriptor "(LHotThrough$Text;LHotThrough$State;)V").map (fun d => d.parameters.length + 1) = some 3 := by decide +kernel
theorem vk9_20_4 : VK9 20 4 := vk9 mt_9_20 (gw3 155 rfl rfl) (gwp 0 (q := (⟨"HotThrough$Kitchen", "readLine", "(LHotThrough$Text;LHotThrough$State;)V"⟩, 11)) rfl) rfl kr9_4 pd9_4 rfl
theorem pd9_5 : (parseMethodDescriptor "()I").map (fun d => d.parameters.length + 1) = some 1 := by decide +kernel
theorem vk9_21_2 : VK9 21 2 := vk9 mt_9_21 (gw3 158 rfl rfl) (gw3 159 rfl rfl) rfl kr9_2 pd9_5 rfl
theorem vk9_22_4 : VK9 22 4 := vk9 mt_9_22 (gw3 163 rfl rfl) (gwp 1 (q := (⟨"HotThrough$Kitchen", "hasRoom", "(I)Z"⟩, 11)) rfl) rfl kr9_4 pd9_1 rfl
theorem pd9_6 : (parseMethodDescriptor "()V").map (fun d => d.parameters.length + 1) = some 1 := by decide +kernel
theorem vk9_23_2 : VK9 23 2 := vk9 mt_9_23 (gw3 166 rfl rfl) (gw3 167 rfl rfl) rfl kr9_2 pd9_6 rfl
theorem vk9_24_2 : VK9 24 2 := vk9 mt_9_24 (gw3 170 rfl rfl) (gw3 171 rfl rfl) rfl kr9_2 pd9_6 rfl
theorem vk9_25_4 : VK9 25 4 := vk9 mt_9_25 (gw3 175 rfl rfl) (gwp 2 (q := (⟨"HotThrough$Kitchen", "readWay", "(LHotThrough$Text;LHotThrough$State;)V"⟩, 11)) rfl) rfl kr9_4 pd9_4 rfl
theorem pd9_7 : (parseMethodDescriptor "(II)I").map (fun d => d.parameters.length + 1) = some 3 := by decide +kernel
theorem vk9_26_2 : VK9 26 2 := vk9 mt_9_26 (gw3 178 rfl rfl) (gw3 179 rfl rfl) rfl kr9_2 pd9_7 rfl
theorem vk9_27_2 : VK9 27 2 := vk9 mt_9_27 (gw3 183 rfl rfl) (gw3 184 rfl rfl) rfl kr9_2 pd9_0 rfl
theorem pd9_8 : (parseMethodDescriptor "(C)Z").map (fun d => d.parameters.length + 1) = some 2 := by decide +kernel
theorem vk9_28_2 : VK9 28 2 := vk9 mt_9_28 (gw3 187 rfl rfl) (gw3 188 rfl rfl) rfl kr9_2 pd9_8 rfl
theorem vk9_29_4 : VK9 29 4 := vk9 mt_9_29 (gw3 192 rfl rfl) (gwp 3 (q := (⟨"HotThrough$Kitchen", "readPot", "(LHotThrough$Text;LHotThrough$State;)V"⟩, 11)) rfl) rfl kr9_4 pd9_4 rfl
theorem vk9_30_2 : VK9 30 2 := vk9 mt_9_30 (gw3 195 rfl rfl) (gw3 196 rfl rfl) rfl kr9_2 pd9_0 rfl
theorem pd9_9 : (parseMethodDescriptor "()Z").map (fun d => d.parameters.length + 1) = some 1 := by decide +kernel
theorem vk9_31_2 : VK9 31 2 := vk9 mt_9_31 (gw3 200 rfl rfl) (gw3 201 rfl rfl) rfl kr9_2 pd9_9 rfl
theorem pd9_10 : (parseMethodDescriptor "(C)V").map (fun d => d.parameters.length + 1) = some 2 := by decide +kernel
theorem vk9_32_2 : VK9 32 2 := vk9 mt_9_32 (gw3 204 rfl rfl) (gw3 205 rfl rfl) rfl kr9_2 pd9_10 rfl
theorem vk9_33_4 : VK9 33 4 := vk9 mt_9_33 (gw3 209 rfl rfl) (gw3 210 rfl rfl) rfl kr9_4 pd9_1 rfl
theorem vk9_34_2 : VK9 34 2 := vk9 mt_9_34 (gw3 213 rfl rfl) (gw3 214 rfl rfl) rfl kr9_2 pd9_3 rfl
theorem pd9_11 : (parseMethodDescriptor "(III)V").map (fun d => d.parameters.length + 1) = some 4 := by decide +kernel
theorem vk9_35_5 : VK9 35 5 := vk9 mt_9_35 (gw3 217 rfl rfl) (gw3 218 rfl rfl) rfl kr9_5 pd9_11 rfl
theorem vk9_36_4 : VK9 36 4 := vk9 mt_9_36 (gw3 222 rfl rfl) (gwp 4 (q := (⟨"HotThrough$Kitchen", "readPerson", "(LHotThrough$Text;LHotThrough$State;)V"⟩, 11)) rfl) rfl kr9_4 pd9_4 rfl
theorem pd9_12 : (parseMethodDescriptor "(II)V").map (fun d => d.parameters.length + 1) = some 3 := by decide +kernel
theorem vk9_37_5 : VK9 37 5 := vk9 mt_9_37 (gw3 225 rfl rfl) (gw3 226 rfl rfl) rfl kr9_5 pd9_12 rfl
theorem vk9_38_4 : VK9 38 4 := vk9 mt_9_38 (gw3 230 rfl rfl) (gwp 5 (q := (⟨"HotThrough$Kitchen", "addPlace", "(I)V"⟩, 11)) rfl) rfl kr9_4 pd9_3 rfl
theorem vk9_39_2 : VK9 39 2 := vk9 mt_9_39 (gw3 233 rfl rfl) (gw3 234 rfl rfl) rfl kr9_2 pd9_5 rfl
theorem vk9_40_7 : VK9 40 7 := vk9 mt_9_40 (gw3 237 rfl rfl) (gw3 238 rfl rfl) rfl kr9_7 pd9_6 rfl
theorem pd9_13 : (parseMethodDescriptor "(LHotThrough$Text;)I").map (fun d => d.parameters.length + 1) = some 2 := by decide +kernel
theorem vk9_42_3 : VK9 42 3 := vk9 mt_9_42 (gw4 5 rfl rfl) (gw4 6 rfl rfl) rfl kr9_3 pd9_13 rfl
theorem vk9_43_2 : VK9 43 2 := vk9 mt_9_43 (gw4 10 rfl rfl) (gw4 11 rfl rfl) rfl kr9_2 pd9_9 rfl
theorem pd9_14 : (parseMethodDescriptor "(LHotThrough$Text;I)V").map (fun d => d.parameters.length + 1) = some 3 := by decide +kernel
theorem vk9_44_3 : VK9 44 3 := vk9 mt_9_44 (gw4 15 rfl rfl) (gwp 6 (q := (⟨"HotThrough$Rule", "expression", "(LHotThrough$Text;I)V"⟩, 5)) rfl) rfl kr9_3 pd9_14 rfl
theorem vk9_45_3 : VK9 45 3 := vk9 mt_9_45 (gw4 19 rfl rfl) (gwp 7 (q := (⟨"HotThrough$Rule", "sum", "(LHotThrough$Text;I)V"⟩, 5)) rfl) rfl kr9_3 pd9_14 rfl
theorem vk9_46_3 : VK9 46 3 := vk9 mt_9_46 (gw4 23 rfl rfl) (gwp 8 (q := (⟨"HotThrough$Rule", "product", "(LHotThrough$Text;I)V"⟩, 5)) rfl) rfl kr9_3 pd9_14 rfl
theorem vk9_47_3 : VK9 47 3 := vk9 mt_9_47 (gw4 27 rfl rfl) (gwp 9 (q := (⟨"HotThrough$Rule", "factor", "(LHotThrough$Text;I)V"⟩, 5)) rfl) rfl kr9_3 pd9_14 rfl
theorem vk9_48_3 : VK9 48 3 := vk9 mt_9_48 (gw4 32 rfl rfl) (gwp 10 (q := (⟨"HotThrough$Rule", "thing", "(LHotThrough$Text;I)V"⟩, 5)) rfl) rfl kr9_3 pd9_14 rfl
theorem vk9_49_3 : VK9 49 3 := vk9 mt_9_49 (gw4 41 rfl rfl) (gwp 11 (q := (⟨"HotThrough$Rule", "emit", "(I)V"⟩, 5)) rfl) rfl kr9_3 pd9_3 rfl
theorem vk9_52_4 : VK9 52 4 := vk9 mt_9_52 (gw4 56 rfl rfl) (gw4 57 rfl rfl) rfl kr9_4 pd9_1 rfl
theorem vk9_53_5 : VK9 53 5 := vk9 mt_9_53 (gw4 60 rfl rfl) (gw4 61 rfl rfl) rfl kr9_5 pd9_1 rfl
theorem vk9_58_7 : VK9 58 7 := vk9 mt_9_58 (gw4 79 rfl rfl) (gw4 80 rfl rfl) rfl kr9_7 pd9_6 rfl
theorem vk9_59_7 : VK9 59 7 := vk9 mt_9_59 (gw4 84 rfl rfl) (gwp 12 (q := (⟨"HotThrough$Acts", "slot", "(I)I"⟩, 13)) rfl) rfl kr9_7 pd9_0 rfl
theorem pd9_15 : (parseMethodDescriptor "(LHotThrough$State;)V").map (fun d => d.parameters.length + 1) = some 2 := by decide +kernel
theorem vk9_61_5 : VK9 61 5 := vk9 mt_9_61 (gw4 90 rfl rfl) (gw4 91 rfl rfl) rfl kr9_5 pd9_15 rfl
theorem vk9_62_7 : VK9 62 7 := vk9 mt_9_62 (gw4 95 rfl rfl) (gw4 96 rfl rfl) rfl kr9_7 pd9_7 rfl
theorem vk9_63_4 : VK9 63 4 := vk9 mt_9_63 (gw4 99 rfl rfl) (gw4 100 rfl rfl) rfl kr9_4 pd9_1 rfl
theorem vk9_64_7 : VK9 64 7 := vk9 mt_9_64 (gw4 104 rfl rfl) (gw4 105 rfl rfl) rfl kr9_7 pd9_0 rfl
theorem vk9_66_7 : VK9 66 7 := vk9 mt_9_66 (gw4 112 rfl rfl) (gw4 113 rfl rfl) rfl kr9_7 pd9_0 rfl
theorem vk9_68_7 : VK9 68 7 := vk9 mt_9_68 (gw4 121 rfl rfl) (gw4 122 rfl rfl) rfl kr9_7 pd9_7 rfl
theorem vk9_69_4 : VK9 69 4 := vk9 mt_9_69 (gw4 125 rfl rfl) (gw4 126 rfl rfl) rfl kr9_4 pd9_7 rfl
theorem vk9_70_4 : VK9 70 4 := vk9 mt_9_70 (gw4 129 rfl rfl) (gw4 130 rfl rfl) rfl kr9_4 pd9_1 rfl
theorem pd9_16 : (parseMethodDescriptor "(II)Z").map (fun d => d.parameters.length + 1) = some 3 := by decide +kernel
theorem vk9_71_4 : VK9 71 4 := vk9 mt_9_71 (gw4 133 rfl rfl) (gw4 134 rfl rfl) rfl kr9_4 pd9_16 rfl
theorem vk9_72_4 : VK9 72 4 := vk9 mt_9_72 (gw4 137 rfl rfl) (gw4 138 rfl rfl) rfl kr9_4 pd9_1 rfl
