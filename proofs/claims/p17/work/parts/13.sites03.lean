/-! places of the pools (by program) -/
theorem f_9_18 : FldAt 9 18 9 5 := ⟨gw2 165 rfl rfl, ly_9_5, by decide, by decide, by decide +kernel, by decide +kernel, tyOK_2a _⟩
theorem f_9_21 : FldAt 9 21 9 6 := ⟨gw2 166 rfl rfl, ly_9_6, by decide, by decide, by decide +kernel, by decide +kernel, tyOK_2a _⟩
theorem f_9_24 : FldAt 9 24 9 7 := ⟨gw2 167 rfl rfl, ly_9_7, by decide, by decide, by decide +kernel, by decide +kernel, tyOK_2a _⟩
theorem f_9_27 : FldAt 9 27 9 0 := ⟨gw2 160 rfl rfl, ly_9_0, by decide, by decide, by decide +kernel, by decide +kernel, tyOK_2o _⟩
theorem f_9_31 : FldAt 9 31 9 1 := ⟨gw2 161 rfl rfl, ly_9_1, by decide, by decide, by decide +kernel, by decide +kernel, tyOK_2o _⟩
theorem f_9_35 : FldAt 9 35 9 2 := ⟨gw2 162 rfl rfl, ly_9_2, by decide, by decide, by decide +kernel, by decide +kernel, tyOK_2o _⟩
theorem f_9_39 : FldAt 9 39 9 10 := ⟨gw2 171 rfl rfl, ly_9_10, by decide, by decide, by decide +kernel, by decide +kernel, tyOK_0⟩
theorem f_9_43 : FldAt 9 43 9 9 := ⟨gw2 170 rfl rfl, ly_9_9, by decide, by decide, by decide +kernel, by decide +kernel, tyOK_0⟩
theorem f_9_46 : FldAt 9 46 9 8 := ⟨gw2 169 rfl rfl, ly_9_8, by decide, by decide, by decide +kernel, by decide +kernel, tyOK_0⟩
theorem f_9_59 : FldAt 9 59 8 6 := ⟨gw2 127 rfl rfl, ly_8_6, by decide, by decide, by decide +kernel, by decide +kernel, tyOK_0⟩
theorem f_9_68 : FldAt 9 68 6 8 := ⟨gw2 15 rfl rfl, ly_6_8, by decide, by decide, by decide +kernel, by decide +kernel, tyOK_0⟩
theorem f_9_70 : FldAt 9 70 6 10 := ⟨gw2 20 rfl rfl, ly_6_10, by decide, by decide, by decide +kernel, by decide +kernel, tyOK_0⟩
theorem f_9_72 : FldAt 9 72 6 12 := ⟨gw2 27 rfl rfl, ly_6_12, by decide, by decide, by decide +kernel, by decide +kernel, tyOK_0⟩
theorem f_9_77 : FldAt 9 77 4 4 := ⟨gw1 110 rfl rfl, ly_4_4, by decide, by decide, by decide +kernel, by decide +kernel, tyOK_2a _⟩
theorem f_9_82 : FldAt 9 82 8 4 := ⟨gw2 120 rfl rfl, ly_8_4, by decide, by decide, by decide +kernel, by decide +kernel, tyOK_2a _⟩
theorem f_9_88 : FldAt 9 88 8 5 := ⟨gw2 124 rfl rfl, ly_8_5, by decide, by decide, by decide +kernel, by decide +kernel, tyOK_2a _⟩
theorem f_9_9 : FldAt 9 9 9 3 := ⟨gw2 163 rfl rfl, ly_9_3, by decide, by decide, by decide +kernel, by decide +kernel, tyOK_2a _⟩
theorem j_13_182 : KojAt 13 182 48 := ⟨gw8 23 rfl rfl, by unfold inL; omega⟩
theorem j_13_184 : KojAt 13 184 57 := ⟨gw8 24 rfl rfl, by unfold inL; omega⟩
theorem j_13_320 : KojAt 13 320 3 := ⟨gw8 69 rfl rfl, by unfold inL; omega⟩
theorem j_13_334 : KojAt 13 334 4 := ⟨gw8 97 rfl rfl, by unfold inL; omega⟩
theorem j_13_342 : KojAt 13 342 8 := ⟨gw8 114 rfl rfl, by unfold inL; omega⟩
theorem j_13_347 : KojAt 13 347 999 := ⟨gw8 139 rfl rfl, by unfold inL; omega⟩
theorem j_13_356 : KojAt 13 356 99 := ⟨gw8 204 rfl rfl, by unfold inL; omega⟩
theorem j_13_394 : KojAt 13 394 9 := ⟨gw8 225 rfl rfl, by unfold inL; omega⟩
theorem j_13_426 : KojAt 13 426 (-1) := ⟨gw9 31 rfl rfl, by unfold inL; omega⟩
theorem j_13_480 : KojAt 13 480 60 := ⟨gw9 85 rfl rfl, by unfold inL; omega⟩
theorem j_13_505 : KojAt 13 505 300 := ⟨gw9 138 rfl rfl, by unfold inL; omega⟩
theorem j_13_526 : KojAt 13 526 50 := ⟨gw9 163 rfl rfl, by unfold inL; omega⟩
theorem j_13_529 : KojAt 13 529 2 := ⟨gw9 169 rfl rfl, by unfold inL; omega⟩
theorem k_13_449 : KonAt 13 449 1000000 := ⟨gw9 64 rfl rfl, by unfold inI; omega⟩
theorem k_13_528 : KonAt 13 528 1103515245 := ⟨gw9 164 rfl rfl, by unfold inI; omega⟩
theorem k_1_377 : KonAt 1 377 1103515245 := ⟨gw6 31 rfl rfl, by unfold inI; omega⟩
theorem k_21_264 : KonAt 21 264 65536 := ⟨gw9 97 rfl rfl, by unfold inI; omega⟩
theorem k_21_265 : KonAt 21 265 1431655765 := ⟨gw4 239 rfl rfl, by unfold inI; omega⟩
theorem k_21_266 : KonAt 21 266 858993459 := ⟨gw5 0 rfl rfl, by unfold inI; omega⟩
theorem k_21_267 : KonAt 21 267 252645135 := ⟨gw5 1 rfl rfl, by unfold inI; omega⟩
theorem k_8_62 : KonAt 8 62 262144 := ⟨gw5 129 rfl rfl, by unfold inI; omega⟩
theorem k_8_70 : KonAt 8 70 1073741824 := ⟨gw5 107 rfl rfl, by unfold inI; omega⟩
theorem s_11_132 : StatAt 11 132 56 := ⟨mo_56, gw5 224 rfl rfl, gw4 72 rfl rfl, by decide +kernel⟩
theorem s_11_137 : StatAt 11 137 19 := ⟨mo_19, gw5 225 rfl rfl, gw3 151 rfl rfl, by decide +kernel⟩
theorem s_11_50 : StatAt 11 50 95 := ⟨mo_95, gw5 205 rfl rfl, gw4 237 rfl rfl, by decide +kernel⟩
theorem s_13_136 : StatAt 13 136 169 := ⟨mo_169, gw7 157 rfl rfl, gw7 158 rfl rfl, by decide +kernel⟩
theorem s_13_149 : StatAt 13 149 188 := ⟨mo_188, gw8 37 rfl rfl, gw8 38 rfl rfl, by decide +kernel⟩
theorem s_13_156 : StatAt 13 156 199 := ⟨mo_199, gw8 86 rfl rfl, gw8 87 rfl rfl, by decide +kernel⟩
theorem s_13_169 : StatAt 13 169 19 := ⟨mo_19, gw7 168 rfl rfl, gw3 151 rfl rfl, by decide +kernel⟩
theorem s_13_178 : StatAt 13 178 178 := ⟨mo_178, gw7 235 rfl rfl, gw7 236 rfl rfl, by decide +kernel⟩
theorem s_13_290 : StatAt 13 290 209 := ⟨mo_209, gw8 127 rfl rfl, gw8 128 rfl rfl, by decide +kernel⟩
theorem s_13_294 : StatAt 13 294 56 := ⟨mo_56, gw8 130 rfl rfl, gw4 72 rfl rfl, by decide +kernel⟩
theorem s_13_358 : StatAt 13 358 95 := ⟨mo_95, gw8 234 rfl rfl, gw4 237 rfl rfl, by decide +kernel⟩
theorem s_13_410 : StatAt 13 410 241 := ⟨mo_241, gw9 20 rfl rfl, gw9 21 rfl rfl, by decide +kernel⟩
theorem s_13_468 : StatAt 13 468 259 := ⟨mo_259, gw9 94 rfl rfl, gw9 95 rfl rfl, by decide +kernel⟩
theorem s_1_229 : StatAt 1 229 55 := ⟨mo_55, gw4 67 rfl rfl, gw4 68 rfl rfl, by decide +kernel⟩
theorem s_1_232 : StatAt 1 232 19 := ⟨mo_19, gw4 70 rfl rfl, gw3 151 rfl rfl, by decide +kernel⟩
theorem s_1_237 : StatAt 1 237 56 := ⟨mo_56, gw4 71 rfl rfl, gw4 72 rfl rfl, by decide +kernel⟩
theorem s_1_330 : StatAt 1 330 95 := ⟨mo_95, gw5 130 rfl rfl, gw4 237 rfl rfl, by decide +kernel⟩
theorem s_2_19 : StatAt 2 19 19 := ⟨mo_19, gw3 150 rfl rfl, gw3 151 rfl rfl, by decide +kernel⟩
theorem s_3_103 : StatAt 3 103 79 := ⟨mo_79, gw4 167 rfl rfl, gw4 168 rfl rfl, by decide +kernel⟩
theorem s_3_107 : StatAt 3 107 80 := ⟨mo_80, gw4 170 rfl rfl, gw4 171 rfl rfl, by decide +kernel⟩
theorem s_3_113 : StatAt 3 113 19 := ⟨mo_19, gw4 173 rfl rfl, gw3 151 rfl rfl, by decide +kernel⟩
theorem s_3_119 : StatAt 3 119 56 := ⟨mo_56, gw4 174 rfl rfl, gw4 72 rfl rfl, by decide +kernel⟩
theorem s_3_88 : StatAt 3 88 50 := ⟨mo_50, gw4 43 rfl rfl, gw4 44 rfl rfl, by decide +kernel⟩
theorem s_6_77 : StatAt 6 77 56 := ⟨mo_56, gw4 162 rfl rfl, gw4 72 rfl rfl, by decide +kernel⟩
theorem s_6_97 : StatAt 6 97 19 := ⟨mo_19, gw5 67 rfl rfl, gw3 151 rfl rfl, by decide +kernel⟩
theorem s_7_139 : StatAt 7 139 56 := ⟨mo_56, gw4 184 rfl rfl, gw4 72 rfl rfl, by decide +kernel⟩
theorem s_7_161 : StatAt 7 161 19 := ⟨mo_19, gw4 179 rfl rfl, gw3 151 rfl rfl, by decide +kernel⟩
theorem s_7_184 : StatAt 7 184 95 := ⟨mo_95, gw4 236 rfl rfl, gw4 237 rfl rfl, by decide +kernel⟩
theorem s_7_212 : StatAt 7 212 99 := ⟨mo_99, gw5 17 rfl rfl, gw5 18 rfl rfl, by decide +kernel⟩
theorem s_7_48 : StatAt 7 48 60 := ⟨mo_60, gw4 86 rfl rfl, gw4 87 rfl rfl, by decide +kernel⟩
theorem v_10_43 : VirtAt 10 43 134 10 := ⟨mo_134, gw5 182 rfl rfl, gw5 184 rfl rfl, gwp 31 (q := (⟨"HotThrough$Line", "measure", "(II)V"⟩, 7)) (by decide +kernel), rfl, by decide, by decide, by decide +kernel, rfl⟩
theorem v_10_47 : VirtAt 10 47 135 10 := ⟨mo_135, gw5 189 rfl rfl, gw5 191 rfl rfl, gwp 32 (q := (⟨"HotThrough$Line", "covers", "(IIIII)Z"⟩, 7)) (by decide +kernel), rfl, by decide, by decide, by decide +kernel, rfl⟩
theorem v_10_56 : VirtAt 10 56 76 6 := ⟨mo_76, gw5 186 rfl rfl, gw4 153 rfl rfl, gw4 154 rfl rfl, rfl, by decide, by decide, by decide +kernel, rfl⟩
theorem v_10_68 : VirtAt 10 68 77 6 := ⟨mo_77, gw5 187 rfl rfl, gw4 158 rfl rfl, gw4 159 rfl rfl, rfl, by decide, by decide, by decide +kernel, rfl⟩
theorem v_10_74 : VirtAt 10 74 112 6 := ⟨mo_112, gw5 188 rfl rfl, gw5 85 rfl rfl, gw5 86 rfl rfl, rfl, by decide, by decide, by decide +kernel, rfl⟩
theorem v_11_107 : VirtAt 11 107 129 6 := ⟨mo_129, gw5 227 rfl rfl, gw5 163 rfl rfl, gw5 164 rfl rfl, rfl, by decide, by decide, by decide +kernel, rfl⟩
theorem v_11_110 : VirtAt 11 110 77 6 := ⟨mo_77, gw5 228 rfl rfl, gw4 158 rfl rfl, gw4 159 rfl rfl, rfl, by decide, by decide, by decide +kernel, rfl⟩
theorem v_11_113 : VirtAt 11 113 112 6 := ⟨mo_112, gw5 229 rfl rfl, gw5 85 rfl rfl, gw5 86 rfl rfl, rfl, by decide, by decide, by decide +kernel, rfl⟩
theorem v_11_116 : VirtAt 11 116 142 11 := ⟨mo_142, gw5 220 rfl rfl, gw5 221 rfl rfl, gw5 222 rfl rfl, rfl, by decide, by decide, by decide +kernel, rfl⟩
theorem v_11_62 : VirtAt 11 62 139 11 := ⟨mo_139, gw5 206 rfl rfl, gw5 208 rfl rfl, gwp 34 (q := (⟨"HotThrough$Dishes", "measure", "(II)Z"⟩, 13)) (by decide +kernel), rfl, by decide, by decide, by decide +kernel, rfl⟩
theorem v_11_66 : VirtAt 11 66 76 6 := ⟨mo_76, gw5 211 rfl rfl, gw4 153 rfl rfl, gw4 154 rfl rfl, rfl, by decide, by decide, by decide +kernel, rfl⟩
theorem v_11_72 : VirtAt 11 72 140 11 := ⟨mo_140, gw5 212 rfl rfl, gw5 214 rfl rfl, gwp 35 (q := (⟨"HotThrough$Dishes", "bring", "(III)V"⟩, 13)) (by decide +kernel), rfl, by decide, by decide, by decide +kernel, rfl⟩
theorem v_11_89 : VirtAt 11 89 115 8 := ⟨mo_115, gw5 210 rfl rfl, gw5 98 rfl rfl, gw5 99 rfl rfl, rfl, by decide, by decide, by decide +kernel, rfl⟩
theorem v_11_97 : VirtAt 11 97 141 11 := ⟨mo_141, gw5 216 rfl rfl, gw5 218 rfl rfl, gwp 36 (q := (⟨"HotThrough$Dishes", "arrived", "(I)V"⟩, 13)) (by decide +kernel), rfl, by decide, by decide, by decide +kernel, rfl⟩
theorem v_12_48 : VirtAt 12 48 148 12 := ⟨mo_148, gw6 11 rfl rfl, gw6 13 rfl rfl, gwp 37 (q := (⟨"HotThrough$Marks", "visit", "(III)V"⟩, 11)) (by decide +kernel), rfl, by decide, by decide, by decide +kernel, rfl⟩
theorem v_12_52 : VirtAt 12 52 33 4 := ⟨mo_33, gw6 15 rfl rfl, gw3 209 rfl rfl, gw3 210 rfl rfl, rfl, by decide, by decide, by decide +kernel, rfl⟩
theorem v_12_58 : VirtAt 12 58 149 12 := ⟨mo_149, gw6 16 rfl rfl, gw6 18 rfl rfl, gwp 38 (q := (⟨"HotThrough$Marks", "arrived", "(I)V"⟩, 11)) (by decide +kernel), rfl, by decide, by decide, by decide +kernel, rfl⟩
theorem v_12_64 : VirtAt 12 64 150 12 := ⟨mo_150, gw6 21 rfl rfl, gw6 23 rfl rfl, gwp 39 (q := (⟨"HotThrough$Marks", "visitBy", "(III)V"⟩, 11)) (by decide +kernel), rfl, by decide, by decide, by decide +kernel, rfl⟩
theorem v_12_70 : VirtAt 12 70 69 4 := ⟨mo_69, gw6 25 rfl rfl, gw4 125 rfl rfl, gw4 126 rfl rfl, rfl, by decide, by decide, by decide +kernel, rfl⟩
theorem v_12_79 : VirtAt 12 79 71 4 := ⟨mo_71, gw6 26 rfl rfl, gw4 133 rfl rfl, gw4 134 rfl rfl, rfl, by decide, by decide, by decide +kernel, rfl⟩
theorem v_13_153 : VirtAt 13 153 203 13 := ⟨mo_203, gw8 102 rfl rfl, gw8 104 rfl rfl, gwp 65 (q := (⟨"HotThroughModel", "holds", "(I)I"⟩, 72)) (by decide +kernel), rfl, by decide, by decide, by decide +kernel, rfl⟩
theorem v_13_196 : VirtAt 13 196 173 13 := ⟨mo_173, gw7 174 rfl rfl, gw7 176 rfl rfl, gwp 44 (q := (⟨"HotThroughModel", "among", "(Ljava/lang/String;)I"⟩, 72)) (by decide +kernel), rfl, by decide, by decide, by decide +kernel, rfl⟩
theorem v_13_200 : VirtAt 13 200 184 13 := ⟨mo_184, gw8 19 rfl rfl, gw8 21 rfl rfl, gwp 52 (q := (⟨"HotThroughModel", "isDigit", "()Z"⟩, 72)) (by decide +kernel), rfl, by decide, by decide, by decide +kernel, rfl⟩
theorem v_13_209 : VirtAt 13 209 177 13 := ⟨mo_177, gw7 231 rfl rfl, gw7 233 rfl rfl, gwp 46 (q := (⟨"HotThroughModel", "takesOf", "(Ljava/lang/String;)I"⟩, 72)) (by decide +kernel), rfl, by decide, by decide, by decide +kernel, rfl⟩
theorem v_13_215 : VirtAt 13 215 180 13 := ⟨mo_180, gw8 2 rfl rfl, gw8 4 rfl rfl, gwp 48 (q := (⟨"HotThroughModel", "letter", "()I"⟩, 72)) (by decide +kernel), rfl, by decide, by decide, by decide +kernel, rfl⟩
theorem v_13_220 : VirtAt 13 220 181 13 := ⟨mo_181, gw8 7 rfl rfl, gw8 9 rfl rfl, gwp 49 (q := (⟨"HotThroughModel", "takes", "(I)Z"⟩, 72)) (by decide +kernel), rfl, by decide, by decide, by decide +kernel, rfl⟩
theorem v_13_227 : VirtAt 13 227 183 13 := ⟨mo_183, gw8 15 rfl rfl, gw8 17 rfl rfl, gwp 51 (q := (⟨"HotThroughModel", "number", "(I)I"⟩, 72)) (by decide +kernel), rfl, by decide, by decide, by decide +kernel, rfl⟩
theorem v_13_230 : VirtAt 13 230 185 13 := ⟨mo_185, gw8 25 rfl rfl, gw8 27 rfl rfl, gwp 53 (q := (⟨"HotThroughModel", "kindOf", "(I)I"⟩, 72)) (by decide +kernel), rfl, by decide, by decide, by decide +kernel, rfl⟩
theorem v_13_238 : VirtAt 13 238 176 13 := ⟨mo_176, gw7 226 rfl rfl, gw7 228 rfl rfl, gwp 45 (q := (⟨"HotThroughModel", "readsPlace", "()Z"⟩, 72)) (by decide +kernel), rfl, by decide, by decide, by decide +kernel, rfl⟩
theorem v_13_241 : VirtAt 13 241 179 13 := ⟨mo_179, gw7 238 rfl rfl, gw8 0 rfl rfl, gwp 47 (q := (⟨"HotThroughModel", "readsWay", "()Z"⟩, 72)) (by decide +kernel), rfl, by decide, by decide, by decide +kernel, rfl⟩
theorem v_13_244 : VirtAt 13 244 182 13 := ⟨mo_182, gw8 11 rfl rfl, gw8 13 rfl rfl, gwp 50 (q := (⟨"HotThroughModel", "readsPot", "()Z"⟩, 72)) (by decide +kernel), rfl, by decide, by decide, by decide +kernel, rfl⟩
theorem v_13_247 : VirtAt 13 247 186 13 := ⟨mo_186, gw8 29 rfl rfl, gw8 31 rfl rfl, gwp 54 (q := (⟨"HotThroughModel", "readsOne", "()Z"⟩, 72)) (by decide +kernel), rfl, by decide, by decide, by decide +kernel, rfl⟩
theorem v_13_250 : VirtAt 13 250 171 13 := ⟨mo_171, gw7 164 rfl rfl, gw7 166 rfl rfl, gwp 42 (q := (⟨"HotThroughModel", "begins", "(I)I"⟩, 72)) (by decide +kernel), rfl, by decide, by decide, by decide +kernel, rfl⟩
theorem v_13_253 : VirtAt 13 253 172 13 := ⟨mo_172, gw7 169 rfl rfl, gw7 171 rfl rfl, gwp 43 (q := (⟨"HotThroughModel", "readsLine", "()Z"⟩, 72)) (by decide +kernel), rfl, by decide, by decide, by decide +kernel, rfl⟩
theorem v_13_256 : VirtAt 13 256 187 13 := ⟨mo_187, gw8 33 rfl rfl, gw8 35 rfl rfl, gwp 55 (q := (⟨"HotThroughModel", "faultOf", "(IIZ)I"⟩, 72)) (by decide +kernel), rfl, by decide, by decide, by decide +kernel, rfl⟩
theorem v_13_269 : VirtAt 13 269 191 13 := ⟨mo_191, gw8 49 rfl rfl, gw8 51 rfl rfl, gwp 57 (q := (⟨"HotThroughModel", "readsThing", "()Z"⟩, 72)) (by decide +kernel), rfl, by decide, by decide, by decide +kernel, rfl⟩
theorem v_13_272 : VirtAt 13 272 192 13 := ⟨mo_192, gw8 53 rfl rfl, gw8 55 rfl rfl, gwp 58 (q := (⟨"HotThroughModel", "codes", "(I)V"⟩, 72)) (by decide +kernel), rfl, by decide, by decide, by decide +kernel, rfl⟩
theorem v_13_278 : VirtAt 13 278 190 13 := ⟨mo_190, gw8 45 rfl rfl, gw8 47 rfl rfl, gwp 56 (q := (⟨"HotThroughModel", "readsRank", "(I)Z"⟩, 72)) (by decide +kernel), rfl, by decide, by decide, by decide +kernel, rfl⟩
theorem v_13_297 : VirtAt 13 297 208 13 := ⟨mo_208, gw8 123 rfl rfl, gw8 125 rfl rfl, gwp 69 (q := (⟨"HotThroughModel", "through", "()I"⟩, 72)) (by decide +kernel), rfl, by decide, by decide, by decide +kernel, rfl⟩
theorem v_13_300 : VirtAt 13 300 207 13 := ⟨mo_207, gw8 119 rfl rfl, gw8 121 rfl rfl, gwp 68 (q := (⟨"HotThroughModel", "throughBy", "(IIIIIII)I"⟩, 72)) (by decide +kernel), rfl, by decide, by decide, by decide +kernel, rfl⟩
theorem v_13_313 : VirtAt 13 313 206 13 := ⟨mo_206, gw8 115 rfl rfl, gw8 117 rfl rfl, gwp 67 (q := (⟨"HotThroughModel", "throughOf", "([II)I"⟩, 72)) (by decide +kernel), rfl, by decide, by decide, by decide +kernel, rfl⟩
theorem v_13_317 : VirtAt 13 317 194 13 := ⟨mo_194, gw8 65 rfl rfl, gw8 67 rfl rfl, gwp 59 (q := (⟨"HotThroughModel", "isPlace", "(I)Z"⟩, 72)) (by decide +kernel), rfl, by decide, by decide, by decide +kernel, rfl⟩
theorem v_13_322 : VirtAt 13 322 195 13 := ⟨mo_195, gw8 70 rfl rfl, gw8 72 rfl rfl, gwp 60 (q := (⟨"HotThroughModel", "refuse", "()I"⟩, 72)) (by decide +kernel), rfl, by decide, by decide, by decide +kernel, rfl⟩
theorem v_13_325 : VirtAt 13 325 197 13 := ⟨mo_197, gw8 78 rfl rfl, gw8 80 rfl rfl, gwp 61 (q := (⟨"HotThroughModel", "isWay", "(I)Z"⟩, 72)) (by decide +kernel), rfl, by decide, by decide, by decide +kernel, rfl⟩
theorem v_13_328 : VirtAt 13 328 198 13 := ⟨mo_198, gw8 82 rfl rfl, gw8 84 rfl rfl, gwp 62 (q := (⟨"HotThroughModel", "isOpen", "(I)Z"⟩, 72)) (by decide +kernel), rfl, by decide, by decide, by decide +kernel, rfl⟩
theorem v_13_331 : VirtAt 13 331 201 13 := ⟨mo_201, gw8 93 rfl rfl, gw8 95 rfl rfl, gwp 63 (q := (⟨"HotThroughModel", "isPot", "(I)Z"⟩, 72)) (by decide +kernel), rfl, by decide, by decide, by decide +kernel, rfl⟩
theorem v_13_336 : VirtAt 13 336 202 13 := ⟨mo_202, gw8 98 rfl rfl, gw8 100 rfl rfl, gwp 64 (q := (⟨"HotThroughModel", "holder", "(I)I"⟩, 72)) (by decide +kernel), rfl, by decide, by decide, by decide +kernel, rfl⟩
theorem v_13_339 : VirtAt 13 339 205 13 := ⟨mo_205, gw8 110 rfl rfl, gw8 112 rfl rfl, gwp 66 (q := (⟨"HotThroughModel", "isPerson", "(I)Z"⟩, 72)) (by decide +kernel), rfl, by decide, by decide, by decide +kernel, rfl⟩
theorem v_13_344 : VirtAt 13 344 211 13 := ⟨mo_211, gw8 135 rfl rfl, gw8 137 rfl rfl, gwp 70 (q := (⟨"HotThroughModel", "isThere", "(I)Z"⟩, 72)) (by decide +kernel), rfl, by decide, by decide, by decide +kernel, rfl⟩
theorem v_13_349 : VirtAt 13 349 218 13 := ⟨mo_218, gw8 164 rfl rfl, gw8 166 rfl rfl, gwp 74 (q := (⟨"HotThroughModel", "adds", "(I)I"⟩, 72)) (by decide +kernel), rfl, by decide, by decide, by decide +kernel, rfl⟩
theorem v_13_352 : VirtAt 13 352 224 13 := ⟨mo_224, gw8 188 rfl rfl, gw8 190 rfl rfl, gwp 78 (q := (⟨"HotThroughModel", "secondGoes", "([I)V"⟩, 72)) (by decide +kernel), rfl, by decide, by decide, by decide +kernel, rfl⟩
theorem v_13_363 : VirtAt 13 363 215 13 := ⟨mo_215, gw8 152 rfl rfl, gw8 154 rfl rfl, gwp 71 (q := (⟨"HotThroughModel", "putsBy", "()V"⟩, 72)) (by decide +kernel), rfl, by decide, by decide, by decide +kernel, rfl⟩
theorem v_13_366 : VirtAt 13 366 216 13 := ⟨mo_216, gw8 156 rfl rfl, gw8 158 rfl rfl, gwp 72 (q := (⟨"HotThroughModel", "takesPot", "(II)I"⟩, 72)) (by decide +kernel), rfl, by decide, by decide, by decide +kernel, rfl⟩
theorem v_13_369 : VirtAt 13 369 217 13 := ⟨mo_217, gw8 160 rfl rfl, gw8 162 rfl rfl, gwp 73 (q := (⟨"HotThroughModel", "counts", "(I)I"⟩, 72)) (by decide +kernel), rfl, by decide, by decide, by decide +kernel, rfl⟩
theorem v_13_372 : VirtAt 13 372 220 13 := ⟨mo_220, gw8 172 rfl rfl, gw8 174 rfl rfl, gwp 75 (q := (⟨"HotThroughModel", "setsDown", "(I)I"⟩, 72)) (by decide +kernel), rfl, by decide, by decide, by decide +kernel, rfl⟩
theorem v_13_375 : VirtAt 13 375 222 13 := ⟨mo_222, gw8 180 rfl rfl, gw8 182 rfl rfl, gwp 76 (q := (⟨"HotThroughModel", "startsCounting", "()V"⟩, 72)) (by decide +kernel), rfl, by decide, by decide, by decide +kernel, rfl⟩
theorem v_13_378 : VirtAt 13 378 223 13 := ⟨mo_223, gw8 184 rfl rfl, gw8 186 rfl rfl, gwp 77 (q := (⟨"HotThroughModel", "walks", "(II)I"⟩, 72)) (by decide +kernel), rfl, by decide, by decide, by decide +kernel, rfl⟩
theorem v_13_381 : VirtAt 13 381 225 13 := ⟨mo_225, gw8 192 rfl rfl, gw8 194 rfl rfl, gwp 79 (q := (⟨"HotThroughModel", "enters", "(J)V"⟩, 72)) (by decide +kernel), rfl, by decide, by decide, by decide +kernel, rfl⟩
theorem v_13_385 : VirtAt 13 385 227 13 := ⟨mo_227, gw8 200 rfl rfl, gw8 202 rfl rfl, gwp 80 (q := (⟨"HotThroughModel", "passes", "(I)I"⟩, 72)) (by decide +kernel), rfl, by decide, by decide, by decide +kernel, rfl⟩
theorem v_13_388 : VirtAt 13 388 229 13 := ⟨mo_229, gw8 209 rfl rfl, gw8 211 rfl rfl, gwp 81 (q := (⟨"HotThroughModel", "changesHand", "(I)I"⟩, 72)) (by decide +kernel), rfl, by decide, by decide, by decide +kernel, rfl⟩
theorem v_13_391 : VirtAt 13 391 231 13 := ⟨mo_231, gw8 217 rfl rfl, gw8 219 rfl rfl, gwp 82 (q := (⟨"HotThroughModel", "gives", "(II)I"⟩, 72)) (by decide +kernel), rfl, by decide, by decide, by decide +kernel, rfl⟩
theorem v_13_396 : VirtAt 13 396 234 13 := ⟨mo_234, gw8 230 rfl rfl, gw8 232 rfl rfl, gwp 83 (q := (⟨"HotThroughModel", "opens", "(II)I"⟩, 72)) (by decide +kernel), rfl, by decide, by decide, by decide +kernel, rfl⟩
theorem v_13_404 : VirtAt 13 404 236 13 := ⟨mo_236, gw8 239 rfl rfl, gw9 1 rfl rfl, gwp 84 (q := (⟨"HotThroughModel", "readsAct", "()Z"⟩, 72)) (by decide +kernel), rfl, by decide, by decide, by decide +kernel, rfl⟩
theorem v_13_407 : VirtAt 13 407 237 13 := ⟨mo_237, gw9 4 rfl rfl, gw9 6 rfl rfl, gwp 85 (q := (⟨"HotThroughModel", "does", "(I)Z"⟩, 72)) (by decide +kernel), rfl, by decide, by decide, by decide +kernel, rfl⟩
theorem v_13_420 : VirtAt 13 420 239 13 := ⟨mo_239, gw9 12 rfl rfl, gw9 14 rfl rfl, gwp 86 (q := (⟨"HotThroughModel", "canHold", "(I)Z"⟩, 72)) (by decide +kernel), rfl, by decide, by decide, by decide +kernel, rfl⟩
theorem v_13_423 : VirtAt 13 423 240 13 := ⟨mo_240, gw9 16 rfl rfl, gw9 18 rfl rfl, gwp 87 (q := (⟨"HotThroughModel", "holdsOut", "(II)I"⟩, 72)) (by decide +kernel), rfl, by decide, by decide, by decide +kernel, rfl⟩
theorem v_13_437 : VirtAt 13 437 245 13 := ⟨mo_245, gw9 36 rfl rfl, gw9 38 rfl rfl, gwp 88 (q := (⟨"HotThroughModel", "canThink", "(III)Z"⟩, 72)) (by decide +kernel), rfl, by decide, by decide, by decide +kernel, rfl⟩
theorem v_13_441 : VirtAt 13 441 246 13 := ⟨mo_246, gw9 40 rfl rfl, gw9 42 rfl rfl, gwp 89 (q := (⟨"HotThroughModel", "soloBegins", "(II)V"⟩, 72)) (by decide +kernel), rfl, by decide, by decide, by decide +kernel, rfl⟩
theorem v_13_445 : VirtAt 13 445 247 13 := ⟨mo_247, gw9 44 rfl rfl, gw9 46 rfl rfl, gwp 90 (q := (⟨"HotThroughModel", "soloHolds", "(IIII)I"⟩, 72)) (by decide +kernel), rfl, by decide, by decide, by decide +kernel, rfl⟩
theorem v_13_450 : VirtAt 13 450 251 13 := ⟨mo_251, gw9 60 rfl rfl, gw9 62 rfl rfl, gwp 92 (q := (⟨"HotThroughModel", "laysApart", "(I)V"⟩, 72)) (by decide +kernel), rfl, by decide, by decide, by decide +kernel, rfl⟩
theorem v_13_456 : VirtAt 13 456 250 13 := ⟨mo_250, gw9 56 rfl rfl, gw9 58 rfl rfl, gwp 91 (q := (⟨"HotThroughModel", "laysWay", "(II)Z"⟩, 72)) (by decide +kernel), rfl, by decide, by decide, by decide +kernel, rfl⟩
theorem v_13_459 : VirtAt 13 459 252 13 := ⟨mo_252, gw9 65 rfl rfl, gw9 67 rfl rfl, gwp 93 (q := (⟨"HotThroughModel", "stepsOfWay", "()I"⟩, 72)) (by decide +kernel), rfl, by decide, by decide, by decide +kernel, rfl⟩
theorem v_13_462 : VirtAt 13 462 255 13 := ⟨mo_255, gw9 77 rfl rfl, gw9 79 rfl rfl, gwp 94 (q := (⟨"HotThroughModel", "legOf", "(I)I"⟩, 72)) (by decide +kernel), rfl, by decide, by decide, by decide +kernel, rfl⟩
theorem v_13_465 : VirtAt 13 465 262 13 := ⟨mo_262, gw9 106 rfl rfl, gw9 108 rfl rfl, gwp 99 (q := (⟨"HotThroughModel", "soloRests", "(II)V"⟩, 72)) (by decide +kernel), rfl, by decide, by decide, by decide +kernel, rfl⟩
theorem v_13_471 : VirtAt 13 471 258 13 := ⟨mo_258, gw9 90 rfl rfl, gw9 92 rfl rfl, gwp 96 (q := (⟨"HotThroughModel", "isAhead", "(II)Z"⟩, 72)) (by decide +kernel), rfl, by decide, by decide, by decide +kernel, rfl⟩
theorem v_13_474 : VirtAt 13 474 260 13 := ⟨mo_260, gw9 98 rfl rfl, gw9 100 rfl rfl, gwp 97 (q := (⟨"HotThroughModel", "canRest", "(I)Z"⟩, 72)) (by decide +kernel), rfl, by decide, by decide, by decide +kernel, rfl⟩
theorem v_13_477 : VirtAt 13 477 261 13 := ⟨mo_261, gw9 102 rfl rfl, gw9 104 rfl rfl, gwp 98 (q := (⟨"HotThroughModel", "carries", "(III)Z"⟩, 72)) (by decide +kernel), rfl, by decide, by decide, by decide +kernel, rfl⟩
theorem v_13_482 : VirtAt 13 482 257 13 := ⟨mo_257, gw9 86 rfl rfl, gw9 88 rfl rfl, gwp 95 (q := (⟨"HotThroughModel", "fewestRests", "(II)I"⟩, 72)) (by decide +kernel), rfl, by decide, by decide, by decide +kernel, rfl⟩
theorem v_13_488 : VirtAt 13 488 265 13 := ⟨mo_265, gw9 118 rfl rfl, gw9 120 rfl rfl, gwp 100 (q := (⟨"HotThroughModel", "carriesOn", "(IIIIIII)V"⟩, 72)) (by decide +kernel), rfl, by decide, by decide, by decide +kernel, rfl⟩
theorem v_13_498 : VirtAt 13 498 268 13 := ⟨mo_268, gw9 130 rfl rfl, gw9 132 rfl rfl, gwp 102 (q := (⟨"HotThroughModel", "coolsAll", "(II)V"⟩, 72)) (by decide +kernel), rfl, by decide, by decide, by decide +kernel, rfl⟩
theorem v_13_501 : VirtAt 13 501 267 13 := ⟨mo_267, gw9 126 rfl rfl, gw9 128 rfl rfl, gwp 101 (q := (⟨"HotThroughModel", "brings", "(IIIIIIII)V"⟩, 72)) (by decide +kernel), rfl, by decide, by decide, by decide +kernel, rfl⟩
theorem v_13_513 : VirtAt 13 513 273 13 := ⟨mo_273, gw9 151 rfl rfl, gw9 153 rfl rfl, gwp 104 (q := (⟨"HotThroughModel", "marksAt", "(II)I"⟩, 72)) (by decide +kernel), rfl, by decide, by decide, by decide +kernel, rfl⟩
theorem v_13_519 : VirtAt 13 519 274 13 := ⟨mo_274, gw9 155 rfl rfl, gw9 157 rfl rfl, gwp 105 (q := (⟨"HotThroughModel", "isLess", "(I)Z"⟩, 72)) (by decide +kernel), rfl, by decide, by decide, by decide +kernel, rfl⟩
theorem v_13_522 : VirtAt 13 522 272 13 := ⟨mo_272, gw9 147 rfl rfl, gw9 149 rfl rfl, gwp 103 (q := (⟨"HotThroughModel", "walksOn", "(IIIII)V"⟩, 72)) (by decide +kernel), rfl, by decide, by decide, by decide +kernel, rfl⟩
theorem v_13_531 : VirtAt 13 531 279 13 := ⟨mo_279, gw9 178 rfl rfl, gw9 180 rfl rfl, gwp 106 (q := (⟨"HotThroughModel", "dropped", "()I"⟩, 72)) (by decide +kernel), rfl, by decide, by decide, by decide +kernel, rfl⟩
theorem v_13_534 : VirtAt 13 534 280 13 := ⟨mo_280, gw9 182 rfl rfl, gw9 184 rfl rfl, gwp 107 (q := (⟨"HotThroughModel", "burntAll", "()I"⟩, 72)) (by decide +kernel), rfl, by decide, by decide, by decide +kernel, rfl⟩
theorem v_1_104 : VirtAt 1 104 13 2 := ⟨mo_13, gw3 126 rfl rfl, gw3 127 rfl rfl, gw3 128 rfl rfl, rfl, by decide, by decide, by decide +kernel, rfl⟩
theorem v_1_108 : VirtAt 1 108 15 2 := ⟨mo_15, gw3 134 rfl rfl, gw3 135 rfl rfl, gw3 136 rfl rfl, rfl, by decide, by decide, by decide +kernel, rfl⟩
theorem v_1_116 : VirtAt 1 116 17 4 := ⟨mo_17, gw3 142 rfl rfl, gw3 143 rfl rfl, gw3 144 rfl rfl, rfl, by decide, by decide, by decide +kernel, rfl⟩
theorem v_1_120 : VirtAt 1 120 40 7 := ⟨mo_40, gw3 236 rfl rfl, gw3 237 rfl rfl, gw3 238 rfl rfl, rfl, by decide, by decide, by decide +kernel, rfl⟩
theorem v_1_126 : VirtAt 1 126 42 3 := ⟨mo_42, gw4 4 rfl rfl, gw4 5 rfl rfl, gw4 6 rfl rfl, rfl, by decide, by decide, by decide +kernel, rfl⟩
theorem v_1_129 : VirtAt 1 129 33 4 := ⟨mo_33, gw5 96 rfl rfl, gw3 209 rfl rfl, gw3 210 rfl rfl, rfl, by decide, by decide, by decide +kernel, rfl⟩
theorem v_1_142 : VirtAt 1 142 157 5 := ⟨mo_157, gw6 118 rfl rfl, gw6 119 rfl rfl, gw6 120 rfl rfl, rfl, by decide, by decide, by decide +kernel, rfl⟩
theorem v_1_149 : VirtAt 1 149 158 5 := ⟨mo_158, gw6 122 rfl rfl, gw6 123 rfl rfl, gw6 124 rfl rfl, rfl, by decide, by decide, by decide +kernel, rfl⟩
theorem v_1_152 : VirtAt 1 152 159 4 := ⟨mo_159, gw6 126 rfl rfl, gw6 127 rfl rfl, gw6 128 rfl rfl, rfl, by decide, by decide, by decide +kernel, rfl⟩
theorem v_1_155 : VirtAt 1 155 70 4 := ⟨mo_70, gw6 137 rfl rfl, gw4 129 rfl rfl, gw4 130 rfl rfl, rfl, by decide, by decide, by decide +kernel, rfl⟩
theorem v_1_167 : VirtAt 1 167 72 4 := ⟨mo_72, gw6 138 rfl rfl, gw4 137 rfl rfl, gw4 138 rfl rfl, rfl, by decide, by decide, by decide +kernel, rfl⟩
theorem v_1_173 : VirtAt 1 173 52 4 := ⟨mo_52, gw4 55 rfl rfl, gw4 56 rfl rfl, gw4 57 rfl rfl, rfl, by decide, by decide, by decide +kernel, rfl⟩
theorem v_1_191 : VirtAt 1 191 63 4 := ⟨mo_63, gw4 185 rfl rfl, gw4 99 rfl rfl, gw4 100 rfl rfl, rfl, by decide, by decide, by decide +kernel, rfl⟩
theorem v_1_215 : VirtAt 1 215 163 1 := ⟨mo_163, gw6 153 rfl rfl, gw6 155 rfl rfl, gwp 41 (q := (⟨"HotThrough", "throughNext", "(I)I"⟩, 15)) (by decide +kernel), rfl, by decide, by decide, by decide +kernel, rfl⟩
theorem v_1_218 : VirtAt 1 218 75 6 := ⟨mo_75, gw5 53 rfl rfl, gw4 149 rfl rfl, gw4 150 rfl rfl, rfl, by decide, by decide, by decide +kernel, rfl⟩
theorem v_1_222 : VirtAt 1 222 78 3 := ⟨mo_78, gw6 157 rfl rfl, gw4 164 rfl rfl, gw4 165 rfl rfl, rfl, by decide, by decide, by decide +kernel, rfl⟩
theorem v_1_226 : VirtAt 1 226 53 5 := ⟨mo_53, gw4 59 rfl rfl, gw4 60 rfl rfl, gw4 61 rfl rfl, rfl, by decide, by decide, by decide +kernel, rfl⟩
theorem v_1_240 : VirtAt 1 240 58 7 := ⟨mo_58, gw4 78 rfl rfl, gw4 79 rfl rfl, gw4 80 rfl rfl, rfl, by decide, by decide, by decide +kernel, rfl⟩
theorem v_1_243 : VirtAt 1 243 62 7 := ⟨mo_62, gw4 94 rfl rfl, gw4 95 rfl rfl, gw4 96 rfl rfl, rfl, by decide, by decide, by decide +kernel, rfl⟩
theorem v_1_246 : VirtAt 1 246 64 7 := ⟨mo_64, gw4 103 rfl rfl, gw4 104 rfl rfl, gw4 105 rfl rfl, rfl, by decide, by decide, by decide +kernel, rfl⟩
theorem v_1_249 : VirtAt 1 249 66 7 := ⟨mo_66, gw4 111 rfl rfl, gw4 112 rfl rfl, gw4 113 rfl rfl, rfl, by decide, by decide, by decide +kernel, rfl⟩
theorem v_1_252 : VirtAt 1 252 68 7 := ⟨mo_68, gw4 120 rfl rfl, gw4 121 rfl rfl, gw4 122 rfl rfl, rfl, by decide, by decide, by decide +kernel, rfl⟩
theorem v_1_255 : VirtAt 1 255 83 1 := ⟨mo_83, gw4 186 rfl rfl, gw4 188 rfl rfl, gwp 16 (q := (⟨"HotThrough", "startRow", "()V"⟩, 15)) (by decide +kernel), rfl, by decide, by decide, by decide +kernel, rfl⟩
theorem v_1_261 : VirtAt 1 261 84 1 := ⟨mo_84, gw4 190 rfl rfl, gw4 192 rfl rfl, gwp 17 (q := (⟨"HotThrough", "tell", "(J)V"⟩, 15)) (by decide +kernel), rfl, by decide, by decide, by decide +kernel, rfl⟩
theorem v_1_265 : VirtAt 1 265 86 7 := ⟨mo_86, gw4 198 rfl rfl, gw4 199 rfl rfl, gw4 200 rfl rfl, rfl, by decide, by decide, by decide +kernel, rfl⟩
theorem v_1_274 : VirtAt 1 274 88 7 := ⟨mo_88, gw4 206 rfl rfl, gw4 207 rfl rfl, gw4 208 rfl rfl, rfl, by decide, by decide, by decide +kernel, rfl⟩
theorem v_1_277 : VirtAt 1 277 90 7 := ⟨mo_90, gw4 214 rfl rfl, gw4 215 rfl rfl, gw4 216 rfl rfl, rfl, by decide, by decide, by decide +kernel, rfl⟩
theorem v_1_280 : VirtAt 1 280 92 7 := ⟨mo_92, gw4 222 rfl rfl, gw4 223 rfl rfl, gw4 224 rfl rfl, rfl, by decide, by decide, by decide +kernel, rfl⟩
theorem v_1_283 : VirtAt 1 283 94 7 := ⟨mo_94, gw4 230 rfl rfl, gw4 231 rfl rfl, gw4 232 rfl rfl, rfl, by decide, by decide, by decide +kernel, rfl⟩
theorem v_1_286 : VirtAt 1 286 97 7 := ⟨mo_97, gw5 6 rfl rfl, gw5 7 rfl rfl, gw5 8 rfl rfl, rfl, by decide, by decide, by decide +kernel, rfl⟩
theorem v_1_287 : VirtAt 1 287 100 7 := ⟨mo_100, gw5 26 rfl rfl, gw5 27 rfl rfl, gw5 28 rfl rfl, rfl, by decide, by decide, by decide +kernel, rfl⟩
theorem v_1_290 : VirtAt 1 290 102 7 := ⟨mo_102, gw5 41 rfl rfl, gw5 42 rfl rfl, gw5 43 rfl rfl, rfl, by decide, by decide, by decide +kernel, rfl⟩
theorem v_1_294 : VirtAt 1 294 104 1 := ⟨mo_104, gw5 49 rfl rfl, gw5 51 rfl rfl, gwp 19 (q := (⟨"HotThrough", "holds", "(I)Z"⟩, 15)) (by decide +kernel), rfl, by decide, by decide, by decide +kernel, rfl⟩
theorem v_1_297 : VirtAt 1 297 105 6 := ⟨mo_105, gw5 54 rfl rfl, gw5 55 rfl rfl, gw5 56 rfl rfl, rfl, by decide, by decide, by decide +kernel, rfl⟩
theorem v_1_304 : VirtAt 1 304 111 1 := ⟨mo_111, gw5 80 rfl rfl, gw5 82 rfl rfl, gwp 21 (q := (⟨"HotThrough", "mayHold", "(III)Z"⟩, 15)) (by decide +kernel), rfl, by decide, by decide, by decide +kernel, rfl⟩
theorem v_1_310 : VirtAt 1 310 112 6 := ⟨mo_112, gw5 84 rfl rfl, gw5 85 rfl rfl, gw5 86 rfl rfl, rfl, by decide, by decide, by decide +kernel, rfl⟩
theorem v_1_313 : VirtAt 1 313 115 8 := ⟨mo_115, gw5 97 rfl rfl, gw5 98 rfl rfl, gw5 99 rfl rfl, rfl, by decide, by decide, by decide +kernel, rfl⟩
theorem v_1_324 : VirtAt 1 324 121 8 := ⟨mo_121, gw5 125 rfl rfl, gw5 126 rfl rfl, gw5 127 rfl rfl, rfl, by decide, by decide, by decide +kernel, rfl⟩
theorem v_1_338 : VirtAt 1 338 124 9 := ⟨mo_124, gw5 139 rfl rfl, gw5 140 rfl rfl, gw5 141 rfl rfl, rfl, by decide, by decide, by decide +kernel, rfl⟩
theorem v_1_345 : VirtAt 1 345 132 1 := ⟨mo_132, gw5 174 rfl rfl, gw5 176 rfl rfl, gwp 30 (q := (⟨"HotThrough", "areFree", "(I)Z"⟩, 15)) (by decide +kernel), rfl, by decide, by decide, by decide +kernel, rfl⟩
theorem v_1_348 : VirtAt 1 348 133 10 := ⟨mo_133, gw5 178 rfl rfl, gw5 179 rfl rfl, gw5 180 rfl rfl, rfl, by decide, by decide, by decide +kernel, rfl⟩
theorem v_1_353 : VirtAt 1 353 137 1 := ⟨mo_137, gw5 197 rfl rfl, gw5 199 rfl rfl, gwp 33 (q := (⟨"HotThrough", "areOnPlaces", "(I)Z"⟩, 15)) (by decide +kernel), rfl, by decide, by decide, by decide +kernel, rfl⟩
theorem v_1_356 : VirtAt 1 356 138 11 := ⟨mo_138, gw5 201 rfl rfl, gw5 202 rfl rfl, gw5 203 rfl rfl, rfl, by decide, by decide, by decide +kernel, rfl⟩
theorem v_1_361 : VirtAt 1 361 142 11 := ⟨mo_142, gw5 230 rfl rfl, gw5 221 rfl rfl, gw5 222 rfl rfl, rfl, by decide, by decide, by decide +kernel, rfl⟩
theorem v_1_364 : VirtAt 1 364 144 12 := ⟨mo_144, gw5 235 rfl rfl, gw5 236 rfl rfl, gw5 237 rfl rfl, rfl, by decide, by decide, by decide +kernel, rfl⟩
theorem v_1_368 : VirtAt 1 368 147 12 := ⟨mo_147, gw6 7 rfl rfl, gw6 8 rfl rfl, gw6 9 rfl rfl, rfl, by decide, by decide, by decide +kernel, rfl⟩
theorem v_1_378 : VirtAt 1 378 61 5 := ⟨mo_61, gw6 36 rfl rfl, gw4 90 rfl rfl, gw4 91 rfl rfl, rfl, by decide, by decide, by decide +kernel, rfl⟩
theorem v_1_390 : VirtAt 1 390 155 5 := ⟨mo_155, gw6 45 rfl rfl, gw6 46 rfl rfl, gw6 47 rfl rfl, rfl, by decide, by decide, by decide +kernel, rfl⟩
theorem v_2_38 : VirtAt 2 38 21 2 := ⟨mo_21, gw3 181 rfl rfl, gw3 158 rfl rfl, gw3 159 rfl rfl, rfl, by decide, by decide, by decide +kernel, rfl⟩
theorem v_2_42 : VirtAt 2 42 28 2 := ⟨mo_28, gw3 207 rfl rfl, gw3 187 rfl rfl, gw3 188 rfl rfl, rfl, by decide, by decide, by decide +kernel, rfl⟩
theorem v_2_46 : VirtAt 2 46 27 2 := ⟨mo_27, gw3 198 rfl rfl, gw3 183 rfl rfl, gw3 184 rfl rfl, rfl, by decide, by decide, by decide +kernel, rfl⟩
theorem v_2_50 : VirtAt 2 50 31 2 := ⟨mo_31, gw3 199 rfl rfl, gw3 200 rfl rfl, gw3 201 rfl rfl, rfl, by decide, by decide, by decide +kernel, rfl⟩
theorem v_3_110 : VirtAt 3 110 81 6 := ⟨mo_81, gw4 175 rfl rfl, gw4 176 rfl rfl, gw4 177 rfl rfl, rfl, by decide, by decide, by decide +kernel, rfl⟩
theorem v_3_21 : VirtAt 3 21 18 2 := ⟨mo_18, gw4 8 rfl rfl, gw3 147 rfl rfl, gw3 148 rfl rfl, rfl, by decide, by decide, by decide +kernel, rfl⟩
theorem v_3_31 : VirtAt 3 31 43 2 := ⟨mo_43, gw4 9 rfl rfl, gw4 10 rfl rfl, gw4 11 rfl rfl, rfl, by decide, by decide, by decide +kernel, rfl⟩
theorem v_3_35 : VirtAt 3 35 44 3 := ⟨mo_44, gw4 13 rfl rfl, gw4 15 rfl rfl, gwp 6 (q := (⟨"HotThrough$Rule", "expression", "(LHotThrough$Text;I)V"⟩, 5)) (by decide +kernel), rfl, by decide, by decide, by decide +kernel, rfl⟩
theorem v_3_39 : VirtAt 3 39 39 2 := ⟨mo_39, gw4 47 rfl rfl, gw3 233 rfl rfl, gw3 234 rfl rfl, rfl, by decide, by decide, by decide +kernel, rfl⟩
theorem v_3_52 : VirtAt 3 52 45 3 := ⟨mo_45, gw4 17 rfl rfl, gw4 19 rfl rfl, gwp 7 (q := (⟨"HotThrough$Rule", "sum", "(LHotThrough$Text;I)V"⟩, 5)) (by decide +kernel), rfl, by decide, by decide, by decide +kernel, rfl⟩
theorem v_3_55 : VirtAt 3 55 21 2 := ⟨mo_21, gw4 34 rfl rfl, gw3 158 rfl rfl, gw3 159 rfl rfl, rfl, by decide, by decide, by decide +kernel, rfl⟩
theorem v_3_58 : VirtAt 3 58 24 2 := ⟨mo_24, gw4 35 rfl rfl, gw3 170 rfl rfl, gw3 171 rfl rfl, rfl, by decide, by decide, by decide +kernel, rfl⟩
theorem v_3_61 : VirtAt 3 61 49 3 := ⟨mo_49, gw4 39 rfl rfl, gw4 41 rfl rfl, gwp 11 (q := (⟨"HotThrough$Rule", "emit", "(I)V"⟩, 5)) (by decide +kernel), rfl, by decide, by decide, by decide +kernel, rfl⟩
theorem v_3_64 : VirtAt 3 64 46 3 := ⟨mo_46, gw4 21 rfl rfl, gw4 23 rfl rfl, gwp 8 (q := (⟨"HotThrough$Rule", "product", "(LHotThrough$Text;I)V"⟩, 5)) (by decide +kernel), rfl, by decide, by decide, by decide +kernel, rfl⟩
theorem v_3_67 : VirtAt 3 67 47 3 := ⟨mo_47, gw4 25 rfl rfl, gw4 27 rfl rfl, gwp 9 (q := (⟨"HotThrough$Rule", "factor", "(LHotThrough$Text;I)V"⟩, 5)) (by decide +kernel), rfl, by decide, by decide, by decide +kernel, rfl⟩
theorem v_3_70 : VirtAt 3 70 28 2 := ⟨mo_28, gw4 29 rfl rfl, gw3 187 rfl rfl, gw3 188 rfl rfl, rfl, by decide, by decide, by decide +kernel, rfl⟩
theorem v_3_74 : VirtAt 3 74 48 3 := ⟨mo_48, gw4 30 rfl rfl, gw4 32 rfl rfl, gwp 10 (q := (⟨"HotThrough$Rule", "thing", "(LHotThrough$Text;I)V"⟩, 5)) (by decide +kernel), rfl, by decide, by decide, by decide +kernel, rfl⟩
theorem v_3_77 : VirtAt 3 77 32 2 := ⟨mo_32, gw4 36 rfl rfl, gw3 204 rfl rfl, gw3 205 rfl rfl, rfl, by decide, by decide, by decide +kernel, rfl⟩
theorem v_3_81 : VirtAt 3 81 31 2 := ⟨mo_31, gw4 37 rfl rfl, gw3 200 rfl rfl, gw3 201 rfl rfl, rfl, by decide, by decide, by decide +kernel, rfl⟩
theorem v_3_84 : VirtAt 3 84 30 2 := ⟨mo_30, gw4 38 rfl rfl, gw3 195 rfl rfl, gw3 196 rfl rfl, rfl, by decide, by decide, by decide +kernel, rfl⟩
theorem v_3_92 : VirtAt 3 92 23 2 := ⟨mo_23, gw4 46 rfl rfl, gw3 166 rfl rfl, gw3 167 rfl rfl, rfl, by decide, by decide, by decide +kernel, rfl⟩
theorem v_4_111 : VirtAt 4 111 30 2 := ⟨mo_30, gw3 194 rfl rfl, gw3 195 rfl rfl, gw3 196 rfl rfl, rfl, by decide, by decide, by decide +kernel, rfl⟩
theorem v_4_114 : VirtAt 4 114 32 2 := ⟨mo_32, gw3 203 rfl rfl, gw3 204 rfl rfl, gw3 205 rfl rfl, rfl, by decide, by decide, by decide +kernel, rfl⟩
theorem v_4_121 : VirtAt 4 121 33 4 := ⟨mo_33, gw3 208 rfl rfl, gw3 209 rfl rfl, gw3 210 rfl rfl, rfl, by decide, by decide, by decide +kernel, rfl⟩
theorem v_4_124 : VirtAt 4 124 34 2 := ⟨mo_34, gw3 212 rfl rfl, gw3 213 rfl rfl, gw3 214 rfl rfl, rfl, by decide, by decide, by decide +kernel, rfl⟩
theorem v_4_127 : VirtAt 4 127 35 5 := ⟨mo_35, gw3 216 rfl rfl, gw3 217 rfl rfl, gw3 218 rfl rfl, rfl, by decide, by decide, by decide +kernel, rfl⟩
theorem v_4_137 : VirtAt 4 137 37 5 := ⟨mo_37, gw3 224 rfl rfl, gw3 225 rfl rfl, gw3 226 rfl rfl, rfl, by decide, by decide, by decide +kernel, rfl⟩
theorem v_4_46 : VirtAt 4 46 72 4 := ⟨mo_72, gw4 136 rfl rfl, gw4 137 rfl rfl, gw4 138 rfl rfl, rfl, by decide, by decide, by decide +kernel, rfl⟩
theorem v_4_50 : VirtAt 4 50 70 4 := ⟨mo_70, gw4 128 rfl rfl, gw4 129 rfl rfl, gw4 130 rfl rfl, rfl, by decide, by decide, by decide +kernel, rfl⟩
theorem v_4_53 : VirtAt 4 53 18 2 := ⟨mo_18, gw3 146 rfl rfl, gw3 147 rfl rfl, gw3 148 rfl rfl, rfl, by decide, by decide, by decide +kernel, rfl⟩
theorem v_4_59 : VirtAt 4 59 20 4 := ⟨mo_20, gw3 153 rfl rfl, gw3 155 rfl rfl, gwp 0 (q := (⟨"HotThrough$Kitchen", "readLine", "(LHotThrough$Text;LHotThrough$State;)V"⟩, 11)) (by decide +kernel), rfl, by decide, by decide, by decide +kernel, rfl⟩
theorem v_4_63 : VirtAt 4 63 28 2 := ⟨mo_28, gw3 186 rfl rfl, gw3 187 rfl rfl, gw3 188 rfl rfl, rfl, by decide, by decide, by decide +kernel, rfl⟩
theorem v_4_67 : VirtAt 4 67 39 2 := ⟨mo_39, gw3 232 rfl rfl, gw3 233 rfl rfl, gw3 234 rfl rfl, rfl, by decide, by decide, by decide +kernel, rfl⟩
theorem v_4_71 : VirtAt 4 71 21 2 := ⟨mo_21, gw3 157 rfl rfl, gw3 158 rfl rfl, gw3 159 rfl rfl, rfl, by decide, by decide, by decide +kernel, rfl⟩
theorem v_4_74 : VirtAt 4 74 22 4 := ⟨mo_22, gw3 161 rfl rfl, gw3 163 rfl rfl, gwp 1 (q := (⟨"HotThrough$Kitchen", "hasRoom", "(I)Z"⟩, 11)) (by decide +kernel), rfl, by decide, by decide, by decide +kernel, rfl⟩
theorem v_4_77 : VirtAt 4 77 23 2 := ⟨mo_23, gw3 165 rfl rfl, gw3 166 rfl rfl, gw3 167 rfl rfl, rfl, by decide, by decide, by decide +kernel, rfl⟩
theorem v_4_80 : VirtAt 4 80 24 2 := ⟨mo_24, gw3 169 rfl rfl, gw3 170 rfl rfl, gw3 171 rfl rfl, rfl, by decide, by decide, by decide +kernel, rfl⟩
theorem v_4_83 : VirtAt 4 83 25 4 := ⟨mo_25, gw3 173 rfl rfl, gw3 175 rfl rfl, gwp 2 (q := (⟨"HotThrough$Kitchen", "readWay", "(LHotThrough$Text;LHotThrough$State;)V"⟩, 11)) (by decide +kernel), rfl, by decide, by decide, by decide +kernel, rfl⟩
theorem v_4_86 : VirtAt 4 86 29 4 := ⟨mo_29, gw3 190 rfl rfl, gw3 192 rfl rfl, gwp 3 (q := (⟨"HotThrough$Kitchen", "readPot", "(LHotThrough$Text;LHotThrough$State;)V"⟩, 11)) (by decide +kernel), rfl, by decide, by decide, by decide +kernel, rfl⟩
theorem v_4_89 : VirtAt 4 89 36 4 := ⟨mo_36, gw3 220 rfl rfl, gw3 222 rfl rfl, gwp 4 (q := (⟨"HotThrough$Kitchen", "readPerson", "(LHotThrough$Text;LHotThrough$State;)V"⟩, 11)) (by decide +kernel), rfl, by decide, by decide, by decide +kernel, rfl⟩
theorem v_4_92 : VirtAt 4 92 38 4 := ⟨mo_38, gw3 228 rfl rfl, gw3 230 rfl rfl, gwp 5 (q := (⟨"HotThrough$Kitchen", "addPlace", "(I)V"⟩, 11)) (by decide +kernel), rfl, by decide, by decide, by decide +kernel, rfl⟩
theorem v_4_95 : VirtAt 4 95 26 2 := ⟨mo_26, gw3 177 rfl rfl, gw3 178 rfl rfl, gw3 179 rfl rfl, rfl, by decide, by decide, by decide +kernel, rfl⟩
theorem v_4_99 : VirtAt 4 99 27 2 := ⟨mo_27, gw3 182 rfl rfl, gw3 183 rfl rfl, gw3 184 rfl rfl, rfl, by decide, by decide, by decide +kernel, rfl⟩
theorem v_6_100 : VirtAt 6 100 107 6 := ⟨mo_107, gw5 62 rfl rfl, gw5 63 rfl rfl, gw5 64 rfl rfl, rfl, by decide, by decide, by decide +kernel, rfl⟩
theorem v_6_104 : VirtAt 6 104 106 6 := ⟨mo_106, gw5 58 rfl rfl, gw5 60 rfl rfl, gwp 20 (q := (⟨"HotThrough$Carrier", "changeHands", "()V"⟩, 13)) (by decide +kernel), rfl, by decide, by decide, by decide +kernel, rfl⟩
theorem v_6_23 : VirtAt 6 23 63 4 := ⟨mo_63, gw4 156 rfl rfl, gw4 99 rfl rfl, gw4 100 rfl rfl, rfl, by decide, by decide, by decide +kernel, rfl⟩
theorem v_6_63 : VirtAt 6 63 52 4 := ⟨mo_52, gw4 161 rfl rfl, gw4 56 rfl rfl, gw4 57 rfl rfl, rfl, by decide, by decide, by decide +kernel, rfl⟩
theorem v_6_85 : VirtAt 6 85 76 6 := ⟨mo_76, gw4 152 rfl rfl, gw4 153 rfl rfl, gw4 154 rfl rfl, rfl, by decide, by decide, by decide +kernel, rfl⟩
theorem v_6_88 : VirtAt 6 88 77 6 := ⟨mo_77, gw4 157 rfl rfl, gw4 158 rfl rfl, gw4 159 rfl rfl, rfl, by decide, by decide, by decide +kernel, rfl⟩
theorem v_6_91 : VirtAt 6 91 78 3 := ⟨mo_78, gw5 66 rfl rfl, gw4 164 rfl rfl, gw4 165 rfl rfl, rfl, by decide, by decide, by decide +kernel, rfl⟩
theorem v_7_104 : VirtAt 7 104 69 4 := ⟨mo_69, gw4 124 rfl rfl, gw4 125 rfl rfl, gw4 126 rfl rfl, rfl, by decide, by decide, by decide +kernel, rfl⟩
theorem v_7_110 : VirtAt 7 110 71 4 := ⟨mo_71, gw4 132 rfl rfl, gw4 133 rfl rfl, gw4 134 rfl rfl, rfl, by decide, by decide, by decide +kernel, rfl⟩
theorem v_7_117 : VirtAt 7 117 73 7 := ⟨mo_73, gw4 140 rfl rfl, gw4 142 rfl rfl, gwp 13 (q := (⟨"HotThrough$Acts", "second", "()V"⟩, 13)) (by decide +kernel), rfl, by decide, by decide, by decide +kernel, rfl⟩
theorem v_7_123 : VirtAt 7 123 74 7 := ⟨mo_74, gw4 144 rfl rfl, gw4 146 rfl rfl, gwp 14 (q := (⟨"HotThrough$Acts", "hold", "(I)V"⟩, 13)) (by decide +kernel), rfl, by decide, by decide, by decide +kernel, rfl⟩
theorem v_7_130 : VirtAt 7 130 82 7 := ⟨mo_82, gw4 180 rfl rfl, gw4 182 rfl rfl, gwp 15 (q := (⟨"HotThrough$Acts", "coolHand", "(I)V"⟩, 13)) (by decide +kernel), rfl, by decide, by decide, by decide +kernel, rfl⟩
theorem v_7_148 : VirtAt 7 148 75 6 := ⟨mo_75, gw4 148 rfl rfl, gw4 149 rfl rfl, gw4 150 rfl rfl, rfl, by decide, by decide, by decide +kernel, rfl⟩
theorem v_7_155 : VirtAt 7 155 78 3 := ⟨mo_78, gw4 163 rfl rfl, gw4 164 rfl rfl, gw4 165 rfl rfl, rfl, by decide, by decide, by decide +kernel, rfl⟩
theorem v_7_178 : VirtAt 7 178 70 4 := ⟨mo_70, gw4 234 rfl rfl, gw4 129 rfl rfl, gw4 130 rfl rfl, rfl, by decide, by decide, by decide +kernel, rfl⟩
theorem v_7_181 : VirtAt 7 181 72 4 := ⟨mo_72, gw4 235 rfl rfl, gw4 137 rfl rfl, gw4 138 rfl rfl, rfl, by decide, by decide, by decide +kernel, rfl⟩
theorem v_7_189 : VirtAt 7 189 18 2 := ⟨mo_18, gw5 10 rfl rfl, gw3 147 rfl rfl, gw3 148 rfl rfl, rfl, by decide, by decide, by decide +kernel, rfl⟩
theorem v_7_193 : VirtAt 7 193 43 2 := ⟨mo_43, gw5 11 rfl rfl, gw4 10 rfl rfl, gw4 11 rfl rfl, rfl, by decide, by decide, by decide +kernel, rfl⟩
theorem v_7_197 : VirtAt 7 197 98 7 := ⟨mo_98, gw5 12 rfl rfl, gw5 14 rfl rfl, gwp 18 (q := (⟨"HotThrough$Acts", "readAct", "(LHotThrough$Text;I)V"⟩, 13)) (by decide +kernel), rfl, by decide, by decide, by decide +kernel, rfl⟩
theorem v_7_201 : VirtAt 7 201 28 2 := ⟨mo_28, gw5 24 rfl rfl, gw3 187 rfl rfl, gw3 188 rfl rfl, rfl, by decide, by decide, by decide +kernel, rfl⟩
theorem v_7_205 : VirtAt 7 205 39 2 := ⟨mo_39, gw5 25 rfl rfl, gw3 233 rfl rfl, gw3 234 rfl rfl, rfl, by decide, by decide, by decide +kernel, rfl⟩
theorem v_7_209 : VirtAt 7 209 21 2 := ⟨mo_21, gw5 16 rfl rfl, gw3 158 rfl rfl, gw3 159 rfl rfl, rfl, by decide, by decide, by decide +kernel, rfl⟩
theorem v_7_215 : VirtAt 7 215 23 2 := ⟨mo_23, gw5 20 rfl rfl, gw3 166 rfl rfl, gw3 167 rfl rfl, rfl, by decide, by decide, by decide +kernel, rfl⟩
theorem v_7_218 : VirtAt 7 218 24 2 := ⟨mo_24, gw5 21 rfl rfl, gw3 170 rfl rfl, gw3 171 rfl rfl, rfl, by decide, by decide, by decide +kernel, rfl⟩
theorem v_7_221 : VirtAt 7 221 27 2 := ⟨mo_27, gw5 22 rfl rfl, gw3 183 rfl rfl, gw3 184 rfl rfl, rfl, by decide, by decide, by decide +kernel, rfl⟩
theorem v_7_224 : VirtAt 7 224 30 2 := ⟨mo_30, gw5 23 rfl rfl, gw3 195 rfl rfl, gw3 196 rfl rfl, rfl, by decide, by decide, by decide +kernel, rfl⟩
theorem v_7_227 : VirtAt 7 227 62 7 := ⟨mo_62, gw5 30 rfl rfl, gw4 95 rfl rfl, gw4 96 rfl rfl, rfl, by decide, by decide, by decide +kernel, rfl⟩
theorem v_7_230 : VirtAt 7 230 66 7 := ⟨mo_66, gw5 31 rfl rfl, gw4 112 rfl rfl, gw4 113 rfl rfl, rfl, by decide, by decide, by decide +kernel, rfl⟩
theorem v_7_233 : VirtAt 7 233 68 7 := ⟨mo_68, gw5 32 rfl rfl, gw4 121 rfl rfl, gw4 122 rfl rfl, rfl, by decide, by decide, by decide +kernel, rfl⟩
theorem v_7_236 : VirtAt 7 236 86 7 := ⟨mo_86, gw5 33 rfl rfl, gw4 199 rfl rfl, gw4 200 rfl rfl, rfl, by decide, by decide, by decide +kernel, rfl⟩
theorem v_7_239 : VirtAt 7 239 88 7 := ⟨mo_88, gw5 34 rfl rfl, gw4 207 rfl rfl, gw4 208 rfl rfl, rfl, by decide, by decide, by decide +kernel, rfl⟩
theorem v_7_242 : VirtAt 7 242 90 7 := ⟨mo_90, gw5 35 rfl rfl, gw4 215 rfl rfl, gw4 216 rfl rfl, rfl, by decide, by decide, by decide +kernel, rfl⟩
theorem v_7_245 : VirtAt 7 245 94 7 := ⟨mo_94, gw5 36 rfl rfl, gw4 231 rfl rfl, gw4 232 rfl rfl, rfl, by decide, by decide, by decide +kernel, rfl⟩
theorem v_7_57 : VirtAt 7 57 59 7 := ⟨mo_59, gw4 82 rfl rfl, gw4 84 rfl rfl, gwp 12 (q := (⟨"HotThrough$Acts", "slot", "(I)I"⟩, 13)) (by decide +kernel), rfl, by decide, by decide, by decide +kernel, rfl⟩
theorem v_7_61 : VirtAt 7 61 61 5 := ⟨mo_61, gw4 89 rfl rfl, gw4 90 rfl rfl, gw4 91 rfl rfl, rfl, by decide, by decide, by decide +kernel, rfl⟩
theorem v_7_74 : VirtAt 7 74 63 4 := ⟨mo_63, gw4 98 rfl rfl, gw4 99 rfl rfl, gw4 100 rfl rfl, rfl, by decide, by decide, by decide +kernel, rfl⟩
theorem v_7_83 : VirtAt 7 83 52 4 := ⟨mo_52, gw4 102 rfl rfl, gw4 56 rfl rfl, gw4 57 rfl rfl, rfl, by decide, by decide, by decide +kernel, rfl⟩
theorem v_7_98 : VirtAt 7 98 33 4 := ⟨mo_33, gw4 115 rfl rfl, gw3 209 rfl rfl, gw3 210 rfl rfl, rfl, by decide, by decide, by decide +kernel, rfl⟩
theorem v_8_43 : VirtAt 8 43 71 4 := ⟨mo_71, gw5 101 rfl rfl, gw4 133 rfl rfl, gw4 134 rfl rfl, rfl, by decide, by decide, by decide +kernel, rfl⟩
theorem v_8_53 : VirtAt 8 53 116 8 := ⟨mo_116, gw5 102 rfl rfl, gw5 104 rfl rfl, gwp 22 (q := (⟨"HotThrough$Paths", "spread", "(II)Z"⟩, 9)) (by decide +kernel), rfl, by decide, by decide, by decide +kernel, rfl⟩
theorem v_8_58 : VirtAt 8 58 118 8 := ⟨mo_118, gw5 112 rfl rfl, gw5 114 rfl rfl, gwp 24 (q := (⟨"HotThrough$Paths", "trace", "(II)V"⟩, 9)) (by decide +kernel), rfl, by decide, by decide, by decide +kernel, rfl⟩
theorem v_8_66 : VirtAt 8 66 33 4 := ⟨mo_33, gw5 106 rfl rfl, gw3 209 rfl rfl, gw3 210 rfl rfl, rfl, by decide, by decide, by decide +kernel, rfl⟩
theorem v_8_79 : VirtAt 8 79 117 8 := ⟨mo_117, gw5 108 rfl rfl, gw5 110 rfl rfl, gwp 23 (q := (⟨"HotThrough$Paths", "relax", "(III)V"⟩, 9)) (by decide +kernel), rfl, by decide, by decide, by decide +kernel, rfl⟩
theorem v_8_83 : VirtAt 8 83 119 8 := ⟨mo_119, gw5 116 rfl rfl, gw5 118 rfl rfl, gwp 25 (q := (⟨"HotThrough$Paths", "nextFrom", "(I)I"⟩, 9)) (by decide +kernel), rfl, by decide, by decide, by decide +kernel, rfl⟩
theorem v_8_87 : VirtAt 8 87 69 4 := ⟨mo_69, gw5 120 rfl rfl, gw4 125 rfl rfl, gw4 126 rfl rfl, rfl, by decide, by decide, by decide +kernel, rfl⟩
theorem v_9_49 : VirtAt 9 49 75 6 := ⟨mo_75, gw5 143 rfl rfl, gw4 149 rfl rfl, gw4 150 rfl rfl, rfl, by decide, by decide, by decide +kernel, rfl⟩
theorem v_9_55 : VirtAt 9 55 125 9 := ⟨mo_125, gw5 144 rfl rfl, gw5 146 rfl rfl, gwp 26 (q := (⟨"HotThrough$Rester", "stop", "(II)V"⟩, 11)) (by decide +kernel), rfl, by decide, by decide, by decide +kernel, rfl⟩
theorem v_9_64 : VirtAt 9 64 126 9 := ⟨mo_126, gw5 148 rfl rfl, gw5 150 rfl rfl, gwp 27 (q := (⟨"HotThrough$Rester", "arrived", "(I)V"⟩, 11)) (by decide +kernel), rfl, by decide, by decide, by decide +kernel, rfl⟩
theorem v_9_74 : VirtAt 9 74 128 9 := ⟨mo_128, gw5 157 rfl rfl, gw5 159 rfl rfl, gwp 29 (q := (⟨"HotThrough$Rester", "goOn", "(II)V"⟩, 11)) (by decide +kernel), rfl, by decide, by decide, by decide +kernel, rfl⟩
theorem v_9_85 : VirtAt 9 85 129 6 := ⟨mo_129, gw5 162 rfl rfl, gw5 163 rfl rfl, gw5 164 rfl rfl, rfl, by decide, by decide, by decide +kernel, rfl⟩
theorem v_9_91 : VirtAt 9 91 112 6 := ⟨mo_112, gw5 161 rfl rfl, gw5 85 rfl rfl, gw5 86 rfl rfl, rfl, by decide, by decide, by decide +kernel, rfl⟩
theorem v_9_95 : VirtAt 9 95 127 9 := ⟨mo_127, gw5 152 rfl rfl, gw5 154 rfl rfl, gwp 28 (q := (⟨"HotThrough$Rester", "isLess", "(I)Z"⟩, 11)) (by decide +kernel), rfl, by decide, by decide, by decide +kernel, rfl⟩
theorem a_14 : ArrAt9 14 := ⟨by decide, by decide, gw1 86 rfl rfl⟩
theorem a_15 : ArrAt9 15 := ⟨by decide, by decide, gw3 121 rfl rfl⟩
