/-! places of the pools (by program) -/
theorem v_13_519 : VirtAt 13 519 272 13 := ⟨mo_272, gw9 159 (by decide +kernel) rfl, gw9 161 (by decide +kernel) rfl, gwp 105 (q := (⟨"HotThroughModel", "isLess", "(I)Z"⟩, 72)) (by decide +kernel), rfl, by decide, by decide, by decide +kernel, rfl⟩
theorem v_13_522 : VirtAt 13 522 270 13 := ⟨mo_270, gw9 151 (by decide +kernel) rfl, gw9 153 (by decide +kernel) rfl, gwp 103 (q := (⟨"HotThroughModel", "walksOn", "(IIIII)V"⟩, 72)) (by decide +kernel), rfl, by decide, by decide, by decide +kernel, rfl⟩
theorem v_13_531 : VirtAt 13 531 277 13 := ⟨mo_277, gw9 182 (by decide +kernel) rfl, gw9 184 (by decide +kernel) rfl, gwp 106 (q := (⟨"HotThroughModel", "dropped", "()I"⟩, 72)) (by decide +kernel), rfl, by decide, by decide, by decide +kernel, rfl⟩
theorem v_13_534 : VirtAt 13 534 278 13 := ⟨mo_278, gw9 186 (by decide +kernel) rfl, gw9 188 (by decide +kernel) rfl, gwp 107 (q := (⟨"HotThroughModel", "burntAll", "()I"⟩, 72)) (by decide +kernel), rfl, by decide, by decide, by decide +kernel, rfl⟩
theorem v_1_104 : VirtAt 1 104 13 2 := ⟨mo_13, gw3 126 (by decide +kernel) rfl, gw3 127 (by decide +kernel) rfl, gw3 128 (by decide +kernel) rfl, rfl, by decide, by decide, by decide +kernel, rfl⟩
theorem v_1_108 : VirtAt 1 108 15 2 := ⟨mo_15, gw3 134 (by decide +kernel) rfl, gw3 135 (by decide +kernel) rfl, gw3 136 (by decide +kernel) rfl, rfl, by decide, by decide, by decide +kernel, rfl⟩
theorem v_1_116 : VirtAt 1 116 17 4 := ⟨mo_17, gw3 142 (by decide +kernel) rfl, gw3 143 (by decide +kernel) rfl, gw3 144 (by decide +kernel) rfl, rfl, by decide, by decide, by decide +kernel, rfl⟩
theorem v_1_120 : VirtAt 1 120 40 7 := ⟨mo_40, gw3 236 (by decide +kernel) rfl, gw3 237 (by decide +kernel) rfl, gw3 238 (by decide +kernel) rfl, rfl, by decide, by decide, by decide +kernel, rfl⟩
theorem v_1_126 : VirtAt 1 126 42 3 := ⟨mo_42, gw4 4 (by decide +kernel) rfl, gw4 5 (by decide +kernel) rfl, gw4 6 (by decide +kernel) rfl, rfl, by decide, by decide, by decide +kernel, rfl⟩
theorem v_1_129 : VirtAt 1 129 33 4 := ⟨mo_33, gw5 96 (by decide +kernel) rfl, gw3 209 (by decide +kernel) rfl, gw3 210 (by decide +kernel) rfl, rfl, by decide, by decide, by decide +kernel, rfl⟩
theorem v_1_142 : VirtAt 1 142 157 5 := ⟨mo_157, gw6 118 (by decide +kernel) rfl, gw6 119 (by decide +kernel) rfl, gw6 120 (by decide +kernel) rfl, rfl, by decide, by decide, by decide +kernel, rfl⟩
theorem v_1_149 : VirtAt 1 149 158 5 := ⟨mo_158, gw6 122 (by decide +kernel) rfl, gw6 123 (by decide +kernel) rfl, gw6 124 (by decide +kernel) rfl, rfl, by decide, by decide, by decide +kernel, rfl⟩
theorem v_1_152 : VirtAt 1 152 159 4 := ⟨mo_159, gw6 126 (by decide +kernel) rfl, gw6 127 (by decide +kernel) rfl, gw6 128 (by decide +kernel) rfl, rfl, by decide, by decide, by decide +kernel, rfl⟩
theorem v_1_155 : VirtAt 1 155 70 4 := ⟨mo_70, gw6 137 (by decide +kernel) rfl, gw4 129 (by decide +kernel) rfl, gw4 130 (by decide +kernel) rfl, rfl, by decide, by decide, by decide +kernel, rfl⟩
theorem v_1_167 : VirtAt 1 167 72 4 := ⟨mo_72, gw6 138 (by decide +kernel) rfl, gw4 137 (by decide +kernel) rfl, gw4 138 (by decide +kernel) rfl, rfl, by decide, by decide, by decide +kernel, rfl⟩
theorem v_1_173 : VirtAt 1 173 52 4 := ⟨mo_52, gw4 55 (by decide +kernel) rfl, gw4 56 (by decide +kernel) rfl, gw4 57 (by decide +kernel) rfl, rfl, by decide, by decide, by decide +kernel, rfl⟩
theorem v_1_191 : VirtAt 1 191 63 4 := ⟨mo_63, gw4 185 (by decide +kernel) rfl, gw4 99 (by decide +kernel) rfl, gw4 100 (by decide +kernel) rfl, rfl, by decide, by decide, by decide +kernel, rfl⟩
theorem v_1_215 : VirtAt 1 215 163 1 := ⟨mo_163, gw6 153 (by decide +kernel) rfl, gw6 155 (by decide +kernel) rfl, gwp 41 (q := (⟨"HotThrough", "throughNext", "(I)I"⟩, 15)) (by decide +kernel), rfl, by decide, by decide, by decide +kernel, rfl⟩
theorem v_1_218 : VirtAt 1 218 75 6 := ⟨mo_75, gw5 53 (by decide +kernel) rfl, gw4 149 (by decide +kernel) rfl, gw4 150 (by decide +kernel) rfl, rfl, by decide, by decide, by decide +kernel, rfl⟩
theorem v_1_222 : VirtAt 1 222 78 3 := ⟨mo_78, gw6 157 (by decide +kernel) rfl, gw4 164 (by decide +kernel) rfl, gw4 165 (by decide +kernel) rfl, rfl, by decide, by decide, by decide +kernel, rfl⟩
theorem v_1_226 : VirtAt 1 226 53 5 := ⟨mo_53, gw4 59 (by decide +kernel) rfl, gw4 60 (by decide +kernel) rfl, gw4 61 (by decide +kernel) rfl, rfl, by decide, by decide, by decide +kernel, rfl⟩
theorem v_1_240 : VirtAt 1 240 58 7 := ⟨mo_58, gw4 78 (by decide +kernel) rfl, gw4 79 (by decide +kernel) rfl, gw4 80 (by decide +kernel) rfl, rfl, by decide, by decide, by decide +kernel, rfl⟩
theorem v_1_243 : VirtAt 1 243 62 7 := ⟨mo_62, gw4 94 (by decide +kernel) rfl, gw4 95 (by decide +kernel) rfl, gw4 96 (by decide +kernel) rfl, rfl, by decide, by decide, by decide +kernel, rfl⟩
theorem v_1_246 : VirtAt 1 246 64 7 := ⟨mo_64, gw4 103 (by decide +kernel) rfl, gw4 104 (by decide +kernel) rfl, gw4 105 (by decide +kernel) rfl, rfl, by decide, by decide, by decide +kernel, rfl⟩
theorem v_1_249 : VirtAt 1 249 66 7 := ⟨mo_66, gw4 111 (by decide +kernel) rfl, gw4 112 (by decide +kernel) rfl, gw4 113 (by decide +kernel) rfl, rfl, by decide, by decide, by decide +kernel, rfl⟩
theorem v_1_252 : VirtAt 1 252 68 7 := ⟨mo_68, gw4 120 (by decide +kernel) rfl, gw4 121 (by decide +kernel) rfl, gw4 122 (by decide +kernel) rfl, rfl, by decide, by decide, by decide +kernel, rfl⟩
theorem v_1_255 : VirtAt 1 255 83 1 := ⟨mo_83, gw4 186 (by decide +kernel) rfl, gw4 188 (by decide +kernel) rfl, gwp 16 (q := (⟨"HotThrough", "startRow", "()V"⟩, 15)) (by decide +kernel), rfl, by decide, by decide, by decide +kernel, rfl⟩
theorem v_1_261 : VirtAt 1 261 84 1 := ⟨mo_84, gw4 190 (by decide +kernel) rfl, gw4 192 (by decide +kernel) rfl, gwp 17 (q := (⟨"HotThrough", "tell", "(J)V"⟩, 15)) (by decide +kernel), rfl, by decide, by decide, by decide +kernel, rfl⟩
theorem v_1_265 : VirtAt 1 265 86 7 := ⟨mo_86, gw4 198 (by decide +kernel) rfl, gw4 199 (by decide +kernel) rfl, gw4 200 (by decide +kernel) rfl, rfl, by decide, by decide, by decide +kernel, rfl⟩
theorem v_1_274 : VirtAt 1 274 88 7 := ⟨mo_88, gw4 206 (by decide +kernel) rfl, gw4 207 (by decide +kernel) rfl, gw4 208 (by decide +kernel) rfl, rfl, by decide, by decide, by decide +kernel, rfl⟩
theorem v_1_277 : VirtAt 1 277 90 7 := ⟨mo_90, gw4 214 (by decide +kernel) rfl, gw4 215 (by decide +kernel) rfl, gw4 216 (by decide +kernel) rfl, rfl, by decide, by decide, by decide +kernel, rfl⟩
theorem v_1_280 : VirtAt 1 280 92 7 := ⟨mo_92, gw4 222 (by decide +kernel) rfl, gw4 223 (by decide +kernel) rfl, gw4 224 (by decide +kernel) rfl, rfl, by decide, by decide, by decide +kernel, rfl⟩
theorem v_1_283 : VirtAt 1 283 94 7 := ⟨mo_94, gw4 230 (by decide +kernel) rfl, gw4 231 (by decide +kernel) rfl, gw4 232 (by decide +kernel) rfl, rfl, by decide, by decide, by decide +kernel, rfl⟩
theorem v_1_286 : VirtAt 1 286 97 7 := ⟨mo_97, gw5 6 (by decide +kernel) rfl, gw5 7 (by decide +kernel) rfl, gw5 8 (by decide +kernel) rfl, rfl, by decide, by decide, by decide +kernel, rfl⟩
theorem v_1_287 : VirtAt 1 287 100 7 := ⟨mo_100, gw5 26 (by decide +kernel) rfl, gw5 27 (by decide +kernel) rfl, gw5 28 (by decide +kernel) rfl, rfl, by decide, by decide, by decide +kernel, rfl⟩
theorem v_1_290 : VirtAt 1 290 102 7 := ⟨mo_102, gw5 41 (by decide +kernel) rfl, gw5 42 (by decide +kernel) rfl, gw5 43 (by decide +kernel) rfl, rfl, by decide, by decide, by decide +kernel, rfl⟩
theorem v_1_294 : VirtAt 1 294 104 1 := ⟨mo_104, gw5 49 (by decide +kernel) rfl, gw5 51 (by decide +kernel) rfl, gwp 19 (q := (⟨"HotThrough", "holds", "(I)Z"⟩, 15)) (by decide +kernel), rfl, by decide, by decide, by decide +kernel, rfl⟩
theorem v_1_297 : VirtAt 1 297 105 6 := ⟨mo_105, gw5 54 (by decide +kernel) rfl, gw5 55 (by decide +kernel) rfl, gw5 56 (by decide +kernel) rfl, rfl, by decide, by decide, by decide +kernel, rfl⟩
theorem v_1_304 : VirtAt 1 304 111 1 := ⟨mo_111, gw5 80 (by decide +kernel) rfl, gw5 82 (by decide +kernel) rfl, gwp 21 (q := (⟨"HotThrough", "mayHold", "(III)Z"⟩, 15)) (by decide +kernel), rfl, by decide, by decide, by decide +kernel, rfl⟩
theorem v_1_310 : VirtAt 1 310 112 6 := ⟨mo_112, gw5 84 (by decide +kernel) rfl, gw5 85 (by decide +kernel) rfl, gw5 86 (by decide +kernel) rfl, rfl, by decide, by decide, by decide +kernel, rfl⟩
theorem v_1_313 : VirtAt 1 313 115 8 := ⟨mo_115, gw5 97 (by decide +kernel) rfl, gw5 98 (by decide +kernel) rfl, gw5 99 (by decide +kernel) rfl, rfl, by decide, by decide, by decide +kernel, rfl⟩
theorem v_1_324 : VirtAt 1 324 121 8 := ⟨mo_121, gw5 125 (by decide +kernel) rfl, gw5 126 (by decide +kernel) rfl, gw5 127 (by decide +kernel) rfl, rfl, by decide, by decide, by decide +kernel, rfl⟩
theorem v_1_338 : VirtAt 1 338 124 9 := ⟨mo_124, gw5 139 (by decide +kernel) rfl, gw5 140 (by decide +kernel) rfl, gw5 141 (by decide +kernel) rfl, rfl, by decide, by decide, by decide +kernel, rfl⟩
theorem v_1_345 : VirtAt 1 345 132 1 := ⟨mo_132, gw5 174 (by decide +kernel) rfl, gw5 176 (by decide +kernel) rfl, gwp 30 (q := (⟨"HotThrough", "areFree", "(I)Z"⟩, 15)) (by decide +kernel), rfl, by decide, by decide, by decide +kernel, rfl⟩
theorem v_1_348 : VirtAt 1 348 133 10 := ⟨mo_133, gw5 178 (by decide +kernel) rfl, gw5 179 (by decide +kernel) rfl, gw5 180 (by decide +kernel) rfl, rfl, by decide, by decide, by decide +kernel, rfl⟩
theorem v_1_353 : VirtAt 1 353 137 1 := ⟨mo_137, gw5 197 (by decide +kernel) rfl, gw5 199 (by decide +kernel) rfl, gwp 33 (q := (⟨"HotThrough", "areOnPlaces", "(I)Z"⟩, 15)) (by decide +kernel), rfl, by decide, by decide, by decide +kernel, rfl⟩
theorem v_1_356 : VirtAt 1 356 138 11 := ⟨mo_138, gw5 201 (by decide +kernel) rfl, gw5 202 (by decide +kernel) rfl, gw5 203 (by decide +kernel) rfl, rfl, by decide, by decide, by decide +kernel, rfl⟩
theorem v_1_361 : VirtAt 1 361 142 11 := ⟨mo_142, gw5 230 (by decide +kernel) rfl, gw5 221 (by decide +kernel) rfl, gw5 222 (by decide +kernel) rfl, rfl, by decide, by decide, by decide +kernel, rfl⟩
theorem v_1_364 : VirtAt 1 364 144 12 := ⟨mo_144, gw5 235 (by decide +kernel) rfl, gw5 236 (by decide +kernel) rfl, gw5 237 (by decide +kernel) rfl, rfl, by decide, by decide, by decide +kernel, rfl⟩
theorem v_1_368 : VirtAt 1 368 147 12 := ⟨mo_147, gw6 7 (by decide +kernel) rfl, gw6 8 (by decide +kernel) rfl, gw6 9 (by decide +kernel) rfl, rfl, by decide, by decide, by decide +kernel, rfl⟩
theorem v_1_378 : VirtAt 1 378 61 5 := ⟨mo_61, gw6 36 (by decide +kernel) rfl, gw4 90 (by decide +kernel) rfl, gw4 91 (by decide +kernel) rfl, rfl, by decide, by decide, by decide +kernel, rfl⟩
theorem v_1_390 : VirtAt 1 390 155 5 := ⟨mo_155, gw6 45 (by decide +kernel) rfl, gw6 46 (by decide +kernel) rfl, gw6 47 (by decide +kernel) rfl, rfl, by decide, by decide, by decide +kernel, rfl⟩
theorem v_2_38 : VirtAt 2 38 21 2 := ⟨mo_21, gw3 181 (by decide +kernel) rfl, gw3 158 (by decide +kernel) rfl, gw3 159 (by decide +kernel) rfl, rfl, by decide, by decide, by decide +kernel, rfl⟩
theorem v_2_42 : VirtAt 2 42 28 2 := ⟨mo_28, gw3 207 (by decide +kernel) rfl, gw3 187 (by decide +kernel) rfl, gw3 188 (by decide +kernel) rfl, rfl, by decide, by decide, by decide +kernel, rfl⟩
theorem v_2_46 : VirtAt 2 46 27 2 := ⟨mo_27, gw3 198 (by decide +kernel) rfl, gw3 183 (by decide +kernel) rfl, gw3 184 (by decide +kernel) rfl, rfl, by decide, by decide, by decide +kernel, rfl⟩
theorem v_2_50 : VirtAt 2 50 31 2 := ⟨mo_31, gw3 199 (by decide +kernel) rfl, gw3 200 (by decide +kernel) rfl, gw3 201 (by decide +kernel) rfl, rfl, by decide, by decide, by decide +kernel, rfl⟩
theorem v_3_110 : VirtAt 3 110 81 6 := ⟨mo_81, gw4 175 (by decide +kernel) rfl, gw4 176 (by decide +kernel) rfl, gw4 177 (by decide +kernel) rfl, rfl, by decide, by decide, by decide +kernel, rfl⟩
theorem v_3_21 : VirtAt 3 21 18 2 := ⟨mo_18, gw4 8 (by decide +kernel) rfl, gw3 147 (by decide +kernel) rfl, gw3 148 (by decide +kernel) rfl, rfl, by decide, by decide, by decide +kernel, rfl⟩
theorem v_3_31 : VirtAt 3 31 43 2 := ⟨mo_43, gw4 9 (by decide +kernel) rfl, gw4 10 (by decide +kernel) rfl, gw4 11 (by decide +kernel) rfl, rfl, by decide, by decide, by decide +kernel, rfl⟩
theorem v_3_35 : VirtAt 3 35 44 3 := ⟨mo_44, gw4 13 (by decide +kernel) rfl, gw4 15 (by decide +kernel) rfl, gwp 6 (q := (⟨"HotThrough$Rule", "expression", "(LHotThrough$Text;I)V"⟩, 5)) (by decide +kernel), rfl, by decide, by decide, by decide +kernel, rfl⟩
theorem v_3_39 : VirtAt 3 39 39 2 := ⟨mo_39, gw4 47 (by decide +kernel) rfl, gw3 233 (by decide +kernel) rfl, gw3 234 (by decide +kernel) rfl, rfl, by decide, by decide, by decide +kernel, rfl⟩
theorem v_3_52 : VirtAt 3 52 45 3 := ⟨mo_45, gw4 17 (by decide +kernel) rfl, gw4 19 (by decide +kernel) rfl, gwp 7 (q := (⟨"HotThrough$Rule", "sum", "(LHotThrough$Text;I)V"⟩, 5)) (by decide +kernel), rfl, by decide, by decide, by decide +kernel, rfl⟩
theorem v_3_55 : VirtAt 3 55 21 2 := ⟨mo_21, gw4 34 (by decide +kernel) rfl, gw3 158 (by decide +kernel) rfl, gw3 159 (by decide +kernel) rfl, rfl, by decide, by decide, by decide +kernel, rfl⟩
theorem v_3_58 : VirtAt 3 58 24 2 := ⟨mo_24, gw4 35 (by decide +kernel) rfl, gw3 170 (by decide +kernel) rfl, gw3 171 (by decide +kernel) rfl, rfl, by decide, by decide, by decide +kernel, rfl⟩
theorem v_3_61 : VirtAt 3 61 49 3 := ⟨mo_49, gw4 39 (by decide +kernel) rfl, gw4 41 (by decide +kernel) rfl, gwp 11 (q := (⟨"HotThrough$Rule", "emit", "(I)V"⟩, 5)) (by decide +kernel), rfl, by decide, by decide, by decide +kernel, rfl⟩
theorem v_3_64 : VirtAt 3 64 46 3 := ⟨mo_46, gw4 21 (by decide +kernel) rfl, gw4 23 (by decide +kernel) rfl, gwp 8 (q := (⟨"HotThrough$Rule", "product", "(LHotThrough$Text;I)V"⟩, 5)) (by decide +kernel), rfl, by decide, by decide, by decide +kernel, rfl⟩
theorem v_3_67 : VirtAt 3 67 47 3 := ⟨mo_47, gw4 25 (by decide +kernel) rfl, gw4 27 (by decide +kernel) rfl, gwp 9 (q := (⟨"HotThrough$Rule", "factor", "(LHotThrough$Text;I)V"⟩, 5)) (by decide +kernel), rfl, by decide, by decide, by decide +kernel, rfl⟩
theorem v_3_70 : VirtAt 3 70 28 2 := ⟨mo_28, gw4 29 (by decide +kernel) rfl, gw3 187 (by decide +kernel) rfl, gw3 188 (by decide +kernel) rfl, rfl, by decide, by decide, by decide +kernel, rfl⟩
theorem v_3_74 : VirtAt 3 74 48 3 := ⟨mo_48, gw4 30 (by decide +kernel) rfl, gw4 32 (by decide +kernel) rfl, gwp 10 (q := (⟨"HotThrough$Rule", "thing", "(LHotThrough$Text;I)V"⟩, 5)) (by decide +kernel), rfl, by decide, by decide, by decide +kernel, rfl⟩
theorem v_3_77 : VirtAt 3 77 32 2 := ⟨mo_32, gw4 36 (by decide +kernel) rfl, gw3 204 (by decide +kernel) rfl, gw3 205 (by decide +kernel) rfl, rfl, by decide, by decide, by decide +kernel, rfl⟩
theorem v_3_81 : VirtAt 3 81 31 2 := ⟨mo_31, gw4 37 (by decide +kernel) rfl, gw3 200 (by decide +kernel) rfl, gw3 201 (by decide +kernel) rfl, rfl, by decide, by decide, by decide +kernel, rfl⟩
theorem v_3_84 : VirtAt 3 84 30 2 := ⟨mo_30, gw4 38 (by decide +kernel) rfl, gw3 195 (by decide +kernel) rfl, gw3 196 (by decide +kernel) rfl, rfl, by decide, by decide, by decide +kernel, rfl⟩
theorem v_3_92 : VirtAt 3 92 23 2 := ⟨mo_23, gw4 46 (by decide +kernel) rfl, gw3 166 (by decide +kernel) rfl, gw3 167 (by decide +kernel) rfl, rfl, by decide, by decide, by decide +kernel, rfl⟩
theorem v_4_111 : VirtAt 4 111 30 2 := ⟨mo_30, gw3 194 (by decide +kernel) rfl, gw3 195 (by decide +kernel) rfl, gw3 196 (by decide +kernel) rfl, rfl, by decide, by decide, by decide +kernel, rfl⟩
theorem v_4_114 : VirtAt 4 114 32 2 := ⟨mo_32, gw3 203 (by decide +kernel) rfl, gw3 204 (by decide +kernel) rfl, gw3 205 (by decide +kernel) rfl, rfl, by decide, by decide, by decide +kernel, rfl⟩
theorem v_4_121 : VirtAt 4 121 33 4 := ⟨mo_33, gw3 208 (by decide +kernel) rfl, gw3 209 (by decide +kernel) rfl, gw3 210 (by decide +kernel) rfl, rfl, by decide, by decide, by decide +kernel, rfl⟩
theorem v_4_124 : VirtAt 4 124 34 2 := ⟨mo_34, gw3 212 (by decide +kernel) rfl, gw3 213 (by decide +kernel) rfl, gw3 214 (by decide +kernel) rfl, rfl, by decide, by decide, by decide +kernel, rfl⟩
theorem v_4_127 : VirtAt 4 127 35 5 := ⟨mo_35, gw3 216 (by decide +kernel) rfl, gw3 217 (by decide +kernel) rfl, gw3 218 (by decide +kernel) rfl, rfl, by decide, by decide, by decide +kernel, rfl⟩
theorem v_4_137 : VirtAt 4 137 37 5 := ⟨mo_37, gw3 224 (by decide +kernel) rfl, gw3 225 (by decide +kernel) rfl, gw3 226 (by decide +kernel) rfl, rfl, by decide, by decide, by decide +kernel, rfl⟩
theorem v_4_46 : VirtAt 4 46 72 4 := ⟨mo_72, gw4 136 (by decide +kernel) rfl, gw4 137 (by decide +kernel) rfl, gw4 138 (by decide +kernel) rfl, rfl, by decide, by decide, by decide +kernel, rfl⟩
theorem v_4_50 : VirtAt 4 50 70 4 := ⟨mo_70, gw4 128 (by decide +kernel) rfl, gw4 129 (by decide +kernel) rfl, gw4 130 (by decide +kernel) rfl, rfl, by decide, by decide, by decide +kernel, rfl⟩
theorem v_4_53 : VirtAt 4 53 18 2 := ⟨mo_18, gw3 146 (by decide +kernel) rfl, gw3 147 (by decide +kernel) rfl, gw3 148 (by decide +kernel) rfl, rfl, by decide, by decide, by decide +kernel, rfl⟩
theorem v_4_59 : VirtAt 4 59 20 4 := ⟨mo_20, gw3 153 (by decide +kernel) rfl, gw3 155 (by decide +kernel) rfl, gwp 0 (q := (⟨"HotThrough$Kitchen", "readLine", "(LHotThrough$Text;LHotThrough$State;)V"⟩, 11)) (by decide +kernel), rfl, by decide, by decide, by decide +kernel, rfl⟩
theorem v_4_63 : VirtAt 4 63 28 2 := ⟨mo_28, gw3 186 (by decide +kernel) rfl, gw3 187 (by decide +kernel) rfl, gw3 188 (by decide +kernel) rfl, rfl, by decide, by decide, by decide +kernel, rfl⟩
theorem v_4_67 : VirtAt 4 67 39 2 := ⟨mo_39, gw3 232 (by decide +kernel) rfl, gw3 233 (by decide +kernel) rfl, gw3 234 (by decide +kernel) rfl, rfl, by decide, by decide, by decide +kernel, rfl⟩
theorem v_4_71 : VirtAt 4 71 21 2 := ⟨mo_21, gw3 157 (by decide +kernel) rfl, gw3 158 (by decide +kernel) rfl, gw3 159 (by decide +kernel) rfl, rfl, by decide, by decide, by decide +kernel, rfl⟩
theorem v_4_74 : VirtAt 4 74 22 4 := ⟨mo_22, gw3 161 (by decide +kernel) rfl, gw3 163 (by decide +kernel) rfl, gwp 1 (q := (⟨"HotThrough$Kitchen", "hasRoom", "(I)Z"⟩, 11)) (by decide +kernel), rfl, by decide, by decide, by decide +kernel, rfl⟩
theorem v_4_77 : VirtAt 4 77 23 2 := ⟨mo_23, gw3 165 (by decide +kernel) rfl, gw3 166 (by decide +kernel) rfl, gw3 167 (by decide +kernel) rfl, rfl, by decide, by decide, by decide +kernel, rfl⟩
theorem v_4_80 : VirtAt 4 80 24 2 := ⟨mo_24, gw3 169 (by decide +kernel) rfl, gw3 170 (by decide +kernel) rfl, gw3 171 (by decide +kernel) rfl, rfl, by decide, by decide, by decide +kernel, rfl⟩
theorem v_4_83 : VirtAt 4 83 25 4 := ⟨mo_25, gw3 173 (by decide +kernel) rfl, gw3 175 (by decide +kernel) rfl, gwp 2 (q := (⟨"HotThrough$Kitchen", "readWay", "(LHotThrough$Text;LHotThrough$State;)V"⟩, 11)) (by decide +kernel), rfl, by decide, by decide, by decide +kernel, rfl⟩
theorem v_4_86 : VirtAt 4 86 29 4 := ⟨mo_29, gw3 190 (by decide +kernel) rfl, gw3 192 (by decide +kernel) rfl, gwp 3 (q := (⟨"HotThrough$Kitchen", "readPot", "(LHotThrough$Text;LHotThrough$State;)V"⟩, 11)) (by decide +kernel), rfl, by decide, by decide, by decide +kernel, rfl⟩
theorem v_4_89 : VirtAt 4 89 36 4 := ⟨mo_36, gw3 220 (by decide +kernel) rfl, gw3 222 (by decide +kernel) rfl, gwp 4 (q := (⟨"HotThrough$Kitchen", "readPerson", "(LHotThrough$Text;LHotThrough$State;)V"⟩, 11)) (by decide +kernel), rfl, by decide, by decide, by decide +kernel, rfl⟩
theorem v_4_92 : VirtAt 4 92 38 4 := ⟨mo_38, gw3 228 (by decide +kernel) rfl, gw3 230 (by decide +kernel) rfl, gwp 5 (q := (⟨"HotThrough$Kitchen", "addPlace", "(I)V"⟩, 11)) (by decide +kernel), rfl, by decide, by decide, by decide +kernel, rfl⟩
theorem v_4_95 : VirtAt 4 95 26 2 := ⟨mo_26, gw3 177 (by decide +kernel) rfl, gw3 178 (by decide +kernel) rfl, gw3 179 (by decide +kernel) rfl, rfl, by decide, by decide, by decide +kernel, rfl⟩
theorem v_4_99 : VirtAt 4 99 27 2 := ⟨mo_27, gw3 182 (by decide +kernel) rfl, gw3 183 (by decide +kernel) rfl, gw3 184 (by decide +kernel) rfl, rfl, by decide, by decide, by decide +kernel, rfl⟩
theorem v_6_100 : VirtAt 6 100 107 6 := ⟨mo_107, gw5 62 (by decide +kernel) rfl, gw5 63 (by decide +kernel) rfl, gw5 64 (by decide +kernel) rfl, rfl, by decide, by decide, by decide +kernel, rfl⟩
theorem v_6_104 : VirtAt 6 104 106 6 := ⟨mo_106, gw5 58 (by decide +kernel) rfl, gw5 60 (by decide +kernel) rfl, gwp 20 (q := (⟨"HotThrough$Carrier", "changeHands", "()V"⟩, 13)) (by decide +kernel), rfl, by decide, by decide, by decide +kernel, rfl⟩
theorem v_6_23 : VirtAt 6 23 63 4 := ⟨mo_63, gw4 156 (by decide +kernel) rfl, gw4 99 (by decide +kernel) rfl, gw4 100 (by decide +kernel) rfl, rfl, by decide, by decide, by decide +kernel, rfl⟩
theorem v_6_63 : VirtAt 6 63 52 4 := ⟨mo_52, gw4 161 (by decide +kernel) rfl, gw4 56 (by decide +kernel) rfl, gw4 57 (by decide +kernel) rfl, rfl, by decide, by decide, by decide +kernel, rfl⟩
theorem v_6_85 : VirtAt 6 85 76 6 := ⟨mo_76, gw4 152 (by decide +kernel) rfl, gw4 153 (by decide +kernel) rfl, gw4 154 (by decide +kernel) rfl, rfl, by decide, by decide, by decide +kernel, rfl⟩
theorem v_6_88 : VirtAt 6 88 77 6 := ⟨mo_77, gw4 157 (by decide +kernel) rfl, gw4 158 (by decide +kernel) rfl, gw4 159 (by decide +kernel) rfl, rfl, by decide, by decide, by decide +kernel, rfl⟩
theorem v_6_91 : VirtAt 6 91 78 3 := ⟨mo_78, gw5 66 (by decide +kernel) rfl, gw4 164 (by decide +kernel) rfl, gw4 165 (by decide +kernel) rfl, rfl, by decide, by decide, by decide +kernel, rfl⟩
theorem v_7_104 : VirtAt 7 104 69 4 := ⟨mo_69, gw4 124 (by decide +kernel) rfl, gw4 125 (by decide +kernel) rfl, gw4 126 (by decide +kernel) rfl, rfl, by decide, by decide, by decide +kernel, rfl⟩
theorem v_7_110 : VirtAt 7 110 71 4 := ⟨mo_71, gw4 132 (by decide +kernel) rfl, gw4 133 (by decide +kernel) rfl, gw4 134 (by decide +kernel) rfl, rfl, by decide, by decide, by decide +kernel, rfl⟩
theorem v_7_117 : VirtAt 7 117 73 7 := ⟨mo_73, gw4 140 (by decide +kernel) rfl, gw4 142 (by decide +kernel) rfl, gwp 13 (q := (⟨"HotThrough$Acts", "second", "()V"⟩, 13)) (by decide +kernel), rfl, by decide, by decide, by decide +kernel, rfl⟩
theorem v_7_123 : VirtAt 7 123 74 7 := ⟨mo_74, gw4 144 (by decide +kernel) rfl, gw4 146 (by decide +kernel) rfl, gwp 14 (q := (⟨"HotThrough$Acts", "hold", "(I)V"⟩, 13)) (by decide +kernel), rfl, by decide, by decide, by decide +kernel, rfl⟩
theorem v_7_130 : VirtAt 7 130 82 7 := ⟨mo_82, gw4 180 (by decide +kernel) rfl, gw4 182 (by decide +kernel) rfl, gwp 15 (q := (⟨"HotThrough$Acts", "coolHand", "(I)V"⟩, 13)) (by decide +kernel), rfl, by decide, by decide, by decide +kernel, rfl⟩
theorem v_7_148 : VirtAt 7 148 75 6 := ⟨mo_75, gw4 148 (by decide +kernel) rfl, gw4 149 (by decide +kernel) rfl, gw4 150 (by decide +kernel) rfl, rfl, by decide, by decide, by decide +kernel, rfl⟩
theorem v_7_155 : VirtAt 7 155 78 3 := ⟨mo_78, gw4 163 (by decide +kernel) rfl, gw4 164 (by decide +kernel) rfl, gw4 165 (by decide +kernel) rfl, rfl, by decide, by decide, by decide +kernel, rfl⟩
theorem v_7_178 : VirtAt 7 178 70 4 := ⟨mo_70, gw4 234 (by decide +kernel) rfl, gw4 129 (by decide +kernel) rfl, gw4 130 (by decide +kernel) rfl, rfl, by decide, by decide, by decide +kernel, rfl⟩
theorem v_7_181 : VirtAt 7 181 72 4 := ⟨mo_72, gw4 235 (by decide +kernel) rfl, gw4 137 (by decide +kernel) rfl, gw4 138 (by decide +kernel) rfl, rfl, by decide, by decide, by decide +kernel, rfl⟩
theorem v_7_189 : VirtAt 7 189 18 2 := ⟨mo_18, gw5 10 (by decide +kernel) rfl, gw3 147 (by decide +kernel) rfl, gw3 148 (by decide +kernel) rfl, rfl, by decide, by decide, by decide +kernel, rfl⟩
theorem v_7_193 : VirtAt 7 193 43 2 := ⟨mo_43, gw5 11 (by decide +kernel) rfl, gw4 10 (by decide +kernel) rfl, gw4 11 (by decide +kernel) rfl, rfl, by decide, by decide, by decide +kernel, rfl⟩
theorem v_7_197 : VirtAt 7 197 98 7 := ⟨mo_98, gw5 12 (by decide +kernel) rfl, gw5 14 (by decide +kernel) rfl, gwp 18 (q := (⟨"HotThrough$Acts", "readAct", "(LHotThrough$Text;I)V"⟩, 13)) (by decide +kernel), rfl, by decide, by decide, by decide +kernel, rfl⟩
theorem v_7_201 : VirtAt 7 201 28 2 := ⟨mo_28, gw5 24 (by decide +kernel) rfl, gw3 187 (by decide +kernel) rfl, gw3 188 (by decide +kernel) rfl, rfl, by decide, by decide, by decide +kernel, rfl⟩
theorem v_7_205 : VirtAt 7 205 39 2 := ⟨mo_39, gw5 25 (by decide +kernel) rfl, gw3 233 (by decide +kernel) rfl, gw3 234 (by decide +kernel) rfl, rfl, by decide, by decide, by decide +kernel, rfl⟩
theorem v_7_209 : VirtAt 7 209 21 2 := ⟨mo_21, gw5 16 (by decide +kernel) rfl, gw3 158 (by decide +kernel) rfl, gw3 159 (by decide +kernel) rfl, rfl, by decide, by decide, by decide +kernel, rfl⟩
theorem v_7_215 : VirtAt 7 215 23 2 := ⟨mo_23, gw5 20 (by decide +kernel) rfl, gw3 166 (by decide +kernel) rfl, gw3 167 (by decide +kernel) rfl, rfl, by decide, by decide, by decide +kernel, rfl⟩
theorem v_7_218 : VirtAt 7 218 24 2 := ⟨mo_24, gw5 21 (by decide +kernel) rfl, gw3 170 (by decide +kernel) rfl, gw3 171 (by decide +kernel) rfl, rfl, by decide, by decide, by decide +kernel, rfl⟩
theorem v_7_221 : VirtAt 7 221 27 2 := ⟨mo_27, gw5 22 (by decide +kernel) rfl, gw3 183 (by decide +kernel) rfl, gw3 184 (by decide +kernel) rfl, rfl, by decide, by decide, by decide +kernel, rfl⟩
theorem v_7_224 : VirtAt 7 224 30 2 := ⟨mo_30, gw5 23 (by decide +kernel) rfl, gw3 195 (by decide +kernel) rfl, gw3 196 (by decide +kernel) rfl, rfl, by decide, by decide, by decide +kernel, rfl⟩
theorem v_7_227 : VirtAt 7 227 62 7 := ⟨mo_62, gw5 30 (by decide +kernel) rfl, gw4 95 (by decide +kernel) rfl, gw4 96 (by decide +kernel) rfl, rfl, by decide, by decide, by decide +kernel, rfl⟩
theorem v_7_230 : VirtAt 7 230 66 7 := ⟨mo_66, gw5 31 (by decide +kernel) rfl, gw4 112 (by decide +kernel) rfl, gw4 113 (by decide +kernel) rfl, rfl, by decide, by decide, by decide +kernel, rfl⟩
theorem v_7_233 : VirtAt 7 233 68 7 := ⟨mo_68, gw5 32 (by decide +kernel) rfl, gw4 121 (by decide +kernel) rfl, gw4 122 (by decide +kernel) rfl, rfl, by decide, by decide, by decide +kernel, rfl⟩
theorem v_7_236 : VirtAt 7 236 86 7 := ⟨mo_86, gw5 33 (by decide +kernel) rfl, gw4 199 (by decide +kernel) rfl, gw4 200 (by decide +kernel) rfl, rfl, by decide, by decide, by decide +kernel, rfl⟩
theorem v_7_239 : VirtAt 7 239 88 7 := ⟨mo_88, gw5 34 (by decide +kernel) rfl, gw4 207 (by decide +kernel) rfl, gw4 208 (by decide +kernel) rfl, rfl, by decide, by decide, by decide +kernel, rfl⟩
theorem v_7_242 : VirtAt 7 242 90 7 := ⟨mo_90, gw5 35 (by decide +kernel) rfl, gw4 215 (by decide +kernel) rfl, gw4 216 (by decide +kernel) rfl, rfl, by decide, by decide, by decide +kernel, rfl⟩
theorem v_7_245 : VirtAt 7 245 94 7 := ⟨mo_94, gw5 36 (by decide +kernel) rfl, gw4 231 (by decide +kernel) rfl, gw4 232 (by decide +kernel) rfl, rfl, by decide, by decide, by decide +kernel, rfl⟩
theorem v_7_57 : VirtAt 7 57 59 7 := ⟨mo_59, gw4 82 (by decide +kernel) rfl, gw4 84 (by decide +kernel) rfl, gwp 12 (q := (⟨"HotThrough$Acts", "slot", "(I)I"⟩, 13)) (by decide +kernel), rfl, by decide, by decide, by decide +kernel, rfl⟩
theorem v_7_61 : VirtAt 7 61 61 5 := ⟨mo_61, gw4 89 (by decide +kernel) rfl, gw4 90 (by decide +kernel) rfl, gw4 91 (by decide +kernel) rfl, rfl, by decide, by decide, by decide +kernel, rfl⟩
theorem v_7_74 : VirtAt 7 74 63 4 := ⟨mo_63, gw4 98 (by decide +kernel) rfl, gw4 99 (by decide +kernel) rfl, gw4 100 (by decide +kernel) rfl, rfl, by decide, by decide, by decide +kernel, rfl⟩
theorem v_7_83 : VirtAt 7 83 52 4 := ⟨mo_52, gw4 102 (by decide +kernel) rfl, gw4 56 (by decide +kernel) rfl, gw4 57 (by decide +kernel) rfl, rfl, by decide, by decide, by decide +kernel, rfl⟩
theorem v_7_98 : VirtAt 7 98 33 4 := ⟨mo_33, gw4 115 (by decide +kernel) rfl, gw3 209 (by decide +kernel) rfl, gw3 210 (by decide +kernel) rfl, rfl, by decide, by decide, by decide +kernel, rfl⟩
theorem v_8_43 : VirtAt 8 43 71 4 := ⟨mo_71, gw5 101 (by decide +kernel) rfl, gw4 133 (by decide +kernel) rfl, gw4 134 (by decide +kernel) rfl, rfl, by decide, by decide, by decide +kernel, rfl⟩
theorem v_8_53 : VirtAt 8 53 116 8 := ⟨mo_116, gw5 102 (by decide +kernel) rfl, gw5 104 (by decide +kernel) rfl, gwp 22 (q := (⟨"HotThrough$Paths", "spread", "(II)Z"⟩, 9)) (by decide +kernel), rfl, by decide, by decide, by decide +kernel, rfl⟩
theorem v_8_58 : VirtAt 8 58 118 8 := ⟨mo_118, gw5 112 (by decide +kernel) rfl, gw5 114 (by decide +kernel) rfl, gwp 24 (q := (⟨"HotThrough$Paths", "trace", "(II)V"⟩, 9)) (by decide +kernel), rfl, by decide, by decide, by decide +kernel, rfl⟩
theorem v_8_66 : VirtAt 8 66 33 4 := ⟨mo_33, gw5 106 (by decide +kernel) rfl, gw3 209 (by decide +kernel) rfl, gw3 210 (by decide +kernel) rfl, rfl, by decide, by decide, by decide +kernel, rfl⟩
theorem v_8_79 : VirtAt 8 79 117 8 := ⟨mo_117, gw5 108 (by decide +kernel) rfl, gw5 110 (by decide +kernel) rfl, gwp 23 (q := (⟨"HotThrough$Paths", "relax", "(III)V"⟩, 9)) (by decide +kernel), rfl, by decide, by decide, by decide +kernel, rfl⟩
theorem v_8_83 : VirtAt 8 83 119 8 := ⟨mo_119, gw5 116 (by decide +kernel) rfl, gw5 118 (by decide +kernel) rfl, gwp 25 (q := (⟨"HotThrough$Paths", "nextFrom", "(I)I"⟩, 9)) (by decide +kernel), rfl, by decide, by decide, by decide +kernel, rfl⟩
theorem v_8_87 : VirtAt 8 87 69 4 := ⟨mo_69, gw5 120 (by decide +kernel) rfl, gw4 125 (by decide +kernel) rfl, gw4 126 (by decide +kernel) rfl, rfl, by decide, by decide, by decide +kernel, rfl⟩
theorem v_9_49 : VirtAt 9 49 75 6 := ⟨mo_75, gw5 143 (by decide +kernel) rfl, gw4 149 (by decide +kernel) rfl, gw4 150 (by decide +kernel) rfl, rfl, by decide, by decide, by decide +kernel, rfl⟩
theorem v_9_55 : VirtAt 9 55 125 9 := ⟨mo_125, gw5 144 (by decide +kernel) rfl, gw5 146 (by decide +kernel) rfl, gwp 26 (q := (⟨"HotThrough$Rester", "stop", "(II)V"⟩, 11)) (by decide +kernel), rfl, by decide, by decide, by decide +kernel, rfl⟩
theorem v_9_64 : VirtAt 9 64 126 9 := ⟨mo_126, gw5 148 (by decide +kernel) rfl, gw5 150 (by decide +kernel) rfl, gwp 27 (q := (⟨"HotThrough$Rester", "arrived", "(I)V"⟩, 11)) (by decide +kernel), rfl, by decide, by decide, by decide +kernel, rfl⟩
theorem v_9_74 : VirtAt 9 74 128 9 := ⟨mo_128, gw5 157 (by decide +kernel) rfl, gw5 159 (by decide +kernel) rfl, gwp 29 (q := (⟨"HotThrough$Rester", "goOn", "(II)V"⟩, 11)) (by decide +kernel), rfl, by decide, by decide, by decide +kernel, rfl⟩
theorem v_9_85 : VirtAt 9 85 129 6 := ⟨mo_129, gw5 162 (by decide +kernel) rfl, gw5 163 (by decide +kernel) rfl, gw5 164 (by decide +kernel) rfl, rfl, by decide, by decide, by decide +kernel, rfl⟩
theorem v_9_91 : VirtAt 9 91 112 6 := ⟨mo_112, gw5 161 (by decide +kernel) rfl, gw5 85 (by decide +kernel) rfl, gw5 86 (by decide +kernel) rfl, rfl, by decide, by decide, by decide +kernel, rfl⟩
theorem v_9_95 : VirtAt 9 95 127 9 := ⟨mo_127, gw5 152 (by decide +kernel) rfl, gw5 154 (by decide +kernel) rfl, gwp 28 (q := (⟨"HotThrough$Rester", "isLess", "(I)Z"⟩, 11)) (by decide +kernel), rfl, by decide, by decide, by decide +kernel, rfl⟩
theorem pf_10_34 : FldPut 10 34 10 6 := ⟨f_10_34, by decide +kernel⟩
theorem pf_10_67 : FldPut 10 67 6 12 := ⟨f_10_67, by decide +kernel⟩
theorem pf_11_101 : FldPut 11 101 6 8 := ⟨f_11_101, by decide +kernel⟩
theorem pf_11_106 : FldPut 11 106 6 12 := ⟨f_11_106, by decide +kernel⟩
theorem pf_11_43 : FldPut 11 43 11 11 := ⟨f_11_43, by decide +kernel⟩
theorem pf_11_47 : FldPut 11 47 11 12 := ⟨f_11_47, by decide +kernel⟩
theorem pf_11_56 : FldPut 11 56 11 9 := ⟨f_11_56, by decide +kernel⟩
theorem pf_11_59 : FldPut 11 59 11 10 := ⟨f_11_59, by decide +kernel⟩
theorem pf_12_35 : FldPut 12 35 12 4 := ⟨f_12_35, by decide +kernel⟩
theorem pf_12_39 : FldPut 12 39 12 9 := ⟨f_12_39, by decide +kernel⟩
theorem pf_12_42 : FldPut 12 42 12 10 := ⟨f_12_42, by decide +kernel⟩
theorem pf_12_45 : FldPut 12 45 12 8 := ⟨f_12_45, by decide +kernel⟩
theorem pf_13_126 : FldPut 13 126 13 0 := ⟨f_13_126, by decide +kernel⟩
theorem pf_13_130 : FldPut 13 130 13 1 := ⟨f_13_130, by decide +kernel⟩
theorem pf_13_133 : FldPut 13 133 13 3 := ⟨f_13_133, by decide +kernel⟩
theorem pf_13_140 : FldPut 13 140 13 5 := ⟨f_13_140, by decide +kernel⟩
theorem pf_13_143 : FldPut 13 143 13 6 := ⟨f_13_143, by decide +kernel⟩
theorem pf_13_146 : FldPut 13 146 13 4 := ⟨f_13_146, by decide +kernel⟩
theorem pf_13_160 : FldPut 13 160 13 18 := ⟨f_13_160, by decide +kernel⟩
theorem pf_13_163 : FldPut 13 163 13 19 := ⟨f_13_163, by decide +kernel⟩
theorem pf_13_166 : FldPut 13 166 13 21 := ⟨f_13_166, by decide +kernel⟩
theorem pf_13_175 : FldPut 13 175 13 20 := ⟨f_13_175, by decide +kernel⟩
theorem pf_13_204 : FldPut 13 204 13 26 := ⟨f_13_204, by decide +kernel⟩
theorem pf_13_212 : FldPut 13 212 13 27 := ⟨f_13_212, by decide +kernel⟩
theorem pf_13_224 : FldPut 13 224 13 28 := ⟨f_13_224, by decide +kernel⟩
theorem pf_13_233 : FldPut 13 233 13 29 := ⟨f_13_233, by decide +kernel⟩
theorem pf_13_260 : FldPut 13 260 13 39 := ⟨f_13_260, by decide +kernel⟩
theorem pf_13_263 : FldPut 13 263 13 7 := ⟨f_13_263, by decide +kernel⟩
theorem pf_13_266 : FldPut 13 266 13 33 := ⟨f_13_266, by decide +kernel⟩
theorem pf_13_287 : FldPut 13 287 13 32 := ⟨f_13_287, by decide +kernel⟩
theorem pf_13_304 : FldPut 13 304 13 36 := ⟨f_13_304, by decide +kernel⟩
theorem pf_13_307 : FldPut 13 307 13 37 := ⟨f_13_307, by decide +kernel⟩
theorem pf_13_310 : FldPut 13 310 13 38 := ⟨f_13_310, by decide +kernel⟩
theorem pf_13_399 : FldPut 13 399 13 44 := ⟨f_13_399, by decide +kernel⟩
theorem pf_13_414 : FldPut 13 414 13 45 := ⟨f_13_414, by decide +kernel⟩
theorem pf_13_417 : FldPut 13 417 13 46 := ⟨f_13_417, by decide +kernel⟩
theorem pf_13_428 : FldPut 13 428 13 48 := ⟨f_13_428, by decide +kernel⟩
theorem pf_13_431 : FldPut 13 431 13 47 := ⟨f_13_431, by decide +kernel⟩
theorem pf_13_434 : FldPut 13 434 13 49 := ⟨f_13_434, by decide +kernel⟩
theorem pf_13_453 : FldPut 13 453 13 53 := ⟨f_13_453, by decide +kernel⟩
theorem pf_13_485 : FldPut 13 485 13 56 := ⟨f_13_485, by decide +kernel⟩
theorem pf_13_492 : FldPut 13 492 13 59 := ⟨f_13_492, by decide +kernel⟩
theorem pf_13_495 : FldPut 13 495 13 60 := ⟨f_13_495, by decide +kernel⟩
theorem pf_13_507 : FldPut 13 507 13 62 := ⟨f_13_507, by decide +kernel⟩
theorem pf_13_510 : FldPut 13 510 13 66 := ⟨f_13_510, by decide +kernel⟩
theorem pf_13_516 : FldPut 13 516 13 65 := ⟨f_13_516, by decide +kernel⟩
theorem pf_1_123 : FldPut 1 123 1 12 := ⟨f_1_123, by decide +kernel⟩
theorem pf_1_302 : FldPut 1 302 6 10 := ⟨f_1_302, by decide +kernel⟩
theorem pf_1_308 : FldPut 1 308 6 6 := ⟨f_1_308, by decide +kernel⟩
theorem pf_1_367 : FldPut 1 367 12 4 := ⟨f_1_367, by decide +kernel⟩
theorem pf_1_395 : FldPut 1 395 1 14 := ⟨f_1_395, by decide +kernel⟩
theorem pf_2_15 : FldPut 2 15 2 1 := ⟨f_2_15, by decide +kernel⟩
theorem pf_2_25 : FldPut 2 25 2 2 := ⟨f_2_25, by decide +kernel⟩
theorem pf_2_28 : FldPut 2 28 2 3 := ⟨f_2_28, by decide +kernel⟩
theorem pf_2_32 : FldPut 2 32 2 4 := ⟨f_2_32, by decide +kernel⟩
theorem pf_2_35 : FldPut 2 35 2 5 := ⟨f_2_35, by decide +kernel⟩
theorem pf_3_27 : FldPut 3 27 3 3 := ⟨f_3_27, by decide +kernel⟩
theorem pf_3_49 : FldPut 3 49 3 1 := ⟨f_3_49, by decide +kernel⟩
theorem pf_4_107 : FldPut 4 107 5 10 := ⟨f_4_107, by decide +kernel⟩
theorem pf_4_30 : FldPut 4 30 4 0 := ⟨f_4_30, by decide +kernel⟩
theorem pf_4_34 : FldPut 4 34 4 1 := ⟨f_4_34, by decide +kernel⟩
theorem pf_4_37 : FldPut 4 37 4 2 := ⟨f_4_37, by decide +kernel⟩
theorem pf_4_40 : FldPut 4 40 4 3 := ⟨f_4_40, by decide +kernel⟩
theorem pf_4_43 : FldPut 4 43 4 8 := ⟨f_4_43, by decide +kernel⟩
theorem pf_5_45 : FldPut 5 45 5 3 := ⟨f_5_45, by decide +kernel⟩
theorem pf_5_49 : FldPut 5 49 5 10 := ⟨f_5_49, by decide +kernel⟩
theorem pf_5_52 : FldPut 5 52 5 11 := ⟨f_5_52, by decide +kernel⟩
theorem pf_6_29 : FldPut 6 29 6 3 := ⟨f_6_29, by decide +kernel⟩
theorem pf_6_37 : FldPut 6 37 6 5 := ⟨f_6_37, by decide +kernel⟩
theorem pf_6_44 : FldPut 6 44 6 6 := ⟨f_6_44, by decide +kernel⟩
theorem pf_6_49 : FldPut 6 49 6 7 := ⟨f_6_49, by decide +kernel⟩
theorem pf_6_54 : FldPut 6 54 6 8 := ⟨f_6_54, by decide +kernel⟩
theorem pf_6_56 : FldPut 6 56 6 9 := ⟨f_6_56, by decide +kernel⟩
theorem pf_6_62 : FldPut 6 62 6 12 := ⟨f_6_62, by decide +kernel⟩
theorem pf_6_66 : FldPut 6 66 6 4 := ⟨f_6_66, by decide +kernel⟩
theorem pf_6_72 : FldPut 6 72 6 11 := ⟨f_6_72, by decide +kernel⟩
theorem pf_6_83 : FldPut 6 83 6 10 := ⟨f_6_83, by decide +kernel⟩
theorem pf_7_107 : FldPut 7 107 5 10 := ⟨f_7_107, by decide +kernel⟩
theorem pf_7_142 : FldPut 7 142 5 11 := ⟨f_7_142, by decide +kernel⟩
theorem pf_7_172 : FldPut 7 172 5 3 := ⟨f_7_172, by decide +kernel⟩
theorem pf_7_44 : FldPut 7 44 7 8 := ⟨f_7_44, by decide +kernel⟩
theorem pf_7_54 : FldPut 7 54 7 9 := ⟨f_7_54, by decide +kernel⟩
theorem pf_7_65 : FldPut 7 65 7 4 := ⟨f_7_65, by decide +kernel⟩
theorem pf_7_68 : FldPut 7 68 7 5 := ⟨f_7_68, by decide +kernel⟩
theorem pf_7_71 : FldPut 7 71 7 6 := ⟨f_7_71, by decide +kernel⟩
theorem pf_8_50 : FldPut 8 50 8 6 := ⟨f_8_50, by decide +kernel⟩
theorem pf_8_56 : FldPut 8 56 8 7 := ⟨f_8_56, by decide +kernel⟩
theorem pf_8_63 : FldPut 8 63 8 8 := ⟨f_8_63, by decide +kernel⟩
theorem pf_9_39 : FldPut 9 39 9 10 := ⟨f_9_39, by decide +kernel⟩
theorem pf_9_43 : FldPut 9 43 9 9 := ⟨f_9_43, by decide +kernel⟩
theorem pf_9_46 : FldPut 9 46 9 8 := ⟨f_9_46, by decide +kernel⟩
theorem pf_9_68 : FldPut 9 68 6 8 := ⟨f_9_68, by decide +kernel⟩
theorem pf_9_70 : FldPut 9 70 6 10 := ⟨f_9_70, by decide +kernel⟩
theorem pf_9_72 : FldPut 9 72 6 12 := ⟨f_9_72, by decide +kernel⟩
