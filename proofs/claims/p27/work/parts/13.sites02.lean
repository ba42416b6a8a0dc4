/-! places of the pools (by program) -/
theorem vk9_73_7 : VK9 73 7 := vk9 mt_9_73 (gw4 142 rfl rfl) (gwp 13 (q := (⟨"HotThrough$Acts", "second", "()V"⟩, 13)) rfl) rfl kr9_7 pd9_6 rfl
theorem vk9_74_7 : VK9 74 7 := vk9 mt_9_74 (gw4 146 rfl rfl) (gwp 14 (q := (⟨"HotThrough$Acts", "hold", "(I)V"⟩, 13)) rfl) rfl kr9_7 pd9_3 rfl
theorem vk9_75_6 : VK9 75 6 := vk9 mt_9_75 (gw4 149 rfl rfl) (gw4 150 rfl rfl) rfl kr9_6 pd9_16 rfl
theorem vk9_76_6 : VK9 76 6 := vk9 mt_9_76 (gw4 153 rfl rfl) (gw4 154 rfl rfl) rfl kr9_6 pd9_1 rfl
theorem vk9_77_6 : VK9 77 6 := vk9 mt_9_77 (gw4 158 rfl rfl) (gw4 159 rfl rfl) rfl kr9_6 pd9_1 rfl
theorem pd9_17 : (parseMethodDescriptor "(LHotThrough$Carrier;)I").map (fun d => d.parameters.length + 1) = some 2 := by decide +kernel
theorem vk9_78_3 : VK9 78 3 := vk9 mt_9_78 (gw4 164 rfl rfl) (gw4 165 rfl rfl) rfl kr9_3 pd9_17 rfl
theorem vk9_81_6 : VK9 81 6 := vk9 mt_9_81 (gw4 176 rfl rfl) (gw4 177 rfl rfl) rfl kr9_6 pd9_0 rfl
theorem vk9_82_7 : VK9 82 7 := vk9 mt_9_82 (gw4 182 rfl rfl) (gwp 15 (q := (⟨"HotThrough$Acts", "coolHand", "(I)V"⟩, 13)) rfl) rfl kr9_7 pd9_3 rfl
theorem vk9_83_1 : VK9 83 1 := vk9 mt_9_83 (gw4 188 rfl rfl) (gwp 16 (q := (⟨"HotThrough", "startRow", "()V"⟩, 15)) rfl) rfl kr9_1 pd9_6 rfl
theorem pd9_18 : (parseMethodDescriptor "(J)V").map (fun d => d.parameters.length + 1) = some 2 := by decide +kernel
theorem vk9_84_1 : VK9 84 1 := vk9 mt_9_84 (gw4 192 rfl rfl) (gwp 17 (q := (⟨"HotThrough", "tell", "(J)V"⟩, 15)) rfl) rfl kr9_1 pd9_18 rfl
theorem vk9_86_7 : VK9 86 7 := vk9 mt_9_86 (gw4 199 rfl rfl) (gw4 200 rfl rfl) rfl kr9_7 pd9_0 rfl
theorem vk9_88_7 : VK9 88 7 := vk9 mt_9_88 (gw4 207 rfl rfl) (gw4 208 rfl rfl) rfl kr9_7 pd9_0 rfl
theorem vk9_90_7 : VK9 90 7 := vk9 mt_9_90 (gw4 215 rfl rfl) (gw4 216 rfl rfl) rfl kr9_7 pd9_7 rfl
theorem vk9_92_7 : VK9 92 7 := vk9 mt_9_92 (gw4 223 rfl rfl) (gw4 224 rfl rfl) rfl kr9_7 pd9_7 rfl
theorem vk9_94_7 : VK9 94 7 := vk9 mt_9_94 (gw4 231 rfl rfl) (gw4 232 rfl rfl) rfl kr9_7 pd9_7 rfl
theorem vk9_97_7 : VK9 97 7 := vk9 mt_9_97 (gw5 7 rfl rfl) (gw5 8 rfl rfl) rfl kr9_7 pd9_13 rfl
theorem vk9_98_7 : VK9 98 7 := vk9 mt_9_98 (gw5 14 rfl rfl) (gwp 18 (q := (⟨"HotThrough$Acts", "readAct", "(LHotThrough$Text;I)V"⟩, 13)) rfl) rfl kr9_7 pd9_14 rfl
theorem vk9_100_7 : VK9 100 7 := vk9 mt_9_100 (gw5 27 rfl rfl) (gw5 28 rfl rfl) rfl kr9_7 pd9_0 rfl
theorem vk9_102_7 : VK9 102 7 := vk9 mt_9_102 (gw5 42 rfl rfl) (gw5 43 rfl rfl) rfl kr9_7 pd9_5 rfl
theorem vk9_104_1 : VK9 104 1 := vk9 mt_9_104 (gw5 51 rfl rfl) (gwp 19 (q := (⟨"HotThrough", "holds", "(I)Z"⟩, 15)) rfl) rfl kr9_1 pd9_1 rfl
theorem vk9_105_6 : VK9 105 6 := vk9 mt_9_105 (gw5 55 rfl rfl) (gw5 56 rfl rfl) rfl kr9_6 pd9_7 rfl
theorem vk9_106_6 : VK9 106 6 := vk9 mt_9_106 (gw5 60 rfl rfl) (gwp 20 (q := (⟨"HotThrough$Carrier", "changeHands", "()V"⟩, 13)) rfl) rfl kr9_6 pd9_6 rfl
theorem vk9_107_6 : VK9 107 6 := vk9 mt_9_107 (gw5 63 rfl rfl) (gw5 64 rfl rfl) rfl kr9_6 pd9_9 rfl
theorem pd9_19 : (parseMethodDescriptor "(III)Z").map (fun d => d.parameters.length + 1) = some 4 := by decide +kernel
theorem vk9_111_1 : VK9 111 1 := vk9 mt_9_111 (gw5 82 rfl rfl) (gwp 21 (q := (⟨"HotThrough", "mayHold", "(III)Z"⟩, 15)) rfl) rfl kr9_1 pd9_19 rfl
theorem vk9_112_6 : VK9 112 6 := vk9 mt_9_112 (gw5 85 rfl rfl) (gw5 86 rfl rfl) rfl kr9_6 pd9_0 rfl
theorem vk9_115_8 : VK9 115 8 := vk9 mt_9_115 (gw5 98 rfl rfl) (gw5 99 rfl rfl) rfl kr9_8 pd9_16 rfl
theorem vk9_116_8 : VK9 116 8 := vk9 mt_9_116 (gw5 104 rfl rfl) (gwp 22 (q := (⟨"HotThrough$Paths", "spread", "(II)Z"⟩, 9)) rfl) rfl kr9_8 pd9_16 rfl
theorem vk9_117_8 : VK9 117 8 := vk9 mt_9_117 (gw5 110 rfl rfl) (gwp 23 (q := (⟨"HotThrough$Paths", "relax", "(III)V"⟩, 9)) rfl) rfl kr9_8 pd9_11 rfl
theorem vk9_118_8 : VK9 118 8 := vk9 mt_9_118 (gw5 114 rfl rfl) (gwp 24 (q := (⟨"HotThrough$Paths", "trace", "(II)V"⟩, 9)) rfl) rfl kr9_8 pd9_12 rfl
theorem vk9_119_8 : VK9 119 8 := vk9 mt_9_119 (gw5 118 rfl rfl) (gwp 25 (q := (⟨"HotThrough$Paths", "nextFrom", "(I)I"⟩, 9)) rfl) rfl kr9_8 pd9_0 rfl
theorem vk9_121_8 : VK9 121 8 := vk9 mt_9_121 (gw5 126 rfl rfl) (gw5 127 rfl rfl) rfl kr9_8 pd9_16 rfl
theorem pd9_20 : (parseMethodDescriptor "(IIII)I").map (fun d => d.parameters.length + 1) = some 5 := by decide +kernel
theorem vk9_124_9 : VK9 124 9 := vk9 mt_9_124 (gw5 140 rfl rfl) (gw5 141 rfl rfl) rfl kr9_9 pd9_20 rfl
theorem vk9_125_9 : VK9 125 9 := vk9 mt_9_125 (gw5 146 rfl rfl) (gwp 26 (q := (⟨"HotThrough$Rester", "stop", "(II)V"⟩, 11)) rfl) rfl kr9_9 pd9_12 rfl
theorem vk9_126_9 : VK9 126 9 := vk9 mt_9_126 (gw5 150 rfl rfl) (gwp 27 (q := (⟨"HotThrough$Rester", "arrived", "(I)V"⟩, 11)) rfl) rfl kr9_9 pd9_3 rfl
theorem vk9_127_9 : VK9 127 9 := vk9 mt_9_127 (gw5 154 rfl rfl) (gwp 28 (q := (⟨"HotThrough$Rester", "isLess", "(I)Z"⟩, 11)) rfl) rfl kr9_9 pd9_1 rfl
theorem vk9_128_9 : VK9 128 9 := vk9 mt_9_128 (gw5 159 rfl rfl) (gwp 29 (q := (⟨"HotThrough$Rester", "goOn", "(II)V"⟩, 11)) rfl) rfl kr9_9 pd9_12 rfl
theorem vk9_129_6 : VK9 129 6 := vk9 mt_9_129 (gw5 163 rfl rfl) (gw5 164 rfl rfl) rfl kr9_6 pd9_3 rfl
theorem vk9_132_1 : VK9 132 1 := vk9 mt_9_132 (gw5 176 rfl rfl) (gwp 30 (q := (⟨"HotThrough", "areFree", "(I)Z"⟩, 15)) rfl) rfl kr9_1 pd9_1 rfl
theorem vk9_133_10 : VK9 133 10 := vk9 mt_9_133 (gw5 179 rfl rfl) (gw5 180 rfl rfl) rfl kr9_10 pd9_7 rfl
theorem vk9_134_10 : VK9 134 10 := vk9 mt_9_134 (gw5 184 rfl rfl) (gwp 31 (q := (⟨"HotThrough$Line", "measure", "(II)V"⟩, 7)) rfl) rfl kr9_10 pd9_12 rfl
theorem pd9_21 : (parseMethodDescriptor "(IIIII)Z").map (fun d => d.parameters.length + 1) = some 6 := by decide +kernel
theorem vk9_135_10 : VK9 135 10 := vk9 mt_9_135 (gw5 191 rfl rfl) (gwp 32 (q := (⟨"HotThrough$Line", "covers", "(IIIII)Z"⟩, 7)) rfl) rfl kr9_10 pd9_21 rfl
theorem vk9_137_1 : VK9 137 1 := vk9 mt_9_137 (gw5 199 rfl rfl) (gwp 33 (q := (⟨"HotThrough", "areOnPlaces", "(I)Z"⟩, 15)) rfl) rfl kr9_1 pd9_1 rfl
theorem vk9_138_11 : VK9 138 11 := vk9 mt_9_138 (gw5 202 rfl rfl) (gw5 203 rfl rfl) rfl kr9_11 pd9_20 rfl
theorem vk9_139_11 : VK9 139 11 := vk9 mt_9_139 (gw5 208 rfl rfl) (gwp 34 (q := (⟨"HotThrough$Dishes", "measure", "(II)Z"⟩, 13)) rfl) rfl kr9_11 pd9_16 rfl
theorem vk9_140_11 : VK9 140 11 := vk9 mt_9_140 (gw5 214 rfl rfl) (gwp 35 (q := (⟨"HotThrough$Dishes", "bring", "(III)V"⟩, 13)) rfl) rfl kr9_11 pd9_11 rfl
theorem vk9_141_11 : VK9 141 11 := vk9 mt_9_141 (gw5 218 rfl rfl) (gwp 36 (q := (⟨"HotThrough$Dishes", "arrived", "(I)V"⟩, 13)) rfl) rfl kr9_11 pd9_3 rfl
theorem vk9_142_11 : VK9 142 11 := vk9 mt_9_142 (gw5 221 rfl rfl) (gw5 222 rfl rfl) rfl kr9_11 pd9_7 rfl
theorem vk9_144_12 : VK9 144 12 := vk9 mt_9_144 (gw5 236 rfl rfl) (gw5 237 rfl rfl) rfl kr9_12 pd9_7 rfl
theorem vk9_147_12 : VK9 147 12 := vk9 mt_9_147 (gw6 8 rfl rfl) (gw6 9 rfl rfl) rfl kr9_12 pd9_7 rfl
theorem vk9_148_12 : VK9 148 12 := vk9 mt_9_148 (gw6 13 rfl rfl) (gwp 37 (q := (⟨"HotThrough$Marks", "visit", "(III)V"⟩, 11)) rfl) rfl kr9_12 pd9_11 rfl
theorem vk9_149_12 : VK9 149 12 := vk9 mt_9_149 (gw6 18 rfl rfl) (gwp 38 (q := (⟨"HotThrough$Marks", "arrived", "(I)V"⟩, 11)) rfl) rfl kr9_12 pd9_3 rfl
theorem vk9_150_12 : VK9 150 12 := vk9 mt_9_150 (gw6 23 rfl rfl) (gwp 39 (q := (⟨"HotThrough$Marks", "visitBy", "(III)V"⟩, 11)) rfl) rfl kr9_12 pd9_11 rfl
theorem vk9_155_5 : VK9 155 5 := vk9 mt_9_155 (gw6 46 rfl rfl) (gw6 47 rfl rfl) rfl kr9_5 pd9_0 rfl
theorem vk9_157_5 : VK9 157 5 := vk9 mt_9_157 (gw6 119 rfl rfl) (gw6 120 rfl rfl) rfl kr9_5 pd9_7 rfl
theorem vk9_158_5 : VK9 158 5 := vk9 mt_9_158 (gw6 123 rfl rfl) (gw6 124 rfl rfl) rfl kr9_5 pd9_7 rfl
theorem vk9_159_4 : VK9 159 4 := vk9 mt_9_159 (gw6 127 rfl rfl) (gw6 128 rfl rfl) rfl kr9_4 pd9_0 rfl
theorem vk9_163_1 : VK9 163 1 := vk9 mt_9_163 (gw6 155 rfl rfl) (gwp 41 (q := (⟨"HotThrough", "throughNext", "(I)I"⟩, 15)) rfl) rfl kr9_1 pd9_0 rfl
theorem vk9_171_13 : VK9 171 13 := vk9 mt_9_171 (gw7 166 rfl rfl) (gwp 42 (q := (⟨"HotThroughModel", "begins", "(I)I"⟩, 72)) rfl) rfl kr9_13 pd9_0 rfl
theorem vk9_172_13 : VK9 172 13 := vk9 mt_9_172 (gw7 171 rfl rfl) (gwp 43 (q := (⟨"HotThroughModel", "readsLine", "()Z"⟩, 72)) rfl) rfl kr9_13 pd9_9 rfl
theorem pd9_22 : (parseMethodDescriptor "(Ljava/lang/String;)I").map (fun d => d.parameters.length + 1) = some 2 := by decide +kernel
theorem vk9_173_13 : VK9 173 13 := vk9 mt_9_173 (gw7 176 rfl rfl) (gwp 44 (q := (⟨"HotThroughModel", "among", "(Ljava/lang/String;)I"⟩, 72)) rfl) rfl kr9_13 pd9_22 rfl
theorem vk9_176_13 : VK9 176 13 := vk9 mt_9_176 (gw7 228 rfl rfl) (gwp 45 (q := (⟨"HotThroughModel", "readsPlace", "()Z"⟩, 72)) rfl) rfl kr9_13 pd9_9 rfl
theorem vk9_177_13 : VK9 177 13 := vk9 mt_9_177 (gw7 233 rfl rfl) (gwp 46 (q := (⟨"HotThroughModel", "takesOf", "(Ljava/lang/String;)I"⟩, 72)) rfl) rfl kr9_13 pd9_22 rfl
theorem vk9_179_13 : VK9 179 13 := vk9 mt_9_179 (gw8 0 rfl rfl) (gwp 47 (q := (⟨"HotThroughModel", "readsWay", "()Z"⟩, 72)) rfl) rfl kr9_13 pd9_9 rfl
theorem vk9_180_13 : VK9 180 13 := vk9 mt_9_180 (gw8 4 rfl rfl) (gwp 48 (q := (⟨"HotThroughModel", "letter", "()I"⟩, 72)) rfl) rfl kr9_13 pd9_5 rfl
theorem vk9_181_13 : VK9 181 13 := vk9 mt_9_181 (gw8 9 rfl rfl) (gwp 49 (q := (⟨"HotThroughModel", "takes", "(I)Z"⟩, 72)) rfl) rfl kr9_13 pd9_1 rfl
theorem vk9_182_13 : VK9 182 13 := vk9 mt_9_182 (gw8 13 rfl rfl) (gwp 50 (q := (⟨"HotThroughModel", "readsPot", "()Z"⟩, 72)) rfl) rfl kr9_13 pd9_9 rfl
theorem vk9_183_13 : VK9 183 13 := vk9 mt_9_183 (gw8 17 rfl rfl) (gwp 51 (q := (⟨"HotThroughModel", "number", "(I)I"⟩, 72)) rfl) rfl kr9_13 pd9_0 rfl
theorem vk9_184_13 : VK9 184 13 := vk9 mt_9_184 (gw8 21 rfl rfl) (gwp 52 (q := (⟨"HotThroughModel", "isDigit", "()Z"⟩, 72)) rfl) rfl kr9_13 pd9_9 rfl
theorem vk9_185_13 : VK9 185 13 := vk9 mt_9_185 (gw8 27 rfl rfl) (gwp 53 (q := (⟨"HotThroughModel", "kindOf", "(I)I"⟩, 72)) rfl) rfl kr9_13 pd9_0 rfl
theorem vk9_186_13 : VK9 186 13 := vk9 mt_9_186 (gw8 31 rfl rfl) (gwp 54 (q := (⟨"HotThroughModel", "readsOne", "()Z"⟩, 72)) rfl) rfl kr9_13 pd9_9 rfl
theorem pd9_23 : (parseMethodDescriptor "(IIZ)I").map (fun d => d.parameters.length + 1) = some 4 := by decide +kernel
theorem vk9_187_13 : VK9 187 13 := vk9 mt_9_187 (gw8 35 rfl rfl) (gwp 55 (q := (⟨"HotThroughModel", "faultOf", "(IIZ)I"⟩, 72)) rfl) rfl kr9_13 pd9_23 rfl
theorem vk9_190_13 : VK9 190 13 := vk9 mt_9_190 (gw8 47 rfl rfl) (gwp 56 (q := (⟨"HotThroughModel", "readsRank", "(I)Z"⟩, 72)) rfl) rfl kr9_13 pd9_1 rfl
theorem vk9_191_13 : VK9 191 13 := vk9 mt_9_191 (gw8 51 rfl rfl) (gwp 57 (q := (⟨"HotThroughModel", "readsThing", "()Z"⟩, 72)) rfl) rfl kr9_13 pd9_9 rfl
theorem vk9_192_13 : VK9 192 13 := vk9 mt_9_192 (gw8 55 rfl rfl) (gwp 58 (q := (⟨"HotThroughModel", "codes", "(I)V"⟩, 72)) rfl) rfl kr9_13 pd9_3 rfl
theorem vk9_194_13 : VK9 194 13 := vk9 mt_9_194 (gw8 67 rfl rfl) (gwp 59 (q := (⟨"HotThroughModel", "isPlace", "(I)Z"⟩, 72)) rfl) rfl kr9_13 pd9_1 rfl
theorem vk9_195_13 : VK9 195 13 := vk9 mt_9_195 (gw8 72 rfl rfl) (gwp 60 (q := (⟨"HotThroughModel", "refuse", "()I"⟩, 72)) rfl) rfl kr9_13 pd9_5 rfl
theorem vk9_197_13 : VK9 197 13 := vk9 mt_9_197 (gw8 80 rfl rfl) (gwp 61 (q := (⟨"HotThroughModel", "isWay", "(I)Z"⟩, 72)) rfl) rfl kr9_13 pd9_1 rfl
theorem vk9_198_13 : VK9 198 13 := vk9 mt_9_198 (gw8 84 rfl rfl) (gwp 62 (q := (⟨"HotThroughModel", "isOpen", "(I)Z"⟩, 72)) rfl) rfl kr9_13 pd9_1 rfl
theorem vk9_201_13 : VK9 201 13 := vk9 mt_9_201 (gw8 95 rfl rfl) (gwp 63 (q := (⟨"HotThroughModel", "isPot", "(I)Z"⟩, 72)) rfl) rfl kr9_13 pd9_1 rfl
theorem vk9_202_13 : VK9 202 13 := vk9 mt_9_202 (gw8 100 rfl rfl) (gwp 64 (q := (⟨"HotThroughModel", "holder", "(I)I"⟩, 72)) rfl) rfl kr9_13 pd9_0 rfl
theorem vk9_203_13 : VK9 203 13 := vk9 mt_9_203 (gw8 104 rfl rfl) (gwp 65 (q := (⟨"HotThroughModel", "holds", "(I)I"⟩, 72)) rfl) rfl kr9_13 pd9_0 rfl
theorem vk9_205_13 : VK9 205 13 := vk9 mt_9_205 (gw8 112 rfl rfl) (gwp 66 (q := (⟨"HotThroughModel", "isPerson", "(I)Z"⟩, 72)) rfl) rfl kr9_13 pd9_1 rfl
theorem pd9_24 : (parseMethodDescriptor "([II)I").map (fun d => d.parameters.length + 1) = some 3 := by decide +kernel
theorem vk9_206_13 : VK9 206 13 := vk9 mt_9_206 (gw8 117 rfl rfl) (gwp 67 (q := (⟨"HotThroughModel", "throughOf", "([II)I"⟩, 72)) rfl) rfl kr9_13 pd9_24 rfl
theorem pd9_25 : (parseMethodDescriptor "(IIIIIII)I").map (fun d => d.parameters.length + 1) = some 8 := by decide +kernel
theorem vk9_207_13 : VK9 207 13 := vk9 mt_9_207 (gw8 121 rfl rfl) (gwp 68 (q := (⟨"HotThroughModel", "throughBy", "(IIIIIII)I"⟩, 72)) rfl) rfl kr9_13 pd9_25 rfl
theorem vk9_208_13 : VK9 208 13 := vk9 mt_9_208 (gw8 125 rfl rfl) (gwp 69 (q := (⟨"HotThroughModel", "through", "()I"⟩, 72)) rfl) rfl kr9_13 pd9_5 rfl
theorem vk9_211_13 : VK9 211 13 := vk9 mt_9_211 (gw8 137 rfl rfl) (gwp 70 (q := (⟨"HotThroughModel", "isThere", "(I)Z"⟩, 72)) rfl) rfl kr9_13 pd9_1 rfl
theorem vk9_215_13 : VK9 215 13 := vk9 mt_9_215 (gw8 154 rfl rfl) (gwp 71 (q := (⟨"HotThroughModel", "putsBy", "()V"⟩, 72)) rfl) rfl kr9_13 pd9_6 rfl
theorem vk9_216_13 : VK9 216 13 := vk9 mt_9_216 (gw8 158 rfl rfl) (gwp 72 (q := (⟨"HotThroughModel", "takesPot", "(II)I"⟩, 72)) rfl) rfl kr9_13 pd9_7 rfl
theorem vk9_217_13 : VK9 217 13 := vk9 mt_9_217 (gw8 162 rfl rfl) (gwp 73 (q := (⟨"HotThroughModel", "counts", "(I)I"⟩, 72)) rfl) rfl kr9_13 pd9_0 rfl
theorem vk9_218_13 : VK9 218 13 := vk9 mt_9_218 (gw8 166 rfl rfl) (gwp 74 (q := (⟨"HotThroughModel", "adds", "(I)I"⟩, 72)) rfl) rfl kr9_13 pd9_0 rfl
theorem vk9_220_13 : VK9 220 13 := vk9 mt_9_220 (gw8 174 rfl rfl) (gwp 75 (q := (⟨"HotThroughModel", "setsDown", "(I)I"⟩, 72)) rfl) rfl kr9_13 pd9_0 rfl
theorem vk9_222_13 : VK9 222 13 := vk9 mt_9_222 (gw8 182 rfl rfl) (gwp 76 (q := (⟨"HotThroughModel", "startsCounting", "()V"⟩, 72)) rfl) rfl kr9_13 pd9_6 rfl
theorem vk9_223_13 : VK9 223 13 := vk9 mt_9_223 (gw8 186 rfl rfl) (gwp 77 (q := (⟨"HotThroughModel", "walks", "(II)I"⟩, 72)) rfl) rfl kr9_13 pd9_7 rfl
theorem pd9_26 : (parseMethodDescriptor "([I)V").map (fun d => d.parameters.length + 1) = some 2 := by decide +kernel
theorem vk9_224_13 : VK9 224 13 := vk9 mt_9_224 (gw8 190 rfl rfl) (gwp 78 (q := (⟨"HotThroughModel", "secondGoes", "([I)V"⟩, 72)) rfl) rfl kr9_13 pd9_26 rfl
theorem vk9_225_13 : VK9 225 13 := vk9 mt_9_225 (gw8 194 rfl rfl) (gwp 79 (q := (⟨"HotThroughModel", "enters", "(J)V"⟩, 72)) rfl) rfl kr9_13 pd9_18 rfl
theorem vk9_227_13 : VK9 227 13 := vk9 mt_9_227 (gw8 202 rfl rfl) (gwp 80 (q := (⟨"HotThroughModel", "passes", "(I)I"⟩, 72)) rfl) rfl kr9_13 pd9_0 rfl
theorem vk9_229_13 : VK9 229 13 := vk9 mt_9_229 (gw8 211 rfl rfl) (gwp 81 (q := (⟨"HotThroughModel", "changesHand", "(I)I"⟩, 72)) rfl) rfl kr9_13 pd9_0 rfl
theorem vk9_231_13 : VK9 231 13 := vk9 mt_9_231 (gw8 219 rfl rfl) (gwp 82 (q := (⟨"HotThroughModel", "gives", "(II)I"⟩, 72)) rfl) rfl kr9_13 pd9_7 rfl
theorem vk9_234_13 : VK9 234 13 := vk9 mt_9_234 (gw8 232 rfl rfl) (gwp 83 (q := (⟨"HotThroughModel", "opens", "(II)I"⟩, 72)) rfl) rfl kr9_13 pd9_7 rfl
theorem vk9_236_13 : VK9 236 13 := vk9 mt_9_236 (gw9 1 rfl rfl) (gwp 84 (q := (⟨"HotThroughModel", "readsAct", "()Z"⟩, 72)) rfl) rfl kr9_13 pd9_9 rfl
theorem vk9_237_13 : VK9 237 13 := vk9 mt_9_237 (gw9 6 rfl rfl) (gwp 85 (q := (⟨"HotThroughModel", "does", "(I)Z"⟩, 72)) rfl) rfl kr9_13 pd9_1 rfl
theorem vk9_239_13 : VK9 239 13 := vk9 mt_9_239 (gw9 14 rfl rfl) (gwp 86 (q := (⟨"HotThroughModel", "canHold", "(I)Z"⟩, 72)) rfl) rfl kr9_13 pd9_1 rfl
theorem vk9_240_13 : VK9 240 13 := vk9 mt_9_240 (gw9 18 rfl rfl) (gwp 87 (q := (⟨"HotThroughModel", "holdsOut", "(II)I"⟩, 72)) rfl) rfl kr9_13 pd9_7 rfl
theorem vk9_245_13 : VK9 245 13 := vk9 mt_9_245 (gw9 38 rfl rfl) (gwp 88 (q := (⟨"HotThroughModel", "canThink", "(III)Z"⟩, 72)) rfl) rfl kr9_13 pd9_19 rfl
theorem vk9_246_13 : VK9 246 13 := vk9 mt_9_246 (gw9 42 rfl rfl) (gwp 89 (q := (⟨"HotThroughModel", "soloBegins", "(II)V"⟩, 72)) rfl) rfl kr9_13 pd9_12 rfl
theorem vk9_247_13 : VK9 247 13 := vk9 mt_9_247 (gw9 46 rfl rfl) (gwp 90 (q := (⟨"HotThroughModel", "soloHolds", "(IIII)I"⟩, 72)) rfl) rfl kr9_13 pd9_20 rfl
theorem vk9_250_13 : VK9 250 13 := vk9 mt_9_250 (gw9 58 rfl rfl) (gwp 91 (q := (⟨"HotThroughModel", "laysWay", "(II)Z"⟩, 72)) rfl) rfl kr9_13 pd9_16 rfl
theorem vk9_251_13 : VK9 251 13 := vk9 mt_9_251 (gw9 62 rfl rfl) (gwp 92 (q := (⟨"HotThroughModel", "laysApart", "(I)V"⟩, 72)) rfl) rfl kr9_13 pd9_3 rfl
theorem vk9_252_13 : VK9 252 13 := vk9 mt_9_252 (gw9 67 rfl rfl) (gwp 93 (q := (⟨"HotThroughModel", "stepsOfWay", "()I"⟩, 72)) rfl) rfl kr9_13 pd9_5 rfl
theorem vk9_255_13 : VK9 255 13 := vk9 mt_9_255 (gw9 79 rfl rfl) (gwp 94 (q := (⟨"HotThroughModel", "legOf", "(I)I"⟩, 72)) rfl) rfl kr9_13 pd9_0 rfl
theorem vk9_257_13 : VK9 257 13 := vk9 mt_9_257 (gw9 88 rfl rfl) (gwp 95 (q := (⟨"HotThroughModel", "fewestRests", "(II)I"⟩, 72)) rfl) rfl kr9_13 pd9_7 rfl
theorem vk9_258_13 : VK9 258 13 := vk9 mt_9_258 (gw9 92 rfl rfl) (gwp 96 (q := (⟨"HotThroughModel", "isAhead", "(II)Z"⟩, 72)) rfl) rfl kr9_13 pd9_16 rfl
theorem vk9_260_13 : VK9 260 13 := vk9 mt_9_260 (gw9 100 rfl rfl) (gwp 97 (q := (⟨"HotThroughModel", "canRest", "(I)Z"⟩, 72)) rfl) rfl kr9_13 pd9_1 rfl
theorem vk9_261_13 : VK9 261 13 := vk9 mt_9_261 (gw9 104 rfl rfl) (gwp 98 (q := (⟨"HotThroughModel", "carries", "(III)Z"⟩, 72)) rfl) rfl kr9_13 pd9_19 rfl
theorem vk9_262_13 : VK9 262 13 := vk9 mt_9_262 (gw9 108 rfl rfl) (gwp 99 (q := (⟨"HotThroughModel", "soloRests", "(II)V"⟩, 72)) rfl) rfl kr9_13 pd9_12 rfl
theorem pd9_27 : (parseMethodDescriptor "(IIIIIII)V").map (fun d => d.parameters.length + 1) = some 8 := by decide +kernel
theorem vk9_265_13 : VK9 265 13 := vk9 mt_9_265 (gw9 120 rfl rfl) (gwp 100 (q := (⟨"HotThroughModel", "carriesOn", "(IIIIIII)V"⟩, 72)) rfl) rfl kr9_13 pd9_27 rfl
theorem pd9_28 : (parseMethodDescriptor "(IIIIIIII)V").map (fun d => d.parameters.length + 1) = some 9 := by decide +kernel
theorem vk9_267_13 : VK9 267 13 := vk9 mt_9_267 (gw9 128 rfl rfl) (gwp 101 (q := (⟨"HotThroughModel", "brings", "(IIIIIIII)V"⟩, 72)) rfl) rfl kr9_13 pd9_28 rfl
theorem vk9_268_13 : VK9 268 13 := vk9 mt_9_268 (gw9 132 rfl rfl) (gwp 102 (q := (⟨"HotThroughModel", "coolsAll", "(II)V"⟩, 72)) rfl) rfl kr9_13 pd9_12 rfl
theorem pd9_29 : (parseMethodDescriptor "(IIIII)V").map (fun d => d.parameters.length + 1) = some 6 := by decide +kernel
theorem vk9_272_13 : VK9 272 13 := vk9 mt_9_272 (gw9 149 rfl rfl) (gwp 103 (q := (⟨"HotThroughModel", "walksOn", "(IIIII)V"⟩, 72)) rfl) rfl kr9_13 pd9_29 rfl
theorem vk9_273_13 : VK9 273 13 := vk9 mt_9_273 (gw9 153 rfl rfl) (gwp 104 (q := (⟨"HotThroughModel", "marksAt", "(II)I"⟩, 72)) rfl) rfl kr9_13 pd9_7 rfl
theorem vk9_274_13 : VK9 274 13 := vk9 mt_9_274 (gw9 157 rfl rfl) (gwp 105 (q := (⟨"HotThroughModel", "isLess", "(I)Z"⟩, 72)) rfl) rfl kr9_13 pd9_1 rfl
theorem vk9_279_13 : VK9 279 13 := vk9 mt_9_279 (gw9 180 rfl rfl) (gwp 106 (q := (⟨"HotThroughModel", "dropped", "()I"⟩, 72)) rfl) rfl kr9_13 pd9_5 rfl
theorem vk9_280_13 : VK9 280 13 := vk9 mt_9_280 (gw9 184 rfl rfl) (gwp 107 (q := (⟨"HotThroughModel", "burntAll", "()I"⟩, 72)) rfl) rfl kr9_13 pd9_5 rfl
theorem fj9_1_0 : FJ9 1 0 := ⟨ly_1_0, kr9_1.1, kr9_1.2, by decide +kernel, pq9_1 _ (by decide +kernel), tyOK_2o _⟩
theorem f_101_10 : FldAt 101 10 1 0 := fa9 kf9_1_0 (gw3 75 rfl rfl) fj9_1_0
theorem fj9_1_13 : FJ9 1 13 := ⟨ly_1_13, kr9_1.1, kr9_1.2, by decide +kernel, pq9_1 _ (by decide +kernel), tyOK_2a _⟩
theorem f_101_100 : FldAt 101 100 1 13 := fa9 kf9_1_13 (gw3 88 rfl rfl) fj9_1_13
theorem fj9_1_1 : FJ9 1 1 := ⟨ly_1_1, kr9_1.1, kr9_1.2, by decide +kernel, pq9_1 _ (by decide +kernel), tyOK_2o _⟩
theorem f_101_19 : FldAt 101 19 1 1 := fa9 kf9_1_1 (gw3 76 rfl rfl) fj9_1_1
theorem fj9_1_2 : FJ9 1 2 := ⟨ly_1_2, kr9_1.1, kr9_1.2, by decide +kernel, pq9_1 _ (by decide +kernel), tyOK_2o _⟩
theorem f_101_26 : FldAt 101 26 1 2 := fa9 kf9_1_2 (gw3 77 rfl rfl) fj9_1_2
theorem fj9_1_3 : FJ9 1 3 := ⟨ly_1_3, kr9_1.1, kr9_1.2, by decide +kernel, pq9_1 _ (by decide +kernel), tyOK_2o _⟩
theorem f_101_33 : FldAt 101 33 1 3 := fa9 kf9_1_3 (gw3 78 rfl rfl) fj9_1_3
theorem fj9_1_4 : FJ9 1 4 := ⟨ly_1_4, kr9_1.1, kr9_1.2, by decide +kernel, pq9_1 _ (by decide +kernel), tyOK_2o _⟩
theorem f_101_42 : FldAt 101 42 1 4 := fa9 kf9_1_4 (gw3 79 rfl rfl) fj9_1_4
theorem fj9_1_5 : FJ9 1 5 := ⟨ly_1_5, kr9_1.1, kr9_1.2, by decide +kernel, pq9_1 _ (by decide +kernel), tyOK_2o _⟩
theorem f_101_51 : FldAt 101 51 1 5 := fa9 kf9_1_5 (gw3 80 rfl rfl) fj9_1_5
theorem fj9_1_6 : FJ9 1 6 := ⟨ly_1_6, kr9_1.1, kr9_1.2, by decide +kernel, pq9_1 _ (by decide +kernel), tyOK_2o _⟩
theorem f_101_60 : FldAt 101 60 1 6 := fa9 kf9_1_6 (gw3 81 rfl rfl) fj9_1_6
theorem fj9_1_7 : FJ9 1 7 := ⟨ly_1_7, kr9_1.1, kr9_1.2, by decide +kernel, pq9_1 _ (by decide +kernel), tyOK_2o _⟩
theorem f_101_69 : FldAt 101 69 1 7 := fa9 kf9_1_7 (gw3 82 rfl rfl) fj9_1_7
theorem fj9_1_8 : FJ9 1 8 := ⟨ly_1_8, kr9_1.1, kr9_1.2, by decide +kernel, pq9_1 _ (by decide +kernel), tyOK_2o _⟩
theorem f_101_78 : FldAt 101 78 1 8 := fa9 kf9_1_8 (gw3 83 rfl rfl) fj9_1_8
theorem fj9_1_9 : FJ9 1 9 := ⟨ly_1_9, kr9_1.1, kr9_1.2, by decide +kernel, pq9_1 _ (by decide +kernel), tyOK_2o _⟩
theorem f_101_85 : FldAt 101 85 1 9 := fa9 kf9_1_9 (gw3 84 rfl rfl) fj9_1_9
theorem fj9_1_10 : FJ9 1 10 := ⟨ly_1_10, kr9_1.1, kr9_1.2, by decide +kernel, pq9_1 _ (by decide +kernel), tyOK_2o _⟩
theorem f_101_92 : FldAt 101 92 1 10 := fa9 kf9_1_10 (gw3 85 rfl rfl) fj9_1_10
theorem fj9_1_11 : FJ9 1 11 := ⟨ly_1_11, kr9_1.1, kr9_1.2, by decide +kernel, pq9_1 _ (by decide +kernel), tyOK_2a _⟩
theorem f_101_96 : FldAt 101 96 1 11 := fa9 kf9_1_11 (gw3 86 rfl rfl) fj9_1_11
theorem fj9_2_0 : FJ9 2 0 := ⟨ly_2_0, kr9_2.1, kr9_2.2, by decide +kernel, pq9_2 _ (by decide +kernel), tyOK_2a _⟩
theorem f_102_9 : FldAt 102 9 2 0 := fa9 kf9_2_0 (gw1 39 rfl rfl) fj9_2_0
theorem fj9_3_2 : FJ9 3 2 := ⟨ly_3_2, kr9_3.1, kr9_3.2, by decide +kernel, pq9_3 _ (by decide +kernel), tyOK_2a _⟩
theorem f_103_15 : FldAt 103 15 3 2 := fa9 kf9_3_2 (gw1 72 rfl rfl) fj9_3_2
theorem fj9_3_4 : FJ9 3 4 := ⟨ly_3_4, kr9_3.1, kr9_3.2, by decide +kernel, pq9_3 _ (by decide +kernel), tyOK_2a _⟩
theorem f_103_18 : FldAt 103 18 3 4 := fa9 kf9_3_4 (gw1 74 rfl rfl) fj9_3_4
theorem fj9_3_0 : FJ9 3 0 := ⟨ly_3_0, kr9_3.1, kr9_3.2, by decide +kernel, pq9_3 _ (by decide +kernel), tyOK_2a _⟩
theorem f_103_9 : FldAt 103 9 3 0 := fa9 kf9_3_0 (gw1 70 rfl rfl) fj9_3_0
theorem fj9_4_5 : FJ9 4 5 := ⟨ly_4_5, kr9_4.1, kr9_4.2, by decide +kernel, pq9_4 _ (by decide +kernel), tyOK_2a _⟩
theorem f_104_15 : FldAt 104 15 4 5 := fa9 kf9_4_5 (gw1 113 rfl rfl) fj9_4_5
theorem fj9_4_6 : FJ9 4 6 := ⟨ly_4_6, kr9_4.1, kr9_4.2, by decide +kernel, pq9_4 _ (by decide +kernel), tyOK_2a _⟩
theorem f_104_18 : FldAt 104 18 4 6 := fa9 kf9_4_6 (gw1 116 rfl rfl) fj9_4_6
theorem fj9_4_7 : FJ9 4 7 := ⟨ly_4_7, kr9_4.1, kr9_4.2, by decide +kernel, pq9_4 _ (by decide +kernel), tyOK_2a _⟩
theorem f_104_21 : FldAt 104 21 4 7 := fa9 kf9_4_7 (gw1 119 rfl rfl) fj9_4_7
theorem fj9_4_9 : FJ9 4 9 := ⟨ly_4_9, kr9_4.1, kr9_4.2, by decide +kernel, pq9_4 _ (by decide +kernel), tyOK_2a _⟩
theorem f_104_24 : FldAt 104 24 4 9 := fa9 kf9_4_9 (gw1 125 rfl rfl) fj9_4_9
theorem fj9_4_10 : FJ9 4 10 := ⟨ly_4_10, kr9_4.1, kr9_4.2, by decide +kernel, pq9_4 _ (by decide +kernel), tyOK_2a _⟩
theorem f_104_27 : FldAt 104 27 4 10 := fa9 kf9_4_10 (gw1 130 rfl rfl) fj9_4_10
theorem fj9_4_4 : FJ9 4 4 := ⟨ly_4_4, kr9_4.1, kr9_4.2, by decide +kernel, pq9_4 _ (by decide +kernel), tyOK_2a _⟩
theorem f_104_9 : FldAt 104 9 4 4 := fa9 kf9_4_4 (gw1 109 rfl rfl) fj9_4_4
theorem fj9_5_1 : FJ9 5 1 := ⟨ly_5_1, kr9_5.1, kr9_5.2, by decide +kernel, pq9_5 _ (by decide +kernel), tyOK_2a _⟩
theorem f_105_15 : FldAt 105 15 5 1 := fa9 kf9_5_1 (gw1 168 rfl rfl) fj9_5_1
theorem fj9_5_2 : FJ9 5 2 := ⟨ly_5_2, kr9_5.1, kr9_5.2, by decide +kernel, pq9_5 _ (by decide +kernel), tyOK_2a _⟩
theorem f_105_18 : FldAt 105 18 5 2 := fa9 kf9_5_2 (gw1 172 rfl rfl) fj9_5_2
theorem fj9_5_4 : FJ9 5 4 := ⟨ly_5_4, kr9_5.1, kr9_5.2, by decide +kernel, pq9_5 _ (by decide +kernel), tyOK_2a _⟩
theorem f_105_21 : FldAt 105 21 5 4 := fa9 kf9_5_4 (gw1 178 rfl rfl) fj9_5_4
theorem fj9_5_5 : FJ9 5 5 := ⟨ly_5_5, kr9_5.1, kr9_5.2, by decide +kernel, pq9_5 _ (by decide +kernel), tyOK_2a _⟩
theorem f_105_24 : FldAt 105 24 5 5 := fa9 kf9_5_5 (gw1 182 rfl rfl) fj9_5_5
theorem fj9_5_6 : FJ9 5 6 := ⟨ly_5_6, kr9_5.1, kr9_5.2, by decide +kernel, pq9_5 _ (by decide +kernel), tyOK_2a _⟩
theorem f_105_27 : FldAt 105 27 5 6 := fa9 kf9_5_6 (gw1 186 rfl rfl) fj9_5_6
theorem fj9_5_7 : FJ9 5 7 := ⟨ly_5_7, kr9_5.1, kr9_5.2, by decide +kernel, pq9_5 _ (by decide +kernel), tyOK_2a _⟩
theorem f_105_30 : FldAt 105 30 5 7 := fa9 kf9_5_7 (gw1 190 rfl rfl) fj9_5_7
theorem fj9_5_8 : FJ9 5 8 := ⟨ly_5_8, kr9_5.1, kr9_5.2, by decide +kernel, pq9_5 _ (by decide +kernel), tyOK_2a _⟩
theorem f_105_33 : FldAt 105 33 5 8 := fa9 kf9_5_8 (gw1 194 rfl rfl) fj9_5_8
theorem fj9_5_9 : FJ9 5 9 := ⟨ly_5_9, kr9_5.1, kr9_5.2, by decide +kernel, pq9_5 _ (by decide +kernel), tyOK_2a _⟩
theorem f_105_36 : FldAt 105 36 5 9 := fa9 kf9_5_9 (gw1 197 rfl rfl) fj9_5_9
theorem fj9_5_0 : FJ9 5 0 := ⟨ly_5_0, kr9_5.1, kr9_5.2, by decide +kernel, pq9_5 _ (by decide +kernel), tyOK_2a _⟩
theorem f_105_9 : FldAt 105 9 5 0 := fa9 kf9_5_0 (gw1 163 rfl rfl) fj9_5_0
theorem fj9_6_1 : FJ9 6 1 := ⟨ly_6_1, kr9_6.1, kr9_6.2, by decide +kernel, pq9_6 _ (by decide +kernel), tyOK_2o _⟩
theorem f_106_15 : FldAt 106 15 6 1 := fa9 kf9_6_1 (gw2 4 rfl rfl) fj9_6_1
theorem fj9_6_2 : FJ9 6 2 := ⟨ly_6_2, kr9_6.1, kr9_6.2, by decide +kernel, pq9_6 _ (by decide +kernel), tyOK_2o _⟩
theorem f_106_19 : FldAt 106 19 6 2 := fa9 kf9_6_2 (gw2 5 rfl rfl) fj9_6_2
theorem fj9_6_0 : FJ9 6 0 := ⟨ly_6_0, kr9_6.1, kr9_6.2, by decide +kernel, pq9_6 _ (by decide +kernel), tyOK_2o _⟩
theorem f_106_9 : FldAt 106 9 6 0 := fa9 kf9_6_0 (gw2 3 rfl rfl) fj9_6_0
theorem fj9_7_7 : FJ9 7 7 := ⟨ly_7_7, kr9_7.1, kr9_7.2, by decide +kernel, pq9_7 _ (by decide +kernel), tyOK_2a _⟩
theorem f_107_11 : FldAt 107 11 7 7 := fa9 kf9_7_7 (gw2 75 rfl rfl) fj9_7_7
theorem fj9_7_10 : FJ9 7 10 := ⟨ly_7_10, kr9_7.1, kr9_7.2, by decide +kernel, pq9_7 _ (by decide +kernel), tyOK_2a _⟩
theorem f_107_17 : FldAt 107 17 7 10 := fa9 kf9_7_10 (gw2 79 rfl rfl) fj9_7_10
theorem fj9_7_11 : FJ9 7 11 := ⟨ly_7_11, kr9_7.1, kr9_7.2, by decide +kernel, pq9_7 _ (by decide +kernel), tyOK_2a _⟩
theorem f_107_21 : FldAt 107 21 7 11 := fa9 kf9_7_11 (gw2 80 rfl rfl) fj9_7_11
theorem fj9_7_12 : FJ9 7 12 := ⟨ly_7_12, kr9_7.1, kr9_7.2, by decide +kernel, pq9_7 _ (by decide +kernel), tyOK_2a _⟩
theorem f_107_24 : FldAt 107 24 7 12 := fa9 kf9_7_12 (gw2 81 rfl rfl) fj9_7_12
theorem fj9_7_0 : FJ9 7 0 := ⟨ly_7_0, kr9_7.1, kr9_7.2, by decide +kernel, pq9_7 _ (by decide +kernel), tyOK_2o _⟩
theorem f_107_27 : FldAt 107 27 7 0 := fa9 kf9_7_0 (gw2 65 rfl rfl) fj9_7_0
theorem fj9_7_1 : FJ9 7 1 := ⟨ly_7_1, kr9_7.1, kr9_7.2, by decide +kernel, pq9_7 _ (by decide +kernel), tyOK_2o _⟩
theorem f_107_31 : FldAt 107 31 7 1 := fa9 kf9_7_1 (gw2 66 rfl rfl) fj9_7_1
theorem fj9_7_2 : FJ9 7 2 := ⟨ly_7_2, kr9_7.1, kr9_7.2, by decide +kernel, pq9_7 _ (by decide +kernel), tyOK_2o _⟩
theorem f_107_35 : FldAt 107 35 7 2 := fa9 kf9_7_2 (gw2 67 rfl rfl) fj9_7_2
theorem fj9_7_3 : FJ9 7 3 := ⟨ly_7_3, kr9_7.1, kr9_7.2, by decide +kernel, pq9_7 _ (by decide +kernel), tyOK_2o _⟩
theorem f_107_39 : FldAt 107 39 7 3 := fa9 kf9_7_3 (gw2 68 rfl rfl) fj9_7_3
theorem fj9_8_2 : FJ9 8 2 := ⟨ly_8_2, kr9_8.1, kr9_8.2, by decide +kernel, pq9_8 _ (by decide +kernel), tyOK_2a _⟩
theorem f_108_11 : FldAt 108 11 8 2 := fa9 kf9_8_2 (gw2 117 rfl rfl) fj9_8_2
theorem fj9_8_3 : FJ9 8 3 := ⟨ly_8_3, kr9_8.1, kr9_8.2, by decide +kernel, pq9_8 _ (by decide +kernel), tyOK_2a _⟩
theorem f_108_15 : FldAt 108 15 8 3 := fa9 kf9_8_3 (gw2 118 rfl rfl) fj9_8_3
theorem fj9_8_4 : FJ9 8 4 := ⟨ly_8_4, kr9_8.1, kr9_8.2, by decide +kernel, pq9_8 _ (by decide +kernel), tyOK_2a _⟩
theorem f_108_18 : FldAt 108 18 8 4 := fa9 kf9_8_4 (gw2 119 rfl rfl) fj9_8_4
theorem fj9_8_5 : FJ9 8 5 := ⟨ly_8_5, kr9_8.1, kr9_8.2, by decide +kernel, pq9_8 _ (by decide +kernel), tyOK_2a _⟩
theorem f_108_21 : FldAt 108 21 8 5 := fa9 kf9_8_5 (gw2 122 rfl rfl) fj9_8_5
theorem fj9_8_0 : FJ9 8 0 := ⟨ly_8_0, kr9_8.1, kr9_8.2, by decide +kernel, pq9_8 _ (by decide +kernel), tyOK_2o _⟩
theorem f_108_24 : FldAt 108 24 8 0 := fa9 kf9_8_0 (gw2 115 rfl rfl) fj9_8_0
theorem fj9_8_1 : FJ9 8 1 := ⟨ly_8_1, kr9_8.1, kr9_8.2, by decide +kernel, pq9_8 _ (by decide +kernel), tyOK_2o _⟩
theorem f_108_28 : FldAt 108 28 8 1 := fa9 kf9_8_1 (gw2 116 rfl rfl) fj9_8_1
theorem fj9_9_4 : FJ9 9 4 := ⟨ly_9_4, kr9_9.1, kr9_9.2, by decide +kernel, pq9_9 _ (by decide +kernel), tyOK_2a _⟩
theorem f_109_15 : FldAt 109 15 9 4 := fa9 kf9_9_4 (gw2 164 rfl rfl) fj9_9_4
theorem fj9_9_5 : FJ9 9 5 := ⟨ly_9_5, kr9_9.1, kr9_9.2, by decide +kernel, pq9_9 _ (by decide +kernel), tyOK_2a _⟩
theorem f_109_18 : FldAt 109 18 9 5 := fa9 kf9_9_5 (gw2 165 rfl rfl) fj9_9_5
theorem fj9_9_6 : FJ9 9 6 := ⟨ly_9_6, kr9_9.1, kr9_9.2, by decide +kernel, pq9_9 _ (by decide +kernel), tyOK_2a _⟩
theorem f_109_21 : FldAt 109 21 9 6 := fa9 kf9_9_6 (gw2 166 rfl rfl) fj9_9_6
theorem fj9_9_7 : FJ9 9 7 := ⟨ly_9_7, kr9_9.1, kr9_9.2, by decide +kernel, pq9_9 _ (by decide +kernel), tyOK_2a _⟩
theorem f_109_24 : FldAt 109 24 9 7 := fa9 kf9_9_7 (gw2 167 rfl rfl) fj9_9_7
theorem fj9_9_0 : FJ9 9 0 := ⟨ly_9_0, kr9_9.1, kr9_9.2, by decide +kernel, pq9_9 _ (by decide +kernel), tyOK_2o _⟩
theorem f_109_27 : FldAt 109 27 9 0 := fa9 kf9_9_0 (gw2 160 rfl rfl) fj9_9_0
theorem fj9_9_1 : FJ9 9 1 := ⟨ly_9_1, kr9_9.1, kr9_9.2, by decide +kernel, pq9_9 _ (by decide +kernel), tyOK_2o _⟩
theorem f_109_31 : FldAt 109 31 9 1 := fa9 kf9_9_1 (gw2 161 rfl rfl) fj9_9_1
theorem fj9_9_2 : FJ9 9 2 := ⟨ly_9_2, kr9_9.1, kr9_9.2, by decide +kernel, pq9_9 _ (by decide +kernel), tyOK_2o _⟩
theorem f_109_35 : FldAt 109 35 9 2 := fa9 kf9_9_2 (gw2 162 rfl rfl) fj9_9_2
theorem fj9_9_3 : FJ9 9 3 := ⟨ly_9_3, kr9_9.1, kr9_9.2, by decide +kernel, pq9_9 _ (by decide +kernel), tyOK_2a _⟩
theorem f_109_9 : FldAt 109 9 9 3 := fa9 kf9_9_3 (gw2 163 rfl rfl) fj9_9_3
theorem fj9_10_5 : FJ9 10 5 := ⟨ly_10_5, kr9_10.1, kr9_10.2, by decide +kernel, pq9_10 _ (by decide +kernel), tyOK_2a _⟩
theorem f_10_15 : FldAt 10 15 10 5 := fa9 kf9_10_5 (gw2 206 rfl rfl) fj9_10_5
theorem fj9_10_0 : FJ9 10 0 := ⟨ly_10_0, kr9_10.1, kr9_10.2, by decide +kernel, pq9_10 _ (by decide +kernel), tyOK_2o _⟩
theorem f_10_18 : FldAt 10 18 10 0 := fa9 kf9_10_0 (gw2 201 rfl rfl) fj9_10_0
theorem fj9_10_1 : FJ9 10 1 := ⟨ly_10_1, kr9_10.1, kr9_10.2, by decide +kernel, pq9_10 _ (by decide +kernel), tyOK_2o _⟩
theorem f_10_22 : FldAt 10 22 10 1 := fa9 kf9_10_1 (gw2 202 rfl rfl) fj9_10_1
theorem fj9_10_2 : FJ9 10 2 := ⟨ly_10_2, kr9_10.1, kr9_10.2, by decide +kernel, pq9_10 _ (by decide +kernel), tyOK_2o _⟩
theorem f_10_26 : FldAt 10 26 10 2 := fa9 kf9_10_2 (gw2 203 rfl rfl) fj9_10_2
theorem fj9_10_3 : FJ9 10 3 := ⟨ly_10_3, kr9_10.1, kr9_10.2, by decide +kernel, pq9_10 _ (by decide +kernel), tyOK_2o _⟩
theorem f_10_30 : FldAt 10 30 10 3 := fa9 kf9_10_3 (gw2 204 rfl rfl) fj9_10_3
theorem fj9_10_6 : FJ9 10 6 := ⟨ly_10_6, kr9_10.1, kr9_10.2, by decide +kernel, pq9_10 _ (by decide +kernel), tyOK_0⟩
theorem f_10_34 : FldAt 10 34 10 6 := fa9 kf9_10_6 (gw2 208 rfl rfl) fj9_10_6
theorem fj9_4_3 : FJ9 4 3 := ⟨ly_4_3, kr9_4.1, kr9_4.2, by decide +kernel, pq9_4 _ (by decide +kernel), tyOK_0⟩
theorem f_10_38 : FldAt 10 38 4 3 := fa9 kf9_4_3 (gw1 105 rfl rfl) fj9_4_3
theorem fj9_8_6 : FJ9 8 6 := ⟨ly_8_6, kr9_8.1, kr9_8.2, by decide +kernel, pq9_8 _ (by decide +kernel), tyOK_0⟩
theorem f_10_51 : FldAt 10 51 8 6 := fa9 kf9_8_6 (gw2 128 rfl rfl) fj9_8_6
theorem fj9_5_11 : FJ9 5 11 := ⟨ly_5_11, kr9_5.1, kr9_5.2, by decide +kernel, pq9_5 _ (by decide +kernel), tyOK_0⟩
theorem f_10_62 : FldAt 10 62 5 11 := fa9 kf9_5_11 (gw1 208 rfl rfl) fj9_5_11
theorem fj9_6_12 : FJ9 6 12 := ⟨ly_6_12, kr9_6.1, kr9_6.2, by decide +kernel, pq9_6 _ (by decide +kernel), tyOK_0⟩
theorem f_10_67 : FldAt 10 67 6 12 := fa9 kf9_6_12 (gw2 26 rfl rfl) fj9_6_12
theorem f_10_71 : FldAt 10 71 8 5 := fa9 kf9_8_5 (gw2 123 rfl rfl) fj9_8_5
theorem fj9_10_4 : FJ9 10 4 := ⟨ly_10_4, kr9_10.1, kr9_10.2, by decide +kernel, pq9_10 _ (by decide +kernel), tyOK_2a _⟩
theorem f_10_9 : FldAt 10 9 10 4 := fa9 kf9_10_4 (gw2 205 rfl rfl) fj9_10_4
theorem f_110_15 : FldAt 110 15 10 5 := fa9 kf9_10_5 (gw2 206 rfl rfl) fj9_10_5
theorem f_110_18 : FldAt 110 18 10 0 := fa9 kf9_10_0 (gw2 201 rfl rfl) fj9_10_0
theorem f_110_22 : FldAt 110 22 10 1 := fa9 kf9_10_1 (gw2 202 rfl rfl) fj9_10_1
theorem f_110_26 : FldAt 110 26 10 2 := fa9 kf9_10_2 (gw2 203 rfl rfl) fj9_10_2
theorem f_110_30 : FldAt 110 30 10 3 := fa9 kf9_10_3 (gw2 204 rfl rfl) fj9_10_3
theorem f_110_9 : FldAt 110 9 10 4 := fa9 kf9_10_4 (gw2 205 rfl rfl) fj9_10_4
theorem fj9_11_5 : FJ9 11 5 := ⟨ly_11_5, kr9_11.1, kr9_11.2, by decide +kernel, pq9_11 _ (by decide +kernel), tyOK_2a _⟩
theorem f_111_15 : FldAt 111 15 11 5 := fa9 kf9_11_5 (gw2 235 rfl rfl) fj9_11_5
theorem fj9_11_6 : FJ9 11 6 := ⟨ly_11_6, kr9_11.1, kr9_11.2, by decide +kernel, pq9_11 _ (by decide +kernel), tyOK_2a _⟩
theorem f_111_18 : FldAt 111 18 11 6 := fa9 kf9_11_6 (gw2 236 rfl rfl) fj9_11_6
theorem fj9_11_7 : FJ9 11 7 := ⟨ly_11_7, kr9_11.1, kr9_11.2, by decide +kernel, pq9_11 _ (by decide +kernel), tyOK_2a _⟩
theorem f_111_21 : FldAt 111 21 11 7 := fa9 kf9_11_7 (gw2 237 rfl rfl) fj9_11_7
theorem fj9_11_8 : FJ9 11 8 := ⟨ly_11_8, kr9_11.1, kr9_11.2, by decide +kernel, pq9_11 _ (by decide +kernel), tyOK_2a _⟩
theorem f_111_24 : FldAt 111 24 11 8 := fa9 kf9_11_8 (gw2 238 rfl rfl) fj9_11_8
theorem fj9_11_0 : FJ9 11 0 := ⟨ly_11_0, kr9_11.1, kr9_11.2, by decide +kernel, pq9_11 _ (by decide +kernel), tyOK_2o _⟩
theorem f_111_27 : FldAt 111 27 11 0 := fa9 kf9_11_0 (gw2 230 rfl rfl) fj9_11_0
theorem fj9_11_1 : FJ9 11 1 := ⟨ly_11_1, kr9_11.1, kr9_11.2, by decide +kernel, pq9_11 _ (by decide +kernel), tyOK_2o _⟩
theorem f_111_31 : FldAt 111 31 11 1 := fa9 kf9_11_1 (gw2 231 rfl rfl) fj9_11_1
theorem fj9_11_2 : FJ9 11 2 := ⟨ly_11_2, kr9_11.1, kr9_11.2, by decide +kernel, pq9_11 _ (by decide +kernel), tyOK_2o _⟩
theorem f_111_35 : FldAt 111 35 11 2 := fa9 kf9_11_2 (gw2 232 rfl rfl) fj9_11_2
theorem fj9_11_3 : FJ9 11 3 := ⟨ly_11_3, kr9_11.1, kr9_11.2, by decide +kernel, pq9_11 _ (by decide +kernel), tyOK_2o _⟩
theorem f_111_39 : FldAt 111 39 11 3 := fa9 kf9_11_3 (gw2 233 rfl rfl) fj9_11_3
theorem fj9_11_4 : FJ9 11 4 := ⟨ly_11_4, kr9_11.1, kr9_11.2, by decide +kernel, pq9_11 _ (by decide +kernel), tyOK_2a _⟩
theorem f_111_9 : FldAt 111 9 11 4 := fa9 kf9_11_4 (gw2 234 rfl rfl) fj9_11_4
theorem fj9_12_3 : FJ9 12 3 := ⟨ly_12_3, kr9_12.1, kr9_12.2, by decide +kernel, pq9_12 _ (by decide +kernel), tyOK_2a _⟩
theorem f_112_15 : FldAt 112 15 12 3 := fa9 kf9_12_3 (gw3 41 rfl rfl) fj9_12_3
theorem fj9_12_5 : FJ9 12 5 := ⟨ly_12_5, kr9_12.1, kr9_12.2, by decide +kernel, pq9_12 _ (by decide +kernel), tyOK_2a _⟩
theorem f_112_18 : FldAt 112 18 12 5 := fa9 kf9_12_5 (gw3 44 rfl rfl) fj9_12_5
theorem fj9_12_6 : FJ9 12 6 := ⟨ly_12_6, kr9_12.1, kr9_12.2, by decide +kernel, pq9_12 _ (by decide +kernel), tyOK_2a _⟩
theorem f_112_21 : FldAt 112 21 12 6 := fa9 kf9_12_6 (gw3 45 rfl rfl) fj9_12_6
theorem fj9_12_7 : FJ9 12 7 := ⟨ly_12_7, kr9_12.1, kr9_12.2, by decide +kernel, pq9_12 _ (by decide +kernel), tyOK_2a _⟩
theorem f_112_24 : FldAt 112 24 12 7 := fa9 kf9_12_7 (gw3 46 rfl rfl) fj9_12_7
theorem fj9_12_0 : FJ9 12 0 := ⟨ly_12_0, kr9_12.1, kr9_12.2, by decide +kernel, pq9_12 _ (by decide +kernel), tyOK_2o _⟩
theorem f_112_27 : FldAt 112 27 12 0 := fa9 kf9_12_0 (gw3 38 rfl rfl) fj9_12_0
theorem fj9_12_1 : FJ9 12 1 := ⟨ly_12_1, kr9_12.1, kr9_12.2, by decide +kernel, pq9_12 _ (by decide +kernel), tyOK_2o _⟩
theorem f_112_31 : FldAt 112 31 12 1 := fa9 kf9_12_1 (gw3 39 rfl rfl) fj9_12_1
theorem fj9_12_2 : FJ9 12 2 := ⟨ly_12_2, kr9_12.1, kr9_12.2, by decide +kernel, pq9_12 _ (by decide +kernel), tyOK_2a _⟩
theorem f_112_9 : FldAt 112 9 12 2 := fa9 kf9_12_2 (gw3 40 rfl rfl) fj9_12_2
theorem fj9_13_61 : FJ9 13 61 := ⟨ly_13_61, kr9_13.1, kr9_13.2, by decide +kernel, pq9_13 _ (by decide +kernel), tyOK_2a _⟩
theorem f_113_102 : FldAt 113 102 13 61 := fa9 kf9_13_61 (gw6 232 rfl rfl) fj9_13_61
theorem fj9_13_63 : FJ9 13 63 := ⟨ly_13_63, kr9_13.1, kr9_13.2, by decide +kernel, pq9_13 _ (by decide +kernel), tyOK_2a _⟩
theorem f_113_105 : FldAt 113 105 13 63 := fa9 kf9_13_63 (gw6 234 rfl rfl) fj9_13_63
theorem fj9_13_64 : FJ9 13 64 := ⟨ly_13_64, kr9_13.1, kr9_13.2, by decide +kernel, pq9_13 _ (by decide +kernel), tyOK_2a _⟩
theorem f_113_108 : FldAt 113 108 13 64 := fa9 kf9_13_64 (gw6 235 rfl rfl) fj9_13_64
theorem fj9_13_67 : FJ9 13 67 := ⟨ly_13_67, kr9_13.1, kr9_13.2, by decide +kernel, pq9_13 _ (by decide +kernel), tyOK_2a _⟩
theorem f_113_111 : FldAt 113 111 13 67 := fa9 kf9_13_67 (gw6 238 rfl rfl) fj9_13_67
theorem fj9_13_68 : FJ9 13 68 := ⟨ly_13_68, kr9_13.1, kr9_13.2, by decide +kernel, pq9_13 _ (by decide +kernel), tyOK_2a _⟩
theorem f_113_114 : FldAt 113 114 13 68 := fa9 kf9_13_68 (gw6 239 rfl rfl) fj9_13_68
theorem fj9_13_69 : FJ9 13 69 := ⟨ly_13_69, kr9_13.1, kr9_13.2, by decide +kernel, pq9_13 _ (by decide +kernel), tyOK_2a _⟩
theorem f_113_117 : FldAt 113 117 13 69 := fa9 kf9_13_69 (gw7 0 rfl rfl) fj9_13_69
theorem fj9_13_70 : FJ9 13 70 := ⟨ly_13_70, kr9_13.1, kr9_13.2, by decide +kernel, pq9_13 _ (by decide +kernel), tyOK_2a _⟩
theorem f_113_120 : FldAt 113 120 13 70 := fa9 kf9_13_70 (gw7 1 rfl rfl) fj9_13_70
theorem fj9_13_71 : FJ9 13 71 := ⟨ly_13_71, kr9_13.1, kr9_13.2, by decide +kernel, pq9_13 _ (by decide +kernel), tyOK_2a _⟩
theorem f_113_123 : FldAt 113 123 13 71 := fa9 kf9_13_71 (gw7 2 rfl rfl) fj9_13_71
theorem fj9_13_8 : FJ9 13 8 := ⟨ly_13_8, kr9_13.1, kr9_13.2, by decide +kernel, pq9_13 _ (by decide +kernel), tyOK_2a _⟩
theorem f_113_13 : FldAt 113 13 13 8 := fa9 kf9_13_8 (gw6 179 rfl rfl) fj9_13_8
theorem fj9_13_9 : FJ9 13 9 := ⟨ly_13_9, kr9_13.1, kr9_13.2, by decide +kernel, pq9_13 _ (by decide +kernel), tyOK_2a _⟩
theorem f_113_17 : FldAt 113 17 13 9 := fa9 kf9_13_9 (gw6 180 rfl rfl) fj9_13_9
theorem fj9_13_10 : FJ9 13 10 := ⟨ly_13_10, kr9_13.1, kr9_13.2, by decide +kernel, pq9_13 _ (by decide +kernel), tyOK_2a _⟩
theorem f_113_20 : FldAt 113 20 13 10 := fa9 kf9_13_10 (gw6 181 rfl rfl) fj9_13_10
theorem fj9_13_11 : FJ9 13 11 := ⟨ly_13_11, kr9_13.1, kr9_13.2, by decide +kernel, pq9_13 _ (by decide +kernel), tyOK_2a _⟩
theorem f_113_23 : FldAt 113 23 13 11 := fa9 kf9_13_11 (gw6 182 rfl rfl) fj9_13_11
theorem fj9_13_12 : FJ9 13 12 := ⟨ly_13_12, kr9_13.1, kr9_13.2, by decide +kernel, pq9_13 _ (by decide +kernel), tyOK_2a _⟩
theorem f_113_26 : FldAt 113 26 13 12 := fa9 kf9_13_12 (gw6 183 rfl rfl) fj9_13_12
theorem fj9_13_13 : FJ9 13 13 := ⟨ly_13_13, kr9_13.1, kr9_13.2, by decide +kernel, pq9_13 _ (by decide +kernel), tyOK_2a _⟩
theorem f_113_30 : FldAt 113 30 13 13 := fa9 kf9_13_13 (gw6 184 rfl rfl) fj9_13_13
theorem fj9_13_14 : FJ9 13 14 := ⟨ly_13_14, kr9_13.1, kr9_13.2, by decide +kernel, pq9_13 _ (by decide +kernel), tyOK_2a _⟩
theorem f_113_33 : FldAt 113 33 13 14 := fa9 kf9_13_14 (gw6 185 rfl rfl) fj9_13_14
theorem fj9_13_15 : FJ9 13 15 := ⟨ly_13_15, kr9_13.1, kr9_13.2, by decide +kernel, pq9_13 _ (by decide +kernel), tyOK_2a _⟩
theorem f_113_36 : FldAt 113 36 13 15 := fa9 kf9_13_15 (gw6 186 rfl rfl) fj9_13_15
theorem fj9_13_16 : FJ9 13 16 := ⟨ly_13_16, kr9_13.1, kr9_13.2, by decide +kernel, pq9_13 _ (by decide +kernel), tyOK_2a _⟩
theorem f_113_39 : FldAt 113 39 13 16 := fa9 kf9_13_16 (gw6 187 rfl rfl) fj9_13_16
theorem fj9_13_17 : FJ9 13 17 := ⟨ly_13_17, kr9_13.1, kr9_13.2, by decide +kernel, pq9_13 _ (by decide +kernel), tyOK_2a _⟩
theorem f_113_42 : FldAt 113 42 13 17 := fa9 kf9_13_17 (gw6 188 rfl rfl) fj9_13_17
theorem fj9_13_22 : FJ9 13 22 := ⟨ly_13_22, kr9_13.1, kr9_13.2, by decide +kernel, pq9_13 _ (by decide +kernel), tyOK_2a _⟩
theorem f_113_45 : FldAt 113 45 13 22 := fa9 kf9_13_22 (gw6 193 rfl rfl) fj9_13_22
theorem fj9_13_23 : FJ9 13 23 := ⟨ly_13_23, kr9_13.1, kr9_13.2, by decide +kernel, pq9_13 _ (by decide +kernel), tyOK_2a _⟩
theorem f_113_48 : FldAt 113 48 13 23 := fa9 kf9_13_23 (gw6 194 rfl rfl) fj9_13_23
theorem fj9_13_24 : FJ9 13 24 := ⟨ly_13_24, kr9_13.1, kr9_13.2, by decide +kernel, pq9_13 _ (by decide +kernel), tyOK_2a _⟩
theorem f_113_51 : FldAt 113 51 13 24 := fa9 kf9_13_24 (gw6 195 rfl rfl) fj9_13_24
theorem fj9_13_25 : FJ9 13 25 := ⟨ly_13_25, kr9_13.1, kr9_13.2, by decide +kernel, pq9_13 _ (by decide +kernel), tyOK_2a _⟩
theorem f_113_54 : FldAt 113 54 13 25 := fa9 kf9_13_25 (gw6 196 rfl rfl) fj9_13_25
theorem fj9_13_30 : FJ9 13 30 := ⟨ly_13_30, kr9_13.1, kr9_13.2, by decide +kernel, pq9_13 _ (by decide +kernel), tyOK_2a _⟩
theorem f_113_57 : FldAt 113 57 13 30 := fa9 kf9_13_30 (gw6 201 rfl rfl) fj9_13_30
theorem fj9_13_31 : FJ9 13 31 := ⟨ly_13_31, kr9_13.1, kr9_13.2, by decide +kernel, pq9_13 _ (by decide +kernel), tyOK_2a _⟩
theorem f_113_60 : FldAt 113 60 13 31 := fa9 kf9_13_31 (gw6 202 rfl rfl) fj9_13_31
theorem fj9_13_34 : FJ9 13 34 := ⟨ly_13_34, kr9_13.1, kr9_13.2, by decide +kernel, pq9_13 _ (by decide +kernel), tyOK_2a _⟩
theorem f_113_63 : FldAt 113 63 13 34 := fa9 kf9_13_34 (gw6 205 rfl rfl) fj9_13_34
theorem fj9_13_35 : FJ9 13 35 := ⟨ly_13_35, kr9_13.1, kr9_13.2, by decide +kernel, pq9_13 _ (by decide +kernel), tyOK_2a _⟩
theorem f_113_66 : FldAt 113 66 13 35 := fa9 kf9_13_35 (gw6 206 rfl rfl) fj9_13_35
theorem fj9_13_40 : FJ9 13 40 := ⟨ly_13_40, kr9_13.1, kr9_13.2, by decide +kernel, pq9_13 _ (by decide +kernel), tyOK_2a _⟩
theorem f_113_69 : FldAt 113 69 13 40 := fa9 kf9_13_40 (gw6 211 rfl rfl) fj9_13_40
theorem fj9_13_41 : FJ9 13 41 := ⟨ly_13_41, kr9_13.1, kr9_13.2, by decide +kernel, pq9_13 _ (by decide +kernel), tyOK_2a _⟩
theorem f_113_72 : FldAt 113 72 13 41 := fa9 kf9_13_41 (gw6 212 rfl rfl) fj9_13_41
theorem fj9_13_42 : FJ9 13 42 := ⟨ly_13_42, kr9_13.1, kr9_13.2, by decide +kernel, pq9_13 _ (by decide +kernel), tyOK_2a _⟩
theorem f_113_75 : FldAt 113 75 13 42 := fa9 kf9_13_42 (gw6 213 rfl rfl) fj9_13_42
theorem fj9_13_43 : FJ9 13 43 := ⟨ly_13_43, kr9_13.1, kr9_13.2, by decide +kernel, pq9_13 _ (by decide +kernel), tyOK_2a _⟩
theorem f_113_78 : FldAt 113 78 13 43 := fa9 kf9_13_43 (gw6 214 rfl rfl) fj9_13_43
theorem fj9_13_50 : FJ9 13 50 := ⟨ly_13_50, kr9_13.1, kr9_13.2, by decide +kernel, pq9_13 _ (by decide +kernel), tyOK_2a _⟩
theorem f_113_81 : FldAt 113 81 13 50 := fa9 kf9_13_50 (gw6 221 rfl rfl) fj9_13_50
theorem fj9_13_51 : FJ9 13 51 := ⟨ly_13_51, kr9_13.1, kr9_13.2, by decide +kernel, pq9_13 _ (by decide +kernel), tyOK_2a _⟩
theorem f_113_84 : FldAt 113 84 13 51 := fa9 kf9_13_51 (gw6 222 rfl rfl) fj9_13_51
theorem fj9_13_52 : FJ9 13 52 := ⟨ly_13_52, kr9_13.1, kr9_13.2, by decide +kernel, pq9_13 _ (by decide +kernel), tyOK_2a _⟩
theorem f_113_87 : FldAt 113 87 13 52 := fa9 kf9_13_52 (gw6 223 rfl rfl) fj9_13_52
theorem fj9_13_2 : FJ9 13 2 := ⟨ly_13_2, kr9_13.1, kr9_13.2, by decide +kernel, pq9_13 _ (by decide +kernel), tyOK_2a _⟩
theorem f_113_9 : FldAt 113 9 13 2 := fa9 kf9_13_2 (gw6 173 rfl rfl) fj9_13_2
theorem fj9_13_54 : FJ9 13 54 := ⟨ly_13_54, kr9_13.1, kr9_13.2, by decide +kernel, pq9_13 _ (by decide +kernel), tyOK_2a _⟩
theorem f_113_90 : FldAt 113 90 13 54 := fa9 kf9_13_54 (gw6 225 rfl rfl) fj9_13_54
theorem fj9_13_55 : FJ9 13 55 := ⟨ly_13_55, kr9_13.1, kr9_13.2, by decide +kernel, pq9_13 _ (by decide +kernel), tyOK_2a _⟩
theorem f_113_93 : FldAt 113 93 13 55 := fa9 kf9_13_55 (gw6 226 rfl rfl) fj9_13_55
theorem fj9_13_57 : FJ9 13 57 := ⟨ly_13_57, kr9_13.1, kr9_13.2, by decide +kernel, pq9_13 _ (by decide +kernel), tyOK_2a _⟩
theorem f_113_96 : FldAt 113 96 13 57 := fa9 kf9_13_57 (gw6 228 rfl rfl) fj9_13_57
theorem fj9_13_58 : FJ9 13 58 := ⟨ly_13_58, kr9_13.1, kr9_13.2, by decide +kernel, pq9_13 _ (by decide +kernel), tyOK_2a _⟩
theorem f_113_99 : FldAt 113 99 13 58 := fa9 kf9_13_58 (gw6 229 rfl rfl) fj9_13_58
theorem fj9_6_8 : FJ9 6 8 := ⟨ly_6_8, kr9_6.1, kr9_6.2, by decide +kernel, pq9_6 _ (by decide +kernel), tyOK_0⟩
theorem f_11_101 : FldAt 11 101 6 8 := fa9 kf9_6_8 (gw2 16 rfl rfl) fj9_6_8
theorem f_11_103 : FldAt 11 103 5 11 := fa9 kf9_5_11 (gw1 209 rfl rfl) fj9_5_11
theorem f_11_106 : FldAt 11 106 6 12 := fa9 kf9_6_12 (gw2 28 rfl rfl) fj9_6_12
theorem f_11_126 : FldAt 11 126 5 0 := fa9 kf9_5_0 (gw1 165 rfl rfl) fj9_5_0
theorem f_11_129 : FldAt 11 129 4 9 := fa9 kf9_4_9 (gw1 127 rfl rfl) fj9_4_9
theorem f_11_15 : FldAt 11 15 11 5 := fa9 kf9_11_5 (gw2 235 rfl rfl) fj9_11_5
theorem f_11_18 : FldAt 11 18 11 6 := fa9 kf9_11_6 (gw2 236 rfl rfl) fj9_11_6
theorem f_11_21 : FldAt 11 21 11 7 := fa9 kf9_11_7 (gw2 237 rfl rfl) fj9_11_7
theorem f_11_24 : FldAt 11 24 11 8 := fa9 kf9_11_8 (gw2 238 rfl rfl) fj9_11_8
theorem f_11_27 : FldAt 11 27 11 0 := fa9 kf9_11_0 (gw2 230 rfl rfl) fj9_11_0
theorem f_11_31 : FldAt 11 31 11 1 := fa9 kf9_11_1 (gw2 231 rfl rfl) fj9_11_1
theorem f_11_35 : FldAt 11 35 11 2 := fa9 kf9_11_2 (gw2 232 rfl rfl) fj9_11_2
theorem f_11_39 : FldAt 11 39 11 3 := fa9 kf9_11_3 (gw2 233 rfl rfl) fj9_11_3
theorem fj9_11_11 : FJ9 11 11 := ⟨ly_11_11, kr9_11.1, kr9_11.2, by decide +kernel, pq9_11 _ (by decide +kernel), tyOK_0⟩
theorem f_11_43 : FldAt 11 43 11 11 := fa9 kf9_11_11 (gw3 3 rfl rfl) fj9_11_11
theorem fj9_11_12 : FJ9 11 12 := ⟨ly_11_12, kr9_11.1, kr9_11.2, by decide +kernel, pq9_11 _ (by decide +kernel), tyOK_0⟩
theorem f_11_47 : FldAt 11 47 11 12 := fa9 kf9_11_12 (gw3 4 rfl rfl) fj9_11_12
theorem fj9_11_9 : FJ9 11 9 := ⟨ly_11_9, kr9_11.1, kr9_11.2, by decide +kernel, pq9_11 _ (by decide +kernel), tyOK_0⟩
theorem f_11_56 : FldAt 11 56 11 9 := fa9 kf9_11_9 (gw3 0 rfl rfl) fj9_11_9
theorem fj9_11_10 : FJ9 11 10 := ⟨ly_11_10, kr9_11.1, kr9_11.2, by decide +kernel, pq9_11 _ (by decide +kernel), tyOK_0⟩
theorem f_11_59 : FldAt 11 59 11 10 := fa9 kf9_11_10 (gw3 2 rfl rfl) fj9_11_10
theorem fj9_4_2 : FJ9 4 2 := ⟨ly_4_2, kr9_4.1, kr9_4.2, by decide +kernel, pq9_4 _ (by decide +kernel), tyOK_0⟩
theorem f_11_76 : FldAt 11 76 4 2 := fa9 kf9_4_2 (gw1 101 rfl rfl) fj9_4_2
theorem f_11_81 : FldAt 11 81 5 4 := fa9 kf9_5_4 (gw1 179 rfl rfl) fj9_5_4
theorem f_11_86 : FldAt 11 86 5 1 := fa9 kf9_5_1 (gw1 169 rfl rfl) fj9_5_1
theorem f_11_9 : FldAt 11 9 11 4 := fa9 kf9_11_4 (gw2 234 rfl rfl) fj9_11_4
theorem fj9_8_7 : FJ9 8 7 := ⟨ly_8_7, kr9_8.1, kr9_8.2, by decide +kernel, pq9_8 _ (by decide +kernel), tyOK_0⟩
theorem f_11_94 : FldAt 11 94 8 7 := fa9 kf9_8_7 (gw2 131 rfl rfl) fj9_8_7
theorem f_12_15 : FldAt 12 15 12 3 := fa9 kf9_12_3 (gw3 41 rfl rfl) fj9_12_3
theorem f_12_18 : FldAt 12 18 12 5 := fa9 kf9_12_5 (gw3 44 rfl rfl) fj9_12_5
theorem f_12_21 : FldAt 12 21 12 6 := fa9 kf9_12_6 (gw3 45 rfl rfl) fj9_12_6
theorem f_12_24 : FldAt 12 24 12 7 := fa9 kf9_12_7 (gw3 46 rfl rfl) fj9_12_7
theorem f_12_27 : FldAt 12 27 12 0 := fa9 kf9_12_0 (gw3 38 rfl rfl) fj9_12_0
theorem f_12_31 : FldAt 12 31 12 1 := fa9 kf9_12_1 (gw3 39 rfl rfl) fj9_12_1
theorem fj9_12_4 : FJ9 12 4 := ⟨ly_12_4, kr9_12.1, kr9_12.2, by decide +kernel, pq9_12 _ (by decide +kernel), tyOK_0⟩
theorem f_12_35 : FldAt 12 35 12 4 := fa9 kf9_12_4 (gw3 42 rfl rfl) fj9_12_4
theorem fj9_12_9 : FJ9 12 9 := ⟨ly_12_9, kr9_12.1, kr9_12.2, by decide +kernel, pq9_12 _ (by decide +kernel), tyOK_0⟩
theorem f_12_39 : FldAt 12 39 12 9 := fa9 kf9_12_9 (gw3 50 rfl rfl) fj9_12_9
theorem fj9_12_10 : FJ9 12 10 := ⟨ly_12_10, kr9_12.1, kr9_12.2, by decide +kernel, pq9_12 _ (by decide +kernel), tyOK_0⟩
theorem f_12_42 : FldAt 12 42 12 10 := fa9 kf9_12_10 (gw3 51 rfl rfl) fj9_12_10
theorem fj9_12_8 : FJ9 12 8 := ⟨ly_12_8, kr9_12.1, kr9_12.2, by decide +kernel, pq9_12 _ (by decide +kernel), tyOK_0⟩
theorem f_12_45 : FldAt 12 45 12 8 := fa9 kf9_12_8 (gw3 48 rfl rfl) fj9_12_8
theorem fj9_4_0 : FJ9 4 0 := ⟨ly_4_0, kr9_4.1, kr9_4.2, by decide +kernel, pq9_4 _ (by decide +kernel), tyOK_0⟩
theorem f_12_62 : FldAt 12 62 4 0 := fa9 kf9_4_0 (gw1 94 rfl rfl) fj9_4_0
theorem fj9_4_1 : FJ9 4 1 := ⟨ly_4_1, kr9_4.1, kr9_4.2, by decide +kernel, pq9_4 _ (by decide +kernel), tyOK_0⟩
theorem f_12_67 : FldAt 12 67 4 1 := fa9 kf9_4_1 (gw1 99 rfl rfl) fj9_4_1
theorem fj9_5_10 : FJ9 5 10 := ⟨ly_5_10, kr9_5.1, kr9_5.2, by decide +kernel, pq9_5 _ (by decide +kernel), tyOK_0⟩
theorem f_12_74 : FldAt 12 74 5 10 := fa9 kf9_5_10 (gw1 202 rfl rfl) fj9_5_10
theorem f_12_83 : FldAt 12 83 4 7 := fa9 kf9_4_7 (gw1 121 rfl rfl) fj9_4_7
theorem f_12_9 : FldAt 12 9 12 2 := fa9 kf9_12_2 (gw3 40 rfl rfl) fj9_12_2
theorem f_13_102 : FldAt 13 102 13 61 := fa9 kf9_13_61 (gw6 232 rfl rfl) fj9_13_61
theorem f_13_105 : FldAt 13 105 13 63 := fa9 kf9_13_63 (gw6 234 rfl rfl) fj9_13_63
theorem f_13_108 : FldAt 13 108 13 64 := fa9 kf9_13_64 (gw6 235 rfl rfl) fj9_13_64
theorem f_13_111 : FldAt 13 111 13 67 := fa9 kf9_13_67 (gw6 238 rfl rfl) fj9_13_67
theorem f_13_114 : FldAt 13 114 13 68 := fa9 kf9_13_68 (gw6 239 rfl rfl) fj9_13_68
theorem f_13_117 : FldAt 13 117 13 69 := fa9 kf9_13_69 (gw7 0 rfl rfl) fj9_13_69
theorem f_13_120 : FldAt 13 120 13 70 := fa9 kf9_13_70 (gw7 1 rfl rfl) fj9_13_70
theorem f_13_123 : FldAt 13 123 13 71 := fa9 kf9_13_71 (gw7 2 rfl rfl) fj9_13_71
theorem fj9_13_0 : FJ9 13 0 := ⟨ly_13_0, kr9_13.1, kr9_13.2, by decide +kernel, pq9_13 _ (by decide +kernel), tyOK_0⟩
theorem f_13_126 : FldAt 13 126 13 0 := fa9 kf9_13_0 (gw6 171 rfl rfl) fj9_13_0
theorem f_13_13 : FldAt 13 13 13 8 := fa9 kf9_13_8 (gw6 179 rfl rfl) fj9_13_8
theorem fj9_13_1 : FJ9 13 1 := ⟨ly_13_1, kr9_13.1, kr9_13.2, by decide +kernel, pq9_13 _ (by decide +kernel), tyOK_0⟩
theorem f_13_130 : FldAt 13 130 13 1 := fa9 kf9_13_1 (gw6 172 rfl rfl) fj9_13_1
theorem fj9_13_3 : FJ9 13 3 := ⟨ly_13_3, kr9_13.1, kr9_13.2, by decide +kernel, pq9_13 _ (by decide +kernel), tyOK_0⟩
theorem f_13_133 : FldAt 13 133 13 3 := fa9 kf9_13_3 (gw6 174 rfl rfl) fj9_13_3
theorem fj9_13_5 : FJ9 13 5 := ⟨ly_13_5, kr9_13.1, kr9_13.2, by decide +kernel, pq9_13 _ (by decide +kernel), tyOK_0⟩
theorem f_13_140 : FldAt 13 140 13 5 := fa9 kf9_13_5 (gw6 176 rfl rfl) fj9_13_5
theorem fj9_13_6 : FJ9 13 6 := ⟨ly_13_6, kr9_13.1, kr9_13.2, by decide +kernel, pq9_13 _ (by decide +kernel), tyOK_0⟩
theorem f_13_143 : FldAt 13 143 13 6 := fa9 kf9_13_6 (gw6 177 rfl rfl) fj9_13_6
theorem fj9_13_4 : FJ9 13 4 := ⟨ly_13_4, kr9_13.1, kr9_13.2, by decide +kernel, pq9_13 _ (by decide +kernel), tyOK_0⟩
theorem f_13_146 : FldAt 13 146 13 4 := fa9 kf9_13_4 (gw6 175 rfl rfl) fj9_13_4
theorem fj9_13_18 : FJ9 13 18 := ⟨ly_13_18, kr9_13.1, kr9_13.2, by decide +kernel, pq9_13 _ (by decide +kernel), tyOK_0⟩
theorem f_13_160 : FldAt 13 160 13 18 := fa9 kf9_13_18 (gw6 189 rfl rfl) fj9_13_18
theorem fj9_13_19 : FJ9 13 19 := ⟨ly_13_19, kr9_13.1, kr9_13.2, by decide +kernel, pq9_13 _ (by decide +kernel), tyOK_0⟩
theorem f_13_163 : FldAt 13 163 13 19 := fa9 kf9_13_19 (gw6 190 rfl rfl) fj9_13_19
theorem fj9_13_21 : FJ9 13 21 := ⟨ly_13_21, kr9_13.1, kr9_13.2, by decide +kernel, pq9_13 _ (by decide +kernel), tyOK_0⟩
theorem f_13_166 : FldAt 13 166 13 21 := fa9 kf9_13_21 (gw6 192 rfl rfl) fj9_13_21
theorem f_13_17 : FldAt 13 17 13 9 := fa9 kf9_13_9 (gw6 180 rfl rfl) fj9_13_9
theorem fj9_13_20 : FJ9 13 20 := ⟨ly_13_20, kr9_13.1, kr9_13.2, by decide +kernel, pq9_13 _ (by decide +kernel), tyOK_0⟩
theorem f_13_175 : FldAt 13 175 13 20 := fa9 kf9_13_20 (gw6 191 rfl rfl) fj9_13_20
theorem f_13_20 : FldAt 13 20 13 10 := fa9 kf9_13_10 (gw6 181 rfl rfl) fj9_13_10
theorem fj9_13_26 : FJ9 13 26 := ⟨ly_13_26, kr9_13.1, kr9_13.2, by decide +kernel, pq9_13 _ (by decide +kernel), tyOK_0⟩
theorem f_13_204 : FldAt 13 204 13 26 := fa9 kf9_13_26 (gw6 197 rfl rfl) fj9_13_26
theorem fj9_13_27 : FJ9 13 27 := ⟨ly_13_27, kr9_13.1, kr9_13.2, by decide +kernel, pq9_13 _ (by decide +kernel), tyOK_0⟩
theorem f_13_212 : FldAt 13 212 13 27 := fa9 kf9_13_27 (gw6 198 rfl rfl) fj9_13_27
theorem fj9_13_28 : FJ9 13 28 := ⟨ly_13_28, kr9_13.1, kr9_13.2, by decide +kernel, pq9_13 _ (by decide +kernel), tyOK_0⟩
theorem f_13_224 : FldAt 13 224 13 28 := fa9 kf9_13_28 (gw6 199 rfl rfl) fj9_13_28
theorem f_13_23 : FldAt 13 23 13 11 := fa9 kf9_13_11 (gw6 182 rfl rfl) fj9_13_11
theorem fj9_13_29 : FJ9 13 29 := ⟨ly_13_29, kr9_13.1, kr9_13.2, by decide +kernel, pq9_13 _ (by decide +kernel), tyOK_0⟩
theorem f_13_233 : FldAt 13 233 13 29 := fa9 kf9_13_29 (gw6 200 rfl rfl) fj9_13_29
theorem f_13_26 : FldAt 13 26 13 12 := fa9 kf9_13_12 (gw6 183 rfl rfl) fj9_13_12
theorem fj9_13_39 : FJ9 13 39 := ⟨ly_13_39, kr9_13.1, kr9_13.2, by decide +kernel, pq9_13 _ (by decide +kernel), tyOK_0⟩
theorem f_13_260 : FldAt 13 260 13 39 := fa9 kf9_13_39 (gw6 210 rfl rfl) fj9_13_39
theorem fj9_13_7 : FJ9 13 7 := ⟨ly_13_7, kr9_13.1, kr9_13.2, by decide +kernel, pq9_13 _ (by decide +kernel), tyOK_0⟩
theorem f_13_263 : FldAt 13 263 13 7 := fa9 kf9_13_7 (gw6 178 rfl rfl) fj9_13_7
theorem fj9_13_33 : FJ9 13 33 := ⟨ly_13_33, kr9_13.1, kr9_13.2, by decide +kernel, pq9_13 _ (by decide +kernel), tyOK_0⟩
theorem f_13_266 : FldAt 13 266 13 33 := fa9 kf9_13_33 (gw6 204 rfl rfl) fj9_13_33
theorem fj9_13_32 : FJ9 13 32 := ⟨ly_13_32, kr9_13.1, kr9_13.2, by decide +kernel, pq9_13 _ (by decide +kernel), tyOK_0⟩
theorem f_13_287 : FldAt 13 287 13 32 := fa9 kf9_13_32 (gw6 203 rfl rfl) fj9_13_32
theorem f_13_30 : FldAt 13 30 13 13 := fa9 kf9_13_13 (gw6 184 rfl rfl) fj9_13_13
theorem fj9_13_36 : FJ9 13 36 := ⟨ly_13_36, kr9_13.1, kr9_13.2, by decide +kernel, pq9_13 _ (by decide +kernel), tyOK_0⟩
theorem f_13_304 : FldAt 13 304 13 36 := fa9 kf9_13_36 (gw6 207 rfl rfl) fj9_13_36
theorem fj9_13_37 : FJ9 13 37 := ⟨ly_13_37, kr9_13.1, kr9_13.2, by decide +kernel, pq9_13 _ (by decide +kernel), tyOK_0⟩
theorem f_13_307 : FldAt 13 307 13 37 := fa9 kf9_13_37 (gw6 208 rfl rfl) fj9_13_37
theorem fj9_13_38 : FJ9 13 38 := ⟨ly_13_38, kr9_13.1, kr9_13.2, by decide +kernel, pq9_13 _ (by decide +kernel), tyOK_0⟩
theorem f_13_310 : FldAt 13 310 13 38 := fa9 kf9_13_38 (gw6 209 rfl rfl) fj9_13_38
theorem f_13_33 : FldAt 13 33 13 14 := fa9 kf9_13_14 (gw6 185 rfl rfl) fj9_13_14
theorem f_13_36 : FldAt 13 36 13 15 := fa9 kf9_13_15 (gw6 186 rfl rfl) fj9_13_15
theorem f_13_39 : FldAt 13 39 13 16 := fa9 kf9_13_16 (gw6 187 rfl rfl) fj9_13_16
theorem fj9_13_44 : FJ9 13 44 := ⟨ly_13_44, kr9_13.1, kr9_13.2, by decide +kernel, pq9_13 _ (by decide +kernel), tyOK_0⟩
theorem f_13_399 : FldAt 13 399 13 44 := fa9 kf9_13_44 (gw6 215 rfl rfl) fj9_13_44
theorem fj9_13_45 : FJ9 13 45 := ⟨ly_13_45, kr9_13.1, kr9_13.2, by decide +kernel, pq9_13 _ (by decide +kernel), tyOK_0⟩
theorem f_13_414 : FldAt 13 414 13 45 := fa9 kf9_13_45 (gw6 216 rfl rfl) fj9_13_45
theorem fj9_13_46 : FJ9 13 46 := ⟨ly_13_46, kr9_13.1, kr9_13.2, by decide +kernel, pq9_13 _ (by decide +kernel), tyOK_0⟩
theorem f_13_417 : FldAt 13 417 13 46 := fa9 kf9_13_46 (gw6 217 rfl rfl) fj9_13_46
theorem f_13_42 : FldAt 13 42 13 17 := fa9 kf9_13_17 (gw6 188 rfl rfl) fj9_13_17
theorem fj9_13_48 : FJ9 13 48 := ⟨ly_13_48, kr9_13.1, kr9_13.2, by decide +kernel, pq9_13 _ (by decide +kernel), tyOK_0⟩
theorem f_13_428 : FldAt 13 428 13 48 := fa9 kf9_13_48 (gw6 219 rfl rfl) fj9_13_48
theorem fj9_13_47 : FJ9 13 47 := ⟨ly_13_47, kr9_13.1, kr9_13.2, by decide +kernel, pq9_13 _ (by decide +kernel), tyOK_0⟩
theorem f_13_431 : FldAt 13 431 13 47 := fa9 kf9_13_47 (gw6 218 rfl rfl) fj9_13_47
theorem fj9_13_49 : FJ9 13 49 := ⟨ly_13_49, kr9_13.1, kr9_13.2, by decide +kernel, pq9_13 _ (by decide +kernel), tyOK_0⟩
theorem f_13_434 : FldAt 13 434 13 49 := fa9 kf9_13_49 (gw6 220 rfl rfl) fj9_13_49
theorem f_13_45 : FldAt 13 45 13 22 := fa9 kf9_13_22 (gw6 193 rfl rfl) fj9_13_22
theorem fj9_13_53 : FJ9 13 53 := ⟨ly_13_53, kr9_13.1, kr9_13.2, by decide +kernel, pq9_13 _ (by decide +kernel), tyOK_0⟩
theorem f_13_453 : FldAt 13 453 13 53 := fa9 kf9_13_53 (gw6 224 rfl rfl) fj9_13_53
theorem f_13_48 : FldAt 13 48 13 23 := fa9 kf9_13_23 (gw6 194 rfl rfl) fj9_13_23
theorem fj9_13_56 : FJ9 13 56 := ⟨ly_13_56, kr9_13.1, kr9_13.2, by decide +kernel, pq9_13 _ (by decide +kernel), tyOK_0⟩
theorem f_13_485 : FldAt 13 485 13 56 := fa9 kf9_13_56 (gw6 227 rfl rfl) fj9_13_56
theorem fj9_13_59 : FJ9 13 59 := ⟨ly_13_59, kr9_13.1, kr9_13.2, by decide +kernel, pq9_13 _ (by decide +kernel), tyOK_0⟩
theorem f_13_492 : FldAt 13 492 13 59 := fa9 kf9_13_59 (gw6 230 rfl rfl) fj9_13_59
theorem fj9_13_60 : FJ9 13 60 := ⟨ly_13_60, kr9_13.1, kr9_13.2, by decide +kernel, pq9_13 _ (by decide +kernel), tyOK_0⟩
theorem f_13_495 : FldAt 13 495 13 60 := fa9 kf9_13_60 (gw6 231 rfl rfl) fj9_13_60
theorem fj9_13_62 : FJ9 13 62 := ⟨ly_13_62, kr9_13.1, kr9_13.2, by decide +kernel, pq9_13 _ (by decide +kernel), tyOK_0⟩
theorem f_13_507 : FldAt 13 507 13 62 := fa9 kf9_13_62 (gw6 233 rfl rfl) fj9_13_62
theorem f_13_51 : FldAt 13 51 13 24 := fa9 kf9_13_24 (gw6 195 rfl rfl) fj9_13_24
theorem fj9_13_66 : FJ9 13 66 := ⟨ly_13_66, kr9_13.1, kr9_13.2, by decide +kernel, pq9_13 _ (by decide +kernel), tyOK_0⟩
theorem f_13_510 : FldAt 13 510 13 66 := fa9 kf9_13_66 (gw6 237 rfl rfl) fj9_13_66
theorem fj9_13_65 : FJ9 13 65 := ⟨ly_13_65, kr9_13.1, kr9_13.2, by decide +kernel, pq9_13 _ (by decide +kernel), tyOK_0⟩
theorem f_13_516 : FldAt 13 516 13 65 := fa9 kf9_13_65 (gw6 236 rfl rfl) fj9_13_65
theorem f_13_54 : FldAt 13 54 13 25 := fa9 kf9_13_25 (gw6 196 rfl rfl) fj9_13_25
theorem f_13_57 : FldAt 13 57 13 30 := fa9 kf9_13_30 (gw6 201 rfl rfl) fj9_13_30
theorem f_13_60 : FldAt 13 60 13 31 := fa9 kf9_13_31 (gw6 202 rfl rfl) fj9_13_31
theorem f_13_63 : FldAt 13 63 13 34 := fa9 kf9_13_34 (gw6 205 rfl rfl) fj9_13_34
theorem f_13_66 : FldAt 13 66 13 35 := fa9 kf9_13_35 (gw6 206 rfl rfl) fj9_13_35
theorem f_13_69 : FldAt 13 69 13 40 := fa9 kf9_13_40 (gw6 211 rfl rfl) fj9_13_40
theorem f_13_72 : FldAt 13 72 13 41 := fa9 kf9_13_41 (gw6 212 rfl rfl) fj9_13_41
theorem f_13_75 : FldAt 13 75 13 42 := fa9 kf9_13_42 (gw6 213 rfl rfl) fj9_13_42
theorem f_13_78 : FldAt 13 78 13 43 := fa9 kf9_13_43 (gw6 214 rfl rfl) fj9_13_43
theorem f_13_81 : FldAt 13 81 13 50 := fa9 kf9_13_50 (gw6 221 rfl rfl) fj9_13_50
theorem f_13_84 : FldAt 13 84 13 51 := fa9 kf9_13_51 (gw6 222 rfl rfl) fj9_13_51
theorem f_13_87 : FldAt 13 87 13 52 := fa9 kf9_13_52 (gw6 223 rfl rfl) fj9_13_52
theorem f_13_9 : FldAt 13 9 13 2 := fa9 kf9_13_2 (gw6 173 rfl rfl) fj9_13_2
theorem f_13_90 : FldAt 13 90 13 54 := fa9 kf9_13_54 (gw6 225 rfl rfl) fj9_13_54
theorem f_13_93 : FldAt 13 93 13 55 := fa9 kf9_13_55 (gw6 226 rfl rfl) fj9_13_55
theorem f_13_96 : FldAt 13 96 13 57 := fa9 kf9_13_57 (gw6 228 rfl rfl) fj9_13_57
theorem f_13_99 : FldAt 13 99 13 58 := fa9 kf9_13_58 (gw6 229 rfl rfl) fj9_13_58
theorem f_1_10 : FldAt 1 10 1 0 := fa9 kf9_1_0 (gw3 75 rfl rfl) fj9_1_0
theorem f_1_100 : FldAt 1 100 1 13 := fa9 kf9_1_13 (gw3 88 rfl rfl) fj9_1_13
theorem fj9_2_1 : FJ9 2 1 := ⟨ly_2_1, kr9_2.1, kr9_2.2, by decide +kernel, pq9_2 _ (by decide +kernel), tyOK_0⟩
theorem f_1_112 : FldAt 1 112 2 1 := fa9 kf9_2_1 (gw1 41 rfl rfl) fj9_2_1
theorem fj9_1_12 : FJ9 1 12 := ⟨ly_1_12, kr9_1.1, kr9_1.2, by decide +kernel, pq9_1 _ (by decide +kernel), tyOK_0⟩
theorem f_1_123 : FldAt 1 123 1 12 := fa9 kf9_1_12 (gw3 87 rfl rfl) fj9_1_12
theorem f_1_135 : FldAt 1 135 4 4 := fa9 kf9_4_4 (gw1 111 rfl rfl) fj9_4_4
theorem f_1_139 : FldAt 1 139 4 2 := fa9 kf9_4_2 (gw1 103 rfl rfl) fj9_4_2
theorem f_1_146 : FldAt 1 146 4 3 := fa9 kf9_4_3 (gw1 107 rfl rfl) fj9_4_3
theorem f_1_158 : FldAt 1 158 4 5 := fa9 kf9_4_5 (gw1 115 rfl rfl) fj9_4_5
theorem f_1_161 : FldAt 1 161 4 6 := fa9 kf9_4_6 (gw1 118 rfl rfl) fj9_4_6
theorem f_1_164 : FldAt 1 164 4 7 := fa9 kf9_4_7 (gw1 122 rfl rfl) fj9_4_7
theorem f_1_170 : FldAt 1 170 5 10 := fa9 kf9_5_10 (gw1 203 rfl rfl) fj9_5_10
theorem f_1_176 : FldAt 1 176 5 0 := fa9 kf9_5_0 (gw1 167 rfl rfl) fj9_5_0
theorem f_1_179 : FldAt 1 179 4 9 := fa9 kf9_4_9 (gw1 128 rfl rfl) fj9_4_9
theorem f_1_182 : FldAt 1 182 5 1 := fa9 kf9_5_1 (gw1 171 rfl rfl) fj9_5_1
theorem f_1_185 : FldAt 1 185 5 2 := fa9 kf9_5_2 (gw1 174 rfl rfl) fj9_5_2
theorem fj9_5_3 : FJ9 5 3 := ⟨ly_5_3, kr9_5.1, kr9_5.2, by decide +kernel, pq9_5 _ (by decide +kernel), tyOK_0⟩
theorem f_1_188 : FldAt 1 188 5 3 := fa9 kf9_5_3 (gw1 176 rfl rfl) fj9_5_3
theorem f_1_19 : FldAt 1 19 1 1 := fa9 kf9_1_1 (gw3 76 rfl rfl) fj9_1_1
theorem f_1_194 : FldAt 1 194 4 10 := fa9 kf9_4_10 (gw1 132 rfl rfl) fj9_4_10
theorem f_1_197 : FldAt 1 197 5 4 := fa9 kf9_5_4 (gw1 181 rfl rfl) fj9_5_4
theorem f_1_200 : FldAt 1 200 5 5 := fa9 kf9_5_5 (gw1 184 rfl rfl) fj9_5_5
theorem f_1_203 : FldAt 1 203 5 6 := fa9 kf9_5_6 (gw1 188 rfl rfl) fj9_5_6
theorem f_1_206 : FldAt 1 206 5 7 := fa9 kf9_5_7 (gw1 192 rfl rfl) fj9_5_7
theorem f_1_209 : FldAt 1 209 5 8 := fa9 kf9_5_8 (gw1 196 rfl rfl) fj9_5_8
theorem f_1_212 : FldAt 1 212 5 9 := fa9 kf9_5_9 (gw1 198 rfl rfl) fj9_5_9
theorem fj9_7_4 : FJ9 7 4 := ⟨ly_7_4, kr9_7.1, kr9_7.2, by decide +kernel, pq9_7 _ (by decide +kernel), tyOK_0⟩
theorem f_1_258 : FldAt 1 258 7 4 := fa9 kf9_7_4 (gw2 70 rfl rfl) fj9_7_4
theorem f_1_26 : FldAt 1 26 1 2 := fa9 kf9_1_2 (gw3 77 rfl rfl) fj9_1_2
theorem fj9_7_5 : FJ9 7 5 := ⟨ly_7_5, kr9_7.1, kr9_7.2, by decide +kernel, pq9_7 _ (by decide +kernel), tyOK_0⟩
theorem f_1_268 : FldAt 1 268 7 5 := fa9 kf9_7_5 (gw2 72 rfl rfl) fj9_7_5
theorem fj9_7_6 : FJ9 7 6 := ⟨ly_7_6, kr9_7.1, kr9_7.2, by decide +kernel, pq9_7 _ (by decide +kernel), tyOK_0⟩
theorem f_1_271 : FldAt 1 271 7 6 := fa9 kf9_7_6 (gw2 74 rfl rfl) fj9_7_6
theorem f_1_300 : FldAt 1 300 6 8 := fa9 kf9_6_8 (gw2 18 rfl rfl) fj9_6_8
theorem fj9_6_10 : FJ9 6 10 := ⟨ly_6_10, kr9_6.1, kr9_6.2, by decide +kernel, pq9_6 _ (by decide +kernel), tyOK_0⟩
theorem f_1_302 : FldAt 1 302 6 10 := fa9 kf9_6_10 (gw2 23 rfl rfl) fj9_6_10
theorem fj9_6_6 : FJ9 6 6 := ⟨ly_6_6, kr9_6.1, kr9_6.2, by decide +kernel, pq9_6 _ (by decide +kernel), tyOK_0⟩
theorem f_1_308 : FldAt 1 308 6 6 := fa9 kf9_6_6 (gw2 11 rfl rfl) fj9_6_6
theorem f_1_316 : FldAt 1 316 8 6 := fa9 kf9_8_6 (gw2 129 rfl rfl) fj9_8_6
theorem f_1_319 : FldAt 1 319 8 4 := fa9 kf9_8_4 (gw2 121 rfl rfl) fj9_8_4
theorem f_1_322 : FldAt 1 322 8 7 := fa9 kf9_8_7 (gw2 132 rfl rfl) fj9_8_7
theorem fj9_8_8 : FJ9 8 8 := ⟨ly_8_8, kr9_8.1, kr9_8.2, by decide +kernel, pq9_8 _ (by decide +kernel), tyOK_0⟩
theorem f_1_327 : FldAt 1 327 8 8 := fa9 kf9_8_8 (gw2 134 rfl rfl) fj9_8_8
theorem f_1_33 : FldAt 1 33 1 3 := fa9 kf9_1_3 (gw3 78 rfl rfl) fj9_1_3
theorem f_1_335 : FldAt 1 335 8 5 := fa9 kf9_8_5 (gw2 125 rfl rfl) fj9_8_5
theorem f_1_342 : FldAt 1 342 9 7 := fa9 kf9_9_7 (gw2 168 rfl rfl) fj9_9_7
theorem f_1_350 : FldAt 1 350 10 5 := fa9 kf9_10_5 (gw2 207 rfl rfl) fj9_10_5
theorem f_1_359 : FldAt 1 359 11 9 := fa9 kf9_11_9 (gw3 1 rfl rfl) fj9_11_9
theorem f_1_360 : FldAt 1 360 11 8 := fa9 kf9_11_8 (gw2 239 rfl rfl) fj9_11_8
theorem f_1_367 : FldAt 1 367 12 4 := fa9 kf9_12_4 (gw3 43 rfl rfl) fj9_12_4
theorem f_1_371 : FldAt 1 371 12 8 := fa9 kf9_12_8 (gw3 49 rfl rfl) fj9_12_8
theorem f_1_374 : FldAt 1 374 12 7 := fa9 kf9_12_7 (gw3 47 rfl rfl) fj9_12_7
theorem f_1_382 : FldAt 1 382 4 0 := fa9 kf9_4_0 (gw1 96 rfl rfl) fj9_4_0
theorem f_1_384 : FldAt 1 384 4 1 := fa9 kf9_4_1 (gw1 100 rfl rfl) fj9_4_1
theorem f_1_387 : FldAt 1 387 5 11 := fa9 kf9_5_11 (gw1 211 rfl rfl) fj9_5_11
