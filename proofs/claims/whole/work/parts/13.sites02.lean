/-! places of the pools (by program) -/
theorem f_2_15 : FldAt 2 15 2 1 := ⟨gw1 40 (by decide +kernel) rfl, ly_2_1, by decide, by decide, by decide +kernel, by decide +kernel, tyOK_0⟩
theorem ly_2_2 : u_lay (kC 2) (kF 2) 2 ∈ gTbl := gw1 54 (by decide +kernel) rfl
theorem f_2_25 : FldAt 2 25 2 2 := ⟨gw1 42 (by decide +kernel) rfl, ly_2_2, by decide, by decide, by decide +kernel, by decide +kernel, tyOK_0⟩
theorem ly_2_3 : u_lay (kC 2) (kF 2) 3 ∈ gTbl := gw1 56 (by decide +kernel) rfl
theorem f_2_28 : FldAt 2 28 2 3 := ⟨gw1 44 (by decide +kernel) rfl, ly_2_3, by decide, by decide, by decide +kernel, by decide +kernel, tyOK_3⟩
theorem ly_2_4 : u_lay (kC 2) (kF 2) 4 ∈ gTbl := gw1 58 (by decide +kernel) rfl
theorem f_2_32 : FldAt 2 32 2 4 := ⟨gw1 46 (by decide +kernel) rfl, ly_2_4, by decide, by decide, by decide +kernel, by decide +kernel, tyOK_0⟩
theorem ly_2_5 : u_lay (kC 2) (kF 2) 5 ∈ gTbl := gw1 60 (by decide +kernel) rfl
theorem f_2_35 : FldAt 2 35 2 5 := ⟨gw1 48 (by decide +kernel) rfl, ly_2_5, by decide, by decide, by decide +kernel, by decide +kernel, tyOK_3⟩
theorem ly_2_0 : u_lay (kC 2) (kF 2) 0 ∈ gTbl := gw1 50 (by decide +kernel) rfl
theorem f_2_9 : FldAt 2 9 2 0 := ⟨gw1 39 (by decide +kernel) rfl, ly_2_0, by decide, by decide, by decide +kernel, by decide +kernel, tyOK_2a _⟩
theorem f_3_100 : FldAt 3 100 6 6 := ⟨gw2 10 (by decide +kernel) rfl, ly_6_6, by decide, by decide, by decide +kernel, by decide +kernel, tyOK_0⟩
theorem ly_3_2 : u_lay (kC 3) (kF 3) 2 ∈ gTbl := gw1 79 (by decide +kernel) rfl
theorem f_3_15 : FldAt 3 15 3 2 := ⟨gw1 72 (by decide +kernel) rfl, ly_3_2, by decide, by decide, by decide +kernel, by decide +kernel, tyOK_2a _⟩
theorem ly_3_4 : u_lay (kC 3) (kF 3) 4 ∈ gTbl := gw1 83 (by decide +kernel) rfl
theorem f_3_18 : FldAt 3 18 3 4 := ⟨gw1 74 (by decide +kernel) rfl, ly_3_4, by decide, by decide, by decide +kernel, by decide +kernel, tyOK_2a _⟩
theorem ly_3_3 : u_lay (kC 3) (kF 3) 3 ∈ gTbl := gw1 81 (by decide +kernel) rfl
theorem f_3_27 : FldAt 3 27 3 3 := ⟨gw1 73 (by decide +kernel) rfl, ly_3_3, by decide, by decide, by decide +kernel, by decide +kernel, tyOK_0⟩
theorem ly_3_1 : u_lay (kC 3) (kF 3) 1 ∈ gTbl := gw1 77 (by decide +kernel) rfl
theorem f_3_49 : FldAt 3 49 3 1 := ⟨gw1 71 (by decide +kernel) rfl, ly_3_1, by decide, by decide, by decide +kernel, by decide +kernel, tyOK_0⟩
theorem ly_3_0 : u_lay (kC 3) (kF 3) 0 ∈ gTbl := gw1 75 (by decide +kernel) rfl
theorem f_3_9 : FldAt 3 9 3 0 := ⟨gw1 70 (by decide +kernel) rfl, ly_3_0, by decide, by decide, by decide +kernel, by decide +kernel, tyOK_2a _⟩
theorem f_3_95 : FldAt 3 95 6 10 := ⟨gw2 22 (by decide +kernel) rfl, ly_6_10, by decide, by decide, by decide +kernel, by decide +kernel, tyOK_0⟩
theorem f_4_103 : FldAt 4 103 2 5 := ⟨gw1 49 (by decide +kernel) rfl, ly_2_5, by decide, by decide, by decide +kernel, by decide +kernel, tyOK_3⟩
theorem f_4_107 : FldAt 4 107 5 10 := ⟨gw1 205 (by decide +kernel) rfl, ly_5_10, by decide, by decide, by decide +kernel, by decide +kernel, tyOK_0⟩
theorem f_4_118 : FldAt 4 118 2 4 := ⟨gw1 47 (by decide +kernel) rfl, ly_2_4, by decide, by decide, by decide +kernel, by decide +kernel, tyOK_0⟩
theorem f_4_131 : FldAt 4 131 2 3 := ⟨gw1 45 (by decide +kernel) rfl, ly_2_3, by decide, by decide, by decide +kernel, by decide +kernel, tyOK_3⟩
theorem f_4_134 : FldAt 4 134 2 2 := ⟨gw1 43 (by decide +kernel) rfl, ly_2_2, by decide, by decide, by decide +kernel, by decide +kernel, tyOK_0⟩
theorem f_4_15 : FldAt 4 15 4 5 := ⟨gw1 113 (by decide +kernel) rfl, ly_4_5, by decide, by decide, by decide +kernel, by decide +kernel, tyOK_2a _⟩
theorem f_4_18 : FldAt 4 18 4 6 := ⟨gw1 116 (by decide +kernel) rfl, ly_4_6, by decide, by decide, by decide +kernel, by decide +kernel, tyOK_2a _⟩
theorem f_4_21 : FldAt 4 21 4 7 := ⟨gw1 119 (by decide +kernel) rfl, ly_4_7, by decide, by decide, by decide +kernel, by decide +kernel, tyOK_2a _⟩
theorem f_4_24 : FldAt 4 24 4 9 := ⟨gw1 125 (by decide +kernel) rfl, ly_4_9, by decide, by decide, by decide +kernel, by decide +kernel, tyOK_2a _⟩
theorem f_4_27 : FldAt 4 27 4 10 := ⟨gw1 130 (by decide +kernel) rfl, ly_4_10, by decide, by decide, by decide +kernel, by decide +kernel, tyOK_2a _⟩
theorem f_4_30 : FldAt 4 30 4 0 := ⟨gw1 93 (by decide +kernel) rfl, ly_4_0, by decide, by decide, by decide +kernel, by decide +kernel, tyOK_0⟩
theorem f_4_34 : FldAt 4 34 4 1 := ⟨gw1 98 (by decide +kernel) rfl, ly_4_1, by decide, by decide, by decide +kernel, by decide +kernel, tyOK_0⟩
theorem f_4_37 : FldAt 4 37 4 2 := ⟨gw1 102 (by decide +kernel) rfl, ly_4_2, by decide, by decide, by decide +kernel, by decide +kernel, tyOK_0⟩
theorem f_4_40 : FldAt 4 40 4 3 := ⟨gw1 106 (by decide +kernel) rfl, ly_4_3, by decide, by decide, by decide +kernel, by decide +kernel, tyOK_0⟩
theorem ly_4_8 : u_lay (kC 4) (kF 4) 8 ∈ gTbl := gw1 150 (by decide +kernel) rfl
theorem f_4_43 : FldAt 4 43 4 8 := ⟨gw1 124 (by decide +kernel) rfl, ly_4_8, by decide, by decide, by decide +kernel, by decide +kernel, tyOK_0⟩
theorem f_4_9 : FldAt 4 9 4 4 := ⟨gw1 109 (by decide +kernel) rfl, ly_4_4, by decide, by decide, by decide +kernel, by decide +kernel, tyOK_2a _⟩
theorem f_5_15 : FldAt 5 15 5 1 := ⟨gw1 168 (by decide +kernel) rfl, ly_5_1, by decide, by decide, by decide +kernel, by decide +kernel, tyOK_2a _⟩
theorem f_5_18 : FldAt 5 18 5 2 := ⟨gw1 172 (by decide +kernel) rfl, ly_5_2, by decide, by decide, by decide +kernel, by decide +kernel, tyOK_2a _⟩
theorem f_5_21 : FldAt 5 21 5 4 := ⟨gw1 178 (by decide +kernel) rfl, ly_5_4, by decide, by decide, by decide +kernel, by decide +kernel, tyOK_2a _⟩
theorem f_5_24 : FldAt 5 24 5 5 := ⟨gw1 182 (by decide +kernel) rfl, ly_5_5, by decide, by decide, by decide +kernel, by decide +kernel, tyOK_2a _⟩
theorem f_5_27 : FldAt 5 27 5 6 := ⟨gw1 186 (by decide +kernel) rfl, ly_5_6, by decide, by decide, by decide +kernel, by decide +kernel, tyOK_2a _⟩
theorem f_5_30 : FldAt 5 30 5 7 := ⟨gw1 190 (by decide +kernel) rfl, ly_5_7, by decide, by decide, by decide +kernel, by decide +kernel, tyOK_2a _⟩
theorem f_5_33 : FldAt 5 33 5 8 := ⟨gw1 194 (by decide +kernel) rfl, ly_5_8, by decide, by decide, by decide +kernel, by decide +kernel, tyOK_2a _⟩
theorem f_5_36 : FldAt 5 36 5 9 := ⟨gw1 197 (by decide +kernel) rfl, ly_5_9, by decide, by decide, by decide +kernel, by decide +kernel, tyOK_2a _⟩
theorem f_5_45 : FldAt 5 45 5 3 := ⟨gw1 175 (by decide +kernel) rfl, ly_5_3, by decide, by decide, by decide +kernel, by decide +kernel, tyOK_0⟩
theorem f_5_49 : FldAt 5 49 5 10 := ⟨gw1 201 (by decide +kernel) rfl, ly_5_10, by decide, by decide, by decide +kernel, by decide +kernel, tyOK_0⟩
theorem f_5_52 : FldAt 5 52 5 11 := ⟨gw1 207 (by decide +kernel) rfl, ly_5_11, by decide, by decide, by decide +kernel, by decide +kernel, tyOK_0⟩
theorem f_5_9 : FldAt 5 9 5 0 := ⟨gw1 163 (by decide +kernel) rfl, ly_5_0, by decide, by decide, by decide +kernel, by decide +kernel, tyOK_2a _⟩
theorem ly_6_1 : u_lay (kC 6) (kF 6) 1 ∈ gTbl := gw2 31 (by decide +kernel) rfl
theorem f_6_15 : FldAt 6 15 6 1 := ⟨gw2 4 (by decide +kernel) rfl, ly_6_1, by decide, by decide, by decide +kernel, by decide +kernel, tyOK_2o _⟩
theorem ly_6_2 : u_lay (kC 6) (kF 6) 2 ∈ gTbl := gw2 33 (by decide +kernel) rfl
theorem f_6_19 : FldAt 6 19 6 2 := ⟨gw2 5 (by decide +kernel) rfl, ly_6_2, by decide, by decide, by decide +kernel, by decide +kernel, tyOK_2o _⟩
theorem ly_6_3 : u_lay (kC 6) (kF 6) 3 ∈ gTbl := gw2 35 (by decide +kernel) rfl
theorem f_6_29 : FldAt 6 29 6 3 := ⟨gw2 6 (by decide +kernel) rfl, ly_6_3, by decide, by decide, by decide +kernel, by decide +kernel, tyOK_0⟩
theorem f_6_33 : FldAt 6 33 4 10 := ⟨gw1 131 (by decide +kernel) rfl, ly_4_10, by decide, by decide, by decide +kernel, by decide +kernel, tyOK_2a _⟩
theorem ly_6_5 : u_lay (kC 6) (kF 6) 5 ∈ gTbl := gw2 39 (by decide +kernel) rfl
theorem f_6_37 : FldAt 6 37 6 5 := ⟨gw2 8 (by decide +kernel) rfl, ly_6_5, by decide, by decide, by decide +kernel, by decide +kernel, tyOK_0⟩
theorem f_6_39 : FldAt 6 39 5 7 := ⟨gw1 191 (by decide +kernel) rfl, ly_5_7, by decide, by decide, by decide +kernel, by decide +kernel, tyOK_2a _⟩
theorem f_6_44 : FldAt 6 44 6 6 := ⟨gw2 9 (by decide +kernel) rfl, ly_6_6, by decide, by decide, by decide +kernel, by decide +kernel, tyOK_0⟩
theorem f_6_46 : FldAt 6 46 5 6 := ⟨gw1 187 (by decide +kernel) rfl, ly_5_6, by decide, by decide, by decide +kernel, by decide +kernel, tyOK_2a _⟩
theorem ly_6_7 : u_lay (kC 6) (kF 6) 7 ∈ gTbl := gw2 43 (by decide +kernel) rfl
theorem f_6_49 : FldAt 6 49 6 7 := ⟨gw2 12 (by decide +kernel) rfl, ly_6_7, by decide, by decide, by decide +kernel, by decide +kernel, tyOK_0⟩
theorem f_6_51 : FldAt 6 51 5 5 := ⟨gw1 183 (by decide +kernel) rfl, ly_5_5, by decide, by decide, by decide +kernel, by decide +kernel, tyOK_2a _⟩
theorem f_6_54 : FldAt 6 54 6 8 := ⟨gw2 14 (by decide +kernel) rfl, ly_6_8, by decide, by decide, by decide +kernel, by decide +kernel, tyOK_0⟩
theorem ly_6_9 : u_lay (kC 6) (kF 6) 9 ∈ gTbl := gw2 47 (by decide +kernel) rfl
theorem f_6_56 : FldAt 6 56 6 9 := ⟨gw2 19 (by decide +kernel) rfl, ly_6_9, by decide, by decide, by decide +kernel, by decide +kernel, tyOK_0⟩
theorem f_6_59 : FldAt 6 59 5 11 := ⟨gw1 206 (by decide +kernel) rfl, ly_5_11, by decide, by decide, by decide +kernel, by decide +kernel, tyOK_0⟩
theorem f_6_62 : FldAt 6 62 6 12 := ⟨gw2 25 (by decide +kernel) rfl, ly_6_12, by decide, by decide, by decide +kernel, by decide +kernel, tyOK_0⟩
theorem ly_6_4 : u_lay (kC 6) (kF 6) 4 ∈ gTbl := gw2 37 (by decide +kernel) rfl
theorem f_6_66 : FldAt 6 66 6 4 := ⟨gw2 7 (by decide +kernel) rfl, ly_6_4, by decide, by decide, by decide +kernel, by decide +kernel, tyOK_0⟩
theorem f_6_69 : FldAt 6 69 4 9 := ⟨gw1 126 (by decide +kernel) rfl, ly_4_9, by decide, by decide, by decide +kernel, by decide +kernel, tyOK_2a _⟩
theorem ly_6_11 : u_lay (kC 6) (kF 6) 11 ∈ gTbl := gw2 51 (by decide +kernel) rfl
theorem f_6_72 : FldAt 6 72 6 11 := ⟨gw2 24 (by decide +kernel) rfl, ly_6_11, by decide, by decide, by decide +kernel, by decide +kernel, tyOK_0⟩
theorem f_6_74 : FldAt 6 74 5 0 := ⟨gw1 164 (by decide +kernel) rfl, ly_5_0, by decide, by decide, by decide +kernel, by decide +kernel, tyOK_2a _⟩
theorem f_6_83 : FldAt 6 83 6 10 := ⟨gw2 21 (by decide +kernel) rfl, ly_6_10, by decide, by decide, by decide +kernel, by decide +kernel, tyOK_0⟩
theorem ly_6_0 : u_lay (kC 6) (kF 6) 0 ∈ gTbl := gw2 29 (by decide +kernel) rfl
theorem f_6_9 : FldAt 6 9 6 0 := ⟨gw2 3 (by decide +kernel) rfl, ly_6_0, by decide, by decide, by decide +kernel, by decide +kernel, tyOK_2o _⟩
theorem f_7_101 : FldAt 7 101 4 4 := ⟨gw1 112 (by decide +kernel) rfl, ly_4_4, by decide, by decide, by decide +kernel, by decide +kernel, tyOK_2a _⟩
theorem f_7_107 : FldAt 7 107 5 10 := ⟨gw1 204 (by decide +kernel) rfl, ly_5_10, by decide, by decide, by decide +kernel, by decide +kernel, tyOK_0⟩
theorem ly_7_7 : u_lay (kC 7) (kF 7) 7 ∈ gTbl := gw2 96 (by decide +kernel) rfl
theorem f_7_11 : FldAt 7 11 7 7 := ⟨gw2 75 (by decide +kernel) rfl, ly_7_7, by decide, by decide, by decide +kernel, by decide +kernel, tyOK_2a _⟩
theorem f_7_114 : FldAt 7 114 4 7 := ⟨gw1 123 (by decide +kernel) rfl, ly_4_7, by decide, by decide, by decide +kernel, by decide +kernel, tyOK_2a _⟩
theorem f_7_120 : FldAt 7 120 4 3 := ⟨gw1 108 (by decide +kernel) rfl, ly_4_3, by decide, by decide, by decide +kernel, by decide +kernel, tyOK_0⟩
theorem f_7_127 : FldAt 7 127 5 6 := ⟨gw1 189 (by decide +kernel) rfl, ly_5_6, by decide, by decide, by decide +kernel, by decide +kernel, tyOK_2a _⟩
theorem f_7_133 : FldAt 7 133 4 2 := ⟨gw1 104 (by decide +kernel) rfl, ly_4_2, by decide, by decide, by decide +kernel, by decide +kernel, tyOK_0⟩
theorem f_7_136 : FldAt 7 136 4 9 := ⟨gw1 129 (by decide +kernel) rfl, ly_4_9, by decide, by decide, by decide +kernel, by decide +kernel, tyOK_2a _⟩
theorem f_7_142 : FldAt 7 142 5 11 := ⟨gw1 210 (by decide +kernel) rfl, ly_5_11, by decide, by decide, by decide +kernel, by decide +kernel, tyOK_0⟩
theorem f_7_145 : FldAt 7 145 5 5 := ⟨gw1 185 (by decide +kernel) rfl, ly_5_5, by decide, by decide, by decide +kernel, by decide +kernel, tyOK_2a _⟩
theorem f_7_153 : FldAt 7 153 6 8 := ⟨gw2 17 (by decide +kernel) rfl, ly_6_8, by decide, by decide, by decide +kernel, by decide +kernel, tyOK_0⟩
theorem f_7_164 : FldAt 7 164 6 7 := ⟨gw2 13 (by decide +kernel) rfl, ly_6_7, by decide, by decide, by decide +kernel, by decide +kernel, tyOK_0⟩
theorem f_7_166 : FldAt 7 166 4 10 := ⟨gw1 133 (by decide +kernel) rfl, ly_4_10, by decide, by decide, by decide +kernel, by decide +kernel, tyOK_2a _⟩
theorem f_7_169 : FldAt 7 169 5 9 := ⟨gw1 199 (by decide +kernel) rfl, ly_5_9, by decide, by decide, by decide +kernel, by decide +kernel, tyOK_2a _⟩
theorem ly_7_10 : u_lay (kC 7) (kF 7) 10 ∈ gTbl := gw2 102 (by decide +kernel) rfl
theorem f_7_17 : FldAt 7 17 7 10 := ⟨gw2 79 (by decide +kernel) rfl, ly_7_10, by decide, by decide, by decide +kernel, by decide +kernel, tyOK_2a _⟩
theorem f_7_172 : FldAt 7 172 5 3 := ⟨gw1 177 (by decide +kernel) rfl, ly_5_3, by decide, by decide, by decide +kernel, by decide +kernel, tyOK_0⟩
theorem f_7_175 : FldAt 7 175 5 7 := ⟨gw1 193 (by decide +kernel) rfl, ly_5_7, by decide, by decide, by decide +kernel, by decide +kernel, tyOK_2a _⟩
theorem ly_7_11 : u_lay (kC 7) (kF 7) 11 ∈ gTbl := gw2 104 (by decide +kernel) rfl
theorem f_7_21 : FldAt 7 21 7 11 := ⟨gw2 80 (by decide +kernel) rfl, ly_7_11, by decide, by decide, by decide +kernel, by decide +kernel, tyOK_2a _⟩
theorem ly_7_12 : u_lay (kC 7) (kF 7) 12 ∈ gTbl := gw2 106 (by decide +kernel) rfl
theorem f_7_24 : FldAt 7 24 7 12 := ⟨gw2 81 (by decide +kernel) rfl, ly_7_12, by decide, by decide, by decide +kernel, by decide +kernel, tyOK_2a _⟩
theorem ly_7_0 : u_lay (kC 7) (kF 7) 0 ∈ gTbl := gw2 82 (by decide +kernel) rfl
theorem f_7_27 : FldAt 7 27 7 0 := ⟨gw2 65 (by decide +kernel) rfl, ly_7_0, by decide, by decide, by decide +kernel, by decide +kernel, tyOK_2o _⟩
theorem ly_7_1 : u_lay (kC 7) (kF 7) 1 ∈ gTbl := gw2 84 (by decide +kernel) rfl
theorem f_7_31 : FldAt 7 31 7 1 := ⟨gw2 66 (by decide +kernel) rfl, ly_7_1, by decide, by decide, by decide +kernel, by decide +kernel, tyOK_2o _⟩
theorem ly_7_2 : u_lay (kC 7) (kF 7) 2 ∈ gTbl := gw2 86 (by decide +kernel) rfl
theorem f_7_35 : FldAt 7 35 7 2 := ⟨gw2 67 (by decide +kernel) rfl, ly_7_2, by decide, by decide, by decide +kernel, by decide +kernel, tyOK_2o _⟩
theorem ly_7_3 : u_lay (kC 7) (kF 7) 3 ∈ gTbl := gw2 88 (by decide +kernel) rfl
theorem f_7_39 : FldAt 7 39 7 3 := ⟨gw2 68 (by decide +kernel) rfl, ly_7_3, by decide, by decide, by decide +kernel, by decide +kernel, tyOK_2o _⟩
theorem ly_7_8 : u_lay (kC 7) (kF 7) 8 ∈ gTbl := gw2 98 (by decide +kernel) rfl
theorem f_7_44 : FldAt 7 44 7 8 := ⟨gw2 76 (by decide +kernel) rfl, ly_7_8, by decide, by decide, by decide +kernel, by decide +kernel, tyOK_0⟩
theorem f_7_54 : FldAt 7 54 7 9 := ⟨gw2 77 (by decide +kernel) rfl, ly_7_9, by decide, by decide, by decide +kernel, by decide +kernel, tyOK_0⟩
theorem f_7_65 : FldAt 7 65 7 4 := ⟨gw2 69 (by decide +kernel) rfl, ly_7_4, by decide, by decide, by decide +kernel, by decide +kernel, tyOK_0⟩
theorem f_7_68 : FldAt 7 68 7 5 := ⟨gw2 71 (by decide +kernel) rfl, ly_7_5, by decide, by decide, by decide +kernel, by decide +kernel, tyOK_0⟩
theorem f_7_71 : FldAt 7 71 7 6 := ⟨gw2 73 (by decide +kernel) rfl, ly_7_6, by decide, by decide, by decide +kernel, by decide +kernel, tyOK_0⟩
theorem f_7_80 : FldAt 7 80 5 8 := ⟨gw1 195 (by decide +kernel) rfl, ly_5_8, by decide, by decide, by decide +kernel, by decide +kernel, tyOK_2a _⟩
theorem f_7_86 : FldAt 7 86 5 1 := ⟨gw1 170 (by decide +kernel) rfl, ly_5_1, by decide, by decide, by decide +kernel, by decide +kernel, tyOK_2a _⟩
theorem f_7_89 : FldAt 7 89 5 4 := ⟨gw1 180 (by decide +kernel) rfl, ly_5_4, by decide, by decide, by decide +kernel, by decide +kernel, tyOK_2a _⟩
theorem f_7_92 : FldAt 7 92 5 2 := ⟨gw1 173 (by decide +kernel) rfl, ly_5_2, by decide, by decide, by decide +kernel, by decide +kernel, tyOK_2a _⟩
theorem f_7_95 : FldAt 7 95 5 0 := ⟨gw1 166 (by decide +kernel) rfl, ly_5_0, by decide, by decide, by decide +kernel, by decide +kernel, tyOK_2a _⟩
theorem ly_8_2 : u_lay (kC 8) (kF 8) 2 ∈ gTbl := gw2 139 (by decide +kernel) rfl
theorem f_8_11 : FldAt 8 11 8 2 := ⟨gw2 117 (by decide +kernel) rfl, ly_8_2, by decide, by decide, by decide +kernel, by decide +kernel, tyOK_2a _⟩
theorem ly_8_3 : u_lay (kC 8) (kF 8) 3 ∈ gTbl := gw2 141 (by decide +kernel) rfl
theorem f_8_15 : FldAt 8 15 8 3 := ⟨gw2 118 (by decide +kernel) rfl, ly_8_3, by decide, by decide, by decide +kernel, by decide +kernel, tyOK_2a _⟩
theorem f_8_18 : FldAt 8 18 8 4 := ⟨gw2 119 (by decide +kernel) rfl, ly_8_4, by decide, by decide, by decide +kernel, by decide +kernel, tyOK_2a _⟩
theorem f_8_21 : FldAt 8 21 8 5 := ⟨gw2 122 (by decide +kernel) rfl, ly_8_5, by decide, by decide, by decide +kernel, by decide +kernel, tyOK_2a _⟩
theorem ly_8_0 : u_lay (kC 8) (kF 8) 0 ∈ gTbl := gw2 135 (by decide +kernel) rfl
theorem f_8_24 : FldAt 8 24 8 0 := ⟨gw2 115 (by decide +kernel) rfl, ly_8_0, by decide, by decide, by decide +kernel, by decide +kernel, tyOK_2o _⟩
theorem ly_8_1 : u_lay (kC 8) (kF 8) 1 ∈ gTbl := gw2 137 (by decide +kernel) rfl
theorem f_8_28 : FldAt 8 28 8 1 := ⟨gw2 116 (by decide +kernel) rfl, ly_8_1, by decide, by decide, by decide +kernel, by decide +kernel, tyOK_2o _⟩
theorem f_8_32 : FldAt 8 32 4 1 := ⟨gw1 97 (by decide +kernel) rfl, ly_4_1, by decide, by decide, by decide +kernel, by decide +kernel, tyOK_0⟩
theorem f_8_38 : FldAt 8 38 5 10 := ⟨gw1 200 (by decide +kernel) rfl, ly_5_10, by decide, by decide, by decide +kernel, by decide +kernel, tyOK_0⟩
theorem f_8_47 : FldAt 8 47 4 7 := ⟨gw1 120 (by decide +kernel) rfl, ly_4_7, by decide, by decide, by decide +kernel, by decide +kernel, tyOK_2a _⟩
theorem f_8_50 : FldAt 8 50 8 6 := ⟨gw2 126 (by decide +kernel) rfl, ly_8_6, by decide, by decide, by decide +kernel, by decide +kernel, tyOK_0⟩
theorem f_8_56 : FldAt 8 56 8 7 := ⟨gw2 130 (by decide +kernel) rfl, ly_8_7, by decide, by decide, by decide +kernel, by decide +kernel, tyOK_0⟩
theorem f_8_63 : FldAt 8 63 8 8 := ⟨gw2 133 (by decide +kernel) rfl, ly_8_8, by decide, by decide, by decide +kernel, by decide +kernel, tyOK_0⟩
theorem f_8_71 : FldAt 8 71 4 0 := ⟨gw1 95 (by decide +kernel) rfl, ly_4_0, by decide, by decide, by decide +kernel, by decide +kernel, tyOK_0⟩
theorem f_8_73 : FldAt 8 73 4 5 := ⟨gw1 114 (by decide +kernel) rfl, ly_4_5, by decide, by decide, by decide +kernel, by decide +kernel, tyOK_2a _⟩
theorem f_8_76 : FldAt 8 76 4 6 := ⟨gw1 117 (by decide +kernel) rfl, ly_4_6, by decide, by decide, by decide +kernel, by decide +kernel, tyOK_2a _⟩
theorem ly_9_4 : u_lay (kC 9) (kF 9) 4 ∈ gTbl := gw2 180 (by decide +kernel) rfl
theorem f_9_15 : FldAt 9 15 9 4 := ⟨gw2 164 (by decide +kernel) rfl, ly_9_4, by decide, by decide, by decide +kernel, by decide +kernel, tyOK_2a _⟩
theorem ly_9_5 : u_lay (kC 9) (kF 9) 5 ∈ gTbl := gw2 182 (by decide +kernel) rfl
theorem f_9_18 : FldAt 9 18 9 5 := ⟨gw2 165 (by decide +kernel) rfl, ly_9_5, by decide, by decide, by decide +kernel, by decide +kernel, tyOK_2a _⟩
theorem ly_9_6 : u_lay (kC 9) (kF 9) 6 ∈ gTbl := gw2 184 (by decide +kernel) rfl
theorem f_9_21 : FldAt 9 21 9 6 := ⟨gw2 166 (by decide +kernel) rfl, ly_9_6, by decide, by decide, by decide +kernel, by decide +kernel, tyOK_2a _⟩
theorem f_9_24 : FldAt 9 24 9 7 := ⟨gw2 167 (by decide +kernel) rfl, ly_9_7, by decide, by decide, by decide +kernel, by decide +kernel, tyOK_2a _⟩
theorem ly_9_0 : u_lay (kC 9) (kF 9) 0 ∈ gTbl := gw2 172 (by decide +kernel) rfl
theorem f_9_27 : FldAt 9 27 9 0 := ⟨gw2 160 (by decide +kernel) rfl, ly_9_0, by decide, by decide, by decide +kernel, by decide +kernel, tyOK_2o _⟩
theorem ly_9_1 : u_lay (kC 9) (kF 9) 1 ∈ gTbl := gw2 174 (by decide +kernel) rfl
theorem f_9_31 : FldAt 9 31 9 1 := ⟨gw2 161 (by decide +kernel) rfl, ly_9_1, by decide, by decide, by decide +kernel, by decide +kernel, tyOK_2o _⟩
theorem ly_9_2 : u_lay (kC 9) (kF 9) 2 ∈ gTbl := gw2 176 (by decide +kernel) rfl
theorem f_9_35 : FldAt 9 35 9 2 := ⟨gw2 162 (by decide +kernel) rfl, ly_9_2, by decide, by decide, by decide +kernel, by decide +kernel, tyOK_2o _⟩
theorem ly_9_10 : u_lay (kC 9) (kF 9) 10 ∈ gTbl := gw2 192 (by decide +kernel) rfl
theorem f_9_39 : FldAt 9 39 9 10 := ⟨gw2 171 (by decide +kernel) rfl, ly_9_10, by decide, by decide, by decide +kernel, by decide +kernel, tyOK_0⟩
theorem ly_9_9 : u_lay (kC 9) (kF 9) 9 ∈ gTbl := gw2 190 (by decide +kernel) rfl
theorem f_9_43 : FldAt 9 43 9 9 := ⟨gw2 170 (by decide +kernel) rfl, ly_9_9, by decide, by decide, by decide +kernel, by decide +kernel, tyOK_0⟩
theorem ly_9_8 : u_lay (kC 9) (kF 9) 8 ∈ gTbl := gw2 188 (by decide +kernel) rfl
theorem f_9_46 : FldAt 9 46 9 8 := ⟨gw2 169 (by decide +kernel) rfl, ly_9_8, by decide, by decide, by decide +kernel, by decide +kernel, tyOK_0⟩
theorem f_9_59 : FldAt 9 59 8 6 := ⟨gw2 127 (by decide +kernel) rfl, ly_8_6, by decide, by decide, by decide +kernel, by decide +kernel, tyOK_0⟩
theorem f_9_68 : FldAt 9 68 6 8 := ⟨gw2 15 (by decide +kernel) rfl, ly_6_8, by decide, by decide, by decide +kernel, by decide +kernel, tyOK_0⟩
theorem f_9_70 : FldAt 9 70 6 10 := ⟨gw2 20 (by decide +kernel) rfl, ly_6_10, by decide, by decide, by decide +kernel, by decide +kernel, tyOK_0⟩
theorem f_9_72 : FldAt 9 72 6 12 := ⟨gw2 27 (by decide +kernel) rfl, ly_6_12, by decide, by decide, by decide +kernel, by decide +kernel, tyOK_0⟩
theorem f_9_77 : FldAt 9 77 4 4 := ⟨gw1 110 (by decide +kernel) rfl, ly_4_4, by decide, by decide, by decide +kernel, by decide +kernel, tyOK_2a _⟩
theorem f_9_82 : FldAt 9 82 8 4 := ⟨gw2 120 (by decide +kernel) rfl, ly_8_4, by decide, by decide, by decide +kernel, by decide +kernel, tyOK_2a _⟩
theorem f_9_88 : FldAt 9 88 8 5 := ⟨gw2 124 (by decide +kernel) rfl, ly_8_5, by decide, by decide, by decide +kernel, by decide +kernel, tyOK_2a _⟩
theorem ly_9_3 : u_lay (kC 9) (kF 9) 3 ∈ gTbl := gw2 178 (by decide +kernel) rfl
theorem f_9_9 : FldAt 9 9 9 3 := ⟨gw2 163 (by decide +kernel) rfl, ly_9_3, by decide, by decide, by decide +kernel, by decide +kernel, tyOK_2a _⟩
theorem j_13_182 : KojAt 13 182 48 := ⟨gw8 27 (by decide +kernel) rfl, by unfold inL; omega⟩
theorem j_13_184 : KojAt 13 184 57 := ⟨gw8 28 (by decide +kernel) rfl, by unfold inL; omega⟩
theorem j_13_320 : KojAt 13 320 3 := ⟨gw8 73 (by decide +kernel) rfl, by unfold inL; omega⟩
theorem j_13_334 : KojAt 13 334 4 := ⟨gw8 101 (by decide +kernel) rfl, by unfold inL; omega⟩
theorem j_13_342 : KojAt 13 342 8 := ⟨gw8 118 (by decide +kernel) rfl, by unfold inL; omega⟩
theorem j_13_347 : KojAt 13 347 999 := ⟨gw8 143 (by decide +kernel) rfl, by unfold inL; omega⟩
theorem j_13_356 : KojAt 13 356 99 := ⟨gw8 208 (by decide +kernel) rfl, by unfold inL; omega⟩
theorem j_13_394 : KojAt 13 394 9 := ⟨gw8 229 (by decide +kernel) rfl, by unfold inL; omega⟩
theorem j_13_426 : KojAt 13 426 (-1) := ⟨gw9 35 (by decide +kernel) rfl, by unfold inL; omega⟩
theorem j_13_480 : KojAt 13 480 60 := ⟨gw9 89 (by decide +kernel) rfl, by unfold inL; omega⟩
theorem j_13_505 : KojAt 13 505 300 := ⟨gw9 142 (by decide +kernel) rfl, by unfold inL; omega⟩
theorem j_13_526 : KojAt 13 526 50 := ⟨gw9 167 (by decide +kernel) rfl, by unfold inL; omega⟩
theorem j_13_529 : KojAt 13 529 2 := ⟨gw9 173 (by decide +kernel) rfl, by unfold inL; omega⟩
theorem k_13_449 : KonAt 13 449 1000000 := ⟨gw9 68 (by decide +kernel) rfl, by unfold inI; omega⟩
theorem k_13_528 : KonAt 13 528 1103515245 := ⟨gw9 168 (by decide +kernel) rfl, by unfold inI; omega⟩
theorem k_1_377 : KonAt 1 377 1103515245 := ⟨gw6 31 (by decide +kernel) rfl, by unfold inI; omega⟩
theorem k_8_62 : KonAt 8 62 262144 := ⟨gw5 129 (by decide +kernel) rfl, by unfold inI; omega⟩
theorem k_8_70 : KonAt 8 70 1073741824 := ⟨gw5 107 (by decide +kernel) rfl, by unfold inI; omega⟩
theorem s_11_132 : StatAt 11 132 56 := ⟨mo_56, gw5 224 (by decide +kernel) rfl, gw4 72 (by decide +kernel) rfl, by decide +kernel⟩
theorem s_11_137 : StatAt 11 137 19 := ⟨mo_19, gw5 225 (by decide +kernel) rfl, gw3 151 (by decide +kernel) rfl, by decide +kernel⟩
theorem s_11_50 : StatAt 11 50 95 := ⟨mo_95, gw5 205 (by decide +kernel) rfl, gw4 237 (by decide +kernel) rfl, by decide +kernel⟩
theorem s_13_136 : StatAt 13 136 169 := ⟨mo_169, gw7 161 (by decide +kernel) rfl, gw7 162 (by decide +kernel) rfl, by decide +kernel⟩
theorem s_13_149 : StatAt 13 149 186 := ⟨mo_186, gw8 41 (by decide +kernel) rfl, gw8 42 (by decide +kernel) rfl, by decide +kernel⟩
theorem s_13_156 : StatAt 13 156 197 := ⟨mo_197, gw8 90 (by decide +kernel) rfl, gw8 91 (by decide +kernel) rfl, by decide +kernel⟩
theorem s_13_169 : StatAt 13 169 19 := ⟨mo_19, gw7 172 (by decide +kernel) rfl, gw3 151 (by decide +kernel) rfl, by decide +kernel⟩
theorem s_13_178 : StatAt 13 178 176 := ⟨mo_176, gw7 239 (by decide +kernel) rfl, gw8 0 (by decide +kernel) rfl, by decide +kernel⟩
theorem s_13_290 : StatAt 13 290 207 := ⟨mo_207, gw8 131 (by decide +kernel) rfl, gw8 132 (by decide +kernel) rfl, by decide +kernel⟩
theorem s_13_294 : StatAt 13 294 56 := ⟨mo_56, gw8 134 (by decide +kernel) rfl, gw4 72 (by decide +kernel) rfl, by decide +kernel⟩
theorem s_13_358 : StatAt 13 358 95 := ⟨mo_95, gw8 238 (by decide +kernel) rfl, gw4 237 (by decide +kernel) rfl, by decide +kernel⟩
theorem s_13_410 : StatAt 13 410 239 := ⟨mo_239, gw9 24 (by decide +kernel) rfl, gw9 25 (by decide +kernel) rfl, by decide +kernel⟩
theorem s_13_468 : StatAt 13 468 257 := ⟨mo_257, gw9 98 (by decide +kernel) rfl, gw9 99 (by decide +kernel) rfl, by decide +kernel⟩
theorem s_1_229 : StatAt 1 229 55 := ⟨mo_55, gw4 67 (by decide +kernel) rfl, gw4 68 (by decide +kernel) rfl, by decide +kernel⟩
theorem s_1_232 : StatAt 1 232 19 := ⟨mo_19, gw4 70 (by decide +kernel) rfl, gw3 151 (by decide +kernel) rfl, by decide +kernel⟩
theorem s_1_237 : StatAt 1 237 56 := ⟨mo_56, gw4 71 (by decide +kernel) rfl, gw4 72 (by decide +kernel) rfl, by decide +kernel⟩
theorem s_1_330 : StatAt 1 330 95 := ⟨mo_95, gw5 130 (by decide +kernel) rfl, gw4 237 (by decide +kernel) rfl, by decide +kernel⟩
theorem s_2_19 : StatAt 2 19 19 := ⟨mo_19, gw3 150 (by decide +kernel) rfl, gw3 151 (by decide +kernel) rfl, by decide +kernel⟩
theorem s_3_103 : StatAt 3 103 79 := ⟨mo_79, gw4 167 (by decide +kernel) rfl, gw4 168 (by decide +kernel) rfl, by decide +kernel⟩
theorem s_3_107 : StatAt 3 107 80 := ⟨mo_80, gw4 170 (by decide +kernel) rfl, gw4 171 (by decide +kernel) rfl, by decide +kernel⟩
theorem s_3_113 : StatAt 3 113 19 := ⟨mo_19, gw4 173 (by decide +kernel) rfl, gw3 151 (by decide +kernel) rfl, by decide +kernel⟩
theorem s_3_119 : StatAt 3 119 56 := ⟨mo_56, gw4 174 (by decide +kernel) rfl, gw4 72 (by decide +kernel) rfl, by decide +kernel⟩
theorem s_3_88 : StatAt 3 88 50 := ⟨mo_50, gw4 43 (by decide +kernel) rfl, gw4 44 (by decide +kernel) rfl, by decide +kernel⟩
theorem s_6_77 : StatAt 6 77 56 := ⟨mo_56, gw4 162 (by decide +kernel) rfl, gw4 72 (by decide +kernel) rfl, by decide +kernel⟩
theorem s_6_97 : StatAt 6 97 19 := ⟨mo_19, gw5 67 (by decide +kernel) rfl, gw3 151 (by decide +kernel) rfl, by decide +kernel⟩
theorem s_7_139 : StatAt 7 139 56 := ⟨mo_56, gw4 184 (by decide +kernel) rfl, gw4 72 (by decide +kernel) rfl, by decide +kernel⟩
theorem s_7_161 : StatAt 7 161 19 := ⟨mo_19, gw4 179 (by decide +kernel) rfl, gw3 151 (by decide +kernel) rfl, by decide +kernel⟩
theorem s_7_184 : StatAt 7 184 95 := ⟨mo_95, gw4 236 (by decide +kernel) rfl, gw4 237 (by decide +kernel) rfl, by decide +kernel⟩
theorem s_7_212 : StatAt 7 212 99 := ⟨mo_99, gw5 17 (by decide +kernel) rfl, gw5 18 (by decide +kernel) rfl, by decide +kernel⟩
theorem s_7_48 : StatAt 7 48 60 := ⟨mo_60, gw4 86 (by decide +kernel) rfl, gw4 87 (by decide +kernel) rfl, by decide +kernel⟩
theorem v_10_43 : VirtAt 10 43 134 10 := ⟨mo_134, gw5 182 (by decide +kernel) rfl, gw5 184 (by decide +kernel) rfl, gwp 31 (q := (⟨"HotThrough$Line", "measure", "(II)V"⟩, 7)) (by decide +kernel), rfl, by decide, by decide, by decide +kernel, rfl⟩
theorem v_10_47 : VirtAt 10 47 135 10 := ⟨mo_135, gw5 189 (by decide +kernel) rfl, gw5 191 (by decide +kernel) rfl, gwp 32 (q := (⟨"HotThrough$Line", "covers", "(IIIII)Z"⟩, 7)) (by decide +kernel), rfl, by decide, by decide, by decide +kernel, rfl⟩
theorem v_10_56 : VirtAt 10 56 76 6 := ⟨mo_76, gw5 186 (by decide +kernel) rfl, gw4 153 (by decide +kernel) rfl, gw4 154 (by decide +kernel) rfl, rfl, by decide, by decide, by decide +kernel, rfl⟩
theorem v_10_68 : VirtAt 10 68 77 6 := ⟨mo_77, gw5 187 (by decide +kernel) rfl, gw4 158 (by decide +kernel) rfl, gw4 159 (by decide +kernel) rfl, rfl, by decide, by decide, by decide +kernel, rfl⟩
theorem v_10_74 : VirtAt 10 74 112 6 := ⟨mo_112, gw5 188 (by decide +kernel) rfl, gw5 85 (by decide +kernel) rfl, gw5 86 (by decide +kernel) rfl, rfl, by decide, by decide, by decide +kernel, rfl⟩
theorem v_11_107 : VirtAt 11 107 129 6 := ⟨mo_129, gw5 227 (by decide +kernel) rfl, gw5 163 (by decide +kernel) rfl, gw5 164 (by decide +kernel) rfl, rfl, by decide, by decide, by decide +kernel, rfl⟩
theorem v_11_110 : VirtAt 11 110 77 6 := ⟨mo_77, gw5 228 (by decide +kernel) rfl, gw4 158 (by decide +kernel) rfl, gw4 159 (by decide +kernel) rfl, rfl, by decide, by decide, by decide +kernel, rfl⟩
theorem v_11_113 : VirtAt 11 113 112 6 := ⟨mo_112, gw5 229 (by decide +kernel) rfl, gw5 85 (by decide +kernel) rfl, gw5 86 (by decide +kernel) rfl, rfl, by decide, by decide, by decide +kernel, rfl⟩
theorem v_11_116 : VirtAt 11 116 142 11 := ⟨mo_142, gw5 220 (by decide +kernel) rfl, gw5 221 (by decide +kernel) rfl, gw5 222 (by decide +kernel) rfl, rfl, by decide, by decide, by decide +kernel, rfl⟩
theorem v_11_62 : VirtAt 11 62 139 11 := ⟨mo_139, gw5 206 (by decide +kernel) rfl, gw5 208 (by decide +kernel) rfl, gwp 34 (q := (⟨"HotThrough$Dishes", "measure", "(II)Z"⟩, 13)) (by decide +kernel), rfl, by decide, by decide, by decide +kernel, rfl⟩
theorem v_11_66 : VirtAt 11 66 76 6 := ⟨mo_76, gw5 211 (by decide +kernel) rfl, gw4 153 (by decide +kernel) rfl, gw4 154 (by decide +kernel) rfl, rfl, by decide, by decide, by decide +kernel, rfl⟩
theorem v_11_72 : VirtAt 11 72 140 11 := ⟨mo_140, gw5 212 (by decide +kernel) rfl, gw5 214 (by decide +kernel) rfl, gwp 35 (q := (⟨"HotThrough$Dishes", "bring", "(III)V"⟩, 13)) (by decide +kernel), rfl, by decide, by decide, by decide +kernel, rfl⟩
theorem v_11_89 : VirtAt 11 89 115 8 := ⟨mo_115, gw5 210 (by decide +kernel) rfl, gw5 98 (by decide +kernel) rfl, gw5 99 (by decide +kernel) rfl, rfl, by decide, by decide, by decide +kernel, rfl⟩
theorem v_11_97 : VirtAt 11 97 141 11 := ⟨mo_141, gw5 216 (by decide +kernel) rfl, gw5 218 (by decide +kernel) rfl, gwp 36 (q := (⟨"HotThrough$Dishes", "arrived", "(I)V"⟩, 13)) (by decide +kernel), rfl, by decide, by decide, by decide +kernel, rfl⟩
theorem v_12_48 : VirtAt 12 48 148 12 := ⟨mo_148, gw6 11 (by decide +kernel) rfl, gw6 13 (by decide +kernel) rfl, gwp 37 (q := (⟨"HotThrough$Marks", "visit", "(III)V"⟩, 11)) (by decide +kernel), rfl, by decide, by decide, by decide +kernel, rfl⟩
theorem v_12_52 : VirtAt 12 52 33 4 := ⟨mo_33, gw6 15 (by decide +kernel) rfl, gw3 209 (by decide +kernel) rfl, gw3 210 (by decide +kernel) rfl, rfl, by decide, by decide, by decide +kernel, rfl⟩
theorem v_12_58 : VirtAt 12 58 149 12 := ⟨mo_149, gw6 16 (by decide +kernel) rfl, gw6 18 (by decide +kernel) rfl, gwp 38 (q := (⟨"HotThrough$Marks", "arrived", "(I)V"⟩, 11)) (by decide +kernel), rfl, by decide, by decide, by decide +kernel, rfl⟩
theorem v_12_64 : VirtAt 12 64 150 12 := ⟨mo_150, gw6 21 (by decide +kernel) rfl, gw6 23 (by decide +kernel) rfl, gwp 39 (q := (⟨"HotThrough$Marks", "visitBy", "(III)V"⟩, 11)) (by decide +kernel), rfl, by decide, by decide, by decide +kernel, rfl⟩
theorem v_12_70 : VirtAt 12 70 69 4 := ⟨mo_69, gw6 25 (by decide +kernel) rfl, gw4 125 (by decide +kernel) rfl, gw4 126 (by decide +kernel) rfl, rfl, by decide, by decide, by decide +kernel, rfl⟩
theorem v_12_79 : VirtAt 12 79 71 4 := ⟨mo_71, gw6 26 (by decide +kernel) rfl, gw4 133 (by decide +kernel) rfl, gw4 134 (by decide +kernel) rfl, rfl, by decide, by decide, by decide +kernel, rfl⟩
theorem v_13_153 : VirtAt 13 153 201 13 := ⟨mo_201, gw8 106 (by decide +kernel) rfl, gw8 108 (by decide +kernel) rfl, gwp 65 (q := (⟨"HotThroughModel", "holds", "(I)I"⟩, 72)) (by decide +kernel), rfl, by decide, by decide, by decide +kernel, rfl⟩
theorem v_13_196 : VirtAt 13 196 173 13 := ⟨mo_173, gw7 178 (by decide +kernel) rfl, gw7 180 (by decide +kernel) rfl, gwp 44 (q := (⟨"HotThroughModel", "among", "(Ljava/lang/String;)I"⟩, 72)) (by decide +kernel), rfl, by decide, by decide, by decide +kernel, rfl⟩
theorem v_13_200 : VirtAt 13 200 182 13 := ⟨mo_182, gw8 23 (by decide +kernel) rfl, gw8 25 (by decide +kernel) rfl, gwp 52 (q := (⟨"HotThroughModel", "isDigit", "()Z"⟩, 72)) (by decide +kernel), rfl, by decide, by decide, by decide +kernel, rfl⟩
theorem v_13_209 : VirtAt 13 209 175 13 := ⟨mo_175, gw7 235 (by decide +kernel) rfl, gw7 237 (by decide +kernel) rfl, gwp 46 (q := (⟨"HotThroughModel", "takesOf", "(Ljava/lang/String;)I"⟩, 72)) (by decide +kernel), rfl, by decide, by decide, by decide +kernel, rfl⟩
theorem v_13_215 : VirtAt 13 215 178 13 := ⟨mo_178, gw8 6 (by decide +kernel) rfl, gw8 8 (by decide +kernel) rfl, gwp 48 (q := (⟨"HotThroughModel", "letter", "()I"⟩, 72)) (by decide +kernel), rfl, by decide, by decide, by decide +kernel, rfl⟩
theorem v_13_220 : VirtAt 13 220 179 13 := ⟨mo_179, gw8 11 (by decide +kernel) rfl, gw8 13 (by decide +kernel) rfl, gwp 49 (q := (⟨"HotThroughModel", "takes", "(I)Z"⟩, 72)) (by decide +kernel), rfl, by decide, by decide, by decide +kernel, rfl⟩
theorem v_13_227 : VirtAt 13 227 181 13 := ⟨mo_181, gw8 19 (by decide +kernel) rfl, gw8 21 (by decide +kernel) rfl, gwp 51 (q := (⟨"HotThroughModel", "number", "(I)I"⟩, 72)) (by decide +kernel), rfl, by decide, by decide, by decide +kernel, rfl⟩
theorem v_13_230 : VirtAt 13 230 183 13 := ⟨mo_183, gw8 29 (by decide +kernel) rfl, gw8 31 (by decide +kernel) rfl, gwp 53 (q := (⟨"HotThroughModel", "kindOf", "(I)I"⟩, 72)) (by decide +kernel), rfl, by decide, by decide, by decide +kernel, rfl⟩
theorem v_13_238 : VirtAt 13 238 174 13 := ⟨mo_174, gw7 230 (by decide +kernel) rfl, gw7 232 (by decide +kernel) rfl, gwp 45 (q := (⟨"HotThroughModel", "readsPlace", "()Z"⟩, 72)) (by decide +kernel), rfl, by decide, by decide, by decide +kernel, rfl⟩
theorem v_13_241 : VirtAt 13 241 177 13 := ⟨mo_177, gw8 2 (by decide +kernel) rfl, gw8 4 (by decide +kernel) rfl, gwp 47 (q := (⟨"HotThroughModel", "readsWay", "()Z"⟩, 72)) (by decide +kernel), rfl, by decide, by decide, by decide +kernel, rfl⟩
theorem v_13_244 : VirtAt 13 244 180 13 := ⟨mo_180, gw8 15 (by decide +kernel) rfl, gw8 17 (by decide +kernel) rfl, gwp 50 (q := (⟨"HotThroughModel", "readsPot", "()Z"⟩, 72)) (by decide +kernel), rfl, by decide, by decide, by decide +kernel, rfl⟩
theorem v_13_247 : VirtAt 13 247 184 13 := ⟨mo_184, gw8 33 (by decide +kernel) rfl, gw8 35 (by decide +kernel) rfl, gwp 54 (q := (⟨"HotThroughModel", "readsOne", "()Z"⟩, 72)) (by decide +kernel), rfl, by decide, by decide, by decide +kernel, rfl⟩
theorem v_13_250 : VirtAt 13 250 171 13 := ⟨mo_171, gw7 168 (by decide +kernel) rfl, gw7 170 (by decide +kernel) rfl, gwp 42 (q := (⟨"HotThroughModel", "begins", "(I)I"⟩, 72)) (by decide +kernel), rfl, by decide, by decide, by decide +kernel, rfl⟩
theorem v_13_253 : VirtAt 13 253 172 13 := ⟨mo_172, gw7 173 (by decide +kernel) rfl, gw7 175 (by decide +kernel) rfl, gwp 43 (q := (⟨"HotThroughModel", "readsLine", "()Z"⟩, 72)) (by decide +kernel), rfl, by decide, by decide, by decide +kernel, rfl⟩
theorem v_13_256 : VirtAt 13 256 185 13 := ⟨mo_185, gw8 37 (by decide +kernel) rfl, gw8 39 (by decide +kernel) rfl, gwp 55 (q := (⟨"HotThroughModel", "faultOf", "(IIZ)I"⟩, 72)) (by decide +kernel), rfl, by decide, by decide, by decide +kernel, rfl⟩
theorem v_13_269 : VirtAt 13 269 189 13 := ⟨mo_189, gw8 53 (by decide +kernel) rfl, gw8 55 (by decide +kernel) rfl, gwp 57 (q := (⟨"HotThroughModel", "readsThing", "()Z"⟩, 72)) (by decide +kernel), rfl, by decide, by decide, by decide +kernel, rfl⟩
theorem v_13_272 : VirtAt 13 272 190 13 := ⟨mo_190, gw8 57 (by decide +kernel) rfl, gw8 59 (by decide +kernel) rfl, gwp 58 (q := (⟨"HotThroughModel", "codes", "(I)V"⟩, 72)) (by decide +kernel), rfl, by decide, by decide, by decide +kernel, rfl⟩
theorem v_13_278 : VirtAt 13 278 188 13 := ⟨mo_188, gw8 49 (by decide +kernel) rfl, gw8 51 (by decide +kernel) rfl, gwp 56 (q := (⟨"HotThroughModel", "readsRank", "(I)Z"⟩, 72)) (by decide +kernel), rfl, by decide, by decide, by decide +kernel, rfl⟩
theorem v_13_297 : VirtAt 13 297 206 13 := ⟨mo_206, gw8 127 (by decide +kernel) rfl, gw8 129 (by decide +kernel) rfl, gwp 69 (q := (⟨"HotThroughModel", "through", "()I"⟩, 72)) (by decide +kernel), rfl, by decide, by decide, by decide +kernel, rfl⟩
theorem v_13_300 : VirtAt 13 300 205 13 := ⟨mo_205, gw8 123 (by decide +kernel) rfl, gw8 125 (by decide +kernel) rfl, gwp 68 (q := (⟨"HotThroughModel", "throughBy", "(IIIIIII)I"⟩, 72)) (by decide +kernel), rfl, by decide, by decide, by decide +kernel, rfl⟩
theorem v_13_313 : VirtAt 13 313 204 13 := ⟨mo_204, gw8 119 (by decide +kernel) rfl, gw8 121 (by decide +kernel) rfl, gwp 67 (q := (⟨"HotThroughModel", "throughOf", "([II)I"⟩, 72)) (by decide +kernel), rfl, by decide, by decide, by decide +kernel, rfl⟩
theorem v_13_317 : VirtAt 13 317 192 13 := ⟨mo_192, gw8 69 (by decide +kernel) rfl, gw8 71 (by decide +kernel) rfl, gwp 59 (q := (⟨"HotThroughModel", "isPlace", "(I)Z"⟩, 72)) (by decide +kernel), rfl, by decide, by decide, by decide +kernel, rfl⟩
theorem v_13_322 : VirtAt 13 322 193 13 := ⟨mo_193, gw8 74 (by decide +kernel) rfl, gw8 76 (by decide +kernel) rfl, gwp 60 (q := (⟨"HotThroughModel", "refuse", "()I"⟩, 72)) (by decide +kernel), rfl, by decide, by decide, by decide +kernel, rfl⟩
theorem v_13_325 : VirtAt 13 325 195 13 := ⟨mo_195, gw8 82 (by decide +kernel) rfl, gw8 84 (by decide +kernel) rfl, gwp 61 (q := (⟨"HotThroughModel", "isWay", "(I)Z"⟩, 72)) (by decide +kernel), rfl, by decide, by decide, by decide +kernel, rfl⟩
theorem v_13_328 : VirtAt 13 328 196 13 := ⟨mo_196, gw8 86 (by decide +kernel) rfl, gw8 88 (by decide +kernel) rfl, gwp 62 (q := (⟨"HotThroughModel", "isOpen", "(I)Z"⟩, 72)) (by decide +kernel), rfl, by decide, by decide, by decide +kernel, rfl⟩
theorem v_13_331 : VirtAt 13 331 199 13 := ⟨mo_199, gw8 97 (by decide +kernel) rfl, gw8 99 (by decide +kernel) rfl, gwp 63 (q := (⟨"HotThroughModel", "isPot", "(I)Z"⟩, 72)) (by decide +kernel), rfl, by decide, by decide, by decide +kernel, rfl⟩
theorem v_13_336 : VirtAt 13 336 200 13 := ⟨mo_200, gw8 102 (by decide +kernel) rfl, gw8 104 (by decide +kernel) rfl, gwp 64 (q := (⟨"HotThroughModel", "holder", "(I)I"⟩, 72)) (by decide +kernel), rfl, by decide, by decide, by decide +kernel, rfl⟩
theorem v_13_339 : VirtAt 13 339 203 13 := ⟨mo_203, gw8 114 (by decide +kernel) rfl, gw8 116 (by decide +kernel) rfl, gwp 66 (q := (⟨"HotThroughModel", "isPerson", "(I)Z"⟩, 72)) (by decide +kernel), rfl, by decide, by decide, by decide +kernel, rfl⟩
theorem v_13_344 : VirtAt 13 344 209 13 := ⟨mo_209, gw8 139 (by decide +kernel) rfl, gw8 141 (by decide +kernel) rfl, gwp 70 (q := (⟨"HotThroughModel", "isThere", "(I)Z"⟩, 72)) (by decide +kernel), rfl, by decide, by decide, by decide +kernel, rfl⟩
theorem v_13_349 : VirtAt 13 349 216 13 := ⟨mo_216, gw8 168 (by decide +kernel) rfl, gw8 170 (by decide +kernel) rfl, gwp 74 (q := (⟨"HotThroughModel", "adds", "(I)I"⟩, 72)) (by decide +kernel), rfl, by decide, by decide, by decide +kernel, rfl⟩
theorem v_13_352 : VirtAt 13 352 222 13 := ⟨mo_222, gw8 192 (by decide +kernel) rfl, gw8 194 (by decide +kernel) rfl, gwp 78 (q := (⟨"HotThroughModel", "secondGoes", "([I)V"⟩, 72)) (by decide +kernel), rfl, by decide, by decide, by decide +kernel, rfl⟩
theorem v_13_363 : VirtAt 13 363 213 13 := ⟨mo_213, gw8 156 (by decide +kernel) rfl, gw8 158 (by decide +kernel) rfl, gwp 71 (q := (⟨"HotThroughModel", "putsBy", "()V"⟩, 72)) (by decide +kernel), rfl, by decide, by decide, by decide +kernel, rfl⟩
theorem v_13_366 : VirtAt 13 366 214 13 := ⟨mo_214, gw8 160 (by decide +kernel) rfl, gw8 162 (by decide +kernel) rfl, gwp 72 (q := (⟨"HotThroughModel", "takesPot", "(II)I"⟩, 72)) (by decide +kernel), rfl, by decide, by decide, by decide +kernel, rfl⟩
theorem v_13_369 : VirtAt 13 369 215 13 := ⟨mo_215, gw8 164 (by decide +kernel) rfl, gw8 166 (by decide +kernel) rfl, gwp 73 (q := (⟨"HotThroughModel", "counts", "(I)I"⟩, 72)) (by decide +kernel), rfl, by decide, by decide, by decide +kernel, rfl⟩
theorem v_13_372 : VirtAt 13 372 218 13 := ⟨mo_218, gw8 176 (by decide +kernel) rfl, gw8 178 (by decide +kernel) rfl, gwp 75 (q := (⟨"HotThroughModel", "setsDown", "(I)I"⟩, 72)) (by decide +kernel), rfl, by decide, by decide, by decide +kernel, rfl⟩
theorem v_13_375 : VirtAt 13 375 220 13 := ⟨mo_220, gw8 184 (by decide +kernel) rfl, gw8 186 (by decide +kernel) rfl, gwp 76 (q := (⟨"HotThroughModel", "startsCounting", "()V"⟩, 72)) (by decide +kernel), rfl, by decide, by decide, by decide +kernel, rfl⟩
theorem v_13_378 : VirtAt 13 378 221 13 := ⟨mo_221, gw8 188 (by decide +kernel) rfl, gw8 190 (by decide +kernel) rfl, gwp 77 (q := (⟨"HotThroughModel", "walks", "(II)I"⟩, 72)) (by decide +kernel), rfl, by decide, by decide, by decide +kernel, rfl⟩
theorem v_13_381 : VirtAt 13 381 223 13 := ⟨mo_223, gw8 196 (by decide +kernel) rfl, gw8 198 (by decide +kernel) rfl, gwp 79 (q := (⟨"HotThroughModel", "enters", "(J)V"⟩, 72)) (by decide +kernel), rfl, by decide, by decide, by decide +kernel, rfl⟩
theorem v_13_385 : VirtAt 13 385 225 13 := ⟨mo_225, gw8 204 (by decide +kernel) rfl, gw8 206 (by decide +kernel) rfl, gwp 80 (q := (⟨"HotThroughModel", "passes", "(I)I"⟩, 72)) (by decide +kernel), rfl, by decide, by decide, by decide +kernel, rfl⟩
theorem v_13_388 : VirtAt 13 388 227 13 := ⟨mo_227, gw8 213 (by decide +kernel) rfl, gw8 215 (by decide +kernel) rfl, gwp 81 (q := (⟨"HotThroughModel", "changesHand", "(I)I"⟩, 72)) (by decide +kernel), rfl, by decide, by decide, by decide +kernel, rfl⟩
theorem v_13_391 : VirtAt 13 391 229 13 := ⟨mo_229, gw8 221 (by decide +kernel) rfl, gw8 223 (by decide +kernel) rfl, gwp 82 (q := (⟨"HotThroughModel", "gives", "(II)I"⟩, 72)) (by decide +kernel), rfl, by decide, by decide, by decide +kernel, rfl⟩
theorem v_13_396 : VirtAt 13 396 232 13 := ⟨mo_232, gw8 234 (by decide +kernel) rfl, gw8 236 (by decide +kernel) rfl, gwp 83 (q := (⟨"HotThroughModel", "opens", "(II)I"⟩, 72)) (by decide +kernel), rfl, by decide, by decide, by decide +kernel, rfl⟩
theorem v_13_404 : VirtAt 13 404 234 13 := ⟨mo_234, gw9 3 (by decide +kernel) rfl, gw9 5 (by decide +kernel) rfl, gwp 84 (q := (⟨"HotThroughModel", "readsAct", "()Z"⟩, 72)) (by decide +kernel), rfl, by decide, by decide, by decide +kernel, rfl⟩
theorem v_13_407 : VirtAt 13 407 235 13 := ⟨mo_235, gw9 8 (by decide +kernel) rfl, gw9 10 (by decide +kernel) rfl, gwp 85 (q := (⟨"HotThroughModel", "does", "(I)Z"⟩, 72)) (by decide +kernel), rfl, by decide, by decide, by decide +kernel, rfl⟩
theorem v_13_420 : VirtAt 13 420 237 13 := ⟨mo_237, gw9 16 (by decide +kernel) rfl, gw9 18 (by decide +kernel) rfl, gwp 86 (q := (⟨"HotThroughModel", "canHold", "(I)Z"⟩, 72)) (by decide +kernel), rfl, by decide, by decide, by decide +kernel, rfl⟩
theorem v_13_423 : VirtAt 13 423 238 13 := ⟨mo_238, gw9 20 (by decide +kernel) rfl, gw9 22 (by decide +kernel) rfl, gwp 87 (q := (⟨"HotThroughModel", "holdsOut", "(II)I"⟩, 72)) (by decide +kernel), rfl, by decide, by decide, by decide +kernel, rfl⟩
theorem v_13_437 : VirtAt 13 437 243 13 := ⟨mo_243, gw9 40 (by decide +kernel) rfl, gw9 42 (by decide +kernel) rfl, gwp 88 (q := (⟨"HotThroughModel", "canThink", "(III)Z"⟩, 72)) (by decide +kernel), rfl, by decide, by decide, by decide +kernel, rfl⟩
theorem v_13_441 : VirtAt 13 441 244 13 := ⟨mo_244, gw9 44 (by decide +kernel) rfl, gw9 46 (by decide +kernel) rfl, gwp 89 (q := (⟨"HotThroughModel", "soloBegins", "(II)V"⟩, 72)) (by decide +kernel), rfl, by decide, by decide, by decide +kernel, rfl⟩
theorem v_13_445 : VirtAt 13 445 245 13 := ⟨mo_245, gw9 48 (by decide +kernel) rfl, gw9 50 (by decide +kernel) rfl, gwp 90 (q := (⟨"HotThroughModel", "soloHolds", "(IIII)I"⟩, 72)) (by decide +kernel), rfl, by decide, by decide, by decide +kernel, rfl⟩
theorem v_13_450 : VirtAt 13 450 249 13 := ⟨mo_249, gw9 64 (by decide +kernel) rfl, gw9 66 (by decide +kernel) rfl, gwp 92 (q := (⟨"HotThroughModel", "laysApart", "(I)V"⟩, 72)) (by decide +kernel), rfl, by decide, by decide, by decide +kernel, rfl⟩
theorem v_13_456 : VirtAt 13 456 248 13 := ⟨mo_248, gw9 60 (by decide +kernel) rfl, gw9 62 (by decide +kernel) rfl, gwp 91 (q := (⟨"HotThroughModel", "laysWay", "(II)Z"⟩, 72)) (by decide +kernel), rfl, by decide, by decide, by decide +kernel, rfl⟩
theorem v_13_459 : VirtAt 13 459 250 13 := ⟨mo_250, gw9 69 (by decide +kernel) rfl, gw9 71 (by decide +kernel) rfl, gwp 93 (q := (⟨"HotThroughModel", "stepsOfWay", "()I"⟩, 72)) (by decide +kernel), rfl, by decide, by decide, by decide +kernel, rfl⟩
theorem v_13_462 : VirtAt 13 462 253 13 := ⟨mo_253, gw9 81 (by decide +kernel) rfl, gw9 83 (by decide +kernel) rfl, gwp 94 (q := (⟨"HotThroughModel", "legOf", "(I)I"⟩, 72)) (by decide +kernel), rfl, by decide, by decide, by decide +kernel, rfl⟩
theorem v_13_465 : VirtAt 13 465 260 13 := ⟨mo_260, gw9 110 (by decide +kernel) rfl, gw9 112 (by decide +kernel) rfl, gwp 99 (q := (⟨"HotThroughModel", "soloRests", "(II)V"⟩, 72)) (by decide +kernel), rfl, by decide, by decide, by decide +kernel, rfl⟩
theorem v_13_471 : VirtAt 13 471 256 13 := ⟨mo_256, gw9 94 (by decide +kernel) rfl, gw9 96 (by decide +kernel) rfl, gwp 96 (q := (⟨"HotThroughModel", "isAhead", "(II)Z"⟩, 72)) (by decide +kernel), rfl, by decide, by decide, by decide +kernel, rfl⟩
theorem v_13_474 : VirtAt 13 474 258 13 := ⟨mo_258, gw9 102 (by decide +kernel) rfl, gw9 104 (by decide +kernel) rfl, gwp 97 (q := (⟨"HotThroughModel", "canRest", "(I)Z"⟩, 72)) (by decide +kernel), rfl, by decide, by decide, by decide +kernel, rfl⟩
theorem v_13_477 : VirtAt 13 477 259 13 := ⟨mo_259, gw9 106 (by decide +kernel) rfl, gw9 108 (by decide +kernel) rfl, gwp 98 (q := (⟨"HotThroughModel", "carries", "(III)Z"⟩, 72)) (by decide +kernel), rfl, by decide, by decide, by decide +kernel, rfl⟩
theorem v_13_482 : VirtAt 13 482 255 13 := ⟨mo_255, gw9 90 (by decide +kernel) rfl, gw9 92 (by decide +kernel) rfl, gwp 95 (q := (⟨"HotThroughModel", "fewestRests", "(II)I"⟩, 72)) (by decide +kernel), rfl, by decide, by decide, by decide +kernel, rfl⟩
theorem v_13_488 : VirtAt 13 488 263 13 := ⟨mo_263, gw9 122 (by decide +kernel) rfl, gw9 124 (by decide +kernel) rfl, gwp 100 (q := (⟨"HotThroughModel", "carriesOn", "(IIIIIII)V"⟩, 72)) (by decide +kernel), rfl, by decide, by decide, by decide +kernel, rfl⟩
theorem v_13_498 : VirtAt 13 498 266 13 := ⟨mo_266, gw9 134 (by decide +kernel) rfl, gw9 136 (by decide +kernel) rfl, gwp 102 (q := (⟨"HotThroughModel", "coolsAll", "(II)V"⟩, 72)) (by decide +kernel), rfl, by decide, by decide, by decide +kernel, rfl⟩
theorem v_13_501 : VirtAt 13 501 265 13 := ⟨mo_265, gw9 130 (by decide +kernel) rfl, gw9 132 (by decide +kernel) rfl, gwp 101 (q := (⟨"HotThroughModel", "brings", "(IIIIIIII)V"⟩, 72)) (by decide +kernel), rfl, by decide, by decide, by decide +kernel, rfl⟩
theorem v_13_513 : VirtAt 13 513 271 13 := ⟨mo_271, gw9 155 (by decide +kernel) rfl, gw9 157 (by decide +kernel) rfl, gwp 104 (q := (⟨"HotThroughModel", "marksAt", "(II)I"⟩, 72)) (by decide +kernel), rfl, by decide, by decide, by decide +kernel, rfl⟩
