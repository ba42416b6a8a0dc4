/-! all methods together: calls by depth -/
def noB : BT := fun _ _ _ _ => False
def lenB : BT := fun _ vs Q u => stx (vs.headD 0) ∧ Q (sLen.getD (-1 - vs.headD 0).toNat 0 : Nat) u
def chrB : BT := fun _ vs Q u => stx (vs.headD 0) ∧ 0 ≤ vs.getD 1 0 ∧ vs.getD 1 0 < (sLen.getD (-1 - vs.headD 0).toNat 0 : Nat) ∧ Q (((sByt.getD (-1 - vs.headD 0).toNat []).getD (vs.getD 1 0).toNat 0).toInt) u
def bodyL0 : List BT := [runB 0 B0, runB 1 B1, runB 2 B2, runB 3 B3, runB 4 B4, runB 5 B5, runB 6 B6, runB 7 B7, runB 8 B8, runB 9 B9, runB 10 B10, runB 11 B11, runB 12 B12, runB 13 B13, runB 14 B14, runB 15 B15, runB 16 B16, runB 17 B17, runB 18 B18, runB 19 B19, runB 20 B20, runB 21 B21, runB 22 B22, runB 23 B23, runB 24 B24, runB 25 B25, runB 26 B26, runB 27 B27, runB 28 B28, runB 29 B29, runB 30 B30, runB 31 B31, runB 32 B32, runB 33 B33, runB 34 B34, runB 35 B35, runB 36 B36, runB 37 B37, runB 38 B38, runB 39 B39]
def bodyL1 : List BT := [runB 40 B40, runB 41 B41, runB 42 B42, runB 43 B43, runB 44 B44, runB 45 B45, runB 46 B46, runB 47 B47, runB 48 B48, runB 49 B49, runB 50 B50, runB 51 B51, runB 52 B52, runB 53 B53, runB 54 B54, runB 55 B55, runB 56 B56, runB 57 B57, runB 58 B58, runB 59 B59, runB 60 B60, runB 61 B61, runB 62 B62, runB 63 B63, runB 64 B64, runB 65 B65, runB 66 B66, runB 67 B67, runB 68 B68, runB 69 B69, runB 70 B70, runB 71 B71, runB 72 B72, runB 73 B73, runB 74 B74, runB 75 B75, runB 76 B76, runB 77 B77, runB 78 B78, runB 79 B79]
def bodyL2 : List BT := [runB 80 B80, runB 81 B81, runB 82 B82, runB 83 B83, runB 84 B84, runB 85 B85, runB 86 B86, runB 87 B87, runB 88 B88, runB 89 B89, runB 90 B90, runB 91 B91, runB 92 B92, runB 93 B93, runB 94 B94, runB 95 B95, runB 96 B96, runB 97 B97, runB 98 B98, runB 99 B99, runB 100 B100, runB 101 B101, runB 102 B102, runB 103 B103, runB 104 B104, runB 105 B105, runB 106 B106, runB 107 B107, runB 108 B108, runB 109 B109, runB 110 B110, runB 111 B111, runB 112 B112, runB 113 B113, runB 114 B114, runB 115 B115, runB 116 B116, runB 117 B117, runB 118 B118, runB 119 B119]
def bodyL3 : List BT := [runB 120 B120, runB 121 B121, runB 122 B122, runB 123 B123, runB 124 B124, runB 125 B125, runB 126 B126, runB 127 B127, runB 128 B128, runB 129 B129, runB 130 B130, runB 131 B131, runB 132 B132, runB 133 B133, runB 134 B134, runB 135 B135, runB 136 B136, runB 137 B137, runB 138 B138, runB 139 B139, runB 140 B140, runB 141 B141, runB 142 B142, runB 143 B143, runB 144 B144, runB 145 B145, runB 146 B146, runB 147 B147, runB 148 B148, runB 149 B149, runB 150 B150, runB 151 B151, runB 152 B152, runB 153 B153, runB 154 B154, runB 155 B155, noB, runB 157 B157, runB 158 B158, runB 159 B159]
def bodyL4 : List BT := [noB, noB, noB, runB 163 B163, noB, runB 165 B165, noB, runB 167 B167, runB 168 B168, runB 169 B169, runB 170 B170, runB 171 B171, runB 172 B172, runB 173 B173, lenB, chrB, runB 176 B176, runB 177 B177, runB 178 B178, runB 179 B179, runB 180 B180, runB 181 B181, runB 182 B182, runB 183 B183, runB 184 B184, runB 185 B185, runB 186 B186, runB 187 B187, runB 188 B188, runB 189 B189, runB 190 B190, runB 191 B191, runB 192 B192, runB 193 B193, runB 194 B194, runB 195 B195, runB 196 B196, runB 197 B197, runB 198 B198, runB 199 B199]
def bodyL5 : List BT := [runB 200 B200, runB 201 B201, runB 202 B202, runB 203 B203, runB 204 B204, runB 205 B205, runB 206 B206, runB 207 B207, runB 208 B208, runB 209 B209, runB 210 B210, runB 211 B211, runB 212 B212, runB 213 B213, runB 214 B214, runB 215 B215, runB 216 B216, runB 217 B217, runB 218 B218, runB 219 B219, runB 220 B220, runB 221 B221, runB 222 B222, runB 223 B223, runB 224 B224, runB 225 B225, runB 226 B226, runB 227 B227, runB 228 B228, runB 229 B229, runB 230 B230, runB 231 B231, runB 232 B232, runB 233 B233, runB 234 B234, runB 235 B235, runB 236 B236, runB 237 B237, runB 238 B238, runB 239 B239]
def bodyL6 : List BT := [runB 240 B240, runB 241 B241, runB 242 B242, runB 243 B243, runB 244 B244, runB 245 B245, runB 246 B246, runB 247 B247, runB 248 B248, runB 249 B249, runB 250 B250, runB 251 B251, runB 252 B252, runB 253 B253, runB 254 B254, runB 255 B255, runB 256 B256, runB 257 B257, runB 258 B258, runB 259 B259, runB 260 B260, runB 261 B261, runB 262 B262, runB 263 B263, runB 264 B264, runB 265 B265, runB 266 B266, runB 267 B267, runB 268 B268, runB 269 B269, runB 270 B270, runB 271 B271, runB 272 B272, runB 273 B273, runB 274 B274, runB 275 B275, runB 276 B276, runB 277 B277, runB 278 B278, runB 279 B279]
def bodyL7 : List BT := [runB 280 B280, runB 281 B281]
def bodyL : List BT := bodyL0 ++ (bodyL1 ++ (bodyL2 ++ (bodyL3 ++ (bodyL4 ++ (bodyL5 ++ (bodyL6 ++ (bodyL7)))))))
def bodyOf (K : Nat) : BT := bodyL.getD K noB
theorem lb9_0 : bodyL0.length = 40 := rfl
theorem lb9_1 : bodyL1.length = 40 := rfl
theorem lb9_2 : bodyL2.length = 40 := rfl
theorem lb9_3 : bodyL3.length = 40 := rfl
theorem lb9_4 : bodyL4.length = 40 := rfl
theorem lb9_5 : bodyL5.length = 40 := rfl
theorem lb9_6 : bodyL6.length = 40 := rfl
theorem lb9_7 : bodyL7.length = 2 := rfl
theorem bo9_0 (i : Nat) (h : i < 40) : bodyOf (0 + i) = bodyL0.getD i noB := by
  show bodyL.getD (0 + i) noB = _
  unfold bodyL
  rw [Nat.zero_add]
  exact gB9 (by rw [lb9_0]; exact h)
theorem bo9_1 (i : Nat) (h : i < 40) : bodyOf (40 + i) = bodyL1.getD i noB := by
  show bodyL.getD (40 + i) noB = _
  unfold bodyL
  refine Eq.trans (gA9 lb9_0) ?_
  exact gB9 (by rw [lb9_1]; exact h)
theorem bo9_2 (i : Nat) (h : i < 40) : bodyOf (80 + i) = bodyL2.getD i noB := by
  show bodyL.getD (80 + i) noB = _
  unfold bodyL
  rw [show 80 + i = 40 + (40 + i) by omega]
  refine Eq.trans (gA9 lb9_0) ?_
  refine Eq.trans (gA9 lb9_1) ?_
  exact gB9 (by rw [lb9_2]; exact h)
theorem bo9_3 (i : Nat) (h : i < 40) : bodyOf (120 + i) = bodyL3.getD i noB := by
  show bodyL.getD (120 + i) noB = _
  unfold bodyL
  rw [show 120 + i = 40 + (40 + (40 + i)) by omega]
  refine Eq.trans (gA9 lb9_0) ?_
  refine Eq.trans (gA9 lb9_1) ?_
  refine Eq.trans (gA9 lb9_2) ?_
  exact gB9 (by rw [lb9_3]; exact h)
theorem bo9_4 (i : Nat) (h : i < 40) : bodyOf (160 + i) = bodyL4.getD i noB := by
  show bodyL.getD (160 + i) noB = _
  unfold bodyL
  rw [show 160 + i = 40 + (40 + (40 + (40 + i))) by omega]
  refine Eq.trans (gA9 lb9_0) ?_
  refine Eq.trans (gA9 lb9_1) ?_
  refine Eq.trans (gA9 lb9_2) ?_
  refine Eq.trans (gA9 lb9_3) ?_
  exact gB9 (by rw [lb9_4]; exact h)
theorem bo9_5 (i : Nat) (h : i < 40) : bodyOf (200 + i) = bodyL5.getD i noB := by
  show bodyL.getD (200 + i) noB = _
  unfold bodyL
  rw [show 200 + i = 40 + (40 + (40 + (40 + (40 + i)))) by omega]
  refine Eq.trans (gA9 lb9_0) ?_
  refine Eq.trans (gA9 lb9_1) ?_
  refine Eq.trans (gA9 lb9_2) ?_
  refine Eq.trans (gA9 lb9_3) ?_
  refine Eq.trans (gA9 lb9_4) ?_
  exact gB9 (by rw [lb9_5]; exact h)
theorem bo9_6 (i : Nat) (h : i < 40) : bodyOf (240 + i) = bodyL6.getD i noB := by
  show bodyL.getD (240 + i) noB = _
  unfold bodyL
  rw [show 240 + i = 40 + (40 + (40 + (40 + (40 + (40 + i))))) by omega]
  refine Eq.trans (gA9 lb9_0) ?_
  refine Eq.trans (gA9 lb9_1) ?_
  refine Eq.trans (gA9 lb9_2) ?_
  refine Eq.trans (gA9 lb9_3) ?_
  refine Eq.trans (gA9 lb9_4) ?_
  refine Eq.trans (gA9 lb9_5) ?_
  exact gB9 (by rw [lb9_6]; exact h)
theorem bo9_7 (i : Nat) (h : i < 2) : bodyOf (280 + i) = bodyL7.getD i noB := by
  show bodyL.getD (280 + i) noB = _
  unfold bodyL
  rw [show 280 + i = 40 + (40 + (40 + (40 + (40 + (40 + (40 + i)))))) by omega]
  refine Eq.trans (gA9 lb9_0) ?_
  refine Eq.trans (gA9 lb9_1) ?_
  refine Eq.trans (gA9 lb9_2) ?_
  refine Eq.trans (gA9 lb9_3) ?_
  refine Eq.trans (gA9 lb9_4) ?_
  refine Eq.trans (gA9 lb9_5) ?_
  refine Eq.trans (gA9 lb9_6) ?_
  rfl
def Cl : Nat → ClT
  | 0 => fun _ _ _ _ => False
  | d + 1 => fun K vs Q u => ((K = 174 ∨ K = 175) → 3 ≤ d) ∧ bodyOf K (Cl d) vs Q u
theorem cl_u (d K : Nat) (vs : List Int) (Q : Int → Sto → Prop) (u : Sto) (h : ¬ (K = 174 ∨ K = 175)) : Cl (d + 1) K vs Q u = bodyOf K (Cl d) vs Q u := propext ⟨fun q => q.2, fun q => ⟨fun z => absurd z h, q⟩⟩
theorem cl_s (d K : Nat) (vs : List Int) (Q : Int → Sto → Prop) (u : Sto) : Cl (d + 4) K vs Q u = bodyOf K (Cl (d + 3)) vs Q u := propext ⟨fun q => q.2, fun q => ⟨fun _ => by omega, q⟩⟩
theorem bo_9_0 : bodyOf 0 = runB 0 B0 := (bo9_0 0 (by decide)).trans rfl
theorem cl_0 (d : Nat) (vs : List Int) (Q : Int → Sto → Prop) (u : Sto) : Cl (d + 1) 0 vs Q u = (runB 0 B0) (Cl d) vs Q u := (cl_u d 0 vs Q u (by decide)).trans (congrFun (congrFun (congrFun (congrFun bo_9_0 (Cl (d))) vs) Q) u)
theorem bo_9_1 : bodyOf 1 = runB 1 B1 := (bo9_0 1 (by decide)).trans rfl
theorem cl_1 (d : Nat) (vs : List Int) (Q : Int → Sto → Prop) (u : Sto) : Cl (d + 1) 1 vs Q u = (runB 1 B1) (Cl d) vs Q u := (cl_u d 1 vs Q u (by decide)).trans (congrFun (congrFun (congrFun (congrFun bo_9_1 (Cl (d))) vs) Q) u)
theorem bo_9_2 : bodyOf 2 = runB 2 B2 := (bo9_0 2 (by decide)).trans rfl
theorem cl_2 (d : Nat) (vs : List Int) (Q : Int → Sto → Prop) (u : Sto) : Cl (d + 1) 2 vs Q u = (runB 2 B2) (Cl d) vs Q u := (cl_u d 2 vs Q u (by decide)).trans (congrFun (congrFun (congrFun (congrFun bo_9_2 (Cl (d))) vs) Q) u)
theorem bo_9_3 : bodyOf 3 = runB 3 B3 := (bo9_0 3 (by decide)).trans rfl
theorem cl_3 (d : Nat) (vs : List Int) (Q : Int → Sto → Prop) (u : Sto) : Cl (d + 1) 3 vs Q u = (runB 3 B3) (Cl d) vs Q u := (cl_u d 3 vs Q u (by decide)).trans (congrFun (congrFun (congrFun (congrFun bo_9_3 (Cl (d))) vs) Q) u)
theorem bo_9_4 : bodyOf 4 = runB 4 B4 := (bo9_0 4 (by decide)).trans rfl
theorem cl_4 (d : Nat) (vs : List Int) (Q : Int → Sto → Prop) (u : Sto) : Cl (d + 1) 4 vs Q u = (runB 4 B4) (Cl d) vs Q u := (cl_u d 4 vs Q u (by decide)).trans (congrFun (congrFun (congrFun (congrFun bo_9_4 (Cl (d))) vs) Q) u)
theorem bo_9_5 : bodyOf 5 = runB 5 B5 := (bo9_0 5 (by decide)).trans rfl
theorem cl_5 (d : Nat) (vs : List Int) (Q : Int → Sto → Prop) (u : Sto) : Cl (d + 1) 5 vs Q u = (runB 5 B5) (Cl d) vs Q u := (cl_u d 5 vs Q u (by decide)).trans (congrFun (congrFun (congrFun (congrFun bo_9_5 (Cl (d))) vs) Q) u)
theorem bo_9_6 : bodyOf 6 = runB 6 B6 := (bo9_0 6 (by decide)).trans rfl
theorem cl_6 (d : Nat) (vs : List Int) (Q : Int → Sto → Prop) (u : Sto) : Cl (d + 1) 6 vs Q u = (runB 6 B6) (Cl d) vs Q u := (cl_u d 6 vs Q u (by decide)).trans (congrFun (congrFun (congrFun (congrFun bo_9_6 (Cl (d))) vs) Q) u)
theorem bo_9_7 : bodyOf 7 = runB 7 B7 := (bo9_0 7 (by decide)).trans rfl
theorem cl_7 (d : Nat) (vs : List Int) (Q : Int → Sto → Prop) (u : Sto) : Cl (d + 1) 7 vs Q u = (runB 7 B7) (Cl d) vs Q u := (cl_u d 7 vs Q u (by decide)).trans (congrFun (congrFun (congrFun (congrFun bo_9_7 (Cl (d))) vs) Q) u)
theorem bo_9_8 : bodyOf 8 = runB 8 B8 := (bo9_0 8 (by decide)).trans rfl
theorem cl_8 (d : Nat) (vs : List Int) (Q : Int → Sto → Prop) (u : Sto) : Cl (d + 1) 8 vs Q u = (runB 8 B8) (Cl d) vs Q u := (cl_u d 8 vs Q u (by decide)).trans (congrFun (congrFun (congrFun (congrFun bo_9_8 (Cl (d))) vs) Q) u)
theorem bo_9_9 : bodyOf 9 = runB 9 B9 := (bo9_0 9 (by decide)).trans rfl
theorem cl_9 (d : Nat) (vs : List Int) (Q : Int → Sto → Prop) (u : Sto) : Cl (d + 1) 9 vs Q u = (runB 9 B9) (Cl d) vs Q u := (cl_u d 9 vs Q u (by decide)).trans (congrFun (congrFun (congrFun (congrFun bo_9_9 (Cl (d))) vs) Q) u)
theorem bo_9_10 : bodyOf 10 = runB 10 B10 := (bo9_0 10 (by decide)).trans rfl
theorem cl_10 (d : Nat) (vs : List Int) (Q : Int → Sto → Prop) (u : Sto) : Cl (d + 1) 10 vs Q u = (runB 10 B10) (Cl d) vs Q u := (cl_u d 10 vs Q u (by decide)).trans (congrFun (congrFun (congrFun (congrFun bo_9_10 (Cl (d))) vs) Q) u)
theorem bo_9_11 : bodyOf 11 = runB 11 B11 := (bo9_0 11 (by decide)).trans rfl
theorem cl_11 (d : Nat) (vs : List Int) (Q : Int → Sto → Prop) (u : Sto) : Cl (d + 1) 11 vs Q u = (runB 11 B11) (Cl d) vs Q u := (cl_u d 11 vs Q u (by decide)).trans (congrFun (congrFun (congrFun (congrFun bo_9_11 (Cl (d))) vs) Q) u)
theorem bo_9_12 : bodyOf 12 = runB 12 B12 := (bo9_0 12 (by decide)).trans rfl
theorem cl_12 (d : Nat) (vs : List Int) (Q : Int → Sto → Prop) (u : Sto) : Cl (d + 1) 12 vs Q u = (runB 12 B12) (Cl d) vs Q u := (cl_u d 12 vs Q u (by decide)).trans (congrFun (congrFun (congrFun (congrFun bo_9_12 (Cl (d))) vs) Q) u)
theorem bo_9_13 : bodyOf 13 = runB 13 B13 := (bo9_0 13 (by decide)).trans rfl
theorem cl_13 (d : Nat) (vs : List Int) (Q : Int → Sto → Prop) (u : Sto) : Cl (d + 1) 13 vs Q u = (runB 13 B13) (Cl d) vs Q u := (cl_u d 13 vs Q u (by decide)).trans (congrFun (congrFun (congrFun (congrFun bo_9_13 (Cl (d))) vs) Q) u)
theorem bo_9_14 : bodyOf 14 = runB 14 B14 := (bo9_0 14 (by decide)).trans rfl
theorem cl_14 (d : Nat) (vs : List Int) (Q : Int → Sto → Prop) (u : Sto) : Cl (d + 1) 14 vs Q u = (runB 14 B14) (Cl d) vs Q u := (cl_u d 14 vs Q u (by decide)).trans (congrFun (congrFun (congrFun (congrFun bo_9_14 (Cl (d))) vs) Q) u)
theorem bo_9_15 : bodyOf 15 = runB 15 B15 := (bo9_0 15 (by decide)).trans rfl
theorem cl_15 (d : Nat) (vs : List Int) (Q : Int → Sto → Prop) (u : Sto) : Cl (d + 1) 15 vs Q u = (runB 15 B15) (Cl d) vs Q u := (cl_u d 15 vs Q u (by decide)).trans (congrFun (congrFun (congrFun (congrFun bo_9_15 (Cl (d))) vs) Q) u)
theorem bo_9_16 : bodyOf 16 = runB 16 B16 := (bo9_0 16 (by decide)).trans rfl
theorem cl_16 (d : Nat) (vs : List Int) (Q : Int → Sto → Prop) (u : Sto) : Cl (d + 1) 16 vs Q u = (runB 16 B16) (Cl d) vs Q u := (cl_u d 16 vs Q u (by decide)).trans (congrFun (congrFun (congrFun (congrFun bo_9_16 (Cl (d))) vs) Q) u)
theorem bo_9_17 : bodyOf 17 = runB 17 B17 := (bo9_0 17 (by decide)).trans rfl
theorem cl_17 (d : Nat) (vs : List Int) (Q : Int → Sto → Prop) (u : Sto) : Cl (d + 1) 17 vs Q u = (runB 17 B17) (Cl d) vs Q u := (cl_u d 17 vs Q u (by decide)).trans (congrFun (congrFun (congrFun (congrFun bo_9_17 (Cl (d))) vs) Q) u)
theorem bo_9_18 : bodyOf 18 = runB 18 B18 := (bo9_0 18 (by decide)).trans rfl
theorem cl_18 (d : Nat) (vs : List Int) (Q : Int → Sto → Prop) (u : Sto) : Cl (d + 1) 18 vs Q u = (runB 18 B18) (Cl d) vs Q u := (cl_u d 18 vs Q u (by decide)).trans (congrFun (congrFun (congrFun (congrFun bo_9_18 (Cl (d))) vs) Q) u)
theorem bo_9_19 : bodyOf 19 = runB 19 B19 := (bo9_0 19 (by decide)).trans rfl
theorem cl_19 (d : Nat) (vs : List Int) (Q : Int → Sto → Prop) (u : Sto) : Cl (d + 1) 19 vs Q u = (runB 19 B19) (Cl d) vs Q u := (cl_u d 19 vs Q u (by decide)).trans (congrFun (congrFun (congrFun (congrFun bo_9_19 (Cl (d))) vs) Q) u)
theorem bo_9_20 : bodyOf 20 = runB 20 B20 := (bo9_0 20 (by decide)).trans rfl
theorem cl_20 (d : Nat) (vs : List Int) (Q : Int → Sto → Prop) (u : Sto) : Cl (d + 1) 20 vs Q u = (runB 20 B20) (Cl d) vs Q u := (cl_u d 20 vs Q u (by decide)).trans (congrFun (congrFun (congrFun (congrFun bo_9_20 (Cl (d))) vs) Q) u)
theorem bo_9_21 : bodyOf 21 = runB 21 B21 := (bo9_0 21 (by decide)).trans rfl
theorem cl_21 (d : Nat) (vs : List Int) (Q : Int → Sto → Prop) (u : Sto) : Cl (d + 1) 21 vs Q u = (runB 21 B21) (Cl d) vs Q u := (cl_u d 21 vs Q u (by decide)).trans (congrFun (congrFun (congrFun (congrFun bo_9_21 (Cl (d))) vs) Q) u)
theorem bo_9_22 : bodyOf 22 = runB 22 B22 := (bo9_0 22 (by decide)).trans rfl
theorem cl_22 (d : Nat) (vs : List Int) (Q : Int → Sto → Prop) (u : Sto) : Cl (d + 1) 22 vs Q u = (runB 22 B22) (Cl d) vs Q u := (cl_u d 22 vs Q u (by decide)).trans (congrFun (congrFun (congrFun (congrFun bo_9_22 (Cl (d))) vs) Q) u)
theorem bo_9_23 : bodyOf 23 = runB 23 B23 := (bo9_0 23 (by decide)).trans rfl
theorem cl_23 (d : Nat) (vs : List Int) (Q : Int → Sto → Prop) (u : Sto) : Cl (d + 1) 23 vs Q u = (runB 23 B23) (Cl d) vs Q u := (cl_u d 23 vs Q u (by decide)).trans (congrFun (congrFun (congrFun (congrFun bo_9_23 (Cl (d))) vs) Q) u)
theorem bo_9_24 : bodyOf 24 = runB 24 B24 := (bo9_0 24 (by decide)).trans rfl
theorem cl_24 (d : Nat) (vs : List Int) (Q : Int → Sto → Prop) (u : Sto) : Cl (d + 1) 24 vs Q u = (runB 24 B24) (Cl d) vs Q u := (cl_u d 24 vs Q u (by decide)).trans (congrFun (congrFun (congrFun (congrFun bo_9_24 (Cl (d))) vs) Q) u)
theorem bo_9_25 : bodyOf 25 = runB 25 B25 := (bo9_0 25 (by decide)).trans rfl
theorem cl_25 (d : Nat) (vs : List Int) (Q : Int → Sto → Prop) (u : Sto) : Cl (d + 1) 25 vs Q u = (runB 25 B25) (Cl d) vs Q u := (cl_u d 25 vs Q u (by decide)).trans (congrFun (congrFun (congrFun (congrFun bo_9_25 (Cl (d))) vs) Q) u)
theorem bo_9_26 : bodyOf 26 = runB 26 B26 := (bo9_0 26 (by decide)).trans rfl
theorem cl_26 (d : Nat) (vs : List Int) (Q : Int → Sto → Prop) (u : Sto) : Cl (d + 1) 26 vs Q u = (runB 26 B26) (Cl d) vs Q u := (cl_u d 26 vs Q u (by decide)).trans (congrFun (congrFun (congrFun (congrFun bo_9_26 (Cl (d))) vs) Q) u)
theorem bo_9_27 : bodyOf 27 = runB 27 B27 := (bo9_0 27 (by decide)).trans rfl
theorem cl_27 (d : Nat) (vs : List Int) (Q : Int → Sto → Prop) (u : Sto) : Cl (d + 1) 27 vs Q u = (runB 27 B27) (Cl d) vs Q u := (cl_u d 27 vs Q u (by decide)).trans (congrFun (congrFun (congrFun (congrFun bo_9_27 (Cl (d))) vs) Q) u)
theorem bo_9_28 : bodyOf 28 = runB 28 B28 := (bo9_0 28 (by decide)).trans rfl
theorem cl_28 (d : Nat) (vs : List Int) (Q : Int → Sto → Prop) (u : Sto) : Cl (d + 1) 28 vs Q u = (runB 28 B28) (Cl d) vs Q u := (cl_u d 28 vs Q u (by decide)).trans (congrFun (congrFun (congrFun (congrFun bo_9_28 (Cl (d))) vs) Q) u)
theorem bo_9_29 : bodyOf 29 = runB 29 B29 := (bo9_0 29 (by decide)).trans rfl
theorem cl_29 (d : Nat) (vs : List Int) (Q : Int → Sto → Prop) (u : Sto) : Cl (d + 1) 29 vs Q u = (runB 29 B29) (Cl d) vs Q u := (cl_u d 29 vs Q u (by decide)).trans (congrFun (congrFun (congrFun (congrFun bo_9_29 (Cl (d))) vs) Q) u)
theorem bo_9_30 : bodyOf 30 = runB 30 B30 := (bo9_0 30 (by decide)).trans rfl
theorem cl_30 (d : Nat) (vs : List Int) (Q : Int → Sto → Prop) (u : Sto) : Cl (d + 1) 30 vs Q u = (runB 30 B30) (Cl d) vs Q u := (cl_u d 30 vs Q u (by decide)).trans (congrFun (congrFun (congrFun (congrFun bo_9_30 (Cl (d))) vs) Q) u)
theorem bo_9_31 : bodyOf 31 = runB 31 B31 := (bo9_0 31 (by decide)).trans rfl
theorem cl_31 (d : Nat) (vs : List Int) (Q : Int → Sto → Prop) (u : Sto) : Cl (d + 1) 31 vs Q u = (runB 31 B31) (Cl d) vs Q u := (cl_u d 31 vs Q u (by decide)).trans (congrFun (congrFun (congrFun (congrFun bo_9_31 (Cl (d))) vs) Q) u)
theorem bo_9_32 : bodyOf 32 = runB 32 B32 := (bo9_0 32 (by decide)).trans rfl
theorem cl_32 (d : Nat) (vs : List Int) (Q : Int → Sto → Prop) (u : Sto) : Cl (d + 1) 32 vs Q u = (runB 32 B32) (Cl d) vs Q u := (cl_u d 32 vs Q u (by decide)).trans (congrFun (congrFun (congrFun (congrFun bo_9_32 (Cl (d))) vs) Q) u)
theorem bo_9_33 : bodyOf 33 = runB 33 B33 := (bo9_0 33 (by decide)).trans rfl
theorem cl_33 (d : Nat) (vs : List Int) (Q : Int → Sto → Prop) (u : Sto) : Cl (d + 1) 33 vs Q u = (runB 33 B33) (Cl d) vs Q u := (cl_u d 33 vs Q u (by decide)).trans (congrFun (congrFun (congrFun (congrFun bo_9_33 (Cl (d))) vs) Q) u)
theorem bo_9_34 : bodyOf 34 = runB 34 B34 := (bo9_0 34 (by decide)).trans rfl
theorem cl_34 (d : Nat) (vs : List Int) (Q : Int → Sto → Prop) (u : Sto) : Cl (d + 1) 34 vs Q u = (runB 34 B34) (Cl d) vs Q u := (cl_u d 34 vs Q u (by decide)).trans (congrFun (congrFun (congrFun (congrFun bo_9_34 (Cl (d))) vs) Q) u)
theorem bo_9_35 : bodyOf 35 = runB 35 B35 := (bo9_0 35 (by decide)).trans rfl
theorem cl_35 (d : Nat) (vs : List Int) (Q : Int → Sto → Prop) (u : Sto) : Cl (d + 1) 35 vs Q u = (runB 35 B35) (Cl d) vs Q u := (cl_u d 35 vs Q u (by decide)).trans (congrFun (congrFun (congrFun (congrFun bo_9_35 (Cl (d))) vs) Q) u)
theorem bo_9_36 : bodyOf 36 = runB 36 B36 := (bo9_0 36 (by decide)).trans rfl
theorem cl_36 (d : Nat) (vs : List Int) (Q : Int → Sto → Prop) (u : Sto) : Cl (d + 1) 36 vs Q u = (runB 36 B36) (Cl d) vs Q u := (cl_u d 36 vs Q u (by decide)).trans (congrFun (congrFun (congrFun (congrFun bo_9_36 (Cl (d))) vs) Q) u)
theorem bo_9_37 : bodyOf 37 = runB 37 B37 := (bo9_0 37 (by decide)).trans rfl
theorem cl_37 (d : Nat) (vs : List Int) (Q : Int → Sto → Prop) (u : Sto) : Cl (d + 1) 37 vs Q u = (runB 37 B37) (Cl d) vs Q u := (cl_u d 37 vs Q u (by decide)).trans (congrFun (congrFun (congrFun (congrFun bo_9_37 (Cl (d))) vs) Q) u)
theorem bo_9_38 : bodyOf 38 = runB 38 B38 := (bo9_0 38 (by decide)).trans rfl
theorem cl_38 (d : Nat) (vs : List Int) (Q : Int → Sto → Prop) (u : Sto) : Cl (d + 1) 38 vs Q u = (runB 38 B38) (Cl d) vs Q u := (cl_u d 38 vs Q u (by decide)).trans (congrFun (congrFun (congrFun (congrFun bo_9_38 (Cl (d))) vs) Q) u)
theorem bo_9_39 : bodyOf 39 = runB 39 B39 := (bo9_0 39 (by decide)).trans rfl
theorem cl_39 (d : Nat) (vs : List Int) (Q : Int → Sto → Prop) (u : Sto) : Cl (d + 1) 39 vs Q u = (runB 39 B39) (Cl d) vs Q u := (cl_u d 39 vs Q u (by decide)).trans (congrFun (congrFun (congrFun (congrFun bo_9_39 (Cl (d))) vs) Q) u)
theorem bo_9_40 : bodyOf 40 = runB 40 B40 := (bo9_1 0 (by decide)).trans rfl
theorem cl_40 (d : Nat) (vs : List Int) (Q : Int → Sto → Prop) (u : Sto) : Cl (d + 1) 40 vs Q u = (runB 40 B40) (Cl d) vs Q u := (cl_u d 40 vs Q u (by decide)).trans (congrFun (congrFun (congrFun (congrFun bo_9_40 (Cl (d))) vs) Q) u)
theorem bo_9_41 : bodyOf 41 = runB 41 B41 := (bo9_1 1 (by decide)).trans rfl
theorem cl_41 (d : Nat) (vs : List Int) (Q : Int → Sto → Prop) (u : Sto) : Cl (d + 1) 41 vs Q u = (runB 41 B41) (Cl d) vs Q u := (cl_u d 41 vs Q u (by decide)).trans (congrFun (congrFun (congrFun (congrFun bo_9_41 (Cl (d))) vs) Q) u)
theorem bo_9_42 : bodyOf 42 = runB 42 B42 := (bo9_1 2 (by decide)).trans rfl
theorem cl_42 (d : Nat) (vs : List Int) (Q : Int → Sto → Prop) (u : Sto) : Cl (d + 1) 42 vs Q u = (runB 42 B42) (Cl d) vs Q u := (cl_u d 42 vs Q u (by decide)).trans (congrFun (congrFun (congrFun (congrFun bo_9_42 (Cl (d))) vs) Q) u)
theorem bo_9_43 : bodyOf 43 = runB 43 B43 := (bo9_1 3 (by decide)).trans rfl
theorem cl_43 (d : Nat) (vs : List Int) (Q : Int → Sto → Prop) (u : Sto) : Cl (d + 1) 43 vs Q u = (runB 43 B43) (Cl d) vs Q u := (cl_u d 43 vs Q u (by decide)).trans (congrFun (congrFun (congrFun (congrFun bo_9_43 (Cl (d))) vs) Q) u)
theorem bo_9_44 : bodyOf 44 = runB 44 B44 := (bo9_1 4 (by decide)).trans rfl
theorem cl_44 (d : Nat) (vs : List Int) (Q : Int → Sto → Prop) (u : Sto) : Cl (d + 1) 44 vs Q u = (runB 44 B44) (Cl d) vs Q u := (cl_u d 44 vs Q u (by decide)).trans (congrFun (congrFun (congrFun (congrFun bo_9_44 (Cl (d))) vs) Q) u)
theorem bo_9_45 : bodyOf 45 = runB 45 B45 := (bo9_1 5 (by decide)).trans rfl
theorem cl_45 (d : Nat) (vs : List Int) (Q : Int → Sto → Prop) (u : Sto) : Cl (d + 1) 45 vs Q u = (runB 45 B45) (Cl d) vs Q u := (cl_u d 45 vs Q u (by decide)).trans (congrFun (congrFun (congrFun (congrFun bo_9_45 (Cl (d))) vs) Q) u)
theorem bo_9_46 : bodyOf 46 = runB 46 B46 := (bo9_1 6 (by decide)).trans rfl
theorem cl_46 (d : Nat) (vs : List Int) (Q : Int → Sto → Prop) (u : Sto) : Cl (d + 1) 46 vs Q u = (runB 46 B46) (Cl d) vs Q u := (cl_u d 46 vs Q u (by decide)).trans (congrFun (congrFun (congrFun (congrFun bo_9_46 (Cl (d))) vs) Q) u)
theorem bo_9_47 : bodyOf 47 = runB 47 B47 := (bo9_1 7 (by decide)).trans rfl
theorem cl_47 (d : Nat) (vs : List Int) (Q : Int → Sto → Prop) (u : Sto) : Cl (d + 1) 47 vs Q u = (runB 47 B47) (Cl d) vs Q u := (cl_u d 47 vs Q u (by decide)).trans (congrFun (congrFun (congrFun (congrFun bo_9_47 (Cl (d))) vs) Q) u)
theorem bo_9_48 : bodyOf 48 = runB 48 B48 := (bo9_1 8 (by decide)).trans rfl
theorem cl_48 (d : Nat) (vs : List Int) (Q : Int → Sto → Prop) (u : Sto) : Cl (d + 1) 48 vs Q u = (runB 48 B48) (Cl d) vs Q u := (cl_u d 48 vs Q u (by decide)).trans (congrFun (congrFun (congrFun (congrFun bo_9_48 (Cl (d))) vs) Q) u)
theorem bo_9_49 : bodyOf 49 = runB 49 B49 := (bo9_1 9 (by decide)).trans rfl
theorem cl_49 (d : Nat) (vs : List Int) (Q : Int → Sto → Prop) (u : Sto) : Cl (d + 1) 49 vs Q u = (runB 49 B49) (Cl d) vs Q u := (cl_u d 49 vs Q u (by decide)).trans (congrFun (congrFun (congrFun (congrFun bo_9_49 (Cl (d))) vs) Q) u)
theorem bo_9_50 : bodyOf 50 = runB 50 B50 := (bo9_1 10 (by decide)).trans rfl
theorem cl_50 (d : Nat) (vs : List Int) (Q : Int → Sto → Prop) (u : Sto) : Cl (d + 1) 50 vs Q u = (runB 50 B50) (Cl d) vs Q u := (cl_u d 50 vs Q u (by decide)).trans (congrFun (congrFun (congrFun (congrFun bo_9_50 (Cl (d))) vs) Q) u)
theorem bo_9_51 : bodyOf 51 = runB 51 B51 := (bo9_1 11 (by decide)).trans rfl
theorem cl_51 (d : Nat) (vs : List Int) (Q : Int → Sto → Prop) (u : Sto) : Cl (d + 1) 51 vs Q u = (runB 51 B51) (Cl d) vs Q u := (cl_u d 51 vs Q u (by decide)).trans (congrFun (congrFun (congrFun (congrFun bo_9_51 (Cl (d))) vs) Q) u)
theorem bo_9_52 : bodyOf 52 = runB 52 B52 := (bo9_1 12 (by decide)).trans rfl
theorem cl_52 (d : Nat) (vs : List Int) (Q : Int → Sto → Prop) (u : Sto) : Cl (d + 1) 52 vs Q u = (runB 52 B52) (Cl d) vs Q u := (cl_u d 52 vs Q u (by decide)).trans (congrFun (congrFun (congrFun (congrFun bo_9_52 (Cl (d))) vs) Q) u)
theorem bo_9_53 : bodyOf 53 = runB 53 B53 := (bo9_1 13 (by decide)).trans rfl
theorem cl_53 (d : Nat) (vs : List Int) (Q : Int → Sto → Prop) (u : Sto) : Cl (d + 1) 53 vs Q u = (runB 53 B53) (Cl d) vs Q u := (cl_u d 53 vs Q u (by decide)).trans (congrFun (congrFun (congrFun (congrFun bo_9_53 (Cl (d))) vs) Q) u)
theorem bo_9_54 : bodyOf 54 = runB 54 B54 := (bo9_1 14 (by decide)).trans rfl
theorem cl_54 (d : Nat) (vs : List Int) (Q : Int → Sto → Prop) (u : Sto) : Cl (d + 1) 54 vs Q u = (runB 54 B54) (Cl d) vs Q u := (cl_u d 54 vs Q u (by decide)).trans (congrFun (congrFun (congrFun (congrFun bo_9_54 (Cl (d))) vs) Q) u)
theorem bo_9_55 : bodyOf 55 = runB 55 B55 := (bo9_1 15 (by decide)).trans rfl
theorem cl_55 (d : Nat) (vs : List Int) (Q : Int → Sto → Prop) (u : Sto) : Cl (d + 1) 55 vs Q u = (runB 55 B55) (Cl d) vs Q u := (cl_u d 55 vs Q u (by decide)).trans (congrFun (congrFun (congrFun (congrFun bo_9_55 (Cl (d))) vs) Q) u)
theorem bo_9_56 : bodyOf 56 = runB 56 B56 := (bo9_1 16 (by decide)).trans rfl
theorem cl_56 (d : Nat) (vs : List Int) (Q : Int → Sto → Prop) (u : Sto) : Cl (d + 1) 56 vs Q u = (runB 56 B56) (Cl d) vs Q u := (cl_u d 56 vs Q u (by decide)).trans (congrFun (congrFun (congrFun (congrFun bo_9_56 (Cl (d))) vs) Q) u)
theorem bo_9_57 : bodyOf 57 = runB 57 B57 := (bo9_1 17 (by decide)).trans rfl
theorem cl_57 (d : Nat) (vs : List Int) (Q : Int → Sto → Prop) (u : Sto) : Cl (d + 1) 57 vs Q u = (runB 57 B57) (Cl d) vs Q u := (cl_u d 57 vs Q u (by decide)).trans (congrFun (congrFun (congrFun (congrFun bo_9_57 (Cl (d))) vs) Q) u)
theorem bo_9_58 : bodyOf 58 = runB 58 B58 := (bo9_1 18 (by decide)).trans rfl
theorem cl_58 (d : Nat) (vs : List Int) (Q : Int → Sto → Prop) (u : Sto) : Cl (d + 1) 58 vs Q u = (runB 58 B58) (Cl d) vs Q u := (cl_u d 58 vs Q u (by decide)).trans (congrFun (congrFun (congrFun (congrFun bo_9_58 (Cl (d))) vs) Q) u)
theorem bo_9_59 : bodyOf 59 = runB 59 B59 := (bo9_1 19 (by decide)).trans rfl
theorem cl_59 (d : Nat) (vs : List Int) (Q : Int → Sto → Prop) (u : Sto) : Cl (d + 1) 59 vs Q u = (runB 59 B59) (Cl d) vs Q u := (cl_u d 59 vs Q u (by decide)).trans (congrFun (congrFun (congrFun (congrFun bo_9_59 (Cl (d))) vs) Q) u)
theorem bo_9_60 : bodyOf 60 = runB 60 B60 := (bo9_1 20 (by decide)).trans rfl
theorem cl_60 (d : Nat) (vs : List Int) (Q : Int → Sto → Prop) (u : Sto) : Cl (d + 1) 60 vs Q u = (runB 60 B60) (Cl d) vs Q u := (cl_u d 60 vs Q u (by decide)).trans (congrFun (congrFun (congrFun (congrFun bo_9_60 (Cl (d))) vs) Q) u)
theorem bo_9_61 : bodyOf 61 = runB 61 B61 := (bo9_1 21 (by decide)).trans rfl
theorem cl_61 (d : Nat) (vs : List Int) (Q : Int → Sto → Prop) (u : Sto) : Cl (d + 1) 61 vs Q u = (runB 61 B61) (Cl d) vs Q u := (cl_u d 61 vs Q u (by decide)).trans (congrFun (congrFun (congrFun (congrFun bo_9_61 (Cl (d))) vs) Q) u)
theorem bo_9_62 : bodyOf 62 = runB 62 B62 := (bo9_1 22 (by decide)).trans rfl
theorem cl_62 (d : Nat) (vs : List Int) (Q : Int → Sto → Prop) (u : Sto) : Cl (d + 1) 62 vs Q u = (runB 62 B62) (Cl d) vs Q u := (cl_u d 62 vs Q u (by decide)).trans (congrFun (congrFun (congrFun (congrFun bo_9_62 (Cl (d))) vs) Q) u)
theorem bo_9_63 : bodyOf 63 = runB 63 B63 := (bo9_1 23 (by decide)).trans rfl
theorem cl_63 (d : Nat) (vs : List Int) (Q : Int → Sto → Prop) (u : Sto) : Cl (d + 1) 63 vs Q u = (runB 63 B63) (Cl d) vs Q u := (cl_u d 63 vs Q u (by decide)).trans (congrFun (congrFun (congrFun (congrFun bo_9_63 (Cl (d))) vs) Q) u)
theorem bo_9_64 : bodyOf 64 = runB 64 B64 := (bo9_1 24 (by decide)).trans rfl
theorem cl_64 (d : Nat) (vs : List Int) (Q : Int → Sto → Prop) (u : Sto) : Cl (d + 1) 64 vs Q u = (runB 64 B64) (Cl d) vs Q u := (cl_u d 64 vs Q u (by decide)).trans (congrFun (congrFun (congrFun (congrFun bo_9_64 (Cl (d))) vs) Q) u)
theorem bo_9_65 : bodyOf 65 = runB 65 B65 := (bo9_1 25 (by decide)).trans rfl
theorem cl_65 (d : Nat) (vs : List Int) (Q : Int → Sto → Prop) (u : Sto) : Cl (d + 1) 65 vs Q u = (runB 65 B65) (Cl d) vs Q u := (cl_u d 65 vs Q u (by decide)).trans (congrFun (congrFun (congrFun (congrFun bo_9_65 (Cl (d))) vs) Q) u)
theorem bo_9_66 : bodyOf 66 = runB 66 B66 := (bo9_1 26 (by decide)).trans rfl
theorem cl_66 (d : Nat) (vs : List Int) (Q : Int → Sto → Prop) (u : Sto) : Cl (d + 1) 66 vs Q u = (runB 66 B66) (Cl d) vs Q u := (cl_u d 66 vs Q u (by decide)).trans (congrFun (congrFun (congrFun (congrFun bo_9_66 (Cl (d))) vs) Q) u)
theorem bo_9_67 : bodyOf 67 = runB 67 B67 := (bo9_1 27 (by decide)).trans rfl
theorem cl_67 (d : Nat) (vs : List Int) (Q : Int → Sto → Prop) (u : Sto) : Cl (d + 1) 67 vs Q u = (runB 67 B67) (Cl d) vs Q u := (cl_u d 67 vs Q u (by decide)).trans (congrFun (congrFun (congrFun (congrFun bo_9_67 (Cl (d))) vs) Q) u)
theorem bo_9_68 : bodyOf 68 = runB 68 B68 := (bo9_1 28 (by decide)).trans rfl
theorem cl_68 (d : Nat) (vs : List Int) (Q : Int → Sto → Prop) (u : Sto) : Cl (d + 1) 68 vs Q u = (runB 68 B68) (Cl d) vs Q u := (cl_u d 68 vs Q u (by decide)).trans (congrFun (congrFun (congrFun (congrFun bo_9_68 (Cl (d))) vs) Q) u)
theorem bo_9_69 : bodyOf 69 = runB 69 B69 := (bo9_1 29 (by decide)).trans rfl
theorem cl_69 (d : Nat) (vs : List Int) (Q : Int → Sto → Prop) (u : Sto) : Cl (d + 1) 69 vs Q u = (runB 69 B69) (Cl d) vs Q u := (cl_u d 69 vs Q u (by decide)).trans (congrFun (congrFun (congrFun (congrFun bo_9_69 (Cl (d))) vs) Q) u)
theorem bo_9_70 : bodyOf 70 = runB 70 B70 := (bo9_1 30 (by decide)).trans rfl
theorem cl_70 (d : Nat) (vs : List Int) (Q : Int → Sto → Prop) (u : Sto) : Cl (d + 1) 70 vs Q u = (runB 70 B70) (Cl d) vs Q u := (cl_u d 70 vs Q u (by decide)).trans (congrFun (congrFun (congrFun (congrFun bo_9_70 (Cl (d))) vs) Q) u)
theorem bo_9_71 : bodyOf 71 = runB 71 B71 := (bo9_1 31 (by decide)).trans rfl
theorem cl_71 (d : Nat) (vs : List Int) (Q : Int → Sto → Prop) (u : Sto) : Cl (d + 1) 71 vs Q u = (runB 71 B71) (Cl d) vs Q u := (cl_u d 71 vs Q u (by decide)).trans (congrFun (congrFun (congrFun (congrFun bo_9_71 (Cl (d))) vs) Q) u)
theorem bo_9_72 : bodyOf 72 = runB 72 B72 := (bo9_1 32 (by decide)).trans rfl
theorem cl_72 (d : Nat) (vs : List Int) (Q : Int → Sto → Prop) (u : Sto) : Cl (d + 1) 72 vs Q u = (runB 72 B72) (Cl d) vs Q u := (cl_u d 72 vs Q u (by decide)).trans (congrFun (congrFun (congrFun (congrFun bo_9_72 (Cl (d))) vs) Q) u)
theorem bo_9_73 : bodyOf 73 = runB 73 B73 := (bo9_1 33 (by decide)).trans rfl
theorem cl_73 (d : Nat) (vs : List Int) (Q : Int → Sto → Prop) (u : Sto) : Cl (d + 1) 73 vs Q u = (runB 73 B73) (Cl d) vs Q u := (cl_u d 73 vs Q u (by decide)).trans (congrFun (congrFun (congrFun (congrFun bo_9_73 (Cl (d))) vs) Q) u)
theorem bo_9_74 : bodyOf 74 = runB 74 B74 := (bo9_1 34 (by decide)).trans rfl
theorem cl_74 (d : Nat) (vs : List Int) (Q : Int → Sto → Prop) (u : Sto) : Cl (d + 1) 74 vs Q u = (runB 74 B74) (Cl d) vs Q u := (cl_u d 74 vs Q u (by decide)).trans (congrFun (congrFun (congrFun (congrFun bo_9_74 (Cl (d))) vs) Q) u)
theorem bo_9_75 : bodyOf 75 = runB 75 B75 := (bo9_1 35 (by decide)).trans rfl
theorem cl_75 (d : Nat) (vs : List Int) (Q : Int → Sto → Prop) (u : Sto) : Cl (d + 1) 75 vs Q u = (runB 75 B75) (Cl d) vs Q u := (cl_u d 75 vs Q u (by decide)).trans (congrFun (congrFun (congrFun (congrFun bo_9_75 (Cl (d))) vs) Q) u)
theorem bo_9_76 : bodyOf 76 = runB 76 B76 := (bo9_1 36 (by decide)).trans rfl
theorem cl_76 (d : Nat) (vs : List Int) (Q : Int → Sto → Prop) (u : Sto) : Cl (d + 1) 76 vs Q u = (runB 76 B76) (Cl d) vs Q u := (cl_u d 76 vs Q u (by decide)).trans (congrFun (congrFun (congrFun (congrFun bo_9_76 (Cl (d))) vs) Q) u)
theorem bo_9_77 : bodyOf 77 = runB 77 B77 := (bo9_1 37 (by decide)).trans rfl
theorem cl_77 (d : Nat) (vs : List Int) (Q : Int → Sto → Prop) (u : Sto) : Cl (d + 1) 77 vs Q u = (runB 77 B77) (Cl d) vs Q u := (cl_u d 77 vs Q u (by decide)).trans (congrFun (congrFun (congrFun (congrFun bo_9_77 (Cl (d))) vs) Q) u)
theorem bo_9_78 : bodyOf 78 = runB 78 B78 := (bo9_1 38 (by decide)).trans rfl
theorem cl_78 (d : Nat) (vs : List Int) (Q : Int → Sto → Prop) (u : Sto) : Cl (d + 1) 78 vs Q u = (runB 78 B78) (Cl d) vs Q u := (cl_u d 78 vs Q u (by decide)).trans (congrFun (congrFun (congrFun (congrFun bo_9_78 (Cl (d))) vs) Q) u)
theorem bo_9_79 : bodyOf 79 = runB 79 B79 := (bo9_1 39 (by decide)).trans rfl
theorem cl_79 (d : Nat) (vs : List Int) (Q : Int → Sto → Prop) (u : Sto) : Cl (d + 1) 79 vs Q u = (runB 79 B79) (Cl d) vs Q u := (cl_u d 79 vs Q u (by decide)).trans (congrFun (congrFun (congrFun (congrFun bo_9_79 (Cl (d))) vs) Q) u)
theorem bo_9_80 : bodyOf 80 = runB 80 B80 := (bo9_2 0 (by decide)).trans rfl
theorem cl_80 (d : Nat) (vs : List Int) (Q : Int → Sto → Prop) (u : Sto) : Cl (d + 1) 80 vs Q u = (runB 80 B80) (Cl d) vs Q u := (cl_u d 80 vs Q u (by decide)).trans (congrFun (congrFun (congrFun (congrFun bo_9_80 (Cl (d))) vs) Q) u)
theorem bo_9_81 : bodyOf 81 = runB 81 B81 := (bo9_2 1 (by decide)).trans rfl
theorem cl_81 (d : Nat) (vs : List Int) (Q : Int → Sto → Prop) (u : Sto) : Cl (d + 1) 81 vs Q u = (runB 81 B81) (Cl d) vs Q u := (cl_u d 81 vs Q u (by decide)).trans (congrFun (congrFun (congrFun (congrFun bo_9_81 (Cl (d))) vs) Q) u)
theorem bo_9_82 : bodyOf 82 = runB 82 B82 := (bo9_2 2 (by decide)).trans rfl
theorem cl_82 (d : Nat) (vs : List Int) (Q : Int → Sto → Prop) (u : Sto) : Cl (d + 1) 82 vs Q u = (runB 82 B82) (Cl d) vs Q u := (cl_u d 82 vs Q u (by decide)).trans (congrFun (congrFun (congrFun (congrFun bo_9_82 (Cl (d))) vs) Q) u)
theorem bo_9_83 : bodyOf 83 = runB 83 B83 := (bo9_2 3 (by decide)).trans rfl
theorem cl_83 (d : Nat) (vs : List Int) (Q : Int → Sto → Prop) (u : Sto) : Cl (d + 1) 83 vs Q u = (runB 83 B83) (Cl d) vs Q u := (cl_u d 83 vs Q u (by decide)).trans (congrFun (congrFun (congrFun (congrFun bo_9_83 (Cl (d))) vs) Q) u)
theorem bo_9_84 : bodyOf 84 = runB 84 B84 := (bo9_2 4 (by decide)).trans rfl
theorem cl_84 (d : Nat) (vs : List Int) (Q : Int → Sto → Prop) (u : Sto) : Cl (d + 1) 84 vs Q u = (runB 84 B84) (Cl d) vs Q u := (cl_u d 84 vs Q u (by decide)).trans (congrFun (congrFun (congrFun (congrFun bo_9_84 (Cl (d))) vs) Q) u)
theorem bo_9_85 : bodyOf 85 = runB 85 B85 := (bo9_2 5 (by decide)).trans rfl
theorem cl_85 (d : Nat) (vs : List Int) (Q : Int → Sto → Prop) (u : Sto) : Cl (d + 1) 85 vs Q u = (runB 85 B85) (Cl d) vs Q u := (cl_u d 85 vs Q u (by decide)).trans (congrFun (congrFun (congrFun (congrFun bo_9_85 (Cl (d))) vs) Q) u)
theorem bo_9_86 : bodyOf 86 = runB 86 B86 := (bo9_2 6 (by decide)).trans rfl
theorem cl_86 (d : Nat) (vs : List Int) (Q : Int → Sto → Prop) (u : Sto) : Cl (d + 1) 86 vs Q u = (runB 86 B86) (Cl d) vs Q u := (cl_u d 86 vs Q u (by decide)).trans (congrFun (congrFun (congrFun (congrFun bo_9_86 (Cl (d))) vs) Q) u)
theorem bo_9_87 : bodyOf 87 = runB 87 B87 := (bo9_2 7 (by decide)).trans rfl
theorem cl_87 (d : Nat) (vs : List Int) (Q : Int → Sto → Prop) (u : Sto) : Cl (d + 1) 87 vs Q u = (runB 87 B87) (Cl d) vs Q u := (cl_u d 87 vs Q u (by decide)).trans (congrFun (congrFun (congrFun (congrFun bo_9_87 (Cl (d))) vs) Q) u)
theorem bo_9_88 : bodyOf 88 = runB 88 B88 := (bo9_2 8 (by decide)).trans rfl
theorem cl_88 (d : Nat) (vs : List Int) (Q : Int → Sto → Prop) (u : Sto) : Cl (d + 1) 88 vs Q u = (runB 88 B88) (Cl d) vs Q u := (cl_u d 88 vs Q u (by decide)).trans (congrFun (congrFun (congrFun (congrFun bo_9_88 (Cl (d))) vs) Q) u)
theorem bo_9_89 : bodyOf 89 = runB 89 B89 := (bo9_2 9 (by decide)).trans rfl
theorem cl_89 (d : Nat) (vs : List Int) (Q : Int → Sto → Prop) (u : Sto) : Cl (d + 1) 89 vs Q u = (runB 89 B89) (Cl d) vs Q u := (cl_u d 89 vs Q u (by decide)).trans (congrFun (congrFun (congrFun (congrFun bo_9_89 (Cl (d))) vs) Q) u)
theorem bo_9_90 : bodyOf 90 = runB 90 B90 := (bo9_2 10 (by decide)).trans rfl
theorem cl_90 (d : Nat) (vs : List Int) (Q : Int → Sto → Prop) (u : Sto) : Cl (d + 1) 90 vs Q u = (runB 90 B90) (Cl d) vs Q u := (cl_u d 90 vs Q u (by decide)).trans (congrFun (congrFun (congrFun (congrFun bo_9_90 (Cl (d))) vs) Q) u)
theorem bo_9_91 : bodyOf 91 = runB 91 B91 := (bo9_2 11 (by decide)).trans rfl
theorem cl_91 (d : Nat) (vs : List Int) (Q : Int → Sto → Prop) (u : Sto) : Cl (d + 1) 91 vs Q u = (runB 91 B91) (Cl d) vs Q u := (cl_u d 91 vs Q u (by decide)).trans (congrFun (congrFun (congrFun (congrFun bo_9_91 (Cl (d))) vs) Q) u)
theorem bo_9_92 : bodyOf 92 = runB 92 B92 := (bo9_2 12 (by decide)).trans rfl
theorem cl_92 (d : Nat) (vs : List Int) (Q : Int → Sto → Prop) (u : Sto) : Cl (d + 1) 92 vs Q u = (runB 92 B92) (Cl d) vs Q u := (cl_u d 92 vs Q u (by decide)).trans (congrFun (congrFun (congrFun (congrFun bo_9_92 (Cl (d))) vs) Q) u)
theorem bo_9_93 : bodyOf 93 = runB 93 B93 := (bo9_2 13 (by decide)).trans rfl
theorem cl_93 (d : Nat) (vs : List Int) (Q : Int → Sto → Prop) (u : Sto) : Cl (d + 1) 93 vs Q u = (runB 93 B93) (Cl d) vs Q u := (cl_u d 93 vs Q u (by decide)).trans (congrFun (congrFun (congrFun (congrFun bo_9_93 (Cl (d))) vs) Q) u)
theorem bo_9_94 : bodyOf 94 = runB 94 B94 := (bo9_2 14 (by decide)).trans rfl
theorem cl_94 (d : Nat) (vs : List Int) (Q : Int → Sto → Prop) (u : Sto) : Cl (d + 1) 94 vs Q u = (runB 94 B94) (Cl d) vs Q u := (cl_u d 94 vs Q u (by decide)).trans (congrFun (congrFun (congrFun (congrFun bo_9_94 (Cl (d))) vs) Q) u)
theorem bo_9_95 : bodyOf 95 = runB 95 B95 := (bo9_2 15 (by decide)).trans rfl
theorem cl_95 (d : Nat) (vs : List Int) (Q : Int → Sto → Prop) (u : Sto) : Cl (d + 1) 95 vs Q u = (runB 95 B95) (Cl d) vs Q u := (cl_u d 95 vs Q u (by decide)).trans (congrFun (congrFun (congrFun (congrFun bo_9_95 (Cl (d))) vs) Q) u)
theorem bo_9_96 : bodyOf 96 = runB 96 B96 := (bo9_2 16 (by decide)).trans rfl
theorem cl_96 (d : Nat) (vs : List Int) (Q : Int → Sto → Prop) (u : Sto) : Cl (d + 1) 96 vs Q u = (runB 96 B96) (Cl d) vs Q u := (cl_u d 96 vs Q u (by decide)).trans (congrFun (congrFun (congrFun (congrFun bo_9_96 (Cl (d))) vs) Q) u)
theorem bo_9_97 : bodyOf 97 = runB 97 B97 := (bo9_2 17 (by decide)).trans rfl
theorem cl_97 (d : Nat) (vs : List Int) (Q : Int → Sto → Prop) (u : Sto) : Cl (d + 1) 97 vs Q u = (runB 97 B97) (Cl d) vs Q u := (cl_u d 97 vs Q u (by decide)).trans (congrFun (congrFun (congrFun (congrFun bo_9_97 (Cl (d))) vs) Q) u)
theorem bo_9_98 : bodyOf 98 = runB 98 B98 := (bo9_2 18 (by decide)).trans rfl
theorem cl_98 (d : Nat) (vs : List Int) (Q : Int → Sto → Prop) (u : Sto) : Cl (d + 1) 98 vs Q u = (runB 98 B98) (Cl d) vs Q u := (cl_u d 98 vs Q u (by decide)).trans (congrFun (congrFun (congrFun (congrFun bo_9_98 (Cl (d))) vs) Q) u)
theorem bo_9_99 : bodyOf 99 = runB 99 B99 := (bo9_2 19 (by decide)).trans rfl
theorem cl_99 (d : Nat) (vs : List Int) (Q : Int → Sto → Prop) (u : Sto) : Cl (d + 1) 99 vs Q u = (runB 99 B99) (Cl d) vs Q u := (cl_u d 99 vs Q u (by decide)).trans (congrFun (congrFun (congrFun (congrFun bo_9_99 (Cl (d))) vs) Q) u)
theorem bo_9_100 : bodyOf 100 = runB 100 B100 := (bo9_2 20 (by decide)).trans rfl
theorem cl_100 (d : Nat) (vs : List Int) (Q : Int → Sto → Prop) (u : Sto) : Cl (d + 1) 100 vs Q u = (runB 100 B100) (Cl d) vs Q u := (cl_u d 100 vs Q u (by decide)).trans (congrFun (congrFun (congrFun (congrFun bo_9_100 (Cl (d))) vs) Q) u)
theorem bo_9_101 : bodyOf 101 = runB 101 B101 := (bo9_2 21 (by decide)).trans rfl
theorem cl_101 (d : Nat) (vs : List Int) (Q : Int → Sto → Prop) (u : Sto) : Cl (d + 1) 101 vs Q u = (runB 101 B101) (Cl d) vs Q u := (cl_u d 101 vs Q u (by decide)).trans (congrFun (congrFun (congrFun (congrFun bo_9_101 (Cl (d))) vs) Q) u)
theorem bo_9_102 : bodyOf 102 = runB 102 B102 := (bo9_2 22 (by decide)).trans rfl
theorem cl_102 (d : Nat) (vs : List Int) (Q : Int → Sto → Prop) (u : Sto) : Cl (d + 1) 102 vs Q u = (runB 102 B102) (Cl d) vs Q u := (cl_u d 102 vs Q u (by decide)).trans (congrFun (congrFun (congrFun (congrFun bo_9_102 (Cl (d))) vs) Q) u)
theorem bo_9_103 : bodyOf 103 = runB 103 B103 := (bo9_2 23 (by decide)).trans rfl
theorem cl_103 (d : Nat) (vs : List Int) (Q : Int → Sto → Prop) (u : Sto) : Cl (d + 1) 103 vs Q u = (runB 103 B103) (Cl d) vs Q u := (cl_u d 103 vs Q u (by decide)).trans (congrFun (congrFun (congrFun (congrFun bo_9_103 (Cl (d))) vs) Q) u)
theorem bo_9_104 : bodyOf 104 = runB 104 B104 := (bo9_2 24 (by decide)).trans rfl
theorem cl_104 (d : Nat) (vs : List Int) (Q : Int → Sto → Prop) (u : Sto) : Cl (d + 1) 104 vs Q u = (runB 104 B104) (Cl d) vs Q u := (cl_u d 104 vs Q u (by decide)).trans (congrFun (congrFun (congrFun (congrFun bo_9_104 (Cl (d))) vs) Q) u)
theorem bo_9_105 : bodyOf 105 = runB 105 B105 := (bo9_2 25 (by decide)).trans rfl
theorem cl_105 (d : Nat) (vs : List Int) (Q : Int → Sto → Prop) (u : Sto) : Cl (d + 1) 105 vs Q u = (runB 105 B105) (Cl d) vs Q u := (cl_u d 105 vs Q u (by decide)).trans (congrFun (congrFun (congrFun (congrFun bo_9_105 (Cl (d))) vs) Q) u)
theorem bo_9_106 : bodyOf 106 = runB 106 B106 := (bo9_2 26 (by decide)).trans rfl
theorem cl_106 (d : Nat) (vs : List Int) (Q : Int → Sto → Prop) (u : Sto) : Cl (d + 1) 106 vs Q u = (runB 106 B106) (Cl d) vs Q u := (cl_u d 106 vs Q u (by decide)).trans (congrFun (congrFun (congrFun (congrFun bo_9_106 (Cl (d))) vs) Q) u)
theorem bo_9_107 : bodyOf 107 = runB 107 B107 := (bo9_2 27 (by decide)).trans rfl
theorem cl_107 (d : Nat) (vs : List Int) (Q : Int → Sto → Prop) (u : Sto) : Cl (d + 1) 107 vs Q u = (runB 107 B107) (Cl d) vs Q u := (cl_u d 107 vs Q u (by decide)).trans (congrFun (congrFun (congrFun (congrFun bo_9_107 (Cl (d))) vs) Q) u)
theorem bo_9_108 : bodyOf 108 = runB 108 B108 := (bo9_2 28 (by decide)).trans rfl
theorem cl_108 (d : Nat) (vs : List Int) (Q : Int → Sto → Prop) (u : Sto) : Cl (d + 1) 108 vs Q u = (runB 108 B108) (Cl d) vs Q u := (cl_u d 108 vs Q u (by decide)).trans (congrFun (congrFun (congrFun (congrFun bo_9_108 (Cl (d))) vs) Q) u)
theorem bo_9_109 : bodyOf 109 = runB 109 B109 := (bo9_2 29 (by decide)).trans rfl
theorem cl_109 (d : Nat) (vs : List Int) (Q : Int → Sto → Prop) (u : Sto) : Cl (d + 1) 109 vs Q u = (runB 109 B109) (Cl d) vs Q u := (cl_u d 109 vs Q u (by decide)).trans (congrFun (congrFun (congrFun (congrFun bo_9_109 (Cl (d))) vs) Q) u)
theorem bo_9_110 : bodyOf 110 = runB 110 B110 := (bo9_2 30 (by decide)).trans rfl
theorem cl_110 (d : Nat) (vs : List Int) (Q : Int → Sto → Prop) (u : Sto) : Cl (d + 1) 110 vs Q u = (runB 110 B110) (Cl d) vs Q u := (cl_u d 110 vs Q u (by decide)).trans (congrFun (congrFun (congrFun (congrFun bo_9_110 (Cl (d))) vs) Q) u)
theorem bo_9_111 : bodyOf 111 = runB 111 B111 := (bo9_2 31 (by decide)).trans rfl
theorem cl_111 (d : Nat) (vs : List Int) (Q : Int → Sto → Prop) (u : Sto) : Cl (d + 1) 111 vs Q u = (runB 111 B111) (Cl d) vs Q u := (cl_u d 111 vs Q u (by decide)).trans (congrFun (congrFun (congrFun (congrFun bo_9_111 (Cl (d))) vs) Q) u)
theorem bo_9_112 : bodyOf 112 = runB 112 B112 := (bo9_2 32 (by decide)).trans rfl
theorem cl_112 (d : Nat) (vs : List Int) (Q : Int → Sto → Prop) (u : Sto) : Cl (d + 1) 112 vs Q u = (runB 112 B112) (Cl d) vs Q u := (cl_u d 112 vs Q u (by decide)).trans (congrFun (congrFun (congrFun (congrFun bo_9_112 (Cl (d))) vs) Q) u)
theorem bo_9_113 : bodyOf 113 = runB 113 B113 := (bo9_2 33 (by decide)).trans rfl
theorem cl_113 (d : Nat) (vs : List Int) (Q : Int → Sto → Prop) (u : Sto) : Cl (d + 1) 113 vs Q u = (runB 113 B113) (Cl d) vs Q u := (cl_u d 113 vs Q u (by decide)).trans (congrFun (congrFun (congrFun (congrFun bo_9_113 (Cl (d))) vs) Q) u)
theorem bo_9_114 : bodyOf 114 = runB 114 B114 := (bo9_2 34 (by decide)).trans rfl
theorem cl_114 (d : Nat) (vs : List Int) (Q : Int → Sto → Prop) (u : Sto) : Cl (d + 1) 114 vs Q u = (runB 114 B114) (Cl d) vs Q u := (cl_u d 114 vs Q u (by decide)).trans (congrFun (congrFun (congrFun (congrFun bo_9_114 (Cl (d))) vs) Q) u)
theorem bo_9_115 : bodyOf 115 = runB 115 B115 := (bo9_2 35 (by decide)).trans rfl
theorem cl_115 (d : Nat) (vs : List Int) (Q : Int → Sto → Prop) (u : Sto) : Cl (d + 1) 115 vs Q u = (runB 115 B115) (Cl d) vs Q u := (cl_u d 115 vs Q u (by decide)).trans (congrFun (congrFun (congrFun (congrFun bo_9_115 (Cl (d))) vs) Q) u)
theorem bo_9_116 : bodyOf 116 = runB 116 B116 := (bo9_2 36 (by decide)).trans rfl
theorem cl_116 (d : Nat) (vs : List Int) (Q : Int → Sto → Prop) (u : Sto) : Cl (d + 1) 116 vs Q u = (runB 116 B116) (Cl d) vs Q u := (cl_u d 116 vs Q u (by decide)).trans (congrFun (congrFun (congrFun (congrFun bo_9_116 (Cl (d))) vs) Q) u)
theorem bo_9_117 : bodyOf 117 = runB 117 B117 := (bo9_2 37 (by decide)).trans rfl
theorem cl_117 (d : Nat) (vs : List Int) (Q : Int → Sto → Prop) (u : Sto) : Cl (d + 1) 117 vs Q u = (runB 117 B117) (Cl d) vs Q u := (cl_u d 117 vs Q u (by decide)).trans (congrFun (congrFun (congrFun (congrFun bo_9_117 (Cl (d))) vs) Q) u)
theorem bo_9_118 : bodyOf 118 = runB 118 B118 := (bo9_2 38 (by decide)).trans rfl
theorem cl_118 (d : Nat) (vs : List Int) (Q : Int → Sto → Prop) (u : Sto) : Cl (d + 1) 118 vs Q u = (runB 118 B118) (Cl d) vs Q u := (cl_u d 118 vs Q u (by decide)).trans (congrFun (congrFun (congrFun (congrFun bo_9_118 (Cl (d))) vs) Q) u)
theorem bo_9_119 : bodyOf 119 = runB 119 B119 := (bo9_2 39 (by decide)).trans rfl
theorem cl_119 (d : Nat) (vs : List Int) (Q : Int → Sto → Prop) (u : Sto) : Cl (d + 1) 119 vs Q u = (runB 119 B119) (Cl d) vs Q u := (cl_u d 119 vs Q u (by decide)).trans (congrFun (congrFun (congrFun (congrFun bo_9_119 (Cl (d))) vs) Q) u)
theorem bo_9_120 : bodyOf 120 = runB 120 B120 := (bo9_3 0 (by decide)).trans rfl
theorem cl_120 (d : Nat) (vs : List Int) (Q : Int → Sto → Prop) (u : Sto) : Cl (d + 1) 120 vs Q u = (runB 120 B120) (Cl d) vs Q u := (cl_u d 120 vs Q u (by decide)).trans (congrFun (congrFun (congrFun (congrFun bo_9_120 (Cl (d))) vs) Q) u)
theorem bo_9_121 : bodyOf 121 = runB 121 B121 := (bo9_3 1 (by decide)).trans rfl
theorem cl_121 (d : Nat) (vs : List Int) (Q : Int → Sto → Prop) (u : Sto) : Cl (d + 1) 121 vs Q u = (runB 121 B121) (Cl d) vs Q u := (cl_u d 121 vs Q u (by decide)).trans (congrFun (congrFun (congrFun (congrFun bo_9_121 (Cl (d))) vs) Q) u)
theorem bo_9_122 : bodyOf 122 = runB 122 B122 := (bo9_3 2 (by decide)).trans rfl
theorem cl_122 (d : Nat) (vs : List Int) (Q : Int → Sto → Prop) (u : Sto) : Cl (d + 1) 122 vs Q u = (runB 122 B122) (Cl d) vs Q u := (cl_u d 122 vs Q u (by decide)).trans (congrFun (congrFun (congrFun (congrFun bo_9_122 (Cl (d))) vs) Q) u)
theorem bo_9_123 : bodyOf 123 = runB 123 B123 := (bo9_3 3 (by decide)).trans rfl
theorem cl_123 (d : Nat) (vs : List Int) (Q : Int → Sto → Prop) (u : Sto) : Cl (d + 1) 123 vs Q u = (runB 123 B123) (Cl d) vs Q u := (cl_u d 123 vs Q u (by decide)).trans (congrFun (congrFun (congrFun (congrFun bo_9_123 (Cl (d))) vs) Q) u)
theorem bo_9_124 : bodyOf 124 = runB 124 B124 := (bo9_3 4 (by decide)).trans rfl
theorem cl_124 (d : Nat) (vs : List Int) (Q : Int → Sto → Prop) (u : Sto) : Cl (d + 1) 124 vs Q u = (runB 124 B124) (Cl d) vs Q u := (cl_u d 124 vs Q u (by decide)).trans (congrFun (congrFun (congrFun (congrFun bo_9_124 (Cl (d))) vs) Q) u)
theorem bo_9_125 : bodyOf 125 = runB 125 B125 := (bo9_3 5 (by decide)).trans rfl
theorem cl_125 (d : Nat) (vs : List Int) (Q : Int → Sto → Prop) (u : Sto) : Cl (d + 1) 125 vs Q u = (runB 125 B125) (Cl d) vs Q u := (cl_u d 125 vs Q u (by decide)).trans (congrFun (congrFun (congrFun (congrFun bo_9_125 (Cl (d))) vs) Q) u)
theorem bo_9_126 : bodyOf 126 = runB 126 B126 := (bo9_3 6 (by decide)).trans rfl
theorem cl_126 (d : Nat) (vs : List Int) (Q : Int → Sto → Prop) (u : Sto) : Cl (d + 1) 126 vs Q u = (runB 126 B126) (Cl d) vs Q u := (cl_u d 126 vs Q u (by decide)).trans (congrFun (congrFun (congrFun (congrFun bo_9_126 (Cl (d))) vs) Q) u)
theorem bo_9_127 : bodyOf 127 = runB 127 B127 := (bo9_3 7 (by decide)).trans rfl
theorem cl_127 (d : Nat) (vs : List Int) (Q : Int → Sto → Prop) (u : Sto) : Cl (d + 1) 127 vs Q u = (runB 127 B127) (Cl d) vs Q u := (cl_u d 127 vs Q u (by decide)).trans (congrFun (congrFun (congrFun (congrFun bo_9_127 (Cl (d))) vs) Q) u)
theorem bo_9_128 : bodyOf 128 = runB 128 B128 := (bo9_3 8 (by decide)).trans rfl
theorem cl_128 (d : Nat) (vs : List Int) (Q : Int → Sto → Prop) (u : Sto) : Cl (d + 1) 128 vs Q u = (runB 128 B128) (Cl d) vs Q u := (cl_u d 128 vs Q u (by decide)).trans (congrFun (congrFun (congrFun (congrFun bo_9_128 (Cl (d))) vs) Q) u)
theorem bo_9_129 : bodyOf 129 = runB 129 B129 := (bo9_3 9 (by decide)).trans rfl
theorem cl_129 (d : Nat) (vs : List Int) (Q : Int → Sto → Prop) (u : Sto) : Cl (d + 1) 129 vs Q u = (runB 129 B129) (Cl d) vs Q u := (cl_u d 129 vs Q u (by decide)).trans (congrFun (congrFun (congrFun (congrFun bo_9_129 (Cl (d))) vs) Q) u)
theorem bo_9_130 : bodyOf 130 = runB 130 B130 := (bo9_3 10 (by decide)).trans rfl
theorem cl_130 (d : Nat) (vs : List Int) (Q : Int → Sto → Prop) (u : Sto) : Cl (d + 1) 130 vs Q u = (runB 130 B130) (Cl d) vs Q u := (cl_u d 130 vs Q u (by decide)).trans (congrFun (congrFun (congrFun (congrFun bo_9_130 (Cl (d))) vs) Q) u)
theorem bo_9_131 : bodyOf 131 = runB 131 B131 := (bo9_3 11 (by decide)).trans rfl
theorem cl_131 (d : Nat) (vs : List Int) (Q : Int → Sto → Prop) (u : Sto) : Cl (d + 1) 131 vs Q u = (runB 131 B131) (Cl d) vs Q u := (cl_u d 131 vs Q u (by decide)).trans (congrFun (congrFun (congrFun (congrFun bo_9_131 (Cl (d))) vs) Q) u)
theorem bo_9_132 : bodyOf 132 = runB 132 B132 := (bo9_3 12 (by decide)).trans rfl
theorem cl_132 (d : Nat) (vs : List Int) (Q : Int → Sto → Prop) (u : Sto) : Cl (d + 1) 132 vs Q u = (runB 132 B132) (Cl d) vs Q u := (cl_u d 132 vs Q u (by decide)).trans (congrFun (congrFun (congrFun (congrFun bo_9_132 (Cl (d))) vs) Q) u)
theorem bo_9_133 : bodyOf 133 = runB 133 B133 := (bo9_3 13 (by decide)).trans rfl
theorem cl_133 (d : Nat) (vs : List Int) (Q : Int → Sto → Prop) (u : Sto) : Cl (d + 1) 133 vs Q u = (runB 133 B133) (Cl d) vs Q u := (cl_u d 133 vs Q u (by decide)).trans (congrFun (congrFun (congrFun (congrFun bo_9_133 (Cl (d))) vs) Q) u)
theorem bo_9_134 : bodyOf 134 = runB 134 B134 := (bo9_3 14 (by decide)).trans rfl
theorem cl_134 (d : Nat) (vs : List Int) (Q : Int → Sto → Prop) (u : Sto) : Cl (d + 1) 134 vs Q u = (runB 134 B134) (Cl d) vs Q u := (cl_u d 134 vs Q u (by decide)).trans (congrFun (congrFun (congrFun (congrFun bo_9_134 (Cl (d))) vs) Q) u)
theorem bo_9_135 : bodyOf 135 = runB 135 B135 := (bo9_3 15 (by decide)).trans rfl
theorem cl_135 (d : Nat) (vs : List Int) (Q : Int → Sto → Prop) (u : Sto) : Cl (d + 1) 135 vs Q u = (runB 135 B135) (Cl d) vs Q u := (cl_u d 135 vs Q u (by decide)).trans (congrFun (congrFun (congrFun (congrFun bo_9_135 (Cl (d))) vs) Q) u)
theorem bo_9_136 : bodyOf 136 = runB 136 B136 := (bo9_3 16 (by decide)).trans rfl
theorem cl_136 (d : Nat) (vs : List Int) (Q : Int → Sto → Prop) (u : Sto) : Cl (d + 1) 136 vs Q u = (runB 136 B136) (Cl d) vs Q u := (cl_u d 136 vs Q u (by decide)).trans (congrFun (congrFun (congrFun (congrFun bo_9_136 (Cl (d))) vs) Q) u)
theorem bo_9_137 : bodyOf 137 = runB 137 B137 := (bo9_3 17 (by decide)).trans rfl
theorem cl_137 (d : Nat) (vs : List Int) (Q : Int → Sto → Prop) (u : Sto) : Cl (d + 1) 137 vs Q u = (runB 137 B137) (Cl d) vs Q u := (cl_u d 137 vs Q u (by decide)).trans (congrFun (congrFun (congrFun (congrFun bo_9_137 (Cl (d))) vs) Q) u)
theorem bo_9_138 : bodyOf 138 = runB 138 B138 := (bo9_3 18 (by decide)).trans rfl
theorem cl_138 (d : Nat) (vs : List Int) (Q : Int → Sto → Prop) (u : Sto) : Cl (d + 1) 138 vs Q u = (runB 138 B138) (Cl d) vs Q u := (cl_u d 138 vs Q u (by decide)).trans (congrFun (congrFun (congrFun (congrFun bo_9_138 (Cl (d))) vs) Q) u)
theorem bo_9_139 : bodyOf 139 = runB 139 B139 := (bo9_3 19 (by decide)).trans rfl
theorem cl_139 (d : Nat) (vs : List Int) (Q : Int → Sto → Prop) (u : Sto) : Cl (d + 1) 139 vs Q u = (runB 139 B139) (Cl d) vs Q u := (cl_u d 139 vs Q u (by decide)).trans (congrFun (congrFun (congrFun (congrFun bo_9_139 (Cl (d))) vs) Q) u)
theorem bo_9_140 : bodyOf 140 = runB 140 B140 := (bo9_3 20 (by decide)).trans rfl
theorem cl_140 (d : Nat) (vs : List Int) (Q : Int → Sto → Prop) (u : Sto) : Cl (d + 1) 140 vs Q u = (runB 140 B140) (Cl d) vs Q u := (cl_u d 140 vs Q u (by decide)).trans (congrFun (congrFun (congrFun (congrFun bo_9_140 (Cl (d))) vs) Q) u)
theorem bo_9_141 : bodyOf 141 = runB 141 B141 := (bo9_3 21 (by decide)).trans rfl
theorem cl_141 (d : Nat) (vs : List Int) (Q : Int → Sto → Prop) (u : Sto) : Cl (d + 1) 141 vs Q u = (runB 141 B141) (Cl d) vs Q u := (cl_u d 141 vs Q u (by decide)).trans (congrFun (congrFun (congrFun (congrFun bo_9_141 (Cl (d))) vs) Q) u)
theorem bo_9_142 : bodyOf 142 = runB 142 B142 := (bo9_3 22 (by decide)).trans rfl
theorem cl_142 (d : Nat) (vs : List Int) (Q : Int → Sto → Prop) (u : Sto) : Cl (d + 1) 142 vs Q u = (runB 142 B142) (Cl d) vs Q u := (cl_u d 142 vs Q u (by decide)).trans (congrFun (congrFun (congrFun (congrFun bo_9_142 (Cl (d))) vs) Q) u)
theorem bo_9_143 : bodyOf 143 = runB 143 B143 := (bo9_3 23 (by decide)).trans rfl
theorem cl_143 (d : Nat) (vs : List Int) (Q : Int → Sto → Prop) (u : Sto) : Cl (d + 1) 143 vs Q u = (runB 143 B143) (Cl d) vs Q u := (cl_u d 143 vs Q u (by decide)).trans (congrFun (congrFun (congrFun (congrFun bo_9_143 (Cl (d))) vs) Q) u)
theorem bo_9_144 : bodyOf 144 = runB 144 B144 := (bo9_3 24 (by decide)).trans rfl
theorem cl_144 (d : Nat) (vs : List Int) (Q : Int → Sto → Prop) (u : Sto) : Cl (d + 1) 144 vs Q u = (runB 144 B144) (Cl d) vs Q u := (cl_u d 144 vs Q u (by decide)).trans (congrFun (congrFun (congrFun (congrFun bo_9_144 (Cl (d))) vs) Q) u)
theorem bo_9_145 : bodyOf 145 = runB 145 B145 := (bo9_3 25 (by decide)).trans rfl
theorem cl_145 (d : Nat) (vs : List Int) (Q : Int → Sto → Prop) (u : Sto) : Cl (d + 1) 145 vs Q u = (runB 145 B145) (Cl d) vs Q u := (cl_u d 145 vs Q u (by decide)).trans (congrFun (congrFun (congrFun (congrFun bo_9_145 (Cl (d))) vs) Q) u)
theorem bo_9_146 : bodyOf 146 = runB 146 B146 := (bo9_3 26 (by decide)).trans rfl
theorem cl_146 (d : Nat) (vs : List Int) (Q : Int → Sto → Prop) (u : Sto) : Cl (d + 1) 146 vs Q u = (runB 146 B146) (Cl d) vs Q u := (cl_u d 146 vs Q u (by decide)).trans (congrFun (congrFun (congrFun (congrFun bo_9_146 (Cl (d))) vs) Q) u)
theorem bo_9_147 : bodyOf 147 = runB 147 B147 := (bo9_3 27 (by decide)).trans rfl
theorem cl_147 (d : Nat) (vs : List Int) (Q : Int → Sto → Prop) (u : Sto) : Cl (d + 1) 147 vs Q u = (runB 147 B147) (Cl d) vs Q u := (cl_u d 147 vs Q u (by decide)).trans (congrFun (congrFun (congrFun (congrFun bo_9_147 (Cl (d))) vs) Q) u)
theorem bo_9_148 : bodyOf 148 = runB 148 B148 := (bo9_3 28 (by decide)).trans rfl
theorem cl_148 (d : Nat) (vs : List Int) (Q : Int → Sto → Prop) (u : Sto) : Cl (d + 1) 148 vs Q u = (runB 148 B148) (Cl d) vs Q u := (cl_u d 148 vs Q u (by decide)).trans (congrFun (congrFun (congrFun (congrFun bo_9_148 (Cl (d))) vs) Q) u)
theorem bo_9_149 : bodyOf 149 = runB 149 B149 := (bo9_3 29 (by decide)).trans rfl
theorem cl_149 (d : Nat) (vs : List Int) (Q : Int → Sto → Prop) (u : Sto) : Cl (d + 1) 149 vs Q u = (runB 149 B149) (Cl d) vs Q u := (cl_u d 149 vs Q u (by decide)).trans (congrFun (congrFun (congrFun (congrFun bo_9_149 (Cl (d))) vs) Q) u)
theorem bo_9_150 : bodyOf 150 = runB 150 B150 := (bo9_3 30 (by decide)).trans rfl
theorem cl_150 (d : Nat) (vs : List Int) (Q : Int → Sto → Prop) (u : Sto) : Cl (d + 1) 150 vs Q u = (runB 150 B150) (Cl d) vs Q u := (cl_u d 150 vs Q u (by decide)).trans (congrFun (congrFun (congrFun (congrFun bo_9_150 (Cl (d))) vs) Q) u)
theorem bo_9_151 : bodyOf 151 = runB 151 B151 := (bo9_3 31 (by decide)).trans rfl
theorem cl_151 (d : Nat) (vs : List Int) (Q : Int → Sto → Prop) (u : Sto) : Cl (d + 1) 151 vs Q u = (runB 151 B151) (Cl d) vs Q u := (cl_u d 151 vs Q u (by decide)).trans (congrFun (congrFun (congrFun (congrFun bo_9_151 (Cl (d))) vs) Q) u)
theorem bo_9_152 : bodyOf 152 = runB 152 B152 := (bo9_3 32 (by decide)).trans rfl
theorem cl_152 (d : Nat) (vs : List Int) (Q : Int → Sto → Prop) (u : Sto) : Cl (d + 1) 152 vs Q u = (runB 152 B152) (Cl d) vs Q u := (cl_u d 152 vs Q u (by decide)).trans (congrFun (congrFun (congrFun (congrFun bo_9_152 (Cl (d))) vs) Q) u)
theorem bo_9_153 : bodyOf 153 = runB 153 B153 := (bo9_3 33 (by decide)).trans rfl
theorem cl_153 (d : Nat) (vs : List Int) (Q : Int → Sto → Prop) (u : Sto) : Cl (d + 1) 153 vs Q u = (runB 153 B153) (Cl d) vs Q u := (cl_u d 153 vs Q u (by decide)).trans (congrFun (congrFun (congrFun (congrFun bo_9_153 (Cl (d))) vs) Q) u)
theorem bo_9_154 : bodyOf 154 = runB 154 B154 := (bo9_3 34 (by decide)).trans rfl
theorem cl_154 (d : Nat) (vs : List Int) (Q : Int → Sto → Prop) (u : Sto) : Cl (d + 1) 154 vs Q u = (runB 154 B154) (Cl d) vs Q u := (cl_u d 154 vs Q u (by decide)).trans (congrFun (congrFun (congrFun (congrFun bo_9_154 (Cl (d))) vs) Q) u)
theorem bo_9_155 : bodyOf 155 = runB 155 B155 := (bo9_3 35 (by decide)).trans rfl
theorem cl_155 (d : Nat) (vs : List Int) (Q : Int → Sto → Prop) (u : Sto) : Cl (d + 1) 155 vs Q u = (runB 155 B155) (Cl d) vs Q u := (cl_u d 155 vs Q u (by decide)).trans (congrFun (congrFun (congrFun (congrFun bo_9_155 (Cl (d))) vs) Q) u)
theorem cl_156 (d : Nat) (vs : List Int) (Q : Int → Sto → Prop) (u : Sto) : Cl (d + 1) 156 vs Q u = noB (Cl d) vs Q u := cl_u d 156 vs Q u (by decide)
theorem bo_9_157 : bodyOf 157 = runB 157 B157 := (bo9_3 37 (by decide)).trans rfl
theorem cl_157 (d : Nat) (vs : List Int) (Q : Int → Sto → Prop) (u : Sto) : Cl (d + 1) 157 vs Q u = (runB 157 B157) (Cl d) vs Q u := (cl_u d 157 vs Q u (by decide)).trans (congrFun (congrFun (congrFun (congrFun bo_9_157 (Cl (d))) vs) Q) u)
theorem bo_9_158 : bodyOf 158 = runB 158 B158 := (bo9_3 38 (by decide)).trans rfl
theorem cl_158 (d : Nat) (vs : List Int) (Q : Int → Sto → Prop) (u : Sto) : Cl (d + 1) 158 vs Q u = (runB 158 B158) (Cl d) vs Q u := (cl_u d 158 vs Q u (by decide)).trans (congrFun (congrFun (congrFun (congrFun bo_9_158 (Cl (d))) vs) Q) u)
theorem bo_9_159 : bodyOf 159 = runB 159 B159 := (bo9_3 39 (by decide)).trans rfl
theorem cl_159 (d : Nat) (vs : List Int) (Q : Int → Sto → Prop) (u : Sto) : Cl (d + 1) 159 vs Q u = (runB 159 B159) (Cl d) vs Q u := (cl_u d 159 vs Q u (by decide)).trans (congrFun (congrFun (congrFun (congrFun bo_9_159 (Cl (d))) vs) Q) u)
theorem cl_160 (d : Nat) (vs : List Int) (Q : Int → Sto → Prop) (u : Sto) : Cl (d + 1) 160 vs Q u = noB (Cl d) vs Q u := cl_u d 160 vs Q u (by decide)
theorem cl_161 (d : Nat) (vs : List Int) (Q : Int → Sto → Prop) (u : Sto) : Cl (d + 1) 161 vs Q u = noB (Cl d) vs Q u := cl_u d 161 vs Q u (by decide)
theorem cl_162 (d : Nat) (vs : List Int) (Q : Int → Sto → Prop) (u : Sto) : Cl (d + 1) 162 vs Q u = noB (Cl d) vs Q u := cl_u d 162 vs Q u (by decide)
theorem bo_9_163 : bodyOf 163 = runB 163 B163 := (bo9_4 3 (by decide)).trans rfl
theorem cl_163 (d : Nat) (vs : List Int) (Q : Int → Sto → Prop) (u : Sto) : Cl (d + 1) 163 vs Q u = (runB 163 B163) (Cl d) vs Q u := (cl_u d 163 vs Q u (by decide)).trans (congrFun (congrFun (congrFun (congrFun bo_9_163 (Cl (d))) vs) Q) u)
theorem cl_164 (d : Nat) (vs : List Int) (Q : Int → Sto → Prop) (u : Sto) : Cl (d + 1) 164 vs Q u = noB (Cl d) vs Q u := cl_u d 164 vs Q u (by decide)
theorem bo_9_165 : bodyOf 165 = runB 165 B165 := (bo9_4 5 (by decide)).trans rfl
theorem cl_165 (d : Nat) (vs : List Int) (Q : Int → Sto → Prop) (u : Sto) : Cl (d + 1) 165 vs Q u = (runB 165 B165) (Cl d) vs Q u := (cl_u d 165 vs Q u (by decide)).trans (congrFun (congrFun (congrFun (congrFun bo_9_165 (Cl (d))) vs) Q) u)
theorem cl_166 (d : Nat) (vs : List Int) (Q : Int → Sto → Prop) (u : Sto) : Cl (d + 1) 166 vs Q u = noB (Cl d) vs Q u := cl_u d 166 vs Q u (by decide)
theorem bo_9_167 : bodyOf 167 = runB 167 B167 := (bo9_4 7 (by decide)).trans rfl
theorem cl_167 (d : Nat) (vs : List Int) (Q : Int → Sto → Prop) (u : Sto) : Cl (d + 1) 167 vs Q u = (runB 167 B167) (Cl d) vs Q u := (cl_u d 167 vs Q u (by decide)).trans (congrFun (congrFun (congrFun (congrFun bo_9_167 (Cl (d))) vs) Q) u)
theorem bo_9_168 : bodyOf 168 = runB 168 B168 := (bo9_4 8 (by decide)).trans rfl
theorem cl_168 (d : Nat) (vs : List Int) (Q : Int → Sto → Prop) (u : Sto) : Cl (d + 1) 168 vs Q u = (runB 168 B168) (Cl d) vs Q u := (cl_u d 168 vs Q u (by decide)).trans (congrFun (congrFun (congrFun (congrFun bo_9_168 (Cl (d))) vs) Q) u)
theorem bo_9_169 : bodyOf 169 = runB 169 B169 := (bo9_4 9 (by decide)).trans rfl
theorem cl_169 (d : Nat) (vs : List Int) (Q : Int → Sto → Prop) (u : Sto) : Cl (d + 1) 169 vs Q u = (runB 169 B169) (Cl d) vs Q u := (cl_u d 169 vs Q u (by decide)).trans (congrFun (congrFun (congrFun (congrFun bo_9_169 (Cl (d))) vs) Q) u)
theorem bo_9_170 : bodyOf 170 = runB 170 B170 := (bo9_4 10 (by decide)).trans rfl
theorem cl_170 (d : Nat) (vs : List Int) (Q : Int → Sto → Prop) (u : Sto) : Cl (d + 1) 170 vs Q u = (runB 170 B170) (Cl d) vs Q u := (cl_u d 170 vs Q u (by decide)).trans (congrFun (congrFun (congrFun (congrFun bo_9_170 (Cl (d))) vs) Q) u)
theorem bo_9_171 : bodyOf 171 = runB 171 B171 := (bo9_4 11 (by decide)).trans rfl
theorem cl_171 (d : Nat) (vs : List Int) (Q : Int → Sto → Prop) (u : Sto) : Cl (d + 1) 171 vs Q u = (runB 171 B171) (Cl d) vs Q u := (cl_u d 171 vs Q u (by decide)).trans (congrFun (congrFun (congrFun (congrFun bo_9_171 (Cl (d))) vs) Q) u)
theorem bo_9_172 : bodyOf 172 = runB 172 B172 := (bo9_4 12 (by decide)).trans rfl
theorem cl_172 (d : Nat) (vs : List Int) (Q : Int → Sto → Prop) (u : Sto) : Cl (d + 1) 172 vs Q u = (runB 172 B172) (Cl d) vs Q u := (cl_u d 172 vs Q u (by decide)).trans (congrFun (congrFun (congrFun (congrFun bo_9_172 (Cl (d))) vs) Q) u)
theorem bo_9_173 : bodyOf 173 = runB 173 B173 := (bo9_4 13 (by decide)).trans rfl
theorem cl_173 (d : Nat) (vs : List Int) (Q : Int → Sto → Prop) (u : Sto) : Cl (d + 1) 173 vs Q u = (runB 173 B173) (Cl d) vs Q u := (cl_u d 173 vs Q u (by decide)).trans (congrFun (congrFun (congrFun (congrFun bo_9_173 (Cl (d))) vs) Q) u)
theorem bo_9_174 : bodyOf 174 = lenB := (bo9_4 14 (by decide)).trans rfl
theorem cl_174 (d : Nat) (vs : List Int) (Q : Int → Sto → Prop) (u : Sto) : Cl (d + 4) 174 vs Q u = lenB (Cl (d + 3)) vs Q u := (cl_s d 174 vs Q u).trans (congrFun (congrFun (congrFun (congrFun bo_9_174 (Cl (d + 3))) vs) Q) u)
theorem bo_9_175 : bodyOf 175 = chrB := (bo9_4 15 (by decide)).trans rfl
theorem cl_175 (d : Nat) (vs : List Int) (Q : Int → Sto → Prop) (u : Sto) : Cl (d + 4) 175 vs Q u = chrB (Cl (d + 3)) vs Q u := (cl_s d 175 vs Q u).trans (congrFun (congrFun (congrFun (congrFun bo_9_175 (Cl (d + 3))) vs) Q) u)
theorem bo_9_176 : bodyOf 176 = runB 176 B176 := (bo9_4 16 (by decide)).trans rfl
theorem cl_176 (d : Nat) (vs : List Int) (Q : Int → Sto → Prop) (u : Sto) : Cl (d + 1) 176 vs Q u = (runB 176 B176) (Cl d) vs Q u := (cl_u d 176 vs Q u (by decide)).trans (congrFun (congrFun (congrFun (congrFun bo_9_176 (Cl (d))) vs) Q) u)
theorem bo_9_177 : bodyOf 177 = runB 177 B177 := (bo9_4 17 (by decide)).trans rfl
theorem cl_177 (d : Nat) (vs : List Int) (Q : Int → Sto → Prop) (u : Sto) : Cl (d + 1) 177 vs Q u = (runB 177 B177) (Cl d) vs Q u := (cl_u d 177 vs Q u (by decide)).trans (congrFun (congrFun (congrFun (congrFun bo_9_177 (Cl (d))) vs) Q) u)
theorem bo_9_178 : bodyOf 178 = runB 178 B178 := (bo9_4 18 (by decide)).trans rfl
theorem cl_178 (d : Nat) (vs : List Int) (Q : Int → Sto → Prop) (u : Sto) : Cl (d + 1) 178 vs Q u = (runB 178 B178) (Cl d) vs Q u := (cl_u d 178 vs Q u (by decide)).trans (congrFun (congrFun (congrFun (congrFun bo_9_178 (Cl (d))) vs) Q) u)
theorem bo_9_179 : bodyOf 179 = runB 179 B179 := (bo9_4 19 (by decide)).trans rfl
theorem cl_179 (d : Nat) (vs : List Int) (Q : Int → Sto → Prop) (u : Sto) : Cl (d + 1) 179 vs Q u = (runB 179 B179) (Cl d) vs Q u := (cl_u d 179 vs Q u (by decide)).trans (congrFun (congrFun (congrFun (congrFun bo_9_179 (Cl (d))) vs) Q) u)
theorem bo_9_180 : bodyOf 180 = runB 180 B180 := (bo9_4 20 (by decide)).trans rfl
theorem cl_180 (d : Nat) (vs : List Int) (Q : Int → Sto → Prop) (u : Sto) : Cl (d + 1) 180 vs Q u = (runB 180 B180) (Cl d) vs Q u := (cl_u d 180 vs Q u (by decide)).trans (congrFun (congrFun (congrFun (congrFun bo_9_180 (Cl (d))) vs) Q) u)
theorem bo_9_181 : bodyOf 181 = runB 181 B181 := (bo9_4 21 (by decide)).trans rfl
theorem cl_181 (d : Nat) (vs : List Int) (Q : Int → Sto → Prop) (u : Sto) : Cl (d + 1) 181 vs Q u = (runB 181 B181) (Cl d) vs Q u := (cl_u d 181 vs Q u (by decide)).trans (congrFun (congrFun (congrFun (congrFun bo_9_181 (Cl (d))) vs) Q) u)
theorem bo_9_182 : bodyOf 182 = runB 182 B182 := (bo9_4 22 (by decide)).trans rfl
theorem cl_182 (d : Nat) (vs : List Int) (Q : Int → Sto → Prop) (u : Sto) : Cl (d + 1) 182 vs Q u = (runB 182 B182) (Cl d) vs Q u := (cl_u d 182 vs Q u (by decide)).trans (congrFun (congrFun (congrFun (congrFun bo_9_182 (Cl (d))) vs) Q) u)
theorem bo_9_183 : bodyOf 183 = runB 183 B183 := (bo9_4 23 (by decide)).trans rfl
theorem cl_183 (d : Nat) (vs : List Int) (Q : Int → Sto → Prop) (u : Sto) : Cl (d + 1) 183 vs Q u = (runB 183 B183) (Cl d) vs Q u := (cl_u d 183 vs Q u (by decide)).trans (congrFun (congrFun (congrFun (congrFun bo_9_183 (Cl (d))) vs) Q) u)
theorem bo_9_184 : bodyOf 184 = runB 184 B184 := (bo9_4 24 (by decide)).trans rfl
theorem cl_184 (d : Nat) (vs : List Int) (Q : Int → Sto → Prop) (u : Sto) : Cl (d + 1) 184 vs Q u = (runB 184 B184) (Cl d) vs Q u := (cl_u d 184 vs Q u (by decide)).trans (congrFun (congrFun (congrFun (congrFun bo_9_184 (Cl (d))) vs) Q) u)
theorem bo_9_185 : bodyOf 185 = runB 185 B185 := (bo9_4 25 (by decide)).trans rfl
theorem cl_185 (d : Nat) (vs : List Int) (Q : Int → Sto → Prop) (u : Sto) : Cl (d + 1) 185 vs Q u = (runB 185 B185) (Cl d) vs Q u := (cl_u d 185 vs Q u (by decide)).trans (congrFun (congrFun (congrFun (congrFun bo_9_185 (Cl (d))) vs) Q) u)
theorem bo_9_186 : bodyOf 186 = runB 186 B186 := (bo9_4 26 (by decide)).trans rfl
theorem cl_186 (d : Nat) (vs : List Int) (Q : Int → Sto → Prop) (u : Sto) : Cl (d + 1) 186 vs Q u = (runB 186 B186) (Cl d) vs Q u := (cl_u d 186 vs Q u (by decide)).trans (congrFun (congrFun (congrFun (congrFun bo_9_186 (Cl (d))) vs) Q) u)
theorem bo_9_187 : bodyOf 187 = runB 187 B187 := (bo9_4 27 (by decide)).trans rfl
theorem cl_187 (d : Nat) (vs : List Int) (Q : Int → Sto → Prop) (u : Sto) : Cl (d + 1) 187 vs Q u = (runB 187 B187) (Cl d) vs Q u := (cl_u d 187 vs Q u (by decide)).trans (congrFun (congrFun (congrFun (congrFun bo_9_187 (Cl (d))) vs) Q) u)
theorem bo_9_188 : bodyOf 188 = runB 188 B188 := (bo9_4 28 (by decide)).trans rfl
theorem cl_188 (d : Nat) (vs : List Int) (Q : Int → Sto → Prop) (u : Sto) : Cl (d + 1) 188 vs Q u = (runB 188 B188) (Cl d) vs Q u := (cl_u d 188 vs Q u (by decide)).trans (congrFun (congrFun (congrFun (congrFun bo_9_188 (Cl (d))) vs) Q) u)
theorem bo_9_189 : bodyOf 189 = runB 189 B189 := (bo9_4 29 (by decide)).trans rfl
theorem cl_189 (d : Nat) (vs : List Int) (Q : Int → Sto → Prop) (u : Sto) : Cl (d + 1) 189 vs Q u = (runB 189 B189) (Cl d) vs Q u := (cl_u d 189 vs Q u (by decide)).trans (congrFun (congrFun (congrFun (congrFun bo_9_189 (Cl (d))) vs) Q) u)
theorem bo_9_190 : bodyOf 190 = runB 190 B190 := (bo9_4 30 (by decide)).trans rfl
theorem cl_190 (d : Nat) (vs : List Int) (Q : Int → Sto → Prop) (u : Sto) : Cl (d + 1) 190 vs Q u = (runB 190 B190) (Cl d) vs Q u := (cl_u d 190 vs Q u (by decide)).trans (congrFun (congrFun (congrFun (congrFun bo_9_190 (Cl (d))) vs) Q) u)
theorem bo_9_191 : bodyOf 191 = runB 191 B191 := (bo9_4 31 (by decide)).trans rfl
theorem cl_191 (d : Nat) (vs : List Int) (Q : Int → Sto → Prop) (u : Sto) : Cl (d + 1) 191 vs Q u = (runB 191 B191) (Cl d) vs Q u := (cl_u d 191 vs Q u (by decide)).trans (congrFun (congrFun (congrFun (congrFun bo_9_191 (Cl (d))) vs) Q) u)
theorem bo_9_192 : bodyOf 192 = runB 192 B192 := (bo9_4 32 (by decide)).trans rfl
theorem cl_192 (d : Nat) (vs : List Int) (Q : Int → Sto → Prop) (u : Sto) : Cl (d + 1) 192 vs Q u = (runB 192 B192) (Cl d) vs Q u := (cl_u d 192 vs Q u (by decide)).trans (congrFun (congrFun (congrFun (congrFun bo_9_192 (Cl (d))) vs) Q) u)
theorem bo_9_193 : bodyOf 193 = runB 193 B193 := (bo9_4 33 (by decide)).trans rfl
theorem cl_193 (d : Nat) (vs : List Int) (Q : Int → Sto → Prop) (u : Sto) : Cl (d + 1) 193 vs Q u = (runB 193 B193) (Cl d) vs Q u := (cl_u d 193 vs Q u (by decide)).trans (congrFun (congrFun (congrFun (congrFun bo_9_193 (Cl (d))) vs) Q) u)
theorem bo_9_194 : bodyOf 194 = runB 194 B194 := (bo9_4 34 (by decide)).trans rfl
theorem cl_194 (d : Nat) (vs : List Int) (Q : Int → Sto → Prop) (u : Sto) : Cl (d + 1) 194 vs Q u = (runB 194 B194) (Cl d) vs Q u := (cl_u d 194 vs Q u (by decide)).trans (congrFun (congrFun (congrFun (congrFun bo_9_194 (Cl (d))) vs) Q) u)
theorem bo_9_195 : bodyOf 195 = runB 195 B195 := (bo9_4 35 (by decide)).trans rfl
theorem cl_195 (d : Nat) (vs : List Int) (Q : Int → Sto → Prop) (u : Sto) : Cl (d + 1) 195 vs Q u = (runB 195 B195) (Cl d) vs Q u := (cl_u d 195 vs Q u (by decide)).trans (congrFun (congrFun (congrFun (congrFun bo_9_195 (Cl (d))) vs) Q) u)
theorem bo_9_196 : bodyOf 196 = runB 196 B196 := (bo9_4 36 (by decide)).trans rfl
theorem cl_196 (d : Nat) (vs : List Int) (Q : Int → Sto → Prop) (u : Sto) : Cl (d + 1) 196 vs Q u = (runB 196 B196) (Cl d) vs Q u := (cl_u d 196 vs Q u (by decide)).trans (congrFun (congrFun (congrFun (congrFun bo_9_196 (Cl (d))) vs) Q) u)
theorem bo_9_197 : bodyOf 197 = runB 197 B197 := (bo9_4 37 (by decide)).trans rfl
theorem cl_197 (d : Nat) (vs : List Int) (Q : Int → Sto → Prop) (u : Sto) : Cl (d + 1) 197 vs Q u = (runB 197 B197) (Cl d) vs Q u := (cl_u d 197 vs Q u (by decide)).trans (congrFun (congrFun (congrFun (congrFun bo_9_197 (Cl (d))) vs) Q) u)
theorem bo_9_198 : bodyOf 198 = runB 198 B198 := (bo9_4 38 (by decide)).trans rfl
theorem cl_198 (d : Nat) (vs : List Int) (Q : Int → Sto → Prop) (u : Sto) : Cl (d + 1) 198 vs Q u = (runB 198 B198) (Cl d) vs Q u := (cl_u d 198 vs Q u (by decide)).trans (congrFun (congrFun (congrFun (congrFun bo_9_198 (Cl (d))) vs) Q) u)
theorem bo_9_199 : bodyOf 199 = runB 199 B199 := (bo9_4 39 (by decide)).trans rfl
theorem cl_199 (d : Nat) (vs : List Int) (Q : Int → Sto → Prop) (u : Sto) : Cl (d + 1) 199 vs Q u = (runB 199 B199) (Cl d) vs Q u := (cl_u d 199 vs Q u (by decide)).trans (congrFun (congrFun (congrFun (congrFun bo_9_199 (Cl (d))) vs) Q) u)
theorem bo_9_200 : bodyOf 200 = runB 200 B200 := (bo9_5 0 (by decide)).trans rfl
theorem cl_200 (d : Nat) (vs : List Int) (Q : Int → Sto → Prop) (u : Sto) : Cl (d + 1) 200 vs Q u = (runB 200 B200) (Cl d) vs Q u := (cl_u d 200 vs Q u (by decide)).trans (congrFun (congrFun (congrFun (congrFun bo_9_200 (Cl (d))) vs) Q) u)
theorem bo_9_201 : bodyOf 201 = runB 201 B201 := (bo9_5 1 (by decide)).trans rfl
theorem cl_201 (d : Nat) (vs : List Int) (Q : Int → Sto → Prop) (u : Sto) : Cl (d + 1) 201 vs Q u = (runB 201 B201) (Cl d) vs Q u := (cl_u d 201 vs Q u (by decide)).trans (congrFun (congrFun (congrFun (congrFun bo_9_201 (Cl (d))) vs) Q) u)
theorem bo_9_202 : bodyOf 202 = runB 202 B202 := (bo9_5 2 (by decide)).trans rfl
theorem cl_202 (d : Nat) (vs : List Int) (Q : Int → Sto → Prop) (u : Sto) : Cl (d + 1) 202 vs Q u = (runB 202 B202) (Cl d) vs Q u := (cl_u d 202 vs Q u (by decide)).trans (congrFun (congrFun (congrFun (congrFun bo_9_202 (Cl (d))) vs) Q) u)
theorem bo_9_203 : bodyOf 203 = runB 203 B203 := (bo9_5 3 (by decide)).trans rfl
theorem cl_203 (d : Nat) (vs : List Int) (Q : Int → Sto → Prop) (u : Sto) : Cl (d + 1) 203 vs Q u = (runB 203 B203) (Cl d) vs Q u := (cl_u d 203 vs Q u (by decide)).trans (congrFun (congrFun (congrFun (congrFun bo_9_203 (Cl (d))) vs) Q) u)
theorem bo_9_204 : bodyOf 204 = runB 204 B204 := (bo9_5 4 (by decide)).trans rfl
theorem cl_204 (d : Nat) (vs : List Int) (Q : Int → Sto → Prop) (u : Sto) : Cl (d + 1) 204 vs Q u = (runB 204 B204) (Cl d) vs Q u := (cl_u d 204 vs Q u (by decide)).trans (congrFun (congrFun (congrFun (congrFun bo_9_204 (Cl (d))) vs) Q) u)
theorem bo_9_205 : bodyOf 205 = runB 205 B205 := (bo9_5 5 (by decide)).trans rfl
theorem cl_205 (d : Nat) (vs : List Int) (Q : Int → Sto → Prop) (u : Sto) : Cl (d + 1) 205 vs Q u = (runB 205 B205) (Cl d) vs Q u := (cl_u d 205 vs Q u (by decide)).trans (congrFun (congrFun (congrFun (congrFun bo_9_205 (Cl (d))) vs) Q) u)
theorem bo_9_206 : bodyOf 206 = runB 206 B206 := (bo9_5 6 (by decide)).trans rfl
theorem cl_206 (d : Nat) (vs : List Int) (Q : Int → Sto → Prop) (u : Sto) : Cl (d + 1) 206 vs Q u = (runB 206 B206) (Cl d) vs Q u := (cl_u d 206 vs Q u (by decide)).trans (congrFun (congrFun (congrFun (congrFun bo_9_206 (Cl (d))) vs) Q) u)
theorem bo_9_207 : bodyOf 207 = runB 207 B207 := (bo9_5 7 (by decide)).trans rfl
theorem cl_207 (d : Nat) (vs : List Int) (Q : Int → Sto → Prop) (u : Sto) : Cl (d + 1) 207 vs Q u = (runB 207 B207) (Cl d) vs Q u := (cl_u d 207 vs Q u (by decide)).trans (congrFun (congrFun (congrFun (congrFun bo_9_207 (Cl (d))) vs) Q) u)
theorem bo_9_208 : bodyOf 208 = runB 208 B208 := (bo9_5 8 (by decide)).trans rfl
theorem cl_208 (d : Nat) (vs : List Int) (Q : Int → Sto → Prop) (u : Sto) : Cl (d + 1) 208 vs Q u = (runB 208 B208) (Cl d) vs Q u := (cl_u d 208 vs Q u (by decide)).trans (congrFun (congrFun (congrFun (congrFun bo_9_208 (Cl (d))) vs) Q) u)
theorem bo_9_209 : bodyOf 209 = runB 209 B209 := (bo9_5 9 (by decide)).trans rfl
theorem cl_209 (d : Nat) (vs : List Int) (Q : Int → Sto → Prop) (u : Sto) : Cl (d + 1) 209 vs Q u = (runB 209 B209) (Cl d) vs Q u := (cl_u d 209 vs Q u (by decide)).trans (congrFun (congrFun (congrFun (congrFun bo_9_209 (Cl (d))) vs) Q) u)
theorem bo_9_210 : bodyOf 210 = runB 210 B210 := (bo9_5 10 (by decide)).trans rfl
theorem cl_210 (d : Nat) (vs : List Int) (Q : Int → Sto → Prop) (u : Sto) : Cl (d + 1) 210 vs Q u = (runB 210 B210) (Cl d) vs Q u := (cl_u d 210 vs Q u (by decide)).trans (congrFun (congrFun (congrFun (congrFun bo_9_210 (Cl (d))) vs) Q) u)
theorem bo_9_211 : bodyOf 211 = runB 211 B211 := (bo9_5 11 (by decide)).trans rfl
theorem cl_211 (d : Nat) (vs : List Int) (Q : Int → Sto → Prop) (u : Sto) : Cl (d + 1) 211 vs Q u = (runB 211 B211) (Cl d) vs Q u := (cl_u d 211 vs Q u (by decide)).trans (congrFun (congrFun (congrFun (congrFun bo_9_211 (Cl (d))) vs) Q) u)
theorem bo_9_212 : bodyOf 212 = runB 212 B212 := (bo9_5 12 (by decide)).trans rfl
theorem cl_212 (d : Nat) (vs : List Int) (Q : Int → Sto → Prop) (u : Sto) : Cl (d + 1) 212 vs Q u = (runB 212 B212) (Cl d) vs Q u := (cl_u d 212 vs Q u (by decide)).trans (congrFun (congrFun (congrFun (congrFun bo_9_212 (Cl (d))) vs) Q) u)
theorem bo_9_213 : bodyOf 213 = runB 213 B213 := (bo9_5 13 (by decide)).trans rfl
theorem cl_213 (d : Nat) (vs : List Int) (Q : Int → Sto → Prop) (u : Sto) : Cl (d + 1) 213 vs Q u = (runB 213 B213) (Cl d) vs Q u := (cl_u d 213 vs Q u (by decide)).trans (congrFun (congrFun (congrFun (congrFun bo_9_213 (Cl (d))) vs) Q) u)
theorem bo_9_214 : bodyOf 214 = runB 214 B214 := (bo9_5 14 (by decide)).trans rfl
theorem cl_214 (d : Nat) (vs : List Int) (Q : Int → Sto → Prop) (u : Sto) : Cl (d + 1) 214 vs Q u = (runB 214 B214) (Cl d) vs Q u := (cl_u d 214 vs Q u (by decide)).trans (congrFun (congrFun (congrFun (congrFun bo_9_214 (Cl (d))) vs) Q) u)
theorem bo_9_215 : bodyOf 215 = runB 215 B215 := (bo9_5 15 (by decide)).trans rfl
theorem cl_215 (d : Nat) (vs : List Int) (Q : Int → Sto → Prop) (u : Sto) : Cl (d + 1) 215 vs Q u = (runB 215 B215) (Cl d) vs Q u := (cl_u d 215 vs Q u (by decide)).trans (congrFun (congrFun (congrFun (congrFun bo_9_215 (Cl (d))) vs) Q) u)
theorem bo_9_216 : bodyOf 216 = runB 216 B216 := (bo9_5 16 (by decide)).trans rfl
theorem cl_216 (d : Nat) (vs : List Int) (Q : Int → Sto → Prop) (u : Sto) : Cl (d + 1) 216 vs Q u = (runB 216 B216) (Cl d) vs Q u := (cl_u d 216 vs Q u (by decide)).trans (congrFun (congrFun (congrFun (congrFun bo_9_216 (Cl (d))) vs) Q) u)
theorem bo_9_217 : bodyOf 217 = runB 217 B217 := (bo9_5 17 (by decide)).trans rfl
theorem cl_217 (d : Nat) (vs : List Int) (Q : Int → Sto → Prop) (u : Sto) : Cl (d + 1) 217 vs Q u = (runB 217 B217) (Cl d) vs Q u := (cl_u d 217 vs Q u (by decide)).trans (congrFun (congrFun (congrFun (congrFun bo_9_217 (Cl (d))) vs) Q) u)
theorem bo_9_218 : bodyOf 218 = runB 218 B218 := (bo9_5 18 (by decide)).trans rfl
theorem cl_218 (d : Nat) (vs : List Int) (Q : Int → Sto → Prop) (u : Sto) : Cl (d + 1) 218 vs Q u = (runB 218 B218) (Cl d) vs Q u := (cl_u d 218 vs Q u (by decide)).trans (congrFun (congrFun (congrFun (congrFun bo_9_218 (Cl (d))) vs) Q) u)
theorem bo_9_219 : bodyOf 219 = runB 219 B219 := (bo9_5 19 (by decide)).trans rfl
theorem cl_219 (d : Nat) (vs : List Int) (Q : Int → Sto → Prop) (u : Sto) : Cl (d + 1) 219 vs Q u = (runB 219 B219) (Cl d) vs Q u := (cl_u d 219 vs Q u (by decide)).trans (congrFun (congrFun (congrFun (congrFun bo_9_219 (Cl (d))) vs) Q) u)
theorem bo_9_220 : bodyOf 220 = runB 220 B220 := (bo9_5 20 (by decide)).trans rfl
theorem cl_220 (d : Nat) (vs : List Int) (Q : Int → Sto → Prop) (u : Sto) : Cl (d + 1) 220 vs Q u = (runB 220 B220) (Cl d) vs Q u := (cl_u d 220 vs Q u (by decide)).trans (congrFun (congrFun (congrFun (congrFun bo_9_220 (Cl (d))) vs) Q) u)
theorem bo_9_221 : bodyOf 221 = runB 221 B221 := (bo9_5 21 (by decide)).trans rfl
theorem cl_221 (d : Nat) (vs : List Int) (Q : Int → Sto → Prop) (u : Sto) : Cl (d + 1) 221 vs Q u = (runB 221 B221) (Cl d) vs Q u := (cl_u d 221 vs Q u (by decide)).trans (congrFun (congrFun (congrFun (congrFun bo_9_221 (Cl (d))) vs) Q) u)
theorem bo_9_222 : bodyOf 222 = runB 222 B222 := (bo9_5 22 (by decide)).trans rfl
theorem cl_222 (d : Nat) (vs : List Int) (Q : Int → Sto → Prop) (u : Sto) : Cl (d + 1) 222 vs Q u = (runB 222 B222) (Cl d) vs Q u := (cl_u d 222 vs Q u (by decide)).trans (congrFun (congrFun (congrFun (congrFun bo_9_222 (Cl (d))) vs) Q) u)
theorem bo_9_223 : bodyOf 223 = runB 223 B223 := (bo9_5 23 (by decide)).trans rfl
theorem cl_223 (d : Nat) (vs : List Int) (Q : Int → Sto → Prop) (u : Sto) : Cl (d + 1) 223 vs Q u = (runB 223 B223) (Cl d) vs Q u := (cl_u d 223 vs Q u (by decide)).trans (congrFun (congrFun (congrFun (congrFun bo_9_223 (Cl (d))) vs) Q) u)
theorem bo_9_224 : bodyOf 224 = runB 224 B224 := (bo9_5 24 (by decide)).trans rfl
theorem cl_224 (d : Nat) (vs : List Int) (Q : Int → Sto → Prop) (u : Sto) : Cl (d + 1) 224 vs Q u = (runB 224 B224) (Cl d) vs Q u := (cl_u d 224 vs Q u (by decide)).trans (congrFun (congrFun (congrFun (congrFun bo_9_224 (Cl (d))) vs) Q) u)
theorem bo_9_225 : bodyOf 225 = runB 225 B225 := (bo9_5 25 (by decide)).trans rfl
theorem cl_225 (d : Nat) (vs : List Int) (Q : Int → Sto → Prop) (u : Sto) : Cl (d + 1) 225 vs Q u = (runB 225 B225) (Cl d) vs Q u := (cl_u d 225 vs Q u (by decide)).trans (congrFun (congrFun (congrFun (congrFun bo_9_225 (Cl (d))) vs) Q) u)
theorem bo_9_226 : bodyOf 226 = runB 226 B226 := (bo9_5 26 (by decide)).trans rfl
theorem cl_226 (d : Nat) (vs : List Int) (Q : Int → Sto → Prop) (u : Sto) : Cl (d + 1) 226 vs Q u = (runB 226 B226) (Cl d) vs Q u := (cl_u d 226 vs Q u (by decide)).trans (congrFun (congrFun (congrFun (congrFun bo_9_226 (Cl (d))) vs) Q) u)
theorem bo_9_227 : bodyOf 227 = runB 227 B227 := (bo9_5 27 (by decide)).trans rfl
theorem cl_227 (d : Nat) (vs : List Int) (Q : Int → Sto → Prop) (u : Sto) : Cl (d + 1) 227 vs Q u = (runB 227 B227) (Cl d) vs Q u := (cl_u d 227 vs Q u (by decide)).trans (congrFun (congrFun (congrFun (congrFun bo_9_227 (Cl (d))) vs) Q) u)
theorem bo_9_228 : bodyOf 228 = runB 228 B228 := (bo9_5 28 (by decide)).trans rfl
theorem cl_228 (d : Nat) (vs : List Int) (Q : Int → Sto → Prop) (u : Sto) : Cl (d + 1) 228 vs Q u = (runB 228 B228) (Cl d) vs Q u := (cl_u d 228 vs Q u (by decide)).trans (congrFun (congrFun (congrFun (congrFun bo_9_228 (Cl (d))) vs) Q) u)
theorem bo_9_229 : bodyOf 229 = runB 229 B229 := (bo9_5 29 (by decide)).trans rfl
theorem cl_229 (d : Nat) (vs : List Int) (Q : Int → Sto → Prop) (u : Sto) : Cl (d + 1) 229 vs Q u = (runB 229 B229) (Cl d) vs Q u := (cl_u d 229 vs Q u (by decide)).trans (congrFun (congrFun (congrFun (congrFun bo_9_229 (Cl (d))) vs) Q) u)
theorem bo_9_230 : bodyOf 230 = runB 230 B230 := (bo9_5 30 (by decide)).trans rfl
theorem cl_230 (d : Nat) (vs : List Int) (Q : Int → Sto → Prop) (u : Sto) : Cl (d + 1) 230 vs Q u = (runB 230 B230) (Cl d) vs Q u := (cl_u d 230 vs Q u (by decide)).trans (congrFun (congrFun (congrFun (congrFun bo_9_230 (Cl (d))) vs) Q) u)
theorem bo_9_231 : bodyOf 231 = runB 231 B231 := (bo9_5 31 (by decide)).trans rfl
theorem cl_231 (d : Nat) (vs : List Int) (Q : Int → Sto → Prop) (u : Sto) : Cl (d + 1) 231 vs Q u = (runB 231 B231) (Cl d) vs Q u := (cl_u d 231 vs Q u (by decide)).trans (congrFun (congrFun (congrFun (congrFun bo_9_231 (Cl (d))) vs) Q) u)
theorem bo_9_232 : bodyOf 232 = runB 232 B232 := (bo9_5 32 (by decide)).trans rfl
theorem cl_232 (d : Nat) (vs : List Int) (Q : Int → Sto → Prop) (u : Sto) : Cl (d + 1) 232 vs Q u = (runB 232 B232) (Cl d) vs Q u := (cl_u d 232 vs Q u (by decide)).trans (congrFun (congrFun (congrFun (congrFun bo_9_232 (Cl (d))) vs) Q) u)
theorem bo_9_233 : bodyOf 233 = runB 233 B233 := (bo9_5 33 (by decide)).trans rfl
theorem cl_233 (d : Nat) (vs : List Int) (Q : Int → Sto → Prop) (u : Sto) : Cl (d + 1) 233 vs Q u = (runB 233 B233) (Cl d) vs Q u := (cl_u d 233 vs Q u (by decide)).trans (congrFun (congrFun (congrFun (congrFun bo_9_233 (Cl (d))) vs) Q) u)
theorem bo_9_234 : bodyOf 234 = runB 234 B234 := (bo9_5 34 (by decide)).trans rfl
theorem cl_234 (d : Nat) (vs : List Int) (Q : Int → Sto → Prop) (u : Sto) : Cl (d + 1) 234 vs Q u = (runB 234 B234) (Cl d) vs Q u := (cl_u d 234 vs Q u (by decide)).trans (congrFun (congrFun (congrFun (congrFun bo_9_234 (Cl (d))) vs) Q) u)
theorem bo_9_235 : bodyOf 235 = runB 235 B235 := (bo9_5 35 (by decide)).trans rfl
theorem cl_235 (d : Nat) (vs : List Int) (Q : Int → Sto → Prop) (u : Sto) : Cl (d + 1) 235 vs Q u = (runB 235 B235) (Cl d) vs Q u := (cl_u d 235 vs Q u (by decide)).trans (congrFun (congrFun (congrFun (congrFun bo_9_235 (Cl (d))) vs) Q) u)
theorem bo_9_236 : bodyOf 236 = runB 236 B236 := (bo9_5 36 (by decide)).trans rfl
theorem cl_236 (d : Nat) (vs : List Int) (Q : Int → Sto → Prop) (u : Sto) : Cl (d + 1) 236 vs Q u = (runB 236 B236) (Cl d) vs Q u := (cl_u d 236 vs Q u (by decide)).trans (congrFun (congrFun (congrFun (congrFun bo_9_236 (Cl (d))) vs) Q) u)
theorem bo_9_237 : bodyOf 237 = runB 237 B237 := (bo9_5 37 (by decide)).trans rfl
theorem cl_237 (d : Nat) (vs : List Int) (Q : Int → Sto → Prop) (u : Sto) : Cl (d + 1) 237 vs Q u = (runB 237 B237) (Cl d) vs Q u := (cl_u d 237 vs Q u (by decide)).trans (congrFun (congrFun (congrFun (congrFun bo_9_237 (Cl (d))) vs) Q) u)
theorem bo_9_238 : bodyOf 238 = runB 238 B238 := (bo9_5 38 (by decide)).trans rfl
theorem cl_238 (d : Nat) (vs : List Int) (Q : Int → Sto → Prop) (u : Sto) : Cl (d + 1) 238 vs Q u = (runB 238 B238) (Cl d) vs Q u := (cl_u d 238 vs Q u (by decide)).trans (congrFun (congrFun (congrFun (congrFun bo_9_238 (Cl (d))) vs) Q) u)
theorem bo_9_239 : bodyOf 239 = runB 239 B239 := (bo9_5 39 (by decide)).trans rfl
theorem cl_239 (d : Nat) (vs : List Int) (Q : Int → Sto → Prop) (u : Sto) : Cl (d + 1) 239 vs Q u = (runB 239 B239) (Cl d) vs Q u := (cl_u d 239 vs Q u (by decide)).trans (congrFun (congrFun (congrFun (congrFun bo_9_239 (Cl (d))) vs) Q) u)
theorem bo_9_240 : bodyOf 240 = runB 240 B240 := (bo9_6 0 (by decide)).trans rfl
theorem cl_240 (d : Nat) (vs : List Int) (Q : Int → Sto → Prop) (u : Sto) : Cl (d + 1) 240 vs Q u = (runB 240 B240) (Cl d) vs Q u := (cl_u d 240 vs Q u (by decide)).trans (congrFun (congrFun (congrFun (congrFun bo_9_240 (Cl (d))) vs) Q) u)
theorem bo_9_241 : bodyOf 241 = runB 241 B241 := (bo9_6 1 (by decide)).trans rfl
theorem cl_241 (d : Nat) (vs : List Int) (Q : Int → Sto → Prop) (u : Sto) : Cl (d + 1) 241 vs Q u = (runB 241 B241) (Cl d) vs Q u := (cl_u d 241 vs Q u (by decide)).trans (congrFun (congrFun (congrFun (congrFun bo_9_241 (Cl (d))) vs) Q) u)
theorem bo_9_242 : bodyOf 242 = runB 242 B242 := (bo9_6 2 (by decide)).trans rfl
theorem cl_242 (d : Nat) (vs : List Int) (Q : Int → Sto → Prop) (u : Sto) : Cl (d + 1) 242 vs Q u = (runB 242 B242) (Cl d) vs Q u := (cl_u d 242 vs Q u (by decide)).trans (congrFun (congrFun (congrFun (congrFun bo_9_242 (Cl (d))) vs) Q) u)
theorem bo_9_243 : bodyOf 243 = runB 243 B243 := (bo9_6 3 (by decide)).trans rfl
theorem cl_243 (d : Nat) (vs : List Int) (Q : Int → Sto → Prop) (u : Sto) : Cl (d + 1) 243 vs Q u = (runB 243 B243) (Cl d) vs Q u := (cl_u d 243 vs Q u (by decide)).trans (congrFun (congrFun (congrFun (congrFun bo_9_243 (Cl (d))) vs) Q) u)
theorem bo_9_244 : bodyOf 244 = runB 244 B244 := (bo9_6 4 (by decide)).trans rfl
theorem cl_244 (d : Nat) (vs : List Int) (Q : Int → Sto → Prop) (u : Sto) : Cl (d + 1) 244 vs Q u = (runB 244 B244) (Cl d) vs Q u := (cl_u d 244 vs Q u (by decide)).trans (congrFun (congrFun (congrFun (congrFun bo_9_244 (Cl (d))) vs) Q) u)
theorem bo_9_245 : bodyOf 245 = runB 245 B245 := (bo9_6 5 (by decide)).trans rfl
theorem cl_245 (d : Nat) (vs : List Int) (Q : Int → Sto → Prop) (u : Sto) : Cl (d + 1) 245 vs Q u = (runB 245 B245) (Cl d) vs Q u := (cl_u d 245 vs Q u (by decide)).trans (congrFun (congrFun (congrFun (congrFun bo_9_245 (Cl (d))) vs) Q) u)
theorem bo_9_246 : bodyOf 246 = runB 246 B246 := (bo9_6 6 (by decide)).trans rfl
theorem cl_246 (d : Nat) (vs : List Int) (Q : Int → Sto → Prop) (u : Sto) : Cl (d + 1) 246 vs Q u = (runB 246 B246) (Cl d) vs Q u := (cl_u d 246 vs Q u (by decide)).trans (congrFun (congrFun (congrFun (congrFun bo_9_246 (Cl (d))) vs) Q) u)
theorem bo_9_247 : bodyOf 247 = runB 247 B247 := (bo9_6 7 (by decide)).trans rfl
theorem cl_247 (d : Nat) (vs : List Int) (Q : Int → Sto → Prop) (u : Sto) : Cl (d + 1) 247 vs Q u = (runB 247 B247) (Cl d) vs Q u := (cl_u d 247 vs Q u (by decide)).trans (congrFun (congrFun (congrFun (congrFun bo_9_247 (Cl (d))) vs) Q) u)
theorem bo_9_248 : bodyOf 248 = runB 248 B248 := (bo9_6 8 (by decide)).trans rfl
theorem cl_248 (d : Nat) (vs : List Int) (Q : Int → Sto → Prop) (u : Sto) : Cl (d + 1) 248 vs Q u = (runB 248 B248) (Cl d) vs Q u := (cl_u d 248 vs Q u (by decide)).trans (congrFun (congrFun (congrFun (congrFun bo_9_248 (Cl (d))) vs) Q) u)
theorem bo_9_249 : bodyOf 249 = runB 249 B249 := (bo9_6 9 (by decide)).trans rfl
theorem cl_249 (d : Nat) (vs : List Int) (Q : Int → Sto → Prop) (u : Sto) : Cl (d + 1) 249 vs Q u = (runB 249 B249) (Cl d) vs Q u := (cl_u d 249 vs Q u (by decide)).trans (congrFun (congrFun (congrFun (congrFun bo_9_249 (Cl (d))) vs) Q) u)
theorem bo_9_250 : bodyOf 250 = runB 250 B250 := (bo9_6 10 (by decide)).trans rfl
theorem cl_250 (d : Nat) (vs : List Int) (Q : Int → Sto → Prop) (u : Sto) : Cl (d + 1) 250 vs Q u = (runB 250 B250) (Cl d) vs Q u := (cl_u d 250 vs Q u (by decide)).trans (congrFun (congrFun (congrFun (congrFun bo_9_250 (Cl (d))) vs) Q) u)
theorem bo_9_251 : bodyOf 251 = runB 251 B251 := (bo9_6 11 (by decide)).trans rfl
theorem cl_251 (d : Nat) (vs : List Int) (Q : Int → Sto → Prop) (u : Sto) : Cl (d + 1) 251 vs Q u = (runB 251 B251) (Cl d) vs Q u := (cl_u d 251 vs Q u (by decide)).trans (congrFun (congrFun (congrFun (congrFun bo_9_251 (Cl (d))) vs) Q) u)
theorem bo_9_252 : bodyOf 252 = runB 252 B252 := (bo9_6 12 (by decide)).trans rfl
theorem cl_252 (d : Nat) (vs : List Int) (Q : Int → Sto → Prop) (u : Sto) : Cl (d + 1) 252 vs Q u = (runB 252 B252) (Cl d) vs Q u := (cl_u d 252 vs Q u (by decide)).trans (congrFun (congrFun (congrFun (congrFun bo_9_252 (Cl (d))) vs) Q) u)
theorem bo_9_253 : bodyOf 253 = runB 253 B253 := (bo9_6 13 (by decide)).trans rfl
theorem cl_253 (d : Nat) (vs : List Int) (Q : Int → Sto → Prop) (u : Sto) : Cl (d + 1) 253 vs Q u = (runB 253 B253) (Cl d) vs Q u := (cl_u d 253 vs Q u (by decide)).trans (congrFun (congrFun (congrFun (congrFun bo_9_253 (Cl (d))) vs) Q) u)
theorem bo_9_254 : bodyOf 254 = runB 254 B254 := (bo9_6 14 (by decide)).trans rfl
theorem cl_254 (d : Nat) (vs : List Int) (Q : Int → Sto → Prop) (u : Sto) : Cl (d + 1) 254 vs Q u = (runB 254 B254) (Cl d) vs Q u := (cl_u d 254 vs Q u (by decide)).trans (congrFun (congrFun (congrFun (congrFun bo_9_254 (Cl (d))) vs) Q) u)
theorem bo_9_255 : bodyOf 255 = runB 255 B255 := (bo9_6 15 (by decide)).trans rfl
theorem cl_255 (d : Nat) (vs : List Int) (Q : Int → Sto → Prop) (u : Sto) : Cl (d + 1) 255 vs Q u = (runB 255 B255) (Cl d) vs Q u := (cl_u d 255 vs Q u (by decide)).trans (congrFun (congrFun (congrFun (congrFun bo_9_255 (Cl (d))) vs) Q) u)
theorem bo_9_256 : bodyOf 256 = runB 256 B256 := (bo9_6 16 (by decide)).trans rfl
theorem cl_256 (d : Nat) (vs : List Int) (Q : Int → Sto → Prop) (u : Sto) : Cl (d + 1) 256 vs Q u = (runB 256 B256) (Cl d) vs Q u := (cl_u d 256 vs Q u (by decide)).trans (congrFun (congrFun (congrFun (congrFun bo_9_256 (Cl (d))) vs) Q) u)
theorem bo_9_257 : bodyOf 257 = runB 257 B257 := (bo9_6 17 (by decide)).trans rfl
theorem cl_257 (d : Nat) (vs : List Int) (Q : Int → Sto → Prop) (u : Sto) : Cl (d + 1) 257 vs Q u = (runB 257 B257) (Cl d) vs Q u := (cl_u d 257 vs Q u (by decide)).trans (congrFun (congrFun (congrFun (congrFun bo_9_257 (Cl (d))) vs) Q) u)
theorem bo_9_258 : bodyOf 258 = runB 258 B258 := (bo9_6 18 (by decide)).trans rfl
theorem cl_258 (d : Nat) (vs : List Int) (Q : Int → Sto → Prop) (u : Sto) : Cl (d + 1) 258 vs Q u = (runB 258 B258) (Cl d) vs Q u := (cl_u d 258 vs Q u (by decide)).trans (congrFun (congrFun (congrFun (congrFun bo_9_258 (Cl (d))) vs) Q) u)
theorem bo_9_259 : bodyOf 259 = runB 259 B259 := (bo9_6 19 (by decide)).trans rfl
theorem cl_259 (d : Nat) (vs : List Int) (Q : Int → Sto → Prop) (u : Sto) : Cl (d + 1) 259 vs Q u = (runB 259 B259) (Cl d) vs Q u := (cl_u d 259 vs Q u (by decide)).trans (congrFun (congrFun (congrFun (congrFun bo_9_259 (Cl (d))) vs) Q) u)
theorem bo_9_260 : bodyOf 260 = runB 260 B260 := (bo9_6 20 (by decide)).trans rfl
theorem cl_260 (d : Nat) (vs : List Int) (Q : Int → Sto → Prop) (u : Sto) : Cl (d + 1) 260 vs Q u = (runB 260 B260) (Cl d) vs Q u := (cl_u d 260 vs Q u (by decide)).trans (congrFun (congrFun (congrFun (congrFun bo_9_260 (Cl (d))) vs) Q) u)
theorem bo_9_261 : bodyOf 261 = runB 261 B261 := (bo9_6 21 (by decide)).trans rfl
theorem cl_261 (d : Nat) (vs : List Int) (Q : Int → Sto → Prop) (u : Sto) : Cl (d + 1) 261 vs Q u = (runB 261 B261) (Cl d) vs Q u := (cl_u d 261 vs Q u (by decide)).trans (congrFun (congrFun (congrFun (congrFun bo_9_261 (Cl (d))) vs) Q) u)
theorem bo_9_262 : bodyOf 262 = runB 262 B262 := (bo9_6 22 (by decide)).trans rfl
theorem cl_262 (d : Nat) (vs : List Int) (Q : Int → Sto → Prop) (u : Sto) : Cl (d + 1) 262 vs Q u = (runB 262 B262) (Cl d) vs Q u := (cl_u d 262 vs Q u (by decide)).trans (congrFun (congrFun (congrFun (congrFun bo_9_262 (Cl (d))) vs) Q) u)
theorem bo_9_263 : bodyOf 263 = runB 263 B263 := (bo9_6 23 (by decide)).trans rfl
theorem cl_263 (d : Nat) (vs : List Int) (Q : Int → Sto → Prop) (u : Sto) : Cl (d + 1) 263 vs Q u = (runB 263 B263) (Cl d) vs Q u := (cl_u d 263 vs Q u (by decide)).trans (congrFun (congrFun (congrFun (congrFun bo_9_263 (Cl (d))) vs) Q) u)
theorem bo_9_264 : bodyOf 264 = runB 264 B264 := (bo9_6 24 (by decide)).trans rfl
theorem cl_264 (d : Nat) (vs : List Int) (Q : Int → Sto → Prop) (u : Sto) : Cl (d + 1) 264 vs Q u = (runB 264 B264) (Cl d) vs Q u := (cl_u d 264 vs Q u (by decide)).trans (congrFun (congrFun (congrFun (congrFun bo_9_264 (Cl (d))) vs) Q) u)
theorem bo_9_265 : bodyOf 265 = runB 265 B265 := (bo9_6 25 (by decide)).trans rfl
theorem cl_265 (d : Nat) (vs : List Int) (Q : Int → Sto → Prop) (u : Sto) : Cl (d + 1) 265 vs Q u = (runB 265 B265) (Cl d) vs Q u := (cl_u d 265 vs Q u (by decide)).trans (congrFun (congrFun (congrFun (congrFun bo_9_265 (Cl (d))) vs) Q) u)
theorem bo_9_266 : bodyOf 266 = runB 266 B266 := (bo9_6 26 (by decide)).trans rfl
theorem cl_266 (d : Nat) (vs : List Int) (Q : Int → Sto → Prop) (u : Sto) : Cl (d + 1) 266 vs Q u = (runB 266 B266) (Cl d) vs Q u := (cl_u d 266 vs Q u (by decide)).trans (congrFun (congrFun (congrFun (congrFun bo_9_266 (Cl (d))) vs) Q) u)
theorem bo_9_267 : bodyOf 267 = runB 267 B267 := (bo9_6 27 (by decide)).trans rfl
theorem cl_267 (d : Nat) (vs : List Int) (Q : Int → Sto → Prop) (u : Sto) : Cl (d + 1) 267 vs Q u = (runB 267 B267) (Cl d) vs Q u := (cl_u d 267 vs Q u (by decide)).trans (congrFun (congrFun (congrFun (congrFun bo_9_267 (Cl (d))) vs) Q) u)
theorem bo_9_268 : bodyOf 268 = runB 268 B268 := (bo9_6 28 (by decide)).trans rfl
theorem cl_268 (d : Nat) (vs : List Int) (Q : Int → Sto → Prop) (u : Sto) : Cl (d + 1) 268 vs Q u = (runB 268 B268) (Cl d) vs Q u := (cl_u d 268 vs Q u (by decide)).trans (congrFun (congrFun (congrFun (congrFun bo_9_268 (Cl (d))) vs) Q) u)
theorem bo_9_269 : bodyOf 269 = runB 269 B269 := (bo9_6 29 (by decide)).trans rfl
theorem cl_269 (d : Nat) (vs : List Int) (Q : Int → Sto → Prop) (u : Sto) : Cl (d + 1) 269 vs Q u = (runB 269 B269) (Cl d) vs Q u := (cl_u d 269 vs Q u (by decide)).trans (congrFun (congrFun (congrFun (congrFun bo_9_269 (Cl (d))) vs) Q) u)
theorem bo_9_270 : bodyOf 270 = runB 270 B270 := (bo9_6 30 (by decide)).trans rfl
theorem cl_270 (d : Nat) (vs : List Int) (Q : Int → Sto → Prop) (u : Sto) : Cl (d + 1) 270 vs Q u = (runB 270 B270) (Cl d) vs Q u := (cl_u d 270 vs Q u (by decide)).trans (congrFun (congrFun (congrFun (congrFun bo_9_270 (Cl (d))) vs) Q) u)
theorem bo_9_271 : bodyOf 271 = runB 271 B271 := (bo9_6 31 (by decide)).trans rfl
theorem cl_271 (d : Nat) (vs : List Int) (Q : Int → Sto → Prop) (u : Sto) : Cl (d + 1) 271 vs Q u = (runB 271 B271) (Cl d) vs Q u := (cl_u d 271 vs Q u (by decide)).trans (congrFun (congrFun (congrFun (congrFun bo_9_271 (Cl (d))) vs) Q) u)
theorem bo_9_272 : bodyOf 272 = runB 272 B272 := (bo9_6 32 (by decide)).trans rfl
theorem cl_272 (d : Nat) (vs : List Int) (Q : Int → Sto → Prop) (u : Sto) : Cl (d + 1) 272 vs Q u = (runB 272 B272) (Cl d) vs Q u := (cl_u d 272 vs Q u (by decide)).trans (congrFun (congrFun (congrFun (congrFun bo_9_272 (Cl (d))) vs) Q) u)
theorem bo_9_273 : bodyOf 273 = runB 273 B273 := (bo9_6 33 (by decide)).trans rfl
theorem cl_273 (d : Nat) (vs : List Int) (Q : Int → Sto → Prop) (u : Sto) : Cl (d + 1) 273 vs Q u = (runB 273 B273) (Cl d) vs Q u := (cl_u d 273 vs Q u (by decide)).trans (congrFun (congrFun (congrFun (congrFun bo_9_273 (Cl (d))) vs) Q) u)
theorem bo_9_274 : bodyOf 274 = runB 274 B274 := (bo9_6 34 (by decide)).trans rfl
theorem cl_274 (d : Nat) (vs : List Int) (Q : Int → Sto → Prop) (u : Sto) : Cl (d + 1) 274 vs Q u = (runB 274 B274) (Cl d) vs Q u := (cl_u d 274 vs Q u (by decide)).trans (congrFun (congrFun (congrFun (congrFun bo_9_274 (Cl (d))) vs) Q) u)
theorem bo_9_275 : bodyOf 275 = runB 275 B275 := (bo9_6 35 (by decide)).trans rfl
theorem cl_275 (d : Nat) (vs : List Int) (Q : Int → Sto → Prop) (u : Sto) : Cl (d + 1) 275 vs Q u = (runB 275 B275) (Cl d) vs Q u := (cl_u d 275 vs Q u (by decide)).trans (congrFun (congrFun (congrFun (congrFun bo_9_275 (Cl (d))) vs) Q) u)
theorem bo_9_276 : bodyOf 276 = runB 276 B276 := (bo9_6 36 (by decide)).trans rfl
theorem cl_276 (d : Nat) (vs : List Int) (Q : Int → Sto → Prop) (u : Sto) : Cl (d + 1) 276 vs Q u = (runB 276 B276) (Cl d) vs Q u := (cl_u d 276 vs Q u (by decide)).trans (congrFun (congrFun (congrFun (congrFun bo_9_276 (Cl (d))) vs) Q) u)
theorem bo_9_277 : bodyOf 277 = runB 277 B277 := (bo9_6 37 (by decide)).trans rfl
theorem cl_277 (d : Nat) (vs : List Int) (Q : Int → Sto → Prop) (u : Sto) : Cl (d + 1) 277 vs Q u = (runB 277 B277) (Cl d) vs Q u := (cl_u d 277 vs Q u (by decide)).trans (congrFun (congrFun (congrFun (congrFun bo_9_277 (Cl (d))) vs) Q) u)
theorem bo_9_278 : bodyOf 278 = runB 278 B278 := (bo9_6 38 (by decide)).trans rfl
theorem cl_278 (d : Nat) (vs : List Int) (Q : Int → Sto → Prop) (u : Sto) : Cl (d + 1) 278 vs Q u = (runB 278 B278) (Cl d) vs Q u := (cl_u d 278 vs Q u (by decide)).trans (congrFun (congrFun (congrFun (congrFun bo_9_278 (Cl (d))) vs) Q) u)
theorem bo_9_279 : bodyOf 279 = runB 279 B279 := (bo9_6 39 (by decide)).trans rfl
theorem cl_279 (d : Nat) (vs : List Int) (Q : Int → Sto → Prop) (u : Sto) : Cl (d + 1) 279 vs Q u = (runB 279 B279) (Cl d) vs Q u := (cl_u d 279 vs Q u (by decide)).trans (congrFun (congrFun (congrFun (congrFun bo_9_279 (Cl (d))) vs) Q) u)
theorem bo_9_280 : bodyOf 280 = runB 280 B280 := (bo9_7 0 (by decide)).trans rfl
theorem cl_280 (d : Nat) (vs : List Int) (Q : Int → Sto → Prop) (u : Sto) : Cl (d + 1) 280 vs Q u = (runB 280 B280) (Cl d) vs Q u := (cl_u d 280 vs Q u (by decide)).trans (congrFun (congrFun (congrFun (congrFun bo_9_280 (Cl (d))) vs) Q) u)
theorem bo_9_281 : bodyOf 281 = runB 281 B281 := (bo9_7 1 (by decide)).trans rfl
theorem cl_281 (d : Nat) (vs : List Int) (Q : Int → Sto → Prop) (u : Sto) : Cl (d + 1) 281 vs Q u = (runB 281 B281) (Cl d) vs Q u := (cl_u d 281 vs Q u (by decide)).trans (congrFun (congrFun (congrFun (congrFun bo_9_281 (Cl (d))) vs) Q) u)
theorem mMax_le : ∀ K : Nat, mMax K ≤ 51 := by
  have h : ∀ q ∈ mTl, q.2.2.1 ≤ 51 := by decide +kernel
  intro K
  unfold mMax mT
  rw [List.getD_eq_getElem?_getD]
  cases hq : mTl[K]? with
  | none => exact Nat.zero_le _
  | some z => exact h z (List.mem_of_getElem? hq)
def BodyAt (d K : Nat) (f : BT) : Prop := ∀ (l : Launch) (G : Geo) (cl : ClT) (vs : List Int) (Q : Int → Sto → Prop) (u : Sto), l.flags = flags0 → ClOK l (rmD (d + 1) K) G cl → f cl vs Q u → sbc u ≤ mCel K → sbw u ≤ mSlo K →
  Met l (mNam K) (wsOf K) (rmD (d + 1) K) (PcOf G K vs u) (QcOf G K Q) (mCel K) (mSlo K) (fun q => G.2.2.2 ≤ q)
theorem clOK {l : Launch} {G : Geo} (hfl : l.flags = flags0) (hall : ∀ d K, ((K = 174 ∨ K = 175) → 3 ≤ d) → BodyAt d K (bodyOf K)) : ∀ (d : Nat) (R : Room), d + 1 ≤ R.frames → 90 * (d + 1) ≤ R.locals → ClOK l R G (Cl d)
  | 0, _, _, _ => fun _ _ _ _ h => h.elim
  | d + 1, R, h1, h2 => fun K vs Q u h hc hw =>
    ⟨rmD (d + 1) K, rfl, rfl, h1, by have := mMax_le K; show 20 + (mMax K + 11) + 90 * (d + 1) ≤ R.locals; omega,
      hall d K h.1 l G (Cl d) vs Q u hfl (clOK hfl hall d _ (Nat.le_refl _) (Nat.le_refl _)) h.2 hc hw⟩
theorem ok_noB (K : Nat) : BodyOK K noB := fun _ _ _ _ _ _ _ _ _ h => h.elim
def allP (P : Nat → BT → Prop) : Nat → List BT → Prop
  | _, [] => True
  | i, b :: t => P i b ∧ allP P (i + 1) t
theorem allP_get {P : Nat → BT → Prop} (hn : ∀ K, P K noB) : ∀ (L : List BT) (i K : Nat), allP P i L → i ≤ K → P K (L.getD (K - i) noB)
  | [], _, K, _, _ => hn K
  | b :: t, i, K, h, hi => by
    by_cases hk : K = i
    · subst hk; rw [Nat.sub_self]; exact h.1
    · have := allP_get hn t (i + 1) K h.2 (by omega)
      rw [show K - i = (K - (i + 1)) + 1 by omega]
      exact this
theorem allP_app {P : Nat → BT → Prop} : ∀ (L M : List BT) (i : Nat), allP P i L → allP P (i + L.length) M → allP P i (L ++ M)
  | [], _, _, _, h => h
  | b :: t, M, i, h, h2 => ⟨h.1, allP_app t M (i + 1) h.2 (by rw [show i + 1 + t.length = i + (b :: t).length by simp only [List.length_cons]; omega]; exact h2)⟩
theorem met_conseq {l : Launch} {y : MethodName} {ws : List Cond} {rm : Room} {Pc Pc' : Array Value → State → Prop} {Qc Qc' : Array Value → State → Outcome → State → Prop} {mc ms : Nat} {free : Addr → Prop}
    (h : Met l y ws rm Pc Qc mc ms free) (hp : ∀ a U, Pc' a U → Pc a U) (hq : ∀ a st o t, Pc' a st → Qc a st o t → Qc' a st o t) : Met l y ws rm Pc' Qc' mc ms free := fun p e h1 h2 h3 s m args below h4 h5 h6 h7 => by
  obtain ⟨n, o, a, b, c, q, f⟩ := h p e h1 h2 h3 s m args below h4 h5 (hp _ _ h6) h7
  exact ⟨n, o, a, b, c, hq _ _ _ _ h6 q, f⟩
theorem at_len : ∀ d, 3 ≤ d → BodyAt d 174 lenB := by
  intro d hd l G cl vs Q u hfl hC hf hc hw
  obtain ⟨hst, hq⟩ := hf
  obtain ⟨k, rfl⟩ : ∃ k, d = k + 3 := ⟨d - 3, by omega⟩
  match vs, hst, hq with
  | [], hst, _ => exact absurd hst.2 (by decide)
  | v0 :: vt, hst, hq =>
    have hst : stx v0 := hst
    have hi : (-1 - v0).toNat < 8 := by have := hst.1; have := hst.2; omega
    have e1 : -1 - (((-1 - v0).toNat : Nat) : Int) = v0 := by have := hst.2; omega
    generalize hig : (-1 - v0).toNat = i at hi e1
    have e2 : ∀ i, i < 8 → Int32.ofNat (sLen.getD i 0) = Int32.ofInt ((sLen.getD i 0 : Nat) : Int) ∧ inI ((sLen.getD i 0 : Nat) : Int) := by unfold inI; decide +kernel
    have hv0 : v0 ≠ 0 := by have := hst.2; omega
    show Met l jy_length (Cond.code jy_length prog_22_method_54_code 1 (some .int) :: gTbl) (rmJ (k + 2 + 2)) (PcOf G 174 (v0 :: vt) u) (QcOf G 174 Q) 0 0 (fun q => G.2.2.2 ≤ q)
    refine met_conseq (j_length (k + 2) i hi) ?_ ?_
    · intro a U h
      obtain ⟨h1, h2, h3, h4, h5, h6⟩ := h
      have h2 : okv 2 v0 ∧ okA [] vt := h2
      match vt, h2 with
      | [], _ =>
        refine ⟨h1.trans ?_, h6, h5⟩
        show [enc G.1 2 v0].toArray = _
        rw [enc_2 _ hv0, e1]
      | _ :: _, h2 => exact h2.2.elim
    · intro a st o t h hj
      obtain ⟨h1, h2, h3, h4, h5, h6⟩ := h
      obtain ⟨ho, ht⟩ := hj
      refine ⟨⟨((sLen.getD i 0 : Nat) : Int), u, ?_, (e2 i hi).2, ?_, by rw [ht]; exact h3⟩, by rw [ht]; exact Nat.le_refl _, fun q _ => by rw [ht]⟩
      · rw [ho, (e2 i hi).1]; rfl
      · have hq : Q ((sLen.getD (-1 - v0).toNat 0 : Nat) : Int) u := hq
        rw [hig] at hq; exact hq
theorem at_chr : ∀ d, 3 ≤ d → BodyAt d 175 chrB := by
  intro d hd l G cl vs Q u hfl hC hf hc hw
  obtain ⟨hst, hj0, hj1, hq⟩ := hf
  obtain ⟨k, rfl⟩ : ∃ k, d = k + 3 := ⟨d - 3, by omega⟩
  match vs, hst, hj0, hj1, hq with
  | [], hst, _, _, _ => exact absurd hst.2 (by decide)
  | v0 :: vt, hst, hj0, hj1, hq =>
    have hst : stx v0 := hst
    have hi : (-1 - v0).toNat < 8 := by have := hst.1; have := hst.2; omega
    have e1 : -1 - (((-1 - v0).toNat : Nat) : Int) = v0 := by have := hst.2; omega
    have hj1 : (v0 :: vt).getD 1 0 < (sLen.getD (-1 - v0).toNat 0 : Nat) := hj1
    have hq : Q (((sByt.getD (-1 - v0).toNat []).getD ((v0 :: vt).getD 1 0).toNat 0).toInt) u := hq
    generalize (-1 - v0).toNat = i at hi e1 hj1 hq
    have hv0 : v0 ≠ 0 := by have := hst.2; omega
    have e2 : ∀ i, i < 8 → ∀ n, n < sLen.getD i 0 → (sByt.getD i []).getD n 0 &&& 255 = Int32.ofInt (((sByt.getD i []).getD n 0).toInt) ∧ 0 ≤ ((sByt.getD i []).getD n 0).toInt ∧ ((sByt.getD i []).getD n 0).toInt < 65536 := by decide +kernel
    have hn : ((v0 :: vt).getD 1 0).toNat < sLen.getD i 0 := by omega
    have e3 : ((((v0 :: vt).getD 1 0).toNat : Nat) : Int) = (v0 :: vt).getD 1 0 := by omega
    generalize hn9 : ((v0 :: vt).getD 1 0).toNat = n at hn e3 hq
    show Met l jy_charAt (Cond.code jy_charAt prog_22_method_56_code 2 (some .char) :: gTbl) (rmJ (k + 4)) (PcOf G 175 (v0 :: vt) u) (QcOf G 175 Q) 0 0 (fun q => G.2.2.2 ≤ q)
    refine met_conseq (j_charAt k i n hi hn) ?_ ?_
    · intro a U h
      obtain ⟨h1, h2, h3, h4, h5, h6⟩ := h
      match vt, h2, e3, h1 with
      | [], h2, _, _ => exact h2.2.elim
      | [v1], h2, e3, h1 =>
        have e3 : (n : Int) = v1 := e3
        refine ⟨h1.trans ?_, h6, h5⟩
        show [enc G.1 2 v0, .int (Int32.ofInt v1)].toArray = _
        rw [enc_2 _ hv0, e1, e3]
      | _ :: _ :: _, h2, _, _ => exact h2.2.2.elim
    · intro a st o t h hj
      obtain ⟨h1, h2, h3, h4, h5, h6⟩ := h
      obtain ⟨ho, ht⟩ := hj
      have e4 := e2 i hi n hn
      refine ⟨⟨((sByt.getD i []).getD n 0).toInt, u, ?_, ?_, hq, by rw [ht]; exact h3⟩, by rw [ht]; exact Nat.le_refl _, fun q _ => by rw [ht]⟩
      · rw [ho, e4.1]; rfl
      · show 0 ≤ _ ∧ _ < (65536 : Int)
        exact ⟨e4.2.1, e4.2.2⟩
theorem all0 : allP (fun K f => ((K = 174 ∨ K = 175) → ∀ d, 3 ≤ d → BodyAt d K f) ∧ (¬ (K = 174 ∨ K = 175) → BodyOK K f)) 0 bodyL0 :=
  ⟨⟨fun h => absurd h (by decide), fun _ => O0⟩, ⟨fun h => absurd h (by decide), fun _ => O1⟩, ⟨fun h => absurd h (by decide), fun _ => O2⟩, ⟨fun h => absurd h (by decide), fun _ => O3⟩, ⟨fun h => absurd h (by decide), fun _ => O4⟩, ⟨fun h => absurd h (by decide), fun _ => O5⟩, ⟨fun h => absurd h (by decide), fun _ => O6⟩, ⟨fun h => absurd h (by decide), fun _ => O7⟩, ⟨fun h => absurd h (by decide), fun _ => O8⟩, ⟨fun h => absurd h (by decide), fun _ => O9⟩, ⟨fun h => absurd h (by decide), fun _ => O10⟩, ⟨fun h => absurd h (by decide), fun _ => O11⟩, ⟨fun h => absurd h (by decide), fun _ => O12⟩, ⟨fun h => absurd h (by decide), fun _ => O13⟩, ⟨fun h => absurd h (by decide), fun _ => O14⟩, ⟨fun h => absurd h (by decide), fun _ => O15⟩, ⟨fun h => absurd h (by decide), fun _ => O16⟩, ⟨fun h => absurd h (by decide), fun _ => O17⟩, ⟨fun h => absurd h (by decide), fun _ => O18⟩, ⟨fun h => absurd h (by decide), fun _ => O19⟩, ⟨fun h => absurd h (by decide), fun _ => O20⟩, ⟨fun h => absurd h (by decide), fun _ => O21⟩, ⟨fun h => absurd h (by decide), fun _ => O22⟩, ⟨fun h => absurd h (by decide), fun _ => O23⟩, ⟨fun h => absurd h (by decide), fun _ => O24⟩, ⟨fun h => absurd h (by decide), fun _ => O25⟩, ⟨fun h => absurd h (by decide), fun _ => O26⟩, ⟨fun h => absurd h (by decide), fun _ => O27⟩, ⟨fun h => absurd h (by decide), fun _ => O28⟩, ⟨fun h => absurd h (by decide), fun _ => O29⟩, ⟨fun h => absurd h (by decide), fun _ => O30⟩, ⟨fun h => absurd h (by decide), fun _ => O31⟩, ⟨fun h => absurd h (by decide), fun _ => O32⟩, ⟨fun h => absurd h (by decide), fun _ => O33⟩, ⟨fun h => absurd h (by decide), fun _ => O34⟩, ⟨fun h => absurd h (by decide), fun _ => O35⟩, ⟨fun h => absurd h (by decide), fun _ => O36⟩, ⟨fun h => absurd h (by decide), fun _ => O37⟩, ⟨fun h => absurd h (by decide), fun _ => O38⟩, ⟨fun h => absurd h (by decide), fun _ => O39⟩, trivial⟩
theorem all1 : allP (fun K f => ((K = 174 ∨ K = 175) → ∀ d, 3 ≤ d → BodyAt d K f) ∧ (¬ (K = 174 ∨ K = 175) → BodyOK K f)) 40 bodyL1 :=
  ⟨⟨fun h => absurd h (by decide), fun _ => O40⟩, ⟨fun h => absurd h (by decide), fun _ => O41⟩, ⟨fun h => absurd h (by decide), fun _ => O42⟩, ⟨fun h => absurd h (by decide), fun _ => O43⟩, ⟨fun h => absurd h (by decide), fun _ => O44⟩, ⟨fun h => absurd h (by decide), fun _ => O45⟩, ⟨fun h => absurd h (by decide), fun _ => O46⟩, ⟨fun h => absurd h (by decide), fun _ => O47⟩, ⟨fun h => absurd h (by decide), fun _ => O48⟩, ⟨fun h => absurd h (by decide), fun _ => O49⟩, ⟨fun h => absurd h (by decide), fun _ => O50⟩, ⟨fun h => absurd h (by decide), fun _ => O51⟩, ⟨fun h => absurd h (by decide), fun _ => O52⟩, ⟨fun h => absurd h (by decide), fun _ => O53⟩, ⟨fun h => absurd h (by decide), fun _ => O54⟩, ⟨fun h => absurd h (by decide), fun _ => O55⟩, ⟨fun h => absurd h (by decide), fun _ => O56⟩, ⟨fun h => absurd h (by decide), fun _ => O57⟩, ⟨fun h => absurd h (by decide), fun _ => O58⟩, ⟨fun h => absurd h (by decide), fun _ => O59⟩, ⟨fun h => absurd h (by decide), fun _ => O60⟩, ⟨fun h => absurd h (by decide), fun _ => O61⟩, ⟨fun h => absurd h (by decide), fun _ => O62⟩, ⟨fun h => absurd h (by decide), fun _ => O63⟩, ⟨fun h => absurd h (by decide), fun _ => O64⟩, ⟨fun h => absurd h (by decide), fun _ => O65⟩, ⟨fun h => absurd h (by decide), fun _ => O66⟩, ⟨fun h => absurd h (by decide), fun _ => O67⟩, ⟨fun h => absurd h (by decide), fun _ => O68⟩, ⟨fun h => absurd h (by decide), fun _ => O69⟩, ⟨fun h => absurd h (by decide), fun _ => O70⟩, ⟨fun h => absurd h (by decide), fun _ => O71⟩, ⟨fun h => absurd h (by decide), fun _ => O72⟩, ⟨fun h => absurd h (by decide), fun _ => O73⟩, ⟨fun h => absurd h (by decide), fun _ => O74⟩, ⟨fun h => absurd h (by decide), fun _ => O75⟩, ⟨fun h => absurd h (by decide), fun _ => O76⟩, ⟨fun h => absurd h (by decide), fun _ => O77⟩, ⟨fun h => absurd h (by decide), fun _ => O78⟩, ⟨fun h => absurd h (by decide), fun _ => O79⟩, trivial⟩
theorem all2 : allP (fun K f => ((K = 174 ∨ K = 175) → ∀ d, 3 ≤ d → BodyAt d K f) ∧ (¬ (K = 174 ∨ K = 175) → BodyOK K f)) 80 bodyL2 :=
  ⟨⟨fun h => absurd h (by decide), fun _ => O80⟩, ⟨fun h => absurd h (by decide), fun _ => O81⟩, ⟨fun h => absurd h (by decide), fun _ => O82⟩, ⟨fun h => absurd h (by decide), fun _ => O83⟩, ⟨fun h => absurd h (by decide), fun _ => O84⟩, ⟨fun h => absurd h (by decide), fun _ => O85⟩, ⟨fun h => absurd h (by decide), fun _ => O86⟩, ⟨fun h => absurd h (by decide), fun _ => O87⟩, ⟨fun h => absurd h (by decide), fun _ => O88⟩, ⟨fun h => absurd h (by decide), fun _ => O89⟩, ⟨fun h => absurd h (by decide), fun _ => O90⟩, ⟨fun h => absurd h (by decide), fun _ => O91⟩, ⟨fun h => absurd h (by decide), fun _ => O92⟩, ⟨fun h => absurd h (by decide), fun _ => O93⟩, ⟨fun h => absurd h (by decide), fun _ => O94⟩, ⟨fun h => absurd h (by decide), fun _ => O95⟩, ⟨fun h => absurd h (by decide), fun _ => O96⟩, ⟨fun h => absurd h (by decide), fun _ => O97⟩, ⟨fun h => absurd h (by decide), fun _ => O98⟩, ⟨fun h => absurd h (by decide), fun _ => O99⟩, ⟨fun h => absurd h (by decide), fun _ => O100⟩, ⟨fun h => absurd h (by decide), fun _ => O101⟩, ⟨fun h => absurd h (by decide), fun _ => O102⟩, ⟨fun h => absurd h (by decide), fun _ => O103⟩, ⟨fun h => absurd h (by decide), fun _ => O104⟩, ⟨fun h => absurd h (by decide), fun _ => O105⟩, ⟨fun h => absurd h (by decide), fun _ => O106⟩, ⟨fun h => absurd h (by decide), fun _ => O107⟩, ⟨fun h => absurd h (by decide), fun _ => O108⟩, ⟨fun h => absurd h (by decide), fun _ => O109⟩, ⟨fun h => absurd h (by decide), fun _ => O110⟩, ⟨fun h => absurd h (by decide), fun _ => O111⟩, ⟨fun h => absurd h (by decide), fun _ => O112⟩, ⟨fun h => absurd h (by decide), fun _ => O113⟩, ⟨fun h => absurd h (by decide), fun _ => O114⟩, ⟨fun h => absurd h (by decide), fun _ => O115⟩, ⟨fun h => absurd h (by decide), fun _ => O116⟩, ⟨fun h => absurd h (by decide), fun _ => O117⟩, ⟨fun h => absurd h (by decide), fun _ => O118⟩, ⟨fun h => absurd h (by decide), fun _ => O119⟩, trivial⟩
theorem all3 : allP (fun K f => ((K = 174 ∨ K = 175) → ∀ d, 3 ≤ d → BodyAt d K f) ∧ (¬ (K = 174 ∨ K = 175) → BodyOK K f)) 120 bodyL3 :=
  ⟨⟨fun h => absurd h (by decide), fun _ => O120⟩, ⟨fun h => absurd h (by decide), fun _ => O121⟩, ⟨fun h => absurd h (by decide), fun _ => O122⟩, ⟨fun h => absurd h (by decide), fun _ => O123⟩, ⟨fun h => absurd h (by decide), fun _ => O124⟩, ⟨fun h => absurd h (by decide), fun _ => O125⟩, ⟨fun h => absurd h (by decide), fun _ => O126⟩, ⟨fun h => absurd h (by decide), fun _ => O127⟩, ⟨fun h => absurd h (by decide), fun _ => O128⟩, ⟨fun h => absurd h (by decide), fun _ => O129⟩, ⟨fun h => absurd h (by decide), fun _ => O130⟩, ⟨fun h => absurd h (by decide), fun _ => O131⟩, ⟨fun h => absurd h (by decide), fun _ => O132⟩, ⟨fun h => absurd h (by decide), fun _ => O133⟩, ⟨fun h => absurd h (by decide), fun _ => O134⟩, ⟨fun h => absurd h (by decide), fun _ => O135⟩, ⟨fun h => absurd h (by decide), fun _ => O136⟩, ⟨fun h => absurd h (by decide), fun _ => O137⟩, ⟨fun h => absurd h (by decide), fun _ => O138⟩, ⟨fun h => absurd h (by decide), fun _ => O139⟩, ⟨fun h => absurd h (by decide), fun _ => O140⟩, ⟨fun h => absurd h (by decide), fun _ => O141⟩, ⟨fun h => absurd h (by decide), fun _ => O142⟩, ⟨fun h => absurd h (by decide), fun _ => O143⟩, ⟨fun h => absurd h (by decide), fun _ => O144⟩, ⟨fun h => absurd h (by decide), fun _ => O145⟩, ⟨fun h => absurd h (by decide), fun _ => O146⟩, ⟨fun h => absurd h (by decide), fun _ => O147⟩, ⟨fun h => absurd h (by decide), fun _ => O148⟩, ⟨fun h => absurd h (by decide), fun _ => O149⟩, ⟨fun h => absurd h (by decide), fun _ => O150⟩, ⟨fun h => absurd h (by decide), fun _ => O151⟩, ⟨fun h => absurd h (by decide), fun _ => O152⟩, ⟨fun h => absurd h (by decide), fun _ => O153⟩, ⟨fun h => absurd h (by decide), fun _ => O154⟩, ⟨fun h => absurd h (by decide), fun _ => O155⟩, ⟨fun h => absurd h (by decide), fun _ => ok_noB 156⟩, ⟨fun h => absurd h (by decide), fun _ => O157⟩, ⟨fun h => absurd h (by decide), fun _ => O158⟩, ⟨fun h => absurd h (by decide), fun _ => O159⟩, trivial⟩
theorem all4 : allP (fun K f => ((K = 174 ∨ K = 175) → ∀ d, 3 ≤ d → BodyAt d K f) ∧ (¬ (K = 174 ∨ K = 175) → BodyOK K f)) 160 bodyL4 :=
  ⟨⟨fun h => absurd h (by decide), fun _ => ok_noB 160⟩, ⟨fun h => absurd h (by decide), fun _ => ok_noB 161⟩, ⟨fun h => absurd h (by decide), fun _ => ok_noB 162⟩, ⟨fun h => absurd h (by decide), fun _ => O163⟩, ⟨fun h => absurd h (by decide), fun _ => ok_noB 164⟩, ⟨fun h => absurd h (by decide), fun _ => O165⟩, ⟨fun h => absurd h (by decide), fun _ => ok_noB 166⟩, ⟨fun h => absurd h (by decide), fun _ => O167⟩, ⟨fun h => absurd h (by decide), fun _ => O168⟩, ⟨fun h => absurd h (by decide), fun _ => O169⟩, ⟨fun h => absurd h (by decide), fun _ => O170⟩, ⟨fun h => absurd h (by decide), fun _ => O171⟩, ⟨fun h => absurd h (by decide), fun _ => O172⟩, ⟨fun h => absurd h (by decide), fun _ => O173⟩, ⟨fun _ => at_len, fun h => absurd (Or.inl rfl) h⟩, ⟨fun _ => at_chr, fun h => absurd (Or.inr rfl) h⟩, ⟨fun h => absurd h (by decide), fun _ => O176⟩, ⟨fun h => absurd h (by decide), fun _ => O177⟩, ⟨fun h => absurd h (by decide), fun _ => O178⟩, ⟨fun h => absurd h (by decide), fun _ => O179⟩, ⟨fun h => absurd h (by decide), fun _ => O180⟩, ⟨fun h => absurd h (by decide), fun _ => O181⟩, ⟨fun h => absurd h (by decide), fun _ => O182⟩, ⟨fun h => absurd h (by decide), fun _ => O183⟩, ⟨fun h => absurd h (by decide), fun _ => O184⟩, ⟨fun h => absurd h (by decide), fun _ => O185⟩, ⟨fun h => absurd h (by decide), fun _ => O186⟩, ⟨fun h => absurd h (by decide), fun _ => O187⟩, ⟨fun h => absurd h (by decide), fun _ => O188⟩, ⟨fun h => absurd h (by decide), fun _ => O189⟩, ⟨fun h => absurd h (by decide), fun _ => O190⟩, ⟨fun h => absurd h (by decide), fun _ => O191⟩, ⟨fun h => absurd h (by decide), fun _ => O192⟩, ⟨fun h => absurd h (by decide), fun _ => O193⟩, ⟨fun h => absurd h (by decide), fun _ => O194⟩, ⟨fun h => absurd h (by decide), fun _ => O195⟩, ⟨fun h => absurd h (by decide), fun _ => O196⟩, ⟨fun h => absurd h (by decide), fun _ => O197⟩, ⟨fun h => absurd h (by decide), fun _ => O198⟩, ⟨fun h => absurd h (by decide), fun _ => O199⟩, trivial⟩
theorem all5 : allP (fun K f => ((K = 174 ∨ K = 175) → ∀ d, 3 ≤ d → BodyAt d K f) ∧ (¬ (K = 174 ∨ K = 175) → BodyOK K f)) 200 bodyL5 :=
  ⟨⟨fun h => absurd h (by decide), fun _ => O200⟩, ⟨fun h => absurd h (by decide), fun _ => O201⟩, ⟨fun h => absurd h (by decide), fun _ => O202⟩, ⟨fun h => absurd h (by decide), fun _ => O203⟩, ⟨fun h => absurd h (by decide), fun _ => O204⟩, ⟨fun h => absurd h (by decide), fun _ => O205⟩, ⟨fun h => absurd h (by decide), fun _ => O206⟩, ⟨fun h => absurd h (by decide), fun _ => O207⟩, ⟨fun h => absurd h (by decide), fun _ => O208⟩, ⟨fun h => absurd h (by decide), fun _ => O209⟩, ⟨fun h => absurd h (by decide), fun _ => O210⟩, ⟨fun h => absurd h (by decide), fun _ => O211⟩, ⟨fun h => absurd h (by decide), fun _ => O212⟩, ⟨fun h => absurd h (by decide), fun _ => O213⟩, ⟨fun h => absurd h (by decide), fun _ => O214⟩, ⟨fun h => absurd h (by decide), fun _ => O215⟩, ⟨fun h => absurd h (by decide), fun _ => O216⟩, ⟨fun h => absurd h (by decide), fun _ => O217⟩, ⟨fun h => absurd h (by decide), fun _ => O218⟩, ⟨fun h => absurd h (by decide), fun _ => O219⟩, ⟨fun h => absurd h (by decide), fun _ => O220⟩, ⟨fun h => absurd h (by decide), fun _ => O221⟩, ⟨fun h => absurd h (by decide), fun _ => O222⟩, ⟨fun h => absurd h (by decide), fun _ => O223⟩, ⟨fun h => absurd h (by decide), fun _ => O224⟩, ⟨fun h => absurd h (by decide), fun _ => O225⟩, ⟨fun h => absurd h (by decide), fun _ => O226⟩, ⟨fun h => absurd h (by decide), fun _ => O227⟩, ⟨fun h => absurd h (by decide), fun _ => O228⟩, ⟨fun h => absurd h (by decide), fun _ => O229⟩, ⟨fun h => absurd h (by decide), fun _ => O230⟩, ⟨fun h => absurd h (by decide), fun _ => O231⟩, ⟨fun h => absurd h (by decide), fun _ => O232⟩, ⟨fun h => absurd h (by decide), fun _ => O233⟩, ⟨fun h => absurd h (by decide), fun _ => O234⟩, ⟨fun h => absurd h (by decide), fun _ => O235⟩, ⟨fun h => absurd h (by decide), fun _ => O236⟩, ⟨fun h => absurd h (by decide), fun _ => O237⟩, ⟨fun h => absurd h (by decide), fun _ => O238⟩, ⟨fun h => absurd h (by decide), fun _ => O239⟩, trivial⟩
theorem all6 : allP (fun K f => ((K = 174 ∨ K = 175) → ∀ d, 3 ≤ d → BodyAt d K f) ∧ (¬ (K = 174 ∨ K = 175) → BodyOK K f)) 240 bodyL6 :=
  ⟨⟨fun h => absurd h (by decide), fun _ => O240⟩, ⟨fun h => absurd h (by decide), fun _ => O241⟩, ⟨fun h => absurd h (by decide), fun _ => O242⟩, ⟨fun h => absurd h (by decide), fun _ => O243⟩, ⟨fun h => absurd h (by decide), fun _ => O244⟩, ⟨fun h => absurd h (by decide), fun _ => O245⟩, ⟨fun h => absurd h (by decide), fun _ => O246⟩, ⟨fun h => absurd h (by decide), fun _ => O247⟩, ⟨fun h => absurd h (by decide), fun _ => O248⟩, ⟨fun h => absurd h (by decide), fun _ => O249⟩, ⟨fun h => absurd h (by decide), fun _ => O250⟩, ⟨fun h => absurd h (by decide), fun _ => O251⟩, ⟨fun h => absurd h (by decide), fun _ => O252⟩, ⟨fun h => absurd h (by decide), fun _ => O253⟩, ⟨fun h => absurd h (by decide), fun _ => O254⟩, ⟨fun h => absurd h (by decide), fun _ => O255⟩, ⟨fun h => absurd h (by decide), fun _ => O256⟩, ⟨fun h => absurd h (by decide), fun _ => O257⟩, ⟨fun h => absurd h (by decide), fun _ => O258⟩, ⟨fun h => absurd h (by decide), fun _ => O259⟩, ⟨fun h => absurd h (by decide), fun _ => O260⟩, ⟨fun h => absurd h (by decide), fun _ => O261⟩, ⟨fun h => absurd h (by decide), fun _ => O262⟩, ⟨fun h => absurd h (by decide), fun _ => O263⟩, ⟨fun h => absurd h (by decide), fun _ => O264⟩, ⟨fun h => absurd h (by decide), fun _ => O265⟩, ⟨fun h => absurd h (by decide), fun _ => O266⟩, ⟨fun h => absurd h (by decide), fun _ => O267⟩, ⟨fun h => absurd h (by decide), fun _ => O268⟩, ⟨fun h => absurd h (by decide), fun _ => O269⟩, ⟨fun h => absurd h (by decide), fun _ => O270⟩, ⟨fun h => absurd h (by decide), fun _ => O271⟩, ⟨fun h => absurd h (by decide), fun _ => O272⟩, ⟨fun h => absurd h (by decide), fun _ => O273⟩, ⟨fun h => absurd h (by decide), fun _ => O274⟩, ⟨fun h => absurd h (by decide), fun _ => O275⟩, ⟨fun h => absurd h (by decide), fun _ => O276⟩, ⟨fun h => absurd h (by decide), fun _ => O277⟩, ⟨fun h => absurd h (by decide), fun _ => O278⟩, ⟨fun h => absurd h (by decide), fun _ => O279⟩, trivial⟩
theorem all7 : allP (fun K f => ((K = 174 ∨ K = 175) → ∀ d, 3 ≤ d → BodyAt d K f) ∧ (¬ (K = 174 ∨ K = 175) → BodyOK K f)) 280 bodyL7 :=
  ⟨⟨fun h => absurd h (by decide), fun _ => O280⟩, ⟨fun h => absurd h (by decide), fun _ => O281⟩, trivial⟩
theorem allP_ap2 {P : Nat → BT → Prop} (L M : List BT) (i j : Nat) (h : allP P i L) (e : i + L.length = j) (h2 : allP P j M) : allP P i (L ++ M) := allP_app L M i h (by rw [e]; exact h2)
theorem allB : allP (fun K f => ((K = 174 ∨ K = 175) → ∀ d, 3 ≤ d → BodyAt d K f) ∧ (¬ (K = 174 ∨ K = 175) → BodyOK K f)) 0 bodyL :=
  allP_ap2 _ _ 0 40 all0 rfl (allP_ap2 _ _ 40 80 all1 rfl (allP_ap2 _ _ 80 120 all2 rfl (allP_ap2 _ _ 120 160 all3 rfl (allP_ap2 _ _ 160 200 all4 rfl (allP_ap2 _ _ 200 240 all5 rfl (allP_ap2 _ _ 240 280 all6 rfl (all7)))))))
theorem bodyOK (d K : Nat) (h : (K = 174 ∨ K = 175) → 3 ≤ d) : BodyAt d K (bodyOf K) := by
  have h9 := allP_get (P := fun K f => ((K = 174 ∨ K = 175) → ∀ d, 3 ≤ d → BodyAt d K f) ∧ (¬ (K = 174 ∨ K = 175) → BodyOK K f)) (fun K => ⟨fun _ d _ l G cl vs Q u _ _ hf => hf.elim, fun _ => ok_noB K⟩) bodyL 0 K allB (Nat.zero_le _)
  by_cases hk : K = 174 ∨ K = 175
  · exact h9.1 hk d (h hk)
  · exact fun l G cl vs Q u => h9.2 hk l G cl d vs Q u
theorem clD {l : Launch} {G : Geo} (hfl : l.flags = flags0) (d : Nat) (R : Room) (h1 : d + 1 ≤ R.frames) (h2 : 90 * (d + 1) ≤ R.locals) : ClOK l R G (Cl d) := clOK hfl bodyOK d R h1 h2
theorem wc_z {K : Nat} {x : MethodName} {c : ByteArray} {n z : Nat} {r : Option FieldType} {s : List Nat} (h : mT K = (x, c, n, r, s, z, 0, 0)) (cl : ClT) (Q : Int → Sto → Prop) (vs : List Int) (e : Int) (m : Mem) : wcl cl K Q vs (S9 e m) = cl K vs (fun v u1 => Q v (bud u1 0 0)) (S9 e m) := by
  have h1 : mCel K = 0 := by unfold mCel; rw [h]
  have h2 : mSlo K = 0 := by unfold mSlo; rw [h]
  unfold wcl
  rw [h1, h2]
  show ((0 ≤ 0 ∧ 0 ≤ 0) ∧ cl K vs (fun v u1 => Q v (bud u1 (0 - 0) (0 - 0))) (S9 e m)) = _
  simp only [Nat.le_refl, and_self, true_and, Nat.sub_self]
theorem wc_5 (cl : ClT) (Q : Int → Sto → Prop) (vs : List Int) (e : Int) (m : Mem) : wcl cl 5 Q vs (S9 e m) = cl 5 vs (fun v u1 => Q v (bud u1 0 0)) (S9 e m) := wc_z mt_9_5 cl Q vs e m
theorem wc_12 (cl : ClT) (Q : Int → Sto → Prop) (vs : List Int) (e : Int) (m : Mem) : wcl cl 12 Q vs (S9 e m) = cl 12 vs (fun v u1 => Q v (bud u1 0 0)) (S9 e m) := wc_z mt_9_12 cl Q vs e m
theorem wc_13 (cl : ClT) (Q : Int → Sto → Prop) (vs : List Int) (e : Int) (m : Mem) : wcl cl 13 Q vs (S9 e m) = cl 13 vs (fun v u1 => Q v (bud u1 0 0)) (S9 e m) := wc_z mt_9_13 cl Q vs e m
theorem wc_14 (cl : ClT) (Q : Int → Sto → Prop) (vs : List Int) (e : Int) (m : Mem) : wcl cl 14 Q vs (S9 e m) = cl 14 vs (fun v u1 => Q v (bud u1 0 0)) (S9 e m) := wc_z mt_9_14 cl Q vs e m
theorem wc_15 (cl : ClT) (Q : Int → Sto → Prop) (vs : List Int) (e : Int) (m : Mem) : wcl cl 15 Q vs (S9 e m) = cl 15 vs (fun v u1 => Q v (bud u1 0 0)) (S9 e m) := wc_z mt_9_15 cl Q vs e m
theorem wc_16 (cl : ClT) (Q : Int → Sto → Prop) (vs : List Int) (e : Int) (m : Mem) : wcl cl 16 Q vs (S9 e m) = cl 16 vs (fun v u1 => Q v (bud u1 0 0)) (S9 e m) := wc_z mt_9_16 cl Q vs e m
theorem wc_17 (cl : ClT) (Q : Int → Sto → Prop) (vs : List Int) (e : Int) (m : Mem) : wcl cl 17 Q vs (S9 e m) = cl 17 vs (fun v u1 => Q v (bud u1 0 0)) (S9 e m) := wc_z mt_9_17 cl Q vs e m
theorem wc_18 (cl : ClT) (Q : Int → Sto → Prop) (vs : List Int) (e : Int) (m : Mem) : wcl cl 18 Q vs (S9 e m) = cl 18 vs (fun v u1 => Q v (bud u1 0 0)) (S9 e m) := wc_z mt_9_18 cl Q vs e m
theorem wc_19 (cl : ClT) (Q : Int → Sto → Prop) (vs : List Int) (e : Int) (m : Mem) : wcl cl 19 Q vs (S9 e m) = cl 19 vs (fun v u1 => Q v (bud u1 0 0)) (S9 e m) := wc_z mt_9_19 cl Q vs e m
theorem wc_20 (cl : ClT) (Q : Int → Sto → Prop) (vs : List Int) (e : Int) (m : Mem) : wcl cl 20 Q vs (S9 e m) = cl 20 vs (fun v u1 => Q v (bud u1 0 0)) (S9 e m) := wc_z mt_9_20 cl Q vs e m
theorem wc_21 (cl : ClT) (Q : Int → Sto → Prop) (vs : List Int) (e : Int) (m : Mem) : wcl cl 21 Q vs (S9 e m) = cl 21 vs (fun v u1 => Q v (bud u1 0 0)) (S9 e m) := wc_z mt_9_21 cl Q vs e m
theorem wc_22 (cl : ClT) (Q : Int → Sto → Prop) (vs : List Int) (e : Int) (m : Mem) : wcl cl 22 Q vs (S9 e m) = cl 22 vs (fun v u1 => Q v (bud u1 0 0)) (S9 e m) := wc_z mt_9_22 cl Q vs e m
theorem wc_23 (cl : ClT) (Q : Int → Sto → Prop) (vs : List Int) (e : Int) (m : Mem) : wcl cl 23 Q vs (S9 e m) = cl 23 vs (fun v u1 => Q v (bud u1 0 0)) (S9 e m) := wc_z mt_9_23 cl Q vs e m
theorem wc_24 (cl : ClT) (Q : Int → Sto → Prop) (vs : List Int) (e : Int) (m : Mem) : wcl cl 24 Q vs (S9 e m) = cl 24 vs (fun v u1 => Q v (bud u1 0 0)) (S9 e m) := wc_z mt_9_24 cl Q vs e m
theorem wc_25 (cl : ClT) (Q : Int → Sto → Prop) (vs : List Int) (e : Int) (m : Mem) : wcl cl 25 Q vs (S9 e m) = cl 25 vs (fun v u1 => Q v (bud u1 0 0)) (S9 e m) := wc_z mt_9_25 cl Q vs e m
theorem wc_26 (cl : ClT) (Q : Int → Sto → Prop) (vs : List Int) (e : Int) (m : Mem) : wcl cl 26 Q vs (S9 e m) = cl 26 vs (fun v u1 => Q v (bud u1 0 0)) (S9 e m) := wc_z mt_9_26 cl Q vs e m
theorem wc_27 (cl : ClT) (Q : Int → Sto → Prop) (vs : List Int) (e : Int) (m : Mem) : wcl cl 27 Q vs (S9 e m) = cl 27 vs (fun v u1 => Q v (bud u1 0 0)) (S9 e m) := wc_z mt_9_27 cl Q vs e m
theorem wc_28 (cl : ClT) (Q : Int → Sto → Prop) (vs : List Int) (e : Int) (m : Mem) : wcl cl 28 Q vs (S9 e m) = cl 28 vs (fun v u1 => Q v (bud u1 0 0)) (S9 e m) := wc_z mt_9_28 cl Q vs e m
theorem wc_29 (cl : ClT) (Q : Int → Sto → Prop) (vs : List Int) (e : Int) (m : Mem) : wcl cl 29 Q vs (S9 e m) = cl 29 vs (fun v u1 => Q v (bud u1 0 0)) (S9 e m) := wc_z mt_9_29 cl Q vs e m
theorem wc_30 (cl : ClT) (Q : Int → Sto → Prop) (vs : List Int) (e : Int) (m : Mem) : wcl cl 30 Q vs (S9 e m) = cl 30 vs (fun v u1 => Q v (bud u1 0 0)) (S9 e m) := wc_z mt_9_30 cl Q vs e m
theorem wc_31 (cl : ClT) (Q : Int → Sto → Prop) (vs : List Int) (e : Int) (m : Mem) : wcl cl 31 Q vs (S9 e m) = cl 31 vs (fun v u1 => Q v (bud u1 0 0)) (S9 e m) := wc_z mt_9_31 cl Q vs e m
theorem wc_32 (cl : ClT) (Q : Int → Sto → Prop) (vs : List Int) (e : Int) (m : Mem) : wcl cl 32 Q vs (S9 e m) = cl 32 vs (fun v u1 => Q v (bud u1 0 0)) (S9 e m) := wc_z mt_9_32 cl Q vs e m
theorem wc_33 (cl : ClT) (Q : Int → Sto → Prop) (vs : List Int) (e : Int) (m : Mem) : wcl cl 33 Q vs (S9 e m) = cl 33 vs (fun v u1 => Q v (bud u1 0 0)) (S9 e m) := wc_z mt_9_33 cl Q vs e m
theorem wc_34 (cl : ClT) (Q : Int → Sto → Prop) (vs : List Int) (e : Int) (m : Mem) : wcl cl 34 Q vs (S9 e m) = cl 34 vs (fun v u1 => Q v (bud u1 0 0)) (S9 e m) := wc_z mt_9_34 cl Q vs e m
theorem wc_35 (cl : ClT) (Q : Int → Sto → Prop) (vs : List Int) (e : Int) (m : Mem) : wcl cl 35 Q vs (S9 e m) = cl 35 vs (fun v u1 => Q v (bud u1 0 0)) (S9 e m) := wc_z mt_9_35 cl Q vs e m
theorem wc_36 (cl : ClT) (Q : Int → Sto → Prop) (vs : List Int) (e : Int) (m : Mem) : wcl cl 36 Q vs (S9 e m) = cl 36 vs (fun v u1 => Q v (bud u1 0 0)) (S9 e m) := wc_z mt_9_36 cl Q vs e m
theorem wc_37 (cl : ClT) (Q : Int → Sto → Prop) (vs : List Int) (e : Int) (m : Mem) : wcl cl 37 Q vs (S9 e m) = cl 37 vs (fun v u1 => Q v (bud u1 0 0)) (S9 e m) := wc_z mt_9_37 cl Q vs e m
theorem wc_38 (cl : ClT) (Q : Int → Sto → Prop) (vs : List Int) (e : Int) (m : Mem) : wcl cl 38 Q vs (S9 e m) = cl 38 vs (fun v u1 => Q v (bud u1 0 0)) (S9 e m) := wc_z mt_9_38 cl Q vs e m
theorem wc_39 (cl : ClT) (Q : Int → Sto → Prop) (vs : List Int) (e : Int) (m : Mem) : wcl cl 39 Q vs (S9 e m) = cl 39 vs (fun v u1 => Q v (bud u1 0 0)) (S9 e m) := wc_z mt_9_39 cl Q vs e m
theorem wc_40 (cl : ClT) (Q : Int → Sto → Prop) (vs : List Int) (e : Int) (m : Mem) : wcl cl 40 Q vs (S9 e m) = cl 40 vs (fun v u1 => Q v (bud u1 0 0)) (S9 e m) := wc_z mt_9_40 cl Q vs e m
theorem wc_41 (cl : ClT) (Q : Int → Sto → Prop) (vs : List Int) (e : Int) (m : Mem) : wcl cl 41 Q vs (S9 e m) = cl 41 vs (fun v u1 => Q v (bud u1 0 0)) (S9 e m) := wc_z mt_9_41 cl Q vs e m
theorem wc_42 (cl : ClT) (Q : Int → Sto → Prop) (vs : List Int) (e : Int) (m : Mem) : wcl cl 42 Q vs (S9 e m) = cl 42 vs (fun v u1 => Q v (bud u1 0 0)) (S9 e m) := wc_z mt_9_42 cl Q vs e m
theorem wc_43 (cl : ClT) (Q : Int → Sto → Prop) (vs : List Int) (e : Int) (m : Mem) : wcl cl 43 Q vs (S9 e m) = cl 43 vs (fun v u1 => Q v (bud u1 0 0)) (S9 e m) := wc_z mt_9_43 cl Q vs e m
theorem wc_44 (cl : ClT) (Q : Int → Sto → Prop) (vs : List Int) (e : Int) (m : Mem) : wcl cl 44 Q vs (S9 e m) = cl 44 vs (fun v u1 => Q v (bud u1 0 0)) (S9 e m) := wc_z mt_9_44 cl Q vs e m
theorem wc_45 (cl : ClT) (Q : Int → Sto → Prop) (vs : List Int) (e : Int) (m : Mem) : wcl cl 45 Q vs (S9 e m) = cl 45 vs (fun v u1 => Q v (bud u1 0 0)) (S9 e m) := wc_z mt_9_45 cl Q vs e m
theorem wc_46 (cl : ClT) (Q : Int → Sto → Prop) (vs : List Int) (e : Int) (m : Mem) : wcl cl 46 Q vs (S9 e m) = cl 46 vs (fun v u1 => Q v (bud u1 0 0)) (S9 e m) := wc_z mt_9_46 cl Q vs e m
theorem wc_47 (cl : ClT) (Q : Int → Sto → Prop) (vs : List Int) (e : Int) (m : Mem) : wcl cl 47 Q vs (S9 e m) = cl 47 vs (fun v u1 => Q v (bud u1 0 0)) (S9 e m) := wc_z mt_9_47 cl Q vs e m
theorem wc_48 (cl : ClT) (Q : Int → Sto → Prop) (vs : List Int) (e : Int) (m : Mem) : wcl cl 48 Q vs (S9 e m) = cl 48 vs (fun v u1 => Q v (bud u1 0 0)) (S9 e m) := wc_z mt_9_48 cl Q vs e m
theorem wc_49 (cl : ClT) (Q : Int → Sto → Prop) (vs : List Int) (e : Int) (m : Mem) : wcl cl 49 Q vs (S9 e m) = cl 49 vs (fun v u1 => Q v (bud u1 0 0)) (S9 e m) := wc_z mt_9_49 cl Q vs e m
theorem wc_50 (cl : ClT) (Q : Int → Sto → Prop) (vs : List Int) (e : Int) (m : Mem) : wcl cl 50 Q vs (S9 e m) = cl 50 vs (fun v u1 => Q v (bud u1 0 0)) (S9 e m) := wc_z mt_9_50 cl Q vs e m
theorem wc_51 (cl : ClT) (Q : Int → Sto → Prop) (vs : List Int) (e : Int) (m : Mem) : wcl cl 51 Q vs (S9 e m) = cl 51 vs (fun v u1 => Q v (bud u1 0 0)) (S9 e m) := wc_z mt_9_51 cl Q vs e m
theorem wc_52 (cl : ClT) (Q : Int → Sto → Prop) (vs : List Int) (e : Int) (m : Mem) : wcl cl 52 Q vs (S9 e m) = cl 52 vs (fun v u1 => Q v (bud u1 0 0)) (S9 e m) := wc_z mt_9_52 cl Q vs e m
theorem wc_53 (cl : ClT) (Q : Int → Sto → Prop) (vs : List Int) (e : Int) (m : Mem) : wcl cl 53 Q vs (S9 e m) = cl 53 vs (fun v u1 => Q v (bud u1 0 0)) (S9 e m) := wc_z mt_9_53 cl Q vs e m
theorem wc_54 (cl : ClT) (Q : Int → Sto → Prop) (vs : List Int) (e : Int) (m : Mem) : wcl cl 54 Q vs (S9 e m) = cl 54 vs (fun v u1 => Q v (bud u1 0 0)) (S9 e m) := wc_z mt_9_54 cl Q vs e m
theorem wc_55 (cl : ClT) (Q : Int → Sto → Prop) (vs : List Int) (e : Int) (m : Mem) : wcl cl 55 Q vs (S9 e m) = cl 55 vs (fun v u1 => Q v (bud u1 0 0)) (S9 e m) := wc_z mt_9_55 cl Q vs e m
theorem wc_56 (cl : ClT) (Q : Int → Sto → Prop) (vs : List Int) (e : Int) (m : Mem) : wcl cl 56 Q vs (S9 e m) = cl 56 vs (fun v u1 => Q v (bud u1 0 0)) (S9 e m) := wc_z mt_9_56 cl Q vs e m
theorem wc_57 (cl : ClT) (Q : Int → Sto → Prop) (vs : List Int) (e : Int) (m : Mem) : wcl cl 57 Q vs (S9 e m) = cl 57 vs (fun v u1 => Q v (bud u1 0 0)) (S9 e m) := wc_z mt_9_57 cl Q vs e m
theorem wc_58 (cl : ClT) (Q : Int → Sto → Prop) (vs : List Int) (e : Int) (m : Mem) : wcl cl 58 Q vs (S9 e m) = cl 58 vs (fun v u1 => Q v (bud u1 0 0)) (S9 e m) := wc_z mt_9_58 cl Q vs e m
theorem wc_59 (cl : ClT) (Q : Int → Sto → Prop) (vs : List Int) (e : Int) (m : Mem) : wcl cl 59 Q vs (S9 e m) = cl 59 vs (fun v u1 => Q v (bud u1 0 0)) (S9 e m) := wc_z mt_9_59 cl Q vs e m
theorem wc_60 (cl : ClT) (Q : Int → Sto → Prop) (vs : List Int) (e : Int) (m : Mem) : wcl cl 60 Q vs (S9 e m) = cl 60 vs (fun v u1 => Q v (bud u1 0 0)) (S9 e m) := wc_z mt_9_60 cl Q vs e m
theorem wc_61 (cl : ClT) (Q : Int → Sto → Prop) (vs : List Int) (e : Int) (m : Mem) : wcl cl 61 Q vs (S9 e m) = cl 61 vs (fun v u1 => Q v (bud u1 0 0)) (S9 e m) := wc_z mt_9_61 cl Q vs e m
theorem wc_62 (cl : ClT) (Q : Int → Sto → Prop) (vs : List Int) (e : Int) (m : Mem) : wcl cl 62 Q vs (S9 e m) = cl 62 vs (fun v u1 => Q v (bud u1 0 0)) (S9 e m) := wc_z mt_9_62 cl Q vs e m
theorem wc_63 (cl : ClT) (Q : Int → Sto → Prop) (vs : List Int) (e : Int) (m : Mem) : wcl cl 63 Q vs (S9 e m) = cl 63 vs (fun v u1 => Q v (bud u1 0 0)) (S9 e m) := wc_z mt_9_63 cl Q vs e m
theorem wc_64 (cl : ClT) (Q : Int → Sto → Prop) (vs : List Int) (e : Int) (m : Mem) : wcl cl 64 Q vs (S9 e m) = cl 64 vs (fun v u1 => Q v (bud u1 0 0)) (S9 e m) := wc_z mt_9_64 cl Q vs e m
theorem wc_65 (cl : ClT) (Q : Int → Sto → Prop) (vs : List Int) (e : Int) (m : Mem) : wcl cl 65 Q vs (S9 e m) = cl 65 vs (fun v u1 => Q v (bud u1 0 0)) (S9 e m) := wc_z mt_9_65 cl Q vs e m
theorem wc_66 (cl : ClT) (Q : Int → Sto → Prop) (vs : List Int) (e : Int) (m : Mem) : wcl cl 66 Q vs (S9 e m) = cl 66 vs (fun v u1 => Q v (bud u1 0 0)) (S9 e m) := wc_z mt_9_66 cl Q vs e m
theorem wc_67 (cl : ClT) (Q : Int → Sto → Prop) (vs : List Int) (e : Int) (m : Mem) : wcl cl 67 Q vs (S9 e m) = cl 67 vs (fun v u1 => Q v (bud u1 0 0)) (S9 e m) := wc_z mt_9_67 cl Q vs e m
theorem wc_68 (cl : ClT) (Q : Int → Sto → Prop) (vs : List Int) (e : Int) (m : Mem) : wcl cl 68 Q vs (S9 e m) = cl 68 vs (fun v u1 => Q v (bud u1 0 0)) (S9 e m) := wc_z mt_9_68 cl Q vs e m
theorem wc_69 (cl : ClT) (Q : Int → Sto → Prop) (vs : List Int) (e : Int) (m : Mem) : wcl cl 69 Q vs (S9 e m) = cl 69 vs (fun v u1 => Q v (bud u1 0 0)) (S9 e m) := wc_z mt_9_69 cl Q vs e m
theorem wc_70 (cl : ClT) (Q : Int → Sto → Prop) (vs : List Int) (e : Int) (m : Mem) : wcl cl 70 Q vs (S9 e m) = cl 70 vs (fun v u1 => Q v (bud u1 0 0)) (S9 e m) := wc_z mt_9_70 cl Q vs e m
theorem wc_71 (cl : ClT) (Q : Int → Sto → Prop) (vs : List Int) (e : Int) (m : Mem) : wcl cl 71 Q vs (S9 e m) = cl 71 vs (fun v u1 => Q v (bud u1 0 0)) (S9 e m) := wc_z mt_9_71 cl Q vs e m
theorem wc_72 (cl : ClT) (Q : Int → Sto → Prop) (vs : List Int) (e : Int) (m : Mem) : wcl cl 72 Q vs (S9 e m) = cl 72 vs (fun v u1 => Q v (bud u1 0 0)) (S9 e m) := wc_z mt_9_72 cl Q vs e m
theorem wc_73 (cl : ClT) (Q : Int → Sto → Prop) (vs : List Int) (e : Int) (m : Mem) : wcl cl 73 Q vs (S9 e m) = cl 73 vs (fun v u1 => Q v (bud u1 0 0)) (S9 e m) := wc_z mt_9_73 cl Q vs e m
theorem wc_74 (cl : ClT) (Q : Int → Sto → Prop) (vs : List Int) (e : Int) (m : Mem) : wcl cl 74 Q vs (S9 e m) = cl 74 vs (fun v u1 => Q v (bud u1 0 0)) (S9 e m) := wc_z mt_9_74 cl Q vs e m
theorem wc_75 (cl : ClT) (Q : Int → Sto → Prop) (vs : List Int) (e : Int) (m : Mem) : wcl cl 75 Q vs (S9 e m) = cl 75 vs (fun v u1 => Q v (bud u1 0 0)) (S9 e m) := wc_z mt_9_75 cl Q vs e m
theorem wc_76 (cl : ClT) (Q : Int → Sto → Prop) (vs : List Int) (e : Int) (m : Mem) : wcl cl 76 Q vs (S9 e m) = cl 76 vs (fun v u1 => Q v (bud u1 0 0)) (S9 e m) := wc_z mt_9_76 cl Q vs e m
theorem wc_77 (cl : ClT) (Q : Int → Sto → Prop) (vs : List Int) (e : Int) (m : Mem) : wcl cl 77 Q vs (S9 e m) = cl 77 vs (fun v u1 => Q v (bud u1 0 0)) (S9 e m) := wc_z mt_9_77 cl Q vs e m
theorem wc_78 (cl : ClT) (Q : Int → Sto → Prop) (vs : List Int) (e : Int) (m : Mem) : wcl cl 78 Q vs (S9 e m) = cl 78 vs (fun v u1 => Q v (bud u1 0 0)) (S9 e m) := wc_z mt_9_78 cl Q vs e m
theorem wc_79 (cl : ClT) (Q : Int → Sto → Prop) (vs : List Int) (e : Int) (m : Mem) : wcl cl 79 Q vs (S9 e m) = cl 79 vs (fun v u1 => Q v (bud u1 0 0)) (S9 e m) := wc_z mt_9_79 cl Q vs e m
theorem wc_80 (cl : ClT) (Q : Int → Sto → Prop) (vs : List Int) (e : Int) (m : Mem) : wcl cl 80 Q vs (S9 e m) = cl 80 vs (fun v u1 => Q v (bud u1 0 0)) (S9 e m) := wc_z mt_9_80 cl Q vs e m
theorem wc_81 (cl : ClT) (Q : Int → Sto → Prop) (vs : List Int) (e : Int) (m : Mem) : wcl cl 81 Q vs (S9 e m) = cl 81 vs (fun v u1 => Q v (bud u1 0 0)) (S9 e m) := wc_z mt_9_81 cl Q vs e m
theorem wc_82 (cl : ClT) (Q : Int → Sto → Prop) (vs : List Int) (e : Int) (m : Mem) : wcl cl 82 Q vs (S9 e m) = cl 82 vs (fun v u1 => Q v (bud u1 0 0)) (S9 e m) := wc_z mt_9_82 cl Q vs e m
theorem wc_83 (cl : ClT) (Q : Int → Sto → Prop) (vs : List Int) (e : Int) (m : Mem) : wcl cl 83 Q vs (S9 e m) = cl 83 vs (fun v u1 => Q v (bud u1 0 0)) (S9 e m) := wc_z mt_9_83 cl Q vs e m
theorem wc_84 (cl : ClT) (Q : Int → Sto → Prop) (vs : List Int) (e : Int) (m : Mem) : wcl cl 84 Q vs (S9 e m) = cl 84 vs (fun v u1 => Q v (bud u1 0 0)) (S9 e m) := wc_z mt_9_84 cl Q vs e m
theorem wc_85 (cl : ClT) (Q : Int → Sto → Prop) (vs : List Int) (e : Int) (m : Mem) : wcl cl 85 Q vs (S9 e m) = cl 85 vs (fun v u1 => Q v (bud u1 0 0)) (S9 e m) := wc_z mt_9_85 cl Q vs e m
theorem wc_86 (cl : ClT) (Q : Int → Sto → Prop) (vs : List Int) (e : Int) (m : Mem) : wcl cl 86 Q vs (S9 e m) = cl 86 vs (fun v u1 => Q v (bud u1 0 0)) (S9 e m) := wc_z mt_9_86 cl Q vs e m
theorem wc_87 (cl : ClT) (Q : Int → Sto → Prop) (vs : List Int) (e : Int) (m : Mem) : wcl cl 87 Q vs (S9 e m) = cl 87 vs (fun v u1 => Q v (bud u1 0 0)) (S9 e m) := wc_z mt_9_87 cl Q vs e m
theorem wc_88 (cl : ClT) (Q : Int → Sto → Prop) (vs : List Int) (e : Int) (m : Mem) : wcl cl 88 Q vs (S9 e m) = cl 88 vs (fun v u1 => Q v (bud u1 0 0)) (S9 e m) := wc_z mt_9_88 cl Q vs e m
theorem wc_89 (cl : ClT) (Q : Int → Sto → Prop) (vs : List Int) (e : Int) (m : Mem) : wcl cl 89 Q vs (S9 e m) = cl 89 vs (fun v u1 => Q v (bud u1 0 0)) (S9 e m) := wc_z mt_9_89 cl Q vs e m
theorem wc_90 (cl : ClT) (Q : Int → Sto → Prop) (vs : List Int) (e : Int) (m : Mem) : wcl cl 90 Q vs (S9 e m) = cl 90 vs (fun v u1 => Q v (bud u1 0 0)) (S9 e m) := wc_z mt_9_90 cl Q vs e m
theorem wc_91 (cl : ClT) (Q : Int → Sto → Prop) (vs : List Int) (e : Int) (m : Mem) : wcl cl 91 Q vs (S9 e m) = cl 91 vs (fun v u1 => Q v (bud u1 0 0)) (S9 e m) := wc_z mt_9_91 cl Q vs e m
theorem wc_92 (cl : ClT) (Q : Int → Sto → Prop) (vs : List Int) (e : Int) (m : Mem) : wcl cl 92 Q vs (S9 e m) = cl 92 vs (fun v u1 => Q v (bud u1 0 0)) (S9 e m) := wc_z mt_9_92 cl Q vs e m
theorem wc_93 (cl : ClT) (Q : Int → Sto → Prop) (vs : List Int) (e : Int) (m : Mem) : wcl cl 93 Q vs (S9 e m) = cl 93 vs (fun v u1 => Q v (bud u1 0 0)) (S9 e m) := wc_z mt_9_93 cl Q vs e m
theorem wc_94 (cl : ClT) (Q : Int → Sto → Prop) (vs : List Int) (e : Int) (m : Mem) : wcl cl 94 Q vs (S9 e m) = cl 94 vs (fun v u1 => Q v (bud u1 0 0)) (S9 e m) := wc_z mt_9_94 cl Q vs e m
theorem wc_95 (cl : ClT) (Q : Int → Sto → Prop) (vs : List Int) (e : Int) (m : Mem) : wcl cl 95 Q vs (S9 e m) = cl 95 vs (fun v u1 => Q v (bud u1 0 0)) (S9 e m) := wc_z mt_9_95 cl Q vs e m
theorem wc_96 (cl : ClT) (Q : Int → Sto → Prop) (vs : List Int) (e : Int) (m : Mem) : wcl cl 96 Q vs (S9 e m) = cl 96 vs (fun v u1 => Q v (bud u1 0 0)) (S9 e m) := wc_z mt_9_96 cl Q vs e m
theorem wc_97 (cl : ClT) (Q : Int → Sto → Prop) (vs : List Int) (e : Int) (m : Mem) : wcl cl 97 Q vs (S9 e m) = cl 97 vs (fun v u1 => Q v (bud u1 0 0)) (S9 e m) := wc_z mt_9_97 cl Q vs e m
theorem wc_98 (cl : ClT) (Q : Int → Sto → Prop) (vs : List Int) (e : Int) (m : Mem) : wcl cl 98 Q vs (S9 e m) = cl 98 vs (fun v u1 => Q v (bud u1 0 0)) (S9 e m) := wc_z mt_9_98 cl Q vs e m
theorem wc_99 (cl : ClT) (Q : Int → Sto → Prop) (vs : List Int) (e : Int) (m : Mem) : wcl cl 99 Q vs (S9 e m) = cl 99 vs (fun v u1 => Q v (bud u1 0 0)) (S9 e m) := wc_z mt_9_99 cl Q vs e m
theorem wc_100 (cl : ClT) (Q : Int → Sto → Prop) (vs : List Int) (e : Int) (m : Mem) : wcl cl 100 Q vs (S9 e m) = cl 100 vs (fun v u1 => Q v (bud u1 0 0)) (S9 e m) := wc_z mt_9_100 cl Q vs e m
theorem wc_101 (cl : ClT) (Q : Int → Sto → Prop) (vs : List Int) (e : Int) (m : Mem) : wcl cl 101 Q vs (S9 e m) = cl 101 vs (fun v u1 => Q v (bud u1 0 0)) (S9 e m) := wc_z mt_9_101 cl Q vs e m
theorem wc_102 (cl : ClT) (Q : Int → Sto → Prop) (vs : List Int) (e : Int) (m : Mem) : wcl cl 102 Q vs (S9 e m) = cl 102 vs (fun v u1 => Q v (bud u1 0 0)) (S9 e m) := wc_z mt_9_102 cl Q vs e m
theorem wc_103 (cl : ClT) (Q : Int → Sto → Prop) (vs : List Int) (e : Int) (m : Mem) : wcl cl 103 Q vs (S9 e m) = cl 103 vs (fun v u1 => Q v (bud u1 0 0)) (S9 e m) := wc_z mt_9_103 cl Q vs e m
theorem wc_104 (cl : ClT) (Q : Int → Sto → Prop) (vs : List Int) (e : Int) (m : Mem) : wcl cl 104 Q vs (S9 e m) = cl 104 vs (fun v u1 => Q v (bud u1 0 0)) (S9 e m) := wc_z mt_9_104 cl Q vs e m
theorem wc_105 (cl : ClT) (Q : Int → Sto → Prop) (vs : List Int) (e : Int) (m : Mem) : wcl cl 105 Q vs (S9 e m) = cl 105 vs (fun v u1 => Q v (bud u1 0 0)) (S9 e m) := wc_z mt_9_105 cl Q vs e m
theorem wc_106 (cl : ClT) (Q : Int → Sto → Prop) (vs : List Int) (e : Int) (m : Mem) : wcl cl 106 Q vs (S9 e m) = cl 106 vs (fun v u1 => Q v (bud u1 0 0)) (S9 e m) := wc_z mt_9_106 cl Q vs e m
theorem wc_107 (cl : ClT) (Q : Int → Sto → Prop) (vs : List Int) (e : Int) (m : Mem) : wcl cl 107 Q vs (S9 e m) = cl 107 vs (fun v u1 => Q v (bud u1 0 0)) (S9 e m) := wc_z mt_9_107 cl Q vs e m
theorem wc_108 (cl : ClT) (Q : Int → Sto → Prop) (vs : List Int) (e : Int) (m : Mem) : wcl cl 108 Q vs (S9 e m) = cl 108 vs (fun v u1 => Q v (bud u1 0 0)) (S9 e m) := wc_z mt_9_108 cl Q vs e m
theorem wc_109 (cl : ClT) (Q : Int → Sto → Prop) (vs : List Int) (e : Int) (m : Mem) : wcl cl 109 Q vs (S9 e m) = cl 109 vs (fun v u1 => Q v (bud u1 0 0)) (S9 e m) := wc_z mt_9_109 cl Q vs e m
theorem wc_110 (cl : ClT) (Q : Int → Sto → Prop) (vs : List Int) (e : Int) (m : Mem) : wcl cl 110 Q vs (S9 e m) = cl 110 vs (fun v u1 => Q v (bud u1 0 0)) (S9 e m) := wc_z mt_9_110 cl Q vs e m
theorem wc_111 (cl : ClT) (Q : Int → Sto → Prop) (vs : List Int) (e : Int) (m : Mem) : wcl cl 111 Q vs (S9 e m) = cl 111 vs (fun v u1 => Q v (bud u1 0 0)) (S9 e m) := wc_z mt_9_111 cl Q vs e m
theorem wc_112 (cl : ClT) (Q : Int → Sto → Prop) (vs : List Int) (e : Int) (m : Mem) : wcl cl 112 Q vs (S9 e m) = cl 112 vs (fun v u1 => Q v (bud u1 0 0)) (S9 e m) := wc_z mt_9_112 cl Q vs e m
theorem wc_113 (cl : ClT) (Q : Int → Sto → Prop) (vs : List Int) (e : Int) (m : Mem) : wcl cl 113 Q vs (S9 e m) = cl 113 vs (fun v u1 => Q v (bud u1 0 0)) (S9 e m) := wc_z mt_9_113 cl Q vs e m
theorem wc_114 (cl : ClT) (Q : Int → Sto → Prop) (vs : List Int) (e : Int) (m : Mem) : wcl cl 114 Q vs (S9 e m) = cl 114 vs (fun v u1 => Q v (bud u1 0 0)) (S9 e m) := wc_z mt_9_114 cl Q vs e m
theorem wc_115 (cl : ClT) (Q : Int → Sto → Prop) (vs : List Int) (e : Int) (m : Mem) : wcl cl 115 Q vs (S9 e m) = cl 115 vs (fun v u1 => Q v (bud u1 0 0)) (S9 e m) := wc_z mt_9_115 cl Q vs e m
theorem wc_116 (cl : ClT) (Q : Int → Sto → Prop) (vs : List Int) (e : Int) (m : Mem) : wcl cl 116 Q vs (S9 e m) = cl 116 vs (fun v u1 => Q v (bud u1 0 0)) (S9 e m) := wc_z mt_9_116 cl Q vs e m
theorem wc_117 (cl : ClT) (Q : Int → Sto → Prop) (vs : List Int) (e : Int) (m : Mem) : wcl cl 117 Q vs (S9 e m) = cl 117 vs (fun v u1 => Q v (bud u1 0 0)) (S9 e m) := wc_z mt_9_117 cl Q vs e m
theorem wc_118 (cl : ClT) (Q : Int → Sto → Prop) (vs : List Int) (e : Int) (m : Mem) : wcl cl 118 Q vs (S9 e m) = cl 118 vs (fun v u1 => Q v (bud u1 0 0)) (S9 e m) := wc_z mt_9_118 cl Q vs e m
theorem wc_119 (cl : ClT) (Q : Int → Sto → Prop) (vs : List Int) (e : Int) (m : Mem) : wcl cl 119 Q vs (S9 e m) = cl 119 vs (fun v u1 => Q v (bud u1 0 0)) (S9 e m) := wc_z mt_9_119 cl Q vs e m
theorem wc_120 (cl : ClT) (Q : Int → Sto → Prop) (vs : List Int) (e : Int) (m : Mem) : wcl cl 120 Q vs (S9 e m) = cl 120 vs (fun v u1 => Q v (bud u1 0 0)) (S9 e m) := wc_z mt_9_120 cl Q vs e m
theorem wc_121 (cl : ClT) (Q : Int → Sto → Prop) (vs : List Int) (e : Int) (m : Mem) : wcl cl 121 Q vs (S9 e m) = cl 121 vs (fun v u1 => Q v (bud u1 0 0)) (S9 e m) := wc_z mt_9_121 cl Q vs e m
theorem wc_122 (cl : ClT) (Q : Int → Sto → Prop) (vs : List Int) (e : Int) (m : Mem) : wcl cl 122 Q vs (S9 e m) = cl 122 vs (fun v u1 => Q v (bud u1 0 0)) (S9 e m) := wc_z mt_9_122 cl Q vs e m
theorem wc_123 (cl : ClT) (Q : Int → Sto → Prop) (vs : List Int) (e : Int) (m : Mem) : wcl cl 123 Q vs (S9 e m) = cl 123 vs (fun v u1 => Q v (bud u1 0 0)) (S9 e m) := wc_z mt_9_123 cl Q vs e m
theorem wc_124 (cl : ClT) (Q : Int → Sto → Prop) (vs : List Int) (e : Int) (m : Mem) : wcl cl 124 Q vs (S9 e m) = cl 124 vs (fun v u1 => Q v (bud u1 0 0)) (S9 e m) := wc_z mt_9_124 cl Q vs e m
theorem wc_125 (cl : ClT) (Q : Int → Sto → Prop) (vs : List Int) (e : Int) (m : Mem) : wcl cl 125 Q vs (S9 e m) = cl 125 vs (fun v u1 => Q v (bud u1 0 0)) (S9 e m) := wc_z mt_9_125 cl Q vs e m
theorem wc_126 (cl : ClT) (Q : Int → Sto → Prop) (vs : List Int) (e : Int) (m : Mem) : wcl cl 126 Q vs (S9 e m) = cl 126 vs (fun v u1 => Q v (bud u1 0 0)) (S9 e m) := wc_z mt_9_126 cl Q vs e m
theorem wc_127 (cl : ClT) (Q : Int → Sto → Prop) (vs : List Int) (e : Int) (m : Mem) : wcl cl 127 Q vs (S9 e m) = cl 127 vs (fun v u1 => Q v (bud u1 0 0)) (S9 e m) := wc_z mt_9_127 cl Q vs e m
theorem wc_128 (cl : ClT) (Q : Int → Sto → Prop) (vs : List Int) (e : Int) (m : Mem) : wcl cl 128 Q vs (S9 e m) = cl 128 vs (fun v u1 => Q v (bud u1 0 0)) (S9 e m) := wc_z mt_9_128 cl Q vs e m
theorem wc_129 (cl : ClT) (Q : Int → Sto → Prop) (vs : List Int) (e : Int) (m : Mem) : wcl cl 129 Q vs (S9 e m) = cl 129 vs (fun v u1 => Q v (bud u1 0 0)) (S9 e m) := wc_z mt_9_129 cl Q vs e m
theorem wc_130 (cl : ClT) (Q : Int → Sto → Prop) (vs : List Int) (e : Int) (m : Mem) : wcl cl 130 Q vs (S9 e m) = cl 130 vs (fun v u1 => Q v (bud u1 0 0)) (S9 e m) := wc_z mt_9_130 cl Q vs e m
theorem wc_131 (cl : ClT) (Q : Int → Sto → Prop) (vs : List Int) (e : Int) (m : Mem) : wcl cl 131 Q vs (S9 e m) = cl 131 vs (fun v u1 => Q v (bud u1 0 0)) (S9 e m) := wc_z mt_9_131 cl Q vs e m
theorem wc_132 (cl : ClT) (Q : Int → Sto → Prop) (vs : List Int) (e : Int) (m : Mem) : wcl cl 132 Q vs (S9 e m) = cl 132 vs (fun v u1 => Q v (bud u1 0 0)) (S9 e m) := wc_z mt_9_132 cl Q vs e m
theorem wc_133 (cl : ClT) (Q : Int → Sto → Prop) (vs : List Int) (e : Int) (m : Mem) : wcl cl 133 Q vs (S9 e m) = cl 133 vs (fun v u1 => Q v (bud u1 0 0)) (S9 e m) := wc_z mt_9_133 cl Q vs e m
theorem wc_134 (cl : ClT) (Q : Int → Sto → Prop) (vs : List Int) (e : Int) (m : Mem) : wcl cl 134 Q vs (S9 e m) = cl 134 vs (fun v u1 => Q v (bud u1 0 0)) (S9 e m) := wc_z mt_9_134 cl Q vs e m
theorem wc_135 (cl : ClT) (Q : Int → Sto → Prop) (vs : List Int) (e : Int) (m : Mem) : wcl cl 135 Q vs (S9 e m) = cl 135 vs (fun v u1 => Q v (bud u1 0 0)) (S9 e m) := wc_z mt_9_135 cl Q vs e m
theorem wc_136 (cl : ClT) (Q : Int → Sto → Prop) (vs : List Int) (e : Int) (m : Mem) : wcl cl 136 Q vs (S9 e m) = cl 136 vs (fun v u1 => Q v (bud u1 0 0)) (S9 e m) := wc_z mt_9_136 cl Q vs e m
theorem wc_137 (cl : ClT) (Q : Int → Sto → Prop) (vs : List Int) (e : Int) (m : Mem) : wcl cl 137 Q vs (S9 e m) = cl 137 vs (fun v u1 => Q v (bud u1 0 0)) (S9 e m) := wc_z mt_9_137 cl Q vs e m
theorem wc_138 (cl : ClT) (Q : Int → Sto → Prop) (vs : List Int) (e : Int) (m : Mem) : wcl cl 138 Q vs (S9 e m) = cl 138 vs (fun v u1 => Q v (bud u1 0 0)) (S9 e m) := wc_z mt_9_138 cl Q vs e m
theorem wc_139 (cl : ClT) (Q : Int → Sto → Prop) (vs : List Int) (e : Int) (m : Mem) : wcl cl 139 Q vs (S9 e m) = cl 139 vs (fun v u1 => Q v (bud u1 0 0)) (S9 e m) := wc_z mt_9_139 cl Q vs e m
theorem wc_140 (cl : ClT) (Q : Int → Sto → Prop) (vs : List Int) (e : Int) (m : Mem) : wcl cl 140 Q vs (S9 e m) = cl 140 vs (fun v u1 => Q v (bud u1 0 0)) (S9 e m) := wc_z mt_9_140 cl Q vs e m
theorem wc_141 (cl : ClT) (Q : Int → Sto → Prop) (vs : List Int) (e : Int) (m : Mem) : wcl cl 141 Q vs (S9 e m) = cl 141 vs (fun v u1 => Q v (bud u1 0 0)) (S9 e m) := wc_z mt_9_141 cl Q vs e m
theorem wc_142 (cl : ClT) (Q : Int → Sto → Prop) (vs : List Int) (e : Int) (m : Mem) : wcl cl 142 Q vs (S9 e m) = cl 142 vs (fun v u1 => Q v (bud u1 0 0)) (S9 e m) := wc_z mt_9_142 cl Q vs e m
theorem wc_143 (cl : ClT) (Q : Int → Sto → Prop) (vs : List Int) (e : Int) (m : Mem) : wcl cl 143 Q vs (S9 e m) = cl 143 vs (fun v u1 => Q v (bud u1 0 0)) (S9 e m) := wc_z mt_9_143 cl Q vs e m
theorem wc_144 (cl : ClT) (Q : Int → Sto → Prop) (vs : List Int) (e : Int) (m : Mem) : wcl cl 144 Q vs (S9 e m) = cl 144 vs (fun v u1 => Q v (bud u1 0 0)) (S9 e m) := wc_z mt_9_144 cl Q vs e m
theorem wc_145 (cl : ClT) (Q : Int → Sto → Prop) (vs : List Int) (e : Int) (m : Mem) : wcl cl 145 Q vs (S9 e m) = cl 145 vs (fun v u1 => Q v (bud u1 0 0)) (S9 e m) := wc_z mt_9_145 cl Q vs e m
theorem wc_146 (cl : ClT) (Q : Int → Sto → Prop) (vs : List Int) (e : Int) (m : Mem) : wcl cl 146 Q vs (S9 e m) = cl 146 vs (fun v u1 => Q v (bud u1 0 0)) (S9 e m) := wc_z mt_9_146 cl Q vs e m
theorem wc_147 (cl : ClT) (Q : Int → Sto → Prop) (vs : List Int) (e : Int) (m : Mem) : wcl cl 147 Q vs (S9 e m) = cl 147 vs (fun v u1 => Q v (bud u1 0 0)) (S9 e m) := wc_z mt_9_147 cl Q vs e m
theorem wc_148 (cl : ClT) (Q : Int → Sto → Prop) (vs : List Int) (e : Int) (m : Mem) : wcl cl 148 Q vs (S9 e m) = cl 148 vs (fun v u1 => Q v (bud u1 0 0)) (S9 e m) := wc_z mt_9_148 cl Q vs e m
theorem wc_149 (cl : ClT) (Q : Int → Sto → Prop) (vs : List Int) (e : Int) (m : Mem) : wcl cl 149 Q vs (S9 e m) = cl 149 vs (fun v u1 => Q v (bud u1 0 0)) (S9 e m) := wc_z mt_9_149 cl Q vs e m
theorem wc_150 (cl : ClT) (Q : Int → Sto → Prop) (vs : List Int) (e : Int) (m : Mem) : wcl cl 150 Q vs (S9 e m) = cl 150 vs (fun v u1 => Q v (bud u1 0 0)) (S9 e m) := wc_z mt_9_150 cl Q vs e m
theorem wc_151 (cl : ClT) (Q : Int → Sto → Prop) (vs : List Int) (e : Int) (m : Mem) : wcl cl 151 Q vs (S9 e m) = cl 151 vs (fun v u1 => Q v (bud u1 0 0)) (S9 e m) := wc_z mt_9_151 cl Q vs e m
theorem wc_152 (cl : ClT) (Q : Int → Sto → Prop) (vs : List Int) (e : Int) (m : Mem) : wcl cl 152 Q vs (S9 e m) = cl 152 vs (fun v u1 => Q v (bud u1 0 0)) (S9 e m) := wc_z mt_9_152 cl Q vs e m
theorem wc_153 (cl : ClT) (Q : Int → Sto → Prop) (vs : List Int) (e : Int) (m : Mem) : wcl cl 153 Q vs (S9 e m) = cl 153 vs (fun v u1 => Q v (bud u1 0 0)) (S9 e m) := wc_z mt_9_153 cl Q vs e m
theorem wc_154 (cl : ClT) (Q : Int → Sto → Prop) (vs : List Int) (e : Int) (m : Mem) : wcl cl 154 Q vs (S9 e m) = cl 154 vs (fun v u1 => Q v (bud u1 0 0)) (S9 e m) := wc_z mt_9_154 cl Q vs e m
theorem wc_155 (cl : ClT) (Q : Int → Sto → Prop) (vs : List Int) (e : Int) (m : Mem) : wcl cl 155 Q vs (S9 e m) = cl 155 vs (fun v u1 => Q v (bud u1 0 0)) (S9 e m) := wc_z mt_9_155 cl Q vs e m
theorem wc_156 (cl : ClT) (Q : Int → Sto → Prop) (vs : List Int) (e : Int) (m : Mem) : wcl cl 156 Q vs (S9 e m) = cl 156 vs (fun v u1 => Q v (bud u1 0 0)) (S9 e m) := wc_z mt_9_156 cl Q vs e m
theorem wc_157 (cl : ClT) (Q : Int → Sto → Prop) (vs : List Int) (e : Int) (m : Mem) : wcl cl 157 Q vs (S9 e m) = cl 157 vs (fun v u1 => Q v (bud u1 0 0)) (S9 e m) := wc_z mt_9_157 cl Q vs e m
theorem wc_158 (cl : ClT) (Q : Int → Sto → Prop) (vs : List Int) (e : Int) (m : Mem) : wcl cl 158 Q vs (S9 e m) = cl 158 vs (fun v u1 => Q v (bud u1 0 0)) (S9 e m) := wc_z mt_9_158 cl Q vs e m
theorem wc_159 (cl : ClT) (Q : Int → Sto → Prop) (vs : List Int) (e : Int) (m : Mem) : wcl cl 159 Q vs (S9 e m) = cl 159 vs (fun v u1 => Q v (bud u1 0 0)) (S9 e m) := wc_z mt_9_159 cl Q vs e m
theorem wc_160 (cl : ClT) (Q : Int → Sto → Prop) (vs : List Int) (e : Int) (m : Mem) : wcl cl 160 Q vs (S9 e m) = cl 160 vs (fun v u1 => Q v (bud u1 0 0)) (S9 e m) := wc_z mt_9_160 cl Q vs e m
theorem wc_161 (cl : ClT) (Q : Int → Sto → Prop) (vs : List Int) (e : Int) (m : Mem) : wcl cl 161 Q vs (S9 e m) = cl 161 vs (fun v u1 => Q v (bud u1 0 0)) (S9 e m) := wc_z mt_9_161 cl Q vs e m
theorem wc_162 (cl : ClT) (Q : Int → Sto → Prop) (vs : List Int) (e : Int) (m : Mem) : wcl cl 162 Q vs (S9 e m) = cl 162 vs (fun v u1 => Q v (bud u1 0 0)) (S9 e m) := wc_z mt_9_162 cl Q vs e m
theorem wc_163 (cl : ClT) (Q : Int → Sto → Prop) (vs : List Int) (e : Int) (m : Mem) : wcl cl 163 Q vs (S9 e m) = cl 163 vs (fun v u1 => Q v (bud u1 0 0)) (S9 e m) := wc_z mt_9_163 cl Q vs e m
theorem wc_164 (cl : ClT) (Q : Int → Sto → Prop) (vs : List Int) (e : Int) (m : Mem) : wcl cl 164 Q vs (S9 e m) = cl 164 vs (fun v u1 => Q v (bud u1 0 0)) (S9 e m) := wc_z mt_9_164 cl Q vs e m
theorem wc_166 (cl : ClT) (Q : Int → Sto → Prop) (vs : List Int) (e : Int) (m : Mem) : wcl cl 166 Q vs (S9 e m) = cl 166 vs (fun v u1 => Q v (bud u1 0 0)) (S9 e m) := by
  show ((0 ≤ 0 ∧ 0 ≤ 0) ∧ cl 166 vs (fun v u1 => Q v (bud u1 (0 - 0) (0 - 0))) (S9 e m)) = _
  simp only [Nat.le_refl, and_self, true_and, Nat.sub_self]
theorem wc_167 (cl : ClT) (Q : Int → Sto → Prop) (vs : List Int) (e : Int) (m : Mem) : wcl cl 167 Q vs (S9 e m) = cl 167 vs (fun v u1 => Q v (bud u1 0 0)) (S9 e m) := wc_z mt_9_167 cl Q vs e m
theorem wc_168 (cl : ClT) (Q : Int → Sto → Prop) (vs : List Int) (e : Int) (m : Mem) : wcl cl 168 Q vs (S9 e m) = cl 168 vs (fun v u1 => Q v (bud u1 0 0)) (S9 e m) := wc_z mt_9_168 cl Q vs e m
theorem wc_169 (cl : ClT) (Q : Int → Sto → Prop) (vs : List Int) (e : Int) (m : Mem) : wcl cl 169 Q vs (S9 e m) = cl 169 vs (fun v u1 => Q v (bud u1 0 0)) (S9 e m) := wc_z mt_9_169 cl Q vs e m
theorem wc_170 (cl : ClT) (Q : Int → Sto → Prop) (vs : List Int) (e : Int) (m : Mem) : wcl cl 170 Q vs (S9 e m) = cl 170 vs (fun v u1 => Q v (bud u1 0 0)) (S9 e m) := wc_z mt_9_170 cl Q vs e m
theorem wc_171 (cl : ClT) (Q : Int → Sto → Prop) (vs : List Int) (e : Int) (m : Mem) : wcl cl 171 Q vs (S9 e m) = cl 171 vs (fun v u1 => Q v (bud u1 0 0)) (S9 e m) := wc_z mt_9_171 cl Q vs e m
theorem wc_172 (cl : ClT) (Q : Int → Sto → Prop) (vs : List Int) (e : Int) (m : Mem) : wcl cl 172 Q vs (S9 e m) = cl 172 vs (fun v u1 => Q v (bud u1 0 0)) (S9 e m) := wc_z mt_9_172 cl Q vs e m
theorem wc_173 (cl : ClT) (Q : Int → Sto → Prop) (vs : List Int) (e : Int) (m : Mem) : wcl cl 173 Q vs (S9 e m) = cl 173 vs (fun v u1 => Q v (bud u1 0 0)) (S9 e m) := wc_z mt_9_173 cl Q vs e m
theorem wc_174 (cl : ClT) (Q : Int → Sto → Prop) (vs : List Int) (e : Int) (m : Mem) : wcl cl 174 Q vs (S9 e m) = cl 174 vs (fun v u1 => Q v (bud u1 0 0)) (S9 e m) := wc_z mt_9_174 cl Q vs e m
theorem wc_175 (cl : ClT) (Q : Int → Sto → Prop) (vs : List Int) (e : Int) (m : Mem) : wcl cl 175 Q vs (S9 e m) = cl 175 vs (fun v u1 => Q v (bud u1 0 0)) (S9 e m) := wc_z mt_9_175 cl Q vs e m
theorem wc_176 (cl : ClT) (Q : Int → Sto → Prop) (vs : List Int) (e : Int) (m : Mem) : wcl cl 176 Q vs (S9 e m) = cl 176 vs (fun v u1 => Q v (bud u1 0 0)) (S9 e m) := wc_z mt_9_176 cl Q vs e m
theorem wc_177 (cl : ClT) (Q : Int → Sto → Prop) (vs : List Int) (e : Int) (m : Mem) : wcl cl 177 Q vs (S9 e m) = cl 177 vs (fun v u1 => Q v (bud u1 0 0)) (S9 e m) := wc_z mt_9_177 cl Q vs e m
theorem wc_178 (cl : ClT) (Q : Int → Sto → Prop) (vs : List Int) (e : Int) (m : Mem) : wcl cl 178 Q vs (S9 e m) = cl 178 vs (fun v u1 => Q v (bud u1 0 0)) (S9 e m) := wc_z mt_9_178 cl Q vs e m
theorem wc_179 (cl : ClT) (Q : Int → Sto → Prop) (vs : List Int) (e : Int) (m : Mem) : wcl cl 179 Q vs (S9 e m) = cl 179 vs (fun v u1 => Q v (bud u1 0 0)) (S9 e m) := wc_z mt_9_179 cl Q vs e m
theorem wc_180 (cl : ClT) (Q : Int → Sto → Prop) (vs : List Int) (e : Int) (m : Mem) : wcl cl 180 Q vs (S9 e m) = cl 180 vs (fun v u1 => Q v (bud u1 0 0)) (S9 e m) := wc_z mt_9_180 cl Q vs e m
theorem wc_181 (cl : ClT) (Q : Int → Sto → Prop) (vs : List Int) (e : Int) (m : Mem) : wcl cl 181 Q vs (S9 e m) = cl 181 vs (fun v u1 => Q v (bud u1 0 0)) (S9 e m) := wc_z mt_9_181 cl Q vs e m
theorem wc_182 (cl : ClT) (Q : Int → Sto → Prop) (vs : List Int) (e : Int) (m : Mem) : wcl cl 182 Q vs (S9 e m) = cl 182 vs (fun v u1 => Q v (bud u1 0 0)) (S9 e m) := wc_z mt_9_182 cl Q vs e m
theorem wc_183 (cl : ClT) (Q : Int → Sto → Prop) (vs : List Int) (e : Int) (m : Mem) : wcl cl 183 Q vs (S9 e m) = cl 183 vs (fun v u1 => Q v (bud u1 0 0)) (S9 e m) := wc_z mt_9_183 cl Q vs e m
theorem wc_184 (cl : ClT) (Q : Int → Sto → Prop) (vs : List Int) (e : Int) (m : Mem) : wcl cl 184 Q vs (S9 e m) = cl 184 vs (fun v u1 => Q v (bud u1 0 0)) (S9 e m) := wc_z mt_9_184 cl Q vs e m
theorem wc_185 (cl : ClT) (Q : Int → Sto → Prop) (vs : List Int) (e : Int) (m : Mem) : wcl cl 185 Q vs (S9 e m) = cl 185 vs (fun v u1 => Q v (bud u1 0 0)) (S9 e m) := wc_z mt_9_185 cl Q vs e m
theorem wc_186 (cl : ClT) (Q : Int → Sto → Prop) (vs : List Int) (e : Int) (m : Mem) : wcl cl 186 Q vs (S9 e m) = cl 186 vs (fun v u1 => Q v (bud u1 0 0)) (S9 e m) := wc_z mt_9_186 cl Q vs e m
theorem wc_187 (cl : ClT) (Q : Int → Sto → Prop) (vs : List Int) (e : Int) (m : Mem) : wcl cl 187 Q vs (S9 e m) = cl 187 vs (fun v u1 => Q v (bud u1 0 0)) (S9 e m) := wc_z mt_9_187 cl Q vs e m
theorem wc_188 (cl : ClT) (Q : Int → Sto → Prop) (vs : List Int) (e : Int) (m : Mem) : wcl cl 188 Q vs (S9 e m) = cl 188 vs (fun v u1 => Q v (bud u1 0 0)) (S9 e m) := wc_z mt_9_188 cl Q vs e m
theorem wc_189 (cl : ClT) (Q : Int → Sto → Prop) (vs : List Int) (e : Int) (m : Mem) : wcl cl 189 Q vs (S9 e m) = cl 189 vs (fun v u1 => Q v (bud u1 0 0)) (S9 e m) := wc_z mt_9_189 cl Q vs e m
theorem wc_190 (cl : ClT) (Q : Int → Sto → Prop) (vs : List Int) (e : Int) (m : Mem) : wcl cl 190 Q vs (S9 e m) = cl 190 vs (fun v u1 => Q v (bud u1 0 0)) (S9 e m) := wc_z mt_9_190 cl Q vs e m
theorem wc_191 (cl : ClT) (Q : Int → Sto → Prop) (vs : List Int) (e : Int) (m : Mem) : wcl cl 191 Q vs (S9 e m) = cl 191 vs (fun v u1 => Q v (bud u1 0 0)) (S9 e m) := wc_z mt_9_191 cl Q vs e m
theorem wc_192 (cl : ClT) (Q : Int → Sto → Prop) (vs : List Int) (e : Int) (m : Mem) : wcl cl 192 Q vs (S9 e m) = cl 192 vs (fun v u1 => Q v (bud u1 0 0)) (S9 e m) := wc_z mt_9_192 cl Q vs e m
theorem wc_193 (cl : ClT) (Q : Int → Sto → Prop) (vs : List Int) (e : Int) (m : Mem) : wcl cl 193 Q vs (S9 e m) = cl 193 vs (fun v u1 => Q v (bud u1 0 0)) (S9 e m) := wc_z mt_9_193 cl Q vs e m
theorem wc_194 (cl : ClT) (Q : Int → Sto → Prop) (vs : List Int) (e : Int) (m : Mem) : wcl cl 194 Q vs (S9 e m) = cl 194 vs (fun v u1 => Q v (bud u1 0 0)) (S9 e m) := wc_z mt_9_194 cl Q vs e m
theorem wc_195 (cl : ClT) (Q : Int → Sto → Prop) (vs : List Int) (e : Int) (m : Mem) : wcl cl 195 Q vs (S9 e m) = cl 195 vs (fun v u1 => Q v (bud u1 0 0)) (S9 e m) := wc_z mt_9_195 cl Q vs e m
theorem wc_196 (cl : ClT) (Q : Int → Sto → Prop) (vs : List Int) (e : Int) (m : Mem) : wcl cl 196 Q vs (S9 e m) = cl 196 vs (fun v u1 => Q v (bud u1 0 0)) (S9 e m) := wc_z mt_9_196 cl Q vs e m
theorem wc_197 (cl : ClT) (Q : Int → Sto → Prop) (vs : List Int) (e : Int) (m : Mem) : wcl cl 197 Q vs (S9 e m) = cl 197 vs (fun v u1 => Q v (bud u1 0 0)) (S9 e m) := wc_z mt_9_197 cl Q vs e m
theorem wc_198 (cl : ClT) (Q : Int → Sto → Prop) (vs : List Int) (e : Int) (m : Mem) : wcl cl 198 Q vs (S9 e m) = cl 198 vs (fun v u1 => Q v (bud u1 0 0)) (S9 e m) := wc_z mt_9_198 cl Q vs e m
theorem wc_199 (cl : ClT) (Q : Int → Sto → Prop) (vs : List Int) (e : Int) (m : Mem) : wcl cl 199 Q vs (S9 e m) = cl 199 vs (fun v u1 => Q v (bud u1 0 0)) (S9 e m) := wc_z mt_9_199 cl Q vs e m
theorem wc_200 (cl : ClT) (Q : Int → Sto → Prop) (vs : List Int) (e : Int) (m : Mem) : wcl cl 200 Q vs (S9 e m) = cl 200 vs (fun v u1 => Q v (bud u1 0 0)) (S9 e m) := wc_z mt_9_200 cl Q vs e m
theorem wc_201 (cl : ClT) (Q : Int → Sto → Prop) (vs : List Int) (e : Int) (m : Mem) : wcl cl 201 Q vs (S9 e m) = cl 201 vs (fun v u1 => Q v (bud u1 0 0)) (S9 e m) := wc_z mt_9_201 cl Q vs e m
theorem wc_202 (cl : ClT) (Q : Int → Sto → Prop) (vs : List Int) (e : Int) (m : Mem) : wcl cl 202 Q vs (S9 e m) = cl 202 vs (fun v u1 => Q v (bud u1 0 0)) (S9 e m) := wc_z mt_9_202 cl Q vs e m
theorem wc_203 (cl : ClT) (Q : Int → Sto → Prop) (vs : List Int) (e : Int) (m : Mem) : wcl cl 203 Q vs (S9 e m) = cl 203 vs (fun v u1 => Q v (bud u1 0 0)) (S9 e m) := wc_z mt_9_203 cl Q vs e m
theorem wc_204 (cl : ClT) (Q : Int → Sto → Prop) (vs : List Int) (e : Int) (m : Mem) : wcl cl 204 Q vs (S9 e m) = cl 204 vs (fun v u1 => Q v (bud u1 0 0)) (S9 e m) := wc_z mt_9_204 cl Q vs e m
theorem wc_205 (cl : ClT) (Q : Int → Sto → Prop) (vs : List Int) (e : Int) (m : Mem) : wcl cl 205 Q vs (S9 e m) = cl 205 vs (fun v u1 => Q v (bud u1 0 0)) (S9 e m) := wc_z mt_9_205 cl Q vs e m
theorem wc_206 (cl : ClT) (Q : Int → Sto → Prop) (vs : List Int) (e : Int) (m : Mem) : wcl cl 206 Q vs (S9 e m) = cl 206 vs (fun v u1 => Q v (bud u1 0 0)) (S9 e m) := wc_z mt_9_206 cl Q vs e m
theorem wc_207 (cl : ClT) (Q : Int → Sto → Prop) (vs : List Int) (e : Int) (m : Mem) : wcl cl 207 Q vs (S9 e m) = cl 207 vs (fun v u1 => Q v (bud u1 0 0)) (S9 e m) := wc_z mt_9_207 cl Q vs e m
theorem wc_208 (cl : ClT) (Q : Int → Sto → Prop) (vs : List Int) (e : Int) (m : Mem) : wcl cl 208 Q vs (S9 e m) = cl 208 vs (fun v u1 => Q v (bud u1 0 0)) (S9 e m) := wc_z mt_9_208 cl Q vs e m
theorem wc_209 (cl : ClT) (Q : Int → Sto → Prop) (vs : List Int) (e : Int) (m : Mem) : wcl cl 209 Q vs (S9 e m) = cl 209 vs (fun v u1 => Q v (bud u1 0 0)) (S9 e m) := wc_z mt_9_209 cl Q vs e m
theorem wc_210 (cl : ClT) (Q : Int → Sto → Prop) (vs : List Int) (e : Int) (m : Mem) : wcl cl 210 Q vs (S9 e m) = cl 210 vs (fun v u1 => Q v (bud u1 0 0)) (S9 e m) := wc_z mt_9_210 cl Q vs e m
theorem wc_211 (cl : ClT) (Q : Int → Sto → Prop) (vs : List Int) (e : Int) (m : Mem) : wcl cl 211 Q vs (S9 e m) = cl 211 vs (fun v u1 => Q v (bud u1 0 0)) (S9 e m) := wc_z mt_9_211 cl Q vs e m
theorem wc_212 (cl : ClT) (Q : Int → Sto → Prop) (vs : List Int) (e : Int) (m : Mem) : wcl cl 212 Q vs (S9 e m) = cl 212 vs (fun v u1 => Q v (bud u1 0 0)) (S9 e m) := wc_z mt_9_212 cl Q vs e m
theorem wc_213 (cl : ClT) (Q : Int → Sto → Prop) (vs : List Int) (e : Int) (m : Mem) : wcl cl 213 Q vs (S9 e m) = cl 213 vs (fun v u1 => Q v (bud u1 0 0)) (S9 e m) := wc_z mt_9_213 cl Q vs e m
theorem wc_214 (cl : ClT) (Q : Int → Sto → Prop) (vs : List Int) (e : Int) (m : Mem) : wcl cl 214 Q vs (S9 e m) = cl 214 vs (fun v u1 => Q v (bud u1 0 0)) (S9 e m) := wc_z mt_9_214 cl Q vs e m
theorem wc_215 (cl : ClT) (Q : Int → Sto → Prop) (vs : List Int) (e : Int) (m : Mem) : wcl cl 215 Q vs (S9 e m) = cl 215 vs (fun v u1 => Q v (bud u1 0 0)) (S9 e m) := wc_z mt_9_215 cl Q vs e m
theorem wc_216 (cl : ClT) (Q : Int → Sto → Prop) (vs : List Int) (e : Int) (m : Mem) : wcl cl 216 Q vs (S9 e m) = cl 216 vs (fun v u1 => Q v (bud u1 0 0)) (S9 e m) := wc_z mt_9_216 cl Q vs e m
theorem wc_217 (cl : ClT) (Q : Int → Sto → Prop) (vs : List Int) (e : Int) (m : Mem) : wcl cl 217 Q vs (S9 e m) = cl 217 vs (fun v u1 => Q v (bud u1 0 0)) (S9 e m) := wc_z mt_9_217 cl Q vs e m
theorem wc_218 (cl : ClT) (Q : Int → Sto → Prop) (vs : List Int) (e : Int) (m : Mem) : wcl cl 218 Q vs (S9 e m) = cl 218 vs (fun v u1 => Q v (bud u1 0 0)) (S9 e m) := wc_z mt_9_218 cl Q vs e m
theorem wc_219 (cl : ClT) (Q : Int → Sto → Prop) (vs : List Int) (e : Int) (m : Mem) : wcl cl 219 Q vs (S9 e m) = cl 219 vs (fun v u1 => Q v (bud u1 0 0)) (S9 e m) := wc_z mt_9_219 cl Q vs e m
theorem wc_220 (cl : ClT) (Q : Int → Sto → Prop) (vs : List Int) (e : Int) (m : Mem) : wcl cl 220 Q vs (S9 e m) = cl 220 vs (fun v u1 => Q v (bud u1 0 0)) (S9 e m) := wc_z mt_9_220 cl Q vs e m
theorem wc_221 (cl : ClT) (Q : Int → Sto → Prop) (vs : List Int) (e : Int) (m : Mem) : wcl cl 221 Q vs (S9 e m) = cl 221 vs (fun v u1 => Q v (bud u1 0 0)) (S9 e m) := wc_z mt_9_221 cl Q vs e m
theorem wc_222 (cl : ClT) (Q : Int → Sto → Prop) (vs : List Int) (e : Int) (m : Mem) : wcl cl 222 Q vs (S9 e m) = cl 222 vs (fun v u1 => Q v (bud u1 0 0)) (S9 e m) := wc_z mt_9_222 cl Q vs e m
theorem wc_223 (cl : ClT) (Q : Int → Sto → Prop) (vs : List Int) (e : Int) (m : Mem) : wcl cl 223 Q vs (S9 e m) = cl 223 vs (fun v u1 => Q v (bud u1 0 0)) (S9 e m) := wc_z mt_9_223 cl Q vs e m
theorem wc_224 (cl : ClT) (Q : Int → Sto → Prop) (vs : List Int) (e : Int) (m : Mem) : wcl cl 224 Q vs (S9 e m) = cl 224 vs (fun v u1 => Q v (bud u1 0 0)) (S9 e m) := wc_z mt_9_224 cl Q vs e m
theorem wc_225 (cl : ClT) (Q : Int → Sto → Prop) (vs : List Int) (e : Int) (m : Mem) : wcl cl 225 Q vs (S9 e m) = cl 225 vs (fun v u1 => Q v (bud u1 0 0)) (S9 e m) := wc_z mt_9_225 cl Q vs e m
theorem wc_226 (cl : ClT) (Q : Int → Sto → Prop) (vs : List Int) (e : Int) (m : Mem) : wcl cl 226 Q vs (S9 e m) = cl 226 vs (fun v u1 => Q v (bud u1 0 0)) (S9 e m) := wc_z mt_9_226 cl Q vs e m
theorem wc_227 (cl : ClT) (Q : Int → Sto → Prop) (vs : List Int) (e : Int) (m : Mem) : wcl cl 227 Q vs (S9 e m) = cl 227 vs (fun v u1 => Q v (bud u1 0 0)) (S9 e m) := wc_z mt_9_227 cl Q vs e m
theorem wc_228 (cl : ClT) (Q : Int → Sto → Prop) (vs : List Int) (e : Int) (m : Mem) : wcl cl 228 Q vs (S9 e m) = cl 228 vs (fun v u1 => Q v (bud u1 0 0)) (S9 e m) := wc_z mt_9_228 cl Q vs e m
theorem wc_229 (cl : ClT) (Q : Int → Sto → Prop) (vs : List Int) (e : Int) (m : Mem) : wcl cl 229 Q vs (S9 e m) = cl 229 vs (fun v u1 => Q v (bud u1 0 0)) (S9 e m) := wc_z mt_9_229 cl Q vs e m
theorem wc_230 (cl : ClT) (Q : Int → Sto → Prop) (vs : List Int) (e : Int) (m : Mem) : wcl cl 230 Q vs (S9 e m) = cl 230 vs (fun v u1 => Q v (bud u1 0 0)) (S9 e m) := wc_z mt_9_230 cl Q vs e m
theorem wc_231 (cl : ClT) (Q : Int → Sto → Prop) (vs : List Int) (e : Int) (m : Mem) : wcl cl 231 Q vs (S9 e m) = cl 231 vs (fun v u1 => Q v (bud u1 0 0)) (S9 e m) := wc_z mt_9_231 cl Q vs e m
theorem wc_232 (cl : ClT) (Q : Int → Sto → Prop) (vs : List Int) (e : Int) (m : Mem) : wcl cl 232 Q vs (S9 e m) = cl 232 vs (fun v u1 => Q v (bud u1 0 0)) (S9 e m) := wc_z mt_9_232 cl Q vs e m
theorem wc_233 (cl : ClT) (Q : Int → Sto → Prop) (vs : List Int) (e : Int) (m : Mem) : wcl cl 233 Q vs (S9 e m) = cl 233 vs (fun v u1 => Q v (bud u1 0 0)) (S9 e m) := wc_z mt_9_233 cl Q vs e m
theorem wc_234 (cl : ClT) (Q : Int → Sto → Prop) (vs : List Int) (e : Int) (m : Mem) : wcl cl 234 Q vs (S9 e m) = cl 234 vs (fun v u1 => Q v (bud u1 0 0)) (S9 e m) := wc_z mt_9_234 cl Q vs e m
theorem wc_235 (cl : ClT) (Q : Int → Sto → Prop) (vs : List Int) (e : Int) (m : Mem) : wcl cl 235 Q vs (S9 e m) = cl 235 vs (fun v u1 => Q v (bud u1 0 0)) (S9 e m) := wc_z mt_9_235 cl Q vs e m
theorem wc_236 (cl : ClT) (Q : Int → Sto → Prop) (vs : List Int) (e : Int) (m : Mem) : wcl cl 236 Q vs (S9 e m) = cl 236 vs (fun v u1 => Q v (bud u1 0 0)) (S9 e m) := wc_z mt_9_236 cl Q vs e m
theorem wc_237 (cl : ClT) (Q : Int → Sto → Prop) (vs : List Int) (e : Int) (m : Mem) : wcl cl 237 Q vs (S9 e m) = cl 237 vs (fun v u1 => Q v (bud u1 0 0)) (S9 e m) := wc_z mt_9_237 cl Q vs e m
theorem wc_238 (cl : ClT) (Q : Int → Sto → Prop) (vs : List Int) (e : Int) (m : Mem) : wcl cl 238 Q vs (S9 e m) = cl 238 vs (fun v u1 => Q v (bud u1 0 0)) (S9 e m) := wc_z mt_9_238 cl Q vs e m
theorem wc_239 (cl : ClT) (Q : Int → Sto → Prop) (vs : List Int) (e : Int) (m : Mem) : wcl cl 239 Q vs (S9 e m) = cl 239 vs (fun v u1 => Q v (bud u1 0 0)) (S9 e m) := wc_z mt_9_239 cl Q vs e m
theorem wc_240 (cl : ClT) (Q : Int → Sto → Prop) (vs : List Int) (e : Int) (m : Mem) : wcl cl 240 Q vs (S9 e m) = cl 240 vs (fun v u1 => Q v (bud u1 0 0)) (S9 e m) := wc_z mt_9_240 cl Q vs e m
theorem wc_241 (cl : ClT) (Q : Int → Sto → Prop) (vs : List Int) (e : Int) (m : Mem) : wcl cl 241 Q vs (S9 e m) = cl 241 vs (fun v u1 => Q v (bud u1 0 0)) (S9 e m) := wc_z mt_9_241 cl Q vs e m
theorem wc_242 (cl : ClT) (Q : Int → Sto → Prop) (vs : List Int) (e : Int) (m : Mem) : wcl cl 242 Q vs (S9 e m) = cl 242 vs (fun v u1 => Q v (bud u1 0 0)) (S9 e m) := wc_z mt_9_242 cl Q vs e m
theorem wc_243 (cl : ClT) (Q : Int → Sto → Prop) (vs : List Int) (e : Int) (m : Mem) : wcl cl 243 Q vs (S9 e m) = cl 243 vs (fun v u1 => Q v (bud u1 0 0)) (S9 e m) := wc_z mt_9_243 cl Q vs e m
theorem wc_244 (cl : ClT) (Q : Int → Sto → Prop) (vs : List Int) (e : Int) (m : Mem) : wcl cl 244 Q vs (S9 e m) = cl 244 vs (fun v u1 => Q v (bud u1 0 0)) (S9 e m) := wc_z mt_9_244 cl Q vs e m
theorem wc_245 (cl : ClT) (Q : Int → Sto → Prop) (vs : List Int) (e : Int) (m : Mem) : wcl cl 245 Q vs (S9 e m) = cl 245 vs (fun v u1 => Q v (bud u1 0 0)) (S9 e m) := wc_z mt_9_245 cl Q vs e m
theorem wc_246 (cl : ClT) (Q : Int → Sto → Prop) (vs : List Int) (e : Int) (m : Mem) : wcl cl 246 Q vs (S9 e m) = cl 246 vs (fun v u1 => Q v (bud u1 0 0)) (S9 e m) := wc_z mt_9_246 cl Q vs e m
theorem wc_247 (cl : ClT) (Q : Int → Sto → Prop) (vs : List Int) (e : Int) (m : Mem) : wcl cl 247 Q vs (S9 e m) = cl 247 vs (fun v u1 => Q v (bud u1 0 0)) (S9 e m) := wc_z mt_9_247 cl Q vs e m
theorem wc_248 (cl : ClT) (Q : Int → Sto → Prop) (vs : List Int) (e : Int) (m : Mem) : wcl cl 248 Q vs (S9 e m) = cl 248 vs (fun v u1 => Q v (bud u1 0 0)) (S9 e m) := wc_z mt_9_248 cl Q vs e m
theorem wc_249 (cl : ClT) (Q : Int → Sto → Prop) (vs : List Int) (e : Int) (m : Mem) : wcl cl 249 Q vs (S9 e m) = cl 249 vs (fun v u1 => Q v (bud u1 0 0)) (S9 e m) := wc_z mt_9_249 cl Q vs e m
theorem wc_250 (cl : ClT) (Q : Int → Sto → Prop) (vs : List Int) (e : Int) (m : Mem) : wcl cl 250 Q vs (S9 e m) = cl 250 vs (fun v u1 => Q v (bud u1 0 0)) (S9 e m) := wc_z mt_9_250 cl Q vs e m
theorem wc_251 (cl : ClT) (Q : Int → Sto → Prop) (vs : List Int) (e : Int) (m : Mem) : wcl cl 251 Q vs (S9 e m) = cl 251 vs (fun v u1 => Q v (bud u1 0 0)) (S9 e m) := wc_z mt_9_251 cl Q vs e m
theorem wc_252 (cl : ClT) (Q : Int → Sto → Prop) (vs : List Int) (e : Int) (m : Mem) : wcl cl 252 Q vs (S9 e m) = cl 252 vs (fun v u1 => Q v (bud u1 0 0)) (S9 e m) := wc_z mt_9_252 cl Q vs e m
theorem wc_253 (cl : ClT) (Q : Int → Sto → Prop) (vs : List Int) (e : Int) (m : Mem) : wcl cl 253 Q vs (S9 e m) = cl 253 vs (fun v u1 => Q v (bud u1 0 0)) (S9 e m) := wc_z mt_9_253 cl Q vs e m
theorem wc_254 (cl : ClT) (Q : Int → Sto → Prop) (vs : List Int) (e : Int) (m : Mem) : wcl cl 254 Q vs (S9 e m) = cl 254 vs (fun v u1 => Q v (bud u1 0 0)) (S9 e m) := wc_z mt_9_254 cl Q vs e m
theorem wc_255 (cl : ClT) (Q : Int → Sto → Prop) (vs : List Int) (e : Int) (m : Mem) : wcl cl 255 Q vs (S9 e m) = cl 255 vs (fun v u1 => Q v (bud u1 0 0)) (S9 e m) := wc_z mt_9_255 cl Q vs e m
theorem wc_256 (cl : ClT) (Q : Int → Sto → Prop) (vs : List Int) (e : Int) (m : Mem) : wcl cl 256 Q vs (S9 e m) = cl 256 vs (fun v u1 => Q v (bud u1 0 0)) (S9 e m) := wc_z mt_9_256 cl Q vs e m
theorem wc_257 (cl : ClT) (Q : Int → Sto → Prop) (vs : List Int) (e : Int) (m : Mem) : wcl cl 257 Q vs (S9 e m) = cl 257 vs (fun v u1 => Q v (bud u1 0 0)) (S9 e m) := wc_z mt_9_257 cl Q vs e m
theorem wc_258 (cl : ClT) (Q : Int → Sto → Prop) (vs : List Int) (e : Int) (m : Mem) : wcl cl 258 Q vs (S9 e m) = cl 258 vs (fun v u1 => Q v (bud u1 0 0)) (S9 e m) := wc_z mt_9_258 cl Q vs e m
theorem wc_259 (cl : ClT) (Q : Int → Sto → Prop) (vs : List Int) (e : Int) (m : Mem) : wcl cl 259 Q vs (S9 e m) = cl 259 vs (fun v u1 => Q v (bud u1 0 0)) (S9 e m) := wc_z mt_9_259 cl Q vs e m
theorem wc_260 (cl : ClT) (Q : Int → Sto → Prop) (vs : List Int) (e : Int) (m : Mem) : wcl cl 260 Q vs (S9 e m) = cl 260 vs (fun v u1 => Q v (bud u1 0 0)) (S9 e m) := wc_z mt_9_260 cl Q vs e m
theorem wc_261 (cl : ClT) (Q : Int → Sto → Prop) (vs : List Int) (e : Int) (m : Mem) : wcl cl 261 Q vs (S9 e m) = cl 261 vs (fun v u1 => Q v (bud u1 0 0)) (S9 e m) := wc_z mt_9_261 cl Q vs e m
theorem wc_262 (cl : ClT) (Q : Int → Sto → Prop) (vs : List Int) (e : Int) (m : Mem) : wcl cl 262 Q vs (S9 e m) = cl 262 vs (fun v u1 => Q v (bud u1 0 0)) (S9 e m) := wc_z mt_9_262 cl Q vs e m
theorem wc_263 (cl : ClT) (Q : Int → Sto → Prop) (vs : List Int) (e : Int) (m : Mem) : wcl cl 263 Q vs (S9 e m) = cl 263 vs (fun v u1 => Q v (bud u1 0 0)) (S9 e m) := wc_z mt_9_263 cl Q vs e m
theorem wc_264 (cl : ClT) (Q : Int → Sto → Prop) (vs : List Int) (e : Int) (m : Mem) : wcl cl 264 Q vs (S9 e m) = cl 264 vs (fun v u1 => Q v (bud u1 0 0)) (S9 e m) := wc_z mt_9_264 cl Q vs e m
theorem wc_265 (cl : ClT) (Q : Int → Sto → Prop) (vs : List Int) (e : Int) (m : Mem) : wcl cl 265 Q vs (S9 e m) = cl 265 vs (fun v u1 => Q v (bud u1 0 0)) (S9 e m) := wc_z mt_9_265 cl Q vs e m
theorem wc_266 (cl : ClT) (Q : Int → Sto → Prop) (vs : List Int) (e : Int) (m : Mem) : wcl cl 266 Q vs (S9 e m) = cl 266 vs (fun v u1 => Q v (bud u1 0 0)) (S9 e m) := wc_z mt_9_266 cl Q vs e m
theorem wc_267 (cl : ClT) (Q : Int → Sto → Prop) (vs : List Int) (e : Int) (m : Mem) : wcl cl 267 Q vs (S9 e m) = cl 267 vs (fun v u1 => Q v (bud u1 0 0)) (S9 e m) := wc_z mt_9_267 cl Q vs e m
theorem wc_268 (cl : ClT) (Q : Int → Sto → Prop) (vs : List Int) (e : Int) (m : Mem) : wcl cl 268 Q vs (S9 e m) = cl 268 vs (fun v u1 => Q v (bud u1 0 0)) (S9 e m) := wc_z mt_9_268 cl Q vs e m
theorem wc_269 (cl : ClT) (Q : Int → Sto → Prop) (vs : List Int) (e : Int) (m : Mem) : wcl cl 269 Q vs (S9 e m) = cl 269 vs (fun v u1 => Q v (bud u1 0 0)) (S9 e m) := wc_z mt_9_269 cl Q vs e m
theorem wc_270 (cl : ClT) (Q : Int → Sto → Prop) (vs : List Int) (e : Int) (m : Mem) : wcl cl 270 Q vs (S9 e m) = cl 270 vs (fun v u1 => Q v (bud u1 0 0)) (S9 e m) := wc_z mt_9_270 cl Q vs e m
theorem wc_271 (cl : ClT) (Q : Int → Sto → Prop) (vs : List Int) (e : Int) (m : Mem) : wcl cl 271 Q vs (S9 e m) = cl 271 vs (fun v u1 => Q v (bud u1 0 0)) (S9 e m) := wc_z mt_9_271 cl Q vs e m
theorem wc_272 (cl : ClT) (Q : Int → Sto → Prop) (vs : List Int) (e : Int) (m : Mem) : wcl cl 272 Q vs (S9 e m) = cl 272 vs (fun v u1 => Q v (bud u1 0 0)) (S9 e m) := wc_z mt_9_272 cl Q vs e m
theorem wc_273 (cl : ClT) (Q : Int → Sto → Prop) (vs : List Int) (e : Int) (m : Mem) : wcl cl 273 Q vs (S9 e m) = cl 273 vs (fun v u1 => Q v (bud u1 0 0)) (S9 e m) := wc_z mt_9_273 cl Q vs e m
theorem wc_274 (cl : ClT) (Q : Int → Sto → Prop) (vs : List Int) (e : Int) (m : Mem) : wcl cl 274 Q vs (S9 e m) = cl 274 vs (fun v u1 => Q v (bud u1 0 0)) (S9 e m) := wc_z mt_9_274 cl Q vs e m
theorem wc_275 (cl : ClT) (Q : Int → Sto → Prop) (vs : List Int) (e : Int) (m : Mem) : wcl cl 275 Q vs (S9 e m) = cl 275 vs (fun v u1 => Q v (bud u1 0 0)) (S9 e m) := wc_z mt_9_275 cl Q vs e m
theorem wc_276 (cl : ClT) (Q : Int → Sto → Prop) (vs : List Int) (e : Int) (m : Mem) : wcl cl 276 Q vs (S9 e m) = cl 276 vs (fun v u1 => Q v (bud u1 0 0)) (S9 e m) := wc_z mt_9_276 cl Q vs e m
theorem wc_277 (cl : ClT) (Q : Int → Sto → Prop) (vs : List Int) (e : Int) (m : Mem) : wcl cl 277 Q vs (S9 e m) = cl 277 vs (fun v u1 => Q v (bud u1 0 0)) (S9 e m) := wc_z mt_9_277 cl Q vs e m
theorem wc_278 (cl : ClT) (Q : Int → Sto → Prop) (vs : List Int) (e : Int) (m : Mem) : wcl cl 278 Q vs (S9 e m) = cl 278 vs (fun v u1 => Q v (bud u1 0 0)) (S9 e m) := wc_z mt_9_278 cl Q vs e m
theorem wc_279 (cl : ClT) (Q : Int → Sto → Prop) (vs : List Int) (e : Int) (m : Mem) : wcl cl 279 Q vs (S9 e m) = cl 279 vs (fun v u1 => Q v (bud u1 0 0)) (S9 e m) := wc_z mt_9_279 cl Q vs e m
theorem wc_280 (cl : ClT) (Q : Int → Sto → Prop) (vs : List Int) (e : Int) (m : Mem) : wcl cl 280 Q vs (S9 e m) = cl 280 vs (fun v u1 => Q v (bud u1 0 0)) (S9 e m) := wc_z mt_9_280 cl Q vs e m
theorem wc_281 (cl : ClT) (Q : Int → Sto → Prop) (vs : List Int) (e : Int) (m : Mem) : wcl cl 281 Q vs (S9 e m) = cl 281 vs (fun v u1 => Q v (bud u1 0 0)) (S9 e m) := wc_z mt_9_281 cl Q vs e m
