/-! THE KITCHEN's text on both sides keeps the relation (pure) -/
theorem VI_k100 {a b c d j : Int} (h0 : 0 ≤ j) (h1 : j < b) : VI a b c d (100 + j) := Or.inr (Or.inl ⟨by omega, by omega⟩)
theorem VI_k120 {a b c d j : Int} (h0 : 0 ≤ j) (h1 : j < b) : VI a b c d (120 + j) := Or.inr (Or.inr (Or.inl ⟨by omega, by omega⟩))
theorem VI_k140 {a b c d j : Int} (h0 : 0 ≤ j) (h1 : j < b) : VI a b c d (140 + j) := Or.inr (Or.inr (Or.inr (Or.inl ⟨by omega, by omega⟩)))
theorem VI_k160 {a b c d j : Int} (h0 : 0 ≤ j) (h1 : j < b) : VI a b c d (160 + j) := Or.inr (Or.inr (Or.inr (Or.inr (Or.inl ⟨by omega, by omega⟩))))
theorem VI_k200 {a b c d j : Int} (h0 : 0 ≤ j) (h1 : j < c) : VI a b c d (200 + j) := Or.inr (Or.inr (Or.inr (Or.inr (Or.inr (Or.inl ⟨by omega, by omega⟩)))))
theorem VI_k210 {a b c d j : Int} (h0 : 0 ≤ j) (h1 : j < c) : VI a b c d (210 + j) := Or.inr (Or.inr (Or.inr (Or.inr (Or.inr (Or.inr (Or.inl ⟨by omega, by omega⟩))))))
theorem VI_k220 {a b c d j : Int} (h0 : 0 ≤ j) (h1 : j < c) : VI a b c d (220 + j) := Or.inr (Or.inr (Or.inr (Or.inr (Or.inr (Or.inr (Or.inr (Or.inl ⟨by omega, by omega⟩)))))))
theorem VI_k230 {a b c d j : Int} (h0 : 0 ≤ j) (h1 : j < c) : VI a b c d (230 + j) := Or.inr (Or.inr (Or.inr (Or.inr (Or.inr (Or.inr (Or.inr (Or.inr (Or.inl ⟨by omega, by omega⟩))))))))
theorem VI_k300 {a b c d j : Int} (h0 : 0 ≤ j) (h1 : j < d) : VI a b c d (300 + j) := Or.inr (Or.inr (Or.inr (Or.inr (Or.inr (Or.inr (Or.inr (Or.inr (Or.inr (Or.inl ⟨by omega, by omega⟩)))))))))
theorem VI_k310 {a b c d j : Int} (h0 : 0 ≤ j) (h1 : j < d) : VI a b c d (310 + j) := Or.inr (Or.inr (Or.inr (Or.inr (Or.inr (Or.inr (Or.inr (Or.inr (Or.inr (Or.inr (Or.inl ⟨by omega, by omega⟩))))))))))
theorem VI_k320 {a b c d j : Int} (h0 : 0 ≤ j) (h1 : j < d) : VI a b c d (320 + j) := Or.inr (Or.inr (Or.inr (Or.inr (Or.inr (Or.inr (Or.inr (Or.inr (Or.inr (Or.inr (Or.inr (Or.inl ⟨by omega, by omega⟩)))))))))))
theorem VI_k330 {a b c d j : Int} (h0 : 0 ≤ j) (h1 : j < d) : VI a b c d (330 + j) := Or.inr (Or.inr (Or.inr (Or.inr (Or.inr (Or.inr (Or.inr (Or.inr (Or.inr (Or.inr (Or.inr (Or.inr (Or.inl ⟨by omega, by omega⟩))))))))))))
theorem VI_k340 {a b c d j : Int} (h0 : 0 ≤ j) (h1 : j < d) : VI a b c d (340 + j) := Or.inr (Or.inr (Or.inr (Or.inr (Or.inr (Or.inr (Or.inr (Or.inr (Or.inr (Or.inr (Or.inr (Or.inr (Or.inr (Or.inl ⟨by omega, by omega⟩)))))))))))))
theorem VI_k350 {a b c d j : Int} (h0 : 0 ≤ j) (h1 : j < d) : VI a b c d (350 + j) := Or.inr (Or.inr (Or.inr (Or.inr (Or.inr (Or.inr (Or.inr (Or.inr (Or.inr (Or.inr (Or.inr (Or.inr (Or.inr (Or.inr (Or.inl ⟨by omega, by omega⟩))))))))))))))
theorem VI_k360 {a b c d j : Int} (h0 : 0 ≤ j) (h1 : j < d) : VI a b c d (360 + j) := Or.inr (Or.inr (Or.inr (Or.inr (Or.inr (Or.inr (Or.inr (Or.inr (Or.inr (Or.inr (Or.inr (Or.inr (Or.inr (Or.inr (Or.inr (Or.inl ⟨by omega, by omega⟩)))))))))))))))
theorem VI_k370 {a b c d j : Int} (h0 : 0 ≤ j) (h1 : j < d) : VI a b c d (370 + j) := Or.inr (Or.inr (Or.inr (Or.inr (Or.inr (Or.inr (Or.inr (Or.inr (Or.inr (Or.inr (Or.inr (Or.inr (Or.inr (Or.inr (Or.inr (Or.inr (⟨by omega, by omega⟩))))))))))))))))
theorem kC_100 {m : Mem} {j : Int} (hj : 0 ≤ j ∧ j < 20) : kvC m (100 + j) = m 10 j := by
  unfold kvC
  (repeat rw [if_neg (by omega)])
  rw [if_pos (by omega)]
  congr 1; omega
theorem kC_120 {m : Mem} {j : Int} (hj : 0 ≤ j ∧ j < 20) : kvC m (120 + j) = m 11 j := by
  unfold kvC
  (repeat rw [if_neg (by omega)])
  rw [if_pos (by omega)]
  congr 1; omega
theorem kC_140 {m : Mem} {j : Int} (hj : 0 ≤ j ∧ j < 20) : kvC m (140 + j) = m 12 j := by
  unfold kvC
  (repeat rw [if_neg (by omega)])
  rw [if_pos (by omega)]
  congr 1; omega
theorem kC_160 {m : Mem} {j : Int} (hj : 0 ≤ j ∧ j < 14) : kvC m (160 + j) = iand (ishr (m 8 8) j) 1 := by
  unfold kvC
  (repeat rw [if_neg (by omega)])
  rw [if_pos (by omega)]
  rw [if_pos (by omega), show 160 + j - 160 = j by omega]
theorem kC_200 {m : Mem} {j : Int} (hj : 0 ≤ j ∧ j < 5) : kvC m (200 + j) = m 16 j := by
  unfold kvC
  (repeat rw [if_neg (by omega)])
  rw [if_pos (by omega)]
  congr 1; omega
theorem kC_210 {m : Mem} {j : Int} (hj : 0 ≤ j ∧ j < 5) : kvC m (210 + j) = m 17 j := by
  unfold kvC
  (repeat rw [if_neg (by omega)])
  rw [if_pos (by omega)]
  congr 1; omega
theorem kC_220 {m : Mem} {j : Int} (hj : 0 ≤ j ∧ j < 5) : kvC m (220 + j) = iand (ishr (m 15 3) j) 1 := by
  unfold kvC
  (repeat rw [if_neg (by omega)])
  rw [if_pos (by omega)]
  rw [if_pos (by omega), show 220 + j - 220 = j by omega]
theorem kC_230 {m : Mem} {j : Int} (hj : 0 ≤ j ∧ j < 5) : kvC m (230 + j) = m 13 j := by
  unfold kvC
  (repeat rw [if_neg (by omega)])
  rw [if_pos (by omega)]
  congr 1; omega
theorem kC_300 {m : Mem} {j : Int} (hj : 0 ≤ j ∧ j < 5) : kvC m (300 + j) = m 14 j := by
  unfold kvC
  (repeat rw [if_neg (by omega)])
  rw [if_pos (by omega)]
  congr 1; omega
theorem kC_310 {m : Mem} {j : Int} (hj : 0 ≤ j ∧ j < 5) : kvC m (310 + j) = m 19 j := by
  unfold kvC
  (repeat rw [if_neg (by omega)])
  rw [if_pos (by omega)]
  congr 1; omega
theorem kC_320 {m : Mem} {j : Int} (hj : 0 ≤ j ∧ j < 5) : kvC m (320 + j) = m 20 (2 * j) := by
  unfold kvC
  (repeat rw [if_neg (by omega)])
  rw [if_pos (by omega)]
  congr 1; omega
theorem kC_330 {m : Mem} {j : Int} (hj : 0 ≤ j ∧ j < 5) : kvC m (330 + j) = m 20 (2 * j + 1) := by
  unfold kvC
  (repeat rw [if_neg (by omega)])
  rw [if_pos (by omega)]
  congr 1; omega
theorem kC_340 {m : Mem} {j : Int} (hj : 0 ≤ j ∧ j < 5) : kvC m (340 + j) = m 21 j := by
  unfold kvC
  (repeat rw [if_neg (by omega)])
  rw [if_pos (by omega)]
  congr 1; omega
theorem kC_350 {m : Mem} {j : Int} (hj : 0 ≤ j ∧ j < 5) : kvC m (350 + j) = m 22 j := by
  unfold kvC
  (repeat rw [if_neg (by omega)])
  rw [if_pos (by omega)]
  congr 1; omega
theorem kC_360 {m : Mem} {j : Int} (hj : 0 ≤ j ∧ j < 5) : kvC m (360 + j) = m 23 j := by
  unfold kvC
  (repeat rw [if_neg (by omega)])
  rw [if_pos (by omega)]
  congr 1; omega
theorem kC_370 {m : Mem} {j : Int} (hj : 0 ≤ j ∧ j < 5) : kvC m (370 + j) = m 24 j := by
  unfold kvC
  (repeat rw [if_neg (by omega)])
  congr 1; omega
theorem kM_100 {m : Mem} {j : Int} (hj : 0 ≤ j ∧ j < 20) : kvM m (100 + j) = m 252 j := by
  unfold kvM
  (repeat rw [if_neg (by omega)])
  rw [if_pos (by omega)]
  congr 1; omega
theorem kM_120 {m : Mem} {j : Int} (hj : 0 ≤ j ∧ j < 20) : kvM m (120 + j) = m 253 j := by
  unfold kvM
  (repeat rw [if_neg (by omega)])
  rw [if_pos (by omega)]
  congr 1; omega
theorem kM_140 {m : Mem} {j : Int} (hj : 0 ≤ j ∧ j < 20) : kvM m (140 + j) = m 254 j := by
  unfold kvM
  (repeat rw [if_neg (by omega)])
  rw [if_pos (by omega)]
  congr 1; omega
theorem kM_160 {m : Mem} {j : Int} (hj : 0 ≤ j ∧ j < 20) : kvM m (160 + j) = m 255 j := by
  unfold kvM
  (repeat rw [if_neg (by omega)])
  rw [if_pos (by omega)]
  congr 1; omega
theorem kM_200 {m : Mem} {j : Int} (hj : 0 ≤ j ∧ j < 5) : kvM m (200 + j) = m 258 (3 * j) := by
  unfold kvM
  (repeat rw [if_neg (by omega)])
  rw [if_pos (by omega)]
  congr 1; omega
theorem kM_210 {m : Mem} {j : Int} (hj : 0 ≤ j ∧ j < 5) : kvM m (210 + j) = m 258 (3 * j + 1) := by
  unfold kvM
  (repeat rw [if_neg (by omega)])
  rw [if_pos (by omega)]
  congr 1; omega
theorem kM_220 {m : Mem} {j : Int} (hj : 0 ≤ j ∧ j < 5) : kvM m (220 + j) = m 258 (3 * j + 2) := by
  unfold kvM
  (repeat rw [if_neg (by omega)])
  rw [if_pos (by omega)]
  congr 1; omega
theorem kM_230 {m : Mem} {j : Int} (hj : 0 ≤ j ∧ j < 5) : kvM m (230 + j) = m 256 j := by
  unfold kvM
  (repeat rw [if_neg (by omega)])
  rw [if_pos (by omega)]
  congr 1; omega
theorem kM_300 {m : Mem} {j : Int} (hj : 0 ≤ j ∧ j < 5) : kvM m (300 + j) = m 257 j := by
  unfold kvM
  (repeat rw [if_neg (by omega)])
  rw [if_pos (by omega)]
  congr 1; omega
theorem kM_310 {m : Mem} {j : Int} (hj : 0 ≤ j ∧ j < 5) : kvM m (310 + j) = m 258 (15 + 7 * j) := by
  unfold kvM
  (repeat rw [if_neg (by omega)])
  rw [if_pos (by omega)]
  congr 1; omega
theorem kM_320 {m : Mem} {j : Int} (hj : 0 ≤ j ∧ j < 5) : kvM m (320 + j) = m 258 (16 + 7 * j) := by
  unfold kvM
  (repeat rw [if_neg (by omega)])
  rw [if_pos (by omega)]
  congr 1; omega
theorem kM_330 {m : Mem} {j : Int} (hj : 0 ≤ j ∧ j < 5) : kvM m (330 + j) = m 258 (17 + 7 * j) := by
  unfold kvM
  (repeat rw [if_neg (by omega)])
  rw [if_pos (by omega)]
  congr 1; omega
theorem kM_340 {m : Mem} {j : Int} (hj : 0 ≤ j ∧ j < 5) : kvM m (340 + j) = m 258 (18 + 7 * j) := by
  unfold kvM
  (repeat rw [if_neg (by omega)])
  rw [if_pos (by omega)]
  congr 1; omega
theorem kM_350 {m : Mem} {j : Int} (hj : 0 ≤ j ∧ j < 5) : kvM m (350 + j) = m 258 (19 + 7 * j) := by
  unfold kvM
  (repeat rw [if_neg (by omega)])
  rw [if_pos (by omega)]
  congr 1; omega
theorem kM_360 {m : Mem} {j : Int} (hj : 0 ≤ j ∧ j < 5) : kvM m (360 + j) = m 258 (20 + 7 * j) := by
  unfold kvM
  (repeat rw [if_neg (by omega)])
  rw [if_pos (by omega)]
  congr 1; omega
theorem kM_370 {m : Mem} {j : Int} (hj : 0 ≤ j ∧ j < 5) : kvM m (370 + j) = m 258 (21 + 7 * j) := by
  unfold kvM
  (repeat rw [if_neg (by omega)])
  congr 1; omega
theorem SE_C {m : Mem} {P H : Int} (hP : P ≤ 5) (hH : H ≤ 5) : SE P H (asC m 15) (asK (kvC m) (m 15 10) (m 15 11)) := by
  refine ⟨fun f j f0 f1 j0 j1 => ?_, fun f j f0 f1 j0 j1 => ?_, by rw [c_op, ak_o], by rw [c_no, ak_n]⟩
  · rcases f02 f0 f1 with rfl | rfl | rfl
    · rw [ak_0, kC_200 ⟨j0, by omega⟩, c_0 m ⟨j0, by omega⟩]
    · rw [ak_1, kC_210 ⟨j0, by omega⟩, c_1 m ⟨j0, by omega⟩]
    · rw [ak_2, kC_220 ⟨j0, by omega⟩, c_2 m ⟨j0, by omega⟩]
  · rcases f39 f0 f1 with rfl | rfl | rfl | rfl | rfl | rfl | rfl
    · rw [ak_3, kC_310 ⟨j0, by omega⟩, c_3 m ⟨j0, by omega⟩]
    · rw [ak_4, kC_320 ⟨j0, by omega⟩, c_4 m ⟨j0, by omega⟩]
    · rw [ak_5, kC_330 ⟨j0, by omega⟩, c_5 m ⟨j0, by omega⟩]
    · rw [ak_6, kC_340 ⟨j0, by omega⟩, c_6 m ⟨j0, by omega⟩]
    · rw [ak_7, kC_350 ⟨j0, by omega⟩, c_7 m ⟨j0, by omega⟩]
    · rw [ak_8, kC_360 ⟨j0, by omega⟩, c_8 m ⟨j0, by omega⟩]
    · rw [ak_9, kC_370 ⟨j0, by omega⟩, c_9 m ⟨j0, by omega⟩]
theorem SE_M {m : Mem} {P H : Int} (hP : P ≤ 5) (hH : H ≤ 5) : SE P H (asR m 258 0) (asK (kvM m) (m 258 50) (m 258 51)) := by
  refine ⟨fun f j f0 f1 j0 j1 => ?_, fun f j f0 f1 j0 j1 => ?_, by rw [r_op, ak_o], by rw [r_no, ak_n]⟩
  · rcases f02 f0 f1 with rfl | rfl | rfl
    · rw [ak_0, kM_200 ⟨j0, by omega⟩, r_0 m ⟨j0, by omega⟩]
    · rw [ak_1, kM_210 ⟨j0, by omega⟩, r_1 m ⟨j0, by omega⟩]
    · rw [ak_2, kM_220 ⟨j0, by omega⟩, r_2 m ⟨j0, by omega⟩]
  · rcases f39 f0 f1 with rfl | rfl | rfl | rfl | rfl | rfl | rfl
    · rw [ak_3, kM_310 ⟨j0, by omega⟩, r_3 m ⟨j0, by omega⟩]
    · rw [ak_4, kM_320 ⟨j0, by omega⟩, r_4 m ⟨j0, by omega⟩]
    · rw [ak_5, kM_330 ⟨j0, by omega⟩, r_5 m ⟨j0, by omega⟩]
    · rw [ak_6, kM_340 ⟨j0, by omega⟩, r_6 m ⟨j0, by omega⟩]
    · rw [ak_7, kM_350 ⟨j0, by omega⟩, r_7 m ⟨j0, by omega⟩]
    · rw [ak_8, kM_360 ⟨j0, by omega⟩, r_8 m ⟨j0, by omega⟩]
    · rw [ak_9, kM_370 ⟨j0, by omega⟩, r_9 m ⟨j0, by omega⟩]
/-- values alike: states alike -/
theorem SE_K {a b P H : Int} {f f' : Int → Int} {o nw : Int} (h : KVL a b P H f' f) : SE P H (asK f o nw) (asK f' o nw) := by
  refine ⟨fun g j f0 f1 j0 j1 => ?_, fun g j f0 f1 j0 j1 => ?_, by rw [ak_o, ak_o], by rw [ak_n, ak_n]⟩
  · rcases f02 f0 f1 with rfl | rfl | rfl
    · rw [ak_0, ak_0]; exact (h _ (VI_k200 j0 j1)).symm
    · rw [ak_1, ak_1]; exact (h _ (VI_k210 j0 j1)).symm
    · rw [ak_2, ak_2]; exact (h _ (VI_k220 j0 j1)).symm
  · rcases f39 f0 f1 with rfl | rfl | rfl | rfl | rfl | rfl | rfl
    · rw [ak_3, ak_3]; exact (h _ (VI_k310 j0 j1)).symm
    · rw [ak_4, ak_4]; exact (h _ (VI_k320 j0 j1)).symm
    · rw [ak_5, ak_5]; exact (h _ (VI_k330 j0 j1)).symm
    · rw [ak_6, ak_6]; exact (h _ (VI_k340 j0 j1)).symm
    · rw [ak_7, ak_7]; exact (h _ (VI_k350 j0 j1)).symm
    · rw [ak_8, ak_8]; exact (h _ (VI_k360 j0 j1)).symm
    · rw [ak_9, ak_9]; exact (h _ (VI_k370 j0 j1)).symm
theorem KE_sy {s s' : KS} (h : KE s s') : KE s' s := ⟨h.1.symm, h.2.1.symm, h.2.2.1.symm, h.2.2.2.1.symm, fun j hj => (h.2.2.2.2 j (by rw [← h.1, ← h.2.1, ← h.2.2.1, ← h.2.2.2.1]; exact hj)).symm⟩
theorem KIV_E {H0 : Int} {s s' : KS} {o nw : Int} (h : KIV H0 s o nw) (e : KE s s') : KIV H0 s' o nw := by
  obtain ⟨⟨b1, b2, b3, b4⟩, i, w, q, p, l, bn⟩ := h
  obtain ⟨e1, e2, e3, e4, e5⟩ := e
  unfold KIV
  rw [e1, e2, e3, e4]
  refine ⟨⟨b1, b2, b3, b4⟩, IV_SE i (SE_K e5), fun j j0 j1 => ?_, fun j j0 j1 => ?_, fun j j0 j1 => ?_, fun j jh j0 j1 => ?_, BN_SE bn (SE_K e5)⟩
  · rw [e5 _ (VI_k100 j0 j1), e5 _ (VI_k120 j0 j1)]; exact w j j0 j1
  · rw [e5 _ (VI_k230 j0 j1)]; exact q j j0 j1
  · rw [e5 _ (VI_k300 j0 j1)]; exact p j j0 j1
  · rw [e5 _ (VI_k360 j0 j1)]; exact l j jh j0 j1
/-- the values of both sides, before -/
theorem KE_GS {m : Mem} (hb : (0 ≤ m 8 0 ∧ m 8 0 ≤ 10) ∧ (0 ≤ m 8 1 ∧ m 8 1 ≤ 14) ∧ (0 ≤ m 8 2 ∧ m 8 2 ≤ 5) ∧ (0 ≤ m 8 3 ∧ m 8 3 ≤ 5)) (hK : RK m) (hV : KVs m) (hS : SE (m 8 2) (m 8 3) (asC m 15) (asR m 258 0)) : KE (sC m) (sK m) := by
  obtain ⟨k3, k4, k5, k6, k7⟩ := hK
  obtain ⟨v1, v2, v3⟩ := hV
  refine ⟨k3, k4, k5, k6, fun j hj => ?_⟩
  have hj : VI (m 8 0) (m 8 1) (m 8 2) (m 8 3) j := hj
  show kvR m j = kvC m j
  rw [kvR_M (by omega) (by rw [k3, k4, k5, k6]; exact hj)]
  unfold VI at hj
  rcases hj with h | h | h | h | h | h | h | h | h | h | h | h | h | h | h | h | h
  · unfold kvM kvC
    rw [if_pos (by omega), if_pos (by omega), Int.sub_zero]; exact k7 j h.1 h.2
  · obtain ⟨i, rfl⟩ : ∃ i, j = 100 + i := ⟨j - 100, by omega⟩
    rw [kM_100 ⟨by omega, by omega⟩, kC_100 ⟨by omega, by omega⟩]
    exact (v1 i (by omega) (by omega)).1
  · obtain ⟨i, rfl⟩ : ∃ i, j = 120 + i := ⟨j - 120, by omega⟩
    rw [kM_120 ⟨by omega, by omega⟩, kC_120 ⟨by omega, by omega⟩]
    exact (v1 i (by omega) (by omega)).2.1
  · obtain ⟨i, rfl⟩ : ∃ i, j = 140 + i := ⟨j - 140, by omega⟩
    rw [kM_140 ⟨by omega, by omega⟩, kC_140 ⟨by omega, by omega⟩]
    exact (v1 i (by omega) (by omega)).2.2.1
  · obtain ⟨i, rfl⟩ : ∃ i, j = 160 + i := ⟨j - 160, by omega⟩
    rw [kM_160 ⟨by omega, by omega⟩, kC_160 ⟨by omega, by omega⟩]
    exact (v1 i (by omega) (by omega)).2.2.2.1
  · obtain ⟨i, rfl⟩ : ∃ i, j = 200 + i := ⟨j - 200, by omega⟩
    rw [kM_200 ⟨by omega, by omega⟩, kC_200 ⟨by omega, by omega⟩]
    have z := hS.1 0 i (by decide) (by decide) (by omega) (by omega)
    rw [c_0 m ⟨by omega, by omega⟩, r_0 m ⟨by omega, by omega⟩] at z; exact z.symm
  · obtain ⟨i, rfl⟩ : ∃ i, j = 210 + i := ⟨j - 210, by omega⟩
    rw [kM_210 ⟨by omega, by omega⟩, kC_210 ⟨by omega, by omega⟩]
    have z := hS.1 1 i (by decide) (by decide) (by omega) (by omega)
    rw [c_1 m ⟨by omega, by omega⟩, r_1 m ⟨by omega, by omega⟩] at z; exact z.symm
  · obtain ⟨i, rfl⟩ : ∃ i, j = 220 + i := ⟨j - 220, by omega⟩
    rw [kM_220 ⟨by omega, by omega⟩, kC_220 ⟨by omega, by omega⟩]
    have z := hS.1 2 i (by decide) (by decide) (by omega) (by omega)
    rw [c_2 m ⟨by omega, by omega⟩, r_2 m ⟨by omega, by omega⟩] at z; exact z.symm
  · obtain ⟨i, rfl⟩ : ∃ i, j = 230 + i := ⟨j - 230, by omega⟩
    rw [kM_230 ⟨by omega, by omega⟩, kC_230 ⟨by omega, by omega⟩]
    exact (v2 i (by omega) (by omega)).1
  · obtain ⟨i, rfl⟩ : ∃ i, j = 300 + i := ⟨j - 300, by omega⟩
    rw [kM_300 ⟨by omega, by omega⟩, kC_300 ⟨by omega, by omega⟩]
    exact (v3 i (by omega) (by omega)).1
  · obtain ⟨i, rfl⟩ : ∃ i, j = 310 + i := ⟨j - 310, by omega⟩
    rw [kM_310 ⟨by omega, by omega⟩, kC_310 ⟨by omega, by omega⟩]
    have z := hS.2.1 3 i (by decide) (by decide) (by omega) (by omega)
    rw [c_3 m ⟨by omega, by omega⟩, r_3 m ⟨by omega, by omega⟩] at z; exact z.symm
  · obtain ⟨i, rfl⟩ : ∃ i, j = 320 + i := ⟨j - 320, by omega⟩
    rw [kM_320 ⟨by omega, by omega⟩, kC_320 ⟨by omega, by omega⟩]
    have z := hS.2.1 4 i (by decide) (by decide) (by omega) (by omega)
    rw [c_4 m ⟨by omega, by omega⟩, r_4 m ⟨by omega, by omega⟩] at z; exact z.symm
  · obtain ⟨i, rfl⟩ : ∃ i, j = 330 + i := ⟨j - 330, by omega⟩
    rw [kM_330 ⟨by omega, by omega⟩, kC_330 ⟨by omega, by omega⟩]
    have z := hS.2.1 5 i (by decide) (by decide) (by omega) (by omega)
    rw [c_5 m ⟨by omega, by omega⟩, r_5 m ⟨by omega, by omega⟩] at z; exact z.symm
  · obtain ⟨i, rfl⟩ : ∃ i, j = 340 + i := ⟨j - 340, by omega⟩
    rw [kM_340 ⟨by omega, by omega⟩, kC_340 ⟨by omega, by omega⟩]
    have z := hS.2.1 6 i (by decide) (by decide) (by omega) (by omega)
    rw [c_6 m ⟨by omega, by omega⟩, r_6 m ⟨by omega, by omega⟩] at z; exact z.symm
  · obtain ⟨i, rfl⟩ : ∃ i, j = 350 + i := ⟨j - 350, by omega⟩
    rw [kM_350 ⟨by omega, by omega⟩, kC_350 ⟨by omega, by omega⟩]
    have z := hS.2.1 7 i (by decide) (by decide) (by omega) (by omega)
    rw [c_7 m ⟨by omega, by omega⟩, r_7 m ⟨by omega, by omega⟩] at z; exact z.symm
  · obtain ⟨i, rfl⟩ : ∃ i, j = 360 + i := ⟨j - 360, by omega⟩
    rw [kM_360 ⟨by omega, by omega⟩, kC_360 ⟨by omega, by omega⟩]
    have z := hS.2.1 8 i (by decide) (by decide) (by omega) (by omega)
    rw [c_8 m ⟨by omega, by omega⟩, r_8 m ⟨by omega, by omega⟩] at z; exact z.symm
  · obtain ⟨i, rfl⟩ : ∃ i, j = 370 + i := ⟨j - 370, by omega⟩
    rw [kM_370 ⟨by omega, by omega⟩, kC_370 ⟨by omega, by omega⟩]
    have z := hS.2.1 9 i (by decide) (by decide) (by omega) (by omega)
    rw [c_9 m ⟨by omega, by omega⟩, r_9 m ⟨by omega, by omega⟩] at z; exact z.symm
theorem KIV_GS {m : Mem} (hb : (0 ≤ m 8 0 ∧ m 8 0 ≤ 10) ∧ (0 ≤ m 8 1 ∧ m 8 1 ≤ 14) ∧ (0 ≤ m 8 2 ∧ m 8 2 ≤ 5) ∧ (0 ≤ m 8 3 ∧ m 8 3 ≤ 5)) (hV : KVs m) (hI : IV (m 8 0) (m 8 2) (m 8 3) (asC m 15)) (hN : BN (m 8 2) (m 8 3) (asC m 15)) : KIV (m 8 3) (sC m) (m 15 10) (m 15 11) := by
  obtain ⟨v1, v2, v3⟩ := hV
  refine ⟨hb, IV_SE hI (SE_C hb.2.2.1.2 hb.2.2.2.2), fun w w0 w1 => ?_, fun q q0 q1 => ?_, fun p p0 p1 => ?_, fun p ph p0 p1 => ?_, BN_SE hN (SE_C hb.2.2.1.2 hb.2.2.2.2)⟩
  · have w1 : w < m 8 1 := w1
    obtain ⟨-, -, -, -, a, b, c⟩ := v1 w w0 w1
    show (0 ≤ kvC m (100 + w) ∧ kvC m (100 + w) < m 8 0) ∧ (0 ≤ kvC m (120 + w) ∧ kvC m (120 + w) < m 8 0) ∧ kvC m (100 + w) ≠ kvC m (120 + w)
    rw [kC_100 ⟨w0, by omega⟩, kC_120 ⟨w0, by omega⟩]
    exact ⟨a, b, c⟩
  · have q1 : q < m 8 2 := q1
    show 0 ≤ kvC m (230 + q) ∧ kvC m (230 + q) ≤ 9
    rw [kC_230 ⟨q0, by omega⟩]; exact (v2 q q0 q1).2
  · have p1 : p < m 8 3 := p1
    show 0 ≤ kvC m (300 + p) ∧ kvC m (300 + p) ≤ 99
    rw [kC_300 ⟨p0, by omega⟩]; exact (v3 p p0 p1).2
  · have p1 : p < m 8 3 := p1
    omega
/-- and behind it -/
theorem KVs_KE {H0 o nw : Int} {m : Mem} (hb : (0 ≤ m 8 0 ∧ m 8 0 ≤ 10) ∧ (0 ≤ m 8 1 ∧ m 8 1 ≤ 14) ∧ (0 ≤ m 8 2 ∧ m 8 2 ≤ 5) ∧ (0 ≤ m 8 3 ∧ m 8 3 ≤ 5)) (h : KE (sC m) (sK m)) (i : KIV H0 (sC m) o nw) : KVs m := by
  obtain ⟨k3, k4, k5, k6, k7⟩ := h
  obtain ⟨-, -, w, q, p, -, -⟩ := i
  have k3 : m 249 3 = m 8 0 := k3
  have k4 : m 249 4 = m 8 1 := k4
  have k5 : m 249 5 = m 8 2 := k5
  have k6 : m 249 6 = m 8 3 := k6
  have kk : ∀ j, VI (m 8 0) (m 8 1) (m 8 2) (m 8 3) j → kvM m j = kvC m j := fun j hj => by
    rw [← kvR_M (by omega) (by rw [k3, k4, k5, k6]; exact hj)]; exact k7 j hj
  refine ⟨fun w0 a b => ?_, fun q0 a b => ?_, fun p0 a b => ?_⟩
  · have e1 := kk (100 + w0) (VI_k100 a b)
    have e2 := kk (120 + w0) (VI_k120 a b)
    have e3 := kk (140 + w0) (VI_k140 a b)
    have e4 := kk (160 + w0) (VI_k160 a b)
    rw [kM_100 ⟨a, by omega⟩, kC_100 ⟨a, by omega⟩] at e1
    rw [kM_120 ⟨a, by omega⟩, kC_120 ⟨a, by omega⟩] at e2
    rw [kM_140 ⟨a, by omega⟩, kC_140 ⟨a, by omega⟩] at e3
    rw [kM_160 ⟨a, by omega⟩, kC_160 ⟨a, by omega⟩] at e4
    have z := w w0 a b
    have z : (0 ≤ kvC m (100 + w0) ∧ kvC m (100 + w0) < m 8 0) ∧ (0 ≤ kvC m (120 + w0) ∧ kvC m (120 + w0) < m 8 0) ∧ kvC m (100 + w0) ≠ kvC m (120 + w0) := z
    rw [kC_100 ⟨a, by omega⟩, kC_120 ⟨a, by omega⟩] at z
    exact ⟨e1, e2, e3, e4, z.1, z.2.1, z.2.2⟩
  · have e1 := kk (230 + q0) (VI_k230 a b)
    rw [kM_230 ⟨a, by omega⟩, kC_230 ⟨a, by omega⟩] at e1
    have z : 0 ≤ kvC m (230 + q0) ∧ kvC m (230 + q0) ≤ 9 := q q0 a b
    rw [kC_230 ⟨a, by omega⟩] at z
    exact ⟨e1, z⟩
  · have e1 := kk (300 + p0) (VI_k300 a b)
    rw [kM_300 ⟨a, by omega⟩, kC_300 ⟨a, by omega⟩] at e1
    have z : 0 ≤ kvC m (300 + p0) ∧ kvC m (300 + p0) ≤ 99 := p p0 a b
    rw [kC_300 ⟨a, by omega⟩] at z
    exact ⟨e1, z⟩
theorem SE_KE {m : Mem} (hb : (0 ≤ m 8 0 ∧ m 8 0 ≤ 10) ∧ (0 ≤ m 8 1 ∧ m 8 1 ≤ 14) ∧ (0 ≤ m 8 2 ∧ m 8 2 ≤ 5) ∧ (0 ≤ m 8 3 ∧ m 8 3 ≤ 5)) (h : KE (sC m) (sK m)) (ho : m 15 10 = m 258 50) (hn : m 15 11 = m 258 51) : SE (m 8 2) (m 8 3) (asC m 15) (asR m 258 0) := by
  obtain ⟨k3, k4, k5, k6, k7⟩ := h
  have k3 : m 249 3 = m 8 0 := k3
  have k4 : m 249 4 = m 8 1 := k4
  have k5 : m 249 5 = m 8 2 := k5
  have k6 : m 249 6 = m 8 3 := k6
  have kk : KVL (m 8 0) (m 8 1) (m 8 2) (m 8 3) (kvM m) (kvC m) := fun j hj => by
    rw [← kvR_M (by omega) (by rw [k3, k4, k5, k6]; exact hj)]; exact k7 j hj
  have e := SE_M (m := m) (P := m 8 2) (H := m 8 3) hb.2.2.1.2 hb.2.2.2.2
  rw [← ho, ← hn] at e
  exact SE_tr (SE_C hb.2.2.1.2 hb.2.2.2.2) (SE_tr (SE_K kk) (SE_sy e))
/-- who holds a pot, with new pots and people -/
theorem HD_kit {P P' H H' : Int} {x x' : AS} {h h' : Int → Int} (h0 : 0 ≤ H) (hd : HD P H x h) (hP : P ≤ P') (hH : H ≤ H') (hl : ∀ p, 0 ≤ p → p < H → x' 8 p = x 8 p ∧ x 8 p < P) (hn : ∀ p, H ≤ p → 0 ≤ p → p < H' → x' 8 p = -1) (hh : ∀ q, (q < P → h' q = h q) ∧ (P ≤ q → q < P' → h' q = -1)) : HD P' H' x' h' := fun q q0 q1 => by
  by_cases z : q < P
  · obtain ⟨a, b⟩ := hd q q0 z
    rw [(hh q).1 z]
    refine ⟨by omega, fun p p0 p1 => ?_⟩
    by_cases w : p < H
    · rw [(hl p p0 w).1]; exact b p p0 w
    · rw [hn p (by omega) p0 p1]; omega
  · rw [(hh q).2 (by omega) q1]
    refine ⟨by omega, fun p p0 p1 => ?_⟩
    by_cases w : p < H
    · obtain ⟨c, d⟩ := hl p p0 w
      rw [c]; omega
    · rw [hn p (by omega) p0 p1]; omega
theorem sC_lo {m1 m2 : Mem} (e : ∀ x j, x < 249 → m2 x j = m1 x j) : sC m2 = sC m1 := by
  have f : ∀ x, x < 249 → m2 x = m1 x := fun x hx => by funext j; exact e x j hx
  unfold sC
  rw [f 8 (by decide), kvC_e (m := m1) (m' := m2) (by rw [f 8 (by decide)]) (by rw [f 15 (by decide)]) (fun x q => f x (by omega))]
theorem sK_hi {m m1 : Mem} (e : ∀ x j, 249 ≤ x → m1 x j = m x j) : sK m1 = sK m := by
  have f : ∀ x, 249 ≤ x → m1 x = m x := fun x hx => by funext j; exact e x j hx
  unfold sK
  rw [f 249 (by decide), kvR_e (m := m) (m' := m1) (fun x q => f x (by omega)) (fun j _ _ => by rw [f 249 (by decide)])]
/-- what the kitchen's text leaves on both sides -/
theorem GS_kit {R : ENV → Int} {tc : Int} {m m1 m2 : Mem} (hb : (0 ≤ m 8 0 ∧ m 8 0 ≤ 10) ∧ (0 ≤ m 8 1 ∧ m 8 1 ≤ 14) ∧ (0 ≤ m 8 2 ∧ m 8 2 ≤ 5) ∧ (0 ≤ m 8 3 ∧ m 8 3 ≤ 5)) (hb2 : (0 ≤ m2 8 0 ∧ m2 8 0 ≤ 10) ∧ (0 ≤ m2 8 1 ∧ m2 8 1 ≤ 14) ∧ (0 ≤ m2 8 2 ∧ m2 8 2 ≤ 5) ∧ (0 ≤ m2 8 3 ∧ m2 8 3 ≤ 5)) (hT : ∀ j, 0 ≤ j → j < tc → m 260 j = m 3 j) (hX : RK m) (h : GS R m) (h1 : K16 tc m m1) (h2 : K170 tc m1 m2) (hlo : ∀ x j, x < 249 → m2 x j = m1 x j) (hhi : ∀ x j, 249 ≤ x → m1 x j = m x j) : (RK m2 ∧ GS R m2) ∧ ((0 < tc ∧ m2 1 12 = 0 ∧ m2 249 7 = w32 (m 249 7 + 1)) ∨ (m2 1 12 = m 1 12 ∧ m2 249 7 = m 249 7)) := by
  obtain ⟨hV, ⟨hI, hD, hS, hO, hN⟩, ⟨⟨u1, u2, u3, u4, u5⟩, u6⟩, hk, r1, r2⟩ := h
  have hKE := KE_GS hb hX hV hS
  have hKI := KIV_GS hb hV hI hN
  have hit := kit_e (T := m 3) (T' := m 260) (tc := tc) hT hKE
  obtain ⟨c1, cK, cF⟩ := h1
  obtain ⟨c2, c85, c86, cX⟩ := h2
  have e60 : m1 260 = m 260 := by funext j; exact hhi 260 j (by decide)
  rw [e60, sK_hi hhi] at c2
  have e7 : m1 249 7 = m 249 7 := hhi 249 7 (by decide)
  have e39 : m1 249 39 = m 249 39 := hhi 249 39 (by decide)
  rw [e7, e39] at c2
  have eS := sC_lo hlo
  have l8 : ∀ j, m2 8 j = m1 8 j := fun j => hlo 8 j (by decide)
  obtain ⟨⟨n1, n2, n3⟩, cV, cH, cO, cN⟩ := cK
  -- values alike behind it; what was undone and kept
  have key : KE (sC m2) (sK m2) ∧ KIV (m 8 3) (sC m2) (m 15 10) (m 15 11) ∧ m 8 0 ≤ m2 8 0 ∧ ((0 < tc ∧ m2 1 12 = 0 ∧ m2 249 7 = w32 (m 249 7 + 1) ∧ m2 26 9 = 0 ∧ m2 249 39 = 0) ∨ (m2 1 12 = m 1 12 ∧ m2 249 7 = m 249 7 ∧ m2 26 9 = m 26 9 ∧ m2 249 39 = m 249 39 ∧ m2 8 0 = m 8 0 ∧ m2 8 1 = m 8 1 ∧ m2 8 2 = m 8 2 ∧ m2 8 3 = m 8 3)) := by
    rw [eS]
    rcases c1 with ⟨t0, q1, q2, q3, q4⟩ | ⟨q1, ⟨q2, q3, q4, q5⟩, q6, q7⟩
    · rcases hit with ⟨z, -⟩ | ⟨r, r', z1, z2, z3⟩
      · rw [q1] at z; exact absurd z (by simp)
      · rw [q1] at z1
        have er := Option.some.inj z1
        subst er
        rcases c2 with ⟨-, ⟨s, s1, s2⟩, s3, s4⟩ | ⟨s1, -⟩
        · rw [z2] at s1
          have es := Option.some.inj s1
          subst es
          exact ⟨KE_tr z3 s2, kit_I hKI q1, by rw [l8]; exact q4, Or.inl ⟨t0, (hlo 1 12 (by decide)).trans q2, s3, (hlo 26 9 (by decide)).trans q3, s4⟩⟩
        · rcases s1 with s1 | s1
          · omega
          · rw [z2] at s1; exact absurd s1 (by simp)
    · have hE1 : KE (sC m) (sC m1) := ⟨q2, q3, q4, q5, cV⟩
      rcases c2 with ⟨t0, ⟨s, s1, s2⟩, -⟩ | ⟨-, s2, s3, s4⟩
      · rcases q1 with q1 | q1
        · omega
        · rcases hit with ⟨-, z⟩ | ⟨r, r', z1, z2, z3⟩
          · rw [s1] at z; exact absurd z (by simp)
          · rw [q1] at z1; exact absurd z1 (by simp)
      · exact ⟨KE_tr (KE_sy hE1) (KE_tr hKE s2), KIV_E hKI hE1, by rw [l8, q2]; exact Int.le_refl _, Or.inr ⟨(hlo 1 12 (by decide)).trans q6, s3, (hlo 26 9 (by decide)).trans q7, s4, by rw [l8]; exact q2, by rw [l8]; exact q3, by rw [l8]; exact q4, by rw [l8]; exact q5⟩⟩
  obtain ⟨kE, kI, kL, kU⟩ := key
  have m10 : m2 15 10 = m 15 10 := (hlo 15 10 (by decide)).trans cO
  have m11 : m2 15 11 = m 15 11 := (hlo 15 11 (by decide)).trans cN
  have hop : m 15 10 = m 258 50 := by have z := hS.2.2.1; rw [c_op, r_op] at z; exact z
  have hno : m 15 11 = m 258 51 := by have z := hS.2.2.2; rw [c_no, r_no] at z; exact z
  have x50 : m2 258 50 = m 258 50 := (cX 258 50 (by unfold KFx; omega) (by decide)).trans (hhi 258 50 (by decide))
  have x51 : m2 258 51 = m 258 51 := (cX 258 51 (by unfold KFx; omega) (by decide)).trans (hhi 258 51 (by decide))
  have hS2 := SE_KE hb2 kE (by rw [m10, x50]; exact hop) (by rw [m11, x51]; exact hno)
  have hI2 : IV (m2 8 0) (m2 8 2) (m2 8 3) (asC m2 15) := by
    have z := SE_C (m := m2) (P := m2 8 2) (H := m2 8 3) hb2.2.2.1.2 hb2.2.2.2.2
    rw [m10, m11] at z
    exact IV_SE kI.2.1 (SE_sy z)
  have hN2 : BN (m2 8 2) (m2 8 3) (asC m2 15) := by
    have z := SE_C (m := m2) (P := m2 8 2) (H := m2 8 3) hb2.2.2.1.2 hb2.2.2.2.2
    rw [m10, m11] at z
    exact BN_SE kI.2.2.2.2.2.2 (SE_sy z)
  have ld : ∀ p, 0 ≤ p → p < m 8 3 → asC m2 15 8 p = asC m 15 8 p := fun p p0 p1 => by
    have z := cV (360 + p) (VI_k360 p0 p1)
    rw [kC_360 ⟨p0, by omega⟩, kC_360 ⟨p0, by omega⟩] at z
    rw [c_8 m2 ⟨p0, by omega⟩, c_8 m ⟨p0, by omega⟩, hlo 23 p (by decide)]; exact z
  have hD2 : HD (m2 8 2) (m2 8 3) (asC m2 15) (m2 18) := HD_kit (by omega) hD (by rw [l8]; exact n2) (by rw [l8]; exact n3) (fun p p0 p1 => ⟨ld p p0 p1, (hI.1 p p0 p1).1.2⟩) (fun p ph p0 p1 => by
    have z := kI.2.2.2.2.2.1 p ph p0 p1
    have z : kvC m2 (360 + p) = -1 := z
    rw [kC_360 ⟨p0, by omega⟩] at z
    rw [c_8 m2 ⟨p0, by omega⟩]; exact z) (fun q => ⟨fun z => (hlo 18 q (by decide)).trans ((cH q).1 z), fun z w => (hlo 18 q (by decide)).trans ((cH q).2 z (by rw [← l8]; exact w))⟩)
  have hO2 : DB (m2 8 1) (m2 15 10) := fun w w0 w1 => by rw [m10]; exact hO w (by rw [l8] at w0; omega) w1
  have kR : RK m2 := ⟨kE.1, kE.2.1, kE.2.2.1, kE.2.2.2.1, fun j j0 j1 => by
    have z := kE.2.2.2.2 j (Or.inl ⟨j0, j1⟩)
    have z : kvR m2 j = kvC m2 j := z
    rw [kvR_M (by have a := kE.1; have b := kE.2.1; have c := kE.2.2.1; have d := kE.2.2.2.1; have a : m2 249 3 = m2 8 0 := a; have b : m2 249 4 = m2 8 1 := b; have c : m2 249 5 = m2 8 2 := c; have d : m2 249 6 = m2 8 3 := d; omega) (Or.inl ⟨j0, by have a : m2 249 3 = m2 8 0 := kE.1; omega⟩)] at z
    unfold kvM kvC at z
    rw [if_pos (by omega), if_pos (by omega), Int.sub_zero] at z
    exact z⟩
  have g65 : ∀ j, m2 265 j = m 265 j := fun j => (cX 265 j (by unfold KFx; omega) (by omega)).trans (hhi 265 j (by decide))
  have g32 : m2 249 32 = m 249 32 := (cX 249 32 (by unfold KFx; omega) (by omega)).trans (hhi 249 32 (by decide))
  have cl : ∀ x j, (x < 8 ∨ 24 < x) → x < 249 → x ≠ 2 → ¬ (x = 1 ∧ j = 12) → ¬ (x = 26 ∧ j = 9) → m2 x j = m x j := fun x j q q1 q2 q3 q4 => (hlo x j q1).trans (cF x q2 q j q3 q4)
  refine ⟨⟨kR, KVs_KE hb2 kE kI, ⟨hI2, hD2, hS2, hO2, hN2⟩, ⟨?_, fun i i0 i1 => ?_⟩, fun i i0 i1 z => ?_, RuC_fr r1 (cl 4 1 (by omega) (by decide) (by decide) (by decide) (by decide)) (fun j => cl 5 j (by omega) (by decide) (by decide) (by omega) (by omega)), RuR_fr r2 g32 g65⟩, ?_⟩
  · have z8 := cl 26 8 (by omega) (by decide) (by decide) (by decide) (by decide)
    rw [z8]
    rcases kU with ⟨-, -, -, a, b⟩ | ⟨-, -, a, b, -⟩
    · rw [a, b]; omega
    · rw [a, b]; omega
  · have z8 := cl 26 8 (by omega) (by decide) (by decide) (by decide) (by decide)
    rcases kU with ⟨-, -, -, a, b⟩ | ⟨-, -, a, b, d0, d1, d2, d3⟩
    · rw [a] at i1; omega
    · rw [a] at i1
      rw [d0, d1, d2, d3, z8]
      exact OKS_tr hb.2.2.1.2 hb.2.2.2.2 (u6 i i0 i1) (SE_st (fun x j x0 x1 => cl x j (by omega) (by omega) (by omega) (by omega) (by omega))) (fun j _ _ => cl _ j (by omega) (by omega) (by omega) (by omega) (by omega)) (SE_rw (fun y _ _ => (cX 269 _ (by unfold KFx; omega) (by omega)).trans (hhi 269 _ (by decide))))
  · rcases kU with ⟨-, a, -⟩ | ⟨a, -, -, -, d0, d1, d2, d3⟩
    · rw [a] at z; exact absurd ((kbit0 i).resolve_right (by omega)) z
    · rw [a] at z
      rw [d0, d1, d2, d3]
      exact OKS_tr hb.2.2.1.2 hb.2.2.2.2 (hk i i0 i1 z) (SE_st (fun x j x0 x1 => cl x j (by omega) (by omega) (by omega) (by omega) (by omega))) (fun j _ _ => cl _ j (by omega) (by omega) (by omega) (by omega) (by omega)) (SE_rw (fun y _ _ => (cX 287 _ (by unfold KFx; omega) (by omega)).trans (hhi 287 _ (by decide))))
  · rcases kU with ⟨t0, a, b, -⟩ | ⟨a, b, -⟩
    · exact Or.inl ⟨t0, a, b⟩
    · exact Or.inr ⟨a, b⟩
