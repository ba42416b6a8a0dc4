/-! the component's lines, by the pure reading -/
/-- all that THE KITCHEN tells, in one function (the component's) -/
def kvC (m : Mem) : Int → Int := fun j =>
  if j < 100 then m 9 j else if j < 120 then m 10 (j - 100) else if j < 140 then m 11 (j - 120) else if j < 160 then m 12 (j - 140)
  else if j < 200 then (if j < 174 then iand (ishr (m 8 8) (j - 160)) 1 else 0)
  else if j < 210 then m 16 (j - 200) else if j < 220 then m 17 (j - 210)
  else if j < 230 then (if j < 225 then iand (ishr (m 15 3) (j - 220)) 1 else 0)
  else if j < 300 then m 13 (j - 230) else if j < 310 then m 14 (j - 300) else if j < 320 then m 19 (j - 310)
  else if j < 330 then m 20 (2 * (j - 320)) else if j < 340 then m 20 (2 * (j - 330) + 1)
  else if j < 350 then m 21 (j - 340) else if j < 360 then m 22 (j - 350) else if j < 370 then m 23 (j - 360) else m 24 (j - 370)
theorem kvC_e {m m' : Mem} (e8 : m' 8 8 = m 8 8) (e15 : m' 15 3 = m 15 3) (e : ∀ x, (9 ≤ x ∧ x ≤ 14) ∨ (16 ≤ x ∧ x ≤ 24 ∧ x ≠ 18) → m' x = m x) : kvC m' = kvC m := by
  unfold kvC
  rw [e8, e15, e 9 (by omega), e 10 (by omega), e 11 (by omega), e 12 (by omega), e 13 (by omega), e 14 (by omega), e 16 (by omega), e 17 (by omega), e 19 (by omega), e 20 (by omega), e 21 (by omega), e 22 (by omega), e 23 (by omega), e 24 (by omega)]
theorem bit_set {d w j x b : Int} (hw : 0 ≤ w ∧ w < 32) (hj : 0 ≤ j ∧ j < 32) (hx : x = ishl 1 w ∧ b = 1 ∨ x = 0 ∧ b = 0) : iand (ishr (ior (iand d (ixor (ishl 1 w) (-1))) x) j) 1 = if j = w then b else iand (ishr d j) 1 := by
  obtain ⟨n, rfl⟩ : ∃ n : Nat, w = n := ⟨w.toNat, by omega⟩
  obtain ⟨i, rfl⟩ : ∃ n : Nat, j = n := ⟨j.toNat, by omega⟩
  rw [bit_ask (by omega), bit_ask (by omega), tb_or, tb_and, tb_xor, tb_bit (by omega) (by omega), tb_m1 (by omega)]
  have hxb : tb x i = (if b = 1 then decide (i = n) else false) := by
    rcases hx with ⟨rfl, rfl⟩ | ⟨rfl, rfl⟩
    · rw [tb_bit (by omega) (by omega)]; simp
    · rw [tb_0]; simp
  rw [hxb]
  by_cases h : i = n
  · subst h
    rw [if_pos rfl]
    rcases hx with ⟨-, rfl⟩ | ⟨-, rfl⟩ <;> simp
  · rw [if_neg (show ¬ ((i : Int) = n) by omega)]
    simp [h]
theorem bit_clr {d w j : Int} (hw : 0 ≤ w ∧ w < 32) (hj : 0 ≤ j ∧ j < 32) : iand (ishr (iand d (ixor (ishl 1 w) (-1))) j) 1 = if j = w then 0 else iand (ishr d j) 1 := by
  obtain ⟨n, rfl⟩ : ∃ n : Nat, w = n := ⟨w.toNat, by omega⟩
  obtain ⟨i, rfl⟩ : ∃ n : Nat, j = n := ⟨j.toNat, by omega⟩
  rw [bit_ask (by omega), bit_ask (by omega), tb_and, tb_xor, tb_bit (by omega) (by omega), tb_m1 (by omega)]
  by_cases h : i = n
  · subst h; simp
  · rw [if_neg (show ¬ ((i : Int) = n) by omega)]
    simp [h]
theorem kvC_P (m : Mem) {i v x : Int} (hi : 0 ≤ i ∧ i < 10) : kvC (upm (upm m 9 i v) 8 0 x) = kup (kvC m) i v := by
  funext j
  unfold kvC kup
  simp only [upm_app, Int.reduceEq, and_true, true_and, and_false, false_and, if_false]
  by_cases h : j = i
  · rw [if_pos h, if_pos (by omega), if_pos h]
  · rw [if_neg h, if_neg h]
theorem kvC_W (m : Mem) {w a b l dd oo x u y : Int} (hw : 0 ≤ w ∧ w < 14) (hd : dd = ior (iand (m 8 8) (ixor (ishl 1 w) (-1))) y) (hy : y = ishl 1 w ∧ u = 1 ∨ y = 0 ∧ u = 0) : kvC (upm (upm (upm (upm (upm (upm m 10 w a) 11 w b) 12 w l) 8 8 dd) 15 10 oo) 8 1 x) = vW (kvC m) w a b l u := by
  subst hd
  funext j
  unfold kvC vW kup
  simp only [upm_app, Int.reduceEq, and_true, true_and, and_false, false_and, if_true, if_false]
  by_cases h1 : j < 100
  · rw [if_pos h1, if_pos h1, if_neg (by omega), if_neg (by omega), if_neg (by omega), if_neg (by omega)]
  rw [if_neg h1, if_neg h1]
  by_cases h2 : j < 120
  · rw [if_pos h2, if_pos h2, if_neg (show ¬ j = 160 + w by omega), if_neg (show ¬ j = 140 + w by omega), if_neg (show ¬ j = 120 + w by omega)]
    by_cases z : j = 100 + w
    · rw [if_pos (by omega), if_pos z]
    · rw [if_neg (by omega), if_neg z]
  rw [if_neg h2, if_neg h2]
  by_cases h3 : j < 140
  · rw [if_pos h3, if_pos h3, if_neg (show ¬ j = 160 + w by omega), if_neg (show ¬ j = 140 + w by omega), if_neg (show ¬ j = 100 + w by omega)]
    by_cases z : j = 120 + w
    · rw [if_pos (by omega), if_pos z]
    · rw [if_neg (by omega), if_neg z]
  rw [if_neg h3, if_neg h3]
  by_cases h4 : j < 160
  · rw [if_pos h4, if_pos h4, if_neg (show ¬ j = 160 + w by omega), if_neg (show ¬ j = 120 + w by omega), if_neg (show ¬ j = 100 + w by omega)]
    by_cases z : j = 140 + w
    · rw [if_pos (by omega), if_pos z]
    · rw [if_neg (by omega), if_neg z]
  rw [if_neg h4, if_neg h4]
  by_cases h5 : j < 200
  · rw [if_pos h5, if_pos h5, if_neg (show ¬ j = 140 + w by omega), if_neg (show ¬ j = 120 + w by omega), if_neg (show ¬ j = 100 + w by omega)]
    by_cases h6 : j < 174
    · rw [if_pos h6, if_pos h6, bit_set ⟨hw.1, by omega⟩ ⟨by omega, by omega⟩ hy]
      by_cases z : j = 160 + w
      · rw [if_pos (by omega), if_pos z]
      · rw [if_neg (by omega), if_neg z]
    · rw [if_neg h6, if_neg h6, if_neg (by omega)]
  rw [if_neg h5, if_neg h5, if_neg (show ¬ j = 160 + w by omega), if_neg (show ¬ j = 140 + w by omega), if_neg (show ¬ j = 120 + w by omega), if_neg (show ¬ j = 100 + w by omega)]
theorem kvC_O (m : Mem) {q h l c dd x : Int} (hq : 0 ≤ q ∧ q < 5) (hd : dd = iand (m 15 3) (ixor (ishl 1 q) (-1))) : kvC (upm (upm (upm (upm (upm (upm m 13 q c) 16 q h) 17 q l) 18 q (-1)) 15 3 dd) 8 2 x) = vO (kvC m) q h l c := by
  subst hd
  funext j
  unfold kvC vO kup
  simp only [upm_app, Int.reduceEq, and_true, true_and, and_false, false_and, if_true, if_false]
  by_cases h5 : j < 200
  · rw [if_neg (show ¬ j = 230 + q by omega), if_neg (show ¬ j = 220 + q by omega), if_neg (show ¬ j = 210 + q by omega), if_neg (show ¬ j = 200 + q by omega)]
    simp only [h5, if_true]
  simp only [show ¬ j < 100 by omega, show ¬ j < 120 by omega, show ¬ j < 140 by omega, show ¬ j < 160 by omega, h5, if_false]
  by_cases h6 : j < 210
  · rw [if_pos h6, if_pos h6, if_neg (show ¬ j = 230 + q by omega), if_neg (show ¬ j = 220 + q by omega), if_neg (show ¬ j = 210 + q by omega)]
    by_cases z : j = 200 + q
    · rw [if_pos (by omega), if_pos z]
    · rw [if_neg (by omega), if_neg z]
  rw [if_neg h6, if_neg h6]
  by_cases h7 : j < 220
  · rw [if_pos h7, if_pos h7, if_neg (show ¬ j = 230 + q by omega), if_neg (show ¬ j = 220 + q by omega), if_neg (show ¬ j = 200 + q by omega)]
    by_cases z : j = 210 + q
    · rw [if_pos (by omega), if_pos z]
    · rw [if_neg (by omega), if_neg z]
  rw [if_neg h7, if_neg h7]
  by_cases h8 : j < 230
  · rw [if_pos h8, if_pos h8, if_neg (show ¬ j = 230 + q by omega), if_neg (show ¬ j = 210 + q by omega), if_neg (show ¬ j = 200 + q by omega)]
    by_cases h9 : j < 225
    · rw [if_pos h9, if_pos h9, bit_clr ⟨hq.1, by omega⟩ ⟨by omega, by omega⟩]
      by_cases z : j = 220 + q
      · rw [if_pos (by omega), if_pos z]
      · rw [if_neg (by omega), if_neg z]
    · rw [if_neg h9, if_neg h9, if_neg (by omega)]
  rw [if_neg h8, if_neg h8]
  by_cases h9 : j < 300
  · rw [if_pos h9, if_pos h9, if_neg (show ¬ j = 220 + q by omega), if_neg (show ¬ j = 210 + q by omega), if_neg (show ¬ j = 200 + q by omega)]
    by_cases z : j = 230 + q
    · rw [if_pos (by omega), if_pos z]
    · rw [if_neg (by omega), if_neg z]
  rw [if_neg h9, if_neg h9, if_neg (show ¬ j = 230 + q by omega), if_neg (show ¬ j = 220 + q by omega), if_neg (show ¬ j = 210 + q by omega), if_neg (show ¬ j = 200 + q by omega)]
theorem kvC_H (m : Mem) {p b l w0 w1 x : Int} (hp : 0 ≤ p ∧ p < 5) (h0 : w0 = 2 * p) (h1 : w1 = 2 * p + 1) : kvC (upm (upm (upm (upm (upm (upm (upm (upm (upm m 14 p b) 19 p l) 20 w0 0) 20 w1 0) 21 p 0) 22 p 0) 23 p (-1)) 24 p 0) 8 3 x) = vH (kvC m) p b l := by
  subst h0 h1
  funext j
  unfold kvC vH kup
  simp only [upm_app, Int.reduceEq, and_true, true_and, and_false, false_and, if_true, if_false]
  by_cases h5 : j < 300
  · rw [if_neg (show ¬ j = 370 + p by omega), if_neg (show ¬ j = 360 + p by omega), if_neg (show ¬ j = 350 + p by omega), if_neg (show ¬ j = 340 + p by omega), if_neg (show ¬ j = 330 + p by omega), if_neg (show ¬ j = 320 + p by omega), if_neg (show ¬ j = 310 + p by omega), if_neg (show ¬ j = 300 + p by omega)]
    simp only [h5, if_true]
  simp only [show ¬ j < 100 by omega, show ¬ j < 120 by omega, show ¬ j < 140 by omega, show ¬ j < 160 by omega, show ¬ j < 200 by omega, show ¬ j < 210 by omega, show ¬ j < 220 by omega, show ¬ j < 230 by omega, h5, if_false]
  by_cases z1 : j = 370 + p
  · subst z1
    simp only [show ¬ 370 + p < 310 by omega, show ¬ 370 + p < 320 by omega, show ¬ 370 + p < 330 by omega, show ¬ 370 + p < 340 by omega, show ¬ 370 + p < 350 by omega, show ¬ 370 + p < 360 by omega, show ¬ 370 + p < 370 by omega, if_false, if_true]
    rw [if_pos (by omega)]
  rw [if_neg z1]
  by_cases z2 : j = 360 + p
  · subst z2
    simp only [show ¬ 360 + p < 310 by omega, show ¬ 360 + p < 320 by omega, show ¬ 360 + p < 330 by omega, show ¬ 360 + p < 340 by omega, show ¬ 360 + p < 350 by omega, show ¬ 360 + p < 360 by omega, show 360 + p < 370 by omega, if_false, if_true]
    rw [if_pos (by omega)]
  rw [if_neg z2]
  by_cases z3 : j = 350 + p
  · subst z3
    simp only [show ¬ 350 + p < 310 by omega, show ¬ 350 + p < 320 by omega, show ¬ 350 + p < 330 by omega, show ¬ 350 + p < 340 by omega, show ¬ 350 + p < 350 by omega, show 350 + p < 360 by omega, if_false, if_true]
    rw [if_pos (by omega)]
  rw [if_neg z3]
  by_cases z4 : j = 340 + p
  · subst z4
    simp only [show ¬ 340 + p < 310 by omega, show ¬ 340 + p < 320 by omega, show ¬ 340 + p < 330 by omega, show ¬ 340 + p < 340 by omega, show 340 + p < 350 by omega, if_false, if_true]
    rw [if_pos (by omega)]
  rw [if_neg z4]
  by_cases z5 : j = 330 + p
  · subst z5
    simp only [show ¬ 330 + p < 310 by omega, show ¬ 330 + p < 320 by omega, show ¬ 330 + p < 330 by omega, show 330 + p < 340 by omega, if_false, if_true]
    rw [if_pos (by omega)]
  rw [if_neg z5]
  by_cases z6 : j = 320 + p
  · subst z6
    simp only [show ¬ 320 + p < 310 by omega, show ¬ 320 + p < 320 by omega, show 320 + p < 330 by omega, if_false, if_true]
    rw [if_neg (by omega), if_pos (by omega)]
  rw [if_neg z6]
  by_cases z7 : j = 310 + p
  · subst z7
    simp only [show ¬ 310 + p < 310 by omega, show 310 + p < 320 by omega, if_false, if_true]
    rw [if_pos (by omega)]
  rw [if_neg z7]
  by_cases z8 : j = 300 + p
  · subst z8
    simp only [show 300 + p < 310 by omega, if_true]
    rw [if_pos (by omega)]
  rw [if_neg z8]
  by_cases y1 : j < 310
  · simp only [y1, if_true]; rw [if_neg (by omega)]
  by_cases y2 : j < 320
  · simp only [y1, y2, if_true, if_false]; rw [if_neg (by omega)]
  by_cases y3 : j < 330
  · simp only [y1, y2, y3, if_true, if_false]; rw [if_neg (by omega), if_neg (by omega)]
  by_cases y4 : j < 340
  · simp only [y1, y2, y3, y4, if_true, if_false]; rw [if_neg (by omega), if_neg (by omega)]
  by_cases y5 : j < 350
  · simp only [y1, y2, y3, y4, y5, if_true, if_false]; rw [if_neg (by omega)]
  by_cases y6 : j < 360
  · simp only [y1, y2, y3, y4, y5, y6, if_true, if_false]; rw [if_neg (by omega)]
  by_cases y7 : j < 370
  · simp only [y1, y2, y3, y4, y5, y6, y7, if_true, if_false]; rw [if_neg (by omega)]
  · simp only [y1, y2, y3, y4, y5, y6, y7, if_false]; rw [if_neg (by omega)]
/-- no bit of a way that isn't there -/
def OB (m : Mem) : Prop := ∀ w, m 8 1 ≤ w → w < 14 → iand (m 15 10) (ixor (ishl 1 w) (-1)) = m 15 10
/-- what a line leaves of what was told -/
def CK (m m' : Mem) : Prop := (m 8 1 ≤ m' 8 1 ∧ m 8 2 ≤ m' 8 2 ∧ m 8 3 ≤ m' 8 3) ∧ KVL (m 8 0) (m 8 1) (m 8 2) (m 8 3) (kvC m') (kvC m) ∧ (∀ q, (q < m 8 2 → m' 18 q = m 18 q) ∧ (m 8 2 ≤ q → q < m' 8 2 → m' 18 q = -1)) ∧ m' 15 10 = m 15 10 ∧ m' 15 11 = m 15 11
theorem CK_rf (m : Mem) : CK m m := ⟨⟨Int.le_refl _, Int.le_refl _, Int.le_refl _⟩, fun _ _ => rfl, fun q => ⟨fun _ => rfl, fun h1 h2 => absurd h2 (by omega)⟩, rfl, rfl⟩
theorem kvC_2 (m : Mem) (j v : Int) : kvC (upm m 2 j v) = kvC m := kvC_e (upm_a _ _ _ _ _ _ (by decide)) (upm_a _ _ _ _ _ _ (by decide)) (fun x h => upm_f _ _ _ _ _ (by omega))
theorem CK_2 {m m' : Mem} {j v : Int} (h : CK m m') : CK m (upm m' 2 j v) := by
  obtain ⟨⟨a, b, c⟩, d, e, f, g⟩ := h
  refine ⟨⟨?_, ?_, ?_⟩, ?_, fun q => ?_, ?_, ?_⟩
  · rw [upm_f _ _ _ _ _ (by decide)]; exact a
  · rw [upm_f _ _ _ _ _ (by decide)]; exact b
  · rw [upm_f _ _ _ _ _ (by decide)]; exact c
  · rw [kvC_2]; exact d
  · rw [upm_f _ _ _ _ _ (by decide), upm_f _ _ _ _ _ (by decide)]; exact e q
  · rw [upm_f _ _ _ _ _ (by decide)]; exact f
  · rw [upm_f _ _ _ _ _ (by decide)]; exact g
theorem CK_tr {m m1 m2 : Mem} (h : CK m m1) (h2 : CK m1 m2) (h0 : m 8 0 ≤ m1 8 0) : CK m m2 := by
  obtain ⟨⟨a, b, c⟩, d, e, f, g⟩ := h
  obtain ⟨⟨a', b', c'⟩, d', e', f', g'⟩ := h2
  refine ⟨⟨by omega, by omega, by omega⟩, fun j hj => (d' j (VI_mono (by omega) (by omega) (by omega) (by omega) hj)).trans (d j hj), fun q => ⟨fun z => ((e' q).1 (by omega)).trans ((e q).1 z), fun z w => ?_⟩, f'.trans f, g'.trans g⟩
  by_cases y : q < m1 8 2
  · exact ((e' q).1 y).trans ((e q).2 z y)
  · exact (e' q).2 (by omega) w
theorem CK_P {m : Mem} {v x : Int} (hp : 0 ≤ m 8 0 ∧ m 8 0 < 10) : CK m (upm (upm m 9 (m 8 0) v) 8 0 x) := by
  refine ⟨⟨?_, ?_, ?_⟩, ?_, fun q => ⟨fun _ => ?_, fun z w => ?_⟩, ?_, ?_⟩
  · rw [upm_k (by decide), upm_f _ _ _ _ _ (by decide)]; omega
  · rw [upm_k (by decide), upm_f _ _ _ _ _ (by decide)]; omega
  · rw [upm_k (by decide), upm_f _ _ _ _ _ (by decide)]; omega
  · rw [kvC_P m hp]
    intro j hj
    unfold kup
    rw [if_neg (by unfold VI at hj; omega)]
  · rw [upm_f _ _ _ _ _ (by decide), upm_f _ _ _ _ _ (by decide)]
  · rw [upm_k (by decide), upm_f _ _ _ _ _ (by decide)] at w; omega
  · rw [upm_f _ _ _ _ _ (by decide), upm_f _ _ _ _ _ (by decide)]
  · rw [upm_f _ _ _ _ _ (by decide), upm_f _ _ _ _ _ (by decide)]
theorem CK_W {m : Mem} {a b l dd oo x u y : Int} (hs : m 8 0 ≤ 10 ∧ m 8 2 ≤ 5 ∧ m 8 3 ≤ 5) (hw : 0 ≤ m 8 1 ∧ m 8 1 < 14) (hd : dd = ior (iand (m 8 8) (ixor (ishl 1 (m 8 1)) (-1))) y) (hy : y = ishl 1 (m 8 1) ∧ u = 1 ∨ y = 0 ∧ u = 0) (ho : oo = m 15 10) (hx : x = m 8 1 + 1) : CK m (upm (upm (upm (upm (upm (upm m 10 (m 8 1) a) 11 (m 8 1) b) 12 (m 8 1) l) 8 8 dd) 15 10 oo) 8 1 x) := by
  refine ⟨⟨?_, ?_, ?_⟩, ?_, fun q => ⟨fun _ => ?_, fun z w => ?_⟩, ?_, ?_⟩
  · rw [upm_v]; omega
  · simp only [upm_app, Int.reduceEq, and_true, true_and, and_false, false_and, if_true, if_false]; omega
  · simp only [upm_app, Int.reduceEq, and_true, true_and, and_false, false_and, if_true, if_false]; omega
  · rw [kvC_W m hw hd hy]
    intro j hj
    unfold vW kup
    rw [if_neg (by unfold VI at hj; omega), if_neg (by unfold VI at hj; omega), if_neg (by unfold VI at hj; omega), if_neg (by unfold VI at hj; omega)]
  · simp only [upm_app, Int.reduceEq, and_true, true_and, and_false, false_and, if_true, if_false]
  · simp only [upm_app, Int.reduceEq, and_true, true_and, and_false, false_and, if_true, if_false] at w; omega
  · simp only [upm_app, Int.reduceEq, and_true, true_and, and_false, false_and, if_true, if_false, and_self]; exact ho
  · simp only [upm_app, Int.reduceEq, and_true, true_and, and_false, false_and, if_true, if_false]
theorem CK_O {m : Mem} {h l c dd x : Int} (hs : m 8 0 ≤ 10 ∧ m 8 1 ≤ 14 ∧ m 8 3 ≤ 5) (hq : 0 ≤ m 8 2 ∧ m 8 2 < 5) (hd : dd = iand (m 15 3) (ixor (ishl 1 (m 8 2)) (-1))) (hx : x = m 8 2 + 1) : CK m (upm (upm (upm (upm (upm (upm m 13 (m 8 2) c) 16 (m 8 2) h) 17 (m 8 2) l) 18 (m 8 2) (-1)) 15 3 dd) 8 2 x) := by
  refine ⟨⟨?_, ?_, ?_⟩, ?_, fun q => ⟨fun z => ?_, fun z w => ?_⟩, ?_, ?_⟩
  · simp only [upm_app, Int.reduceEq, and_true, true_and, and_false, false_and, if_true, if_false]; omega
  · rw [upm_v]; omega
  · simp only [upm_app, Int.reduceEq, and_true, true_and, and_false, false_and, if_true, if_false]; omega
  · rw [kvC_O m hq hd]
    intro j hj
    unfold vO kup
    rw [if_neg (by unfold VI at hj; omega), if_neg (by unfold VI at hj; omega), if_neg (by unfold VI at hj; omega), if_neg (by unfold VI at hj; omega)]
  · simp only [upm_app, Int.reduceEq, and_true, true_and, and_false, false_and, if_true, if_false]; rw [if_neg (by omega)]
  · rw [upm_v] at w
    simp only [upm_app, Int.reduceEq, and_true, true_and, and_false, false_and, if_true, if_false]; rw [if_pos (by omega)]
  · simp only [upm_app, Int.reduceEq, and_true, true_and, and_false, false_and, if_true, if_false]
  · simp only [upm_app, Int.reduceEq, and_true, true_and, and_false, false_and, if_true, if_false]
theorem CK_H {m : Mem} {b l w0 w1 x : Int} (hs : m 8 0 ≤ 10 ∧ m 8 1 ≤ 14 ∧ m 8 2 ≤ 5) (hp : 0 ≤ m 8 3 ∧ m 8 3 < 5) (h0 : w0 = 2 * m 8 3) (h1 : w1 = 2 * m 8 3 + 1) (hx : x = m 8 3 + 1) : CK m (upm (upm (upm (upm (upm (upm (upm (upm (upm m 14 (m 8 3) b) 19 (m 8 3) l) 20 w0 0) 20 w1 0) 21 (m 8 3) 0) 22 (m 8 3) 0) 23 (m 8 3) (-1)) 24 (m 8 3) 0) 8 3 x) := by
  refine ⟨⟨?_, ?_, ?_⟩, ?_, fun q => ⟨fun z => ?_, fun z w => ?_⟩, ?_, ?_⟩
  · simp only [upm_app, Int.reduceEq, and_true, true_and, and_false, false_and, if_true, if_false]; omega
  · simp only [upm_app, Int.reduceEq, and_true, true_and, and_false, false_and, if_true, if_false]; omega
  · rw [upm_v]; omega
  · rw [kvC_H m hp h0 h1]
    intro j hj
    unfold vH kup
    rw [if_neg (by unfold VI at hj; omega), if_neg (by unfold VI at hj; omega), if_neg (by unfold VI at hj; omega), if_neg (by unfold VI at hj; omega), if_neg (by unfold VI at hj; omega), if_neg (by unfold VI at hj; omega), if_neg (by unfold VI at hj; omega), if_neg (by unfold VI at hj; omega)]
  · simp only [upm_app, Int.reduceEq, and_true, true_and, and_false, false_and, if_true, if_false]
  · simp only [upm_app, Int.reduceEq, and_true, true_and, and_false, false_and, if_true, if_false] at w; omega
  · simp only [upm_app, Int.reduceEq, and_true, true_and, and_false, false_and, if_true, if_false]
  · simp only [upm_app, Int.reduceEq, and_true, true_and, and_false, false_and, if_true, if_false]
/-- all but the text's place, THE KITCHEN and the state stands -/
def FZ (m m' : Mem) : Prop := ∀ x, x ≠ 2 → (x < 8 ∨ 24 < x) → m' x = m x
def sC (m : Mem) : KS := (m 8 0, m 8 1, m 8 2, m 8 3, kvC m)
abbrev CP (o : Option (KS × Int)) (m m' : Mem) : Prop := ((m' 2 5 = 0 ∧ o = some (sC m', m' 2 4) ∧ m' 2 4 ≤ m 2 2) ∨ (m' 2 5 ≠ 0 ∧ o = none)) ∧ (0 ≤ m' 2 4 ∧ m' 2 4 ≤ 80) ∧ m' 3 = m 3 ∧ m' 2 2 = m 2 2 ∧ m' 2 3 = m 2 3 ∧ m 8 0 ≤ m' 8 0 ∧ CK m m' ∧ FZ m m'
theorem some_e {a a' : KS} {p p' : Int} (h1 : a.1 = a'.1) (h2 : a.2.1 = a'.2.1) (h3 : a.2.2.1 = a'.2.2.1) (h4 : a.2.2.2.1 = a'.2.2.2.1) (h5 : a.2.2.2.2 = a'.2.2.2.2) (h6 : p = p') : some (a, p) = some (a', p') := by
  obtain ⟨a1, a2, a3, a4, a5⟩ := a
  obtain ⟨b1, b2, b3, b4, b5⟩ := a'
  simp only at h1 h2 h3 h4 h5
  subst h1 h2 h3 h4 h5 h6
  rfl
