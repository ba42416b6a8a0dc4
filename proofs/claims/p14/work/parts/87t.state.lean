/-! states as functions of field and index: 0 heat 1 lies 2 dropped 3 at 4, 5 hands' warmth 6 hand 7 fold 8 load 9 burnt; 10: doors, now; 11: burnings, who, fallen -/
abbrev AS : Type := Int → Int → Int
def asC (m : Mem) (s : Int) : AS := fun f j =>
  if f = 11 then (if 0 ≤ j ∧ j < 3 then m 26 (4 + j) else 0)
  else if f = 10 then (if 0 ≤ j ∧ j < 2 then m s (10 + j) else 0)
  else if 0 ≤ j ∧ j < 5 then (if f = 0 then m (s + 1) j else if f = 1 then m (s + 2) j else if f = 2 then iand (ishr (m s 3) j) 1 else if f = 3 then m (s + 4) j else if f = 4 then m (s + 5) (2 * j) else if f = 5 then m (s + 5) (2 * j + 1) else if f = 6 then m (s + 6) j else if f = 7 then m (s + 7) j else if f = 8 then m (s + 8) j else if f = 9 then m (s + 9) j else 0) else 0
/-- a row of 52 of array i, from b on -/
def asR (m : Mem) (i b : Int) : AS := fun f j =>
  if f = 11 then (if 0 ≤ j ∧ j < 3 then m 249 (36 + j) else 0)
  else if f = 10 then (if 0 ≤ j ∧ j < 2 then m i (b + 50 + j) else 0)
  else if 0 ≤ j ∧ j < 5 then (if 0 ≤ f ∧ f ≤ 2 then m i (b + 3 * j + f) else if 3 ≤ f ∧ f ≤ 9 then m i (b + 15 + 7 * j + (f - 3)) else 0) else 0
def asU (x : AS) (f j v : Int) : AS := fun a b => if a = f ∧ b = j then v else x a b
theorem asU_v (x : AS) (f j v : Int) : asU x f j v f j = v := if_pos ⟨rfl, rfl⟩
theorem asU_f (x : AS) (f j v : Int) {a b : Int} (h : a ≠ f) : asU x f j v a b = x a b := if_neg (fun q => h q.1)
theorem asU_j (x : AS) (f j v : Int) {a b : Int} (h : b ≠ j) : asU x f j v a b = x a b := if_neg (fun q => h q.2)
theorem asU_app (x : AS) (f j v a b : Int) : asU x f j v a b = if a = f ∧ b = j then v else x a b := rfl
theorem asU_c {x : AS} {f j v f' j' v' : Int} (h : f ≠ f' ∨ j ≠ j') : asU (asU x f j v) f' j' v' = asU (asU x f' j' v') f j v := by
  funext a b
  simp only [asU_app]
  by_cases h1 : a = f' ∧ b = j'
  · rw [if_pos h1, if_neg (by omega), if_pos h1]
  · rw [if_neg h1, if_neg h1]
theorem asC_0 (m : Mem) {j : Int} (v : Int) (hj : 0 ≤ j ∧ j < 5) : asC (upm m 16 j v) 15 = asU (asC m 15) 0 j v := by
  funext f k
  by_cases h : f = 0
  · subst h
    by_cases hk : k = j
    · subst hk; simp [asC, asU, upm, hj]
    · simp [asC, asU, upm, hk]
  · simp [asC, asU, upm, h]
theorem asC_1 (m : Mem) {j : Int} (v : Int) (hj : 0 ≤ j ∧ j < 5) : asC (upm m 17 j v) 15 = asU (asC m 15) 1 j v := by
  funext f k
  by_cases h : f = 1
  · subst h
    by_cases hk : k = j
    · subst hk; simp [asC, asU, upm, hj]
    · simp [asC, asU, upm, hk]
  · simp [asC, asU, upm, h]
theorem asC_3 (m : Mem) {j : Int} (v : Int) (hj : 0 ≤ j ∧ j < 5) : asC (upm m 19 j v) 15 = asU (asC m 15) 3 j v := by
  funext f k
  by_cases h : f = 3
  · subst h
    by_cases hk : k = j
    · subst hk; simp [asC, asU, upm, hj]
    · simp [asC, asU, upm, hk]
  · simp [asC, asU, upm, h]
theorem asC_6 (m : Mem) {j : Int} (v : Int) (hj : 0 ≤ j ∧ j < 5) : asC (upm m 21 j v) 15 = asU (asC m 15) 6 j v := by
  funext f k
  by_cases h : f = 6
  · subst h
    by_cases hk : k = j
    · subst hk; simp [asC, asU, upm, hj]
    · simp [asC, asU, upm, hk]
  · simp [asC, asU, upm, h]
theorem asC_7 (m : Mem) {j : Int} (v : Int) (hj : 0 ≤ j ∧ j < 5) : asC (upm m 22 j v) 15 = asU (asC m 15) 7 j v := by
  funext f k
  by_cases h : f = 7
  · subst h
    by_cases hk : k = j
    · subst hk; simp [asC, asU, upm, hj]
    · simp [asC, asU, upm, hk]
  · simp [asC, asU, upm, h]
theorem asC_8 (m : Mem) {j : Int} (v : Int) (hj : 0 ≤ j ∧ j < 5) : asC (upm m 23 j v) 15 = asU (asC m 15) 8 j v := by
  funext f k
  by_cases h : f = 8
  · subst h
    by_cases hk : k = j
    · subst hk; simp [asC, asU, upm, hj]
    · simp [asC, asU, upm, hk]
  · simp [asC, asU, upm, h]
theorem asC_9 (m : Mem) {j : Int} (v : Int) (hj : 0 ≤ j ∧ j < 5) : asC (upm m 24 j v) 15 = asU (asC m 15) 9 j v := by
  funext f k
  by_cases h : f = 9
  · subst h
    by_cases hk : k = j
    · subst hk; simp [asC, asU, upm, hj]
    · simp [asC, asU, upm, hk]
  · simp [asC, asU, upm, h]
theorem asC_w0 (m : Mem) {p w : Int} (v : Int) (hw : w = 2 * p) (hj : 0 ≤ p ∧ p < 5) : asC (upm m 20 w v) 15 = asU (asC m 15) 4 p v := by
  subst hw
  funext f k
  by_cases h : f = 4
  · subst h
    by_cases hk : k = p
    · subst hk; simp [asC, asU, upm, hj]
    · have e : ¬ (2 * k = 2 * p) := by omega
      simp [asC, asU, upm, hk, e]
  · have e : ¬ (2 * k + 1 = 2 * p) := by omega
    simp [asC, asU, upm, h, e]
theorem asC_w1 (m : Mem) {p w : Int} (v : Int) (hw : w = 2 * p + 1) (hj : 0 ≤ p ∧ p < 5) : asC (upm m 20 w v) 15 = asU (asC m 15) 5 p v := by
  subst hw
  funext f k
  by_cases h : f = 5
  · subst h
    by_cases hk : k = p
    · subst hk; simp [asC, asU, upm, hj]
    · have e : ¬ (2 * k + 1 = 2 * p + 1) := by omega
      simp [asC, asU, upm, hk, e]
  · have e : ¬ (2 * k = 2 * p + 1) := by omega
    simp [asC, asU, upm, h, e]
theorem asC_x (m : Mem) {a j v : Int} (h : a < 15 ∨ (24 < a ∧ (a = 26 → j < 4 ∨ 6 < j)) ∨ a = 18 ∨ (a = 15 ∧ j ≠ 3 ∧ j ≠ 10 ∧ j ≠ 11)) : asC (upm m a j v) 15 = asC m 15 := by
  have e : ∀ x y, ¬ (x = a ∧ y = j) → upm m a j v x y = m x y := fun x y q => if_neg q
  funext f k
  unfold asC
  by_cases h11 : f = 11
  · rw [if_pos h11, if_pos h11]
    split
    · exact e _ _ (by omega)
    · rfl
  · rw [if_neg h11, if_neg h11]
    by_cases h10 : f = 10
    · rw [if_pos h10, if_pos h10]
      split
      · exact e _ _ (by omega)
      · rfl
    · rw [if_neg h10, if_neg h10, e (15 + 1) k (by omega), e (15 + 2) k (by omega), e 15 3 (by omega), e (15 + 4) k (by omega), e (15 + 5) (2 * k) (by omega), e (15 + 5) (2 * k + 1) (by omega), e (15 + 6) k (by omega), e (15 + 7) k (by omega), e (15 + 8) k (by omega), e (15 + 9) k (by omega)]
theorem asC_10 (m : Mem) (v : Int) : asC (upm m 15 10 v) 15 = asU (asC m 15) 10 0 v := by
  funext f k
  unfold asC asU upm
  by_cases h11 : f = 11
  · subst h11; simp
  · by_cases h10 : f = 10
    · subst h10
      by_cases hk : k = 0
      · subst hk; simp
      · have : ¬ (10 + k = 10) := by omega
        simp [hk, this]
    · simp [h11, h10]
theorem asC_11 (m : Mem) (v : Int) : asC (upm m 15 11 v) 15 = asU (asC m 15) 10 1 v := by
  funext f k
  unfold asC asU upm
  by_cases h11 : f = 11
  · subst h11; simp
  · by_cases h10 : f = 10
    · subst h10
      by_cases hk : k = 1
      · subst hk; simp
      · have : ¬ (10 + k = 11) := by omega
        simp [hk, this]
    · simp [h11, h10]
theorem asC_cn (m : Mem) {j i : Int} (v : Int) (hi : j = i - 4) (hj : 0 ≤ j ∧ j < 3) : asC (upm m 26 i v) 15 = asU (asC m 15) 11 j v := by
  subst hi
  funext f k
  unfold asC asU upm
  by_cases h11 : f = 11
  · subst h11
    by_cases hk : k = i - 4
    · subst hk
      have : 4 + (i - 4) = i := by omega
      have q1 : 4 ≤ i := by omega
      have q2 : i - 4 < 3 := by omega
      simp [q1, q2, this]
    · have : ¬ (4 + k = i) := by omega
      simp [hk, this]
  · by_cases h10 : f = 10
    · subst h10; simp
    · simp [h11, h10]
/-- what a state's cells are -/
theorem c_0 (m : Mem) {j : Int} (hj : 0 ≤ j ∧ j < 5) : asC m 15 0 j = m 16 j := by simp [asC, hj]
theorem c_1 (m : Mem) {j : Int} (hj : 0 ≤ j ∧ j < 5) : asC m 15 1 j = m 17 j := by simp [asC, hj]
theorem c_2 (m : Mem) {j : Int} (hj : 0 ≤ j ∧ j < 5) : asC m 15 2 j = iand (ishr (m 15 3) j) 1 := by simp [asC, hj]
theorem c_3 (m : Mem) {j : Int} (hj : 0 ≤ j ∧ j < 5) : asC m 15 3 j = m 19 j := by simp [asC, hj]
theorem c_4 (m : Mem) {j : Int} (hj : 0 ≤ j ∧ j < 5) : asC m 15 4 j = m 20 (2 * j) := by simp [asC, hj]
theorem c_5 (m : Mem) {j : Int} (hj : 0 ≤ j ∧ j < 5) : asC m 15 5 j = m 20 (2 * j + 1) := by simp [asC, hj]
theorem c_6 (m : Mem) {j : Int} (hj : 0 ≤ j ∧ j < 5) : asC m 15 6 j = m 21 j := by simp [asC, hj]
theorem c_7 (m : Mem) {j : Int} (hj : 0 ≤ j ∧ j < 5) : asC m 15 7 j = m 22 j := by simp [asC, hj]
theorem c_8 (m : Mem) {j : Int} (hj : 0 ≤ j ∧ j < 5) : asC m 15 8 j = m 23 j := by simp [asC, hj]
theorem c_9 (m : Mem) {j : Int} (hj : 0 ≤ j ∧ j < 5) : asC m 15 9 j = m 24 j := by simp [asC, hj]
theorem c_op (m : Mem) : asC m 15 10 0 = m 15 10 := by simp [asC]
theorem c_no (m : Mem) : asC m 15 10 1 = m 15 11 := by simp [asC]
theorem c_c0 (m : Mem) : asC m 15 11 0 = m 26 4 := by simp [asC]
theorem c_c1 (m : Mem) : asC m 15 11 1 = m 26 5 := by simp [asC]
theorem c_c2 (m : Mem) : asC m 15 11 2 = m 26 6 := by simp [asC]
theorem q_p (m : Mem) {i b f j : Int} (hf : 0 ≤ f ∧ f ≤ 2) (hj : 0 ≤ j ∧ j < 5) : asR m i b f j = m i (b + 3 * j + f) := by
  unfold asR; rw [if_neg (by omega), if_neg (by omega), if_pos hj, if_pos hf]
theorem q_h (m : Mem) {i b f j : Int} (hf : 3 ≤ f ∧ f ≤ 9) (hj : 0 ≤ j ∧ j < 5) : asR m i b f j = m i (b + 15 + 7 * j + (f - 3)) := by
  unfold asR; rw [if_neg (by omega), if_neg (by omega), if_pos hj, if_neg (by omega), if_pos hf]
theorem q_o (m : Mem) {i b j : Int} (hj : 0 ≤ j ∧ j < 2) : asR m i b 10 j = m i (b + 50 + j) := by
  unfold asR; rw [if_neg (by decide), if_pos rfl, if_pos hj]
theorem q_c (m : Mem) {i b j : Int} (hj : 0 ≤ j ∧ j < 3) : asR m i b 11 j = m 249 (36 + j) := by
  unfold asR; rw [if_pos rfl, if_pos hj]
/-- a cell of a row is written -/
theorem asR_p (m : Mem) {i b f j v w : Int} (hi : i ≠ 249) (hf : 0 ≤ f ∧ f ≤ 2) (hj : 0 ≤ j ∧ j < 5) (hw : w = b + 3 * j + f) : asR (upm m i w v) i b = asU (asR m i b) f j v := by
  have e : ∀ y, upm m i w v i y = if y = w then v else m i y := fun y => by rw [upm_app]; simp
  have e2 : ∀ y, upm m i w v 249 y = m 249 y := fun y => by rw [upm_app, if_neg (fun q => hi q.1.symm)]
  funext a k
  unfold asR asU
  simp only [e, e2]
  by_cases h11 : a = 11
  · rw [if_pos h11, if_pos h11, if_neg (show ¬ (a = f ∧ k = j) by omega)]
  rw [if_neg h11, if_neg h11]
  by_cases h10 : a = 10
  · rw [if_pos h10, if_pos h10, if_neg (show ¬ (a = f ∧ k = j) by omega)]
    by_cases hk : 0 ≤ k ∧ k < 2
    · rw [if_pos hk, if_pos hk, if_neg (by omega)]
    · rw [if_neg hk, if_neg hk]
  rw [if_neg h10, if_neg h10]
  by_cases hk : 0 ≤ k ∧ k < 5
  · rw [if_pos hk, if_pos hk]
    by_cases ha : 0 ≤ a ∧ a ≤ 2
    · rw [if_pos ha, if_pos ha]
      by_cases z : a = f ∧ k = j
      · rw [if_pos z, if_pos (by omega)]
      · rw [if_neg z, if_neg (by omega)]
    · rw [if_neg ha, if_neg ha, if_neg (show ¬ (a = f ∧ k = j) by omega)]
      by_cases hb : 3 ≤ a ∧ a ≤ 9
      · rw [if_pos hb, if_pos hb, if_neg (by omega)]
      · rw [if_neg hb, if_neg hb]
  · rw [if_neg hk, if_neg hk, if_neg (by omega)]
theorem asR_h (m : Mem) {i b f j v w : Int} (hi : i ≠ 249) (hf : 3 ≤ f ∧ f ≤ 9) (hj : 0 ≤ j ∧ j < 5) (hw : w = b + 15 + 7 * j + (f - 3)) : asR (upm m i w v) i b = asU (asR m i b) f j v := by
  have e : ∀ y, upm m i w v i y = if y = w then v else m i y := fun y => by rw [upm_app]; simp
  have e2 : ∀ y, upm m i w v 249 y = m 249 y := fun y => by rw [upm_app, if_neg (fun q => hi q.1.symm)]
  funext a k
  unfold asR asU
  simp only [e, e2]
  by_cases h11 : a = 11
  · rw [if_pos h11, if_pos h11, if_neg (show ¬ (a = f ∧ k = j) by omega)]
  rw [if_neg h11, if_neg h11]
  by_cases h10 : a = 10
  · rw [if_pos h10, if_pos h10, if_neg (show ¬ (a = f ∧ k = j) by omega)]
    by_cases hk : 0 ≤ k ∧ k < 2
    · rw [if_pos hk, if_pos hk, if_neg (by omega)]
    · rw [if_neg hk, if_neg hk]
  rw [if_neg h10, if_neg h10]
  by_cases hk : 0 ≤ k ∧ k < 5
  · rw [if_pos hk, if_pos hk]
    by_cases ha : 0 ≤ a ∧ a ≤ 2
    · rw [if_pos ha, if_pos ha, if_neg (show ¬ (a = f ∧ k = j) by omega), if_neg (by omega)]
    · rw [if_neg ha, if_neg ha]
      by_cases hb : 3 ≤ a ∧ a ≤ 9
      · rw [if_pos hb, if_pos hb]
        by_cases z : a = f ∧ k = j
        · rw [if_pos z, if_pos (by omega)]
        · rw [if_neg z, if_neg (by omega)]
      · rw [if_neg hb, if_neg hb, if_neg (by omega)]
  · rw [if_neg hk, if_neg hk, if_neg (by omega)]
theorem asR_o (m : Mem) {i b j v w : Int} (hi : i ≠ 249) (hj : 0 ≤ j ∧ j < 2) (hw : w = b + 50 + j) : asR (upm m i w v) i b = asU (asR m i b) 10 j v := by
  have e : ∀ y, upm m i w v i y = if y = w then v else m i y := fun y => by rw [upm_app]; simp
  have e2 : ∀ y, upm m i w v 249 y = m 249 y := fun y => by rw [upm_app, if_neg (fun q => hi q.1.symm)]
  funext a k
  unfold asR asU
  simp only [e, e2]
  by_cases h11 : a = 11
  · rw [if_pos h11, if_pos h11, if_neg (show ¬ (a = 10 ∧ k = j) by omega)]
  rw [if_neg h11, if_neg h11]
  by_cases h10 : a = 10
  · rw [if_pos h10, if_pos h10]
    by_cases hk : 0 ≤ k ∧ k < 2
    · rw [if_pos hk, if_pos hk]
      by_cases z : a = 10 ∧ k = j
      · rw [if_pos z, if_pos (by omega)]
      · rw [if_neg z, if_neg (by omega)]
    · rw [if_neg hk, if_neg hk, if_neg (by omega)]
  rw [if_neg h10, if_neg h10, if_neg (show ¬ (a = 10 ∧ k = j) by omega)]
  by_cases hk : 0 ≤ k ∧ k < 5
  · rw [if_pos hk, if_pos hk]
    by_cases ha : 0 ≤ a ∧ a ≤ 2
    · rw [if_pos ha, if_pos ha, if_neg (by omega)]
    · rw [if_neg ha, if_neg ha]
      by_cases hb : 3 ≤ a ∧ a ≤ 9
      · rw [if_pos hb, if_pos hb, if_neg (by omega)]
      · rw [if_neg hb, if_neg hb]
  · rw [if_neg hk, if_neg hk]
theorem asR_c (m : Mem) {i b j v w : Int} (hi : i ≠ 249) (hj : 0 ≤ j ∧ j < 3) (hw : w = 36 + j) : asR (upm m 249 w v) i b = asU (asR m i b) 11 j v := by
  have e : ∀ y, upm m 249 w v 249 y = if y = w then v else m 249 y := fun y => by rw [upm_app]; simp
  have e2 : ∀ y, upm m 249 w v i y = m i y := fun y => by rw [upm_app, if_neg (fun q => hi q.1)]
  funext a k
  unfold asR asU
  simp only [e, e2]
  by_cases h11 : a = 11
  · rw [if_pos h11, if_pos h11]
    by_cases hk : 0 ≤ k ∧ k < 3
    · rw [if_pos hk, if_pos hk]
      by_cases z : a = 11 ∧ k = j
      · rw [if_pos z, if_pos (by omega)]
      · rw [if_neg z, if_neg (by omega)]
    · rw [if_neg hk, if_neg hk, if_neg (by omega)]
  rw [if_neg h11, if_neg h11, if_neg (show ¬ (a = 11 ∧ k = j) by omega)]
theorem asR_x (m : Mem) {i b a j v : Int} (h : a ≠ i) (h2 : a = 249 → j < 36 ∨ 38 < j) : asR (upm m a j v) i b = asR m i b := by
  have e : ∀ y, upm m a j v i y = m i y := fun y => by rw [upm_app, if_neg (fun q => h q.1.symm)]
  funext f k
  unfold asR
  simp only [e]
  by_cases h11 : f = 11
  · rw [if_pos h11, if_pos h11]
    by_cases hk : 0 ≤ k ∧ k < 3
    · rw [if_pos hk, if_pos hk, upm_app, if_neg (by omega)]
    · rw [if_neg hk, if_neg hk]
  · rw [if_neg h11, if_neg h11]
theorem asR_fr {m m' : Mem} {i b : Int} (e : ∀ y, b ≤ y → y < b + 52 → m' i y = m i y) (e2 : ∀ y, 36 ≤ y → y ≤ 38 → m' 249 y = m 249 y) : asR m' i b = asR m i b := by
  funext f k
  unfold asR
  by_cases h11 : f = 11
  · rw [if_pos h11, if_pos h11]
    by_cases hk : 0 ≤ k ∧ k < 3
    · rw [if_pos hk, if_pos hk]; exact e2 _ (by omega) (by omega)
    · rw [if_neg hk, if_neg hk]
  rw [if_neg h11, if_neg h11]
  by_cases h10 : f = 10
  · rw [if_pos h10, if_pos h10]
    by_cases hk : 0 ≤ k ∧ k < 2
    · rw [if_pos hk, if_pos hk]; exact e _ (by omega) (by omega)
    · rw [if_neg hk, if_neg hk]
  rw [if_neg h10, if_neg h10]
  by_cases hk : 0 ≤ k ∧ k < 5
  · rw [if_pos hk, if_pos hk]
    by_cases ha : 0 ≤ f ∧ f ≤ 2
    · rw [if_pos ha, if_pos ha]; exact e _ (by omega) (by omega)
    · rw [if_neg ha, if_neg ha]
      by_cases hb : 3 ≤ f ∧ f ≤ 9
      · rw [if_pos hb, if_pos hb]; exact e _ (by omega) (by omega)
      · rw [if_neg hb, if_neg hb]
  · rw [if_neg hk, if_neg hk]
theorem asC_fr {m m' : Mem} {s : Int} (e : ∀ x j, s ≤ x → x ≤ s + 9 → m' x j = m x j) (e2 : ∀ j, 4 ≤ j → j ≤ 6 → m' 26 j = m 26 j) : asC m' s = asC m s := by
  funext f j
  unfold asC
  by_cases h11 : f = 11
  · rw [if_pos h11, if_pos h11]
    by_cases hk : 0 ≤ j ∧ j < 3
    · rw [if_pos hk, if_pos hk]; exact e2 _ (by omega) (by omega)
    · rw [if_neg hk, if_neg hk]
  rw [if_neg h11, if_neg h11, e s (10 + j) (by omega) (by omega), e (s + 1) j (by omega) (by omega), e (s + 2) j (by omega) (by omega), e s 3 (by omega) (by omega), e (s + 4) j (by omega) (by omega), e (s + 5) (2 * j) (by omega) (by omega), e (s + 5) (2 * j + 1) (by omega) (by omega), e (s + 6) j (by omega) (by omega), e (s + 7) j (by omega) (by omega), e (s + 8) j (by omega) (by omega), e (s + 9) j (by omega) (by omega)]
/-- alike for pots below P, people below H; doors, now -/
def SE (P H : Int) (x y : AS) : Prop := (∀ f j, 0 ≤ f → f ≤ 2 → 0 ≤ j → j < P → x f j = y f j) ∧ (∀ f j, 3 ≤ f → f ≤ 9 → 0 ≤ j → j < H → x f j = y f j) ∧ x 10 0 = y 10 0 ∧ x 10 1 = y 10 1
/-- the counters too -/
def SN (x y : AS) : Prop := ∀ j, 0 ≤ j → j < 3 → x 11 j = y 11 j
theorem SE_tr {P H : Int} {x y z : AS} (h : SE P H x y) (h2 : SE P H y z) : SE P H x z := ⟨fun f j a b c d => (h.1 f j a b c d).trans (h2.1 f j a b c d), fun f j a b c d => (h.2.1 f j a b c d).trans (h2.2.1 f j a b c d), h.2.2.1.trans h2.2.2.1, h.2.2.2.trans h2.2.2.2⟩
theorem SE_sy {P H : Int} {x y : AS} (h : SE P H x y) : SE P H y x := ⟨fun f j a b c d => (h.1 f j a b c d).symm, fun f j a b c d => (h.2.1 f j a b c d).symm, h.2.2.1.symm, h.2.2.2.symm⟩
theorem SE_mn {P H P' H' : Int} {x y : AS} (hP : P' ≤ P) (hH : H' ≤ H) (h : SE P H x y) : SE P' H' x y := ⟨fun f j a b c d => h.1 f j a b c (by omega), fun f j a b c d => h.2.1 f j a b c (by omega), h.2.2⟩
theorem SE_U {P H : Int} {x y : AS} (f j : Int) {v w : Int} (h : SE P H x y) (e : v = w) : SE P H (asU x f j v) (asU y f j w) := by
  subst e
  refine ⟨fun a b a0 a1 b0 b1 => ?_, fun a b a0 a1 b0 b1 => ?_, ?_, ?_⟩
  · unfold asU; rw [h.1 a b a0 a1 b0 b1]
  · unfold asU; rw [h.2.1 a b a0 a1 b0 b1]
  · unfold asU; rw [h.2.2.1]
  · unfold asU; rw [h.2.2.2]
theorem SN_U {x y : AS} (f j : Int) {v w : Int} (h : SN x y) (e : v = w) : SN (asU x f j v) (asU y f j w) := by
  subst e
  intro b b0 b1
  unfold asU
  rw [h b b0 b1]
