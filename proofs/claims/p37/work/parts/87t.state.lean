section
/-! states as functions of field and index: 0 heat 1 lies 2 dropped 3 at 4, 5 hands' warmth 6 hand 7 fold 8 load 9 burnt; 10: doors, now; 11: burnings, who, fallen -/
abbrev AS : Type := Int → Int → Int
def asC (m : Mem) (s : Int) : AS := fun f j =>
  if f = 11 then (if 0 ≤ j ∧ j < 3 then m 26 (4 + j) else 0)
  else if f = 10 then (if 0 ≤ j ∧ j < 2 then m s (10 + j) else 0)
  else if 0 ≤ j ∧ j < 5 then (if f = 0 then m (s + 1) j else if f = 1 then m (s + 2) j else if f = 2 then iand (ishr (m s 3) j) 1 else if f = 3 then m (s + 4) j else if f = 4 then m (s + 5) (2 * j) else if f = 5 then m (s + 5) (2 * j + 1) else if f = 6 then m (s + 6) j else if f = 7 then m (s + 7) j else if f = 8 then m (s + 8) j else if f = 9 then m (s + 9) j else 0) else 0
/-- a row of 52 of array i, from b on -/
def asR (m : Mem) (i b : Int) : AS := fun f j =>
  if f = 11 then (if 0 ≤ j ∧ j < 3 then m 249 (36 + j) else 0)
  else if f = 10 then (if 0 ≤ j ∧ j < 2 then m i (b + 50 + j) else 0)
  else if 0 ≤ j ∧ j < 5 then (if 0 ≤ f ∧ f ≤ 2 then m i (b + 3 * j + f) else if 3 ≤ f ∧ f ≤ 9 then m i (b + 15 + 7 * j + (f - 3)) else 0) else 0
def asU (x : AS) (f j v : Int) : AS := fun a b => if a = f ∧ b = j then v else x a b
theorem asU_v (x : AS) (f j v : Int) : asU x f j v f j = v := if_pos ⟨rfl, rfl⟩
theorem asU_f (x : AS) (f j v : Int) {a b : Int} (h : a ≠ f) : asU x f j v a b = x a b := if_neg (fun q => h q.1)
theorem asU_j (x : AS) (f j v : Int) {a b : Int} (h : b ≠ j) : asU x f j v a b = x a b := if_neg (fun q => h q.2)
theorem asU_app (x : AS) (f j v a b : Int) : asU x f j v a b = if a = f ∧ b = j then v else x a b := rfl
theorem asU_c {x : AS} {f j v f' j' v' : Int} (h : f ≠ f' ∨ j ≠ j') : asU (asU x f j v) f' j' v' = asU (asU x f' j' v') f j v := by
  funext a b
  simp only [asU_app]
  by_cases h1 : a = f' ∧ b = j'
  · rw [if_pos h1, if_neg (by omega), if_pos h1]
  · rw [if_neg h1, if_neg h1]
theorem asC_0 (m : Mem) {j : Int} (v : Int) (hj : 0 ≤ j ∧ j < 5) : asC (upm m 16 j v) 15 = asU (asC m 15) 0 j v := by
  funext f k
  by_cases h : f = 0
  · subst h
    by_cases hk : k = j
    · subst hk; simp [asC, asU, upm, hj]
    · simp [asC, asU, upm, hk]
  · simp [asC, asU, upm, h]
theorem asC_1 (m : Mem) {j : Int} (v : Int) (hj : 0 ≤ j ∧ j < 5) : asC (upm m 17 j v) 15 = asU (asC m 15) 1 j v := by
  funext f k
  by_cases h : f = 1
  · subst h
    by_cases hk : k = j
    · subst hk; simp [asC, asU, upm, hj]
    · simp [asC, asU, upm, hk]
  · simp [asC, asU, upm, h]
theorem asC_3 (m : Mem) {j : Int} (v : Int) (hj : 0 ≤ j ∧ j < 5) : asC (upm m 19 j v) 15 = asU (asC m 15) 3 j v := by
  funext f k
  by_cases h : f = 3
  · subst h
    by_cases hk : k = j
    · subst hk; simp [asC, asU, upm, hj]
    · simp [asC, asU, upm, hk]
  · simp [asC, asU, upm, h]
theorem asC_6 (m : Mem) {j : Int} (v : Int) (hj : 0 ≤ j ∧ j < 5) : asC (upm m 21 j v) 15 = asU (asC m 15) 6 j v := by
  funext f k
  by_cases h : f = 6
  · subst h
    by_cases hk : k = j
    · subst hk; simp [asC, asU, upm, hj]
    · simp [asC, asU, upm, hk]
  · simp [asC, asU, upm, h]
theorem asC_7 (m : Mem) {j : Int} (v : Int) (hj : 0 ≤ j ∧ j < 5) : asC (upm m 22 j v) 15 = asU (asC m 15) 7 j v := by
  funext f k
  by_cases h : f = 7
  · subst h
    by_cases hk : k = j
    · subst hk; simp [asC, asU, upm, hj]
    · simp [asC, asU, upm, hk]
  · simp [asC, asU, upm, h]
theorem asC_8 (m : Mem) {j : Int} (v : Int) (hj : 0 ≤ j ∧ j < 5) : asC (upm m 23 j v) 15 = asU (asC m 15) 8 j v := by
  funext f k
  by_cases h : f = 8
  · subst h
    by_cases hk : k = j
    · subst hk; simp [asC, asU, upm, hj]
    · simp [asC, asU, upm, hk]
  · simp [asC, asU, upm, h]
theorem asC_9 (m : Mem) {j : Int} (v : Int) (hj : 0 ≤ j ∧ j < 5) : asC (upm m 24 j v) 15 = asU (asC m 15) 9 j v := by
  funext f k
  by_cases h : f = 9
  · subst h
    by_cases hk : k = j
    · subst hk; simp [asC, asU, upm, hj]
    · simp [asC, asU, upm, hk]
  · simp [asC, asU, upm, h]
theorem asC_w0 (m : Mem) {p w : Int} (v : Int) (hw : w = 2 * p) (hj : 0 ≤ p ∧ p < 5) : asC (upm m 20 w v) 15 = asU (asC m 15) 4 p v := by
  subst hw
  funext f k
  by_cases h : f = 4
  · subst h
    by_cases hk : k = p
    · subst hk; simp [asC, asU, upm, hj]
    · have e : ¬ (2 * k = 2 * p) := by omega
      simp [asC, asU, upm, hk, e]
  · have e : ¬ (2 * k + 1 = 2 * p) := by omega
    simp [asC, asU, upm, h, e]
theorem asC_w1 (m : Mem) {p w : Int} (v : Int) (hw : w = 2 * p + 1) (hj : 0 ≤ p ∧ p < 5) : asC (upm m 20 w v) 15 = asU (asC m 15) 5 p v := by
  subst hw
  funext f k
  by_cases h : f = 5
  · subst h
    by_cases hk : k = p
    · subst hk; simp [asC, asU, upm, hj]
    · have e : ¬ (2 * k + 1 = 2 * p + 1) := by omega
      simp [asC, asU, upm, hk, e]
  · have e : ¬ (2 * k = 2 * p + 1) := by omega
    simp [asC, asU, upm, h, e]
theorem asC_x (m : Mem) {a j v : Int} (h : a < 15 ∨ (24 < a ∧ (a = 26 → j < 4 ∨ 6 < j)) ∨ a = 18 ∨ (a = 15 ∧ j ≠ 3 ∧ j ≠ 10 ∧ j ≠ 11)) : asC (upm m a j v) 15 = asC m 15 := by
  have e : ∀ x y, ¬ (x = a ∧ y = j) → upm m a j v x y = m x y := fun x y q => if_neg q
  funext f k
  unfold asC
  by_cases h11 : f = 11
  · rw [if_pos h11, if_pos h11]
    split
    · exact e _ _ (by omega)
    · rfl
  · rw [if_neg h11, if_neg h11]
    by_cases h10 : f = 10
    · rw [if_pos h10, if_pos h10]
      split
      · exact e _ _ (by omega)
      · rfl
    · rw [if_neg h10, if_neg h10, e (15 + 1) k (by omega), e (15 + 2) k (by omega), e 15 3 (by omega), e (15 + 4) k (by omega), e (15 + 5) (2 * k) (by omega), e (15 + 5) (2 * k + 1) (by omega), e (15 + 6) k (by omega), e (15 + 7) k (by omega), e (15 + 8) k (by omega), e (15 + 9) k (by omega)]
theorem asC_10 (m : Mem) (v : Int) : asC (upm m 15 10 v) 15 = asU (asC m 15) 10 0 v := by
  funext f k
  unfold asC asU upm
  by_cases h11 : f = 11
  · subst h11; simp
  · by_cases h10 : f = 10
    · subst h10
      by_cases hk : k = 0
      · subst hk; simp
      · have : ¬ (10 + k = 10) := by omega
        simp [hk, this]
    · simp [h11, h10]
theorem asC_11 (m : Mem) (v : Int) : asC (upm m 15 11 v) 15 = asU (asC m 15) 10 1 v := by
  funext f k
  unfold asC asU upm
  by_cases h11 : f = 11
  · subst h11; simp
  · by_cases h10 : f = 10
    · subst h10
      by_cases hk : k = 1
      · subst hk; simp
      · have : ¬ (10 + k = 11) := by omega
        simp [hk, this]
    · simp [h11, h10]
theorem asC_cn (m : Mem) {j i : Int} (v : Int) (hi : j = i - 4) (hj : 0 ≤ j ∧ j < 3) : asC (upm m 26 i v) 15 = asU (asC m 15) 11 j v := by
  subst hi
  funext f k
  unfold asC asU upm
  by_cases h11 : f = 11
  · subst h11
    by_cases hk : k = i - 4
    · subst hk
      have : 4 + (i - 4) = i := by omega
      have q1 : 4 ≤ i := by omega
      have q2 : i - 4 < 3 := by omega
      simp [q1, q2, this]
    · have : ¬ (4 + k = i) := by omega
      simp [hk, this]
  · by_cases h10 : f = 10
    · subst h10; simp
    · simp [h11, h10]
/-- what a state's cells are -/
theorem c_0 (m : Mem) {j : Int} (hj : 0 ≤ j ∧ j < 5) : asC m 15 0 j = m 16 j := by simp [asC, hj]
theorem c_1 (m : Mem) {j : Int} (hj : 0 ≤ j ∧ j < 5) : asC m 15 1 j = m 17 j := by simp [asC, hj]
theorem c_2 (m : Mem) {j : Int} (hj : 0 ≤ j ∧ j < 5) : asC m 15 2 j = iand (ishr (m 15 3) j) 1 := by simp [asC, hj]
theorem c_3 (m : Mem) {j : Int} (hj : 0 ≤ j ∧ j < 5) : asC m 15 3 j = m 19 j := by simp [asC, hj]
theorem c_4 (m : Mem) {j : Int} (hj : 0 ≤ j ∧ j < 5) : asC m 15 4 j = m 20 (2 * j) := by simp [asC, hj]
theorem c_5 (m : Mem) {j : Int} (hj : 0 ≤ j ∧ j < 5) : asC m 15 5 j = m 20 (2 * j + 1) := by simp [asC, hj]
theorem c_6 (m : Mem) {j : Int} (hj : 0 ≤ j ∧ j < 5) : asC m 15 6 j = m 21 j := by simp [asC, hj]
theorem c_7 (m : Mem) {j : Int} (hj : 0 ≤ j ∧ j < 5) : asC m 15 7 j = m 22 j := by simp [asC, hj]
theorem c_8 (m : Mem) {j : Int} (hj : 0 ≤ j ∧ j < 5) : asC m 15 8 j = m 23 j := by simp [asC, hj]
theorem c_9 (m : Mem) {j : Int} (hj : 0 ≤ j ∧ j < 5) : asC m 15 9 j = m 24 j := by simp [asC, hj]
theorem c_op (m : Mem) : asC m 15 10 0 = m 15 10 := by simp [asC]
theorem c_no (m : Mem) : asC m 15 10 1 = m 15 11 := by simp [asC]
theorem c_c0 (m : Mem) : asC m 15 11 0 = m 26 4 := by simp [asC]
theorem c_c1 (m : Mem) : asC m 15 11 1 = m 26 5 := by simp [asC]
theorem c_c2 (m : Mem) : asC m 15 11 2 = m 26 6 := by simp [asC]
theorem q_p (m : Mem) {i b f j : Int} (hf : 0 ≤ f ∧ f ≤ 2) (hj : 0 ≤ j ∧ j < 5) : asR m i b f j = m i (b + 3 * j + f) := by
  unfold asR; rw [if_neg (by omega), if_neg (by omega), if_pos hj, if_pos hf]
theorem q_h (m : Mem) {i b f j : Int} (hf : 3 ≤ f ∧ f ≤ 9) (hj : 0 ≤ j ∧ j < 5) : asR m i b f j = m i (b + 15 + 7 * j + (f - 3)) := by
  unfold asR; rw [if_neg (by omega), if_neg (by omega), if_pos hj, if_neg (by omega), if_pos hf]
theorem q_o (m : Mem) {i b j : Int} (hj : 0 ≤ j ∧ j < 2) : asR m i b 10 j = m i (b + 50 + j) := by
  unfold asR; rw [if_neg (by decide), if_pos rfl, if_pos hj]
theorem q_c (m : Mem) {i b j : Int} (hj : 0 ≤ j ∧ j < 3) : asR m i b 11 j = m 249 (36 + j) := by
  unfold asR; rw [if_pos rfl, if_pos hj]
/-- a cell of a row is written -/
theorem asR_p (m : Mem) {i b f j v w : Int} (hi : i ≠ 249) (hf : 0 ≤ f ∧ f ≤ 2) (hj : 0 ≤ j ∧ j < 5) (hw : w = b + 3 * j + f) : asR (upm m i w v) i b = asU (asR m i b) f j v := by
  have e : ∀ y, upm m i w v i y = if y = w then v else m i y := fun y => by rw [upm_app]; simp
  have e2 : ∀ y, upm m i w v 249 y = m 249 y := fun y => by rw [upm_app, if_neg (fun q => hi q.1.symm)]
  funext a k
  unfold asR asU
  simp only [e, e2]
  by_cases h11 : a = 11
  · rw [if_pos h11, if_pos h11, if_neg (show ¬ (a = f ∧ k = j) by omega)]
  rw [if_neg h11, if_neg h11]
  by_cases h10 : a = 10
  · rw [if_pos h10, if_pos h10, if_neg (show ¬ (a = f ∧ k = j) by omega)]
    by_cases hk : 0 ≤ k ∧ k < 2
    · rw [if_pos hk, if_pos hk, if_neg (by omega)]
    · rw [if_neg hk, if_neg hk]
  rw [if_neg h10, if_neg h10]
  by_cases hk : 0 ≤ k ∧ k < 5
  · rw [if_pos hk, if_pos hk]
    by_cases ha : 0 ≤ a ∧ a ≤ 2
    · rw [if_pos ha, if_pos ha]
      by_cases z : a = f ∧ k = j
      · rw [if_pos z, if_pos (by omega)]
      · rw [if_neg z, if_neg (by omega)]
    · rw [if_neg ha, if_neg ha, if_neg (show ¬ (a = f ∧ k = j) by omega)]
      by_cases hb : 3 ≤ a ∧ a ≤ 9
      · rw [if_pos hb, if_pos hb, if_neg (by omega)]
      · rw [if_neg hb, if_neg hb]
  · rw [if_neg hk, if_neg hk, if_neg (by omega)]
theorem asR_h (m : Mem) {i b f j v w : Int} (hi : i ≠ 249) (hf : 3 ≤ f ∧ f ≤ 9) (hj : 0 ≤ j ∧ j < 5) (hw : w = b + 15 + 7 * j + (f - 3)) : asR (upm m i w v) i b = asU (asR m i b) f j v := by
  have e : ∀ y, upm m i w v i y = if y = w then v else m i y := fun y => by rw [upm_app]; simp
  have e2 : ∀ y, upm m i w v 249 y = m 249 y := fun y => by rw [upm_app, if_neg (fun q => hi q.1.symm)]
  funext a k
  unfold asR asU
  simp only [e, e2]
  by_cases h11 : a = 11
  · rw [if_pos h11, if_pos h11, if_neg (show ¬ (a = f ∧ k = j) by omega)]
  rw [if_neg h11, if_neg h11]
  by_cases h10 : a = 10
  · rw [if_pos h10, if_pos h10, if_neg (show ¬ (a = f ∧ k = j) by omega)]
    by_cases hk : 0 ≤ k ∧ k < 2
    · rw [if_pos hk, if_pos hk, if_neg (by omega)]
    · rw [if_neg hk, if_neg hk]
  rw [if_neg h10, if_neg h10]
  by_cases hk : 0 ≤ k ∧ k < 5
  · rw [if_pos hk, if_pos hk]
    by_cases ha : 0 ≤ a ∧ a ≤ 2
    · rw [if_pos ha, if_pos ha, if_neg (show ¬ (a = f ∧ k = j) by omega), if_neg (by omega)]
    · rw [if_neg ha, if_neg ha]
      by_cases hb : 3 ≤ a ∧ a ≤ 9
      · rw [if_pos hb, if_pos hb]
        by_cases z : a = f ∧ k = j
        · rw [if_pos z, if_pos (by omega)]
        · rw [if_neg z, if_neg (by omega)]
      · rw [if_neg hb, if_neg hb, if_neg (by omega)]
  · rw [if_neg hk, if_neg hk, if_neg (by omega)]
theorem asR_o (m : Mem) {i b j v w : Int} (hi : i ≠ 249) (hj : 0 ≤ j ∧ j < 2) (hw : w = b + 50 + j) : asR (upm m i w v) i b = asU (asR m i b) 10 j v := by
  have e : ∀ y, upm m i w v i y = if y = w then v else m i y := fun y => by rw [upm_app]; simp
  have e2 : ∀ y, upm m i w v 249 y = m 249 y := fun y => by rw [upm_app, if_neg (fun q => hi q.1.symm)]
  funext a k
  unfold asR asU
  simp only [e, e2]
  by_cases h11 : a = 11
  · rw [if_pos h11, if_pos h11, if_neg (show ¬ (a = 10 ∧ k = j) by omega)]
  rw [if_neg h11, if_neg h11]
  by_cases h10 : a = 10
  · rw [if_pos h10, if_pos h10]
    by_cases hk : 0 ≤ k ∧ k < 2
    · rw [if_pos hk, if_pos hk]
      by_cases z : a = 10 ∧ k = j
      · rw [if_pos z, if_pos (by omega)]
      · rw [if_neg z, if_neg (by omega)]
    · rw [if_neg hk, if_neg hk, if_neg (by omega)]
  rw [if_neg h10, if_neg h10, if_neg (show ¬ (a = 10 ∧ k = j) by omega)]
  by_cases hk : 0 ≤ k ∧ k < 5
  · rw [if_pos hk, if_pos hk]
    by_cases ha : 0 ≤ a ∧ a ≤ 2
    · rw [if_pos ha, if_pos ha, if_neg (by omega)]
    · rw [if_neg ha, if_neg ha]
      by_cases hb : 3 ≤ a ∧ a ≤ 9
      · rw [if_pos hb, if_pos hb, if_neg (by omega)]
      · rw [if_neg hb, if_neg hb]
  · rw [if_neg hk, if_neg hk]
theorem asR_c (m : Mem) {i b j v w : Int} (hi : i ≠ 249) (hj : 0 ≤ j ∧ j < 3) (hw : w = 36 + j) : asR (upm m 249 w v) i b = asU (asR m i b) 11 j v := by
  have e : ∀ y, upm m 249 w v 249 y = if y = w then v else m 249 y := fun y => by rw [upm_app]; simp
  have e2 : ∀ y, upm m 249 w v i y = m i y := fun y => by rw [upm_app, if_neg (fun q => hi q.1)]
  funext a k
  unfold asR asU
  simp only [e, e2]
  by_cases h11 : a = 11
  · rw [if_pos h11, if_pos h11]
    by_cases hk : 0 ≤ k ∧ k < 3
    · rw [if_pos hk, if_pos hk]
      by_cases z : a = 11 ∧ k = j
      · rw [if_pos z, if_pos (by omega)]
      · rw [if_neg z, if_neg (by omega)]
    · rw [if_neg hk, if_neg hk, if_neg (by omega)]
  rw [if_neg h11, if_neg h11, if_neg (show ¬ (a = 11 ∧ k = j) by omega)]
theorem asR_x (m : Mem) {i b a j v : Int} (h : a ≠ i) (h2 : a = 249 → j < 36 ∨ 38 < j) : asR (upm m a j v) i b = asR m i b := by
  have e : ∀ y, upm m a j v i y = m i y := fun y => by rw [upm_app, if_neg (fun q => h q.1.symm)]
  funext f k
  unfold asR
  simp only [e]
  by_cases h11 : f = 11
  · rw [if_pos h11, if_pos h11]
    by_cases hk : 0 ≤ k ∧ k < 3
    · rw [if_pos hk, if_pos hk, upm_app, if_neg (by omega)]
    · rw [if_neg hk, if_neg hk]
  · rw [if_neg h11, if_neg h11]
theorem asR_fr {m m' : Mem} {i b : Int} (e : ∀ y, b ≤ y → y < b + 52 → m' i y = m i y) (e2 : ∀ y, 36 ≤ y → y ≤ 38 → m' 249 y = m 249 y) : asR m' i b = asR m i b := by
  funext f k
  unfold asR
  by_cases h11 : f = 11
  · rw [if_pos h11, if_pos h11]
    by_cases hk : 0 ≤ k ∧ k < 3
    · rw [if_pos hk, if_pos hk]; exact e2 _ (by omega) (by omega)
    · rw [if_neg hk, if_neg hk]
  rw [if_neg h11, if_neg h11]
  by_cases h10 : f = 10
  · rw [if_pos h10, if_pos h10]
    by_cases hk : 0 ≤ k ∧ k < 2
    · rw [if_pos hk, if_pos hk]; exact e _ (by omega) (by omega)
    · rw [if_neg hk, if_neg hk]
  rw [if_neg h10, if_neg h10]
  by_cases hk : 0 ≤ k ∧ k < 5
  · rw [if_pos hk, if_pos hk]
    by_cases ha : 0 ≤ f ∧ f ≤ 2
    · rw [if_pos ha, if_pos ha]; exact e _ (by omega) (by omega)
    · rw [if_neg ha, if_neg ha]
      by_cases hb : 3 ≤ f ∧ f ≤ 9
      · rw [if_pos hb, if_pos hb]; exact e _ (by omega) (by omega)
      · rw [if_neg hb, if_neg hb]
  · rw [if_neg hk, if_neg hk]
theorem asC_fr {m m' : Mem} {s : Int} (e : ∀ x j, s ≤ x → x ≤ s + 9 → m' x j = m x j) (e2 : ∀ j, 4 ≤ j → j ≤ 6 → m' 26 j = m 26 j) : asC m' s = asC m s := by
  funext f j
  unfold asC
  by_cases h11 : f = 11
  · rw [if_pos h11, if_pos h11]
    by_cases hk : 0 ≤ j ∧ j < 3
    · rw [if_pos hk, if_pos hk]; exact e2 _ (by omega) (by omega)
    · rw [if_neg hk, if_neg hk]
  rw [if_neg h11, if_neg h11, e s (10 + j) (by omega) (by omega), e (s + 1) j (by omega) (by omega), e (s + 2) j (by omega) (by omega), e s 3 (by omega) (by omega), e (s + 4) j (by omega) (by omega), e (s + 5) (2 * j) (by omega) (by omega), e (s + 5) (2 * j + 1) (by omega) (by omega), e (s + 6) j (by omega) (by omega), e (s + 7) j (by omega) (by omega), e (s + 8) j (by omega) (by omega), e (s + 9) j (by omega) (by omega)]
/-- alike for pots below P, people below H; doors, now -/
def SE (P H : Int) (x y : AS) : Prop := (∀ f j, 0 ≤ f → f ≤ 2 → 0 ≤ j → j < P → x f j = y f j) ∧ (∀ f j, 3 ≤ f → f ≤ 9 → 0 ≤ j → j < H → x f j = y f j) ∧ x 10 0 = y 10 0 ∧ x 10 1 = y 10 1
/-- the counters too -/
def SN (x y : AS) : Prop := ∀ j, 0 ≤ j → j < 3 → x 11 j = y 11 j
theorem SE_tr {P H : Int} {x y z : AS} (h : SE P H x y) (h2 : SE P H y z) : SE P H x z := ⟨fun f j a b c d => (h.1 f j a b c d).trans (h2.1 f j a b c d), fun f j a b c d => (h.2.1 f j a b c d).trans (h2.2.1 f j a b c d), h.2.2.1.trans h2.2.2.1, h.2.2.2.trans h2.2.2.2⟩
theorem SE_sy {P H : Int} {x y : AS} (h : SE P H x y) : SE P H y x := ⟨fun f j a b c d => (h.1 f j a b c d).symm, fun f j a b c d => (h.2.1 f j a b c d).symm, h.2.2.1.symm, h.2.2.2.symm⟩
theorem SE_mn {P H P' H' : Int} {x y : AS} (hP : P' ≤ P) (hH : H' ≤ H) (h : SE P H x y) : SE P' H' x y := ⟨fun f j a b c d => h.1 f j a b c (by omega), fun f j a b c d => h.2.1 f j a b c (by omega), h.2.2⟩
theorem SE_U {P H : Int} {x y : AS} (f j : Int) {v w : Int} (h : SE P H x y) (e : v = w) : SE P H (asU x f j v) (asU y f j w) := by
  subst e
  refine ⟨fun a b a0 a1 b0 b1 => ?_, fun a b a0 a1 b0 b1 => ?_, ?_, ?_⟩
  · unfold asU; rw [h.1 a b a0 a1 b0 b1]
  · unfold asU; rw [h.2.1 a b a0 a1 b0 b1]
  · unfold asU; rw [h.2.2.1]
  · unfold asU; rw [h.2.2.2]
theorem SN_U {x y : AS} (f j : Int) {v w : Int} (h : SN x y) (e : v = w) : SN (asU x f j v) (asU y f j w) := by
  subst e
  intro b b0 b1
  unfold asU
  rw [h b b0 b1]
end
section
/-! a second, as a function of a state -/
/-- what holds of a state: L places, P pots, H people -/
def IV (L P H : Int) (x : AS) : Prop :=
  (∀ p, 0 ≤ p → p < H → (-1 ≤ x 8 p ∧ x 8 p < P) ∧ (0 ≤ x 3 p ∧ x 3 p < L) ∧ (0 ≤ x 6 p ∧ x 6 p ≤ 1) ∧ (0 ≤ x 8 p → x 1 (x 8 p) = -1 ∧ x 2 (x 8 p) = 0) ∧ inI (x 4 p) ∧ inI (x 5 p) ∧ (0 ≤ x 7 p ∧ x 7 p ≤ 9))
  ∧ (∀ p q, 0 ≤ p → p < H → 0 ≤ q → q < H → x 8 p = x 8 q → 0 ≤ x 8 p → p = q)
  ∧ (∀ q, 0 ≤ q → q < P → (0 ≤ x 0 q ∧ x 0 q ≤ 999) ∧ (-1 ≤ x 1 q ∧ x 1 q < L) ∧ (x 2 q = 0 ∨ x 2 q = 1 ∧ x 0 q = 0 ∧ x 1 q = -1))
  ∧ inI (x 10 1)
theorem IV_SE {L P H : Int} {x y : AS} (h : IV L P H x) (e : SE P H x y) : IV L P H y := by
  obtain ⟨h1, h2, h3, h4⟩ := h
  obtain ⟨e1, e2, -, e4⟩ := e
  refine ⟨fun p p0 p1 => ?_, fun p q p0 p1 q0 q1 hq hn => ?_, fun q q0 q1 => ?_, ?_⟩
  · obtain ⟨a, b, c, d, f, g, i⟩ := h1 p p0 p1
    rw [← e2 8 p (by decide) (by decide) p0 p1, ← e2 3 p (by decide) (by decide) p0 p1, ← e2 6 p (by decide) (by decide) p0 p1, ← e2 4 p (by decide) (by decide) p0 p1, ← e2 5 p (by decide) (by decide) p0 p1, ← e2 7 p (by decide) (by decide) p0 p1]
    refine ⟨a, b, c, fun z => ?_, f, g, i⟩
    rw [← e1 1 _ (by decide) (by decide) z a.2, ← e1 2 _ (by decide) (by decide) z a.2]
    exact d z
  · rw [← e2 8 p (by decide) (by decide) p0 p1] at hq hn
    rw [← e2 8 q (by decide) (by decide) q0 q1] at hq
    exact h2 p q p0 p1 q0 q1 hq hn
  · rw [← e1 0 q (by decide) (by decide) q0 q1, ← e1 1 q (by decide) (by decide) q0 q1, ← e1 2 q (by decide) (by decide) q0 q1]
    exact h3 q q0 q1
  · rw [← e4]; exact h4
def ev8 (a b c d e f g h : Int) : ENV := fun k => if k = 0 then a else if k = 1 then b else if k = 2 then c else if k = 3 then d else if k = 4 then e else if k = 5 then f else if k = 6 then g else if k = 7 then h else 0
theorem ev8_r {a b c d e f g h : Int} (i0 : inI a) (i1 : inI b) (i2 : inI c) (i3 : inI d) (i4 : inI e) (i5 : inI f) (i6 : inI g) (i7 : inI h) : RgE (ev8 a b c d e f g h) := fun k => by
  unfold ev8
  repeat' split
  all_goals (first | assumption | exact inI_0)
def hwm (x : AS) (p : Int) : Int := x (4 + x 6 p) p
def thru (R : ENV → Int) (BE : Int → Int) (x : AS) (p : Int) : Int := R (ev8 (x 0 (x 8 p)) (x 7 p) (hwm x p) (BE p) (x 10 1) p (x 8 p) (x 6 p))
def bwm (R : ENV → Int) (BE : Int → Int) (x : AS) (p : Int) : Int := min 9999 (w32 (hwm x p + thru R BE x p))
/-- one who holds a pot gets warmer, and drops it if that is too much -/
def holdS (R : ENV → Int) (BE : Int → Int) (p : Int) (x : AS) : AS :=
  if 0 ≤ x 8 p then
    (if BE p < bwm R BE x p then asU (asU (asU (asU (asU (asU (asU (asU x (4 + x 6 p) p (bwm R BE x p)) 9 p (w32 (x 9 p + 1))) 11 0 (w32 (x 11 0 + 1))) 11 1 (ior (x 11 1) (ishl 1 p))) 11 2 (ior (x 11 2) (ishl 1 (x 8 p)))) 8 p (-1)) 0 (x 8 p) 0) 2 (x 8 p) 1
     else asU x (4 + x 6 p) p (bwm R BE x p))
  else x
def cl4 (v : Int) : Int := w32 (v - idv v 4)
/-- the hands of one that hold nothing get less warm -/
def coolS (q : Int) (x : AS) : AS := fun a b => if (a = 4 ∨ a = 5) ∧ b = q ∧ (a ≠ 4 + x 6 q ∨ x 8 q < 0) then cl4 (x a b) else x a b
theorem coolS_app (q : Int) (x : AS) (a b : Int) : coolS q x a b = if (a = 4 ∨ a = 5) ∧ b = q ∧ (a ≠ 4 + x 6 q ∨ x 8 q < 0) then cl4 (x a b) else x a b := rfl
theorem coolS_n {q : Int} {x : AS} {a b : Int} (h : b ≠ q ∨ (a ≠ 4 ∧ a ≠ 5)) : coolS q x a b = x a b := by
  rw [coolS_app, if_neg (by omega)]
theorem coolS_U {q : Int} {x : AS} {f j v : Int} (h : j ≠ q ∨ (f ≠ 4 ∧ f ≠ 5 ∧ f ≠ 6 ∧ f ≠ 8)) : coolS q (asU x f j v) = asU (coolS q x) f j v := by
  have e6 : asU x f j v 6 q = x 6 q := by rw [asU_app, if_neg (by omega)]
  have e8 : asU x f j v 8 q = x 8 q := by rw [asU_app, if_neg (by omega)]
  funext a b
  rw [coolS_app, e6, e8]
  by_cases z : a = f ∧ b = j
  · rw [if_neg (by omega), asU_app, if_pos z, asU_app, if_pos z]
  · rw [asU_app, if_neg z, asU_app, if_neg z, coolS_app]
theorem hold_cool {R : ENV → Int} {BE : Int → Int} {p q : Int} {x : AS} (h : p ≠ q) (h6 : 0 ≤ x 6 p ∧ x 6 p ≤ 1) : holdS R BE p (coolS q x) = coolS q (holdS R BE p x) := by
  have e : ∀ a, coolS q x a p = x a p := fun a => coolS_n (Or.inl h)
  have e0 : ∀ b, coolS q x 0 b = x 0 b := fun b => coolS_n (Or.inr (by decide))
  have e1 : ∀ b, coolS q x 11 b = x 11 b := fun b => coolS_n (Or.inr (by decide))
  have en : ∀ b, coolS q x 10 b = x 10 b := fun b => coolS_n (Or.inr (by decide))
  have eb : bwm R BE (coolS q x) p = bwm R BE x p := by
    unfold bwm thru hwm
    rw [e, e, e0, e, en, e]
  unfold holdS
  rw [eb, e, e, e, e1, e1, e1]
  by_cases z : 0 ≤ x 8 p
  · rw [if_pos z, if_pos z]
    by_cases w : BE p < bwm R BE x p
    · rw [if_pos w, if_pos w, coolS_U (Or.inr (by decide)), coolS_U (Or.inr (by decide)), coolS_U (Or.inl h), coolS_U (Or.inr (by decide)), coolS_U (Or.inr (by decide)), coolS_U (Or.inr (by decide)), coolS_U (Or.inr (by decide)), coolS_U (Or.inl h)]
    · rw [if_neg w, if_neg w, coolS_U (Or.inl h)]
  · rw [if_neg z, if_neg z]
def hlds (R : ENV → Int) (BE : Int → Int) : Nat → AS → AS
  | 0, x => x
  | n + 1, x => holdS R BE n (hlds R BE n x)
def clds : Nat → AS → AS
  | 0, x => x
  | n + 1, x => coolS n (clds n x)
/-- as the component does it: one after another -/
def ilv (R : ENV → Int) (BE : Int → Int) : Nat → AS → AS
  | 0, x => x
  | n + 1, x => coolS n (holdS R BE n (ilv R BE n x))
theorem clds_6 : ∀ (n : Nat) (x : AS) (p : Int), clds n x 6 p = x 6 p
  | 0, _, _ => rfl
  | n + 1, x, p => by show coolS n (clds n x) 6 p = _; rw [coolS_n (Or.inr (by decide)), clds_6 n]
theorem hold_6 {R : ENV → Int} {BE : Int → Int} {p q : Int} {x : AS} (h6 : 0 ≤ x 6 p ∧ x 6 p ≤ 1) : holdS R BE p x 6 q = x 6 q := by
  unfold holdS
  split
  · split
    · rw [asU_f _ _ _ _ (by decide), asU_f _ _ _ _ (by decide), asU_f _ _ _ _ (by decide), asU_f _ _ _ _ (by decide), asU_f _ _ _ _ (by decide), asU_f _ _ _ _ (by decide), asU_f _ _ _ _ (by decide), asU_f _ _ _ _ (by omega)]
    · rw [asU_f _ _ _ _ (by omega)]
  · rfl
theorem hlds_6 {R : ENV → Int} {BE : Int → Int} {x : AS} : ∀ (n : Nat) (p : Int), (∀ p : Int, 0 ≤ p → p < n → 0 ≤ x 6 p ∧ x 6 p ≤ 1) → hlds R BE n x 6 p = x 6 p
  | 0, _, _ => rfl
  | n + 1, p, h => by
    have ih := fun q => hlds_6 (R := R) (BE := BE) (x := x) n q (fun p h0 h1 => h p h0 (by omega))
    show holdS R BE n (hlds R BE n x) 6 p = _
    rw [hold_6 (by rw [ih]; exact h n (by omega) (by omega)), ih]
theorem hold_clds {R : ENV → Int} {BE : Int → Int} {p : Int} {y : AS} (h6 : 0 ≤ y 6 p ∧ y 6 p ≤ 1) : ∀ n : Nat, (n : Int) ≤ p → holdS R BE p (clds n y) = clds n (holdS R BE p y)
  | 0, _ => rfl
  | n + 1, h => by
    show holdS R BE p (coolS n (clds n y)) = coolS n (clds n (holdS R BE p y))
    rw [hold_cool (by omega) (by rw [clds_6]; exact h6), hold_clds h6 n (by omega)]
theorem ilv_e {R : ENV → Int} {BE : Int → Int} {x : AS} : ∀ n : Nat, (∀ p : Int, 0 ≤ p → p < n → 0 ≤ x 6 p ∧ x 6 p ≤ 1) → ilv R BE n x = clds n (hlds R BE n x)
  | 0, _ => rfl
  | n + 1, h => by
    have e6 := hlds_6 (R := R) (BE := BE) (x := x) n n (fun p h0 h1 => h p h0 (by omega))
    show coolS n (holdS R BE n (ilv R BE n x)) = coolS n (clds n (holdS R BE n (hlds R BE n x)))
    rw [ilv_e n (fun p h0 h1 => h p h0 (by omega)), hold_clds (by rw [e6]; exact h n (by omega) (by omega)) n (Int.le_refl _)]
def potS (CO : Int → Int) (q : Int) (x : AS) : AS := asU x 0 q (max 0 (w32 (x 0 q - CO q)))
/-- as the reference does it -/
def potT (CO : Int → Int) (q : Int) (x : AS) : AS := asU x 0 q (max 0 (w32 (x 0 q - (if x 2 q = 0 then CO q else 0))))
def ptds (CO : Int → Int) : Nat → AS → AS
  | 0, x => x
  | n + 1, x => potS CO n (ptds CO n x)
def nowS (x : AS) : AS := asU x 10 1 (w32 (x 10 1 + 1))
def sec (R : ENV → Int) (BE CO : Int → Int) (P H : Nat) (x : AS) : AS := nowS (ptds CO P (clds H (hlds R BE H x)))
/-! what a second keeps -/
theorem bwm_in {R : ENV → Int} {BE : Int → Int} {x : AS} {p : Int} : inI (bwm R BE x p) := by
  have := w32_in (hwm x p + thru R BE x p)
  unfold bwm inI at *
  omega
/-- reading a state that was changed -/
theorem hold_n {R : ENV → Int} {BE : Int → Int} {p : Int} {x : AS} (h : ¬ 0 ≤ x 8 p) : holdS R BE p x = x := if_neg h
theorem hold_w {R : ENV → Int} {BE : Int → Int} {p : Int} {x : AS} (h : 0 ≤ x 8 p) (h1 : ¬ BE p < bwm R BE x p) : holdS R BE p x = asU x (4 + x 6 p) p (bwm R BE x p) := by
  unfold holdS; rw [if_pos h, if_neg h1]
theorem hold_b {R : ENV → Int} {BE : Int → Int} {p : Int} {x : AS} (h : 0 ≤ x 8 p) (h1 : BE p < bwm R BE x p) : holdS R BE p x = asU (asU (asU (asU (asU (asU (asU (asU x (4 + x 6 p) p (bwm R BE x p)) 9 p (w32 (x 9 p + 1))) 11 0 (w32 (x 11 0 + 1))) 11 1 (ior (x 11 1) (ishl 1 p))) 11 2 (ior (x 11 2) (ishl 1 (x 8 p)))) 8 p (-1)) 0 (x 8 p) 0) 2 (x 8 p) 1 := by
  unfold holdS; rw [if_pos h, if_pos h1]
theorem IV_w {L P H : Int} {x : AS} {f p v : Int} (h : IV L P H x) (hf : (f = 4 ∨ f = 5) ∧ inI v ∨ f = 7 ∧ 0 ≤ v ∧ v ≤ 9) : IV L P H (asU x f p v) := by
  obtain ⟨h1, h2, h3, h4⟩ := h
  have e : ∀ a b, a ≠ 4 → a ≠ 5 → a ≠ 7 → asU x f p v a b = x a b := fun a b z1 z2 z3 => asU_f _ _ _ _ (by omega)
  have g : ∀ a b, a ≠ 7 → inI (x a b) → inI (asU x f p v a b) := fun a b y z => by
    rw [asU_app]; split
    · rename_i q
      rcases hf with w | w
      · exact w.2
      · exact absurd (q.1.trans w.1) y
    · exact z
  have g7 : ∀ b, 0 ≤ x 7 b ∧ x 7 b ≤ 9 → 0 ≤ asU x f p v 7 b ∧ asU x f p v 7 b ≤ 9 := fun b z => by
    rw [asU_app]; split
    · rename_i q
      rcases hf with w | w
      · have := q.1; omega
      · exact w.2
    · exact z
  refine ⟨fun q q0 q1 => ?_, fun q r q0 q1 r0 r1 => ?_, fun q q0 q1 => ?_, ?_⟩
  · obtain ⟨a, b, c, d, i, j, k⟩ := h1 q q0 q1
    rw [e 8 q (by decide) (by decide) (by decide), e 3 q (by decide) (by decide) (by decide), e 6 q (by decide) (by decide) (by decide), e 1 _ (by decide) (by decide) (by decide), e 2 _ (by decide) (by decide) (by decide)]
    exact ⟨a, b, c, d, g _ _ (by decide) i, g _ _ (by decide) j, g7 _ k⟩
  · rw [e 8 q (by decide) (by decide) (by decide), e 8 r (by decide) (by decide) (by decide)]; exact h2 q r q0 q1 r0 r1
  · rw [e 0 q (by decide) (by decide) (by decide), e 1 q (by decide) (by decide) (by decide), e 2 q (by decide) (by decide) (by decide)]; exact h3 q q0 q1
  · rw [e 10 1 (by decide) (by decide) (by decide)]; exact h4
theorem IV_n {L P H : Int} {x : AS} {f p v : Int} (h : IV L P H x) (hf : f = 9 ∨ f = 11 ∨ (f = 10 ∧ p = 0)) : IV L P H (asU x f p v) := by
  obtain ⟨h1, h2, h3, h4⟩ := h
  have e : ∀ a b, a < 9 → asU x f p v a b = x a b := fun a b z => asU_f _ _ _ _ (by omega)
  refine ⟨fun q q0 q1 => ?_, fun q r q0 q1 r0 r1 => ?_, fun q q0 q1 => ?_, ?_⟩
  · obtain ⟨a, b, c, d, i, j, k⟩ := h1 q q0 q1
    rw [e 8 q (by decide), e 3 q (by decide), e 6 q (by decide), e 1 _ (by decide), e 2 _ (by decide), e 4 q (by decide), e 5 q (by decide), e 7 q (by decide)]
    exact ⟨a, b, c, d, i, j, k⟩
  · rw [e 8 q (by decide), e 8 r (by decide)]; exact h2 q r q0 q1 r0 r1
  · rw [e 0 q (by decide), e 1 q (by decide), e 2 q (by decide)]; exact h3 q q0 q1
  · rw [asU_app, if_neg (by omega)]; exact h4
/-- a pot that is held is dropped -/
theorem IV_d {L P H : Int} {x : AS} {p : Int} (h : IV L P H x) (p0 : 0 ≤ p) (p1 : p < H) (hp : 0 ≤ x 8 p) : IV L P H (asU (asU (asU x 8 p (-1)) 0 (x 8 p) 0) 2 (x 8 p) 1) := by
  obtain ⟨h1, h2, h3, h4⟩ := h
  obtain ⟨a, b, c, d, -⟩ := h1 p p0 p1
  obtain ⟨d1, d2⟩ := d hp
  generalize hK : x 8 p = K at *
  have e : ∀ f j, f ≠ 8 → f ≠ 0 → f ≠ 2 → asU (asU (asU x 8 p (-1)) 0 K 0) 2 K 1 f j = x f j := fun f j z1 z2 z3 => by
    rw [asU_f _ _ _ _ z3, asU_f _ _ _ _ z2, asU_f _ _ _ _ z1]
  have e8 : ∀ j, asU (asU (asU x 8 p (-1)) 0 K 0) 2 K 1 8 j = if j = p then -1 else x 8 j := fun j => by
    rw [asU_f _ _ _ _ (by decide), asU_f _ _ _ _ (by decide), asU_app]; simp
  have e0 : ∀ j, asU (asU (asU x 8 p (-1)) 0 K 0) 2 K 1 0 j = if j = K then 0 else x 0 j := fun j => by
    rw [asU_f _ _ _ _ (by decide), asU_app, asU_f _ _ _ _ (by decide)]; simp
  have e2 : ∀ j, asU (asU (asU x 8 p (-1)) 0 K 0) 2 K 1 2 j = if j = K then 1 else x 2 j := fun j => by
    rw [asU_app, asU_f _ _ _ _ (by decide), asU_f _ _ _ _ (by decide)]; simp
  refine ⟨fun q q0 q1 => ?_, fun q r q0 q1 r0 r1 hq hn => ?_, fun q q0 q1 => ?_, ?_⟩
  · obtain ⟨a', b', c', d', i, j, k⟩ := h1 q q0 q1
    rw [e8, e 3 q (by decide) (by decide) (by decide), e 6 q (by decide) (by decide) (by decide), e 4 q (by decide) (by decide) (by decide), e 5 q (by decide) (by decide) (by decide), e 7 q (by decide) (by decide) (by decide)]
    refine ⟨by split <;> omega, b', c', fun z => ?_, i, j, k⟩
    by_cases y : q = p
    · rw [if_pos y] at z; omega
    · rw [if_neg y] at z ⊢
      have w : x 8 q ≠ K := fun w => y (h2 q p q0 q1 p0 p1 (w.trans hK.symm) z)
      rw [e 1 _ (by decide) (by decide) (by decide), e2, if_neg w]
      exact d' z
  · rw [e8] at hq hn
    rw [e8] at hq
    by_cases y : q = p
    · rw [if_pos y] at hn; omega
    · rw [if_neg y] at hq hn
      by_cases w : r = p
      · rw [if_pos w] at hq; omega
      · rw [if_neg w] at hq; exact h2 q r q0 q1 r0 r1 hq hn
  · obtain ⟨a', b', c'⟩ := h3 q q0 q1
    rw [e0, e 1 q (by decide) (by decide) (by decide), e2]
    by_cases y : q = K
    · rw [if_pos y, if_pos y]
      subst y
      exact ⟨by omega, b', Or.inr ⟨rfl, rfl, d1⟩⟩
    · rw [if_neg y, if_neg y]; exact ⟨a', b', c'⟩
  · rw [e 10 1 (by decide) (by decide) (by decide)]; exact h4
theorem IV_hold {R : ENV → Int} {BE : Int → Int} {L P H p : Int} {x : AS} (h : IV L P H x) (p0 : 0 ≤ p) (p1 : p < H) : IV L P H (holdS R BE p x) := by
  have h6 := (h.1 p p0 p1).2.2.1
  by_cases z : 0 ≤ x 8 p
  · by_cases w : BE p < bwm R BE x p
    · rw [hold_b z w]
      have k1 := IV_w (p := p) (v := bwm R BE x p) h (Or.inl ⟨(show 4 + x 6 p = 4 ∨ 4 + x 6 p = 5 by omega), bwm_in⟩)
      have k2 := IV_n (p := p) (v := w32 (x 9 p + 1)) k1 (Or.inl rfl)
      have k3 := IV_n (p := 0) (v := w32 (x 11 0 + 1)) k2 (Or.inr (Or.inl rfl))
      have k4 := IV_n (p := 1) (v := ior (x 11 1) (ishl 1 p)) k3 (Or.inr (Or.inl rfl))
      have k5 := IV_n (p := 2) (v := ior (x 11 2) (ishl 1 (x 8 p))) k4 (Or.inr (Or.inl rfl))
      generalize hy : asU (asU (asU (asU (asU x (4 + x 6 p) p (bwm R BE x p)) 9 p (w32 (x 9 p + 1))) 11 0 (w32 (x 11 0 + 1))) 11 1 (ior (x 11 1) (ishl 1 p))) 11 2 (ior (x 11 2) (ishl 1 (x 8 p))) = y at k5 ⊢
      have e : x 8 p = y 8 p := by
        rw [← hy, asU_f _ _ _ _ (by decide), asU_f _ _ _ _ (by decide), asU_f _ _ _ _ (by decide), asU_f _ _ _ _ (by decide), asU_f _ _ _ _ (by omega)]
      rw [e] at z ⊢
      exact IV_d k5 p0 p1 z
    · rw [hold_w z w]
      exact IV_w h (Or.inl ⟨by omega, bwm_in⟩)
  · rw [hold_n z]; exact h
theorem IV_hlds {R : ENV → Int} {BE : Int → Int} {L P H : Int} {x : AS} (h : IV L P H x) : ∀ n : Nat, (n : Int) ≤ H → IV L P H (hlds R BE n x)
  | 0, _ => h
  | n + 1, hn => IV_hold (IV_hlds h n (by omega)) (by omega) (by omega)
theorem IV_cool {L P H q : Int} {x : AS} (h : IV L P H x) : IV L P H (coolS q x) := by
  obtain ⟨h1, h2, h3, h4⟩ := h
  have e : ∀ a b, a ≠ 4 → a ≠ 5 → coolS q x a b = x a b := fun a b z1 z2 => coolS_n (Or.inr ⟨z1, z2⟩)
  have g : ∀ a b, inI (x a b) → inI (coolS q x a b) := fun a b z => by
    rw [coolS_app]; split
    · exact w32_in _
    · exact z
  refine ⟨fun p q0 q1 => ?_, fun p r q0 q1 r0 r1 => ?_, fun p q0 q1 => ?_, ?_⟩
  · obtain ⟨a, b, c, d, i, j, k⟩ := h1 p q0 q1
    rw [e 8 p (by decide) (by decide), e 3 p (by decide) (by decide), e 6 p (by decide) (by decide), e 1 _ (by decide) (by decide), e 2 _ (by decide) (by decide), e 7 p (by decide) (by decide)]
    exact ⟨a, b, c, d, g _ _ i, g _ _ j, k⟩
  · rw [e 8 p (by decide) (by decide), e 8 r (by decide) (by decide)]; exact h2 p r q0 q1 r0 r1
  · rw [e 0 p (by decide) (by decide), e 1 p (by decide) (by decide), e 2 p (by decide) (by decide)]; exact h3 p q0 q1
  · rw [e 10 1 (by decide) (by decide)]; exact h4
theorem IV_clds {L P H : Int} {x : AS} (h : IV L P H x) : ∀ n : Nat, IV L P H (clds n x)
  | 0 => h
  | n + 1 => IV_cool (IV_clds h n)
theorem IV_0 {L P H q v : Int} {x : AS} (h : IV L P H x) (hv : 0 ≤ v ∧ v ≤ 999) (hd : x 2 q = 1 → v = 0) : IV L P H (asU x 0 q v) := by
  obtain ⟨h1, h2, h3, h4⟩ := h
  have e : ∀ a b, a ≠ 0 → asU x 0 q v a b = x a b := fun a b z => asU_f _ _ _ _ z
  refine ⟨fun p q0 q1 => ?_, fun p r q0 q1 r0 r1 => ?_, fun p q0 q1 => ?_, ?_⟩
  · obtain ⟨a, b, c, d, i, j, k⟩ := h1 p q0 q1
    rw [e 8 p (by decide), e 3 p (by decide), e 6 p (by decide), e 1 _ (by decide), e 2 _ (by decide), e 4 p (by decide), e 5 p (by decide), e 7 p (by decide)]
    exact ⟨a, b, c, d, i, j, k⟩
  · rw [e 8 p (by decide), e 8 r (by decide)]; exact h2 p r q0 q1 r0 r1
  · obtain ⟨a, b, c⟩ := h3 p q0 q1
    rw [e 1 p (by decide), e 2 p (by decide), asU_app]
    by_cases y : p = q
    · subst y
      rw [if_pos ⟨rfl, rfl⟩]
      refine ⟨hv, b, ?_⟩
      rcases c with c | ⟨c1, c2, c3⟩
      · exact Or.inl c
      · exact Or.inr ⟨c1, hd c1, c3⟩
    · rw [if_neg (fun z => y z.2)]; exact ⟨a, b, c⟩
  · rw [e 10 1 (by decide)]; exact h4
theorem pot_e {CO : Int → Int} {L P H q : Int} {x : AS} (h : IV L P H x) (q0 : 0 ≤ q) (q1 : q < P) (hc : 0 ≤ CO q ∧ CO q ≤ 9) : potT CO q x = potS CO q x ∧ IV L P H (potS CO q x) := by
  obtain ⟨a, b, c⟩ := h.2.2.1 q q0 q1
  have hw : w32 (x 0 q - CO q) = x 0 q - CO q := w32_eq (by omega) (by omega)
  constructor
  · unfold potT potS
    rcases c with c | ⟨c1, c2, c3⟩
    · rw [if_pos c]
    · rw [if_neg (by omega), hw, w32_eq (by omega) (by omega)]
      congr 1
      omega
  · unfold potS
    refine IV_0 h ?_ (fun z => ?_)
    · rw [hw]; omega
    · rw [hw]; omega
theorem IV_ptds {CO : Int → Int} {L P H : Int} {x : AS} (h : IV L P H x) (hc : ∀ q, 0 ≤ q → q < P → 0 ≤ CO q ∧ CO q ≤ 9) : ∀ n : Nat, (n : Int) ≤ P → IV L P H (ptds CO n x)
  | 0, _ => h
  | n + 1, hn => (pot_e (IV_ptds h hc n (by omega)) (by omega) (by omega) (hc n (by omega) (by omega))).2
theorem IV_now {L P H v : Int} {x : AS} (h : IV L P H x) (hv : inI v) : IV L P H (asU x 10 1 v) := by
  obtain ⟨h1, h2, h3, h4⟩ := h
  have e : ∀ a b, a ≠ 10 → asU x 10 1 v a b = x a b := fun a b z => asU_f _ _ _ _ z
  refine ⟨fun q q0 q1 => ?_, fun q r q0 q1 r0 r1 => ?_, fun q q0 q1 => ?_, ?_⟩
  · obtain ⟨a, b, c, d, i, j, k⟩ := h1 q q0 q1
    rw [e 8 q (by decide), e 3 q (by decide), e 6 q (by decide), e 1 _ (by decide), e 2 _ (by decide), e 4 q (by decide), e 5 q (by decide), e 7 q (by decide)]
    exact ⟨a, b, c, d, i, j, k⟩
  · rw [e 8 q (by decide), e 8 r (by decide)]; exact h2 q r q0 q1 r0 r1
  · rw [e 0 q (by decide), e 1 q (by decide), e 2 q (by decide)]; exact h3 q q0 q1
  · rw [asU_v]; exact hv
theorem IV_sec {R : ENV → Int} {BE CO : Int → Int} {L : Int} {P H : Nat} {x : AS} (h : IV L P H x) (hc : ∀ q : Int, 0 ≤ q → q < P → 0 ≤ CO q ∧ CO q ≤ 9) : IV L P H (sec R BE CO P H x) :=
  IV_now (IV_ptds (IV_clds (IV_hlds h H (Int.le_refl _)) H) hc P (Int.le_refl _)) (w32_in _)
/-! two states that are alike stay so -/
theorem SE_hold {R : ENV → Int} {BE BE' : Int → Int} {L P H p : Int} {x y : AS} (h : IV L P H x) (e : SE P H x y) (n : SN x y) (hb : BE p = BE' p) (p0 : 0 ≤ p) (p1 : p < H) : SE P H (holdS R BE p x) (holdS R BE' p y) ∧ SN (holdS R BE p x) (holdS R BE' p y) := by
  have f : ∀ f, 3 ≤ f → f ≤ 9 → x f p = y f p := fun f f0 f1 => e.2.1 f p f0 f1 p0 p1
  obtain ⟨a, b, c, -⟩ := h.1 p p0 p1
  have e6 := f 6 (by decide) (by decide)
  have e8 := f 8 (by decide) (by decide)
  have ew : hwm x p = hwm y p := by unfold hwm; rw [← e6]; exact f _ (by omega) (by omega)
  by_cases z : 0 ≤ x 8 p
  · have e0 : x 0 (x 8 p) = y 0 (y 8 p) := by rw [← e8]; exact e.1 0 _ (by decide) (by decide) z a.2
    have et : bwm R BE x p = bwm R BE' y p := by
      unfold bwm thru
      rw [ew, e0, f 7 (by decide) (by decide), hb, e.2.2.2, e8, e6]
    have z' : 0 ≤ y 8 p := by rw [← e8]; exact z
    by_cases w : BE p < bwm R BE x p
    · have w' : BE' p < bwm R BE' y p := by rw [← hb, ← et]; exact w
      rw [hold_b z w, hold_b z' w', ← e8, ← e6, ← et]
      have s1 := n 0 (by decide) (by decide)
      have s2 := n 1 (by decide) (by decide)
      have s3 := n 2 (by decide) (by decide)
      have s4 := f 9 (by decide) (by decide)
      rw [s1, s2, s3, s4]
      exact ⟨SE_U _ _ (SE_U _ _ (SE_U _ _ (SE_U _ _ (SE_U _ _ (SE_U _ _ (SE_U _ _ (SE_U _ _ e rfl) rfl) rfl) rfl) rfl) rfl) rfl) rfl, SN_U _ _ (SN_U _ _ (SN_U _ _ (SN_U _ _ (SN_U _ _ (SN_U _ _ (SN_U _ _ (SN_U _ _ n rfl) rfl) rfl) rfl) rfl) rfl) rfl) rfl⟩
    · have w' : ¬ BE' p < bwm R BE' y p := by rw [← hb, ← et]; exact w
      rw [hold_w z w, hold_w z' w', ← e6, ← et]
      exact ⟨SE_U _ _ e rfl, SN_U _ _ n rfl⟩
  · rw [hold_n z, hold_n (by rw [← e8]; exact z)]; exact ⟨e, n⟩
theorem SE_hlds {R : ENV → Int} {BE BE' : Int → Int} {L P H : Int} {x y : AS} (h : IV L P H x) (e : SE P H x y) (n : SN x y) (hb : ∀ p, 0 ≤ p → p < H → BE p = BE' p) : ∀ k : Nat, (k : Int) ≤ H → SE P H (hlds R BE k x) (hlds R BE' k y) ∧ SN (hlds R BE k x) (hlds R BE' k y)
  | 0, _ => ⟨e, n⟩
  | k + 1, hk => by
    obtain ⟨e1, n1⟩ := SE_hlds (R := R) h e n hb k (by omega)
    exact SE_hold (IV_hlds h k (by omega)) e1 n1 (hb k (by omega) (by omega)) (by omega) (by omega)
theorem SE_cool {P H q : Int} {x y : AS} (e : SE P H x y) (n : SN x y) (q0 : 0 ≤ q) (q1 : q < H) : SE P H (coolS q x) (coolS q y) ∧ SN (coolS q x) (coolS q y) := by
  have e6 := e.2.1 6 q (by decide) (by decide) q0 q1
  have e8 := e.2.1 8 q (by decide) (by decide) q0 q1
  refine ⟨⟨fun f j f0 f1 j0 j1 => ?_, fun f j f0 f1 j0 j1 => ?_, ?_, ?_⟩, fun j j0 j1 => ?_⟩
  · rw [coolS_n (Or.inr (by omega)), coolS_n (Or.inr (by omega))]; exact e.1 f j f0 f1 j0 j1
  · rw [coolS_app, coolS_app, e6, e8, e.2.1 f j f0 f1 j0 j1]
  · rw [coolS_n (Or.inr (by decide)), coolS_n (Or.inr (by decide))]; exact e.2.2.1
  · rw [coolS_n (Or.inr (by decide)), coolS_n (Or.inr (by decide))]; exact e.2.2.2
  · rw [coolS_n (Or.inr (by decide)), coolS_n (Or.inr (by decide))]; exact n j j0 j1
theorem SE_clds {P H : Int} {x y : AS} (e : SE P H x y) (n : SN x y) : ∀ k : Nat, (k : Int) ≤ H → SE P H (clds k x) (clds k y) ∧ SN (clds k x) (clds k y)
  | 0, _ => ⟨e, n⟩
  | k + 1, hk => by
    obtain ⟨e1, n1⟩ := SE_clds e n k (by omega)
    exact SE_cool e1 n1 (by omega) (by omega)
theorem SE_ptds {CO CO' : Int → Int} {P H : Int} {x y : AS} (e : SE P H x y) (n : SN x y) (hc : ∀ q, 0 ≤ q → q < P → CO q = CO' q) : ∀ k : Nat, (k : Int) ≤ P → SE P H (ptds CO k x) (ptds CO' k y) ∧ SN (ptds CO k x) (ptds CO' k y)
  | 0, _ => ⟨e, n⟩
  | k + 1, hk => by
    obtain ⟨e1, n1⟩ := SE_ptds e n hc k (by omega)
    have h0 := e1.1 0 k (by decide) (by decide) (by omega) (by omega)
    have h1 := hc k (by omega) (by omega)
    exact ⟨SE_U _ _ e1 (by rw [h0, h1]), SN_U _ _ n1 (by rw [h0, h1])⟩
theorem SE_sec {R : ENV → Int} {BE BE' CO CO' : Int → Int} {L : Int} {P H : Nat} {x y : AS} (h : IV L P H x) (e : SE P H x y) (n : SN x y) (hb : ∀ p : Int, 0 ≤ p → p < H → BE p = BE' p) (hc : ∀ q : Int, 0 ≤ q → q < P → CO q = CO' q) : SE P H (sec R BE CO P H x) (sec R BE' CO' P H y) ∧ SN (sec R BE CO P H x) (sec R BE' CO' P H y) := by
  obtain ⟨e1, n1⟩ := SE_hlds (R := R) h e n hb H (Int.le_refl _)
  obtain ⟨e2, n2⟩ := SE_clds e1 n1 H (Int.le_refl _)
  obtain ⟨e3, n3⟩ := SE_ptds e2 n2 hc P (Int.le_refl _)
  exact ⟨SE_U _ _ e3 (by rw [e3.2.2.2]), SN_U _ _ n3 (by rw [e3.2.2.2])⟩
/-- n seconds -/
def secs (R : ENV → Int) (BE CO : Int → Int) (P H : Nat) : Nat → AS → AS
  | 0, x => x
  | n + 1, x => secs R BE CO P H n (sec R BE CO P H x)
theorem secs_r {R : ENV → Int} {BE CO : Int → Int} {P H : Nat} : ∀ (n : Nat) (x : AS), secs R BE CO P H (n + 1) x = sec R BE CO P H (secs R BE CO P H n x)
  | 0, _ => rfl
  | n + 1, x => secs_r n (sec R BE CO P H x)
theorem IV_secs {R : ENV → Int} {BE CO : Int → Int} {L : Int} {P H : Nat} (hc : ∀ q : Int, 0 ≤ q → q < P → 0 ≤ CO q ∧ CO q ≤ 9) : ∀ (n : Nat) (x : AS), IV L P H x → IV L P H (secs R BE CO P H n x)
  | 0, _, h => h
  | n + 1, x, h => IV_secs hc n _ (IV_sec h hc)
theorem SE_secs {R : ENV → Int} {BE BE' CO CO' : Int → Int} {L : Int} {P H : Nat} (hb : ∀ p : Int, 0 ≤ p → p < H → BE p = BE' p) (hc : ∀ q : Int, 0 ≤ q → q < P → CO q = CO' q) (hk : ∀ q : Int, 0 ≤ q → q < P → 0 ≤ CO q ∧ CO q ≤ 9) : ∀ (n : Nat) (x y : AS), IV L P H x → SE P H x y → SN x y → SE P H (secs R BE CO P H n x) (secs R BE' CO' P H n y) ∧ SN (secs R BE CO P H n x) (secs R BE' CO' P H n y)
  | 0, _, _, _, e, n => ⟨e, n⟩
  | k + 1, x, y, h, e, n => by
    obtain ⟨e1, n1⟩ := SE_sec (R := R) h e n hb hc
    exact SE_secs hb hc hk k _ _ (IV_sec h hk) e1 n1
end
