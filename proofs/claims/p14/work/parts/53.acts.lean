/-! numbers; states copied; seconds -/
theorem and1 (a : Int) : 0 ≤ iand a 1 ∧ iand a 1 ≤ 1 := by
  unfold iand
  obtain ⟨j, hj, e⟩ := pk_andE (Int32.ofInt a) (m := 1) 1 (by decide)
  have e2 : Int32.ofInt a &&& Int32.ofInt 1 = nI j := e
  rw [e2]
  have : ∀ j : Nat, j < 2 → 0 ≤ (nI j).toInt ∧ (nI j).toInt ≤ 1 := by decide +kernel
  exact this j hj
theorem ixneg {a : Int} (h : inI a) : ixor a 16 < 0 ↔ a < 0 := by
  have e : (Int32.ofInt a).toInt = a := by
    unfold inI at h
    exact Int32.toInt_ofInt_of_le (by omega) (by omega)
  have k : ∀ x : Int32, (x ^^^ Int32.ofInt 16).toInt < 0 ↔ x.toInt < 0 := by
    intro x
    have m1 : (x ^^^ Int32.ofInt 16).toBitVec.msb = decide ((x ^^^ Int32.ofInt 16).toBitVec.toInt < 0) := BitVec.msb_eq_toInt
    have m2 : x.toBitVec.msb = decide (x.toBitVec.toInt < 0) := BitVec.msb_eq_toInt
    rw [Int32.toBitVec_xor, BitVec.msb_xor] at m1
    have m3 : (Int32.ofInt 16).toBitVec.msb = false := by decide
    rw [m3, m2] at m1
    simp only [Bool.bne_false, decide_eq_decide] at m1
    exact m1.symm
  have := k (Int32.ofInt a)
  rw [e] at this
  exact this
theorem st_sr : ∀ n ∈ [(15 : Int), 15, 31, 41, 51, 61, 71, 81, 91, 101, 111, 121, 131, 141, 151, 161, 171, 181, 219, 229, 239], 0 < n ∧ n < 280 ∧ kcls n = 5 ∧ SR n 0 = n + 1 ∧ SR n 1 = n + 2 ∧ SR n 2 = n + 3 ∧ SR n 4 = n + 4 ∧ SR n 5 = n + 5 ∧ SR n 6 = n + 6 ∧ SR n 7 = n + 7 ∧ SR n 8 = n + 8 ∧ SR n 9 = n + 9 := by decide +kernel
theorem st_kc : ∀ n ∈ [(15 : Int), 15, 31, 41, 51, 61, 71, 81, 91, 101, 111, 121, 131, 141, 151, 161, 171, 181, 219, 229, 239], kcls (n + 1) = 14 ∧ klen (n + 1) = 5 ∧ kcls (n + 2) = 14 ∧ klen (n + 2) = 5 ∧ kcls (n + 3) = 14 ∧ klen (n + 3) = 5 ∧ kcls (n + 4) = 14 ∧ klen (n + 4) = 5 ∧ kcls (n + 5) = 14 ∧ klen (n + 5) = 10 ∧ kcls (n + 6) = 14 ∧ klen (n + 6) = 5 ∧ kcls (n + 7) = 14 ∧ klen (n + 7) = 5 ∧ kcls (n + 8) = 14 ∧ klen (n + 8) = 5 ∧ kcls (n + 9) = 14 ∧ klen (n + 9) = 5 := by decide +kernel
theorem st_sc : ∀ n ∈ [(15 : Int), 15, 31, 41, 51, 61, 71, 81, 91, 101, 111, 121, 131, 141, 151, 161, 171, 181, 219, 229, 239], n = 15 ∨ 31 ≤ n ∧ n ≤ 181 ∧ n % 10 = 1 ∨ 219 ≤ n ∧ n ≤ 239 ∧ n % 10 = 9 := by decide +kernel
theorem sr27 : ∀ v : Nat, v < 16 → SR 27 (v : Int) = 31 + 10 * (v : Int) ∧ (31 + 10 * (v : Int)) ∈ [(15 : Int), 15, 31, 41, 51, 61, 71, 81, 91, 101, 111, 121, 131, 141, 151, 161, 171, 181, 219, 229, 239] := by decide +kernel
theorem sr27i {v : Int} (h0 : 0 ≤ v) (h1 : v ≤ 15) : (0 < SR 27 v ∧ SR 27 v < 289 ∧ kcls (SR 27 v) = 5) ∧ SR 27 v ∈ [(15 : Int), 15, 31, 41, 51, 61, 71, 81, 91, 101, 111, 121, 131, 141, 151, 161, 171, 181, 219, 229, 239] := by
  obtain ⟨k, rfl⟩ : ∃ k : Nat, v = k := ⟨v.toNat, by omega⟩
  obtain ⟨a, b⟩ := sr27 k (by omega)
  rw [a]
  exact ⟨⟨by omega, by omega, (st_sr _ b).2.2.1⟩, b⟩