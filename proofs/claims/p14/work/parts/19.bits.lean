/-! bits of an int -/
def tb (x : Int) (k : Nat) : Bool := (Int32.ofInt x).toBitVec.getLsbD k
theorem sh_am : ∀ n : Nat, n < 32 → ((Int32.ofInt (n : Int) &&& 31).toBitVec.smod 32).toNat = n := by decide +kernel
theorem ofI_ofI (x : Int32) : Int32.ofInt x.toInt = x := Int32.ofInt_toInt x
theorem tb_and (x y : Int) (k : Nat) : tb (iand x y) k = (tb x k && tb y k) := by
  unfold tb iand; rw [ofI_ofI]; simp
theorem tb_or (x y : Int) (k : Nat) : tb (ior x y) k = (tb x k || tb y k) := by
  unfold tb ior; rw [ofI_ofI]; simp
theorem tb_xor (x y : Int) (k : Nat) : tb (ixor x y) k = (tb x k ^^ tb y k) := by
  unfold tb ixor; rw [ofI_ofI]; simp
theorem tb_m1 {k : Nat} (h : k < 32) : tb (-1) k = true := by
  have : ∀ k : Nat, k < 32 → tb (-1) k = true := by decide +kernel
  exact this k h
theorem tb_0 (k : Nat) : tb 0 k = false := by
  unfold tb
  show (0 : BitVec 32).getLsbD k = false
  simp
theorem tb_shl {x : Int} {p k : Nat} (hp : p < 32) (hk : k < 32) : tb (ishl x p) k = (decide (p ≤ k) && tb x (k - p)) := by
  unfold tb ishl
  rw [ofI_ofI, Int32.toBitVec_shiftLeft]
  have e := sh_am p hp
  rw [BitVec.shiftLeft_eq', e, BitVec.getLsbD_shiftLeft]
  by_cases h : k < p
  · simp [h, Nat.not_le.mpr h]
  · simp [h, hk, Nat.not_lt.mp h]
theorem tb_ext {x y : Int} (hx : inI x) (hy : inI y) (h : ∀ k, k < 32 → tb x k = tb y k) : x = y := by
  rw [← ofI_inj hx hy, ← Int32.toBitVec_inj]
  apply BitVec.eq_of_getLsbD_eq
  intro i hi
  exact h i hi
theorem iand_in (x y : Int) : inI (iand x y) := toInt_in _
theorem ior_in (x y : Int) : inI (ior x y) := toInt_in _
theorem tb_1 {k : Nat} (h : k < 32) : tb 1 k = decide (k = 0) := by
  have : ∀ k : Nat, k < 32 → tb 1 k = decide (k = 0) := by decide +kernel
  exact this k h
theorem tb_bit {p k : Nat} (hp : p < 32) (hk : k < 32) : tb (ishl 1 p) k = decide (k = p) := by
  rw [tb_shl hp hk]
  by_cases h : p ≤ k
  · rw [tb_1 (by omega)]
    simp [h]
    omega
  · simp [h]; omega
/-- the bit, as the two programs ask for it -/
theorem bit_ask {x : Int} {p : Nat} (hp : p < 32) : iand (ishr x p) 1 = if tb x p then 1 else 0 := by
  refine tb_ext (iand_in _ _) (by unfold inI; split <;> omega) (fun k hk => ?_)
  rw [tb_and, tb_1 hk]
  by_cases h0 : k = 0
  · subst h0
    have : tb (ishr x p) 0 = tb x p := by
      unfold tb ishr
      rw [ofI_ofI, Int32.toBitVec_shiftRight]
      have e := sh_am p hp
      rw [BitVec.sshiftRight_eq', e, BitVec.getLsbD_sshiftRight]
      simp [hp]
    rw [this]
    by_cases hb : tb x p = true
    · simp [hb, tb_1]
    · have hb' : tb x p = false := by simpa using hb
      simp [hb', tb_0]
  · by_cases hb : tb x p = true
    · rw [if_pos hb, tb_1 hk]; simp [h0]
    · rw [if_neg hb, tb_0]; simp [h0]
