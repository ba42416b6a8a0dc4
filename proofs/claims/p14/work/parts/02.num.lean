/-! numbers: ints of the machine as whole numbers -/
def inI (v : Int) : Prop := -2147483648 ≤ v ∧ v < 2147483648
def inL (v : Int) : Prop := -9223372036854775808 ≤ v ∧ v < 9223372036854775808
def w32 (v : Int) : Int := (v + 2147483648) % 4294967296 - 2147483648
theorem w32_in (v : Int) : inI (w32 v) := by unfold inI w32; omega
theorem w32_id {v : Int} (h : inI v) : w32 v = v := by unfold inI at h; unfold w32; omega
theorem w32_eq {v : Int} (h1 : -2147483648 ≤ v) (h2 : v < 2147483648) : w32 v = v := w32_id ⟨h1, h2⟩
theorem toInt_in (x : Int32) : inI x.toInt := ⟨by have := Int32.le_toInt x; omega, by have := Int32.toInt_lt x; omega⟩
theorem ofI_toInt {v : Int} (h : inI v) : (Int32.ofInt v).toInt = v := Int32.toInt_ofInt_of_le (by unfold inI at h; omega) (by unfold inI at h; omega)
theorem ofL_toInt {v : Int} (h : inL v) : (Int64.ofInt v).toInt = v := Int64.toInt_ofInt_of_le (by unfold inL at h; omega) (by unfold inL at h; omega)
theorem ofI_bmod (v : Int) : Int32.ofInt (w32 v) = Int32.ofInt v := by
  rw [← Int32.toInt_inj, Int32.toInt_ofInt, Int32.toInt_ofInt]
  unfold w32
  simp only [show Int32.size = 4294967296 from rfl]
  unfold Int.bmod
  dsimp only
  split <;> split <;> omega
theorem ofI_inj {a b : Int} (ha : inI a) (hb : inI b) : Int32.ofInt a = Int32.ofInt b ↔ a = b :=
  ⟨fun h => by rw [← ofI_toInt ha, ← ofI_toInt hb, h], fun h => by rw [h]⟩
theorem ofI_lt {a b : Int} (ha : inI a) (hb : inI b) : Int32.ofInt a < Int32.ofInt b ↔ a < b := by
  rw [Int32.lt_iff_toInt_lt, ofI_toInt ha, ofI_toInt hb]
theorem ofI_le {a b : Int} (ha : inI a) (hb : inI b) : Int32.ofInt a ≤ Int32.ofInt b ↔ a ≤ b := by
  rw [Int32.le_iff_toInt_le, ofI_toInt ha, ofI_toInt hb]
theorem inI_0 : inI 0 := by unfold inI; omega
theorem ofI_zero {a : Int} (ha : inI a) : Int32.ofInt a = 0 ↔ a = 0 := ofI_inj ha inI_0
theorem ofI_idx {i : Int} (h0 : 0 ≤ i) (h : i < 2147483648) : (Int32.ofInt i).toNatClampNeg = i.toNat := by
  show (Int32.ofInt i).toInt.toNat = i.toNat
  rw [ofI_toInt ⟨by omega, h⟩]
theorem ofI_not {i : Int} {n : Nat} (h0 : 0 ≤ i) (h : i < n) (hn : n < 2147483648) : ¬ (Int32.ofInt i < 0 ∨ n ≤ (Int32.ofInt i).toNatClampNeg) := by
  rw [ofI_idx h0 (by omega)]
  rintro (q | q)
  · rw [show (0 : Int32) = Int32.ofInt 0 from rfl, ofI_lt ⟨by omega, by omega⟩ inI_0] at q; omega
  · omega
def iand (a b : Int) : Int := (Int32.ofInt a &&& Int32.ofInt b).toInt
def ior (a b : Int) : Int := (Int32.ofInt a ||| Int32.ofInt b).toInt
def ixor (a b : Int) : Int := (Int32.ofInt a ^^^ Int32.ofInt b).toInt
def ishl (a b : Int) : Int := (Int32.ofInt a <<< (Int32.ofInt b &&& 31)).toInt
def ishr (a b : Int) : Int := (Int32.ofInt a >>> (Int32.ofInt b &&& 31)).toInt
def iushr (a b : Int) : Int := ((Int32.ofInt a).toUInt32 >>> ((Int32.ofInt b).toUInt32 &&& Int32.toUInt32 31)).toInt32.toInt
def idv (a b : Int) : Int := (Int32.ofInt a / Int32.ofInt b).toInt
def irm (a b : Int) : Int := (Int32.ofInt a - Int32.ofInt a / Int32.ofInt b * Int32.ofInt b).toInt
def i2b (a : Int) : Int := (Int32.ofInt a).toInt8.toInt32.toInt
def i2s (a : Int) : Int := (Int32.ofInt a).toInt16.toInt32.toInt
def i2c (a : Int) : Int := ((Int32.ofInt a).toUInt32 % 65536).toInt32.toInt
theorem idv_eq {a b : Int} (ha : inI a) (hb : inI b) (h : ¬ b = -1) : idv a b = a.tdiv b := by
  unfold idv
  rw [Int32.toInt_div_of_ne_right, ofI_toInt ha, ofI_toInt hb]
  rw [show (-1 : Int32) = Int32.ofInt (-1) from rfl, ne_eq, ofI_inj hb ⟨by omega, by omega⟩]
  exact h
theorem irm_eq {a b : Int} (ha : inI a) (hb : inI b) (h : ¬ b = -1) (h0 : ¬ b = 0) : irm a b = a.tmod b := by
  unfold irm
  have e := idv_eq ha hb h
  unfold idv at e
  have e2 : Int32.ofInt a / Int32.ofInt b = Int32.ofInt (a.tdiv b) := by rw [← e, Int32.ofInt_toInt]
  rw [e2, ← Int32.ofInt_mul, ← Int32.ofInt_sub]
  have e3 : a - a.tdiv b * b = a.tmod b := by rw [Int.tmod_def, Int.mul_comm]
  rw [e3, ofI_toInt]
  unfold inI at *
  have h1 := Int.natAbs_tmod a b
  have h2 : a.natAbs % b.natAbs < b.natAbs := Nat.mod_lt _ (by omega)
  omega
