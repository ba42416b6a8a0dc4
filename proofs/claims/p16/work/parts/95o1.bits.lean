/-! bits of small numbers (common) -/
theorem tb_nat {t k : Nat} (hk : k < 32) : tb (t : Int) k = t.testBit k := by
  show (BitVec.ofInt 32 (t : Int)).getLsbD k = t.testBit k
  rw [BitVec.ofInt_natCast, BitVec.getLsbD_ofNat]
  simp [hk]
theorem tb_nn {v : Int} {k : Nat} (h : 0 ≤ v) (hk : k < 32) : tb v k = v.toNat.testBit k := by
  have z := tb_nat (t := v.toNat) hk
  rw [show ((v.toNat : Nat) : Int) = v by omega] at z
  exact z
theorem sub_b {y s : Int} : iand y (ixor s (-1)) = 0 ↔ ∀ k : Nat, k < 32 → tb y k = true → tb s k = true := by
  constructor
  · intro h k hk hy
    have z := tb_and y (ixor s (-1)) k
    rw [h, tb_0, tb_xor, tb_m1 hk, hy] at z
    cases x : tb s k with
    | true => rfl
    | false => rw [x] at z; exact absurd z (by decide)
  · intro h
    refine tb_ext (iand_in _ _) inI_0 (fun k hk => ?_)
    rw [tb_and, tb_xor, tb_m1 hk, tb_0]
    cases x : tb y k with
    | false => rfl
    | true => rw [h k hk x]; rfl
theorem askb {x w : Int} (hw : 0 ≤ w ∧ w < 32) : iand (ishr x w) 1 = 1 ↔ tb x w.toNat = true := by
  obtain ⟨n, rfl⟩ : ∃ n : Nat, w = n := ⟨w.toNat, by omega⟩
  rw [bit_ask (by omega), Int.toNat_natCast]
  generalize tb x n = z
  cases z <;> decide
theorem askn {x w : Int} (hw : 0 ≤ w ∧ w < 32) : iand (ishr x w) 1 ≠ 0 ↔ tb x w.toNat = true := by
  obtain ⟨n, rfl⟩ : ∃ n : Nat, w = n := ⟨w.toNat, by omega⟩
  rw [bit_ask (by omega), Int.toNat_natCast]
  generalize tb x n = z
  cases z <;> decide
/-- one of a set -/
def sBt (v j : Int) : Bool := tb v j.toNat
theorem sBt_1 {x w : Int} (hw : 0 ≤ w ∧ w < 32) : sBt x w = true ↔ iand (ishr x w) 1 = 1 := (askb hw).symm
theorem sBt_d {x u w : Int} (hw : 0 ≤ w ∧ w < 32) : iand (ishr (iand x (ixor u (-1))) w) 1 ≠ 0 ↔ sBt x w = true ∧ sBt u w = false := by
  rw [askn hw, tb_and, tb_xor, tb_m1 (by omega)]
  unfold sBt
  generalize tb x w.toNat = y
  generalize tb u w.toNat = z
  cases y <;> cases z <;> decide
theorem sBt_i {u p v : Int} (hp : 0 ≤ p ∧ p < 32) (hv : 0 ≤ v ∧ v < 32) : sBt (ior u (ishl 1 p)) v = (sBt u v || decide (v = p)) := by
  obtain ⟨n, rfl⟩ : ∃ n : Nat, p = n := ⟨p.toNat, by omega⟩
  unfold sBt
  rw [tb_or, tb_bit (by omega) (by omega)]
  congr 1
  exact decide_eq_decide.2 (by omega)
theorem sBt_0 (v : Int) : sBt 0 v = false := tb_0 _
/-- how many of a set -/
def cnB (u : Int) : Nat → Int
  | 0 => 0
  | k + 1 => cnB u k + (if sBt u (k : Int) = true then 1 else 0)
theorem cnB_r (u : Int) : ∀ k : Nat, 0 ≤ cnB u k ∧ cnB u k ≤ k
  | 0 => ⟨Int.le_refl _, Int.le_refl _⟩
  | k + 1 => by
    have h := cnB_r u k
    show 0 ≤ cnB u k + (if sBt u (k : Int) = true then 1 else 0) ∧ cnB u k + (if sBt u (k : Int) = true then 1 else 0) ≤ ((k + 1 : Nat) : Int)
    split <;> omega
theorem cnB_i {u p : Int} (hp : 0 ≤ p ∧ p < 32) (h : sBt u p = false) : ∀ k : Nat, k ≤ 32 → cnB (ior u (ishl 1 p)) k = cnB u k + (if p < k then 1 else 0)
  | 0, _ => by
    show (0 : Int) = 0 + (if p < ((0 : Nat) : Int) then 1 else 0)
    rw [if_neg (by omega)]; rfl
  | k + 1, hk => by
    have i := cnB_i hp h k (by omega)
    show cnB (ior u (ishl 1 p)) k + (if sBt (ior u (ishl 1 p)) (k : Int) = true then 1 else 0) = cnB u k + (if sBt u (k : Int) = true then 1 else 0) + (if p < ((k + 1 : Nat) : Int) then 1 else 0)
    rw [i, sBt_i hp ⟨by omega, by omega⟩]
    by_cases z : (k : Int) = p
    · rw [z, h, decide_eq_true rfl, if_neg (by omega), if_pos (show (false || true) = true from rfl), if_neg (show ¬ false = true by decide), if_pos (by omega)] <;> omega
    · rw [decide_eq_false z, Bool.or_false]
      by_cases y : p < (k : Int)
      · rw [if_pos y, if_pos (show p < ((k + 1 : Nat) : Int) by omega)]; omega
      · rw [if_neg y, if_neg (show ¬ p < ((k + 1 : Nat) : Int) by omega)]; omega
