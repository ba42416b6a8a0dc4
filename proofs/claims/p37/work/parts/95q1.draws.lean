/-! dinners: the draws, and how many are there unburnt (pure) -/
theorem iand65 (a : Int) : 0 ≤ iand a 65535 ∧ iand a 65535 < 65536 := by
  unfold iand
  obtain ⟨j, hj, e⟩ := pk_andE (Int32.ofInt a) (m := 65535) 16 (by decide)
  have e2 : Int32.ofInt a &&& Int32.ofInt 65535 = nI j := e
  rw [e2, nI_toInt (by omega)]
  omega
theorem tb65 : ∀ k : Nat, k < 32 → tb 65535 k = decide (k < 16) := by decide +kernel
theorem ush16 (a : Int) : 0 ≤ iushr a 16 ∧ iushr a 16 < 65536 := by
  have e : iushr a 16 = iand (iushr a 16) 65535 := by
    refine tb_ext (toInt_in _) (iand_in _ _) (fun k hk => ?_)
    rw [tb_and, tb65 k hk]
    by_cases h5 : k < 16
    · simp [h5]
    · have := tb_ush (x := a) (p := 16) (k := k) (by omega)
      have z : tb a (16 + k) = false := by
        unfold tb
        exact BitVec.getLsbD_of_ge _ _ (by omega)
      rw [show ((16 : Nat) : Int) = 16 from rfl] at this
      simp [h5, this, z]
  rw [e]
  exact iand65 _
/-- what a draw becomes -/
def dnx (s : Int) : Int := w32 (w32 (s * 1103515245) + 12345)
/-- the heat of a dinner's pot -/
def dht (h s : Int) : Int := min 999 (w32 (h + irm (iushr s 16) 200))
theorem irm200 (s : Int) : 0 ≤ irm (iushr s 16) 200 ∧ irm (iushr s 16) 200 < 200 := by
  have h := ush16 s
  rw [irm_eq (by unfold inI; omega) (by unfold inI; omega) (by decide) (by decide), Int.tmod_eq_emod_of_nonneg h.1]
  omega
theorem dht_r {h s : Int} (h0 : 0 ≤ h ∧ h ≤ 999) : 0 ≤ dht h s ∧ dht h s ≤ 999 := by
  have q := irm200 s
  unfold dht
  rw [w32_eq (by omega) (by omega)]
  omega
/-- how many of some dinners come there unburnt -/
def dC (A : Int → Int) (S h : Int) : Nat → Int → Int → Int
  | 0, _, n => n
  | k + 1, s, n => dC A S h k (dnx s) (if A (dht h (dnx s)) = S then n + 1 else n)
theorem dC_y {A : Int → Int} {S h : Int} {k : Nat} {s n : Int} (c : A (dht h (dnx s)) = S) : dC A S h (k + 1) s n = dC A S h k (dnx s) (n + 1) := by
  show dC A S h k (dnx s) (if A (dht h (dnx s)) = S then n + 1 else n) = _
  rw [if_pos c]
theorem dC_n {A : Int → Int} {S h : Int} {k : Nat} {s n : Int} (c : ¬ A (dht h (dnx s)) = S) : dC A S h (k + 1) s n = dC A S h k (dnx s) n := by
  show dC A S h k (dnx s) (if A (dht h (dnx s)) = S then n + 1 else n) = _
  rw [if_neg c]
theorem dC_e {A B : Int → Int} {S h : Int} (hh : 0 ≤ h ∧ h ≤ 999) (e : ∀ v, 0 ≤ v → v ≤ 999 → A v = B v) : ∀ (k : Nat) (s n : Int), dC A S h k s n = dC B S h k s n
  | 0, _, _ => rfl
  | k + 1, s, n => by
    have r := dht_r (s := dnx s) hh
    have z := e _ r.1 r.2
    by_cases c : A (dht h (dnx s)) = S
    · rw [dC_y c, dC_y (by rw [← z]; exact c), dC_e hh e k]
    · rw [dC_n c, dC_n (by rw [← z]; exact c), dC_e hh e k]
/-- a leg of a shortest path -/
theorem leg_b {pr o t F : Int → Int} {W : Nat} {n g a c : Int} (h : PTH pr o t W n g F) (hN : isN F (wS pr o t W) n a c) (hf : F a < 1000000) : 1 ≤ F a - F c ∧ F a - F c ≤ 999 ∧ F c < 1000000 := by
  obtain ⟨⟨c0, c1, c2, c3⟩, -⟩ := hN
  obtain ⟨h1, h2, h3, h4, h5, h6⟩ := h
  have q := h4 c c0 c1
  obtain ⟨w, w1, w2, w3, w4⟩ := wS_at (pr := pr) (o := o) (t := t) (a := a) (b := c) W (by omega)
  have := (h1 w w1 w2).1
  omega
theorem PWY_le {pr o t F : Int → Int} {W : Nat} {n g f s : Int} {A : Int → Int} (h : PTH pr o t W n g F) (hP : PWY F (wS pr o t W) n f g A s) (hf : F f < 1000000) : ∀ k : Nat, (k : Int) < s → F (A (k : Int)) < 1000000 ∧ F f ≤ F (A (k : Int)) + 999 * (k : Int)
  | 0, _ => by
    have e : A ((0 : Nat) : Int) = f := hP.2.1
    rw [e]; omega
  | k + 1, hk => by
    obtain ⟨i1, i2⟩ := PWY_le h hP hf k (by omega)
    obtain ⟨z1, z2⟩ := hP.2.2.2.2 (k : Int) (by omega) (by omega)
    have q := leg_b h z2 i1
    rw [show ((k + 1 : Nat) : Int) = (k : Int) + 1 by omega]
    omega
theorem PWY_S {pr o t F : Int → Int} {W : Nat} {n g f s : Int} {A : Int → Int} (h : PTH pr o t W n g F) (hP : PWY F (wS pr o t W) n f g A s) (hf : F f < 1000000) : 0 ≤ F f ∧ F f ≤ 8991 := by
  obtain ⟨⟨s1, s2⟩, e0, e1, e2, -⟩ := id hP
  have z := (PWY_le h hP hf (s - 1).toNat (by omega)).2
  rw [show (((s - 1).toNat : Nat) : Int) = s - 1 by omega, e1, h.2.2.1] at z
  have r := e2 0 (by omega) (by omega)
  rw [e0] at r
  have r2 := (h.2.2.2.1 f r.1 r.2).1
  omega
