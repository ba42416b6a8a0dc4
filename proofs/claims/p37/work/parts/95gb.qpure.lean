/-! the answers of lasts, swaps, often, layers, hottest on both sides (pure) -/
section
variable {R : ENV → Int} {L a : Int} {m m1 : Mem}
/-- what both sides have alike -/
def QE (L : Int) (m m1 : Mem) : Prop := ((0 ≤ m 8 2 ∧ m 8 2 ≤ 5) ∧ (0 ≤ m 8 3 ∧ m 8 3 ≤ 5)) ∧ IV L (m 8 2) (m 8 3) (asC m 15) ∧ BN (m 8 2) (m 8 3) (asC m 15) ∧ SE (m 8 2) (m 8 3) (asC m 15) (asR m1 258 0) ∧ (m1 249 5 = m 8 2 ∧ m1 249 6 = m 8 3) ∧ (∀ p, 0 ≤ p → p < m 8 3 → m1 257 p = m 14 p) ∧ (∀ q, 0 ≤ q → q < m 8 2 → m1 256 q = m 13 q ∧ 0 ≤ m 13 q ∧ m 13 q ≤ 9)
/-- one holds a pot on both sides alike -/
theorem QEh (h : QE L m m1) (a0 : 0 ≤ a) (a1 : a < m 8 3) : m1 258 (20 + 7 * a) = m 23 a ∧ (m 23 a ≠ -1 ↔ 0 ≤ m 23 a) := by
  obtain ⟨⟨⟨p0, p5⟩, ⟨h0, h5⟩⟩, hI, hN, hS, -⟩ := h
  have a5 : 0 ≤ a ∧ a < 5 := by omega
  have e := hS.2.1 8 a (by decide) (by decide) a0 a1
  have i := (hI.1 a a0 a1).1
  rw [c_8 m a5] at e i
  rw [r_8 m1 a5] at e
  exact ⟨e.symm, by omega⟩
theorem QE0 {b : Int} (h : QE L m m1) (a0 : 0 ≤ a) (a1 : a < m 8 3) (b0 : 0 ≤ b) (b1 : b < m 8 2) : (m1 257 a = m 14 a ∧ m1 256 b = m 13 b ∧ m1 258 (19 + 7 * a) = m 22 a) ∧ (m1 258 (18 + 7 * a) = m 21 a ∧ m1 258 (3 * b) = m 16 b ∧ m1 258 51 = m 15 11 ∧ m1 258 (16 + 7 * a + m 21 a) = m 20 (2 * a + m 21 a)) := by
  obtain ⟨⟨⟨p0, p5⟩, ⟨h0, h5⟩⟩, hI, hN, hS, ⟨k5, k6⟩, kb, kc⟩ := h
  have a5 : 0 ≤ a ∧ a < 5 := by omega
  have b5 : 0 ≤ b ∧ b < 5 := by omega
  have e7 := hS.2.1 7 a (by decide) (by decide) a0 a1
  have e6 := hS.2.1 6 a (by decide) (by decide) a0 a1
  have e0 := hS.1 0 b (by decide) (by decide) b0 b1
  have en := hS.2.2.2
  have h6 := (hI.1 a a0 a1).2.2.1
  rw [c_7 m a5, r_7 m1 a5] at e7
  rw [c_6 m a5] at h6
  rw [c_6 m a5, r_6 m1 a5] at e6
  rw [c_0 m b5, r_0 m1 b5] at e0
  rw [c_no, r_no] at en
  have ew := hS.2.1 (4 + m 21 a) a (by omega) (by omega) a0 a1
  rw [asC_rh m h6 a5, r_h m1 h6 a5] at ew
  exact ⟨⟨kb a a0 a1, (kc b b0 b1).1, e7.symm⟩, e6.symm, e0.symm, en.symm, ew.symm⟩
theorem HAR {b n v : Int} (h : QE L m m1) (a0 : 0 ≤ a) (a1 : a < m 8 3) (b0 : 0 ≤ b) (b1 : b < m 8 2) : HRq m1 R a b n v = HA m R a b n v := by
  obtain ⟨⟨e1, e2, e3⟩, e4, e5, e6, e7⟩ := QE0 h a0 a1 b0 b1
  unfold HRq HA
  rw [e1, e2, e3, e4, e6, e7]
  exact cHo_o n.toNat _ _ _ _ _
theorem if_e {c c' : Prop} [Decidable c] [Decidable c'] {v w z : Int} (h : c ↔ c') (e : c → v = w) : (if c then v else z) = (if c' then w else z) := by
  by_cases k : c
  · rw [if_pos k, if_pos (h.1 k)]; exact e k
  · rw [if_neg k, if_neg (fun q => k (h.2 q))]
end
