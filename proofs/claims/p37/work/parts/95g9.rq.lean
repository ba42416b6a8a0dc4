/-- how one of the people carries, as the reference keeps it -/
abbrev c0R (m : Mem) (a b : Int) : CR := (m 258 (16 + 7 * a + m 258 (18 + 7 * a)), 0, m 258 (3 * b), m 258 51, m 258 (18 + 7 * a))
def HRq (m : Mem) (R : ENV → Int) (a b n v : Int) : Int := (cHo R a b (m 257 a) (m 258 (19 + 7 * a)) (m 256 b) n.toNat (m 258 (16 + 7 * a + m 258 (18 + 7 * a)), 0, v, m 258 51, m 258 (18 + 7 * a))).1
theorem CI_R0 {L a b : Int} {m : Mem} (h8 : m 249 5 ≤ 5 ∧ m 249 6 ≤ 5) (hI : IV L (m 249 5) (m 249 6) (asR m 258 0)) (hK : KR2 m) (ha : 0 ≤ a ∧ a < m 249 6) (hb : 0 ≤ b ∧ b < m 249 5) : CI a b (m 257 a) (m 258 (19 + 7 * a)) (m 256 b) (c0R m a b) := by
  obtain ⟨i1, i2, i3, i4, i5, i6, i7⟩ := hI.1 a ha.1 ha.2
  have a5 : 0 ≤ a ∧ a < 5 := by omega
  have b5 : 0 ≤ b ∧ b < 5 := by omega
  rw [r_6 m a5] at i3
  rw [r_7 m a5] at i7
  rw [r_4 m a5] at i5
  rw [r_5 m a5] at i6
  have h0 := (hI.2.2.1 b hb.1 hb.2).1
  rw [r_0 m b5] at h0
  have hn := hI.2.2.2
  rw [r_no] at hn
  have : m 258 (18 + 7 * a) = 0 ∨ m 258 (18 + 7 * a) = 1 := by omega
  refine ⟨⟨a5, b5, hK.1 a ha.1 ha.2, i7, hK.2 b hb.1 hb.2⟩, ?_, inI_0, h0, hn, i3⟩
  show inI (m 258 (16 + 7 * a + m 258 (18 + 7 * a)))
  rcases this with z | z
  · rw [z, Int.add_zero]; exact i5
  · rw [z, show 16 + 7 * a + 1 = 17 + 7 * a by omega]; exact i6