/-! all that THE KITCHEN tells, as the reference keeps it, with what was read so far -/
def kvR (m : Mem) : Int → Int := fun j =>
  if j < 100 then (if j - 0 < m 249 3 then m 251 (j - 0) else m 261 (j - 0 - m 249 3)) else
  if j < 120 then (if j - 100 < m 249 4 then m 252 (j - 100) else m 262 (4 * (j - 100 - m 249 4))) else
  if j < 140 then (if j - 120 < m 249 4 then m 253 (j - 120) else m 262 (4 * (j - 120 - m 249 4) + 1)) else
  if j < 160 then (if j - 140 < m 249 4 then m 254 (j - 140) else m 262 (4 * (j - 140 - m 249 4) + 2)) else
  if j < 200 then (if j - 160 < m 249 4 then m 255 (j - 160) else (if m 262 (4 * (j - 160 - m 249 4) + 3) = 1 then 1 else 0)) else
  if j < 210 then (if j - 200 < m 249 5 then m 258 (3 * (j - 200)) else m 263 (3 * (j - 200 - m 249 5))) else
  if j < 220 then (if j - 210 < m 249 5 then m 258 (3 * (j - 210) + 1) else m 263 (3 * (j - 210 - m 249 5) + 2)) else
  if j < 230 then (if j - 220 < m 249 5 then m 258 (3 * (j - 220) + 2) else 0) else
  if j < 300 then (if j - 230 < m 249 5 then m 256 (j - 230) else m 263 (3 * (j - 230 - m 249 5) + 1)) else
  if j < 310 then (if j - 300 < m 249 6 then m 257 (j - 300) else m 264 (2 * (j - 300 - m 249 6))) else
  if j < 320 then (if j - 310 < m 249 6 then m 258 (15 + 7 * (j - 310)) else m 264 (2 * (j - 310 - m 249 6) + 1)) else
  if j < 330 then (if j - 320 < m 249 6 then m 258 (16 + 7 * (j - 320)) else 0) else
  if j < 340 then (if j - 330 < m 249 6 then m 258 (17 + 7 * (j - 330)) else 0) else
  if j < 350 then (if j - 340 < m 249 6 then m 258 (18 + 7 * (j - 340)) else 0) else
  if j < 360 then (if j - 350 < m 249 6 then m 258 (19 + 7 * (j - 350)) else 0) else
  if j < 370 then (if j - 360 < m 249 6 then m 258 (20 + 7 * (j - 360)) else -1) else
  (if j - 370 < m 249 6 then m 258 (21 + 7 * (j - 370)) else 0)
theorem kvR_e {m m' : Mem} (e : ∀ x, (251 ≤ x ∧ x ≤ 258) ∨ (261 ≤ x ∧ x ≤ 264) → m' x = m x) (e9 : ∀ j, 3 ≤ j → j ≤ 6 → m' 249 j = m 249 j) : kvR m' = kvR m := by
  unfold kvR
  rw [e9 3 (by decide) (by decide), e9 4 (by decide) (by decide), e9 5 (by decide) (by decide), e9 6 (by decide) (by decide), e 251 (by omega), e 252 (by omega), e 253 (by omega), e 254 (by omega), e 255 (by omega), e 256 (by omega), e 257 (by omega), e 258 (by omega), e 261 (by omega), e 262 (by omega), e 263 (by omega), e 264 (by omega)]
theorem kvR_P (m : Mem) {n v x r : Int} (hr : r = m 249 26) (hn : n = m 249 3 + m 249 26) (hc : 0 ≤ m 249 26 ∧ n < 100) : kvR (upm (upm m 261 r v) 249 26 x) = kup (kvR m) n v := by
  funext j
  unfold kvR kup
  simp only [upm_app, Int.reduceEq, and_true, true_and, and_false, false_and, if_true, if_false, and_self]
  by_cases h0 : j < 100
  · (repeat rewrite [if_pos h0])
    by_cases z : j = n
    · subst z
      rw [if_neg (by omega), if_pos rfl]
      first | rfl | (repeat (first | rw [if_pos (by omega)] | rw [if_neg (by omega)]))
    · rewrite [if_neg z]
      by_cases w : j - 0 < m 249 3
      · (repeat rewrite [if_pos w]); rfl
      · (repeat rewrite [if_neg w]); first | rfl | (repeat rw [if_neg (by omega)])
  (repeat rewrite [if_neg h0])
  by_cases h1 : j < 120
  · (repeat rewrite [if_pos h1])
    rw [if_neg (show ¬ j = n by omega)]
  (repeat rewrite [if_neg h1])
  by_cases h2 : j < 140
  · (repeat rewrite [if_pos h2])
    rw [if_neg (show ¬ j = n by omega)]
  (repeat rewrite [if_neg h2])
  by_cases h3 : j < 160
  · (repeat rewrite [if_pos h3])
    rw [if_neg (show ¬ j = n by omega)]
  (repeat rewrite [if_neg h3])
  by_cases h4 : j < 200
  · (repeat rewrite [if_pos h4])
    rw [if_neg (show ¬ j = n by omega)]
  (repeat rewrite [if_neg h4])
  by_cases h5 : j < 210
  · (repeat rewrite [if_pos h5])
    rw [if_neg (show ¬ j = n by omega)]
  (repeat rewrite [if_neg h5])
  by_cases h6 : j < 220
  · (repeat rewrite [if_pos h6])
    rw [if_neg (show ¬ j = n by omega)]
  (repeat rewrite [if_neg h6])
  by_cases h7 : j < 230
  · (repeat rewrite [if_pos h7])
    rw [if_neg (show ¬ j = n by omega)]
  (repeat rewrite [if_neg h7])
  by_cases h8 : j < 300
  · (repeat rewrite [if_pos h8])
    rw [if_neg (show ¬ j = n by omega)]
  (repeat rewrite [if_neg h8])
  by_cases h9 : j < 310
  · (repeat rewrite [if_pos h9])
    rw [if_neg (show ¬ j = n by omega)]
  (repeat rewrite [if_neg h9])
  by_cases h10 : j < 320
  · (repeat rewrite [if_pos h10])
    rw [if_neg (show ¬ j = n by omega)]
  (repeat rewrite [if_neg h10])
  by_cases h11 : j < 330
  · (repeat rewrite [if_pos h11])
    rw [if_neg (show ¬ j = n by omega)]
  (repeat rewrite [if_neg h11])
  by_cases h12 : j < 340
  · (repeat rewrite [if_pos h12])
    rw [if_neg (show ¬ j = n by omega)]
  (repeat rewrite [if_neg h12])
  by_cases h13 : j < 350
  · (repeat rewrite [if_pos h13])
    rw [if_neg (show ¬ j = n by omega)]
  (repeat rewrite [if_neg h13])
  by_cases h14 : j < 360
  · (repeat rewrite [if_pos h14])
    rw [if_neg (show ¬ j = n by omega)]
  (repeat rewrite [if_neg h14])
  by_cases h15 : j < 370
  · (repeat rewrite [if_pos h15])
    rw [if_neg (show ¬ j = n by omega)]
  (repeat rewrite [if_neg h15])
  rw [if_neg (show ¬ j = n by omega)]
theorem kvR_W (m : Mem) {n k0 k1 k2 k3 a b s d x : Int} (hn : n = m 249 4 + m 249 27) (hc : 0 ≤ m 249 4 ∧ 0 ≤ m 249 27 ∧ n < 14) (h0 : k0 = 4 * m 249 27) (h1 : k1 = 4 * m 249 27 + 1) (h2 : k2 = 4 * m 249 27 + 2) (h3 : k3 = 4 * m 249 27 + 3) : kvR (upm (upm (upm (upm (upm m 262 k0 a) 262 k1 b) 262 k2 s) 262 k3 d) 249 27 x) = vW (kvR m) n a b s (if d = 1 then 1 else 0) := by
  funext j
  unfold kvR vW kup
  simp only [upm_app, Int.reduceEq, and_true, true_and, and_false, false_and, if_true, if_false, and_self]
  by_cases h0 : j < 100
  · (repeat rewrite [if_pos h0])
    rw [if_neg (show ¬ j = 160 + n by omega), if_neg (show ¬ j = 140 + n by omega), if_neg (show ¬ j = 120 + n by omega), if_neg (show ¬ j = 100 + n by omega)]
  (repeat rewrite [if_neg h0])
  by_cases h1 : j < 120
  · (repeat rewrite [if_pos h1])
    rw [if_neg (show ¬ j = 160 + n by omega), if_neg (show ¬ j = 140 + n by omega), if_neg (show ¬ j = 120 + n by omega)]
    by_cases z : j = 100 + n
    · subst z
      rw [if_neg (by omega), if_pos rfl]
      first | rfl | (repeat (first | rw [if_pos (by omega)] | rw [if_neg (by omega)]))
    · rewrite [if_neg z]
      by_cases w : j - 100 < m 249 4
      · (repeat rewrite [if_pos w]); rfl
      · (repeat rewrite [if_neg w]); first | rfl | (repeat rw [if_neg (by omega)])
  (repeat rewrite [if_neg h1])
  by_cases h2 : j < 140
  · (repeat rewrite [if_pos h2])
    rw [if_neg (show ¬ j = 160 + n by omega), if_neg (show ¬ j = 140 + n by omega), if_neg (show ¬ j = 100 + n by omega)]
    by_cases z : j = 120 + n
    · subst z
      rw [if_neg (by omega), if_pos rfl]
      first | rfl | (repeat (first | rw [if_pos (by omega)] | rw [if_neg (by omega)]))
    · rewrite [if_neg z]
      by_cases w : j - 120 < m 249 4
      · (repeat rewrite [if_pos w]); rfl
      · (repeat rewrite [if_neg w]); first | rfl | (repeat rw [if_neg (by omega)])
  (repeat rewrite [if_neg h2])
  by_cases h3 : j < 160
  · (repeat rewrite [if_pos h3])
    rw [if_neg (show ¬ j = 160 + n by omega), if_neg (show ¬ j = 120 + n by omega), if_neg (show ¬ j = 100 + n by omega)]
    by_cases z : j = 140 + n
    · subst z
      rw [if_neg (by omega), if_pos rfl]
      first | rfl | (repeat (first | rw [if_pos (by omega)] | rw [if_neg (by omega)]))
    · rewrite [if_neg z]
      by_cases w : j - 140 < m 249 4
      · (repeat rewrite [if_pos w]); rfl
      · (repeat rewrite [if_neg w]); first | rfl | (repeat rw [if_neg (by omega)])
  (repeat rewrite [if_neg h3])
  by_cases h4 : j < 200
  · (repeat rewrite [if_pos h4])
    rw [if_neg (show ¬ j = 140 + n by omega), if_neg (show ¬ j = 120 + n by omega), if_neg (show ¬ j = 100 + n by omega)]
    by_cases z : j = 160 + n
    · subst z
      rw [if_neg (by omega), if_pos rfl, show 4 * (160 + n - 160 - m 249 4) + 3 = k3 from by omega, if_pos rfl]
    · rewrite [if_neg z]
      by_cases w : j - 160 < m 249 4
      · (repeat rewrite [if_pos w]); rfl
      · (repeat rewrite [if_neg w]); simp only [show ¬ 4 * (j - 160 - m 249 4) + 3 = k3 by omega, show ¬ 4 * (j - 160 - m 249 4) + 3 = k2 by omega, show ¬ 4 * (j - 160 - m 249 4) + 3 = k1 by omega, show ¬ 4 * (j - 160 - m 249 4) + 3 = k0 by omega, if_false]
  (repeat rewrite [if_neg h4])
  by_cases h5 : j < 210
  · (repeat rewrite [if_pos h5])
    rw [if_neg (show ¬ j = 160 + n by omega), if_neg (show ¬ j = 140 + n by omega), if_neg (show ¬ j = 120 + n by omega), if_neg (show ¬ j = 100 + n by omega)]
  (repeat rewrite [if_neg h5])
  by_cases h6 : j < 220
  · (repeat rewrite [if_pos h6])
    rw [if_neg (show ¬ j = 160 + n by omega), if_neg (show ¬ j = 140 + n by omega), if_neg (show ¬ j = 120 + n by omega), if_neg (show ¬ j = 100 + n by omega)]
  (repeat rewrite [if_neg h6])
  by_cases h7 : j < 230
  · (repeat rewrite [if_pos h7])
    rw [if_neg (show ¬ j = 160 + n by omega), if_neg (show ¬ j = 140 + n by omega), if_neg (show ¬ j = 120 + n by omega), if_neg (show ¬ j = 100 + n by omega)]
  (repeat rewrite [if_neg h7])
  by_cases h8 : j < 300
  · (repeat rewrite [if_pos h8])
    rw [if_neg (show ¬ j = 160 + n by omega), if_neg (show ¬ j = 140 + n by omega), if_neg (show ¬ j = 120 + n by omega), if_neg (show ¬ j = 100 + n by omega)]
  (repeat rewrite [if_neg h8])
  by_cases h9 : j < 310
  · (repeat rewrite [if_pos h9])
    rw [if_neg (show ¬ j = 160 + n by omega), if_neg (show ¬ j = 140 + n by omega), if_neg (show ¬ j = 120 + n by omega), if_neg (show ¬ j = 100 + n by omega)]
  (repeat rewrite [if_neg h9])
  by_cases h10 : j < 320
  · (repeat rewrite [if_pos h10])
    rw [if_neg (show ¬ j = 160 + n by omega), if_neg (show ¬ j = 140 + n by omega), if_neg (show ¬ j = 120 + n by omega), if_neg (show ¬ j = 100 + n by omega)]
  (repeat rewrite [if_neg h10])
  by_cases h11 : j < 330
  · (repeat rewrite [if_pos h11])
    rw [if_neg (show ¬ j = 160 + n by omega), if_neg (show ¬ j = 140 + n by omega), if_neg (show ¬ j = 120 + n by omega), if_neg (show ¬ j = 100 + n by omega)]
  (repeat rewrite [if_neg h11])
  by_cases h12 : j < 340
  · (repeat rewrite [if_pos h12])
    rw [if_neg (show ¬ j = 160 + n by omega), if_neg (show ¬ j = 140 + n by omega), if_neg (show ¬ j = 120 + n by omega), if_neg (show ¬ j = 100 + n by omega)]
  (repeat rewrite [if_neg h12])
  by_cases h13 : j < 350
  · (repeat rewrite [if_pos h13])
    rw [if_neg (show ¬ j = 160 + n by omega), if_neg (show ¬ j = 140 + n by omega), if_neg (show ¬ j = 120 + n by omega), if_neg (show ¬ j = 100 + n by omega)]
  (repeat rewrite [if_neg h13])
  by_cases h14 : j < 360
  · (repeat rewrite [if_pos h14])
    rw [if_neg (show ¬ j = 160 + n by omega), if_neg (show ¬ j = 140 + n by omega), if_neg (show ¬ j = 120 + n by omega), if_neg (show ¬ j = 100 + n by omega)]
  (repeat rewrite [if_neg h14])
  by_cases h15 : j < 370
  · (repeat rewrite [if_pos h15])
    rw [if_neg (show ¬ j = 160 + n by omega), if_neg (show ¬ j = 140 + n by omega), if_neg (show ¬ j = 120 + n by omega), if_neg (show ¬ j = 100 + n by omega)]
  (repeat rewrite [if_neg h15])
  rw [if_neg (show ¬ j = 160 + n by omega), if_neg (show ¬ j = 140 + n by omega), if_neg (show ¬ j = 120 + n by omega), if_neg (show ¬ j = 100 + n by omega)]
theorem kvR_O (m : Mem) {n k0 k1 k2 h l c x : Int} (hn : n = m 249 5 + m 249 28) (hc : 0 ≤ m 249 5 ∧ 0 ≤ m 249 28 ∧ n < 5) (h0 : k0 = 3 * m 249 28) (h1 : k1 = 3 * m 249 28 + 1) (h2 : k2 = 3 * m 249 28 + 2) : kvR (upm (upm (upm (upm m 263 k0 h) 263 k1 c) 263 k2 l) 249 28 x) = vO (kvR m) n h l c := by
  funext j
  unfold kvR vO kup
  simp only [upm_app, Int.reduceEq, and_true, true_and, and_false, false_and, if_true, if_false, and_self]
  by_cases h0 : j < 100
  · (repeat rewrite [if_pos h0])
    rw [if_neg (show ¬ j = 230 + n by omega), if_neg (show ¬ j = 220 + n by omega), if_neg (show ¬ j = 210 + n by omega), if_neg (show ¬ j = 200 + n by omega)]
  (repeat rewrite [if_neg h0])
  by_cases h1 : j < 120
  · (repeat rewrite [if_pos h1])
    rw [if_neg (show ¬ j = 230 + n by omega), if_neg (show ¬ j = 220 + n by omega), if_neg (show ¬ j = 210 + n by omega), if_neg (show ¬ j = 200 + n by omega)]
  (repeat rewrite [if_neg h1])
  by_cases h2 : j < 140
  · (repeat rewrite [if_pos h2])
    rw [if_neg (show ¬ j = 230 + n by omega), if_neg (show ¬ j = 220 + n by omega), if_neg (show ¬ j = 210 + n by omega), if_neg (show ¬ j = 200 + n by omega)]
  (repeat rewrite [if_neg h2])
  by_cases h3 : j < 160
  · (repeat rewrite [if_pos h3])
    rw [if_neg (show ¬ j = 230 + n by omega), if_neg (show ¬ j = 220 + n by omega), if_neg (show ¬ j = 210 + n by omega), if_neg (show ¬ j = 200 + n by omega)]
  (repeat rewrite [if_neg h3])
  by_cases h4 : j < 200
  · (repeat rewrite [if_pos h4])
    rw [if_neg (show ¬ j = 230 + n by omega), if_neg (show ¬ j = 220 + n by omega), if_neg (show ¬ j = 210 + n by omega), if_neg (show ¬ j = 200 + n by omega)]
  (repeat rewrite [if_neg h4])
  by_cases h5 : j < 210
  · (repeat rewrite [if_pos h5])
    rw [if_neg (show ¬ j = 230 + n by omega), if_neg (show ¬ j = 220 + n by omega), if_neg (show ¬ j = 210 + n by omega)]
    by_cases z : j = 200 + n
    · subst z
      rw [if_neg (by omega), if_pos rfl]
      first | rfl | (repeat (first | rw [if_pos (by omega)] | rw [if_neg (by omega)]))
    · rewrite [if_neg z]
      by_cases w : j - 200 < m 249 5
      · (repeat rewrite [if_pos w]); rfl
      · (repeat rewrite [if_neg w]); first | rfl | (repeat rw [if_neg (by omega)])
  (repeat rewrite [if_neg h5])
  by_cases h6 : j < 220
  · (repeat rewrite [if_pos h6])
    rw [if_neg (show ¬ j = 230 + n by omega), if_neg (show ¬ j = 220 + n by omega), if_neg (show ¬ j = 200 + n by omega)]
    by_cases z : j = 210 + n
    · subst z
      rw [if_neg (by omega), if_pos rfl]
      first | rfl | (repeat (first | rw [if_pos (by omega)] | rw [if_neg (by omega)]))
    · rewrite [if_neg z]
      by_cases w : j - 210 < m 249 5
      · (repeat rewrite [if_pos w]); rfl
      · (repeat rewrite [if_neg w]); first | rfl | (repeat rw [if_neg (by omega)])
  (repeat rewrite [if_neg h6])
  by_cases h7 : j < 230
  · (repeat rewrite [if_pos h7])
    rw [if_neg (show ¬ j = 230 + n by omega), if_neg (show ¬ j = 210 + n by omega), if_neg (show ¬ j = 200 + n by omega)]
    by_cases z : j = 220 + n
    · subst z
      rw [if_neg (by omega), if_pos rfl]
      first | rfl | (repeat (first | rw [if_pos (by omega)] | rw [if_neg (by omega)]))
    · rewrite [if_neg z]
      by_cases w : j - 220 < m 249 5
      · (repeat rewrite [if_pos w]); rfl
      · (repeat rewrite [if_neg w]); first | rfl | (repeat rw [if_neg (by omega)])
  (repeat rewrite [if_neg h7])
  by_cases h8 : j < 300
  · (repeat rewrite [if_pos h8])
    rw [if_neg (show ¬ j = 220 + n by omega), if_neg (show ¬ j = 210 + n by omega), if_neg (show ¬ j = 200 + n by omega)]
    by_cases z : j = 230 + n
    · subst z
      rw [if_neg (by omega), if_pos rfl]
      first | rfl | (repeat (first | rw [if_pos (by omega)] | rw [if_neg (by omega)]))
    · rewrite [if_neg z]
      by_cases w : j - 230 < m 249 5
      · (repeat rewrite [if_pos w]); rfl
      · (repeat rewrite [if_neg w]); first | rfl | (repeat rw [if_neg (by omega)])
  (repeat rewrite [if_neg h8])
  by_cases h9 : j < 310
  · (repeat rewrite [if_pos h9])
    rw [if_neg (show ¬ j = 230 + n by omega), if_neg (show ¬ j = 220 + n by omega), if_neg (show ¬ j = 210 + n by omega), if_neg (show ¬ j = 200 + n by omega)]
  (repeat rewrite [if_neg h9])
  by_cases h10 : j < 320
  · (repeat rewrite [if_pos h10])
    rw [if_neg (show ¬ j = 230 + n by omega), if_neg (show ¬ j = 220 + n by omega), if_neg (show ¬ j = 210 + n by omega), if_neg (show ¬ j = 200 + n by omega)]
  (repeat rewrite [if_neg h10])
  by_cases h11 : j < 330
  · (repeat rewrite [if_pos h11])
    rw [if_neg (show ¬ j = 230 + n by omega), if_neg (show ¬ j = 220 + n by omega), if_neg (show ¬ j = 210 + n by omega), if_neg (show ¬ j = 200 + n by omega)]
  (repeat rewrite [if_neg h11])
  by_cases h12 : j < 340
  · (repeat rewrite [if_pos h12])
    rw [if_neg (show ¬ j = 230 + n by omega), if_neg (show ¬ j = 220 + n by omega), if_neg (show ¬ j = 210 + n by omega), if_neg (show ¬ j = 200 + n by omega)]
  (repeat rewrite [if_neg h12])
  by_cases h13 : j < 350
  · (repeat rewrite [if_pos h13])
    rw [if_neg (show ¬ j = 230 + n by omega), if_neg (show ¬ j = 220 + n by omega), if_neg (show ¬ j = 210 + n by omega), if_neg (show ¬ j = 200 + n by omega)]
  (repeat rewrite [if_neg h13])
  by_cases h14 : j < 360
  · (repeat rewrite [if_pos h14])
    rw [if_neg (show ¬ j = 230 + n by omega), if_neg (show ¬ j = 220 + n by omega), if_neg (show ¬ j = 210 + n by omega), if_neg (show ¬ j = 200 + n by omega)]
  (repeat rewrite [if_neg h14])
  by_cases h15 : j < 370
  · (repeat rewrite [if_pos h15])
    rw [if_neg (show ¬ j = 230 + n by omega), if_neg (show ¬ j = 220 + n by omega), if_neg (show ¬ j = 210 + n by omega), if_neg (show ¬ j = 200 + n by omega)]
  (repeat rewrite [if_neg h15])
  rw [if_neg (show ¬ j = 230 + n by omega), if_neg (show ¬ j = 220 + n by omega), if_neg (show ¬ j = 210 + n by omega), if_neg (show ¬ j = 200 + n by omega)]
theorem kvR_H (m : Mem) {n k0 k1 b l x : Int} (hn : n = m 249 6 + m 249 29) (hc : 0 ≤ m 249 6 ∧ 0 ≤ m 249 29 ∧ n < 5) (h0 : k0 = 2 * m 249 29) (h1 : k1 = 2 * m 249 29 + 1) : kvR (upm (upm (upm m 264 k0 b) 264 k1 l) 249 29 x) = vH (kvR m) n b l := by
  funext j
  unfold kvR vH kup
  simp only [upm_app, Int.reduceEq, and_true, true_and, and_false, false_and, if_true, if_false, and_self]
  by_cases h0 : j < 100
  · (repeat rewrite [if_pos h0])
    rw [if_neg (show ¬ j = 370 + n by omega), if_neg (show ¬ j = 360 + n by omega), if_neg (show ¬ j = 350 + n by omega), if_neg (show ¬ j = 340 + n by omega), if_neg (show ¬ j = 330 + n by omega), if_neg (show ¬ j = 320 + n by omega), if_neg (show ¬ j = 310 + n by omega), if_neg (show ¬ j = 300 + n by omega)]
  (repeat rewrite [if_neg h0])
  by_cases h1 : j < 120
  · (repeat rewrite [if_pos h1])
    rw [if_neg (show ¬ j = 370 + n by omega), if_neg (show ¬ j = 360 + n by omega), if_neg (show ¬ j = 350 + n by omega), if_neg (show ¬ j = 340 + n by omega), if_neg (show ¬ j = 330 + n by omega), if_neg (show ¬ j = 320 + n by omega), if_neg (show ¬ j = 310 + n by omega), if_neg (show ¬ j = 300 + n by omega)]
  (repeat rewrite [if_neg h1])
  by_cases h2 : j < 140
  · (repeat rewrite [if_pos h2])
    rw [if_neg (show ¬ j = 370 + n by omega), if_neg (show ¬ j = 360 + n by omega), if_neg (show ¬ j = 350 + n by omega), if_neg (show ¬ j = 340 + n by omega), if_neg (show ¬ j = 330 + n by omega), if_neg (show ¬ j = 320 + n by omega), if_neg (show ¬ j = 310 + n by omega), if_neg (show ¬ j = 300 + n by omega)]
  (repeat rewrite [if_neg h2])
  by_cases h3 : j < 160
  · (repeat rewrite [if_pos h3])
    rw [if_neg (show ¬ j = 370 + n by omega), if_neg (show ¬ j = 360 + n by omega), if_neg (show ¬ j = 350 + n by omega), if_neg (show ¬ j = 340 + n by omega), if_neg (show ¬ j = 330 + n by omega), if_neg (show ¬ j = 320 + n by omega), if_neg (show ¬ j = 310 + n by omega), if_neg (show ¬ j = 300 + n by omega)]
  (repeat rewrite [if_neg h3])
  by_cases h4 : j < 200
  · (repeat rewrite [if_pos h4])
    rw [if_neg (show ¬ j = 370 + n by omega), if_neg (show ¬ j = 360 + n by omega), if_neg (show ¬ j = 350 + n by omega), if_neg (show ¬ j = 340 + n by omega), if_neg (show ¬ j = 330 + n by omega), if_neg (show ¬ j = 320 + n by omega), if_neg (show ¬ j = 310 + n by omega), if_neg (show ¬ j = 300 + n by omega)]
  (repeat rewrite [if_neg h4])
  by_cases h5 : j < 210
  · (repeat rewrite [if_pos h5])
    rw [if_neg (show ¬ j = 370 + n by omega), if_neg (show ¬ j = 360 + n by omega), if_neg (show ¬ j = 350 + n by omega), if_neg (show ¬ j = 340 + n by omega), if_neg (show ¬ j = 330 + n by omega), if_neg (show ¬ j = 320 + n by omega), if_neg (show ¬ j = 310 + n by omega), if_neg (show ¬ j = 300 + n by omega)]
  (repeat rewrite [if_neg h5])
  by_cases h6 : j < 220
  · (repeat rewrite [if_pos h6])
    rw [if_neg (show ¬ j = 370 + n by omega), if_neg (show ¬ j = 360 + n by omega), if_neg (show ¬ j = 350 + n by omega), if_neg (show ¬ j = 340 + n by omega), if_neg (show ¬ j = 330 + n by omega), if_neg (show ¬ j = 320 + n by omega), if_neg (show ¬ j = 310 + n by omega), if_neg (show ¬ j = 300 + n by omega)]
  (repeat rewrite [if_neg h6])
  by_cases h7 : j < 230
  · (repeat rewrite [if_pos h7])
    rw [if_neg (show ¬ j = 370 + n by omega), if_neg (show ¬ j = 360 + n by omega), if_neg (show ¬ j = 350 + n by omega), if_neg (show ¬ j = 340 + n by omega), if_neg (show ¬ j = 330 + n by omega), if_neg (show ¬ j = 320 + n by omega), if_neg (show ¬ j = 310 + n by omega), if_neg (show ¬ j = 300 + n by omega)]
  (repeat rewrite [if_neg h7])
  by_cases h8 : j < 300
  · (repeat rewrite [if_pos h8])
    rw [if_neg (show ¬ j = 370 + n by omega), if_neg (show ¬ j = 360 + n by omega), if_neg (show ¬ j = 350 + n by omega), if_neg (show ¬ j = 340 + n by omega), if_neg (show ¬ j = 330 + n by omega), if_neg (show ¬ j = 320 + n by omega), if_neg (show ¬ j = 310 + n by omega), if_neg (show ¬ j = 300 + n by omega)]
  (repeat rewrite [if_neg h8])
  by_cases h9 : j < 310
  · (repeat rewrite [if_pos h9])
    rw [if_neg (show ¬ j = 370 + n by omega), if_neg (show ¬ j = 360 + n by omega), if_neg (show ¬ j = 350 + n by omega), if_neg (show ¬ j = 340 + n by omega), if_neg (show ¬ j = 330 + n by omega), if_neg (show ¬ j = 320 + n by omega), if_neg (show ¬ j = 310 + n by omega)]
    by_cases z : j = 300 + n
    · subst z
      rw [if_neg (by omega), if_pos rfl]
      first | rfl | (repeat (first | rw [if_pos (by omega)] | rw [if_neg (by omega)]))
    · rewrite [if_neg z]
      by_cases w : j - 300 < m 249 6
      · (repeat rewrite [if_pos w]); rfl
      · (repeat rewrite [if_neg w]); first | rfl | (repeat rw [if_neg (by omega)])
  (repeat rewrite [if_neg h9])
  by_cases h10 : j < 320
  · (repeat rewrite [if_pos h10])
    rw [if_neg (show ¬ j = 370 + n by omega), if_neg (show ¬ j = 360 + n by omega), if_neg (show ¬ j = 350 + n by omega), if_neg (show ¬ j = 340 + n by omega), if_neg (show ¬ j = 330 + n by omega), if_neg (show ¬ j = 320 + n by omega), if_neg (show ¬ j = 300 + n by omega)]
    by_cases z : j = 310 + n
    · subst z
      rw [if_neg (by omega), if_pos rfl]
      first | rfl | (repeat (first | rw [if_pos (by omega)] | rw [if_neg (by omega)]))
    · rewrite [if_neg z]
      by_cases w : j - 310 < m 249 6
      · (repeat rewrite [if_pos w]); rfl
      · (repeat rewrite [if_neg w]); first | rfl | (repeat rw [if_neg (by omega)])
  (repeat rewrite [if_neg h10])
  by_cases h11 : j < 330
  · (repeat rewrite [if_pos h11])
    rw [if_neg (show ¬ j = 370 + n by omega), if_neg (show ¬ j = 360 + n by omega), if_neg (show ¬ j = 350 + n by omega), if_neg (show ¬ j = 340 + n by omega), if_neg (show ¬ j = 330 + n by omega), if_neg (show ¬ j = 310 + n by omega), if_neg (show ¬ j = 300 + n by omega)]
    by_cases z : j = 320 + n
    · subst z
      rw [if_neg (by omega), if_pos rfl]
      first | rfl | (repeat (first | rw [if_pos (by omega)] | rw [if_neg (by omega)]))
    · rewrite [if_neg z]
      by_cases w : j - 320 < m 249 6
      · (repeat rewrite [if_pos w]); rfl
      · (repeat rewrite [if_neg w]); first | rfl | (repeat rw [if_neg (by omega)])
  (repeat rewrite [if_neg h11])
  by_cases h12 : j < 340
  · (repeat rewrite [if_pos h12])
    rw [if_neg (show ¬ j = 370 + n by omega), if_neg (show ¬ j = 360 + n by omega), if_neg (show ¬ j = 350 + n by omega), if_neg (show ¬ j = 340 + n by omega), if_neg (show ¬ j = 320 + n by omega), if_neg (show ¬ j = 310 + n by omega), if_neg (show ¬ j = 300 + n by omega)]
    by_cases z : j = 330 + n
    · subst z
      rw [if_neg (by omega), if_pos rfl]
      first | rfl | (repeat (first | rw [if_pos (by omega)] | rw [if_neg (by omega)]))
    · rewrite [if_neg z]
      by_cases w : j - 330 < m 249 6
      · (repeat rewrite [if_pos w]); rfl
      · (repeat rewrite [if_neg w]); first | rfl | (repeat rw [if_neg (by omega)])
  (repeat rewrite [if_neg h12])
  by_cases h13 : j < 350
  · (repeat rewrite [if_pos h13])
    rw [if_neg (show ¬ j = 370 + n by omega), if_neg (show ¬ j = 360 + n by omega), if_neg (show ¬ j = 350 + n by omega), if_neg (show ¬ j = 330 + n by omega), if_neg (show ¬ j = 320 + n by omega), if_neg (show ¬ j = 310 + n by omega), if_neg (show ¬ j = 300 + n by omega)]
    by_cases z : j = 340 + n
    · subst z
      rw [if_neg (by omega), if_pos rfl]
      first | rfl | (repeat (first | rw [if_pos (by omega)] | rw [if_neg (by omega)]))
    · rewrite [if_neg z]
      by_cases w : j - 340 < m 249 6
      · (repeat rewrite [if_pos w]); rfl
      · (repeat rewrite [if_neg w]); first | rfl | (repeat rw [if_neg (by omega)])
  (repeat rewrite [if_neg h13])
  by_cases h14 : j < 360
  · (repeat rewrite [if_pos h14])
    rw [if_neg (show ¬ j = 370 + n by omega), if_neg (show ¬ j = 360 + n by omega), if_neg (show ¬ j = 340 + n by omega), if_neg (show ¬ j = 330 + n by omega), if_neg (show ¬ j = 320 + n by omega), if_neg (show ¬ j = 310 + n by omega), if_neg (show ¬ j = 300 + n by omega)]
    by_cases z : j = 350 + n
    · subst z
      rw [if_neg (by omega), if_pos rfl]
      first | rfl | (repeat (first | rw [if_pos (by omega)] | rw [if_neg (by omega)]))
    · rewrite [if_neg z]
      by_cases w : j - 350 < m 249 6
      · (repeat rewrite [if_pos w]); rfl
      · (repeat rewrite [if_neg w]); first | rfl | (repeat rw [if_neg (by omega)])
  (repeat rewrite [if_neg h14])
  by_cases h15 : j < 370
  · (repeat rewrite [if_pos h15])
    rw [if_neg (show ¬ j = 370 + n by omega), if_neg (show ¬ j = 350 + n by omega), if_neg (show ¬ j = 340 + n by omega), if_neg (show ¬ j = 330 + n by omega), if_neg (show ¬ j = 320 + n by omega), if_neg (show ¬ j = 310 + n by omega), if_neg (show ¬ j = 300 + n by omega)]
    by_cases z : j = 360 + n
    · subst z
      rw [if_neg (by omega), if_pos rfl]
      first | rfl | (repeat (first | rw [if_pos (by omega)] | rw [if_neg (by omega)]))
    · rewrite [if_neg z]
      by_cases w : j - 360 < m 249 6
      · (repeat rewrite [if_pos w]); rfl
      · (repeat rewrite [if_neg w]); first | rfl | (repeat rw [if_neg (by omega)])
  (repeat rewrite [if_neg h15])
  rw [if_neg (show ¬ j = 360 + n by omega), if_neg (show ¬ j = 350 + n by omega), if_neg (show ¬ j = 340 + n by omega), if_neg (show ¬ j = 330 + n by omega), if_neg (show ¬ j = 320 + n by omega), if_neg (show ¬ j = 310 + n by omega), if_neg (show ¬ j = 300 + n by omega)]
  by_cases z : j = 370 + n
  · subst z
    rw [if_neg (by omega), if_pos rfl]
    first | rfl | (repeat (first | rw [if_pos (by omega)] | rw [if_neg (by omega)]))
  · rewrite [if_neg z]
    by_cases w : j - 370 < m 249 6
    · (repeat rewrite [if_pos w]); rfl
    · (repeat rewrite [if_neg w]); first | rfl | (repeat rw [if_neg (by omega)])
theorem kvR_P1 {m m' : Mem} {n r v : Int} (e : ∀ x, (251 ≤ x ∧ x ≤ 258) ∨ (261 ≤ x ∧ x ≤ 264) → x ≠ 261 → m' x = m x) (e9 : ∀ j, 3 ≤ j → j ≤ 6 → m' 249 j = m 249 j) (hr : r = m 249 26) (hn : n = m 249 3 + m 249 26) (hc : 0 ≤ m 249 26 ∧ n < 100) (c0 : m' 261 (1 * r + 0) = v) (ho : ∀ j, (j < 1 * r ∨ 1 * r + 0 < j) → m' 261 j = m 261 j) : kvR m' = kup (kvR m) n v := by
  have e2 : m' 261 = (upm (upm m 261 (1 * r + 0) v) 249 26 0) 261 := by
    funext j
    simp only [upm_app, Int.reduceEq, and_true, true_and, and_false, false_and, if_true, if_false, and_self]
    by_cases z0 : j = 1 * r + 0
    · rw [if_pos z0, z0]; exact c0
    rw [if_neg z0]
    exact ho j (by omega)
  have k := kvR_P m (n := n) (v := v) (x := 0) (r := 1 * r + 0) (by omega) hn hc
  rw [← k]
  refine kvR_e (fun x q => ?_) (fun j j0 j1 => ?_)
  · by_cases z : x = 261
    · rw [z]; exact e2
    · rw [e x q z]
      by_cases w : x = 249
      · omega
      · (repeat rw [upm_f _ _ _ _ _ (by omega)])
  · rw [e9 j j0 j1]
    rw [upm_k (by omega)]
    (repeat rw [upm_f _ _ _ _ _ (by decide)])
theorem kvR_W1 {m m' : Mem} {n r a b s d : Int} (e : ∀ x, (251 ≤ x ∧ x ≤ 258) ∨ (261 ≤ x ∧ x ≤ 264) → x ≠ 262 → m' x = m x) (e9 : ∀ j, 3 ≤ j → j ≤ 6 → m' 249 j = m 249 j) (hr : r = m 249 27) (hn : n = m 249 4 + m 249 27) (hc : 0 ≤ m 249 4 ∧ 0 ≤ m 249 27 ∧ n < 14) (c0 : m' 262 (4 * r + 0) = a) (c1 : m' 262 (4 * r + 1) = b) (c2 : m' 262 (4 * r + 2) = s) (c3 : m' 262 (4 * r + 3) = d) (ho : ∀ j, (j < 4 * r ∨ 4 * r + 3 < j) → m' 262 j = m 262 j) : kvR m' = vW (kvR m) n a b s (if d = 1 then 1 else 0) := by
  have e2 : m' 262 = (upm (upm (upm (upm (upm m 262 (4 * r + 0) a) 262 (4 * r + 1) b) 262 (4 * r + 2) s) 262 (4 * r + 3) d) 249 27 0) 262 := by
    funext j
    simp only [upm_app, Int.reduceEq, and_true, true_and, and_false, false_and, if_true, if_false, and_self]
    by_cases z3 : j = 4 * r + 3
    · rw [if_pos z3, z3]; exact c3
    rw [if_neg z3]
    by_cases z2 : j = 4 * r + 2
    · rw [if_pos z2, z2]; exact c2
    rw [if_neg z2]
    by_cases z1 : j = 4 * r + 1
    · rw [if_pos z1, z1]; exact c1
    rw [if_neg z1]
    by_cases z0 : j = 4 * r + 0
    · rw [if_pos z0, z0]; exact c0
    rw [if_neg z0]
    exact ho j (by omega)
  have k := kvR_W m (n := n) (a := a) (b := b) (s := s) (d := d) (x := 0) (k0 := 4 * r + 0) (k1 := 4 * r + 1) (k2 := 4 * r + 2) (k3 := 4 * r + 3) hn hc (by omega) (by omega) (by omega) (by omega)
  rw [← k]
  refine kvR_e (fun x q => ?_) (fun j j0 j1 => ?_)
  · by_cases z : x = 262
    · rw [z]; exact e2
    · rw [e x q z]
      by_cases w : x = 249
      · omega
      · (repeat rw [upm_f _ _ _ _ _ (by omega)])
  · rw [e9 j j0 j1]
    rw [upm_k (by omega)]
    (repeat rw [upm_f _ _ _ _ _ (by decide)])
theorem kvR_O1 {m m' : Mem} {n r h l c : Int} (e : ∀ x, (251 ≤ x ∧ x ≤ 258) ∨ (261 ≤ x ∧ x ≤ 264) → x ≠ 263 → m' x = m x) (e9 : ∀ j, 3 ≤ j → j ≤ 6 → m' 249 j = m 249 j) (hr : r = m 249 28) (hn : n = m 249 5 + m 249 28) (hc : 0 ≤ m 249 5 ∧ 0 ≤ m 249 28 ∧ n < 5) (c0 : m' 263 (3 * r + 0) = h) (c1 : m' 263 (3 * r + 1) = c) (c2 : m' 263 (3 * r + 2) = l) (ho : ∀ j, (j < 3 * r ∨ 3 * r + 2 < j) → m' 263 j = m 263 j) : kvR m' = vO (kvR m) n h l c := by
  have e2 : m' 263 = (upm (upm (upm (upm m 263 (3 * r + 0) h) 263 (3 * r + 1) c) 263 (3 * r + 2) l) 249 28 0) 263 := by
    funext j
    simp only [upm_app, Int.reduceEq, and_true, true_and, and_false, false_and, if_true, if_false, and_self]
    by_cases z2 : j = 3 * r + 2
    · rw [if_pos z2, z2]; exact c2
    rw [if_neg z2]
    by_cases z1 : j = 3 * r + 1
    · rw [if_pos z1, z1]; exact c1
    rw [if_neg z1]
    by_cases z0 : j = 3 * r + 0
    · rw [if_pos z0, z0]; exact c0
    rw [if_neg z0]
    exact ho j (by omega)
  have k := kvR_O m (n := n) (h := h) (l := l) (c := c) (x := 0) (k0 := 3 * r + 0) (k1 := 3 * r + 1) (k2 := 3 * r + 2) hn hc (by omega) (by omega) (by omega)
  rw [← k]
  refine kvR_e (fun x q => ?_) (fun j j0 j1 => ?_)
  · by_cases z : x = 263
    · rw [z]; exact e2
    · rw [e x q z]
      by_cases w : x = 249
      · omega
      · (repeat rw [upm_f _ _ _ _ _ (by omega)])
  · rw [e9 j j0 j1]
    rw [upm_k (by omega)]
    (repeat rw [upm_f _ _ _ _ _ (by decide)])
theorem kvR_H1 {m m' : Mem} {n r b l : Int} (e : ∀ x, (251 ≤ x ∧ x ≤ 258) ∨ (261 ≤ x ∧ x ≤ 264) → x ≠ 264 → m' x = m x) (e9 : ∀ j, 3 ≤ j → j ≤ 6 → m' 249 j = m 249 j) (hr : r = m 249 29) (hn : n = m 249 6 + m 249 29) (hc : 0 ≤ m 249 6 ∧ 0 ≤ m 249 29 ∧ n < 5) (c0 : m' 264 (2 * r + 0) = b) (c1 : m' 264 (2 * r + 1) = l) (ho : ∀ j, (j < 2 * r ∨ 2 * r + 1 < j) → m' 264 j = m 264 j) : kvR m' = vH (kvR m) n b l := by
  have e2 : m' 264 = (upm (upm (upm m 264 (2 * r + 0) b) 264 (2 * r + 1) l) 249 29 0) 264 := by
    funext j
    simp only [upm_app, Int.reduceEq, and_true, true_and, and_false, false_and, if_true, if_false, and_self]
    by_cases z1 : j = 2 * r + 1
    · rw [if_pos z1, z1]; exact c1
    rw [if_neg z1]
    by_cases z0 : j = 2 * r + 0
    · rw [if_pos z0, z0]; exact c0
    rw [if_neg z0]
    exact ho j (by omega)
  have k := kvR_H m (n := n) (b := b) (l := l) (x := 0) (k0 := 2 * r + 0) (k1 := 2 * r + 1) hn hc (by omega) (by omega)
  rw [← k]
  refine kvR_e (fun x q => ?_) (fun j j0 j1 => ?_)
  · by_cases z : x = 264
    · rw [z]; exact e2
    · rw [e x q z]
      by_cases w : x = 249
      · omega
      · (repeat rw [upm_f _ _ _ _ _ (by omega)])
  · rw [e9 j j0 j1]
    rw [upm_k (by omega)]
    (repeat rw [upm_f _ _ _ _ _ (by decide)])
