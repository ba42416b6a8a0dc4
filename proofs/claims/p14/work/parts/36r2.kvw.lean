/-! what was read is copied: with it, all that THE KITCHEN tells stays as it is -/
def kvW (z3 z4 z5 z6 : Int) (m : Mem) : Int → Int := fun j =>
  if j < 100 then (if j - 0 < m 249 3 then m 251 (j - 0) else m 261 (j - 0 - z3)) else
  if j < 120 then (if j - 100 < m 249 4 then m 252 (j - 100) else m 262 (4 * (j - 100 - z4))) else
  if j < 140 then (if j - 120 < m 249 4 then m 253 (j - 120) else m 262 (4 * (j - 120 - z4) + 1)) else
  if j < 160 then (if j - 140 < m 249 4 then m 254 (j - 140) else m 262 (4 * (j - 140 - z4) + 2)) else
  if j < 200 then (if j - 160 < m 249 4 then m 255 (j - 160) else (if m 262 (4 * (j - 160 - z4) + 3) = 1 then 1 else 0)) else
  if j < 210 then (if j - 200 < m 249 5 then m 258 (3 * (j - 200)) else m 263 (3 * (j - 200 - z5))) else
  if j < 220 then (if j - 210 < m 249 5 then m 258 (3 * (j - 210) + 1) else m 263 (3 * (j - 210 - z5) + 2)) else
  if j < 230 then (if j - 220 < m 249 5 then m 258 (3 * (j - 220) + 2) else 0) else
  if j < 300 then (if j - 230 < m 249 5 then m 256 (j - 230) else m 263 (3 * (j - 230 - z5) + 1)) else
  if j < 310 then (if j - 300 < m 249 6 then m 257 (j - 300) else m 264 (2 * (j - 300 - z6))) else
  if j < 320 then (if j - 310 < m 249 6 then m 258 (15 + 7 * (j - 310)) else m 264 (2 * (j - 310 - z6) + 1)) else
  if j < 330 then (if j - 320 < m 249 6 then m 258 (16 + 7 * (j - 320)) else 0) else
  if j < 340 then (if j - 330 < m 249 6 then m 258 (17 + 7 * (j - 330)) else 0) else
  if j < 350 then (if j - 340 < m 249 6 then m 258 (18 + 7 * (j - 340)) else 0) else
  if j < 360 then (if j - 350 < m 249 6 then m 258 (19 + 7 * (j - 350)) else 0) else
  if j < 370 then (if j - 360 < m 249 6 then m 258 (20 + 7 * (j - 360)) else -1) else
  (if j - 370 < m 249 6 then m 258 (21 + 7 * (j - 370)) else 0)
theorem kvW_b {z3 z4 z5 z6 : Int} {m m' : Mem} (e : ∀ x, (251 ≤ x ∧ x ≤ 258) ∨ (261 ≤ x ∧ x ≤ 264) → x ≠ 251 → m' x = m x) (e9 : ∀ j, 3 ≤ j → j ≤ 6 → j ≠ 3 → m' 249 j = m 249 j) (hc : m' 249 3 = m 249 3 + 1) (hq : 0 ≤ m 249 3 ∧ m 249 3 < 20) (v0 : m' 251 (m 249 3) = m 261 (m 249 3 - z3)) (g251 : ∀ j, j < m 249 3 → m' 251 j = m 251 j) : kvW z3 z4 z5 z6 m' = kvW z3 z4 z5 z6 m := by
  funext j
  unfold kvW
  rw [hc, e9 4 (by decide) (by decide) (by decide), e9 5 (by decide) (by decide) (by decide), e9 6 (by decide) (by decide) (by decide), e 252 (by omega) (by decide), e 253 (by omega) (by decide), e 254 (by omega) (by decide), e 255 (by omega) (by decide), e 256 (by omega) (by decide), e 257 (by omega) (by decide), e 258 (by omega) (by decide), e 261 (by omega) (by decide), e 262 (by omega) (by decide), e 263 (by omega) (by decide), e 264 (by omega) (by decide)]
  by_cases h0 : j < 100
  · (repeat rewrite [if_pos h0])
    by_cases w : j - 0 < m 249 3
    · rw [if_pos w, if_pos (by omega)]; exact g251 _ (by omega)
    · by_cases w2 : j - 0 < m 249 3 + 1
      · rw [if_pos w2, if_neg w]
        have ej : j = 0 + m 249 3 := by omega
        subst ej
        rw [show (((0 + m 249 3) - 0) : Int) = m 249 3 from by omega, v0]; (try rw [show (0 + m 249 3 - 0 - z3 : Int) = m 249 3 - z3 from by omega])
      · rw [if_neg w2, if_neg w]
  (repeat rewrite [if_neg h0])
  by_cases h1 : j < 120
  · (repeat rewrite [if_pos h1])
    rfl
  (repeat rewrite [if_neg h1])
  by_cases h2 : j < 140
  · (repeat rewrite [if_pos h2])
    rfl
  (repeat rewrite [if_neg h2])
  by_cases h3 : j < 160
  · (repeat rewrite [if_pos h3])
    rfl
  (repeat rewrite [if_neg h3])
  by_cases h4 : j < 200
  · (repeat rewrite [if_pos h4])
    rfl
  (repeat rewrite [if_neg h4])
  by_cases h5 : j < 210
  · (repeat rewrite [if_pos h5])
    rfl
  (repeat rewrite [if_neg h5])
  by_cases h6 : j < 220
  · (repeat rewrite [if_pos h6])
    rfl
  (repeat rewrite [if_neg h6])
  by_cases h7 : j < 230
  · (repeat rewrite [if_pos h7])
    rfl
  (repeat rewrite [if_neg h7])
  by_cases h8 : j < 300
  · (repeat rewrite [if_pos h8])
    rfl
  (repeat rewrite [if_neg h8])
  by_cases h9 : j < 310
  · (repeat rewrite [if_pos h9])
    rfl
  (repeat rewrite [if_neg h9])
  by_cases h10 : j < 320
  · (repeat rewrite [if_pos h10])
    rfl
  (repeat rewrite [if_neg h10])
  by_cases h11 : j < 330
  · (repeat rewrite [if_pos h11])
    rfl
  (repeat rewrite [if_neg h11])
  by_cases h12 : j < 340
  · (repeat rewrite [if_pos h12])
    rfl
  (repeat rewrite [if_neg h12])
  by_cases h13 : j < 350
  · (repeat rewrite [if_pos h13])
    rfl
  (repeat rewrite [if_neg h13])
  by_cases h14 : j < 360
  · (repeat rewrite [if_pos h14])
    rfl
  (repeat rewrite [if_neg h14])
  by_cases h15 : j < 370
  · (repeat rewrite [if_pos h15])
    rfl
  (repeat rewrite [if_neg h15])
  rfl
theorem kvW_c {z3 z4 z5 z6 : Int} {m m' : Mem} (e : ∀ x, (251 ≤ x ∧ x ≤ 258) ∨ (261 ≤ x ∧ x ≤ 264) → x ≠ 252 → x ≠ 253 → x ≠ 254 → x ≠ 255 → m' x = m x) (e9 : ∀ j, 3 ≤ j → j ≤ 6 → j ≠ 4 → m' 249 j = m 249 j) (hc : m' 249 4 = m 249 4 + 1) (hq : 0 ≤ m 249 4 ∧ m 249 4 < 20) (v1 : m' 252 (m 249 4) = m 262 (4 * (m 249 4 - z4))) (v2 : m' 253 (m 249 4) = m 262 (4 * (m 249 4 - z4) + 1)) (v3 : m' 254 (m 249 4) = m 262 (4 * (m 249 4 - z4) + 2)) (v4 : m' 255 (m 249 4) = (if m 262 (4 * (m 249 4 - z4) + 3) = 1 then 1 else 0)) (g252 : ∀ j, j < m 249 4 → m' 252 j = m 252 j) (g253 : ∀ j, j < m 249 4 → m' 253 j = m 253 j) (g254 : ∀ j, j < m 249 4 → m' 254 j = m 254 j) (g255 : ∀ j, j < m 249 4 → m' 255 j = m 255 j) : kvW z3 z4 z5 z6 m' = kvW z3 z4 z5 z6 m := by
  funext j
  unfold kvW
  rw [hc, e9 3 (by decide) (by decide) (by decide), e9 5 (by decide) (by decide) (by decide), e9 6 (by decide) (by decide) (by decide), e 251 (by omega) (by decide) (by decide) (by decide) (by decide), e 256 (by omega) (by decide) (by decide) (by decide) (by decide), e 257 (by omega) (by decide) (by decide) (by decide) (by decide), e 258 (by omega) (by decide) (by decide) (by decide) (by decide), e 261 (by omega) (by decide) (by decide) (by decide) (by decide), e 262 (by omega) (by decide) (by decide) (by decide) (by decide), e 263 (by omega) (by decide) (by decide) (by decide) (by decide), e 264 (by omega) (by decide) (by decide) (by decide) (by decide)]
  by_cases h0 : j < 100
  · (repeat rewrite [if_pos h0])
    rfl
  (repeat rewrite [if_neg h0])
  by_cases h1 : j < 120
  · (repeat rewrite [if_pos h1])
    by_cases w : j - 100 < m 249 4
    · rw [if_pos w, if_pos (by omega)]; exact g252 _ (by omega)
    · by_cases w2 : j - 100 < m 249 4 + 1
      · rw [if_pos w2, if_neg w]
        have ej : j = 100 + m 249 4 := by omega
        subst ej
        rw [show (((100 + m 249 4) - 100) : Int) = m 249 4 from by omega, v1]; (try rw [show (100 + m 249 4 - 100 - z4 : Int) = m 249 4 - z4 from by omega])
      · rw [if_neg w2, if_neg w]
  (repeat rewrite [if_neg h1])
  by_cases h2 : j < 140
  · (repeat rewrite [if_pos h2])
    by_cases w : j - 120 < m 249 4
    · rw [if_pos w, if_pos (by omega)]; exact g253 _ (by omega)
    · by_cases w2 : j - 120 < m 249 4 + 1
      · rw [if_pos w2, if_neg w]
        have ej : j = 120 + m 249 4 := by omega
        subst ej
        rw [show (((120 + m 249 4) - 120) : Int) = m 249 4 from by omega, v2]; (try rw [show (120 + m 249 4 - 120 - z4 : Int) = m 249 4 - z4 from by omega])
      · rw [if_neg w2, if_neg w]
  (repeat rewrite [if_neg h2])
  by_cases h3 : j < 160
  · (repeat rewrite [if_pos h3])
    by_cases w : j - 140 < m 249 4
    · rw [if_pos w, if_pos (by omega)]; exact g254 _ (by omega)
    · by_cases w2 : j - 140 < m 249 4 + 1
      · rw [if_pos w2, if_neg w]
        have ej : j = 140 + m 249 4 := by omega
        subst ej
        rw [show (((140 + m 249 4) - 140) : Int) = m 249 4 from by omega, v3]; (try rw [show (140 + m 249 4 - 140 - z4 : Int) = m 249 4 - z4 from by omega])
      · rw [if_neg w2, if_neg w]
  (repeat rewrite [if_neg h3])
  by_cases h4 : j < 200
  · (repeat rewrite [if_pos h4])
    by_cases w : j - 160 < m 249 4
    · rw [if_pos w, if_pos (by omega)]; exact g255 _ (by omega)
    · by_cases w2 : j - 160 < m 249 4 + 1
      · rw [if_pos w2, if_neg w]
        have ej : j = 160 + m 249 4 := by omega
        subst ej
        rw [show (((160 + m 249 4) - 160) : Int) = m 249 4 from by omega, v4]; (try rw [show (160 + m 249 4 - 160 - z4 : Int) = m 249 4 - z4 from by omega])
      · rw [if_neg w2, if_neg w]
  (repeat rewrite [if_neg h4])
  by_cases h5 : j < 210
  · (repeat rewrite [if_pos h5])
    rfl
  (repeat rewrite [if_neg h5])
  by_cases h6 : j < 220
  · (repeat rewrite [if_pos h6])
    rfl
  (repeat rewrite [if_neg h6])
  by_cases h7 : j < 230
  · (repeat rewrite [if_pos h7])
    rfl
  (repeat rewrite [if_neg h7])
  by_cases h8 : j < 300
  · (repeat rewrite [if_pos h8])
    rfl
  (repeat rewrite [if_neg h8])
  by_cases h9 : j < 310
  · (repeat rewrite [if_pos h9])
    rfl
  (repeat rewrite [if_neg h9])
  by_cases h10 : j < 320
  · (repeat rewrite [if_pos h10])
    rfl
  (repeat rewrite [if_neg h10])
  by_cases h11 : j < 330
  · (repeat rewrite [if_pos h11])
    rfl
  (repeat rewrite [if_neg h11])
  by_cases h12 : j < 340
  · (repeat rewrite [if_pos h12])
    rfl
  (repeat rewrite [if_neg h12])
  by_cases h13 : j < 350
  · (repeat rewrite [if_pos h13])
    rfl
  (repeat rewrite [if_neg h13])
  by_cases h14 : j < 360
  · (repeat rewrite [if_pos h14])
    rfl
  (repeat rewrite [if_neg h14])
  by_cases h15 : j < 370
  · (repeat rewrite [if_pos h15])
    rfl
  (repeat rewrite [if_neg h15])
  rfl
theorem kvW_d {z3 z4 z5 z6 : Int} {m m' : Mem} (e : ∀ x, (251 ≤ x ∧ x ≤ 258) ∨ (261 ≤ x ∧ x ≤ 264) → x ≠ 256 → x ≠ 258 → m' x = m x) (e9 : ∀ j, 3 ≤ j → j ≤ 6 → j ≠ 5 → m' 249 j = m 249 j) (hc : m' 249 5 = m 249 5 + 1) (hq : 0 ≤ m 249 5 ∧ m 249 5 < 5) (v5 : m' 258 (3 * m 249 5) = m 263 (3 * (m 249 5 - z5))) (v6 : m' 258 (3 * m 249 5 + 1) = m 263 (3 * (m 249 5 - z5) + 2)) (v7 : m' 258 (3 * m 249 5 + 2) = 0) (v8 : m' 256 (m 249 5) = m 263 (3 * (m 249 5 - z5) + 1)) (g256 : ∀ j, j < m 249 5 → m' 256 j = m 256 j) (ho : ∀ j, (j < 3 * m 249 5 ∨ 3 * m 249 5 + 2 < j) → m' 258 j = m 258 j) : kvW z3 z4 z5 z6 m' = kvW z3 z4 z5 z6 m := by
  funext j
  unfold kvW
  rw [hc, e9 3 (by decide) (by decide) (by decide), e9 4 (by decide) (by decide) (by decide), e9 6 (by decide) (by decide) (by decide), e 251 (by omega) (by decide) (by decide), e 252 (by omega) (by decide) (by decide), e 253 (by omega) (by decide) (by decide), e 254 (by omega) (by decide) (by decide), e 255 (by omega) (by decide) (by decide), e 257 (by omega) (by decide) (by decide), e 261 (by omega) (by decide) (by decide), e 262 (by omega) (by decide) (by decide), e 263 (by omega) (by decide) (by decide), e 264 (by omega) (by decide) (by decide)]
  by_cases h0 : j < 100
  · (repeat rewrite [if_pos h0])
    rfl
  (repeat rewrite [if_neg h0])
  by_cases h1 : j < 120
  · (repeat rewrite [if_pos h1])
    rfl
  (repeat rewrite [if_neg h1])
  by_cases h2 : j < 140
  · (repeat rewrite [if_pos h2])
    rfl
  (repeat rewrite [if_neg h2])
  by_cases h3 : j < 160
  · (repeat rewrite [if_pos h3])
    rfl
  (repeat rewrite [if_neg h3])
  by_cases h4 : j < 200
  · (repeat rewrite [if_pos h4])
    rfl
  (repeat rewrite [if_neg h4])
  by_cases h5 : j < 210
  · (repeat rewrite [if_pos h5])
    by_cases w : j - 200 < m 249 5
    · rw [if_pos w, if_pos (by omega)]; exact ho _ (by omega)
    · by_cases w2 : j - 200 < m 249 5 + 1
      · rw [if_pos w2, if_neg w]
        have ej : j = 200 + m 249 5 := by omega
        subst ej
        rw [show ((3 * ((200 + m 249 5) - 200)) : Int) = (3 * m 249 5) from by omega, v5]; (try rw [show (200 + m 249 5 - 200 - z5 : Int) = m 249 5 - z5 from by omega])
      · rw [if_neg w2, if_neg w]
  (repeat rewrite [if_neg h5])
  by_cases h6 : j < 220
  · (repeat rewrite [if_pos h6])
    by_cases w : j - 210 < m 249 5
    · rw [if_pos w, if_pos (by omega)]; exact ho _ (by omega)
    · by_cases w2 : j - 210 < m 249 5 + 1
      · rw [if_pos w2, if_neg w]
        have ej : j = 210 + m 249 5 := by omega
        subst ej
        rw [show ((3 * ((210 + m 249 5) - 210) + 1) : Int) = (3 * m 249 5 + 1) from by omega, v6]; (try rw [show (210 + m 249 5 - 210 - z5 : Int) = m 249 5 - z5 from by omega])
      · rw [if_neg w2, if_neg w]
  (repeat rewrite [if_neg h6])
  by_cases h7 : j < 230
  · (repeat rewrite [if_pos h7])
    by_cases w : j - 220 < m 249 5
    · rw [if_pos w, if_pos (by omega)]; exact ho _ (by omega)
    · by_cases w2 : j - 220 < m 249 5 + 1
      · rw [if_pos w2, if_neg w]
        have ej : j = 220 + m 249 5 := by omega
        subst ej
        rw [show ((3 * ((220 + m 249 5) - 220) + 2) : Int) = (3 * m 249 5 + 2) from by omega, v7]; (try rw [show (220 + m 249 5 - 220 - z5 : Int) = m 249 5 - z5 from by omega])
      · rw [if_neg w2, if_neg w]
  (repeat rewrite [if_neg h7])
  by_cases h8 : j < 300
  · (repeat rewrite [if_pos h8])
    by_cases w : j - 230 < m 249 5
    · rw [if_pos w, if_pos (by omega)]; exact g256 _ (by omega)
    · by_cases w2 : j - 230 < m 249 5 + 1
      · rw [if_pos w2, if_neg w]
        have ej : j = 230 + m 249 5 := by omega
        subst ej
        rw [show (((230 + m 249 5) - 230) : Int) = m 249 5 from by omega, v8]; (try rw [show (230 + m 249 5 - 230 - z5 : Int) = m 249 5 - z5 from by omega])
      · rw [if_neg w2, if_neg w]
  (repeat rewrite [if_neg h8])
  by_cases h9 : j < 310
  · (repeat rewrite [if_pos h9])
    rfl
  (repeat rewrite [if_neg h9])
  by_cases h10 : j < 320
  · (repeat rewrite [if_pos h10])
    by_cases w : j - 310 < m 249 6
    · (repeat rewrite [if_pos w]); exact ho _ (by omega)
    · (repeat rewrite [if_neg w]); rfl
  (repeat rewrite [if_neg h10])
  by_cases h11 : j < 330
  · (repeat rewrite [if_pos h11])
    by_cases w : j - 320 < m 249 6
    · (repeat rewrite [if_pos w]); exact ho _ (by omega)
    · (repeat rewrite [if_neg w]); rfl
  (repeat rewrite [if_neg h11])
  by_cases h12 : j < 340
  · (repeat rewrite [if_pos h12])
    by_cases w : j - 330 < m 249 6
    · (repeat rewrite [if_pos w]); exact ho _ (by omega)
    · (repeat rewrite [if_neg w]); rfl
  (repeat rewrite [if_neg h12])
  by_cases h13 : j < 350
  · (repeat rewrite [if_pos h13])
    by_cases w : j - 340 < m 249 6
    · (repeat rewrite [if_pos w]); exact ho _ (by omega)
    · (repeat rewrite [if_neg w]); rfl
  (repeat rewrite [if_neg h13])
  by_cases h14 : j < 360
  · (repeat rewrite [if_pos h14])
    by_cases w : j - 350 < m 249 6
    · (repeat rewrite [if_pos w]); exact ho _ (by omega)
    · (repeat rewrite [if_neg w]); rfl
  (repeat rewrite [if_neg h14])
  by_cases h15 : j < 370
  · (repeat rewrite [if_pos h15])
    by_cases w : j - 360 < m 249 6
    · (repeat rewrite [if_pos w]); exact ho _ (by omega)
    · (repeat rewrite [if_neg w]); rfl
  (repeat rewrite [if_neg h15])
  by_cases w : j - 370 < m 249 6
  · (repeat rewrite [if_pos w]); exact ho _ (by omega)
  · (repeat rewrite [if_neg w]); rfl
theorem kvW_e {z3 z4 z5 z6 : Int} {m m' : Mem} (e : ∀ x, (251 ≤ x ∧ x ≤ 258) ∨ (261 ≤ x ∧ x ≤ 264) → x ≠ 257 → x ≠ 258 → m' x = m x) (e9 : ∀ j, 3 ≤ j → j ≤ 6 → j ≠ 6 → m' 249 j = m 249 j) (hc : m' 249 6 = m 249 6 + 1) (hq : 0 ≤ m 249 6 ∧ m 249 6 < 5) (h5 : m 249 5 ≤ 5) (v9 : m' 257 (m 249 6) = m 264 (2 * (m 249 6 - z6))) (v10 : m' 258 (15 + 7 * m 249 6) = m 264 (2 * (m 249 6 - z6) + 1)) (v11 : m' 258 (16 + 7 * m 249 6) = 0) (v12 : m' 258 (17 + 7 * m 249 6) = 0) (v13 : m' 258 (18 + 7 * m 249 6) = 0) (v14 : m' 258 (19 + 7 * m 249 6) = 0) (v15 : m' 258 (20 + 7 * m 249 6) = -1) (v16 : m' 258 (21 + 7 * m 249 6) = 0) (g257 : ∀ j, j < m 249 6 → m' 257 j = m 257 j) (ho : ∀ j, (j < 15 + 7 * m 249 6 ∨ 21 + 7 * m 249 6 < j) → m' 258 j = m 258 j) : kvW z3 z4 z5 z6 m' = kvW z3 z4 z5 z6 m := by
  funext j
  unfold kvW
  rw [hc, e9 3 (by decide) (by decide) (by decide), e9 4 (by decide) (by decide) (by decide), e9 5 (by decide) (by decide) (by decide), e 251 (by omega) (by decide) (by decide), e 252 (by omega) (by decide) (by decide), e 253 (by omega) (by decide) (by decide), e 254 (by omega) (by decide) (by decide), e 255 (by omega) (by decide) (by decide), e 256 (by omega) (by decide) (by decide), e 261 (by omega) (by decide) (by decide), e 262 (by omega) (by decide) (by decide), e 263 (by omega) (by decide) (by decide), e 264 (by omega) (by decide) (by decide)]
  by_cases h0 : j < 100
  · (repeat rewrite [if_pos h0])
    rfl
  (repeat rewrite [if_neg h0])
  by_cases h1 : j < 120
  · (repeat rewrite [if_pos h1])
    rfl
  (repeat rewrite [if_neg h1])
  by_cases h2 : j < 140
  · (repeat rewrite [if_pos h2])
    rfl
  (repeat rewrite [if_neg h2])
  by_cases h3 : j < 160
  · (repeat rewrite [if_pos h3])
    rfl
  (repeat rewrite [if_neg h3])
  by_cases h4 : j < 200
  · (repeat rewrite [if_pos h4])
    rfl
  (repeat rewrite [if_neg h4])
  by_cases h5 : j < 210
  · (repeat rewrite [if_pos h5])
    by_cases w : j - 200 < m 249 5
    · (repeat rewrite [if_pos w]); exact ho _ (by omega)
    · (repeat rewrite [if_neg w]); rfl
  (repeat rewrite [if_neg h5])
  by_cases h6 : j < 220
  · (repeat rewrite [if_pos h6])
    by_cases w : j - 210 < m 249 5
    · (repeat rewrite [if_pos w]); exact ho _ (by omega)
    · (repeat rewrite [if_neg w]); rfl
  (repeat rewrite [if_neg h6])
  by_cases h7 : j < 230
  · (repeat rewrite [if_pos h7])
    by_cases w : j - 220 < m 249 5
    · (repeat rewrite [if_pos w]); exact ho _ (by omega)
    · (repeat rewrite [if_neg w]); rfl
  (repeat rewrite [if_neg h7])
  by_cases h8 : j < 300
  · (repeat rewrite [if_pos h8])
    rfl
  (repeat rewrite [if_neg h8])
  by_cases h9 : j < 310
  · (repeat rewrite [if_pos h9])
    by_cases w : j - 300 < m 249 6
    · rw [if_pos w, if_pos (by omega)]; exact g257 _ (by omega)
    · by_cases w2 : j - 300 < m 249 6 + 1
      · rw [if_pos w2, if_neg w]
        have ej : j = 300 + m 249 6 := by omega
        subst ej
        rw [show (((300 + m 249 6) - 300) : Int) = m 249 6 from by omega, v9]; (try rw [show (300 + m 249 6 - 300 - z6 : Int) = m 249 6 - z6 from by omega])
      · rw [if_neg w2, if_neg w]
  (repeat rewrite [if_neg h9])
  by_cases h10 : j < 320
  · (repeat rewrite [if_pos h10])
    by_cases w : j - 310 < m 249 6
    · rw [if_pos w, if_pos (by omega)]; exact ho _ (by omega)
    · by_cases w2 : j - 310 < m 249 6 + 1
      · rw [if_pos w2, if_neg w]
        have ej : j = 310 + m 249 6 := by omega
        subst ej
        rw [show ((15 + 7 * ((310 + m 249 6) - 310)) : Int) = (15 + 7 * m 249 6) from by omega, v10]; (try rw [show (310 + m 249 6 - 310 - z6 : Int) = m 249 6 - z6 from by omega])
      · rw [if_neg w2, if_neg w]
  (repeat rewrite [if_neg h10])
  by_cases h11 : j < 330
  · (repeat rewrite [if_pos h11])
    by_cases w : j - 320 < m 249 6
    · rw [if_pos w, if_pos (by omega)]; exact ho _ (by omega)
    · by_cases w2 : j - 320 < m 249 6 + 1
      · rw [if_pos w2, if_neg w]
        have ej : j = 320 + m 249 6 := by omega
        subst ej
        rw [show ((16 + 7 * ((320 + m 249 6) - 320)) : Int) = (16 + 7 * m 249 6) from by omega, v11]; (try rw [show (320 + m 249 6 - 320 - z6 : Int) = m 249 6 - z6 from by omega])
      · rw [if_neg w2, if_neg w]
  (repeat rewrite [if_neg h11])
  by_cases h12 : j < 340
  · (repeat rewrite [if_pos h12])
    by_cases w : j - 330 < m 249 6
    · rw [if_pos w, if_pos (by omega)]; exact ho _ (by omega)
    · by_cases w2 : j - 330 < m 249 6 + 1
      · rw [if_pos w2, if_neg w]
        have ej : j = 330 + m 249 6 := by omega
        subst ej
        rw [show ((17 + 7 * ((330 + m 249 6) - 330)) : Int) = (17 + 7 * m 249 6) from by omega, v12]; (try rw [show (330 + m 249 6 - 330 - z6 : Int) = m 249 6 - z6 from by omega])
      · rw [if_neg w2, if_neg w]
  (repeat rewrite [if_neg h12])
  by_cases h13 : j < 350
  · (repeat rewrite [if_pos h13])
    by_cases w : j - 340 < m 249 6
    · rw [if_pos w, if_pos (by omega)]; exact ho _ (by omega)
    · by_cases w2 : j - 340 < m 249 6 + 1
      · rw [if_pos w2, if_neg w]
        have ej : j = 340 + m 249 6 := by omega
        subst ej
        rw [show ((18 + 7 * ((340 + m 249 6) - 340)) : Int) = (18 + 7 * m 249 6) from by omega, v13]; (try rw [show (340 + m 249 6 - 340 - z6 : Int) = m 249 6 - z6 from by omega])
      · rw [if_neg w2, if_neg w]
  (repeat rewrite [if_neg h13])
  by_cases h14 : j < 360
  · (repeat rewrite [if_pos h14])
    by_cases w : j - 350 < m 249 6
    · rw [if_pos w, if_pos (by omega)]; exact ho _ (by omega)
    · by_cases w2 : j - 350 < m 249 6 + 1
      · rw [if_pos w2, if_neg w]
        have ej : j = 350 + m 249 6 := by omega
        subst ej
        rw [show ((19 + 7 * ((350 + m 249 6) - 350)) : Int) = (19 + 7 * m 249 6) from by omega, v14]; (try rw [show (350 + m 249 6 - 350 - z6 : Int) = m 249 6 - z6 from by omega])
      · rw [if_neg w2, if_neg w]
  (repeat rewrite [if_neg h14])
  by_cases h15 : j < 370
  · (repeat rewrite [if_pos h15])
    by_cases w : j - 360 < m 249 6
    · rw [if_pos w, if_pos (by omega)]; exact ho _ (by omega)
    · by_cases w2 : j - 360 < m 249 6 + 1
      · rw [if_pos w2, if_neg w]
        have ej : j = 360 + m 249 6 := by omega
        subst ej
        rw [show ((20 + 7 * ((360 + m 249 6) - 360)) : Int) = (20 + 7 * m 249 6) from by omega, v15]; (try rw [show (360 + m 249 6 - 360 - z6 : Int) = m 249 6 - z6 from by omega])
      · rw [if_neg w2, if_neg w]
  (repeat rewrite [if_neg h15])
  by_cases w : j - 370 < m 249 6
  · rw [if_pos w, if_pos (by omega)]; exact ho _ (by omega)
  · by_cases w2 : j - 370 < m 249 6 + 1
    · rw [if_pos w2, if_neg w]
      have ej : j = 370 + m 249 6 := by omega
      subst ej
      rw [show ((21 + 7 * ((370 + m 249 6) - 370)) : Int) = (21 + 7 * m 249 6) from by omega, v16]; (try rw [show (370 + m 249 6 - 370 - z6 : Int) = m 249 6 - z6 from by omega])
    · rw [if_neg w2, if_neg w]
