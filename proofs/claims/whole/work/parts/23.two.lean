/-! both sides at once -/
/-- the reference's cells that no answer reads from an earlier call, and the component's -/
def gScr (x j : Int) : Prop := (x = 249 ∧ (j = 0 ∨ 19 ≤ j ∧ j ≤ 31 ∨ j = 33 ∨ j = 34 ∨ j = 35 ∨ j = 36 ∨ j = 37 ∨ j = 38 ∨ 41 ≤ j ∧ j ≤ 61 ∨ 65 ≤ j ∧ j ≤ 68)) ∨ 261 ≤ x ∧ x ≤ 264 ∨ 266 ≤ x ∧ x ≤ 268 ∨ 270 ≤ x ∧ x ≤ 280 ∨ 283 ≤ x ∧ x ≤ 284 ∨ x = 288 ∨
  x = 6 ∨ x = 7 ∨ (x = 2 ∧ 2 ≤ j) ∨ x = 25 ∨ (x = 26 ∧ 4 ≤ j ∧ j ≤ 6) ∨ 28 ≤ x ∧ x ≤ 30 ∨ 191 ≤ x ∧ x ≤ 210 ∨ (x = 211 ∧ 7 ≤ j) ∨ 214 ≤ x ∧ x ≤ 216
def gText (x j : Int) : Prop := x = 2 ∧ j = 1 ∨ x = 3 ∨ x = 249 ∧ j = 18 ∨ x = 260
def RText (m : Mem) : Prop := 0 ≤ m 2 1 ∧ m 2 1 ≤ 80 ∧ m 249 18 = m 2 1 ∧ ∀ j, 0 ≤ j → j < m 2 1 → m 260 j = m 3 j ∧ 0 ≤ m 3 j ∧ m 3 j < 256
/-- the same call on both: one answer, and R again -/
def Two (d K K' : Nat) (as : List Int) (R : Mem → Prop) : Prop := ∀ e m, R m → Cl d K (1 :: as) (fun v u => ∃ m1, u = S9 e m1 ∧ Cl d K' (249 :: as) (fun w u' => ∃ m2, u' = S9 e m2 ∧ w = v ∧ R m2) (S9 e m1)) (S9 e m)
/-- what changes the text alone keeps R -/
def KeepT (R : Mem → Prop) : Prop := (∀ m, R m → RText m) ∧ ∀ m m', R m → (∀ x j, ¬ gText x j → ¬ gScr x j → m' x j = m x j) → RText m' → R m'
theorem two_end {R : Mem → Prop} (hR : KeepT R) (d : Nat) (n : Int) : Two (d + 2) 14 168 [n] R := by
  intro e m hm
  have hT := hR.1 m hm
  have h9 := hR.2 m
  obtain ⟨a1, a2, a3, a4⟩ := hT
  refine t_end ⟨fun h => ⟨_, rfl, t_endM ⟨fun h' => ⟨_, rfl, rfl, ?_⟩, fun h' => absurd ?_ h'⟩⟩, fun h => ⟨_, rfl, t_endM ⟨fun h' => absurd ?_ h, fun h' => ⟨_, rfl, rfl, ?_⟩⟩⟩⟩
  · refine h9 _ hm (fun x j h1 h2 => ?_) ?_
    · unfold gScr at h2; unfold upm; rw [if_neg (by omega)]
    · simp [RText, upm]; exact ⟨a1, a2, a3, a4⟩
  · rw [a3]; exact h
  · simp [upm] at h'; rw [a3] at h'; exact h'
  · refine h9 _ hm (fun x j h1 h2 => ?_) ?_
    · unfold gScr at h2; unfold gText at h1; unfold upm; rw [if_neg (by omega), if_neg (by omega), if_neg (by omega)]
    · simp [RText, upm]; exact ⟨by omega, by omega, fun j h1 h2 => a4 j h1 (by omega)⟩
theorem two_sign {R : Mem → Prop} (hR : KeepT R) (d : Nat) (v : Int) : Two (d + 2) 12 167 [v] R := by
  intro e m hm
  have hT := hR.1 m hm
  have h9 := hR.2 m
  obtain ⟨a1, a2, a3, a4⟩ := hT
  refine t_sign a1 a2 ⟨fun h => ⟨_, rfl, t_signM (by rw [a3]; exact a1) (by rw [a3]; exact a2) ⟨fun h' => ⟨_, rfl, rfl, ?_⟩, fun h' => absurd h' (by rw [a3]; omega)⟩⟩, fun h m1 g => ⟨_, rfl, ?_⟩⟩
  · refine h9 _ hm (fun x j h1 h2 => ?_) ?_
    · unfold gScr at h2; unfold upm; rw [if_neg (by omega)]
    · simp [RText, upm]; exact ⟨a1, a2, a3, a4⟩
  · obtain ⟨g1, g2, g3⟩ := g
    have e18 : m1 249 18 = m 249 18 := g1 _ _ (by omega) (by omega)
    refine t_signM (by rw [e18, a3]; exact a1) (by rw [e18, a3]; exact a2) ⟨fun h' => absurd h' (by rw [e18, a3]; omega), fun _ m2 k => ⟨_, rfl, by rw [e18, a3], ?_⟩⟩
    obtain ⟨k1, k2, k3⟩ := k
    rw [e18, a3] at k1 k2 k3
    refine h9 _ hm (fun x j h1 h2 => ?_) ?_
    · unfold gScr at h2; unfold gText at h1
      rw [k1 x j (by omega) (by omega)]
      unfold upm; rw [if_neg (by omega), g1 x j (by omega) (by omega)]
    · have f1 : ∀ j, m2 3 j = m1 3 j := fun j => by rw [k1 _ _ (by omega) (by omega), upm_a _ _ _ _ _ _ (by decide)]
      have f2 : m2 2 1 = m 2 1 + 4 := by rw [k1 _ _ (by omega) (by omega), upm_a _ _ _ _ _ _ (by decide)]; exact g3
      refine ⟨by omega, by omega, by omega, fun j j1 j2 => ?_⟩
      rw [f2] at j2
      rw [f1]
      by_cases hj : j < m 2 1
      · rw [g1 3 j (by omega) (by omega), k1 260 j (by omega) (by omega), upm_a _ _ _ _ _ _ (by decide), g1 260 j (by omega) (by omega)]
        exact a4 j j1 hj
      · have e1 := g2 (j - m 2 1) (by omega) (by omega)
        have e2 := k2 (j - m 2 1) (by omega) (by omega)
        rw [show m 2 1 + (j - m 2 1) = j by omega] at e1 e2
        rw [e1, e2]
        exact ⟨rfl, byt_in _ _⟩
