/-! what THE KITCHEN's text keeps of its values and of the state -/
/-- the state, as the one function of THE KITCHEN's values tells it -/
def asK (f : Int → Int) (o nw : Int) : AS := fun a j => if a = 0 then f (200 + j) else if a = 1 then f (210 + j) else if a = 2 then f (220 + j) else if a = 3 then f (310 + j) else if a = 4 then f (320 + j) else if a = 5 then f (330 + j) else if a = 6 then f (340 + j) else if a = 7 then f (350 + j) else if a = 8 then f (360 + j) else if a = 9 then f (370 + j) else if a = 10 then (if j = 0 then o else nw) else 0
section
variable (f : Int → Int) (o nw j : Int)
theorem ak_0 : asK f o nw 0 j = f (200 + j) := by simp [asK]
theorem ak_1 : asK f o nw 1 j = f (210 + j) := by simp [asK]
theorem ak_2 : asK f o nw 2 j = f (220 + j) := by simp [asK]
theorem ak_3 : asK f o nw 3 j = f (310 + j) := by simp [asK]
theorem ak_4 : asK f o nw 4 j = f (320 + j) := by simp [asK]
theorem ak_5 : asK f o nw 5 j = f (330 + j) := by simp [asK]
theorem ak_6 : asK f o nw 6 j = f (340 + j) := by simp [asK]
theorem ak_7 : asK f o nw 7 j = f (350 + j) := by simp [asK]
theorem ak_8 : asK f o nw 8 j = f (360 + j) := by simp [asK]
theorem ak_9 : asK f o nw 9 j = f (370 + j) := by simp [asK]
theorem ak_o : asK f o nw 10 0 = o := by simp [asK]
theorem ak_n : asK f o nw 10 1 = nw := by simp [asK]
end
theorem vW_100 {f : Int → Int} {n a b s d j : Int} (hj : 0 ≤ j ∧ j < 20) (hn : 0 ≤ n ∧ n < 14) : vW f n a b s d (100 + j) = (if j = n then a else f (100 + j)) := by
  unfold vW kup
  by_cases z : j = n
  · subst z
    rw [if_pos rfl]
    (repeat (first | rw [if_neg (by omega)] | rw [if_pos (by omega)]))
  · rw [if_neg z]
    (repeat rw [if_neg (by omega)])
theorem vW_120 {f : Int → Int} {n a b s d j : Int} (hj : 0 ≤ j ∧ j < 20) (hn : 0 ≤ n ∧ n < 14) : vW f n a b s d (120 + j) = (if j = n then b else f (120 + j)) := by
  unfold vW kup
  by_cases z : j = n
  · subst z
    rw [if_pos rfl]
    (repeat (first | rw [if_neg (by omega)] | rw [if_pos (by omega)]))
  · rw [if_neg z]
    (repeat rw [if_neg (by omega)])
theorem vW_200 {f : Int → Int} {n a b s d j : Int} (hj : 0 ≤ j ∧ j < 10) (hn : 0 ≤ n ∧ n < 14) : vW f n a b s d (200 + j) = f (200 + j) := by
  unfold vW kup
  (repeat rw [if_neg (by omega)])
theorem vW_210 {f : Int → Int} {n a b s d j : Int} (hj : 0 ≤ j ∧ j < 10) (hn : 0 ≤ n ∧ n < 14) : vW f n a b s d (210 + j) = f (210 + j) := by
  unfold vW kup
  (repeat rw [if_neg (by omega)])
theorem vW_220 {f : Int → Int} {n a b s d j : Int} (hj : 0 ≤ j ∧ j < 10) (hn : 0 ≤ n ∧ n < 14) : vW f n a b s d (220 + j) = f (220 + j) := by
  unfold vW kup
  (repeat rw [if_neg (by omega)])
theorem vW_230 {f : Int → Int} {n a b s d j : Int} (hj : 0 ≤ j ∧ j < 10) (hn : 0 ≤ n ∧ n < 14) : vW f n a b s d (230 + j) = f (230 + j) := by
  unfold vW kup
  (repeat rw [if_neg (by omega)])
theorem vW_300 {f : Int → Int} {n a b s d j : Int} (hj : 0 ≤ j ∧ j < 10) (hn : 0 ≤ n ∧ n < 14) : vW f n a b s d (300 + j) = f (300 + j) := by
  unfold vW kup
  (repeat rw [if_neg (by omega)])
theorem vW_310 {f : Int → Int} {n a b s d j : Int} (hj : 0 ≤ j ∧ j < 10) (hn : 0 ≤ n ∧ n < 14) : vW f n a b s d (310 + j) = f (310 + j) := by
  unfold vW kup
  (repeat rw [if_neg (by omega)])
theorem vW_320 {f : Int → Int} {n a b s d j : Int} (hj : 0 ≤ j ∧ j < 10) (hn : 0 ≤ n ∧ n < 14) : vW f n a b s d (320 + j) = f (320 + j) := by
  unfold vW kup
  (repeat rw [if_neg (by omega)])
theorem vW_330 {f : Int → Int} {n a b s d j : Int} (hj : 0 ≤ j ∧ j < 10) (hn : 0 ≤ n ∧ n < 14) : vW f n a b s d (330 + j) = f (330 + j) := by
  unfold vW kup
  (repeat rw [if_neg (by omega)])
theorem vW_340 {f : Int → Int} {n a b s d j : Int} (hj : 0 ≤ j ∧ j < 10) (hn : 0 ≤ n ∧ n < 14) : vW f n a b s d (340 + j) = f (340 + j) := by
  unfold vW kup
  (repeat rw [if_neg (by omega)])
theorem vW_350 {f : Int → Int} {n a b s d j : Int} (hj : 0 ≤ j ∧ j < 10) (hn : 0 ≤ n ∧ n < 14) : vW f n a b s d (350 + j) = f (350 + j) := by
  unfold vW kup
  (repeat rw [if_neg (by omega)])
theorem vW_360 {f : Int → Int} {n a b s d j : Int} (hj : 0 ≤ j ∧ j < 10) (hn : 0 ≤ n ∧ n < 14) : vW f n a b s d (360 + j) = f (360 + j) := by
  unfold vW kup
  (repeat rw [if_neg (by omega)])
theorem vW_370 {f : Int → Int} {n a b s d j : Int} (hj : 0 ≤ j ∧ j < 10) (hn : 0 ≤ n ∧ n < 14) : vW f n a b s d (370 + j) = f (370 + j) := by
  unfold vW kup
  (repeat rw [if_neg (by omega)])
theorem vO_100 {f : Int → Int} {n a b s j : Int} (hj : 0 ≤ j ∧ j < 20) (hn : 0 ≤ n ∧ n < 14) : vO f n a b s (100 + j) = f (100 + j) := by
  unfold vO kup
  (repeat rw [if_neg (by omega)])
theorem vO_120 {f : Int → Int} {n a b s j : Int} (hj : 0 ≤ j ∧ j < 20) (hn : 0 ≤ n ∧ n < 14) : vO f n a b s (120 + j) = f (120 + j) := by
  unfold vO kup
  (repeat rw [if_neg (by omega)])
theorem vO_200 {f : Int → Int} {n a b s j : Int} (hj : 0 ≤ j ∧ j < 10) (hn : 0 ≤ n ∧ n < 10) : vO f n a b s (200 + j) = (if j = n then a else f (200 + j)) := by
  unfold vO kup
  by_cases z : j = n
  · subst z
    rw [if_pos rfl]
    (repeat (first | rw [if_neg (by omega)] | rw [if_pos (by omega)]))
  · rw [if_neg z]
    (repeat rw [if_neg (by omega)])
theorem vO_210 {f : Int → Int} {n a b s j : Int} (hj : 0 ≤ j ∧ j < 10) (hn : 0 ≤ n ∧ n < 10) : vO f n a b s (210 + j) = (if j = n then b else f (210 + j)) := by
  unfold vO kup
  by_cases z : j = n
  · subst z
    rw [if_pos rfl]
    (repeat (first | rw [if_neg (by omega)] | rw [if_pos (by omega)]))
  · rw [if_neg z]
    (repeat rw [if_neg (by omega)])
theorem vO_220 {f : Int → Int} {n a b s j : Int} (hj : 0 ≤ j ∧ j < 10) (hn : 0 ≤ n ∧ n < 10) : vO f n a b s (220 + j) = (if j = n then 0 else f (220 + j)) := by
  unfold vO kup
  by_cases z : j = n
  · subst z
    rw [if_pos rfl]
    (repeat (first | rw [if_neg (by omega)] | rw [if_pos (by omega)]))
  · rw [if_neg z]
    (repeat rw [if_neg (by omega)])
theorem vO_230 {f : Int → Int} {n a b s j : Int} (hj : 0 ≤ j ∧ j < 10) (hn : 0 ≤ n ∧ n < 10) : vO f n a b s (230 + j) = (if j = n then s else f (230 + j)) := by
  unfold vO kup
  by_cases z : j = n
  · subst z
    rw [if_pos rfl]
    (repeat (first | rw [if_neg (by omega)] | rw [if_pos (by omega)]))
  · rw [if_neg z]
    (repeat rw [if_neg (by omega)])
theorem vO_300 {f : Int → Int} {n a b s j : Int} (hj : 0 ≤ j ∧ j < 10) (hn : 0 ≤ n ∧ n < 10) : vO f n a b s (300 + j) = f (300 + j) := by
  unfold vO kup
  (repeat rw [if_neg (by omega)])
theorem vO_310 {f : Int → Int} {n a b s j : Int} (hj : 0 ≤ j ∧ j < 10) (hn : 0 ≤ n ∧ n < 10) : vO f n a b s (310 + j) = f (310 + j) := by
  unfold vO kup
  (repeat rw [if_neg (by omega)])
theorem vO_320 {f : Int → Int} {n a b s j : Int} (hj : 0 ≤ j ∧ j < 10) (hn : 0 ≤ n ∧ n < 10) : vO f n a b s (320 + j) = f (320 + j) := by
  unfold vO kup
  (repeat rw [if_neg (by omega)])
theorem vO_330 {f : Int → Int} {n a b s j : Int} (hj : 0 ≤ j ∧ j < 10) (hn : 0 ≤ n ∧ n < 10) : vO f n a b s (330 + j) = f (330 + j) := by
  unfold vO kup
  (repeat rw [if_neg (by omega)])
theorem vO_340 {f : Int → Int} {n a b s j : Int} (hj : 0 ≤ j ∧ j < 10) (hn : 0 ≤ n ∧ n < 10) : vO f n a b s (340 + j) = f (340 + j) := by
  unfold vO kup
  (repeat rw [if_neg (by omega)])
theorem vO_350 {f : Int → Int} {n a b s j : Int} (hj : 0 ≤ j ∧ j < 10) (hn : 0 ≤ n ∧ n < 10) : vO f n a b s (350 + j) = f (350 + j) := by
  unfold vO kup
  (repeat rw [if_neg (by omega)])
theorem vO_360 {f : Int → Int} {n a b s j : Int} (hj : 0 ≤ j ∧ j < 10) (hn : 0 ≤ n ∧ n < 10) : vO f n a b s (360 + j) = f (360 + j) := by
  unfold vO kup
  (repeat rw [if_neg (by omega)])
theorem vO_370 {f : Int → Int} {n a b s j : Int} (hj : 0 ≤ j ∧ j < 10) (hn : 0 ≤ n ∧ n < 10) : vO f n a b s (370 + j) = f (370 + j) := by
  unfold vO kup
  (repeat rw [if_neg (by omega)])
theorem vH_100 {f : Int → Int} {n a b j : Int} (hj : 0 ≤ j ∧ j < 20) (hn : 0 ≤ n ∧ n < 14) : vH f n a b (100 + j) = f (100 + j) := by
  unfold vH kup
  (repeat rw [if_neg (by omega)])
theorem vH_120 {f : Int → Int} {n a b j : Int} (hj : 0 ≤ j ∧ j < 20) (hn : 0 ≤ n ∧ n < 14) : vH f n a b (120 + j) = f (120 + j) := by
  unfold vH kup
  (repeat rw [if_neg (by omega)])
theorem vH_200 {f : Int → Int} {n a b j : Int} (hj : 0 ≤ j ∧ j < 10) (hn : 0 ≤ n ∧ n < 10) : vH f n a b (200 + j) = f (200 + j) := by
  unfold vH kup
  (repeat rw [if_neg (by omega)])
theorem vH_210 {f : Int → Int} {n a b j : Int} (hj : 0 ≤ j ∧ j < 10) (hn : 0 ≤ n ∧ n < 10) : vH f n a b (210 + j) = f (210 + j) := by
  unfold vH kup
  (repeat rw [if_neg (by omega)])
theorem vH_220 {f : Int → Int} {n a b j : Int} (hj : 0 ≤ j ∧ j < 10) (hn : 0 ≤ n ∧ n < 10) : vH f n a b (220 + j) = f (220 + j) := by
  unfold vH kup
  (repeat rw [if_neg (by omega)])
theorem vH_230 {f : Int → Int} {n a b j : Int} (hj : 0 ≤ j ∧ j < 10) (hn : 0 ≤ n ∧ n < 10) : vH f n a b (230 + j) = f (230 + j) := by
  unfold vH kup
  (repeat rw [if_neg (by omega)])
theorem vH_300 {f : Int → Int} {n a b j : Int} (hj : 0 ≤ j ∧ j < 10) (hn : 0 ≤ n ∧ n < 10) : vH f n a b (300 + j) = (if j = n then a else f (300 + j)) := by
  unfold vH kup
  by_cases z : j = n
  · subst z
    rw [if_pos rfl]
    (repeat (first | rw [if_neg (by omega)] | rw [if_pos (by omega)]))
  · rw [if_neg z]
    (repeat rw [if_neg (by omega)])
theorem vH_310 {f : Int → Int} {n a b j : Int} (hj : 0 ≤ j ∧ j < 10) (hn : 0 ≤ n ∧ n < 10) : vH f n a b (310 + j) = (if j = n then b else f (310 + j)) := by
  unfold vH kup
  by_cases z : j = n
  · subst z
    rw [if_pos rfl]
    (repeat (first | rw [if_neg (by omega)] | rw [if_pos (by omega)]))
  · rw [if_neg z]
    (repeat rw [if_neg (by omega)])
theorem vH_320 {f : Int → Int} {n a b j : Int} (hj : 0 ≤ j ∧ j < 10) (hn : 0 ≤ n ∧ n < 10) : vH f n a b (320 + j) = (if j = n then 0 else f (320 + j)) := by
  unfold vH kup
  by_cases z : j = n
  · subst z
    rw [if_pos rfl]
    (repeat (first | rw [if_neg (by omega)] | rw [if_pos (by omega)]))
  · rw [if_neg z]
    (repeat rw [if_neg (by omega)])
theorem vH_330 {f : Int → Int} {n a b j : Int} (hj : 0 ≤ j ∧ j < 10) (hn : 0 ≤ n ∧ n < 10) : vH f n a b (330 + j) = (if j = n then 0 else f (330 + j)) := by
  unfold vH kup
  by_cases z : j = n
  · subst z
    rw [if_pos rfl]
    (repeat (first | rw [if_neg (by omega)] | rw [if_pos (by omega)]))
  · rw [if_neg z]
    (repeat rw [if_neg (by omega)])
theorem vH_340 {f : Int → Int} {n a b j : Int} (hj : 0 ≤ j ∧ j < 10) (hn : 0 ≤ n ∧ n < 10) : vH f n a b (340 + j) = (if j = n then 0 else f (340 + j)) := by
  unfold vH kup
  by_cases z : j = n
  · subst z
    rw [if_pos rfl]
    (repeat (first | rw [if_neg (by omega)] | rw [if_pos (by omega)]))
  · rw [if_neg z]
    (repeat rw [if_neg (by omega)])
theorem vH_350 {f : Int → Int} {n a b j : Int} (hj : 0 ≤ j ∧ j < 10) (hn : 0 ≤ n ∧ n < 10) : vH f n a b (350 + j) = (if j = n then 0 else f (350 + j)) := by
  unfold vH kup
  by_cases z : j = n
  · subst z
    rw [if_pos rfl]
    (repeat (first | rw [if_neg (by omega)] | rw [if_pos (by omega)]))
  · rw [if_neg z]
    (repeat rw [if_neg (by omega)])
theorem vH_360 {f : Int → Int} {n a b j : Int} (hj : 0 ≤ j ∧ j < 10) (hn : 0 ≤ n ∧ n < 10) : vH f n a b (360 + j) = (if j = n then -1 else f (360 + j)) := by
  unfold vH kup
  by_cases z : j = n
  · subst z
    rw [if_pos rfl]
    (repeat (first | rw [if_neg (by omega)] | rw [if_pos (by omega)]))
  · rw [if_neg z]
    (repeat rw [if_neg (by omega)])
theorem vH_370 {f : Int → Int} {n a b j : Int} (hj : 0 ≤ j ∧ j < 10) (hn : 0 ≤ n ∧ n < 10) : vH f n a b (370 + j) = (if j = n then 0 else f (370 + j)) := by
  unfold vH kup
  by_cases z : j = n
  · subst z
    rw [if_pos rfl]
    (repeat (first | rw [if_neg (by omega)] | rw [if_pos (by omega)]))
  · rw [if_neg z]
    (repeat rw [if_neg (by omega)])
/-- what holds of a kitchen that was told -/
def KIV (H0 : Int) (s : KS) (o nw : Int) : Prop := ((0 ≤ s.1 ∧ s.1 ≤ 10) ∧ (0 ≤ s.2.1 ∧ s.2.1 ≤ 14) ∧ (0 ≤ s.2.2.1 ∧ s.2.2.1 ≤ 5) ∧ (0 ≤ s.2.2.2.1 ∧ s.2.2.2.1 ≤ 5)) ∧ IV s.1 s.2.2.1 s.2.2.2.1 (asK s.2.2.2.2 o nw) ∧ (∀ w, 0 ≤ w → w < s.2.1 → ((0 ≤ s.2.2.2.2 (100 + w) ∧ s.2.2.2.2 (100 + w) < s.1) ∧ (0 ≤ s.2.2.2.2 (120 + w) ∧ s.2.2.2.2 (120 + w) < s.1) ∧ s.2.2.2.2 (100 + w) ≠ s.2.2.2.2 (120 + w))) ∧ (∀ q, 0 ≤ q → q < s.2.2.1 → 0 ≤ s.2.2.2.2 (230 + q) ∧ s.2.2.2.2 (230 + q) ≤ 9) ∧ (∀ p, 0 ≤ p → p < s.2.2.2.1 → 0 ≤ s.2.2.2.2 (300 + p) ∧ s.2.2.2.2 (300 + p) ≤ 99) ∧ (∀ p, H0 ≤ p → 0 ≤ p → p < s.2.2.2.1 → s.2.2.2.2 (360 + p) = -1) ∧ BN s.2.2.1 s.2.2.2.1 (asK s.2.2.2.2 o nw)
theorem IV_L {L L' P H : Int} {x : AS} (h : IV L P H x) (hL : L ≤ L') : IV L' P H x := by
  obtain ⟨h1, h2, h3, h4⟩ := h
  refine ⟨fun p p0 p1 => ?_, h2, fun q q0 q1 => ?_, h4⟩
  · obtain ⟨a, b, c, d, e, f, g⟩ := h1 p p0 p1
    exact ⟨a, ⟨b.1, by omega⟩, c, d, e, f, g⟩
  · obtain ⟨a, b, c⟩ := h3 q q0 q1
    exact ⟨a, ⟨b.1, by omega⟩, c⟩
/-- a pot more -/
theorem IV_pot {L P H : Int} {x y : AS} (h : IV L P H x) (hP : 0 ≤ P) (ho : ∀ f j, 0 ≤ f → f ≤ 2 → 0 ≤ j → j < P → y f j = x f j) (hp : ∀ f j, 3 ≤ f → f ≤ 9 → 0 ≤ j → j < H → y f j = x f j) (hn : y 10 1 = x 10 1) (h0 : 0 ≤ y 0 P ∧ y 0 P ≤ 999) (h1 : 0 ≤ y 1 P ∧ y 1 P < L) (h2 : y 2 P = 0) : IV L (P + 1) H y := by
  obtain ⟨k1, k2, k3, k4⟩ := h
  refine ⟨fun p p0 p1 => ?_, fun p q p0 p1 q0 q1 => ?_, fun q q0 q1 => ?_, by rw [hn]; exact k4⟩
  · obtain ⟨a, b, c, d, e, f, g⟩ := k1 p p0 p1
    rw [hp 8 p (by decide) (by decide) p0 p1, hp 3 p (by decide) (by decide) p0 p1, hp 6 p (by decide) (by decide) p0 p1, hp 4 p (by decide) (by decide) p0 p1, hp 5 p (by decide) (by decide) p0 p1, hp 7 p (by decide) (by decide) p0 p1]
    refine ⟨by omega, b, c, fun z => ?_, e, f, g⟩
    rw [ho 1 _ (by decide) (by decide) z (by omega), ho 2 _ (by decide) (by decide) z (by omega)]
    exact d z
  · rw [hp 8 p (by decide) (by decide) p0 p1, hp 8 q (by decide) (by decide) q0 q1]; exact k2 p q p0 p1 q0 q1
  · by_cases z : q = P
    · subst z
      exact ⟨h0, by omega, Or.inl h2⟩
    · rw [ho 0 q (by decide) (by decide) q0 (by omega), ho 1 q (by decide) (by decide) q0 (by omega), ho 2 q (by decide) (by decide) q0 (by omega)]
      exact k3 q q0 (by omega)
theorem BN_pot {P H : Int} {x y : AS} (h : BN P H x) (hP : 0 ≤ P) (e2 : ∀ q, 0 ≤ q → q < P → y 2 q = x 2 q) (e9 : ∀ p, 0 ≤ p → p < H → y 9 p = x 9 p) (h2 : y 2 P = 0) : BN (P + 1) H y := by
  obtain ⟨a, b⟩ := BN_fr h e2 e9
  refine ⟨a, ?_⟩
  rw [show (P + 1).toNat = P.toNat + 1 by omega, b]
  show _ = sm (y 2) P.toNat + y 2 (P.toNat : Int)
  rw [show ((P.toNat : Nat) : Int) = P by omega, h2, Int.add_zero]
theorem BN_one {P H : Int} {x y : AS} (h : BN P H x) (hH : 0 ≤ H) (e2 : ∀ q, 0 ≤ q → q < P → y 2 q = x 2 q) (e9 : ∀ p, 0 ≤ p → p < H → y 9 p = x 9 p) (h9 : y 9 H = 0) : BN P (H + 1) y := by
  obtain ⟨a, b⟩ := BN_fr h e2 e9
  refine ⟨fun p p0 p1 => ?_, ?_⟩
  · by_cases z : p = H
    · rw [z, h9]; decide
    · exact a p p0 (by omega)
  · rw [show (H + 1).toNat = H.toNat + 1 by omega, ← b]
    show sm (y 9) H.toNat + y 9 (H.toNat : Int) = _
    rw [show ((H.toNat : Nat) : Int) = H by omega, h9, Int.add_zero]
/-- one of the people more -/
theorem IV_one {L P H : Int} {x y : AS} (h : IV L P H x) (hH : 0 ≤ H) (ho : ∀ f j, 0 ≤ f → f ≤ 2 → 0 ≤ j → j < P → y f j = x f j) (hp : ∀ f j, 3 ≤ f → f ≤ 9 → 0 ≤ j → j < H → y f j = x f j) (hn : y 10 1 = x 10 1) (hP : 0 ≤ P) (h3 : 0 ≤ y 3 H ∧ y 3 H < L) (h4 : y 4 H = 0) (h5 : y 5 H = 0) (h6 : y 6 H = 0) (h7 : y 7 H = 0) (h8 : y 8 H = -1) : IV L P (H + 1) y := by
  obtain ⟨k1, k2, k3, k4⟩ := h
  refine ⟨fun p p0 p1 => ?_, fun p q p0 p1 q0 q1 hq hn8 => ?_, fun q q0 q1 => ?_, by rw [hn]; exact k4⟩
  · by_cases z : p = H
    · subst z
      rw [h4, h5, h6, h7, h8]
      exact ⟨by omega, h3, by omega, fun y => absurd y (by decide), inI_0, inI_0, by omega⟩
    · obtain ⟨a, b, c, d, e, f, g⟩ := k1 p p0 (by omega)
      rw [hp 8 p (by decide) (by decide) p0 (by omega), hp 3 p (by decide) (by decide) p0 (by omega), hp 6 p (by decide) (by decide) p0 (by omega), hp 4 p (by decide) (by decide) p0 (by omega), hp 5 p (by decide) (by decide) p0 (by omega), hp 7 p (by decide) (by decide) p0 (by omega)]
      refine ⟨a, b, c, fun w => ?_, e, f, g⟩
      rw [ho 1 _ (by decide) (by decide) w a.2, ho 2 _ (by decide) (by decide) w a.2]
      exact d w
  · by_cases z : p = H
    · subst z; rw [h8] at hn8; exact absurd hn8 (by decide)
    · rw [hp 8 p (by decide) (by decide) p0 (by omega)] at hq hn8
      by_cases w : q = H
      · subst w; rw [h8] at hq; omega
      · rw [hp 8 q (by decide) (by decide) q0 (by omega)] at hq
        exact k2 p q p0 (by omega) q0 (by omega) hq hn8
  · rw [ho 0 q (by decide) (by decide) q0 q1, ho 1 q (by decide) (by decide) q0 q1, ho 2 q (by decide) (by decide) q0 q1]
    exact k3 q q0 q1
theorem nv_c {T : Int → Int} {L p : Int} : (nv T L 2 0 p).1 < 100 := by
  by_cases h1 : dgt T L p
  · rw [nv_y 1 h1]
    by_cases h2 : dgt T L (p + 1)
    · rw [nv_y 0 h2, nv_0]; unfold dgt at h1 h2; dsimp only; omega
    · rw [nv_n _ h2]; unfold dgt at h1; dsimp only; omega
  · rw [nv_n _ h1]; show (0 : Int) < 100; decide
theorem f02 {f : Int} (h0 : 0 ≤ f) (h1 : f ≤ 2) : f = 0 ∨ f = 1 ∨ f = 2 := by omega
theorem f39 {f : Int} (h0 : 3 ≤ f) (h1 : f ≤ 9) : f = 3 ∨ f = 4 ∨ f = 5 ∨ f = 6 ∨ f = 7 ∨ f = 8 ∨ f = 9 := by omega
theorem KIV_P {s : KS} {H0 o nw v : Int} (h : KIV H0 s o nw) (hr : s.1 < 10) : KIV H0 (s.1 + 1, s.2.1, s.2.2.1, s.2.2.2.1, kup s.2.2.2.2 s.1 v) o nw := by
  obtain ⟨⟨b1, b2, b3, b4⟩, i, w, q, p, l, bn⟩ := h
  have e : ∀ j, 10 ≤ j → kup s.2.2.2.2 s.1 v j = s.2.2.2.2 j := fun j hj => by unfold kup; rw [if_neg (by omega)]
  refine ⟨⟨by dsimp only; omega, b2, b3, b4⟩, ?_, fun j j0 j1 => ?_, fun j j0 j1 => ?_, fun j j0 j1 => ?_, fun j jh j0 j1 => ?_, ?_⟩
  · refine IV_L (IV_SE i ⟨fun f j f0 f1 j0 j1 => ?_, fun f j f0 f1 j0 j1 => ?_, ?_, ?_⟩) (by dsimp only; omega)
    · (try dsimp only at j1)
      rcases f02 f0 f1 with rfl | rfl | rfl <;> simp only [ak_0, ak_1, ak_2, ak_3, ak_4, ak_5, ak_6, ak_7, ak_8, ak_9, ak_n] <;> exact (e _ (by omega)).symm
    · (try dsimp only at j1)
      rcases f39 f0 f1 with rfl | rfl | rfl | rfl | rfl | rfl | rfl <;> simp only [ak_0, ak_1, ak_2, ak_3, ak_4, ak_5, ak_6, ak_7, ak_8, ak_9, ak_n] <;> exact (e _ (by omega)).symm
    · rw [ak_o, ak_o]
    · rw [ak_n, ak_n]
  · dsimp only
    rw [e _ (by omega), e _ (by omega)]
    have := w j j0 j1
    omega
  · dsimp only; rw [e _ (by omega)]; exact q j j0 j1
  · dsimp only; rw [e _ (by omega)]; exact p j j0 j1
  · dsimp only; rw [e _ (by omega)]; exact l j jh j0 j1
  · exact BN_fr bn (fun j j0 j1 => by (try dsimp only at j1); rw [ak_2, ak_2]; exact e _ (by omega)) (fun j j0 j1 => by (try dsimp only at j1); rw [ak_9, ak_9]; exact e _ (by omega))
theorem KIV_W {s : KS} {H0 o nw a b c d : Int} (h : KIV H0 s o nw) (hr : s.2.1 < 14) (ha : 0 ≤ a ∧ a < s.1) (hb : 0 ≤ b ∧ b < s.1) (hab : b ≠ a) : KIV H0 (s.1, s.2.1 + 1, s.2.2.1, s.2.2.2.1, vW s.2.2.2.2 s.2.1 a b c d) o nw := by
  obtain ⟨⟨b1, b2, b3, b4⟩, i, w, q, p, l, bn⟩ := h
  have hn : 0 ≤ s.2.1 ∧ s.2.1 < 14 := by omega
  refine ⟨⟨b1, by dsimp only; omega, b3, b4⟩, ?_, fun j j0 j1 => ?_, fun j j0 j1 => ?_, fun j j0 j1 => ?_, fun j jh j0 j1 => ?_, ?_⟩
  · refine IV_SE i ⟨fun f j f0 f1 j0 j1 => ?_, fun f j f0 f1 j0 j1 => ?_, ?_, ?_⟩
    · (try dsimp only at j1)
      rcases f02 f0 f1 with rfl | rfl | rfl <;> simp only [ak_0, ak_1, ak_2, ak_3, ak_4, ak_5, ak_6, ak_7, ak_8, ak_9, ak_n]
      · exact (vW_200 ⟨j0, by omega⟩ hn).symm
      · exact (vW_210 ⟨j0, by omega⟩ hn).symm
      · exact (vW_220 ⟨j0, by omega⟩ hn).symm
    · (try dsimp only at j1)
      rcases f39 f0 f1 with rfl | rfl | rfl | rfl | rfl | rfl | rfl <;> simp only [ak_0, ak_1, ak_2, ak_3, ak_4, ak_5, ak_6, ak_7, ak_8, ak_9, ak_n]
      · exact (vW_310 ⟨j0, by omega⟩ hn).symm
      · exact (vW_320 ⟨j0, by omega⟩ hn).symm
      · exact (vW_330 ⟨j0, by omega⟩ hn).symm
      · exact (vW_340 ⟨j0, by omega⟩ hn).symm
      · exact (vW_350 ⟨j0, by omega⟩ hn).symm
      · exact (vW_360 ⟨j0, by omega⟩ hn).symm
      · exact (vW_370 ⟨j0, by omega⟩ hn).symm
    · rw [ak_o, ak_o]
    · rw [ak_n, ak_n]
  · dsimp only at j1 ⊢
    rw [vW_100 ⟨j0, by omega⟩ hn, vW_120 ⟨j0, by omega⟩ hn]
    by_cases z : j = s.2.1
    · rw [if_pos z, if_pos z]; omega
    · rw [if_neg z, if_neg z]; exact w j j0 (by omega)
  · dsimp only at j1 ⊢; rw [vW_230 ⟨j0, by omega⟩ hn]; exact q j j0 j1
  · dsimp only at j1 ⊢; rw [vW_300 ⟨j0, by omega⟩ hn]; exact p j j0 j1
  · dsimp only at j1 ⊢; rw [vW_360 ⟨j0, by omega⟩ hn]; exact l j jh j0 j1
  · exact BN_fr bn (fun j j0 j1 => by (try dsimp only at j1); rw [ak_2, ak_2]; exact vW_220 ⟨j0, by omega⟩ hn) (fun j j0 j1 => by (try dsimp only at j1); rw [ak_9, ak_9]; exact vW_370 ⟨j0, by omega⟩ hn)
theorem KIV_O {s : KS} {H0 o nw a b c : Int} (h : KIV H0 s o nw) (hr : s.2.2.1 < 5) (ha : 0 ≤ a ∧ a ≤ 999) (hb : 0 ≤ b ∧ b < s.1) (hc : 0 ≤ c ∧ c ≤ 9) : KIV H0 (s.1, s.2.1, s.2.2.1 + 1, s.2.2.2.1, vO s.2.2.2.2 s.2.2.1 a b c) o nw := by
  obtain ⟨⟨b1, b2, b3, b4⟩, i, w, q, p, l, bn⟩ := h
  have hn : 0 ≤ s.2.2.1 ∧ s.2.2.1 < 10 := by omega
  have hn14 : 0 ≤ s.2.2.1 ∧ s.2.2.1 < 14 := by omega
  refine ⟨⟨b1, b2, by dsimp only; omega, b4⟩, ?_, fun j j0 j1 => ?_, fun j j0 j1 => ?_, fun j j0 j1 => ?_, fun j jh j0 j1 => ?_, ?_⟩
  · refine IV_pot i b3.1 (fun f j f0 f1 j0 j1 => ?_) (fun f j f0 f1 j0 j1 => ?_) ?_ ?_ ?_ ?_
    · (try dsimp only at j1)
      rcases f02 f0 f1 with rfl | rfl | rfl <;> simp only [ak_0, ak_1, ak_2, ak_3, ak_4, ak_5, ak_6, ak_7, ak_8, ak_9, ak_n]
      · rw [vO_200 ⟨j0, by omega⟩ hn, if_neg (by omega)]
      · rw [vO_210 ⟨j0, by omega⟩ hn, if_neg (by omega)]
      · rw [vO_220 ⟨j0, by omega⟩ hn, if_neg (by omega)]
    · (try dsimp only at j1)
      rcases f39 f0 f1 with rfl | rfl | rfl | rfl | rfl | rfl | rfl <;> simp only [ak_0, ak_1, ak_2, ak_3, ak_4, ak_5, ak_6, ak_7, ak_8, ak_9, ak_n]
      · exact vO_310 ⟨j0, by omega⟩ hn
      · exact vO_320 ⟨j0, by omega⟩ hn
      · exact vO_330 ⟨j0, by omega⟩ hn
      · exact vO_340 ⟨j0, by omega⟩ hn
      · exact vO_350 ⟨j0, by omega⟩ hn
      · exact vO_360 ⟨j0, by omega⟩ hn
      · exact vO_370 ⟨j0, by omega⟩ hn
    · rw [ak_n, ak_n]
    · rw [ak_0]; (try dsimp only); rw [vO_200 ⟨by omega, by omega⟩ hn, if_pos rfl]; exact ha
    · rw [ak_1]; (try dsimp only); rw [vO_210 ⟨by omega, by omega⟩ hn, if_pos rfl]; exact hb
    · rw [ak_2]; (try dsimp only); rw [vO_220 ⟨by omega, by omega⟩ hn, if_pos rfl]
  · dsimp only at j1 ⊢
    rw [vO_100 ⟨j0, by omega⟩ hn14, vO_120 ⟨j0, by omega⟩ hn14]; exact w j j0 j1
  · dsimp only at j1 ⊢; rw [vO_230 ⟨j0, by omega⟩ hn]
    by_cases z : j = s.2.2.1
    · rw [if_pos z]; exact hc
    · rw [if_neg z]; exact q j j0 (by omega)
  · dsimp only at j1 ⊢; rw [vO_300 ⟨j0, by omega⟩ hn]; exact p j j0 j1
  · dsimp only at j1 ⊢; rw [vO_360 ⟨j0, by omega⟩ hn]; exact l j jh j0 j1
  · exact BN_pot bn b3.1 (fun j j0 j1 => by (try dsimp only at j1); rw [ak_2, ak_2]; (try dsimp only); rw [vO_220 ⟨j0, by omega⟩ hn, if_neg (by omega)]) (fun j j0 j1 => by (try dsimp only at j1); rw [ak_9, ak_9]; exact vO_370 ⟨j0, by omega⟩ hn) (by rw [ak_2]; (try dsimp only); rw [vO_220 ⟨by omega, by omega⟩ hn, if_pos rfl])
theorem KIV_H {s : KS} {H0 o nw a b : Int} (h : KIV H0 s o nw) (hr : s.2.2.2.1 < 5) (ha : 0 ≤ a ∧ a ≤ 99) (hb : 0 ≤ b ∧ b < s.1) : KIV H0 (s.1, s.2.1, s.2.2.1, s.2.2.2.1 + 1, vH s.2.2.2.2 s.2.2.2.1 a b) o nw := by
  obtain ⟨⟨b1, b2, b3, b4⟩, i, w, q, p, l, bn⟩ := h
  have hn : 0 ≤ s.2.2.2.1 ∧ s.2.2.2.1 < 10 := by omega
  have hn14 : 0 ≤ s.2.2.2.1 ∧ s.2.2.2.1 < 14 := by omega
  refine ⟨⟨b1, b2, b3, by dsimp only; omega⟩, ?_, fun j j0 j1 => ?_, fun j j0 j1 => ?_, fun j j0 j1 => ?_, fun j jh j0 j1 => ?_, ?_⟩
  · refine IV_one i b4.1 (fun f j f0 f1 j0 j1 => ?_) (fun f j f0 f1 j0 j1 => ?_) ?_ b3.1 ?_ ?_ ?_ ?_ ?_ ?_
    · (try dsimp only at j1)
      rcases f02 f0 f1 with rfl | rfl | rfl <;> simp only [ak_0, ak_1, ak_2, ak_3, ak_4, ak_5, ak_6, ak_7, ak_8, ak_9, ak_n]
      · exact vH_200 ⟨j0, by omega⟩ hn
      · exact vH_210 ⟨j0, by omega⟩ hn
      · exact vH_220 ⟨j0, by omega⟩ hn
    · (try dsimp only at j1)
      rcases f39 f0 f1 with rfl | rfl | rfl | rfl | rfl | rfl | rfl <;> simp only [ak_0, ak_1, ak_2, ak_3, ak_4, ak_5, ak_6, ak_7, ak_8, ak_9, ak_n]
      · rw [vH_310 ⟨j0, by omega⟩ hn, if_neg (by omega)]
      · rw [vH_320 ⟨j0, by omega⟩ hn, if_neg (by omega)]
      · rw [vH_330 ⟨j0, by omega⟩ hn, if_neg (by omega)]
      · rw [vH_340 ⟨j0, by omega⟩ hn, if_neg (by omega)]
      · rw [vH_350 ⟨j0, by omega⟩ hn, if_neg (by omega)]
      · rw [vH_360 ⟨j0, by omega⟩ hn, if_neg (by omega)]
      · rw [vH_370 ⟨j0, by omega⟩ hn, if_neg (by omega)]
    · rw [ak_n, ak_n]
    · rw [ak_3]; (try dsimp only); rw [vH_310 ⟨by omega, by omega⟩ hn, if_pos rfl]; exact hb
    · rw [ak_4]; (try dsimp only); rw [vH_320 ⟨by omega, by omega⟩ hn, if_pos rfl]
    · rw [ak_5]; (try dsimp only); rw [vH_330 ⟨by omega, by omega⟩ hn, if_pos rfl]
    · rw [ak_6]; (try dsimp only); rw [vH_340 ⟨by omega, by omega⟩ hn, if_pos rfl]
    · rw [ak_7]; (try dsimp only); rw [vH_350 ⟨by omega, by omega⟩ hn, if_pos rfl]
    · rw [ak_8]; (try dsimp only); rw [vH_360 ⟨by omega, by omega⟩ hn, if_pos rfl]
  · dsimp only at j1 ⊢
    rw [vH_100 ⟨j0, by omega⟩ hn14, vH_120 ⟨j0, by omega⟩ hn14]; exact w j j0 j1
  · dsimp only at j1 ⊢; rw [vH_230 ⟨j0, by omega⟩ hn]; exact q j j0 j1
  · dsimp only at j1 ⊢; rw [vH_300 ⟨j0, by omega⟩ hn]
    by_cases z : j = s.2.2.2.1
    · rw [if_pos z]; exact ha
    · rw [if_neg z]; exact p j j0 (by omega)
  · dsimp only at j1 ⊢; rw [vH_360 ⟨j0, by omega⟩ hn]
    by_cases z : j = s.2.2.2.1
    · rw [if_pos z]
    · rw [if_neg z]; exact l j jh j0 (by omega)
  · exact BN_one bn b4.1 (fun j j0 j1 => by (try dsimp only at j1); rw [ak_2, ak_2]; exact vH_220 ⟨j0, by omega⟩ hn) (fun j j0 j1 => by (try dsimp only at j1); rw [ak_9, ak_9]; (try dsimp only); rw [vH_370 ⟨j0, by omega⟩ hn, if_neg (by omega)]) (by rw [ak_9]; (try dsimp only); rw [vH_370 ⟨by omega, by omega⟩ hn, if_pos rfl])
theorem some_s {α : Type} {a b : α} (h : some a = some b) : a = b := Option.some.inj h
theorem lk_I {T : Int → Int} {L p p' : Int} {s s' : KS} {H0 o nw : Int} (h : KIV H0 s o nw) (hl : lk T L s p = some (s', p')) : KIV H0 s' o nw := by
  unfold lk lkW lkO lkH at hl
  have n1 := nv_r (T := T) (L := L) 3 0 (p + 1) (by decide)
  have n2 := nv_r (T := T) (L := L) 2 0 (p + 1) (by decide)
  have n3 := nv_b (T := T) (L := L) (p := p + 1)
  have n4 := nv_c (T := T) (L := L) (p := p + 1)
  split at hl
  · split at hl
    · rename_i z
      rw [show s' = _ from (congrArg Prod.fst (some_s hl)).symm]; exact KIV_P h z
    · exact absurd hl (by simp)
  split at hl
  · split at hl
    · rename_i z
      obtain ⟨z1, z2, z3, z4, -⟩ := z
      unfold let1 at z2 z3
      rw [show s' = _ from (congrArg Prod.fst (some_s hl)).symm]; exact KIV_W h z1 (by omega) (by omega) (by omega)
    · exact absurd hl (by simp)
  split at hl
  · split at hl
    · rename_i z
      obtain ⟨z1, z2, z3, z4, z5, z6, z7, z8, -⟩ := z
      unfold let1 at z8
      unfold dgt at z5
      rw [show s' = _ from (congrArg Prod.fst (some_s hl)).symm]; exact KIV_O h z1 (by omega) (by omega) (by omega)
    · exact absurd hl (by simp)
  split at hl
  · split at hl
    · rename_i z
      obtain ⟨z1, z2, z3, z4, z5, z6⟩ := z
      unfold let1 at z6
      rw [show s' = _ from (congrArg Prod.fst (some_s hl)).symm]; exact KIV_H h z1 (by omega) (by omega)
    · exact absurd hl (by simp)
  · exact absurd hl (by simp)
theorem lks_I {T : Int → Int} {L : Int} {H0 o nw : Int} : ∀ (n : Nat) (s : KS) (p : Int) (s' : KS) (p' : Int), KIV H0 s o nw → lks T L n s p = some (s', p') → KIV H0 s' o nw
  | 0, _, _, _, _, _, h => absurd h (by simp [lks])
  | n + 1, s, p, s', p', h, hl => by
    generalize hA : lk T L s p = A
    rcases A with _ | ⟨s1, p1⟩
    · rw [lks_n n hA] at hl; exact absurd hl (by simp)
    · have h1 := lk_I h hA
      by_cases z : p1 < L ∧ T p1 = 59
      · rw [lks_y n hA z] at hl; exact lks_I n _ _ _ _ h1 hl
      · rw [lks_x n hA z] at hl
        rw [show s' = _ from (congrArg Prod.fst (some_s hl)).symm]; exact h1
theorem kit_I {T : Int → Int} {tc : Int} {s s' : KS} {H0 o nw : Int} (h : KIV H0 s o nw) (hl : kit T tc s = some s') : KIV H0 s' o nw := by
  generalize hA : lks T (min tc 76) 81 s 0 = A
  rcases A with _ | ⟨s1, p1⟩
  · rw [kit_n hA] at hl; exact absurd hl (by simp)
  · by_cases z : p1 = min tc 76 ∧ tc ≤ 76
    · rw [kit_y hA z] at hl
      rw [← some_s hl]; exact lks_I 81 _ _ _ _ h hA
    · rw [kit_x hA z] at hl; exact absurd hl (by simp)
