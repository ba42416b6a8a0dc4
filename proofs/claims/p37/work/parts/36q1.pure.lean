section
/-! THE KITCHEN's lines, read by one pure reading: how many places, ways, pots, people there are, and the places' kinds -/
abbrev KS : Type := Int × Int × Int × Int × (Int → Int)
def kup (f : Int → Int) (i v : Int) : Int → Int := fun j => if j = i then v else f j
def kcd (c : Int) : Int := if c = 102 then 0 else if c = 98 then 1 else 2
/-- what a line tells: a way, a pot, one of the people -/
def vW (f : Int → Int) (w a b s d : Int) : Int → Int := kup (kup (kup (kup f (100 + w) a) (120 + w) b) (140 + w) s) (160 + w) d
def vO (f : Int → Int) (q h l c : Int) : Int → Int := kup (kup (kup (kup f (200 + q) h) (210 + q) l) (220 + q) 0) (230 + q) c
def vH (f : Int → Int) (p b l : Int) : Int → Int := kup (kup (kup (kup (kup (kup (kup (kup f (300 + p) b) (310 + p) l) (320 + p) 0) (330 + p) 0) (340 + p) 0) (350 + p) 0) (360 + p) (-1)) (370 + p) 0
/-- the indices of what there is -/
def VI (a b c d j : Int) : Prop := (0 ≤ j ∧ j < a) ∨ (100 ≤ j ∧ j < 100 + b) ∨ (120 ≤ j ∧ j < 120 + b) ∨ (140 ≤ j ∧ j < 140 + b) ∨ (160 ≤ j ∧ j < 160 + b) ∨ (200 ≤ j ∧ j < 200 + c) ∨ (210 ≤ j ∧ j < 210 + c) ∨ (220 ≤ j ∧ j < 220 + c) ∨ (230 ≤ j ∧ j < 230 + c) ∨ (300 ≤ j ∧ j < 300 + d) ∨ (310 ≤ j ∧ j < 310 + d) ∨ (320 ≤ j ∧ j < 320 + d) ∨ (330 ≤ j ∧ j < 330 + d) ∨ (340 ≤ j ∧ j < 340 + d) ∨ (350 ≤ j ∧ j < 350 + d) ∨ (360 ≤ j ∧ j < 360 + d) ∨ (370 ≤ j ∧ j < 370 + d)
theorem VI_p {a b c d j : Int} (hj : VI (a + 1) b c d j) (z : ¬ j = a) : VI a b c d j := by
  unfold VI at hj ⊢
  rcases hj with q | q
  · exact Or.inl ⟨q.1, by omega⟩
  · exact Or.inr (q)
theorem VI_w {a b c d j : Int} (hj : VI a (b + 1) c d j) (z1 : ¬ j = 160 + b) (z2 : ¬ j = 140 + b) (z3 : ¬ j = 120 + b) (z4 : ¬ j = 100 + b) : VI a b c d j := by
  unfold VI at hj ⊢
  rcases hj with q | q | q | q | q | q
  · exact Or.inl q
  · exact Or.inr (Or.inl ⟨q.1, by omega⟩)
  · exact Or.inr (Or.inr (Or.inl ⟨q.1, by omega⟩))
  · exact Or.inr (Or.inr (Or.inr (Or.inl ⟨q.1, by omega⟩)))
  · exact Or.inr (Or.inr (Or.inr (Or.inr (Or.inl ⟨q.1, by omega⟩))))
  · exact Or.inr (Or.inr (Or.inr (Or.inr (Or.inr (q)))))
theorem VI_o {a b c d j : Int} (hj : VI a b (c + 1) d j) (z1 : ¬ j = 230 + c) (z2 : ¬ j = 220 + c) (z3 : ¬ j = 210 + c) (z4 : ¬ j = 200 + c) : VI a b c d j := by
  unfold VI at hj ⊢
  rcases hj with q | q | q | q | q | q | q | q | q | q
  · exact Or.inl q
  · exact Or.inr (Or.inl q)
  · exact Or.inr (Or.inr (Or.inl q))
  · exact Or.inr (Or.inr (Or.inr (Or.inl q)))
  · exact Or.inr (Or.inr (Or.inr (Or.inr (Or.inl q))))
  · exact Or.inr (Or.inr (Or.inr (Or.inr (Or.inr (Or.inl ⟨q.1, by omega⟩)))))
  · exact Or.inr (Or.inr (Or.inr (Or.inr (Or.inr (Or.inr (Or.inl ⟨q.1, by omega⟩))))))
  · exact Or.inr (Or.inr (Or.inr (Or.inr (Or.inr (Or.inr (Or.inr (Or.inl ⟨q.1, by omega⟩)))))))
  · exact Or.inr (Or.inr (Or.inr (Or.inr (Or.inr (Or.inr (Or.inr (Or.inr (Or.inl ⟨q.1, by omega⟩))))))))
  · exact Or.inr (Or.inr (Or.inr (Or.inr (Or.inr (Or.inr (Or.inr (Or.inr (Or.inr (q)))))))))
theorem VI_h {a b c d j : Int} (hj : VI a b c (d + 1) j) (z1 : ¬ j = 370 + d) (z2 : ¬ j = 360 + d) (z3 : ¬ j = 350 + d) (z4 : ¬ j = 340 + d) (z5 : ¬ j = 330 + d) (z6 : ¬ j = 320 + d) (z7 : ¬ j = 310 + d) (z8 : ¬ j = 300 + d) : VI a b c d j := by
  unfold VI at hj ⊢
  rcases hj with q | q | q | q | q | q | q | q | q | q | q | q | q | q | q | q | q
  · exact Or.inl q
  · exact Or.inr (Or.inl q)
  · exact Or.inr (Or.inr (Or.inl q))
  · exact Or.inr (Or.inr (Or.inr (Or.inl q)))
  · exact Or.inr (Or.inr (Or.inr (Or.inr (Or.inl q))))
  · exact Or.inr (Or.inr (Or.inr (Or.inr (Or.inr (Or.inl q)))))
  · exact Or.inr (Or.inr (Or.inr (Or.inr (Or.inr (Or.inr (Or.inl q))))))
  · exact Or.inr (Or.inr (Or.inr (Or.inr (Or.inr (Or.inr (Or.inr (Or.inl q)))))))
  · exact Or.inr (Or.inr (Or.inr (Or.inr (Or.inr (Or.inr (Or.inr (Or.inr (Or.inl q))))))))
  · exact Or.inr (Or.inr (Or.inr (Or.inr (Or.inr (Or.inr (Or.inr (Or.inr (Or.inr (Or.inl ⟨q.1, by omega⟩)))))))))
  · exact Or.inr (Or.inr (Or.inr (Or.inr (Or.inr (Or.inr (Or.inr (Or.inr (Or.inr (Or.inr (Or.inl ⟨q.1, by omega⟩))))))))))
  · exact Or.inr (Or.inr (Or.inr (Or.inr (Or.inr (Or.inr (Or.inr (Or.inr (Or.inr (Or.inr (Or.inr (Or.inl ⟨q.1, by omega⟩)))))))))))
  · exact Or.inr (Or.inr (Or.inr (Or.inr (Or.inr (Or.inr (Or.inr (Or.inr (Or.inr (Or.inr (Or.inr (Or.inr (Or.inl ⟨q.1, by omega⟩))))))))))))
  · exact Or.inr (Or.inr (Or.inr (Or.inr (Or.inr (Or.inr (Or.inr (Or.inr (Or.inr (Or.inr (Or.inr (Or.inr (Or.inr (Or.inl ⟨q.1, by omega⟩)))))))))))))
  · exact Or.inr (Or.inr (Or.inr (Or.inr (Or.inr (Or.inr (Or.inr (Or.inr (Or.inr (Or.inr (Or.inr (Or.inr (Or.inr (Or.inr (Or.inl ⟨q.1, by omega⟩))))))))))))))
  · exact Or.inr (Or.inr (Or.inr (Or.inr (Or.inr (Or.inr (Or.inr (Or.inr (Or.inr (Or.inr (Or.inr (Or.inr (Or.inr (Or.inr (Or.inr (Or.inl ⟨q.1, by omega⟩)))))))))))))))
  · exact Or.inr (Or.inr (Or.inr (Or.inr (Or.inr (Or.inr (Or.inr (Or.inr (Or.inr (Or.inr (Or.inr (Or.inr (Or.inr (Or.inr (Or.inr (Or.inr (⟨q.1, by omega⟩))))))))))))))))
theorem VI_mono {a b c d a1 b1 c1 d1 j : Int} (ha : a ≤ a1) (hb : b ≤ b1) (hc : c ≤ c1) (hd : d ≤ d1) (hj : VI a b c d j) : VI a1 b1 c1 d1 j := by
  unfold VI at hj ⊢
  rcases hj with q | q | q | q | q | q | q | q | q | q | q | q | q | q | q | q | q
  · exact Or.inl ⟨q.1, by omega⟩
  · exact Or.inr (Or.inl ⟨q.1, by omega⟩)
  · exact Or.inr (Or.inr (Or.inl ⟨q.1, by omega⟩))
  · exact Or.inr (Or.inr (Or.inr (Or.inl ⟨q.1, by omega⟩)))
  · exact Or.inr (Or.inr (Or.inr (Or.inr (Or.inl ⟨q.1, by omega⟩))))
  · exact Or.inr (Or.inr (Or.inr (Or.inr (Or.inr (Or.inl ⟨q.1, by omega⟩)))))
  · exact Or.inr (Or.inr (Or.inr (Or.inr (Or.inr (Or.inr (Or.inl ⟨q.1, by omega⟩))))))
  · exact Or.inr (Or.inr (Or.inr (Or.inr (Or.inr (Or.inr (Or.inr (Or.inl ⟨q.1, by omega⟩)))))))
  · exact Or.inr (Or.inr (Or.inr (Or.inr (Or.inr (Or.inr (Or.inr (Or.inr (Or.inl ⟨q.1, by omega⟩))))))))
  · exact Or.inr (Or.inr (Or.inr (Or.inr (Or.inr (Or.inr (Or.inr (Or.inr (Or.inr (Or.inl ⟨q.1, by omega⟩)))))))))
  · exact Or.inr (Or.inr (Or.inr (Or.inr (Or.inr (Or.inr (Or.inr (Or.inr (Or.inr (Or.inr (Or.inl ⟨q.1, by omega⟩))))))))))
  · exact Or.inr (Or.inr (Or.inr (Or.inr (Or.inr (Or.inr (Or.inr (Or.inr (Or.inr (Or.inr (Or.inr (Or.inl ⟨q.1, by omega⟩)))))))))))
  · exact Or.inr (Or.inr (Or.inr (Or.inr (Or.inr (Or.inr (Or.inr (Or.inr (Or.inr (Or.inr (Or.inr (Or.inr (Or.inl ⟨q.1, by omega⟩))))))))))))
  · exact Or.inr (Or.inr (Or.inr (Or.inr (Or.inr (Or.inr (Or.inr (Or.inr (Or.inr (Or.inr (Or.inr (Or.inr (Or.inr (Or.inl ⟨q.1, by omega⟩)))))))))))))
  · exact Or.inr (Or.inr (Or.inr (Or.inr (Or.inr (Or.inr (Or.inr (Or.inr (Or.inr (Or.inr (Or.inr (Or.inr (Or.inr (Or.inr (Or.inl ⟨q.1, by omega⟩))))))))))))))
  · exact Or.inr (Or.inr (Or.inr (Or.inr (Or.inr (Or.inr (Or.inr (Or.inr (Or.inr (Or.inr (Or.inr (Or.inr (Or.inr (Or.inr (Or.inr (Or.inl ⟨q.1, by omega⟩)))))))))))))))
  · exact Or.inr (Or.inr (Or.inr (Or.inr (Or.inr (Or.inr (Or.inr (Or.inr (Or.inr (Or.inr (Or.inr (Or.inr (Or.inr (Or.inr (Or.inr (Or.inr (⟨q.1, by omega⟩))))))))))))))))
def KVL (a b c d : Int) (f' f : Int → Int) : Prop := ∀ j, VI a b c d j → f' j = f j
theorem KVL_p {a b c d v : Int} {f' f : Int → Int} (h : KVL a b c d f' f) : KVL (a + 1) b c d (kup f' a v) (kup f a v) := fun j hj => by
  unfold kup
  by_cases z : j = a
  · rw [if_pos z, if_pos z]
  · rw [if_neg z, if_neg z]; exact h j (VI_p hj z)
theorem vW_e {a b c d x y z u : Int} {f' f : Int → Int} (h : KVL a b c d f' f) : KVL a (b + 1) c d (vW f' b x y z u) (vW f b x y z u) := fun j hj => by
  unfold vW kup
  by_cases z1 : j = 160 + b
  · rw [if_pos z1, if_pos z1]
  by_cases z2 : j = 140 + b
  · rw [if_neg z1, if_neg z1, if_pos z2, if_pos z2]
  by_cases z3 : j = 120 + b
  · rw [if_neg z1, if_neg z1, if_neg z2, if_neg z2, if_pos z3, if_pos z3]
  by_cases z4 : j = 100 + b
  · rw [if_neg z1, if_neg z1, if_neg z2, if_neg z2, if_neg z3, if_neg z3, if_pos z4, if_pos z4]
  · rw [if_neg z1, if_neg z1, if_neg z2, if_neg z2, if_neg z3, if_neg z3, if_neg z4, if_neg z4]; exact h j (VI_w hj z1 z2 z3 z4)
theorem vO_e {a b c d x y z : Int} {f' f : Int → Int} (h : KVL a b c d f' f) : KVL a b (c + 1) d (vO f' c x y z) (vO f c x y z) := fun j hj => by
  unfold vO kup
  by_cases z1 : j = 230 + c
  · rw [if_pos z1, if_pos z1]
  by_cases z2 : j = 220 + c
  · rw [if_neg z1, if_neg z1, if_pos z2, if_pos z2]
  by_cases z3 : j = 210 + c
  · rw [if_neg z1, if_neg z1, if_neg z2, if_neg z2, if_pos z3, if_pos z3]
  by_cases z4 : j = 200 + c
  · rw [if_neg z1, if_neg z1, if_neg z2, if_neg z2, if_neg z3, if_neg z3, if_pos z4, if_pos z4]
  · rw [if_neg z1, if_neg z1, if_neg z2, if_neg z2, if_neg z3, if_neg z3, if_neg z4, if_neg z4]; exact h j (VI_o hj z1 z2 z3 z4)
theorem vH_e {a b c d x y : Int} {f' f : Int → Int} (h : KVL a b c d f' f) : KVL a b c (d + 1) (vH f' d x y) (vH f d x y) := fun j hj => by
  unfold vH kup
  by_cases z1 : j = 370 + d
  · rw [if_pos z1, if_pos z1]
  rw [if_neg z1, if_neg z1]
  by_cases z2 : j = 360 + d
  · rw [if_pos z2, if_pos z2]
  rw [if_neg z2, if_neg z2]
  by_cases z3 : j = 350 + d
  · rw [if_pos z3, if_pos z3]
  rw [if_neg z3, if_neg z3]
  by_cases z4 : j = 340 + d
  · rw [if_pos z4, if_pos z4]
  rw [if_neg z4, if_neg z4]
  by_cases z5 : j = 330 + d
  · rw [if_pos z5, if_pos z5]
  rw [if_neg z5, if_neg z5]
  by_cases z6 : j = 320 + d
  · rw [if_pos z6, if_pos z6]
  rw [if_neg z6, if_neg z6]
  by_cases z7 : j = 310 + d
  · rw [if_pos z7, if_pos z7]
  rw [if_neg z7, if_neg z7]
  by_cases z8 : j = 300 + d
  · rw [if_pos z8, if_pos z8]
  rw [if_neg z8, if_neg z8]
  exact h j (VI_h hj z1 z2 z3 z4 z5 z6 z7 z8)
def lkW (T : Int → Int) (L : Int) (s : KS) (p : Int) : Option (KS × Int) :=
  if s.2.1 < 14 ∧ let1 T L s.1 (p + 1) ∧ let1 T L s.1 (p + 1 + 1) ∧ T (p + 1 + 1) ≠ T (p + 1) ∧ p + 1 + 1 + 1 < L ∧ 49 ≤ T (p + 1 + 1 + 1) ∧ T (p + 1 + 1 + 1) ≤ 57 then some ((s.1, s.2.1 + 1, s.2.2.1, s.2.2.2.1, vW s.2.2.2.2 s.2.1 (T (p + 1) - 97) (T (p + 1 + 1) - 97) (T (p + 1 + 1 + 1) - 48) (if p + 1 + 1 + 1 + 1 < L ∧ T (p + 1 + 1 + 1 + 1) = 33 then 1 else 0)), if p + 1 + 1 + 1 + 1 < L ∧ T (p + 1 + 1 + 1 + 1) = 33 then p + 1 + 1 + 1 + 1 + 1 else p + 1 + 1 + 1 + 1) else none
def lkO (T : Int → Int) (L : Int) (s : KS) (p : Int) (q : Int × Int) : Option (KS × Int) :=
  if s.2.2.1 < 5 ∧ dgt T L (p + 1) ∧ q.2 < L ∧ T q.2 = 45 ∧ dgt T L (q.2 + 1) ∧ q.2 + 1 + 1 < L ∧ T (q.2 + 1 + 1) = 64 ∧ let1 T L s.1 (q.2 + 1 + 1 + 1) ∧ s.2.2.2.2 (T (q.2 + 1 + 1 + 1) - 97) ≠ 0 then some ((s.1, s.2.1, s.2.2.1 + 1, s.2.2.2.1, vO s.2.2.2.2 s.2.2.1 q.1 (T (q.2 + 1 + 1 + 1) - 97) (T (q.2 + 1) - 48)), q.2 + 1 + 1 + 1 + 1) else none
def lkH (T : Int → Int) (L : Int) (s : KS) (p : Int) (q : Int × Int) : Option (KS × Int) :=
  if s.2.2.2.1 < 5 ∧ dgt T L (p + 1) ∧ q.1 ≠ 0 ∧ q.2 < L ∧ T q.2 = 64 ∧ let1 T L s.1 (q.2 + 1) then some ((s.1, s.2.1, s.2.2.1, s.2.2.2.1 + 1, vH s.2.2.2.2 s.2.2.2.1 q.1 (T (q.2 + 1) - 97)), q.2 + 1 + 1) else none
def lk (T : Int → Int) (L : Int) (s : KS) (p : Int) : Option (KS × Int) :=
  if p < L ∧ (T p = 102 ∨ T p = 98 ∨ T p = 116) then (if s.1 < 10 then some ((s.1 + 1, s.2.1, s.2.2.1, s.2.2.2.1, kup s.2.2.2.2 s.1 (kcd (T p))), p + 1) else none)
  else if p < L ∧ T p = 119 then lkW T L s p
  else if p < L ∧ T p = 112 then lkO T L s p (nv T L 3 0 (p + 1))
  else if p < L ∧ T p = 104 then lkH T L s p (nv T L 2 0 (p + 1))
  else none
theorem lk_p {T : Int → Int} {L : Int} {s : KS} {p : Int} (h : p < L ∧ (T p = 102 ∨ T p = 98 ∨ T p = 116)) : lk T L s p = if s.1 < 10 then some ((s.1 + 1, s.2.1, s.2.2.1, s.2.2.2.1, kup s.2.2.2.2 s.1 (kcd (T p))), p + 1) else none := by unfold lk; rw [if_pos h]
theorem lk_w {T : Int → Int} {L : Int} {s : KS} {p : Int} (h : p < L ∧ T p = 119) : lk T L s p = lkW T L s p := by unfold lk; rw [if_neg (by omega), if_pos h]
theorem lk_o {T : Int → Int} {L : Int} {s : KS} {p : Int} (h : p < L ∧ T p = 112) : lk T L s p = lkO T L s p (nv T L 3 0 (p + 1)) := by unfold lk; rw [if_neg (by omega), if_neg (by omega), if_pos h]
theorem lk_h {T : Int → Int} {L : Int} {s : KS} {p : Int} (h : p < L ∧ T p = 104) : lk T L s p = lkH T L s p (nv T L 2 0 (p + 1)) := by unfold lk; rw [if_neg (by omega), if_neg (by omega), if_neg (by omega), if_pos h]
theorem lk_n {T : Int → Int} {L : Int} {s : KS} {p : Int} (h : ¬ (p < L ∧ (T p = 102 ∨ T p = 98 ∨ T p = 116 ∨ T p = 119 ∨ T p = 112 ∨ T p = 104))) : lk T L s p = none := by unfold lk; rw [if_neg (by omega), if_neg (by omega), if_neg (by omega), if_neg (by omega)]
/-- lines, till no sign that parts them comes -/
def lks (T : Int → Int) (L : Int) : Nat → KS → Int → Option (KS × Int)
  | 0, _, _ => none
  | n + 1, s, p => match lk T L s p with
    | none => none
    | some (s', p') => if p' < L ∧ T p' = 59 then lks T L n s' (p' + 1) else some (s', p')
theorem lks_s (T : Int → Int) (L : Int) (n : Nat) (s : KS) (p : Int) : lks T L (n + 1) s p = match lk T L s p with
    | none => none
    | some (s', p') => if p' < L ∧ T p' = 59 then lks T L n s' (p' + 1) else some (s', p') := rfl
theorem lks_n {T : Int → Int} {L : Int} (n : Nat) {s : KS} {p : Int} (h : lk T L s p = none) : lks T L (n + 1) s p = none := by rw [lks_s, h]
theorem lks_y {T : Int → Int} {L : Int} (n : Nat) {s s' : KS} {p p' : Int} (h : lk T L s p = some (s', p')) (h2 : p' < L ∧ T p' = 59) : lks T L (n + 1) s p = lks T L n s' (p' + 1) := by rw [lks_s, h]; exact if_pos h2
theorem lks_x {T : Int → Int} {L : Int} (n : Nat) {s s' : KS} {p p' : Int} (h : lk T L s p = some (s', p')) (h2 : ¬ (p' < L ∧ T p' = 59)) : lks T L (n + 1) s p = some (s', p') := by rw [lks_s, h]; exact if_neg h2
def kit (T : Int → Int) (tc : Int) (s : KS) : Option KS := match lks T (min tc 76) 81 s 0 with
  | none => none
  | some (s', p) => if p = min tc 76 ∧ tc ≤ 76 then some s' else none
theorem kit_n {T : Int → Int} {tc : Int} {s : KS} (h : lks T (min tc 76) 81 s 0 = none) : kit T tc s = none := by unfold kit; rw [h]
theorem kit_y {T : Int → Int} {tc : Int} {s s' : KS} {p : Int} (h : lks T (min tc 76) 81 s 0 = some (s', p)) (h2 : p = min tc 76 ∧ tc ≤ 76) : kit T tc s = some s' := by unfold kit; rw [h]; exact if_pos h2
theorem kit_x {T : Int → Int} {tc : Int} {s s' : KS} {p : Int} (h : lks T (min tc 76) 81 s 0 = some (s', p)) (h2 : ¬ (p = min tc 76 ∧ tc ≤ 76)) : kit T tc s = none := by unfold kit; rw [h]; exact if_neg h2
/-- two tellings of a kitchen are alike -/
def KE (s s' : KS) : Prop := s'.1 = s.1 ∧ s'.2.1 = s.2.1 ∧ s'.2.2.1 = s.2.2.1 ∧ s'.2.2.2.1 = s.2.2.2.1 ∧ KVL s.1 s.2.1 s.2.2.1 s.2.2.2.1 s'.2.2.2.2 s.2.2.2.2
def OE : Option (KS × Int) → Option (KS × Int) → Prop
  | some (s, p), some (s', p') => KE s s' ∧ p' = p
  | none, none => True
  | _, _ => False
theorem OE_if {c c' : Prop} [Decidable c] [Decidable c'] {s s' : KS} {p p' : Int} (h : c ↔ c') (hy : c → KE s s' ∧ p' = p) : OE (if c then some (s, p) else none) (if c' then some (s', p') else none) := by
  by_cases q : c
  · rw [if_pos q, if_pos (h.1 q)]; exact hy q
  · rw [if_neg q, if_neg (fun z => q (h.2 z))]; trivial
theorem lkW_e {T T' : Int → Int} {L p : Int} {s s' : KS} (hT : ∀ j, 0 ≤ j → j < L → T' j = T j) (hs : KE s s') (h0 : 0 ≤ p) : OE (lkW T L s p) (lkW T' L s' p) := by
  obtain ⟨e1, e2, e3, e4, e5⟩ := hs
  have a1 := hT (p + 1) (by omega); have a2 := hT (p + 1 + 1) (by omega); have a3 := hT (p + 1 + 1 + 1) (by omega); have a4 := hT (p + 1 + 1 + 1 + 1) (by omega)
  have hd : (p + 1 + 1 + 1 + 1 < L ∧ T' (p + 1 + 1 + 1 + 1) = 33) ↔ (p + 1 + 1 + 1 + 1 < L ∧ T (p + 1 + 1 + 1 + 1) = 33) := by
    by_cases z : p + 1 + 1 + 1 + 1 < L
    · rw [a4 z]
    · constructor <;> (intro w; exact absurd w.1 z)
  unfold lkW let1
  rw [e1, e2]
  simp only [hd]
  refine OE_if ?_ (fun q => ⟨⟨rfl, rfl, e3, e4, ?_⟩, rfl⟩)
  · by_cases q : p + 1 + 1 + 1 < L
    · rw [a1 (by omega), a2 (by omega), a3 q]
    · constructor <;> (rintro ⟨_, _, _, _, z, _⟩; exact absurd z q)
  · have q5 : p + 1 + 1 + 1 < L := q.2.2.2.2.1
    dsimp only
    rw [a1 (by omega), a2 (by omega), a3 q5]
    exact vW_e e5
theorem lkO_e {T T' : Int → Int} {L p : Int} {q : Int × Int} {s s' : KS} (hT : ∀ j, 0 ≤ j → j < L → T' j = T j) (hs : KE s s') (h0 : 0 ≤ p) (hq : p ≤ q.2) : OE (lkO T L s p q) (lkO T' L s' p q) := by
  obtain ⟨e1, e2, e3, e4, e5⟩ := hs
  have a1 := hT (p + 1) (by omega); have a2 := hT q.2 (by omega); have a3 := hT (q.2 + 1) (by omega); have a4 := hT (q.2 + 1 + 1) (by omega); have a5 := hT (q.2 + 1 + 1 + 1) (by omega)
  unfold lkO let1 dgt
  rw [e1, e3]
  refine OE_if ?_ (fun w => ⟨⟨rfl, e2, rfl, e4, ?_⟩, rfl⟩)
  · by_cases z : p + 1 < L ∧ q.2 + 1 + 1 + 1 < L
    · rw [a1 z.1, a2 (by omega), a3 (by omega), a4 (by omega), a5 z.2]
      constructor
      · rintro ⟨b1, b2, b3, b4, b5, b6, b7, ⟨b8, b9, b10⟩, b11⟩
        exact ⟨b1, b2, b3, b4, b5, b6, b7, ⟨b8, b9, b10⟩, by rw [e5 _ (Or.inl ⟨by omega, by omega⟩)]; exact b11⟩
      · rintro ⟨b1, b2, b3, b4, b5, b6, b7, ⟨b8, b9, b10⟩, b11⟩
        exact ⟨b1, b2, b3, b4, b5, b6, b7, ⟨b8, b9, b10⟩, by rw [e5 _ (Or.inl ⟨by omega, by omega⟩)] at b11; exact b11⟩
    · constructor <;> (rintro ⟨_, ⟨w1, _⟩, _, _, _, _, _, ⟨w2, _⟩, _⟩; exact absurd ⟨w1, w2⟩ z)
  · obtain ⟨-, -, -, -, -, -, -, ⟨w8, -⟩, -⟩ := w
    dsimp only
    rw [a3 (by omega), a5 w8]
    exact vO_e e5
theorem lkH_e {T T' : Int → Int} {L p : Int} {q : Int × Int} {s s' : KS} (hT : ∀ j, 0 ≤ j → j < L → T' j = T j) (hs : KE s s') (h0 : 0 ≤ p) (hq : p ≤ q.2) : OE (lkH T L s p q) (lkH T' L s' p q) := by
  obtain ⟨e1, e2, e3, e4, e5⟩ := hs
  have a1 := hT (p + 1) (by omega); have a2 := hT q.2 (by omega); have a3 := hT (q.2 + 1) (by omega)
  unfold lkH let1 dgt
  rw [e1, e4]
  refine OE_if ?_ (fun w => ⟨⟨rfl, e2, e3, rfl, ?_⟩, rfl⟩)
  · by_cases z : p + 1 < L ∧ q.2 + 1 < L
    · rw [a1 z.1, a2 (by omega), a3 z.2]
    · constructor <;> (rintro ⟨_, ⟨w1, _⟩, _, _, _, w2, _⟩; exact absurd ⟨w1, w2⟩ z)
  · obtain ⟨-, -, -, -, -, w6, -⟩ := w
    dsimp only
    rw [a3 w6]
    exact vH_e e5
theorem lk_e {T T' : Int → Int} {L p : Int} {s s' : KS} (hT : ∀ j, 0 ≤ j → j < L → T' j = T j) (hs : KE s s') (h0 : 0 ≤ p) : OE (lk T L s p) (lk T' L s' p) := by
  by_cases hp : p < L
  · have e := hT p h0 hp
    by_cases c1 : T p = 102 ∨ T p = 98 ∨ T p = 116
    · rw [lk_p ⟨hp, c1⟩, lk_p (T := T') ⟨hp, by rw [e]; exact c1⟩, e, hs.1]
      exact OE_if Iff.rfl (fun q => ⟨⟨rfl, hs.2.1, hs.2.2.1, hs.2.2.2.1, KVL_p hs.2.2.2.2⟩, rfl⟩)
    by_cases c2 : T p = 119
    · rw [lk_w ⟨hp, c2⟩, lk_w (T := T') ⟨hp, by rw [e]; exact c2⟩]; exact lkW_e hT hs h0
    by_cases c3 : T p = 112
    · rw [lk_o ⟨hp, c3⟩, lk_o (T := T') ⟨hp, by rw [e]; exact c3⟩, nv_e hT _ _ _ (by omega)]
      exact lkO_e hT hs h0 (by have := (nv_r (T := T) (L := L) 3 0 (p + 1) (by decide)).1; omega)
    by_cases c4 : T p = 104
    · rw [lk_h ⟨hp, c4⟩, lk_h (T := T') ⟨hp, by rw [e]; exact c4⟩, nv_e hT _ _ _ (by omega)]
      exact lkH_e hT hs h0 (by have := (nv_r (T := T) (L := L) 2 0 (p + 1) (by decide)).1; omega)
    rw [lk_n (fun z => by omega), lk_n (T := T') (fun z => by rw [e] at z; omega)]; trivial
  · rw [lk_n (fun z => hp z.1), lk_n (T := T') (fun z => hp z.1)]; trivial
theorem lk_r {T : Int → Int} {L p p' : Int} {s s' : KS} (h : lk T L s p = some (s', p')) : p < p' := by
  have a3 := (nv_r (T := T) (L := L) 3 0 (p + 1) (by decide)).1
  have a2 := (nv_r (T := T) (L := L) 2 0 (p + 1) (by decide)).1
  unfold lk lkW lkO lkH at h
  repeat' split at h
  all_goals (first | (injection h; done) | (injection h with h; injection h with h1 h2; first | omega | (split at h2 <;> omega)))
theorem lks_e {T T' : Int → Int} {L : Int} (hT : ∀ j, 0 ≤ j → j < L → T' j = T j) : ∀ (n : Nat) (s s' : KS) (p : Int), KE s s' → 0 ≤ p → OE (lks T L n s p) (lks T' L n s' p)
  | 0, _, _, _, _, _ => trivial
  | n + 1, s, s', p, hs, h0 => by
    have h := lk_e (p := p) hT hs h0
    have hr := @lk_r T L p
    generalize hA : lk T L s p = A at h
    generalize hB : lk T' L s' p = B at h
    match A, B, h with
    | none, none, _ => rw [lks_n n hA, lks_n n hB]; trivial
    | some (s1, p1), some (s2, p2), ⟨h1, h2⟩ =>
      subst h2
      have hp := hr hA
      by_cases z : p2 < L ∧ T p2 = 59
      · rw [lks_y n hA z, lks_y n hB ⟨z.1, by rw [hT p2 (by omega) z.1]; exact z.2⟩]
        exact lks_e hT n _ _ _ h1 (by omega)
      · rw [lks_x n hA z, lks_x n hB (fun w => z ⟨w.1, by rw [← hT p2 (by omega) w.1]; exact w.2⟩)]
        exact ⟨h1, rfl⟩
theorem kit_e {T T' : Int → Int} {tc : Int} {s s' : KS} (hT : ∀ j, 0 ≤ j → j < tc → T' j = T j) (hs : KE s s') : (kit T tc s = none ∧ kit T' tc s' = none) ∨ ∃ r r', kit T tc s = some r ∧ kit T' tc s' = some r' ∧ KE r r' := by
  have h := lks_e (L := min tc 76) (fun j h0 h1 => hT j h0 (by omega)) 81 s s' 0 hs (by decide)
  generalize hA : lks T (min tc 76) 81 s 0 = A at h
  generalize hB : lks T' (min tc 76) 81 s' 0 = B at h
  match A, B, h with
  | none, none, _ => exact Or.inl ⟨kit_n hA, kit_n hB⟩
  | some (s1, p1), some (s2, p2), ⟨h1, h2⟩ =>
    subst h2
    by_cases z : p2 = min tc 76 ∧ tc ≤ 76
    · exact Or.inr ⟨_, _, kit_y hA z, kit_y hB z, h1⟩
    · exact Or.inl ⟨kit_x hA z, kit_x hB z⟩
theorem KE_tr {a b c : KS} (h : KE a b) (h2 : KE b c) : KE a c := ⟨h2.1.trans h.1, h2.2.1.trans h.2.1, h2.2.2.1.trans h.2.2.1, h2.2.2.2.1.trans h.2.2.2.1, fun j hj => (h2.2.2.2.2 j (by rw [h.1, h.2.1, h.2.2.1, h.2.2.2.1]; exact hj)).trans (h.2.2.2.2 j hj)⟩
theorem fbt_i {v c : Int} (h0 : 0 ≤ v) (h1 : v < 3) (h : chS (-1 - ((1 : Nat) : Int)) v = c) : kcd c = v := by
  have : v = 0 ∨ v = 1 ∨ v = 2 := by omega
  rcases this with rfl | rfl | rfl <;> (rw [← h]; decide)
theorem fbt_n {c : Int} (hc : c = 102 ∨ c = 98 ∨ c = 116) (h : ∀ j, 0 ≤ j → j < 3 → chS (-1 - ((1 : Nat) : Int)) j ≠ c) : False := by
  rcases hc with rfl | rfl | rfl
  · exact h 0 (by decide) (by decide) (by decide)
  · exact h 1 (by decide) (by decide) (by decide)
  · exact h 2 (by decide) (by decide) (by decide)
theorem dig_i {v c : Int} (h0 : 0 ≤ v) (h1 : v < 9) (h : chS (-1 - ((2 : Nat) : Int)) v = c) : c = 49 + v := by
  have : v = 0 ∨ v = 1 ∨ v = 2 ∨ v = 3 ∨ v = 4 ∨ v = 5 ∨ v = 6 ∨ v = 7 ∨ v = 8 := by omega
  rcases this with rfl | rfl | rfl | rfl | rfl | rfl | rfl | rfl | rfl <;> (rw [← h]; decide)
theorem dig_n {c : Int} (h : ∀ j, 0 ≤ j → j < 9 → chS (-1 - ((2 : Nat) : Int)) j ≠ c) : ¬ (49 ≤ c ∧ c ≤ 57) := by
  rintro ⟨h0, h1⟩
  refine h (c - 49) (by omega) (by omega) ?_
  have : c = 49 ∨ c = 50 ∨ c = 51 ∨ c = 52 ∨ c = 53 ∨ c = 54 ∨ c = 55 ∨ c = 56 ∨ c = 57 := by omega
  rcases this with rfl | rfl | rfl | rfl | rfl | rfl | rfl | rfl | rfl <;> decide
end
section
/-! the component's lines, by the pure reading -/
/-- all that THE KITCHEN tells, in one function (the component's) -/
def kvC (m : Mem) : Int → Int := fun j =>
  if j < 100 then m 9 j else if j < 120 then m 10 (j - 100) else if j < 140 then m 11 (j - 120) else if j < 160 then m 12 (j - 140)
  else if j < 200 then (if j < 174 then iand (ishr (m 8 8) (j - 160)) 1 else 0)
  else if j < 210 then m 16 (j - 200) else if j < 220 then m 17 (j - 210)
  else if j < 230 then (if j < 225 then iand (ishr (m 15 3) (j - 220)) 1 else 0)
  else if j < 300 then m 13 (j - 230) else if j < 310 then m 14 (j - 300) else if j < 320 then m 19 (j - 310)
  else if j < 330 then m 20 (2 * (j - 320)) else if j < 340 then m 20 (2 * (j - 330) + 1)
  else if j < 350 then m 21 (j - 340) else if j < 360 then m 22 (j - 350) else if j < 370 then m 23 (j - 360) else m 24 (j - 370)
theorem kvC_e {m m' : Mem} (e8 : m' 8 8 = m 8 8) (e15 : m' 15 3 = m 15 3) (e : ∀ x, (9 ≤ x ∧ x ≤ 14) ∨ (16 ≤ x ∧ x ≤ 24 ∧ x ≠ 18) → m' x = m x) : kvC m' = kvC m := by
  unfold kvC
  rw [e8, e15, e 9 (by omega), e 10 (by omega), e 11 (by omega), e 12 (by omega), e 13 (by omega), e 14 (by omega), e 16 (by omega), e 17 (by omega), e 19 (by omega), e 20 (by omega), e 21 (by omega), e 22 (by omega), e 23 (by omega), e 24 (by omega)]
theorem bit_set {d w j x b : Int} (hw : 0 ≤ w ∧ w < 32) (hj : 0 ≤ j ∧ j < 32) (hx : x = ishl 1 w ∧ b = 1 ∨ x = 0 ∧ b = 0) : iand (ishr (ior (iand d (ixor (ishl 1 w) (-1))) x) j) 1 = if j = w then b else iand (ishr d j) 1 := by
  obtain ⟨n, rfl⟩ : ∃ n : Nat, w = n := ⟨w.toNat, by omega⟩
  obtain ⟨i, rfl⟩ : ∃ n : Nat, j = n := ⟨j.toNat, by omega⟩
  rw [bit_ask (by omega), bit_ask (by omega), tb_or, tb_and, tb_xor, tb_bit (by omega) (by omega), tb_m1 (by omega)]
  have hxb : tb x i = (if b = 1 then decide (i = n) else false) := by
    rcases hx with ⟨rfl, rfl⟩ | ⟨rfl, rfl⟩
    · rw [tb_bit (by omega) (by omega)]; simp
    · rw [tb_0]; simp
  rw [hxb]
  by_cases h : i = n
  · subst h
    rw [if_pos rfl]
    rcases hx with ⟨-, rfl⟩ | ⟨-, rfl⟩ <;> simp
  · rw [if_neg (show ¬ ((i : Int) = n) by omega)]
    simp [h]
theorem bit_clr {d w j : Int} (hw : 0 ≤ w ∧ w < 32) (hj : 0 ≤ j ∧ j < 32) : iand (ishr (iand d (ixor (ishl 1 w) (-1))) j) 1 = if j = w then 0 else iand (ishr d j) 1 := by
  obtain ⟨n, rfl⟩ : ∃ n : Nat, w = n := ⟨w.toNat, by omega⟩
  obtain ⟨i, rfl⟩ : ∃ n : Nat, j = n := ⟨j.toNat, by omega⟩
  rw [bit_ask (by omega), bit_ask (by omega), tb_and, tb_xor, tb_bit (by omega) (by omega), tb_m1 (by omega)]
  by_cases h : i = n
  · subst h; simp
  · rw [if_neg (show ¬ ((i : Int) = n) by omega)]
    simp [h]
theorem kvC_P (m : Mem) {i v x : Int} (hi : 0 ≤ i ∧ i < 10) : kvC (upm (upm m 9 i v) 8 0 x) = kup (kvC m) i v := by
  funext j
  unfold kvC kup
  simp only [upm_app, Int.reduceEq, and_true, true_and, and_false, false_and, if_false]
  by_cases h : j = i
  · rw [if_pos h, if_pos (by omega), if_pos h]
  · rw [if_neg h, if_neg h]
theorem kvC_W (m : Mem) {w a b l dd oo x u y : Int} (hw : 0 ≤ w ∧ w < 14) (hd : dd = ior (iand (m 8 8) (ixor (ishl 1 w) (-1))) y) (hy : y = ishl 1 w ∧ u = 1 ∨ y = 0 ∧ u = 0) : kvC (upm (upm (upm (upm (upm (upm m 10 w a) 11 w b) 12 w l) 8 8 dd) 15 10 oo) 8 1 x) = vW (kvC m) w a b l u := by
  subst hd
  funext j
  unfold kvC vW kup
  simp only [upm_app, Int.reduceEq, and_true, true_and, and_false, false_and, if_true, if_false]
  by_cases h1 : j < 100
  · rw [if_pos h1, if_pos h1, if_neg (by omega), if_neg (by omega), if_neg (by omega), if_neg (by omega)]
  rw [if_neg h1, if_neg h1]
  by_cases h2 : j < 120
  · rw [if_pos h2, if_pos h2, if_neg (show ¬ j = 160 + w by omega), if_neg (show ¬ j = 140 + w by omega), if_neg (show ¬ j = 120 + w by omega)]
    by_cases z : j = 100 + w
    · rw [if_pos (by omega), if_pos z]
    · rw [if_neg (by omega), if_neg z]
  rw [if_neg h2, if_neg h2]
  by_cases h3 : j < 140
  · rw [if_pos h3, if_pos h3, if_neg (show ¬ j = 160 + w by omega), if_neg (show ¬ j = 140 + w by omega), if_neg (show ¬ j = 100 + w by omega)]
    by_cases z : j = 120 + w
    · rw [if_pos (by omega), if_pos z]
    · rw [if_neg (by omega), if_neg z]
  rw [if_neg h3, if_neg h3]
  by_cases h4 : j < 160
  · rw [if_pos h4, if_pos h4, if_neg (show ¬ j = 160 + w by omega), if_neg (show ¬ j = 120 + w by omega), if_neg (show ¬ j = 100 + w by omega)]
    by_cases z : j = 140 + w
    · rw [if_pos (by omega), if_pos z]
    · rw [if_neg (by omega), if_neg z]
  rw [if_neg h4, if_neg h4]
  by_cases h5 : j < 200
  · rw [if_pos h5, if_pos h5, if_neg (show ¬ j = 140 + w by omega), if_neg (show ¬ j = 120 + w by omega), if_neg (show ¬ j = 100 + w by omega)]
    by_cases h6 : j < 174
    · rw [if_pos h6, if_pos h6, bit_set ⟨hw.1, by omega⟩ ⟨by omega, by omega⟩ hy]
      by_cases z : j = 160 + w
      · rw [if_pos (by omega), if_pos z]
      · rw [if_neg (by omega), if_neg z]
    · rw [if_neg h6, if_neg h6, if_neg (by omega)]
  rw [if_neg h5, if_neg h5, if_neg (show ¬ j = 160 + w by omega), if_neg (show ¬ j = 140 + w by omega), if_neg (show ¬ j = 120 + w by omega), if_neg (show ¬ j = 100 + w by omega)]
theorem kvC_O (m : Mem) {q h l c dd x : Int} (hq : 0 ≤ q ∧ q < 5) (hd : dd = iand (m 15 3) (ixor (ishl 1 q) (-1))) : kvC (upm (upm (upm (upm (upm (upm m 13 q c) 16 q h) 17 q l) 18 q (-1)) 15 3 dd) 8 2 x) = vO (kvC m) q h l c := by
  subst hd
  funext j
  unfold kvC vO kup
  simp only [upm_app, Int.reduceEq, and_true, true_and, and_false, false_and, if_true, if_false]
  by_cases h5 : j < 200
  · rw [if_neg (show ¬ j = 230 + q by omega), if_neg (show ¬ j = 220 + q by omega), if_neg (show ¬ j = 210 + q by omega), if_neg (show ¬ j = 200 + q by omega)]
    simp only [h5, if_true]
  simp only [show ¬ j < 100 by omega, show ¬ j < 120 by omega, show ¬ j < 140 by omega, show ¬ j < 160 by omega, h5, if_false]
  by_cases h6 : j < 210
  · rw [if_pos h6, if_pos h6, if_neg (show ¬ j = 230 + q by omega), if_neg (show ¬ j = 220 + q by omega), if_neg (show ¬ j = 210 + q by omega)]
    by_cases z : j = 200 + q
    · rw [if_pos (by omega), if_pos z]
    · rw [if_neg (by omega), if_neg z]
  rw [if_neg h6, if_neg h6]
  by_cases h7 : j < 220
  · rw [if_pos h7, if_pos h7, if_neg (show ¬ j = 230 + q by omega), if_neg (show ¬ j = 220 + q by omega), if_neg (show ¬ j = 200 + q by omega)]
    by_cases z : j = 210 + q
    · rw [if_pos (by omega), if_pos z]
    · rw [if_neg (by omega), if_neg z]
  rw [if_neg h7, if_neg h7]
  by_cases h8 : j < 230
  · rw [if_pos h8, if_pos h8, if_neg (show ¬ j = 230 + q by omega), if_neg (show ¬ j = 210 + q by omega), if_neg (show ¬ j = 200 + q by omega)]
    by_cases h9 : j < 225
    · rw [if_pos h9, if_pos h9, bit_clr ⟨hq.1, by omega⟩ ⟨by omega, by omega⟩]
      by_cases z : j = 220 + q
      · rw [if_pos (by omega), if_pos z]
      · rw [if_neg (by omega), if_neg z]
    · rw [if_neg h9, if_neg h9, if_neg (by omega)]
  rw [if_neg h8, if_neg h8]
  by_cases h9 : j < 300
  · rw [if_pos h9, if_pos h9, if_neg (show ¬ j = 220 + q by omega), if_neg (show ¬ j = 210 + q by omega), if_neg (show ¬ j = 200 + q by omega)]
    by_cases z : j = 230 + q
    · rw [if_pos (by omega), if_pos z]
    · rw [if_neg (by omega), if_neg z]
  rw [if_neg h9, if_neg h9, if_neg (show ¬ j = 230 + q by omega), if_neg (show ¬ j = 220 + q by omega), if_neg (show ¬ j = 210 + q by omega), if_neg (show ¬ j = 200 + q by omega)]
theorem kvC_H (m : Mem) {p b l w0 w1 x : Int} (hp : 0 ≤ p ∧ p < 5) (h0 : w0 = 2 * p) (h1 : w1 = 2 * p + 1) : kvC (upm (upm (upm (upm (upm (upm (upm (upm (upm m 14 p b) 19 p l) 20 w0 0) 20 w1 0) 21 p 0) 22 p 0) 23 p (-1)) 24 p 0) 8 3 x) = vH (kvC m) p b l := by
  subst h0 h1
  funext j
  unfold kvC vH kup
  simp only [upm_app, Int.reduceEq, and_true, true_and, and_false, false_and, if_true, if_false]
  by_cases h5 : j < 300
  · rw [if_neg (show ¬ j = 370 + p by omega), if_neg (show ¬ j = 360 + p by omega), if_neg (show ¬ j = 350 + p by omega), if_neg (show ¬ j = 340 + p by omega), if_neg (show ¬ j = 330 + p by omega), if_neg (show ¬ j = 320 + p by omega), if_neg (show ¬ j = 310 + p by omega), if_neg (show ¬ j = 300 + p by omega)]
    simp only [h5, if_true]
  simp only [show ¬ j < 100 by omega, show ¬ j < 120 by omega, show ¬ j < 140 by omega, show ¬ j < 160 by omega, show ¬ j < 200 by omega, show ¬ j < 210 by omega, show ¬ j < 220 by omega, show ¬ j < 230 by omega, h5, if_false]
  by_cases z1 : j = 370 + p
  · subst z1
    simp only [show ¬ 370 + p < 310 by omega, show ¬ 370 + p < 320 by omega, show ¬ 370 + p < 330 by omega, show ¬ 370 + p < 340 by omega, show ¬ 370 + p < 350 by omega, show ¬ 370 + p < 360 by omega, show ¬ 370 + p < 370 by omega, if_false, if_true]
    rw [if_pos (by omega)]
  rw [if_neg z1]
  by_cases z2 : j = 360 + p
  · subst z2
    simp only [show ¬ 360 + p < 310 by omega, show ¬ 360 + p < 320 by omega, show ¬ 360 + p < 330 by omega, show ¬ 360 + p < 340 by omega, show ¬ 360 + p < 350 by omega, show ¬ 360 + p < 360 by omega, show 360 + p < 370 by omega, if_false, if_true]
    rw [if_pos (by omega)]
  rw [if_neg z2]
  by_cases z3 : j = 350 + p
  · subst z3
    simp only [show ¬ 350 + p < 310 by omega, show ¬ 350 + p < 320 by omega, show ¬ 350 + p < 330 by omega, show ¬ 350 + p < 340 by omega, show ¬ 350 + p < 350 by omega, show 350 + p < 360 by omega, if_false, if_true]
    rw [if_pos (by omega)]
  rw [if_neg z3]
  by_cases z4 : j = 340 + p
  · subst z4
    simp only [show ¬ 340 + p < 310 by omega, show ¬ 340 + p < 320 by omega, show ¬ 340 + p < 330 by omega, show ¬ 340 + p < 340 by omega, show 340 + p < 350 by omega, if_false, if_true]
    rw [if_pos (by omega)]
  rw [if_neg z4]
  by_cases z5 : j = 330 + p
  · subst z5
    simp only [show ¬ 330 + p < 310 by omega, show ¬ 330 + p < 320 by omega, show ¬ 330 + p < 330 by omega, show 330 + p < 340 by omega, if_false, if_true]
    rw [if_pos (by omega)]
  rw [if_neg z5]
  by_cases z6 : j = 320 + p
  · subst z6
    simp only [show ¬ 320 + p < 310 by omega, show ¬ 320 + p < 320 by omega, show 320 + p < 330 by omega, if_false, if_true]
    rw [if_neg (by omega), if_pos (by omega)]
  rw [if_neg z6]
  by_cases z7 : j = 310 + p
  · subst z7
    simp only [show ¬ 310 + p < 310 by omega, show 310 + p < 320 by omega, if_false, if_true]
    rw [if_pos (by omega)]
  rw [if_neg z7]
  by_cases z8 : j = 300 + p
  · subst z8
    simp only [show 300 + p < 310 by omega, if_true]
    rw [if_pos (by omega)]
  rw [if_neg z8]
  by_cases y1 : j < 310
  · simp only [y1, if_true]; rw [if_neg (by omega)]
  by_cases y2 : j < 320
  · simp only [y1, y2, if_true, if_false]; rw [if_neg (by omega)]
  by_cases y3 : j < 330
  · simp only [y1, y2, y3, if_true, if_false]; rw [if_neg (by omega), if_neg (by omega)]
  by_cases y4 : j < 340
  · simp only [y1, y2, y3, y4, if_true, if_false]; rw [if_neg (by omega), if_neg (by omega)]
  by_cases y5 : j < 350
  · simp only [y1, y2, y3, y4, y5, if_true, if_false]; rw [if_neg (by omega)]
  by_cases y6 : j < 360
  · simp only [y1, y2, y3, y4, y5, y6, if_true, if_false]; rw [if_neg (by omega)]
  by_cases y7 : j < 370
  · simp only [y1, y2, y3, y4, y5, y6, y7, if_true, if_false]; rw [if_neg (by omega)]
  · simp only [y1, y2, y3, y4, y5, y6, y7, if_false]; rw [if_neg (by omega)]
/-- no bit of a way that isn't there -/
def OB (m : Mem) : Prop := ∀ w, m 8 1 ≤ w → w < 14 → iand (m 15 10) (ixor (ishl 1 w) (-1)) = m 15 10
/-- what a line leaves of what was told -/
def CK (m m' : Mem) : Prop := (m 8 1 ≤ m' 8 1 ∧ m 8 2 ≤ m' 8 2 ∧ m 8 3 ≤ m' 8 3) ∧ KVL (m 8 0) (m 8 1) (m 8 2) (m 8 3) (kvC m') (kvC m) ∧ (∀ q, (q < m 8 2 → m' 18 q = m 18 q) ∧ (m 8 2 ≤ q → q < m' 8 2 → m' 18 q = -1)) ∧ m' 15 10 = m 15 10 ∧ m' 15 11 = m 15 11
theorem CK_rf (m : Mem) : CK m m := ⟨⟨Int.le_refl _, Int.le_refl _, Int.le_refl _⟩, fun _ _ => rfl, fun q => ⟨fun _ => rfl, fun h1 h2 => absurd h2 (by omega)⟩, rfl, rfl⟩
theorem kvC_2 (m : Mem) (j v : Int) : kvC (upm m 2 j v) = kvC m := kvC_e (upm_a _ _ _ _ _ _ (by decide)) (upm_a _ _ _ _ _ _ (by decide)) (fun x h => upm_f _ _ _ _ _ (by omega))
theorem CK_2 {m m' : Mem} {j v : Int} (h : CK m m') : CK m (upm m' 2 j v) := by
  obtain ⟨⟨a, b, c⟩, d, e, f, g⟩ := h
  refine ⟨⟨?_, ?_, ?_⟩, ?_, fun q => ?_, ?_, ?_⟩
  · rw [upm_f _ _ _ _ _ (by decide)]; exact a
  · rw [upm_f _ _ _ _ _ (by decide)]; exact b
  · rw [upm_f _ _ _ _ _ (by decide)]; exact c
  · rw [kvC_2]; exact d
  · rw [upm_f _ _ _ _ _ (by decide), upm_f _ _ _ _ _ (by decide)]; exact e q
  · rw [upm_f _ _ _ _ _ (by decide)]; exact f
  · rw [upm_f _ _ _ _ _ (by decide)]; exact g
theorem CK_tr {m m1 m2 : Mem} (h : CK m m1) (h2 : CK m1 m2) (h0 : m 8 0 ≤ m1 8 0) : CK m m2 := by
  obtain ⟨⟨a, b, c⟩, d, e, f, g⟩ := h
  obtain ⟨⟨a', b', c'⟩, d', e', f', g'⟩ := h2
  refine ⟨⟨by omega, by omega, by omega⟩, fun j hj => (d' j (VI_mono (by omega) (by omega) (by omega) (by omega) hj)).trans (d j hj), fun q => ⟨fun z => ((e' q).1 (by omega)).trans ((e q).1 z), fun z w => ?_⟩, f'.trans f, g'.trans g⟩
  by_cases y : q < m1 8 2
  · exact ((e' q).1 y).trans ((e q).2 z y)
  · exact (e' q).2 (by omega) w
theorem CK_P {m : Mem} {v x : Int} (hp : 0 ≤ m 8 0 ∧ m 8 0 < 10) : CK m (upm (upm m 9 (m 8 0) v) 8 0 x) := by
  refine ⟨⟨?_, ?_, ?_⟩, ?_, fun q => ⟨fun _ => ?_, fun z w => ?_⟩, ?_, ?_⟩
  · rw [upm_k (by decide), upm_f _ _ _ _ _ (by decide)]; omega
  · rw [upm_k (by decide), upm_f _ _ _ _ _ (by decide)]; omega
  · rw [upm_k (by decide), upm_f _ _ _ _ _ (by decide)]; omega
  · rw [kvC_P m hp]
    intro j hj
    unfold kup
    rw [if_neg (by unfold VI at hj; omega)]
  · rw [upm_f _ _ _ _ _ (by decide), upm_f _ _ _ _ _ (by decide)]
  · rw [upm_k (by decide), upm_f _ _ _ _ _ (by decide)] at w; omega
  · rw [upm_f _ _ _ _ _ (by decide), upm_f _ _ _ _ _ (by decide)]
  · rw [upm_f _ _ _ _ _ (by decide), upm_f _ _ _ _ _ (by decide)]
theorem CK_W {m : Mem} {a b l dd oo x u y : Int} (hs : m 8 0 ≤ 10 ∧ m 8 2 ≤ 5 ∧ m 8 3 ≤ 5) (hw : 0 ≤ m 8 1 ∧ m 8 1 < 14) (hd : dd = ior (iand (m 8 8) (ixor (ishl 1 (m 8 1)) (-1))) y) (hy : y = ishl 1 (m 8 1) ∧ u = 1 ∨ y = 0 ∧ u = 0) (ho : oo = m 15 10) (hx : x = m 8 1 + 1) : CK m (upm (upm (upm (upm (upm (upm m 10 (m 8 1) a) 11 (m 8 1) b) 12 (m 8 1) l) 8 8 dd) 15 10 oo) 8 1 x) := by
  refine ⟨⟨?_, ?_, ?_⟩, ?_, fun q => ⟨fun _ => ?_, fun z w => ?_⟩, ?_, ?_⟩
  · rw [upm_v]; omega
  · simp only [upm_app, Int.reduceEq, and_true, true_and, and_false, false_and, if_true, if_false]; omega
  · simp only [upm_app, Int.reduceEq, and_true, true_and, and_false, false_and, if_true, if_false]; omega
  · rw [kvC_W m hw hd hy]
    intro j hj
    unfold vW kup
    rw [if_neg (by unfold VI at hj; omega), if_neg (by unfold VI at hj; omega), if_neg (by unfold VI at hj; omega), if_neg (by unfold VI at hj; omega)]
  · simp only [upm_app, Int.reduceEq, and_true, true_and, and_false, false_and, if_true, if_false]
  · simp only [upm_app, Int.reduceEq, and_true, true_and, and_false, false_and, if_true, if_false] at w; omega
  · simp only [upm_app, Int.reduceEq, and_true, true_and, and_false, false_and, if_true, if_false, and_self]; exact ho
  · simp only [upm_app, Int.reduceEq, and_true, true_and, and_false, false_and, if_true, if_false]
theorem CK_O {m : Mem} {h l c dd x : Int} (hs : m 8 0 ≤ 10 ∧ m 8 1 ≤ 14 ∧ m 8 3 ≤ 5) (hq : 0 ≤ m 8 2 ∧ m 8 2 < 5) (hd : dd = iand (m 15 3) (ixor (ishl 1 (m 8 2)) (-1))) (hx : x = m 8 2 + 1) : CK m (upm (upm (upm (upm (upm (upm m 13 (m 8 2) c) 16 (m 8 2) h) 17 (m 8 2) l) 18 (m 8 2) (-1)) 15 3 dd) 8 2 x) := by
  refine ⟨⟨?_, ?_, ?_⟩, ?_, fun q => ⟨fun z => ?_, fun z w => ?_⟩, ?_, ?_⟩
  · simp only [upm_app, Int.reduceEq, and_true, true_and, and_false, false_and, if_true, if_false]; omega
  · rw [upm_v]; omega
  · simp only [upm_app, Int.reduceEq, and_true, true_and, and_false, false_and, if_true, if_false]; omega
  · rw [kvC_O m hq hd]
    intro j hj
    unfold vO kup
    rw [if_neg (by unfold VI at hj; omega), if_neg (by unfold VI at hj; omega), if_neg (by unfold VI at hj; omega), if_neg (by unfold VI at hj; omega)]
  · simp only [upm_app, Int.reduceEq, and_true, true_and, and_false, false_and, if_true, if_false]; rw [if_neg (by omega)]
  · rw [upm_v] at w
    simp only [upm_app, Int.reduceEq, and_true, true_and, and_false, false_and, if_true, if_false]; rw [if_pos (by omega)]
  · simp only [upm_app, Int.reduceEq, and_true, true_and, and_false, false_and, if_true, if_false]
  · simp only [upm_app, Int.reduceEq, and_true, true_and, and_false, false_and, if_true, if_false]
theorem CK_H {m : Mem} {b l w0 w1 x : Int} (hs : m 8 0 ≤ 10 ∧ m 8 1 ≤ 14 ∧ m 8 2 ≤ 5) (hp : 0 ≤ m 8 3 ∧ m 8 3 < 5) (h0 : w0 = 2 * m 8 3) (h1 : w1 = 2 * m 8 3 + 1) (hx : x = m 8 3 + 1) : CK m (upm (upm (upm (upm (upm (upm (upm (upm (upm m 14 (m 8 3) b) 19 (m 8 3) l) 20 w0 0) 20 w1 0) 21 (m 8 3) 0) 22 (m 8 3) 0) 23 (m 8 3) (-1)) 24 (m 8 3) 0) 8 3 x) := by
  refine ⟨⟨?_, ?_, ?_⟩, ?_, fun q => ⟨fun z => ?_, fun z w => ?_⟩, ?_, ?_⟩
  · simp only [upm_app, Int.reduceEq, and_true, true_and, and_false, false_and, if_true, if_false]; omega
  · simp only [upm_app, Int.reduceEq, and_true, true_and, and_false, false_and, if_true, if_false]; omega
  · rw [upm_v]; omega
  · rw [kvC_H m hp h0 h1]
    intro j hj
    unfold vH kup
    rw [if_neg (by unfold VI at hj; omega), if_neg (by unfold VI at hj; omega), if_neg (by unfold VI at hj; omega), if_neg (by unfold VI at hj; omega), if_neg (by unfold VI at hj; omega), if_neg (by unfold VI at hj; omega), if_neg (by unfold VI at hj; omega), if_neg (by unfold VI at hj; omega)]
  · simp only [upm_app, Int.reduceEq, and_true, true_and, and_false, false_and, if_true, if_false]
  · simp only [upm_app, Int.reduceEq, and_true, true_and, and_false, false_and, if_true, if_false] at w; omega
  · simp only [upm_app, Int.reduceEq, and_true, true_and, and_false, false_and, if_true, if_false]
  · simp only [upm_app, Int.reduceEq, and_true, true_and, and_false, false_and, if_true, if_false]
/-- all but the text's place, THE KITCHEN and the state stands -/
def FZ (m m' : Mem) : Prop := ∀ x, x ≠ 2 → (x < 8 ∨ 24 < x) → m' x = m x
def sC (m : Mem) : KS := (m 8 0, m 8 1, m 8 2, m 8 3, kvC m)
abbrev CP (o : Option (KS × Int)) (m m' : Mem) : Prop := ((m' 2 5 = 0 ∧ o = some (sC m', m' 2 4) ∧ m' 2 4 ≤ m 2 2) ∨ (m' 2 5 ≠ 0 ∧ o = none)) ∧ (0 ≤ m' 2 4 ∧ m' 2 4 ≤ 80) ∧ m' 3 = m 3 ∧ m' 2 2 = m 2 2 ∧ m' 2 3 = m 2 3 ∧ m 8 0 ≤ m' 8 0 ∧ CK m m' ∧ FZ m m'
theorem some_e {a a' : KS} {p p' : Int} (h1 : a.1 = a'.1) (h2 : a.2.1 = a'.2.1) (h3 : a.2.2.1 = a'.2.2.1) (h4 : a.2.2.2.1 = a'.2.2.2.1) (h5 : a.2.2.2.2 = a'.2.2.2.2) (h6 : p = p') : some (a, p) = some (a', p') := by
  obtain ⟨a1, a2, a3, a4, a5⟩ := a
  obtain ⟨b1, b2, b3, b4, b5⟩ := a'
  simp only at h1 h2 h3 h4 h5
  subst h1 h2 h3 h4 h5 h6
  rfl
end
section
/-- the text's place alone is new -/
def TB (m b : Mem) : Prop := (∀ x, x ≠ 2 → b x = m x) ∧ b 2 2 = m 2 2 ∧ b 2 3 = m 2 3 ∧ (0 ≤ b 2 4 ∧ b 2 4 ≤ 80)
theorem TB_kv {m b : Mem} (h : TB m b) : kvC b = kvC m := kvC_e (by rw [h.1 8 (by decide)]) (by rw [h.1 15 (by decide)]) (fun x q => h.1 x (by omega))
theorem CK_b {m b m' : Mem} (h : CK b m') (hB : TB m b) : CK m m' := by
  unfold CK at h ⊢
  rw [TB_kv hB, hB.1 8 (by decide), hB.1 18 (by decide), hB.1 15 (by decide)] at h
  exact h
theorem CP_no {m b : Mem} {o : Option (KS × Int)} (hB : TB m b) (hf : b 2 5 ≠ 0) (ho : o = none) : CP o m b := by
  have e := CK_b (CK_rf b) hB
  exact ⟨Or.inr ⟨hf, ho⟩, hB.2.2.2, hB.1 3 (by decide), hB.2.1, hB.2.2.1, by rw [hB.1 8 (by decide)]; exact Int.le_refl _, e, fun x q _ => hB.1 x q⟩
theorem CP_tr {o o' : Option (KS × Int)} {m b m' : Mem} (h : CP o b m') (hB : TB m b) (eo : o' = o) : CP o' m m' := by
  subst eo
  obtain ⟨h1, h2, h3, h4, h5, h6, h7, h8⟩ := h
  rw [hB.2.1] at h1 h4
  rw [hB.1 3 (by decide)] at h3
  rw [hB.2.2.1] at h5
  rw [hB.1 8 (by decide)] at h6
  exact ⟨h1, h2, h3, h4, h5, h6, CK_b h7 hB, fun x q r => (h8 x q r).trans (hB.1 x q)⟩
theorem TB_rf {m : Mem} (h : 0 ≤ m 2 4 ∧ m 2 4 ≤ 80) : TB m m := ⟨fun _ _ => rfl, rfl, rfl, h⟩
theorem TB_4 {m b : Mem} {v : Int} (h : TB m b) (h0 : 0 ≤ v ∧ v ≤ 80) : TB m (upm b 2 4 v) := ⟨fun x q => by rw [upm_f _ _ _ _ _ q]; exact h.1 x q, by rw [upm_k (by decide)]; exact h.2.1, by rw [upm_k (by decide)]; exact h.2.2.1, by rw [upm_v]; exact h0⟩
theorem TB_5 {m b : Mem} {j v : Int} (h : TB m b) (hj : j ≠ 2 ∧ j ≠ 3 ∧ j ≠ 4) : TB m (upm b 2 j v) := ⟨fun x q => by rw [upm_f _ _ _ _ _ q]; exact h.1 x q, by rw [upm_k hj.1.symm]; exact h.2.1, by rw [upm_k hj.2.1.symm]; exact h.2.2.1, by rw [upm_k hj.2.2.symm]; exact h.2.2.2⟩
section
theorem CP_P {m b : Mem} {o : Option (KS × Int)} (hB : TB m b) (hf : b 2 5 = 0) (h4 : b 2 4 ≤ m 2 2) {v x : Int} (hp : 0 ≤ m 8 0 ∧ m 8 0 < 10) (hx : x = m 8 0 + 1) (hlk : o = some ((m 8 0 + 1, m 8 1, m 8 2, m 8 3, kup (kvC m) (m 8 0) v), b 2 4)) : CP o m (upm (upm b 9 (m 8 0) v) 8 0 x) := by
  have e8 := hB.1 8 (by decide)
  have k := CK_P (m := b) (v := v) (x := x) (by rw [e8]; exact hp)
  have kv := kvC_P b (v := v) (x := x) (i := m 8 0) hp
  rw [e8] at k
  rw [TB_kv hB] at kv
  refine ⟨Or.inl ⟨?_, ?_, ?_⟩, ?_, ?_, ?_, ?_, ?_, CK_b k hB, ?_⟩
  · simp only [upm_app, Int.reduceEq, and_true, true_and, and_false, false_and, if_true, if_false, and_self]; exact hf
  · rw [hlk]; unfold sC; rw [kv]; simp only [upm_app, Int.reduceEq, and_true, true_and, and_false, false_and, if_true, if_false, and_self, e8, hx]
  · simp only [upm_app, Int.reduceEq, and_true, true_and, and_false, false_and, if_true, if_false, and_self]; exact h4
  · simp only [upm_app, Int.reduceEq, and_true, true_and, and_false, false_and, if_true, if_false, and_self]; exact hB.2.2.2
  · rw [upm_f _ _ _ _ _ (by decide), upm_f _ _ _ _ _ (by decide)]; exact hB.1 3 (by decide)
  · simp only [upm_app, Int.reduceEq, and_true, true_and, and_false, false_and, if_true, if_false, and_self]; exact hB.2.1
  · simp only [upm_app, Int.reduceEq, and_true, true_and, and_false, false_and, if_true, if_false, and_self]; exact hB.2.2.1
  · simp only [upm_app, Int.reduceEq, and_true, true_and, and_false, false_and, if_true, if_false, and_self]; omega
  · intro x9 q r
    repeat rw [upm_f _ _ _ _ _ (by omega)]
    exact hB.1 x9 q
theorem CP_W {m b : Mem} {o : Option (KS × Int)} (hB : TB m b) (hf : b 2 5 = 0) (h4 : b 2 4 ≤ m 2 2) {a c l y u dd oo x : Int} (hs : m 8 0 ≤ 10 ∧ m 8 2 ≤ 5 ∧ m 8 3 ≤ 5) (hw : 0 ≤ m 8 1 ∧ m 8 1 < 14) (hd : dd = ior (iand (m 8 8) (ixor (ishl 1 (m 8 1)) (-1))) y) (hy : y = ishl 1 (m 8 1) ∧ u = 1 ∨ y = 0 ∧ u = 0) (ho : oo = m 15 10) (hx : x = m 8 1 + 1) (hlk : o = some ((m 8 0, m 8 1 + 1, m 8 2, m 8 3, vW (kvC m) (m 8 1) a c l u), b 2 4)) : CP o m (upm (upm (upm (upm (upm (upm b 10 (m 8 1) a) 11 (m 8 1) c) 12 (m 8 1) l) 8 8 dd) 15 10 oo) 8 1 x) := by
  have e8 := hB.1 8 (by decide)
  have e15 := hB.1 15 (by decide)
  have k := CK_W (m := b) (a := a) (b := c) (l := l) (dd := dd) (oo := oo) (x := x) (u := u) (y := y) (by rw [e8]; exact hs) (by rw [e8]; exact hw) (by rw [e8]; exact hd) (by rw [e8]; exact hy) (by rw [e15]; exact ho) (by rw [e8]; exact hx)
  have kv := kvC_W b (w := m 8 1) (a := a) (b := c) (l := l) (dd := dd) (oo := oo) (x := x) (u := u) (y := y) hw (by rw [e8]; exact hd) hy
  rw [e8] at k
  rw [TB_kv hB] at kv
  refine ⟨Or.inl ⟨?_, ?_, ?_⟩, ?_, ?_, ?_, ?_, ?_, CK_b k hB, ?_⟩
  · simp only [upm_app, Int.reduceEq, and_true, true_and, and_false, false_and, if_true, if_false, and_self]; exact hf
  · rw [hlk]; unfold sC; rw [kv]; simp only [upm_app, Int.reduceEq, and_true, true_and, and_false, false_and, if_true, if_false, and_self, e8, hx]
  · simp only [upm_app, Int.reduceEq, and_true, true_and, and_false, false_and, if_true, if_false, and_self]; exact h4
  · simp only [upm_app, Int.reduceEq, and_true, true_and, and_false, false_and, if_true, if_false, and_self]; exact hB.2.2.2
  · simp only [upm_f, Int.reduceNe, ne_eq, not_false_eq_true, Int.reduceEq]; exact hB.1 3 (by decide)
  · simp only [upm_app, Int.reduceEq, and_true, true_and, and_false, false_and, if_true, if_false, and_self]; exact hB.2.1
  · simp only [upm_app, Int.reduceEq, and_true, true_and, and_false, false_and, if_true, if_false, and_self]; exact hB.2.2.1
  · simp only [upm_app, Int.reduceEq, and_true, true_and, and_false, false_and, if_true, if_false, and_self, e8]; exact Int.le_refl _
  · intro x9 q r
    repeat rw [upm_f _ _ _ _ _ (by omega)]
    exact hB.1 x9 q
theorem CP_O {m b : Mem} {o : Option (KS × Int)} (hB : TB m b) (hf : b 2 5 = 0) (h4 : b 2 4 ≤ m 2 2) {h l c dd x : Int} (hs : m 8 0 ≤ 10 ∧ m 8 1 ≤ 14 ∧ m 8 3 ≤ 5) (hq : 0 ≤ m 8 2 ∧ m 8 2 < 5) (hd : dd = iand (m 15 3) (ixor (ishl 1 (m 8 2)) (-1))) (hx : x = m 8 2 + 1) (hlk : o = some ((m 8 0, m 8 1, m 8 2 + 1, m 8 3, vO (kvC m) (m 8 2) h l c), b 2 4)) : CP o m (upm (upm (upm (upm (upm (upm b 13 (m 8 2) c) 16 (m 8 2) h) 17 (m 8 2) l) 18 (m 8 2) (-1)) 15 3 dd) 8 2 x) := by
  have e8 := hB.1 8 (by decide)
  have e15 := hB.1 15 (by decide)
  have k := CK_O (m := b) (h := h) (l := l) (c := c) (dd := dd) (x := x) (by rw [e8]; exact hs) (by rw [e8]; exact hq) (by rw [e8, e15]; exact hd) (by rw [e8]; exact hx)
  have kv := kvC_O b (q := m 8 2) (h := h) (l := l) (c := c) (dd := dd) (x := x) hq (by rw [e15]; exact hd)
  rw [e8] at k
  rw [TB_kv hB] at kv
  refine ⟨Or.inl ⟨?_, ?_, ?_⟩, ?_, ?_, ?_, ?_, ?_, CK_b k hB, ?_⟩
  · simp only [upm_app, Int.reduceEq, and_true, true_and, and_false, false_and, if_true, if_false, and_self]; exact hf
  · rw [hlk]; unfold sC; rw [kv]; simp only [upm_app, Int.reduceEq, and_true, true_and, and_false, false_and, if_true, if_false, and_self, e8, hx]
  · simp only [upm_app, Int.reduceEq, and_true, true_and, and_false, false_and, if_true, if_false, and_self]; exact h4
  · simp only [upm_app, Int.reduceEq, and_true, true_and, and_false, false_and, if_true, if_false, and_self]; exact hB.2.2.2
  · simp only [upm_f, Int.reduceNe, ne_eq, not_false_eq_true, Int.reduceEq]; exact hB.1 3 (by decide)
  · simp only [upm_app, Int.reduceEq, and_true, true_and, and_false, false_and, if_true, if_false, and_self]; exact hB.2.1
  · simp only [upm_app, Int.reduceEq, and_true, true_and, and_false, false_and, if_true, if_false, and_self]; exact hB.2.2.1
  · simp only [upm_app, Int.reduceEq, and_true, true_and, and_false, false_and, if_true, if_false, and_self, e8]; exact Int.le_refl _
  · intro x9 q r
    repeat rw [upm_f _ _ _ _ _ (by omega)]
    exact hB.1 x9 q
theorem CP_H {m b : Mem} {o : Option (KS × Int)} (hB : TB m b) (hf : b 2 5 = 0) (h4 : b 2 4 ≤ m 2 2) {be l w0 w1 x : Int} (hs : m 8 0 ≤ 10 ∧ m 8 1 ≤ 14 ∧ m 8 2 ≤ 5) (hp : 0 ≤ m 8 3 ∧ m 8 3 < 5) (h0 : w0 = 2 * m 8 3) (h1 : w1 = 2 * m 8 3 + 1) (hx : x = m 8 3 + 1) (hlk : o = some ((m 8 0, m 8 1, m 8 2, m 8 3 + 1, vH (kvC m) (m 8 3) be l), b 2 4)) : CP o m (upm (upm (upm (upm (upm (upm (upm (upm (upm b 14 (m 8 3) be) 19 (m 8 3) l) 20 w0 0) 20 w1 0) 21 (m 8 3) 0) 22 (m 8 3) 0) 23 (m 8 3) (-1)) 24 (m 8 3) 0) 8 3 x) := by
  have e8 := hB.1 8 (by decide)
  have k := CK_H (m := b) (b := be) (l := l) (w0 := w0) (w1 := w1) (x := x) (by rw [e8]; exact hs) (by rw [e8]; exact hp) (by rw [e8]; exact h0) (by rw [e8]; exact h1) (by rw [e8]; exact hx)
  have kv := kvC_H b (p := m 8 3) (b := be) (l := l) (w0 := w0) (w1 := w1) (x := x) hp h0 h1
  rw [e8] at k
  rw [TB_kv hB] at kv
  refine ⟨Or.inl ⟨?_, ?_, ?_⟩, ?_, ?_, ?_, ?_, ?_, CK_b k hB, ?_⟩
  · simp only [upm_app, Int.reduceEq, and_true, true_and, and_false, false_and, if_true, if_false, and_self]; exact hf
  · rw [hlk]; unfold sC; rw [kv]; simp only [upm_app, Int.reduceEq, and_true, true_and, and_false, false_and, if_true, if_false, and_self, e8, hx]
  · simp only [upm_app, Int.reduceEq, and_true, true_and, and_false, false_and, if_true, if_false, and_self]; exact h4
  · simp only [upm_app, Int.reduceEq, and_true, true_and, and_false, false_and, if_true, if_false, and_self]; exact hB.2.2.2
  · simp only [upm_f, Int.reduceNe, ne_eq, not_false_eq_true, Int.reduceEq]; exact hB.1 3 (by decide)
  · simp only [upm_app, Int.reduceEq, and_true, true_and, and_false, false_and, if_true, if_false, and_self]; exact hB.2.1
  · simp only [upm_app, Int.reduceEq, and_true, true_and, and_false, false_and, if_true, if_false, and_self]; exact hB.2.2.1
  · simp only [upm_app, Int.reduceEq, and_true, true_and, and_false, false_and, if_true, if_false, and_self, e8]; exact Int.le_refl _
  · intro x9 q r
    repeat rw [upm_f _ _ _ _ _ (by omega)]
    exact hB.1 x9 q
end
end
