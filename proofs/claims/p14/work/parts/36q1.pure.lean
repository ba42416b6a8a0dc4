/-! THE KITCHEN's lines, read by one pure reading: how many places, ways, pots, people there are, and the places' kinds -/
abbrev KS : Type := Int × Int × Int × Int × (Int → Int)
def kup (f : Int → Int) (i v : Int) : Int → Int := fun j => if j = i then v else f j
def kcd (c : Int) : Int := if c = 102 then 0 else if c = 98 then 1 else 2
/-- what a line tells: a way, a pot, one of the people -/
def vW (f : Int → Int) (w a b s d : Int) : Int → Int := kup (kup (kup (kup f (100 + w) a) (120 + w) b) (140 + w) s) (160 + w) d
def vO (f : Int → Int) (q h l c : Int) : Int → Int := kup (kup (kup (kup f (200 + q) h) (210 + q) l) (220 + q) 0) (230 + q) c
def vH (f : Int → Int) (p b l : Int) : Int → Int := kup (kup (kup (kup (kup (kup (kup (kup f (300 + p) b) (310 + p) l) (320 + p) 0) (330 + p) 0) (340 + p) 0) (350 + p) 0) (360 + p) (-1)) (370 + p) 0
/-- the indices of what there is -/
def VI (a b c d j : Int) : Prop := (0 ≤ j ∧ j < a) ∨ (100 ≤ j ∧ j < 100 + b) ∨ (120 ≤ j ∧ j < 120 + b) ∨ (140 ≤ j ∧ j < 140 + b) ∨ (160 ≤ j ∧ j < 160 + b) ∨ (200 ≤ j ∧ j < 200 + c) ∨ (210 ≤ j ∧ j < 210 + c) ∨ (220 ≤ j ∧ j < 220 + c) ∨ (230 ≤ j ∧ j < 230 + c) ∨ (300 ≤ j ∧ j < 300 + d) ∨ (310 ≤ j ∧ j < 310 + d) ∨ (320 ≤ j ∧ j < 320 + d) ∨ (330 ≤ j ∧ j < 330 + d) ∨ (340 ≤ j ∧ j < 340 + d) ∨ (350 ≤ j ∧ j < 350 + d) ∨ (360 ≤ j ∧ j < 360 + d) ∨ (370 ≤ j ∧ j < 370 + d)
theorem VI_p {a b c d j : Int} (hj : VI (a + 1) b c d j) (z : ¬ j = a) : VI a b c d j := by
  unfold VI at hj ⊢
  rcases hj with q | q
  · exact Or.inl ⟨q.1, by omega⟩
  · exact Or.inr (q)
theorem VI_w {a b c d j : Int} (hj : VI a (b + 1) c d j) (z1 : ¬ j = 160 + b) (z2 : ¬ j = 140 + b) (z3 : ¬ j = 120 + b) (z4 : ¬ j = 100 + b) : VI a b c d j := by
  unfold VI at hj ⊢
  rcases hj with q | q | q | q | q | q
  · exact Or.inl q
  · exact Or.inr (Or.inl ⟨q.1, by omega⟩)
  · exact Or.inr (Or.inr (Or.inl ⟨q.1, by omega⟩))
  · exact Or.inr (Or.inr (Or.inr (Or.inl ⟨q.1, by omega⟩)))
  · exact Or.inr (Or.inr (Or.inr (Or.inr (Or.inl ⟨q.1, by omega⟩))))
  · exact Or.inr (Or.inr (Or.inr (Or.inr (Or.inr (q)))))
theorem VI_o {a b c d j : Int} (hj : VI a b (c + 1) d j) (z1 : ¬ j = 230 + c) (z2 : ¬ j = 220 + c) (z3 : ¬ j = 210 + c) (z4 : ¬ j = 200 + c) : VI a b c d j := by
  unfold VI at hj ⊢
  rcases hj with q | q | q | q | q | q | q | q | q | q
  · exact Or.inl q
  · exact Or.inr (Or.inl q)
  · exact Or.inr (Or.inr (Or.inl q))
  · exact Or.inr (Or.inr (Or.inr (Or.inl q)))
  · exact Or.inr (Or.inr (Or.inr (Or.inr (Or.inl q))))
  · exact Or.inr (Or.inr (Or.inr (Or.inr (Or.inr (Or.inl ⟨q.1, by omega⟩)))))
  · exact Or.inr (Or.inr (Or.inr (Or.inr (Or.inr (Or.inr (Or.inl ⟨q.1, by omega⟩))))))
  · exact Or.inr (Or.inr (Or.inr (Or.inr (Or.inr (Or.inr (Or.inr (Or.inl ⟨q.1, by omega⟩)))))))
  · exact Or.inr (Or.inr (Or.inr (Or.inr (Or.inr (Or.inr (Or.inr (Or.inr (Or.inl ⟨q.1, by omega⟩))))))))
  · exact Or.inr (Or.inr (Or.inr (Or.inr (Or.inr (Or.inr (Or.inr (Or.inr (Or.inr (q)))))))))
theorem VI_h {a b c d j : Int} (hj : VI a b c (d + 1) j) (z1 : ¬ j = 370 + d) (z2 : ¬ j = 360 + d) (z3 : ¬ j = 350 + d) (z4 : ¬ j = 340 + d) (z5 : ¬ j = 330 + d) (z6 : ¬ j = 320 + d) (z7 : ¬ j = 310 + d) (z8 : ¬ j = 300 + d) : VI a b c d j := by
  unfold VI at hj ⊢
  rcases hj with q | q | q | q | q | q | q | q | q | q | q | q | q | q | q | q | q
  · exact Or.inl q
  · exact Or.inr (Or.inl q)
  · exact Or.inr (Or.inr (Or.inl q))
  · exact Or.inr (Or.inr (Or.inr (Or.inl q)))
  · exact Or.inr (Or.inr (Or.inr (Or.inr (Or.inl q))))
  · exact Or.inr (Or.inr (Or.inr (Or.inr (Or.inr (Or.inl q)))))
  · exact Or.inr (Or.inr (Or.inr (Or.inr (Or.inr (Or.inr (Or.inl q))))))
  · exact Or.inr (Or.inr (Or.inr (Or.inr (Or.inr (Or.inr (Or.inr (Or.inl q)))))))
  · exact Or.inr (Or.inr (Or.inr (Or.inr (Or.inr (Or.inr (Or.inr (Or.inr (Or.inl q))))))))
  · exact Or.inr (Or.inr (Or.inr (Or.inr (Or.inr (Or.inr (Or.inr (Or.inr (Or.inr (Or.inl ⟨q.1, by omega⟩)))))))))
  · exact Or.inr (Or.inr (Or.inr (Or.inr (Or.inr (Or.inr (Or.inr (Or.inr (Or.inr (Or.inr (Or.inl ⟨q.1, by omega⟩))))))))))
  · exact Or.inr (Or.inr (Or.inr (Or.inr (Or.inr (Or.inr (Or.inr (Or.inr (Or.inr (Or.inr (Or.inr (Or.inl ⟨q.1, by omega⟩)))))))))))
  · exact Or.inr (Or.inr (Or.inr (Or.inr (Or.inr (Or.inr (Or.inr (Or.inr (Or.inr (Or.inr (Or.inr (Or.inr (Or.inl ⟨q.1, by omega⟩))))))))))))
  · exact Or.inr (Or.inr (Or.inr (Or.inr (Or.inr (Or.inr (Or.inr (Or.inr (Or.inr (Or.inr (Or.inr (Or.inr (Or.inr (Or.inl ⟨q.1, by omega⟩)))))))))))))
  · exact Or.inr (Or.inr (Or.inr (Or.inr (Or.inr (Or.inr (Or.inr (Or.inr (Or.inr (Or.inr (Or.inr (Or.inr (Or.inr (Or.inr (Or.inl ⟨q.1, by omega⟩))))))))))))))
  · exact Or.inr (Or.inr (Or.inr (Or.inr (Or.inr (Or.inr (Or.inr (Or.inr (Or.inr (Or.inr (Or.inr (Or.inr (Or.inr (Or.inr (Or.inr (Or.inl ⟨q.1, by omega⟩)))))))))))))))
  · exact Or.inr (Or.inr (Or.inr (Or.inr (Or.inr (Or.inr (Or.inr (Or.inr (Or.inr (Or.inr (Or.inr (Or.inr (Or.inr (Or.inr (Or.inr (Or.inr (⟨q.1, by omega⟩))))))))))))))))
theorem VI_mono {a b c d a1 b1 c1 d1 j : Int} (ha : a ≤ a1) (hb : b ≤ b1) (hc : c ≤ c1) (hd : d ≤ d1) (hj : VI a b c d j) : VI a1 b1 c1 d1 j := by
  unfold VI at hj ⊢
  rcases hj with q | q | q | q | q | q | q | q | q | q | q | q | q | q | q | q | q
  · exact Or.inl ⟨q.1, by omega⟩
  · exact Or.inr (Or.inl ⟨q.1, by omega⟩)
  · exact Or.inr (Or.inr (Or.inl ⟨q.1, by omega⟩))
  · exact Or.inr (Or.inr (Or.inr (Or.inl ⟨q.1, by omega⟩)))
  · exact Or.inr (Or.inr (Or.inr (Or.inr (Or.inl ⟨q.1, by omega⟩))))
  · exact Or.inr (Or.inr (Or.inr (Or.inr (Or.inr (Or.inl ⟨q.1, by omega⟩)))))
  · exact Or.inr (Or.inr (Or.inr (Or.inr (Or.inr (Or.inr (Or.inl ⟨q.1, by omega⟩))))))
  · exact Or.inr (Or.inr (Or.inr (Or.inr (Or.inr (Or.inr (Or.inr (Or.inl ⟨q.1, by omega⟩)))))))
  · exact Or.inr (Or.inr (Or.inr (Or.inr (Or.inr (Or.inr (Or.inr (Or.inr (Or.inl ⟨q.1, by omega⟩))))))))
  · exact Or.inr (Or.inr (Or.inr (Or.inr (Or.inr (Or.inr (Or.inr (Or.inr (Or.inr (Or.inl ⟨q.1, by omega⟩)))))))))
  · exact Or.inr (Or.inr (Or.inr (Or.inr (Or.inr (Or.inr (Or.inr (Or.inr (Or.inr (Or.inr (Or.inl ⟨q.1, by omega⟩))))))))))
  · exact Or.inr (Or.inr (Or.inr (Or.inr (Or.inr (Or.inr (Or.inr (Or.inr (Or.inr (Or.inr (Or.inr (Or.inl ⟨q.1, by omega⟩)))))))))))
  · exact Or.inr (Or.inr (Or.inr (Or.inr (Or.inr (Or.inr (Or.inr (Or.inr (Or.inr (Or.inr (Or.inr (Or.inr (Or.inl ⟨q.1, by omega⟩))))))))))))
  · exact Or.inr (Or.inr (Or.inr (Or.inr (Or.inr (Or.inr (Or.inr (Or.inr (Or.inr (Or.inr (Or.inr (Or.inr (Or.inr (Or.inl ⟨q.1, by omega⟩)))))))))))))
  · exact Or.inr (Or.inr (Or.inr (Or.inr (Or.inr (Or.inr (Or.inr (Or.inr (Or.inr (Or.inr (Or.inr (Or.inr (Or.inr (Or.inr (Or.inl ⟨q.1, by omega⟩))))))))))))))
  · exact Or.inr (Or.inr (Or.inr (Or.inr (Or.inr (Or.inr (Or.inr (Or.inr (Or.inr (Or.inr (Or.inr (Or.inr (Or.inr (Or.inr (Or.inr (Or.inl ⟨q.1, by omega⟩)))))))))))))))
  · exact Or.inr (Or.inr (Or.inr (Or.inr (Or.inr (Or.inr (Or.inr (Or.inr (Or.inr (Or.inr (Or.inr (Or.inr (Or.inr (Or.inr (Or.inr (Or.inr (⟨q.1, by omega⟩))))))))))))))))
def KVL (a b c d : Int) (f' f : Int → Int) : Prop := ∀ j, VI a b c d j → f' j = f j
theorem KVL_p {a b c d v : Int} {f' f : Int → Int} (h : KVL a b c d f' f) : KVL (a + 1) b c d (kup f' a v) (kup f a v) := fun j hj => by
  unfold kup
  by_cases z : j = a
  · rw [if_pos z, if_pos z]
  · rw [if_neg z, if_neg z]; exact h j (VI_p hj z)
theorem vW_e {a b c d x y z u : Int} {f' f : Int → Int} (h : KVL a b c d f' f) : KVL a (b + 1) c d (vW f' b x y z u) (vW f b x y z u) := fun j hj => by
  unfold vW kup
  by_cases z1 : j = 160 + b
  · rw [if_pos z1, if_pos z1]
  by_cases z2 : j = 140 + b
  · rw [if_neg z1, if_neg z1, if_pos z2, if_pos z2]
  by_cases z3 : j = 120 + b
  · rw [if_neg z1, if_neg z1, if_neg z2, if_neg z2, if_pos z3, if_pos z3]
  by_cases z4 : j = 100 + b
  · rw [if_neg z1, if_neg z1, if_neg z2, if_neg z2, if_neg z3, if_neg z3, if_pos z4, if_pos z4]
  · rw [if_neg z1, if_neg z1, if_neg z2, if_neg z2, if_neg z3, if_neg z3, if_neg z4, if_neg z4]; exact h j (VI_w hj z1 z2 z3 z4)
theorem vO_e {a b c d x y z : Int} {f' f : Int → Int} (h : KVL a b c d f' f) : KVL a b (c + 1) d (vO f' c x y z) (vO f c x y z) := fun j hj => by
  unfold vO kup
  by_cases z1 : j = 230 + c
  · rw [if_pos z1, if_pos z1]
  by_cases z2 : j = 220 + c
  · rw [if_neg z1, if_neg z1, if_pos z2, if_pos z2]
  by_cases z3 : j = 210 + c
  · rw [if_neg z1, if_neg z1, if_neg z2, if_neg z2, if_pos z3, if_pos z3]
  by_cases z4 : j = 200 + c
  · rw [if_neg z1, if_neg z1, if_neg z2, if_neg z2, if_neg z3, if_neg z3, if_pos z4, if_pos z4]
  · rw [if_neg z1, if_neg z1, if_neg z2, if_neg z2, if_neg z3, if_neg z3, if_neg z4, if_neg z4]; exact h j (VI_o hj z1 z2 z3 z4)
theorem vH_e {a b c d x y : Int} {f' f : Int → Int} (h : KVL a b c d f' f) : KVL a b c (d + 1) (vH f' d x y) (vH f d x y) := fun j hj => by
  unfold vH kup
  by_cases z1 : j = 370 + d
  · rw [if_pos z1, if_pos z1]
  rw [if_neg z1, if_neg z1]
  by_cases z2 : j = 360 + d
  · rw [if_pos z2, if_pos z2]
  rw [if_neg z2, if_neg z2]
  by_cases z3 : j = 350 + d
  · rw [if_pos z3, if_pos z3]
  rw [if_neg z3, if_neg z3]
  by_cases z4 : j = 340 + d
  · rw [if_pos z4, if_pos z4]
  rw [if_neg z4, if_neg z4]
  by_cases z5 : j = 330 + d
  · rw [if_pos z5, if_pos z5]
  rw [if_neg z5, if_neg z5]
  by_cases z6 : j = 320 + d
  · rw [if_pos z6, if_pos z6]
  rw [if_neg z6, if_neg z6]
  by_cases z7 : j = 310 + d
  · rw [if_pos z7, if_pos z7]
  rw [if_neg z7, if_neg z7]
  by_cases z8 : j = 300 + d
  · rw [if_pos z8, if_pos z8]
  rw [if_neg z8, if_neg z8]
  exact h j (VI_h hj z1 z2 z3 z4 z5 z6 z7 z8)
def lkW (T : Int → Int) (L : Int) (s : KS) (p : Int) : Option (KS × Int) :=
  if s.2.1 < 14 ∧ let1 T L s.1 (p + 1) ∧ let1 T L s.1 (p + 1 + 1) ∧ T (p + 1 + 1) ≠ T (p + 1) ∧ p + 1 + 1 + 1 < L ∧ 49 ≤ T (p + 1 + 1 + 1) ∧ T (p + 1 + 1 + 1) ≤ 57 then some ((s.1, s.2.1 + 1, s.2.2.1, s.2.2.2.1, vW s.2.2.2.2 s.2.1 (T (p + 1) - 97) (T (p + 1 + 1) - 97) (T (p + 1 + 1 + 1) - 48) (if p + 1 + 1 + 1 + 1 < L ∧ T (p + 1 + 1 + 1 + 1) = 33 then 1 else 0)), if p + 1 + 1 + 1 + 1 < L ∧ T (p + 1 + 1 + 1 + 1) = 33 then p + 1 + 1 + 1 + 1 + 1 else p + 1 + 1 + 1 + 1) else none
def lkO (T : Int → Int) (L : Int) (s : KS) (p : Int) (q : Int × Int) : Option (KS × Int) :=
  if s.2.2.1 < 5 ∧ dgt T L (p + 1) ∧ q.2 < L ∧ T q.2 = 45 ∧ dgt T L (q.2 + 1) ∧ q.2 + 1 + 1 < L ∧ T (q.2 + 1 + 1) = 64 ∧ let1 T L s.1 (q.2 + 1 + 1 + 1) ∧ s.2.2.2.2 (T (q.2 + 1 + 1 + 1) - 97) ≠ 0 then some ((s.1, s.2.1, s.2.2.1 + 1, s.2.2.2.1, vO s.2.2.2.2 s.2.2.1 q.1 (T (q.2 + 1 + 1 + 1) - 97) (T (q.2 + 1) - 48)), q.2 + 1 + 1 + 1 + 1) else none
def lkH (T : Int → Int) (L : Int) (s : KS) (p : Int) (q : Int × Int) : Option (KS × Int) :=
  if s.2.2.2.1 < 5 ∧ dgt T L (p + 1) ∧ q.1 ≠ 0 ∧ q.2 < L ∧ T q.2 = 64 ∧ let1 T L s.1 (q.2 + 1) then some ((s.1, s.2.1, s.2.2.1, s.2.2.2.1 + 1, vH s.2.2.2.2 s.2.2.2.1 q.1 (T (q.2 + 1) - 97)), q.2 + 1 + 1) else none
def lk (T : Int → Int) (L : Int) (s : KS) (p : Int) : Option (KS × Int) :=
  if p < L ∧ (T p = 102 ∨ T p = 98 ∨ T p = 116) then (if s.1 < 10 then some ((s.1 + 1, s.2.1, s.2.2.1, s.2.2.2.1, kup s.2.2.2.2 s.1 (kcd (T p))), p + 1) else none)
  else if p < L ∧ T p = 119 then lkW T L s p
  else if p < L ∧ T p = 112 then lkO T L s p (nv T L 3 0 (p + 1))
  else if p < L ∧ T p = 104 then lkH T L s p (nv T L 2 0 (p + 1))
  else none
theorem lk_p {T : Int → Int} {L : Int} {s : KS} {p : Int} (h : p < L ∧ (T p = 102 ∨ T p = 98 ∨ T p = 116)) : lk T L s p = if s.1 < 10 then some ((s.1 + 1, s.2.1, s.2.2.1, s.2.2.2.1, kup s.2.2.2.2 s.1 (kcd (T p))), p + 1) else none := by unfold lk; rw [if_pos h]
theorem lk_w {T : Int → Int} {L : Int} {s : KS} {p : Int} (h : p < L ∧ T p = 119) : lk T L s p = lkW T L s p := by unfold lk; rw [if_neg (by omega), if_pos h]
theorem lk_o {T : Int → Int} {L : Int} {s : KS} {p : Int} (h : p < L ∧ T p = 112) : lk T L s p = lkO T L s p (nv T L 3 0 (p + 1)) := by unfold lk; rw [if_neg (by omega), if_neg (by omega), if_pos h]
theorem lk_h {T : Int → Int} {L : Int} {s : KS} {p : Int} (h : p < L ∧ T p = 104) : lk T L s p = lkH T L s p (nv T L 2 0 (p + 1)) := by unfold lk; rw [if_neg (by omega), if_neg (by omega), if_neg (by omega), if_pos h]
theorem lk_n {T : Int → Int} {L : Int} {s : KS} {p : Int} (h : ¬ (p < L ∧ (T p = 102 ∨ T p = 98 ∨ T p = 116 ∨ T p = 119 ∨ T p = 112 ∨ T p = 104))) : lk T L s p = none := by unfold lk; rw [if_neg (by omega), if_neg (by omega), if_neg (by omega), if_neg (by omega)]
/-- lines, till no sign that parts them comes -/
def lks (T : Int → Int) (L : Int) : Nat → KS → Int → Option (KS × Int)
  | 0, _, _ => none
  | n + 1, s, p => match lk T L s p with
    | none => none
    | some (s', p') => if p' < L ∧ T p' = 59 then lks T L n s' (p' + 1) else some (s', p')
theorem lks_s (T : Int → Int) (L : Int) (n : Nat) (s : KS) (p : Int) : lks T L (n + 1) s p = match lk T L s p with
    | none => none
    | some (s', p') => if p' < L ∧ T p' = 59 then lks T L n s' (p' + 1) else some (s', p') := rfl
theorem lks_n {T : Int → Int} {L : Int} (n : Nat) {s : KS} {p : Int} (h : lk T L s p = none) : lks T L (n + 1) s p = none := by rw [lks_s, h]
theorem lks_y {T : Int → Int} {L : Int} (n : Nat) {s s' : KS} {p p' : Int} (h : lk T L s p = some (s', p')) (h2 : p' < L ∧ T p' = 59) : lks T L (n + 1) s p = lks T L n s' (p' + 1) := by rw [lks_s, h]; exact if_pos h2
theorem lks_x {T : Int → Int} {L : Int} (n : Nat) {s s' : KS} {p p' : Int} (h : lk T L s p = some (s', p')) (h2 : ¬ (p' < L ∧ T p' = 59)) : lks T L (n + 1) s p = some (s', p') := by rw [lks_s, h]; exact if_neg h2
def kit (T : Int → Int) (tc : Int) (s : KS) : Option KS := match lks T (min tc 76) 81 s 0 with
  | none => none
  | some (s', p) => if p = min tc 76 ∧ tc ≤ 76 then some s' else none
theorem kit_n {T : Int → Int} {tc : Int} {s : KS} (h : lks T (min tc 76) 81 s 0 = none) : kit T tc s = none := by unfold kit; rw [h]
theorem kit_y {T : Int → Int} {tc : Int} {s s' : KS} {p : Int} (h : lks T (min tc 76) 81 s 0 = some (s', p)) (h2 : p = min tc 76 ∧ tc ≤ 76) : kit T tc s = some s' := by unfold kit; rw [h]; exact if_pos h2
theorem kit_x {T : Int → Int} {tc : Int} {s s' : KS} {p : Int} (h : lks T (min tc 76) 81 s 0 = some (s', p)) (h2 : ¬ (p = min tc 76 ∧ tc ≤ 76)) : kit T tc s = none := by unfold kit; rw [h]; exact if_neg h2
/-- two tellings of a kitchen are alike -/
def KE (s s' : KS) : Prop := s'.1 = s.1 ∧ s'.2.1 = s.2.1 ∧ s'.2.2.1 = s.2.2.1 ∧ s'.2.2.2.1 = s.2.2.2.1 ∧ KVL s.1 s.2.1 s.2.2.1 s.2.2.2.1 s'.2.2.2.2 s.2.2.2.2
def OE : Option (KS × Int) → Option (KS × Int) → Prop
  | some (s, p), some (s', p') => KE s s' ∧ p' = p
  | none, none => True
  | _, _ => False
theorem OE_if {c c' : Prop} [Decidable c] [Decidable c'] {s s' : KS} {p p' : Int} (h : c ↔ c') (hy : c → KE s s' ∧ p' = p) : OE (if c then some (s, p) else none) (if c' then some (s', p') else none) := by
  by_cases q : c
  · rw [if_pos q, if_pos (h.1 q)]; exact hy q
  · rw [if_neg q, if_neg (fun z => q (h.2 z))]; trivial
theorem lkW_e {T T' : Int → Int} {L p : Int} {s s' : KS} (hT : ∀ j, 0 ≤ j → j < L → T' j = T j) (hs : KE s s') (h0 : 0 ≤ p) : OE (lkW T L s p) (lkW T' L s' p) := by
  obtain ⟨e1, e2, e3, e4, e5⟩ := hs
  have a1 := hT (p + 1) (by omega); have a2 := hT (p + 1 + 1) (by omega); have a3 := hT (p + 1 + 1 + 1) (by omega); have a4 := hT (p + 1 + 1 + 1 + 1) (by omega)
  have hd : (p + 1 + 1 + 1 + 1 < L ∧ T' (p + 1 + 1 + 1 + 1) = 33) ↔ (p + 1 + 1 + 1 + 1 < L ∧ T (p + 1 + 1 + 1 + 1) = 33) := by
    by_cases z : p + 1 + 1 + 1 + 1 < L
    · rw [a4 z]
    · constructor <;> (intro w; exact absurd w.1 z)
  unfold lkW let1
  rw [e1, e2]
  simp only [hd]
  refine OE_if ?_ (fun q => ⟨⟨rfl, rfl, e3, e4, ?_⟩, rfl⟩)
  · by_cases q : p + 1 + 1 + 1 < L
    · rw [a1 (by omega), a2 (by omega), a3 q]
    · constructor <;> (rintro ⟨_, _, _, _, z, _⟩; exact absurd z q)
  · have q5 : p + 1 + 1 + 1 < L := q.2.2.2.2.1
    dsimp only
    rw [a1 (by omega), a2 (by omega), a3 q5]
    exact vW_e e5
theorem lkO_e {T T' : Int → Int} {L p : Int} {q : Int × Int} {s s' : KS} (hT : ∀ j, 0 ≤ j → j < L → T' j = T j) (hs : KE s s') (h0 : 0 ≤ p) (hq : p ≤ q.2) : OE (lkO T L s p q) (lkO T' L s' p q) := by
  obtain ⟨e1, e2, e3, e4, e5⟩ := hs
  have a1 := hT (p + 1) (by omega); have a2 := hT q.2 (by omega); have a3 := hT (q.2 + 1) (by omega); have a4 := hT (q.2 + 1 + 1) (by omega); have a5 := hT (q.2 + 1 + 1 + 1) (by omega)
  unfold lkO let1 dgt
  rw [e1, e3]
  refine OE_if ?_ (fun w => ⟨⟨rfl, e2, rfl, e4, ?_⟩, rfl⟩)
  · by_cases z : p + 1 < L ∧ q.2 + 1 + 1 + 1 < L
    · rw [a1 z.1, a2 (by omega), a3 (by omega), a4 (by omega), a5 z.2]
      constructor
      · rintro ⟨b1, b2, b3, b4, b5, b6, b7, ⟨b8, b9, b10⟩, b11⟩
        exact ⟨b1, b2, b3, b4, b5, b6, b7, ⟨b8, b9, b10⟩, by rw [e5 _ (Or.inl ⟨by omega, by omega⟩)]; exact b11⟩
      · rintro ⟨b1, b2, b3, b4, b5, b6, b7, ⟨b8, b9, b10⟩, b11⟩
        exact ⟨b1, b2, b3, b4, b5, b6, b7, ⟨b8, b9, b10⟩, by rw [e5 _ (Or.inl ⟨by omega, by omega⟩)] at b11; exact b11⟩
    · constructor <;> (rintro ⟨_, ⟨w1, _⟩, _, _, _, _, _, ⟨w2, _⟩, _⟩; exact absurd ⟨w1, w2⟩ z)
  · obtain ⟨-, -, -, -, -, -, -, ⟨w8, -⟩, -⟩ := w
    dsimp only
    rw [a3 (by omega), a5 w8]
    exact vO_e e5
theorem lkH_e {T T' : Int → Int} {L p : Int} {q : Int × Int} {s s' : KS} (hT : ∀ j, 0 ≤ j → j < L → T' j = T j) (hs : KE s s') (h0 : 0 ≤ p) (hq : p ≤ q.2) : OE (lkH T L s p q) (lkH T' L s' p q) := by
  obtain ⟨e1, e2, e3, e4, e5⟩ := hs
  have a1 := hT (p + 1) (by omega); have a2 := hT q.2 (by omega); have a3 := hT (q.2 + 1) (by omega)
  unfold lkH let1 dgt
  rw [e1, e4]
  refine OE_if ?_ (fun w => ⟨⟨rfl, e2, e3, rfl, ?_⟩, rfl⟩)
  · by_cases z : p + 1 < L ∧ q.2 + 1 < L
    · rw [a1 z.1, a2 (by omega), a3 z.2]
    · constructor <;> (rintro ⟨_, ⟨w1, _⟩, _, _, _, w2, _⟩; exact absurd ⟨w1, w2⟩ z)
  · obtain ⟨-, -, -, -, -, w6, -⟩ := w
    dsimp only
    rw [a3 w6]
    exact vH_e e5
theorem lk_e {T T' : Int → Int} {L p : Int} {s s' : KS} (hT : ∀ j, 0 ≤ j → j < L → T' j = T j) (hs : KE s s') (h0 : 0 ≤ p) : OE (lk T L s p) (lk T' L s' p) := by
  by_cases hp : p < L
  · have e := hT p h0 hp
    by_cases c1 : T p = 102 ∨ T p = 98 ∨ T p = 116
    · rw [lk_p ⟨hp, c1⟩, lk_p (T := T') ⟨hp, by rw [e]; exact c1⟩, e, hs.1]
      exact OE_if Iff.rfl (fun q => ⟨⟨rfl, hs.2.1, hs.2.2.1, hs.2.2.2.1, KVL_p hs.2.2.2.2⟩, rfl⟩)
    by_cases c2 : T p = 119
    · rw [lk_w ⟨hp, c2⟩, lk_w (T := T') ⟨hp, by rw [e]; exact c2⟩]; exact lkW_e hT hs h0
    by_cases c3 : T p = 112
    · rw [lk_o ⟨hp, c3⟩, lk_o (T := T') ⟨hp, by rw [e]; exact c3⟩, nv_e hT _ _ _ (by omega)]
      exact lkO_e hT hs h0 (by have := (nv_r (T := T) (L := L) 3 0 (p + 1) (by decide)).1; omega)
    by_cases c4 : T p = 104
    · rw [lk_h ⟨hp, c4⟩, lk_h (T := T') ⟨hp, by rw [e]; exact c4⟩, nv_e hT _ _ _ (by omega)]
      exact lkH_e hT hs h0 (by have := (nv_r (T := T) (L := L) 2 0 (p + 1) (by decide)).1; omega)
    rw [lk_n (fun z => by omega), lk_n (T := T') (fun z => by rw [e] at z; omega)]; trivial
  · rw [lk_n (fun z => hp z.1), lk_n (T := T') (fun z => hp z.1)]; trivial
theorem lk_r {T : Int → Int} {L p p' : Int} {s s' : KS} (h : lk T L s p = some (s', p')) : p < p' := by
  have a3 := (nv_r (T := T) (L := L) 3 0 (p + 1) (by decide)).1
  have a2 := (nv_r (T := T) (L := L) 2 0 (p + 1) (by decide)).1
  unfold lk lkW lkO lkH at h
  repeat' split at h
  all_goals (first | (injection h; done) | (injection h with h; injection h with h1 h2; first | omega | (split at h2 <;> omega)))
theorem lks_e {T T' : Int → Int} {L : Int} (hT : ∀ j, 0 ≤ j → j < L → T' j = T j) : ∀ (n : Nat) (s s' : KS) (p : Int), KE s s' → 0 ≤ p → OE (lks T L n s p) (lks T' L n s' p)
  | 0, _, _, _, _, _ => trivial
  | n + 1, s, s', p, hs, h0 => by
    have h := lk_e (p := p) hT hs h0
    have hr := @lk_r T L p
    generalize hA : lk T L s p = A at h
    generalize hB : lk T' L s' p = B at h
    match A, B, h with
    | none, none, _ => rw [lks_n n hA, lks_n n hB]; trivial
    | some (s1, p1), some (s2, p2), ⟨h1, h2⟩ =>
      subst h2
      have hp := hr hA
      by_cases z : p2 < L ∧ T p2 = 59
      · rw [lks_y n hA z, lks_y n hB ⟨z.1, by rw [hT p2 (by omega) z.1]; exact z.2⟩]
        exact lks_e hT n _ _ _ h1 (by omega)
      · rw [lks_x n hA z, lks_x n hB (fun w => z ⟨w.1, by rw [← hT p2 (by omega) w.1]; exact w.2⟩)]
        exact ⟨h1, rfl⟩
theorem kit_e {T T' : Int → Int} {tc : Int} {s s' : KS} (hT : ∀ j, 0 ≤ j → j < tc → T' j = T j) (hs : KE s s') : (kit T tc s = none ∧ kit T' tc s' = none) ∨ ∃ r r', kit T tc s = some r ∧ kit T' tc s' = some r' ∧ KE r r' := by
  have h := lks_e (L := min tc 76) (fun j h0 h1 => hT j h0 (by omega)) 81 s s' 0 hs (by decide)
  generalize hA : lks T (min tc 76) 81 s 0 = A at h
  generalize hB : lks T' (min tc 76) 81 s' 0 = B at h
  match A, B, h with
  | none, none, _ => exact Or.inl ⟨kit_n hA, kit_n hB⟩
  | some (s1, p1), some (s2, p2), ⟨h1, h2⟩ =>
    subst h2
    by_cases z : p2 = min tc 76 ∧ tc ≤ 76
    · exact Or.inr ⟨_, _, kit_y hA z, kit_y hB z, h1⟩
    · exact Or.inl ⟨kit_x hA z, kit_x hB z⟩
theorem KE_tr {a b c : KS} (h : KE a b) (h2 : KE b c) : KE a c := ⟨h2.1.trans h.1, h2.2.1.trans h.2.1, h2.2.2.1.trans h.2.2.1, h2.2.2.2.1.trans h.2.2.2.1, fun j hj => (h2.2.2.2.2 j (by rw [h.1, h.2.1, h.2.2.1, h.2.2.2.1]; exact hj)).trans (h.2.2.2.2 j hj)⟩
theorem fbt_i {v c : Int} (h0 : 0 ≤ v) (h1 : v < 3) (h : chS (-1 - ((1 : Nat) : Int)) v = c) : kcd c = v := by
  have : v = 0 ∨ v = 1 ∨ v = 2 := by omega
  rcases this with rfl | rfl | rfl <;> (rw [← h]; decide)
theorem fbt_n {c : Int} (hc : c = 102 ∨ c = 98 ∨ c = 116) (h : ∀ j, 0 ≤ j → j < 3 → chS (-1 - ((1 : Nat) : Int)) j ≠ c) : False := by
  rcases hc with rfl | rfl | rfl
  · exact h 0 (by decide) (by decide) (by decide)
  · exact h 1 (by decide) (by decide) (by decide)
  · exact h 2 (by decide) (by decide) (by decide)
theorem dig_i {v c : Int} (h0 : 0 ≤ v) (h1 : v < 9) (h : chS (-1 - ((2 : Nat) : Int)) v = c) : c = 49 + v := by
  have : v = 0 ∨ v = 1 ∨ v = 2 ∨ v = 3 ∨ v = 4 ∨ v = 5 ∨ v = 6 ∨ v = 7 ∨ v = 8 := by omega
  rcases this with rfl | rfl | rfl | rfl | rfl | rfl | rfl | rfl | rfl <;> (rw [← h]; decide)
theorem dig_n {c : Int} (h : ∀ j, 0 ≤ j → j < 9 → chS (-1 - ((2 : Nat) : Int)) j ≠ c) : ¬ (49 ≤ c ∧ c ≤ 57) := by
  rintro ⟨h0, h1⟩
  refine h (c - 49) (by omega) (by omega) ?_
  have : c = 49 ∨ c = 50 ∨ c = 51 ∨ c = 52 ∨ c = 53 ∨ c = 54 ∨ c = 55 ∨ c = 56 ∨ c = 57 := by omega
  rcases this with rfl | rfl | rfl | rfl | rfl | rfl | rfl | rfl | rfl <;> decide
