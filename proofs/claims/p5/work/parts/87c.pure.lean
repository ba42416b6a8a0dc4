/-! THE KITCHEN's lines, read by one pure reading: how many places, ways, pots, people there are, and the places' kinds -/
abbrev KS : Type := Int × Int × Int × Int × (Int → Int)
def kup (f : Int → Int) (i v : Int) : Int → Int := fun j => if j = i then v else f j
def kcd (c : Int) : Int := if c = 102 then 0 else if c = 98 then 1 else 2
def lkW (T : Int → Int) (L : Int) (s : KS) (p : Int) : Option (KS × Int) :=
  if s.2.1 < 14 ∧ let1 T L s.1 (p + 1) ∧ let1 T L s.1 (p + 1 + 1) ∧ T (p + 1 + 1) ≠ T (p + 1) ∧ p + 1 + 1 + 1 < L ∧ 49 ≤ T (p + 1 + 1 + 1) ∧ T (p + 1 + 1 + 1) ≤ 57 then some ((s.1, s.2.1 + 1, s.2.2.1, s.2.2.2.1, s.2.2.2.2), if p + 1 + 1 + 1 + 1 < L ∧ T (p + 1 + 1 + 1 + 1) = 33 then p + 1 + 1 + 1 + 1 + 1 else p + 1 + 1 + 1 + 1) else none
def lkO (T : Int → Int) (L : Int) (s : KS) (p q : Int) : Option (KS × Int) :=
  if s.2.2.1 < 5 ∧ dgt T L (p + 1) ∧ q < L ∧ T q = 45 ∧ dgt T L (q + 1) ∧ q + 1 + 1 < L ∧ T (q + 1 + 1) = 64 ∧ let1 T L s.1 (q + 1 + 1 + 1) ∧ s.2.2.2.2 (T (q + 1 + 1 + 1) - 97) ≠ 0 then some ((s.1, s.2.1, s.2.2.1 + 1, s.2.2.2.1, s.2.2.2.2), q + 1 + 1 + 1 + 1) else none
def lkH (T : Int → Int) (L : Int) (s : KS) (p : Int) (q : Int × Int) : Option (KS × Int) :=
  if s.2.2.2.1 < 5 ∧ dgt T L (p + 1) ∧ q.1 ≠ 0 ∧ q.2 < L ∧ T q.2 = 64 ∧ let1 T L s.1 (q.2 + 1) then some ((s.1, s.2.1, s.2.2.1, s.2.2.2.1 + 1, s.2.2.2.2), q.2 + 1 + 1) else none
def lk (T : Int → Int) (L : Int) (s : KS) (p : Int) : Option (KS × Int) :=
  if p < L ∧ (T p = 102 ∨ T p = 98 ∨ T p = 116) then (if s.1 < 10 then some ((s.1 + 1, s.2.1, s.2.2.1, s.2.2.2.1, kup s.2.2.2.2 s.1 (kcd (T p))), p + 1) else none)
  else if p < L ∧ T p = 119 then lkW T L s p
  else if p < L ∧ T p = 112 then lkO T L s p (nv T L 3 0 (p + 1)).2
  else if p < L ∧ T p = 104 then lkH T L s p (nv T L 2 0 (p + 1))
  else none
theorem lk_p {T : Int → Int} {L : Int} {s : KS} {p : Int} (h : p < L ∧ (T p = 102 ∨ T p = 98 ∨ T p = 116)) : lk T L s p = if s.1 < 10 then some ((s.1 + 1, s.2.1, s.2.2.1, s.2.2.2.1, kup s.2.2.2.2 s.1 (kcd (T p))), p + 1) else none := by unfold lk; rw [if_pos h]
theorem lk_w {T : Int → Int} {L : Int} {s : KS} {p : Int} (h : p < L ∧ T p = 119) : lk T L s p = lkW T L s p := by unfold lk; rw [if_neg (by omega), if_pos h]
theorem lk_o {T : Int → Int} {L : Int} {s : KS} {p : Int} (h : p < L ∧ T p = 112) : lk T L s p = lkO T L s p (nv T L 3 0 (p + 1)).2 := by unfold lk; rw [if_neg (by omega), if_neg (by omega), if_pos h]
theorem lk_h {T : Int → Int} {L : Int} {s : KS} {p : Int} (h : p < L ∧ T p = 104) : lk T L s p = lkH T L s p (nv T L 2 0 (p + 1)) := by unfold lk; rw [if_neg (by omega), if_neg (by omega), if_neg (by omega), if_pos h]
theorem lk_n {T : Int → Int} {L : Int} {s : KS} {p : Int} (h : ¬ (p < L ∧ (T p = 102 ∨ T p = 98 ∨ T p = 116 ∨ T p = 119 ∨ T p = 112 ∨ T p = 104))) : lk T L s p = none := by unfold lk; rw [if_neg (by omega), if_neg (by omega), if_neg (by omega), if_neg (by omega)]
/-- lines, till no sign that parts them comes -/
def lks (T : Int → Int) (L : Int) : Nat → KS → Int → Option (KS × Int)
  | 0, _, _ => none
  | n + 1, s, p => match lk T L s p with
    | none => none
    | some (s', p') => if p' < L ∧ T p' = 59 then lks T L n s' (p' + 1) else some (s', p')
theorem lks_s (T : Int → Int) (L : Int) (n : Nat) (s : KS) (p : Int) : lks T L (n + 1) s p = match lk T L s p with
    | none => none
    | some (s', p') => if p' < L ∧ T p' = 59 then lks T L n s' (p' + 1) else some (s', p') := rfl
theorem lks_n {T : Int → Int} {L : Int} (n : Nat) {s : KS} {p : Int} (h : lk T L s p = none) : lks T L (n + 1) s p = none := by rw [lks_s, h]
theorem lks_y {T : Int → Int} {L : Int} (n : Nat) {s s' : KS} {p p' : Int} (h : lk T L s p = some (s', p')) (h2 : p' < L ∧ T p' = 59) : lks T L (n + 1) s p = lks T L n s' (p' + 1) := by rw [lks_s, h]; exact if_pos h2
theorem lks_x {T : Int → Int} {L : Int} (n : Nat) {s s' : KS} {p p' : Int} (h : lk T L s p = some (s', p')) (h2 : ¬ (p' < L ∧ T p' = 59)) : lks T L (n + 1) s p = some (s', p') := by rw [lks_s, h]; exact if_neg h2
def kit (T : Int → Int) (tc : Int) (s : KS) : Option KS := match lks T (min tc 76) 81 s 0 with
  | none => none
  | some (s', p) => if p = min tc 76 ∧ tc ≤ 76 then some s' else none
theorem kit_n {T : Int → Int} {tc : Int} {s : KS} (h : lks T (min tc 76) 81 s 0 = none) : kit T tc s = none := by unfold kit; rw [h]
theorem kit_y {T : Int → Int} {tc : Int} {s s' : KS} {p : Int} (h : lks T (min tc 76) 81 s 0 = some (s', p)) (h2 : p = min tc 76 ∧ tc ≤ 76) : kit T tc s = some s' := by unfold kit; rw [h]; exact if_pos h2
theorem kit_x {T : Int → Int} {tc : Int} {s s' : KS} {p : Int} (h : lks T (min tc 76) 81 s 0 = some (s', p)) (h2 : ¬ (p = min tc 76 ∧ tc ≤ 76)) : kit T tc s = none := by unfold kit; rw [h]; exact if_neg h2
/-- two tellings of a kitchen are alike -/
def KE (s s' : KS) : Prop := s'.1 = s.1 ∧ s'.2.1 = s.2.1 ∧ s'.2.2.1 = s.2.2.1 ∧ s'.2.2.2.1 = s.2.2.2.1 ∧ ∀ j, 0 ≤ j → j < s.1 → s'.2.2.2.2 j = s.2.2.2.2 j
def OE : Option (KS × Int) → Option (KS × Int) → Prop
  | some (s, p), some (s', p') => KE s s' ∧ p' = p
  | none, none => True
  | _, _ => False
theorem OE_if {c c' : Prop} [Decidable c] [Decidable c'] {s s' : KS} {p p' : Int} (h : c ↔ c') (hy : c → KE s s' ∧ p' = p) : OE (if c then some (s, p) else none) (if c' then some (s', p') else none) := by
  by_cases q : c
  · rw [if_pos q, if_pos (h.1 q)]; exact hy q
  · rw [if_neg q, if_neg (fun z => q (h.2 z))]; trivial
theorem nv_e {T T' : Int → Int} {L : Int} (hT : ∀ j, 0 ≤ j → j < L → T' j = T j) : ∀ (n : Nat) (v p : Int), 0 ≤ p → nv T' L n v p = nv T L n v p
  | 0, _, _, _ => rfl
  | n + 1, v, p, h => by
    by_cases q : p < L
    · have e := hT p h q
      by_cases z : dgt T L p
      · rw [nv_y n z, nv_y (T := T') n (by unfold dgt at z ⊢; rw [e]; exact z), e]
        exact nv_e hT n _ _ (by omega)
      · rw [nv_n (T := T) _ z, nv_n (T := T') _ (by unfold dgt at z ⊢; rw [e]; exact z)]
    · rw [nv_n (T := T') _ (fun z => q z.1), nv_n (T := T) _ (fun z => q z.1)]
theorem lkW_e {T T' : Int → Int} {L p : Int} {s s' : KS} (hT : ∀ j, 0 ≤ j → j < L → T' j = T j) (hs : KE s s') (h0 : 0 ≤ p) : OE (lkW T L s p) (lkW T' L s' p) := by
  obtain ⟨e1, e2, e3, e4, e5⟩ := hs
  have a1 := hT (p + 1) (by omega); have a2 := hT (p + 1 + 1) (by omega); have a3 := hT (p + 1 + 1 + 1) (by omega); have a4 := hT (p + 1 + 1 + 1 + 1) (by omega)
  unfold lkW let1
  rw [e1, e2]
  refine OE_if ?_ (fun q => ⟨⟨rfl, rfl, e3, e4, e5⟩, ?_⟩)
  · by_cases q : p + 1 + 1 + 1 < L
    · rw [a1 (by omega), a2 (by omega), a3 q]
    · constructor <;> (rintro ⟨_, _, _, _, z, _⟩; exact absurd z q)
  · by_cases z : p + 1 + 1 + 1 + 1 < L
    · rw [a4 z]
    · rw [if_neg (fun w => z w.1), if_neg (fun w => z w.1)]
theorem lkO_e {T T' : Int → Int} {L p q : Int} {s s' : KS} (hT : ∀ j, 0 ≤ j → j < L → T' j = T j) (hs : KE s s') (h0 : 0 ≤ p) (hq : p ≤ q) : OE (lkO T L s p q) (lkO T' L s' p q) := by
  obtain ⟨e1, e2, e3, e4, e5⟩ := hs
  have a1 := hT (p + 1) (by omega); have a2 := hT q (by omega); have a3 := hT (q + 1) (by omega); have a4 := hT (q + 1 + 1) (by omega); have a5 := hT (q + 1 + 1 + 1) (by omega)
  unfold lkO let1 dgt
  rw [e1, e3]
  refine OE_if ?_ (fun q => ⟨⟨rfl, e2, rfl, e4, e5⟩, rfl⟩)
  by_cases z : p + 1 < L ∧ q + 1 + 1 + 1 < L
  · rw [a1 z.1, a2 (by omega), a3 (by omega), a4 (by omega), a5 z.2]
    constructor
    · rintro ⟨b1, b2, b3, b4, b5, b6, b7, ⟨b8, b9, b10⟩, b11⟩
      exact ⟨b1, b2, b3, b4, b5, b6, b7, ⟨b8, b9, b10⟩, by rw [e5 _ (by omega) (by omega)]; exact b11⟩
    · rintro ⟨b1, b2, b3, b4, b5, b6, b7, ⟨b8, b9, b10⟩, b11⟩
      exact ⟨b1, b2, b3, b4, b5, b6, b7, ⟨b8, b9, b10⟩, by rw [e5 _ (by omega) (by omega)] at b11; exact b11⟩
  · constructor <;> (rintro ⟨_, ⟨w1, _⟩, _, _, _, _, _, ⟨w2, _⟩, _⟩; exact absurd ⟨w1, w2⟩ z)
theorem lkH_e {T T' : Int → Int} {L p : Int} {q : Int × Int} {s s' : KS} (hT : ∀ j, 0 ≤ j → j < L → T' j = T j) (hs : KE s s') (h0 : 0 ≤ p) (hq : p ≤ q.2) : OE (lkH T L s p q) (lkH T' L s' p q) := by
  obtain ⟨e1, e2, e3, e4, e5⟩ := hs
  have a1 := hT (p + 1) (by omega); have a2 := hT q.2 (by omega); have a3 := hT (q.2 + 1) (by omega)
  unfold lkH let1 dgt
  rw [e1, e4]
  refine OE_if ?_ (fun q => ⟨⟨rfl, e2, e3, rfl, e5⟩, rfl⟩)
  by_cases z : p + 1 < L ∧ q.2 + 1 < L
  · rw [a1 z.1, a2 (by omega), a3 z.2]
  · constructor <;> (rintro ⟨_, ⟨w1, _⟩, _, _, _, w2, _⟩; exact absurd ⟨w1, w2⟩ z)
theorem lk_e {T T' : Int → Int} {L p : Int} {s s' : KS} (hT : ∀ j, 0 ≤ j → j < L → T' j = T j) (hs : KE s s') (h0 : 0 ≤ p) : OE (lk T L s p) (lk T' L s' p) := by
  by_cases hp : p < L
  · have e := hT p h0 hp
    by_cases c1 : T p = 102 ∨ T p = 98 ∨ T p = 116
    · rw [lk_p ⟨hp, c1⟩, lk_p (T := T') ⟨hp, by rw [e]; exact c1⟩, e, hs.1]
      refine OE_if Iff.rfl (fun q => ⟨⟨rfl, hs.2.1, hs.2.2.1, hs.2.2.2.1, fun j h1 h2 => ?_⟩, rfl⟩)
      show kup s'.2.2.2.2 s.1 _ j = kup s.2.2.2.2 s.1 _ j
      unfold kup
      by_cases z : j = s.1
      · rw [if_pos z, if_pos z]
      · rw [if_neg z, if_neg z]
        have h2 : j < s.1 + 1 := h2
        exact hs.2.2.2.2 j h1 (by omega)
    by_cases c2 : T p = 119
    · rw [lk_w ⟨hp, c2⟩, lk_w (T := T') ⟨hp, by rw [e]; exact c2⟩]; exact lkW_e hT hs h0
    by_cases c3 : T p = 112
    · rw [lk_o ⟨hp, c3⟩, lk_o (T := T') ⟨hp, by rw [e]; exact c3⟩, nv_e hT _ _ _ (by omega)]
      exact lkO_e hT hs h0 (by have := (nv_r (T := T) (L := L) 3 0 (p + 1) (by decide)).1; omega)
    by_cases c4 : T p = 104
    · rw [lk_h ⟨hp, c4⟩, lk_h (T := T') ⟨hp, by rw [e]; exact c4⟩, nv_e hT _ _ _ (by omega)]
      exact lkH_e hT hs h0 (by have := (nv_r (T := T) (L := L) 2 0 (p + 1) (by decide)).1; omega)
    rw [lk_n (fun z => by omega), lk_n (T := T') (fun z => by rw [e] at z; omega)]; trivial
  · rw [lk_n (fun z => hp z.1), lk_n (T := T') (fun z => hp z.1)]; trivial
theorem lk_r {T : Int → Int} {L p p' : Int} {s s' : KS} (h : lk T L s p = some (s', p')) : p < p' := by
  have a3 := (nv_r (T := T) (L := L) 3 0 (p + 1) (by decide)).1
  have a2 := (nv_r (T := T) (L := L) 2 0 (p + 1) (by decide)).1
  unfold lk lkW lkO lkH at h
  repeat' split at h
  all_goals (first | (injection h; done) | (injection h with h; injection h with h1 h2; first | omega | (split at h2 <;> omega)))
theorem lks_e {T T' : Int → Int} {L : Int} (hT : ∀ j, 0 ≤ j → j < L → T' j = T j) : ∀ (n : Nat) (s s' : KS) (p : Int), KE s s' → 0 ≤ p → OE (lks T L n s p) (lks T' L n s' p)
  | 0, _, _, _, _, _ => trivial
  | n + 1, s, s', p, hs, h0 => by
    have h := lk_e (p := p) hT hs h0
    have hr := @lk_r T L p
    generalize hA : lk T L s p = A at h
    generalize hB : lk T' L s' p = B at h
    match A, B, h with
    | none, none, _ => rw [lks_n n hA, lks_n n hB]; trivial
    | some (s1, p1), some (s2, p2), ⟨h1, h2⟩ =>
      subst h2
      have hp := hr hA
      by_cases z : p2 < L ∧ T p2 = 59
      · rw [lks_y n hA z, lks_y n hB ⟨z.1, by rw [hT p2 (by omega) z.1]; exact z.2⟩]
        exact lks_e hT n _ _ _ h1 (by omega)
      · rw [lks_x n hA z, lks_x n hB (fun w => z ⟨w.1, by rw [← hT p2 (by omega) w.1]; exact w.2⟩)]
        exact ⟨h1, rfl⟩
theorem kit_e {T T' : Int → Int} {tc : Int} {s s' : KS} (hT : ∀ j, 0 ≤ j → j < tc → T' j = T j) (hs : KE s s') : (kit T tc s = none ∧ kit T' tc s' = none) ∨ ∃ r r', kit T tc s = some r ∧ kit T' tc s' = some r' ∧ KE r r' := by
  have h := lks_e (L := min tc 76) (fun j h0 h1 => hT j h0 (by omega)) 81 s s' 0 hs (by decide)
  generalize hA : lks T (min tc 76) 81 s 0 = A at h
  generalize hB : lks T' (min tc 76) 81 s' 0 = B at h
  match A, B, h with
  | none, none, _ => exact Or.inl ⟨kit_n hA, kit_n hB⟩
  | some (s1, p1), some (s2, p2), ⟨h1, h2⟩ =>
    subst h2
    by_cases z : p2 = min tc 76 ∧ tc ≤ 76
    · exact Or.inr ⟨_, _, kit_y hA z, kit_y hB z, h1⟩
    · exact Or.inl ⟨kit_x hA z, kit_x hB z⟩
theorem KE_tr {a b c : KS} (h : KE a b) (h2 : KE b c) : KE a c := ⟨h2.1.trans h.1, h2.2.1.trans h.2.1, h2.2.2.1.trans h.2.2.1, h2.2.2.2.1.trans h.2.2.2.1, fun j h0 h1 => (h2.2.2.2.2 j h0 (by rw [h.1]; exact h1)).trans (h.2.2.2.2 j h0 h1)⟩
theorem KE_rf (a : KS) : KE a a := ⟨rfl, rfl, rfl, rfl, fun _ _ _ => rfl⟩
theorem fbt_i {v c : Int} (h0 : 0 ≤ v) (h1 : v < 3) (h : chS (-1 - ((1 : Nat) : Int)) v = c) : kcd c = v := by
  have : v = 0 ∨ v = 1 ∨ v = 2 := by omega
  rcases this with rfl | rfl | rfl <;> (rw [← h]; decide)
theorem fbt_n {c : Int} (hc : c = 102 ∨ c = 98 ∨ c = 116) (h : ∀ j, 0 ≤ j → j < 3 → chS (-1 - ((1 : Nat) : Int)) j ≠ c) : False := by
  rcases hc with rfl | rfl | rfl
  · exact h 0 (by decide) (by decide) (by decide)
  · exact h 1 (by decide) (by decide) (by decide)
  · exact h 2 (by decide) (by decide) (by decide)
theorem dig_i {v c : Int} (h0 : 0 ≤ v) (h1 : v < 9) (h : chS (-1 - ((2 : Nat) : Int)) v = c) : c = 49 + v := by
  have : v = 0 ∨ v = 1 ∨ v = 2 ∨ v = 3 ∨ v = 4 ∨ v = 5 ∨ v = 6 ∨ v = 7 ∨ v = 8 := by omega
  rcases this with rfl | rfl | rfl | rfl | rfl | rfl | rfl | rfl | rfl <;> (rw [← h]; decide)
theorem dig_n {c : Int} (h : ∀ j, 0 ≤ j → j < 9 → chS (-1 - ((2 : Nat) : Int)) j ≠ c) : ¬ (49 ≤ c ∧ c ≤ 57) := by
  rintro ⟨h0, h1⟩
  refine h (c - 49) (by omega) (by omega) ?_
  have : c = 49 ∨ c = 50 ∨ c = 51 ∨ c = 52 ∨ c = 53 ∨ c = 54 ∨ c = 55 ∨ c = 56 ∨ c = 57 := by omega
  rcases this with rfl | rfl | rfl | rfl | rfl | rfl | rfl | rfl | rfl <;> decide
